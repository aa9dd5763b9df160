/-! 178 GuestCallsModel.made(IJ)V -/
def tb178 : List (Nat × Instr × Nat) := [(0, .aload_n 0, 1), (1, .iload_n 1, 1), (2, .putfield 309, 3), (5, .aload_n 0, 1), (6, .lload_n 2, 1), (7, .putfield 312, 3), (10, .aload_n 0, 1), (11, .iconst 0, 1), (12, .putfield 316, 3), (15, .iload_n 1, 1), (16, .ifCond .ne 18, 3), (19, .aload_n 0, 1), (20, .lload_n 2, 1), (21, .lconst 0, 1), (22, .lcmp, 1), (23, .ifCond .eq 7, 3), (26, .lconst 1, 1), (27, .goto 4, 3), (30, .lconst 0, 1), (31, .putfield 312, 3), (34, .iload_n 1, 1), (35, .iconst 1, 1), (36, .if_icmp .ne 11, 3), (39, .aload_n 0, 1), (40, .lload_n 2, 1), (41, .l2i, 1), (42, .i2b, 1), (43, .i2l, 1), (44, .putfield 312, 3), (47, .iload_n 1, 1), (48, .iconst 2, 1), (49, .if_icmp .ne 12, 3), (52, .aload_n 0, 1), (53, .lload_n 2, 1), (54, .ldc2_w 319, 3), (57, .land, 1), (58, .putfield 312, 3), (61, .iload_n 1, 1), (62, .iconst 3, 1), (63, .if_icmp .ne 11, 3), (66, .aload_n 0, 1), (67, .lload_n 2, 1), (68, .l2i, 1), (69, .i2s, 1), (70, .i2l, 1), (71, .putfield 312, 3), (74, .iload_n 1, 1), (75, .iconst 4, 1), (76, .if_icmp .ne 10, 3), (79, .aload_n 0, 1), (80, .lload_n 2, 1), (81, .l2i, 1), (82, .i2l, 1), (83, .putfield 312, 3), (86, .iload_n 1, 1), (87, .bipush 6, 2), (89, .if_icmp .ne 10, 3), (92, .aload_n 0, 1), (93, .lload_n 2, 1), (94, .l2f, 1), (95, .f2d, 1), (96, .putfield 321, 3), (99, .iload_n 1, 1), (100, .bipush 7, 2), (102, .if_icmp .ne 9, 3), (105, .aload_n 0, 1), (106, .lload_n 2, 1), (107, .l2d, 1), (108, .putfield 321, 3), (111, .return_, 1)]
theorem tk178 : tb178.all (fun q => decide (fetch 178 q.1 = some q.2)) = true := by decide +kernel
theorem f178_0 : fetch 178 0 = some (.aload_n 0, 1) := vtab tk178 0 rfl
theorem e178_0 (L : VL) (st : List Value) (h : VG) (x : Nat) : ev 178 0 (some (.ref x) :: L) (st) h = ev 178 1 (some (.ref x) :: L) (.ref x :: st) h := G_aload_n f178_0 rfl
theorem f178_1 : fetch 178 1 = some (.iload_n 1, 1) := vtab tk178 1 rfl
theorem e178_1 (l0 : Option Value) (L : VL) (st : List Value) (h : VG) (x : Int32) : ev 178 1 (l0 :: some (.int x) :: L) (st) h = ev 178 2 (l0 :: some (.int x) :: L) (.int x :: st) h := G_iload_n f178_1 rfl
theorem f178_2 : fetch 178 2 = some (.putfield 309, 3) := vtab tk178 2 rfl
theorem e178_2 (L : VL) (st : List Value) (h : VG) (a : Nat) (x : Int32) (ho : ob h a 11) : ev 178 2 L (.int x :: .ref a :: st) h = ev 178 5 L (st) (pI h a 38 x) := G_putI (p := 1051) f178_2 lkF_12_309 (by decide) (by decide) (by decide +kernel) ⟨rfl, rfl⟩ ho
theorem f178_5 : fetch 178 5 = some (.aload_n 0, 1) := vtab tk178 3 rfl
theorem e178_5 (L : VL) (st : List Value) (h : VG) (x : Nat) : ev 178 5 (some (.ref x) :: L) (st) h = ev 178 6 (some (.ref x) :: L) (.ref x :: st) h := G_aload_n f178_5 rfl
theorem f178_6 : fetch 178 6 = some (.lload_n 2, 1) := vtab tk178 4 rfl
theorem e178_6 (l0 l1 : Option Value) (L : VL) (st : List Value) (h : VG) (x : Int64) : ev 178 6 (l0 :: l1 :: some (.long x) :: L) (st) h = ev 178 7 (l0 :: l1 :: some (.long x) :: L) (.long x :: st) h := G_lload_n f178_6 rfl
theorem f178_7 : fetch 178 7 = some (.putfield 312, 3) := vtab tk178 5 rfl
theorem e178_7 (L : VL) (st : List Value) (h : VG) (a : Nat) (x : Int64) (ho : ob h a 11) : ev 178 7 L (.long x :: .ref a :: st) h = ev 178 10 L (st) (pL h a 39 x) := G_putL (p := 1052) f178_7 lkF_12_312 (by decide) (by decide) (by decide +kernel) ⟨rfl, rfl⟩ ho
theorem f178_10 : fetch 178 10 = some (.aload_n 0, 1) := vtab tk178 6 rfl
theorem e178_10 (L : VL) (st : List Value) (h : VG) (x : Nat) : ev 178 10 (some (.ref x) :: L) (st) h = ev 178 11 (some (.ref x) :: L) (.ref x :: st) h := G_aload_n f178_10 rfl
theorem f178_11 : fetch 178 11 = some (.iconst 0, 1) := vtab tk178 7 rfl
theorem e178_11 (L : VL) (st : List Value) (h : VG) : ev 178 11 L (st) h = ev 178 12 L (.int (0 : Int32) :: st) h := G_iconst f178_11 (by decide)
theorem f178_12 : fetch 178 12 = some (.putfield 316, 3) := vtab tk178 8 rfl
theorem e178_12 (L : VL) (st : List Value) (h : VG) (a : Nat) (x : Int32) (ho : ob h a 11) (hz : x = 0 ∨ x = 1) : ev 178 12 L (.int x :: .ref a :: st) h = ev 178 15 L (st) (pI h a 41 x) := G_putI (ci := 11) (p := 1054) f178_12 lkF_12_316 (by decide) (by decide) (by decide +kernel) (vbool hz) ho
theorem f178_15 : fetch 178 15 = some (.iload_n 1, 1) := vtab tk178 9 rfl
theorem e178_15 (l0 : Option Value) (L : VL) (st : List Value) (h : VG) (x : Int32) : ev 178 15 (l0 :: some (.int x) :: L) (st) h = ev 178 16 (l0 :: some (.int x) :: L) (.int x :: st) h := G_iload_n f178_15 rfl
theorem f178_16 : fetch 178 16 = some (.ifCond .ne 18, 3) := vtab tk178 10 rfl
theorem e178_16 (L : VL) (st : List Value) (h : VG) (x : Int32) : ev 178 16 L (.int x :: st) h = if x = 0 then ev 178 19 L st h else ev 178 34 L st h := G_if_ne f178_16 (by decide)
theorem f178_19 : fetch 178 19 = some (.aload_n 0, 1) := vtab tk178 11 rfl
theorem e178_19 (L : VL) (st : List Value) (h : VG) (x : Nat) : ev 178 19 (some (.ref x) :: L) (st) h = ev 178 20 (some (.ref x) :: L) (.ref x :: st) h := G_aload_n f178_19 rfl
theorem f178_20 : fetch 178 20 = some (.lload_n 2, 1) := vtab tk178 12 rfl
theorem e178_20 (l0 l1 : Option Value) (L : VL) (st : List Value) (h : VG) (x : Int64) : ev 178 20 (l0 :: l1 :: some (.long x) :: L) (st) h = ev 178 21 (l0 :: l1 :: some (.long x) :: L) (.long x :: st) h := G_lload_n f178_20 rfl
theorem f178_21 : fetch 178 21 = some (.lconst 0, 1) := vtab tk178 13 rfl
theorem e178_21 (L : VL) (st : List Value) (h : VG) : ev 178 21 L (st) h = ev 178 22 L (.long 0 :: st) h := G_lconst f178_21 (by decide)
theorem f178_22 : fetch 178 22 = some (.lcmp, 1) := vtab tk178 14 rfl
theorem e178_22 (L : VL) (st : List Value) (h : VG) (x y : Int64) : ev 178 22 L (.long y :: .long x :: st) h = ev 178 23 L (.int (lg_cmp x y) :: st) h := G_lcmp f178_22
theorem f178_23 : fetch 178 23 = some (.ifCond .eq 7, 3) := vtab tk178 15 rfl
theorem e178_23 (L : VL) (st : List Value) (h : VG) (x : Int32) : ev 178 23 L (.int x :: st) h = if x = 0 then ev 178 30 L st h else ev 178 26 L st h := G_if_eq f178_23 (by decide)
theorem f178_26 : fetch 178 26 = some (.lconst 1, 1) := vtab tk178 16 rfl
theorem e178_26 (L : VL) (st : List Value) (h : VG) : ev 178 26 L (st) h = ev 178 27 L (.long 1 :: st) h := G_lconst f178_26 (by decide)
theorem f178_27 : fetch 178 27 = some (.goto 4, 3) := vtab tk178 17 rfl
theorem e178_27 (L : VL) (st : List Value) (h : VG) : ev 178 27 L (st) h = ev 178 31 L (st) h := G_goto f178_27 (by decide)
theorem f178_30 : fetch 178 30 = some (.lconst 0, 1) := vtab tk178 18 rfl
theorem e178_30 (L : VL) (st : List Value) (h : VG) : ev 178 30 L (st) h = ev 178 31 L (.long 0 :: st) h := G_lconst f178_30 (by decide)
theorem f178_31 : fetch 178 31 = some (.putfield 312, 3) := vtab tk178 19 rfl
theorem e178_31 (L : VL) (st : List Value) (h : VG) (a : Nat) (x : Int64) (ho : ob h a 11) : ev 178 31 L (.long x :: .ref a :: st) h = ev 178 34 L (st) (pL h a 39 x) := G_putL (p := 1052) f178_31 lkF_12_312 (by decide) (by decide) (by decide +kernel) ⟨rfl, rfl⟩ ho
theorem f178_34 : fetch 178 34 = some (.iload_n 1, 1) := vtab tk178 20 rfl
theorem e178_34 (l0 : Option Value) (L : VL) (st : List Value) (h : VG) (x : Int32) : ev 178 34 (l0 :: some (.int x) :: L) (st) h = ev 178 35 (l0 :: some (.int x) :: L) (.int x :: st) h := G_iload_n f178_34 rfl
theorem f178_35 : fetch 178 35 = some (.iconst 1, 1) := vtab tk178 21 rfl
theorem e178_35 (L : VL) (st : List Value) (h : VG) : ev 178 35 L (st) h = ev 178 36 L (.int (1 : Int32) :: st) h := G_iconst f178_35 (by decide)
theorem f178_36 : fetch 178 36 = some (.if_icmp .ne 11, 3) := vtab tk178 22 rfl
theorem e178_36 (L : VL) (st : List Value) (h : VG) (x y : Int32) : ev 178 36 L (.int y :: .int x :: st) h = if x = y then ev 178 39 L st h else ev 178 47 L st h := G_icmp_ne f178_36 (by decide)
theorem f178_39 : fetch 178 39 = some (.aload_n 0, 1) := vtab tk178 23 rfl
theorem e178_39 (L : VL) (st : List Value) (h : VG) (x : Nat) : ev 178 39 (some (.ref x) :: L) (st) h = ev 178 40 (some (.ref x) :: L) (.ref x :: st) h := G_aload_n f178_39 rfl
theorem f178_40 : fetch 178 40 = some (.lload_n 2, 1) := vtab tk178 24 rfl
theorem e178_40 (l0 l1 : Option Value) (L : VL) (st : List Value) (h : VG) (x : Int64) : ev 178 40 (l0 :: l1 :: some (.long x) :: L) (st) h = ev 178 41 (l0 :: l1 :: some (.long x) :: L) (.long x :: st) h := G_lload_n f178_40 rfl
theorem f178_41 : fetch 178 41 = some (.l2i, 1) := vtab tk178 25 rfl
theorem e178_41 (L : VL) (st : List Value) (h : VG) (x : Int64) : ev 178 41 L (.long x :: st) h = ev 178 42 L (.int x.toInt32 :: st) h := G_l2i f178_41
theorem f178_42 : fetch 178 42 = some (.i2b, 1) := vtab tk178 26 rfl
theorem e178_42 (L : VL) (st : List Value) (h : VG) (x : Int32) : ev 178 42 L (.int x :: st) h = ev 178 43 L (.int x.toInt8.toInt32 :: st) h := G_i2b f178_42
theorem f178_43 : fetch 178 43 = some (.i2l, 1) := vtab tk178 27 rfl
theorem e178_43 (L : VL) (st : List Value) (h : VG) (x : Int32) : ev 178 43 L (.int x :: st) h = ev 178 44 L (.long x.toInt64 :: st) h := G_i2l f178_43
theorem f178_44 : fetch 178 44 = some (.putfield 312, 3) := vtab tk178 28 rfl
theorem e178_44 (L : VL) (st : List Value) (h : VG) (a : Nat) (x : Int64) (ho : ob h a 11) : ev 178 44 L (.long x :: .ref a :: st) h = ev 178 47 L (st) (pL h a 39 x) := G_putL (p := 1052) f178_44 lkF_12_312 (by decide) (by decide) (by decide +kernel) ⟨rfl, rfl⟩ ho
theorem f178_47 : fetch 178 47 = some (.iload_n 1, 1) := vtab tk178 29 rfl
theorem e178_47 (l0 : Option Value) (L : VL) (st : List Value) (h : VG) (x : Int32) : ev 178 47 (l0 :: some (.int x) :: L) (st) h = ev 178 48 (l0 :: some (.int x) :: L) (.int x :: st) h := G_iload_n f178_47 rfl
theorem f178_48 : fetch 178 48 = some (.iconst 2, 1) := vtab tk178 30 rfl
theorem e178_48 (L : VL) (st : List Value) (h : VG) : ev 178 48 L (st) h = ev 178 49 L (.int (2 : Int32) :: st) h := G_iconst f178_48 (by decide)
theorem f178_49 : fetch 178 49 = some (.if_icmp .ne 12, 3) := vtab tk178 31 rfl
theorem e178_49 (L : VL) (st : List Value) (h : VG) (x y : Int32) : ev 178 49 L (.int y :: .int x :: st) h = if x = y then ev 178 52 L st h else ev 178 61 L st h := G_icmp_ne f178_49 (by decide)
theorem f178_52 : fetch 178 52 = some (.aload_n 0, 1) := vtab tk178 32 rfl
theorem e178_52 (L : VL) (st : List Value) (h : VG) (x : Nat) : ev 178 52 (some (.ref x) :: L) (st) h = ev 178 53 (some (.ref x) :: L) (.ref x :: st) h := G_aload_n f178_52 rfl
theorem f178_53 : fetch 178 53 = some (.lload_n 2, 1) := vtab tk178 33 rfl
theorem e178_53 (l0 l1 : Option Value) (L : VL) (st : List Value) (h : VG) (x : Int64) : ev 178 53 (l0 :: l1 :: some (.long x) :: L) (st) h = ev 178 54 (l0 :: l1 :: some (.long x) :: L) (.long x :: st) h := G_lload_n f178_53 rfl
theorem f178_54 : fetch 178 54 = some (.ldc2_w 319, 3) := vtab tk178 34 rfl
theorem e178_54 (L : VL) (st : List Value) (h : VG) : ev 178 54 L (st) h = ev 178 57 L (.long 65535 :: st) h := G_ldc2l (p := 1412) f178_54 lkK_12_319
theorem f178_57 : fetch 178 57 = some (.land, 1) := vtab tk178 35 rfl
theorem e178_57 (L : VL) (st : List Value) (h : VG) (x y : Int64) : ev 178 57 L (.long y :: .long x :: st) h = ev 178 58 L (.long (x &&& y) :: st) h := G_land f178_57
theorem f178_58 : fetch 178 58 = some (.putfield 312, 3) := vtab tk178 36 rfl
theorem e178_58 (L : VL) (st : List Value) (h : VG) (a : Nat) (x : Int64) (ho : ob h a 11) : ev 178 58 L (.long x :: .ref a :: st) h = ev 178 61 L (st) (pL h a 39 x) := G_putL (p := 1052) f178_58 lkF_12_312 (by decide) (by decide) (by decide +kernel) ⟨rfl, rfl⟩ ho
theorem f178_61 : fetch 178 61 = some (.iload_n 1, 1) := vtab tk178 37 rfl
theorem e178_61 (l0 : Option Value) (L : VL) (st : List Value) (h : VG) (x : Int32) : ev 178 61 (l0 :: some (.int x) :: L) (st) h = ev 178 62 (l0 :: some (.int x) :: L) (.int x :: st) h := G_iload_n f178_61 rfl
theorem f178_62 : fetch 178 62 = some (.iconst 3, 1) := vtab tk178 38 rfl
theorem e178_62 (L : VL) (st : List Value) (h : VG) : ev 178 62 L (st) h = ev 178 63 L (.int (3 : Int32) :: st) h := G_iconst f178_62 (by decide)
theorem f178_63 : fetch 178 63 = some (.if_icmp .ne 11, 3) := vtab tk178 39 rfl
theorem e178_63 (L : VL) (st : List Value) (h : VG) (x y : Int32) : ev 178 63 L (.int y :: .int x :: st) h = if x = y then ev 178 66 L st h else ev 178 74 L st h := G_icmp_ne f178_63 (by decide)
theorem f178_66 : fetch 178 66 = some (.aload_n 0, 1) := vtab tk178 40 rfl
theorem e178_66 (L : VL) (st : List Value) (h : VG) (x : Nat) : ev 178 66 (some (.ref x) :: L) (st) h = ev 178 67 (some (.ref x) :: L) (.ref x :: st) h := G_aload_n f178_66 rfl
theorem f178_67 : fetch 178 67 = some (.lload_n 2, 1) := vtab tk178 41 rfl
theorem e178_67 (l0 l1 : Option Value) (L : VL) (st : List Value) (h : VG) (x : Int64) : ev 178 67 (l0 :: l1 :: some (.long x) :: L) (st) h = ev 178 68 (l0 :: l1 :: some (.long x) :: L) (.long x :: st) h := G_lload_n f178_67 rfl
theorem f178_68 : fetch 178 68 = some (.l2i, 1) := vtab tk178 42 rfl
theorem e178_68 (L : VL) (st : List Value) (h : VG) (x : Int64) : ev 178 68 L (.long x :: st) h = ev 178 69 L (.int x.toInt32 :: st) h := G_l2i f178_68
theorem f178_69 : fetch 178 69 = some (.i2s, 1) := vtab tk178 43 rfl
theorem e178_69 (L : VL) (st : List Value) (h : VG) (x : Int32) : ev 178 69 L (.int x :: st) h = ev 178 70 L (.int x.toInt16.toInt32 :: st) h := G_i2s f178_69
theorem f178_70 : fetch 178 70 = some (.i2l, 1) := vtab tk178 44 rfl
theorem e178_70 (L : VL) (st : List Value) (h : VG) (x : Int32) : ev 178 70 L (.int x :: st) h = ev 178 71 L (.long x.toInt64 :: st) h := G_i2l f178_70
theorem f178_71 : fetch 178 71 = some (.putfield 312, 3) := vtab tk178 45 rfl
theorem e178_71 (L : VL) (st : List Value) (h : VG) (a : Nat) (x : Int64) (ho : ob h a 11) : ev 178 71 L (.long x :: .ref a :: st) h = ev 178 74 L (st) (pL h a 39 x) := G_putL (p := 1052) f178_71 lkF_12_312 (by decide) (by decide) (by decide +kernel) ⟨rfl, rfl⟩ ho
theorem f178_74 : fetch 178 74 = some (.iload_n 1, 1) := vtab tk178 46 rfl
theorem e178_74 (l0 : Option Value) (L : VL) (st : List Value) (h : VG) (x : Int32) : ev 178 74 (l0 :: some (.int x) :: L) (st) h = ev 178 75 (l0 :: some (.int x) :: L) (.int x :: st) h := G_iload_n f178_74 rfl
theorem f178_75 : fetch 178 75 = some (.iconst 4, 1) := vtab tk178 47 rfl
theorem e178_75 (L : VL) (st : List Value) (h : VG) : ev 178 75 L (st) h = ev 178 76 L (.int (4 : Int32) :: st) h := G_iconst f178_75 (by decide)
theorem f178_76 : fetch 178 76 = some (.if_icmp .ne 10, 3) := vtab tk178 48 rfl
theorem e178_76 (L : VL) (st : List Value) (h : VG) (x y : Int32) : ev 178 76 L (.int y :: .int x :: st) h = if x = y then ev 178 79 L st h else ev 178 86 L st h := G_icmp_ne f178_76 (by decide)
theorem f178_79 : fetch 178 79 = some (.aload_n 0, 1) := vtab tk178 49 rfl
theorem e178_79 (L : VL) (st : List Value) (h : VG) (x : Nat) : ev 178 79 (some (.ref x) :: L) (st) h = ev 178 80 (some (.ref x) :: L) (.ref x :: st) h := G_aload_n f178_79 rfl
theorem f178_80 : fetch 178 80 = some (.lload_n 2, 1) := vtab tk178 50 rfl
theorem e178_80 (l0 l1 : Option Value) (L : VL) (st : List Value) (h : VG) (x : Int64) : ev 178 80 (l0 :: l1 :: some (.long x) :: L) (st) h = ev 178 81 (l0 :: l1 :: some (.long x) :: L) (.long x :: st) h := G_lload_n f178_80 rfl
theorem f178_81 : fetch 178 81 = some (.l2i, 1) := vtab tk178 51 rfl
theorem e178_81 (L : VL) (st : List Value) (h : VG) (x : Int64) : ev 178 81 L (.long x :: st) h = ev 178 82 L (.int x.toInt32 :: st) h := G_l2i f178_81
theorem f178_82 : fetch 178 82 = some (.i2l, 1) := vtab tk178 52 rfl
theorem e178_82 (L : VL) (st : List Value) (h : VG) (x : Int32) : ev 178 82 L (.int x :: st) h = ev 178 83 L (.long x.toInt64 :: st) h := G_i2l f178_82
theorem f178_83 : fetch 178 83 = some (.putfield 312, 3) := vtab tk178 53 rfl
theorem e178_83 (L : VL) (st : List Value) (h : VG) (a : Nat) (x : Int64) (ho : ob h a 11) : ev 178 83 L (.long x :: .ref a :: st) h = ev 178 86 L (st) (pL h a 39 x) := G_putL (p := 1052) f178_83 lkF_12_312 (by decide) (by decide) (by decide +kernel) ⟨rfl, rfl⟩ ho
theorem f178_86 : fetch 178 86 = some (.iload_n 1, 1) := vtab tk178 54 rfl
theorem e178_86 (l0 : Option Value) (L : VL) (st : List Value) (h : VG) (x : Int32) : ev 178 86 (l0 :: some (.int x) :: L) (st) h = ev 178 87 (l0 :: some (.int x) :: L) (.int x :: st) h := G_iload_n f178_86 rfl
theorem f178_87 : fetch 178 87 = some (.bipush 6, 2) := vtab tk178 55 rfl
theorem e178_87 (L : VL) (st : List Value) (h : VG) : ev 178 87 L (st) h = ev 178 89 L (.int (6 : Int32) :: st) h := G_bipush f178_87 (by decide)
theorem f178_89 : fetch 178 89 = some (.if_icmp .ne 10, 3) := vtab tk178 56 rfl
theorem e178_89 (L : VL) (st : List Value) (h : VG) (x y : Int32) : ev 178 89 L (.int y :: .int x :: st) h = if x = y then ev 178 92 L st h else ev 178 99 L st h := G_icmp_ne f178_89 (by decide)
theorem f178_92 : fetch 178 92 = some (.aload_n 0, 1) := vtab tk178 57 rfl
theorem e178_92 (L : VL) (st : List Value) (h : VG) (x : Nat) : ev 178 92 (some (.ref x) :: L) (st) h = ev 178 93 (some (.ref x) :: L) (.ref x :: st) h := G_aload_n f178_92 rfl
theorem f178_93 : fetch 178 93 = some (.lload_n 2, 1) := vtab tk178 58 rfl
theorem e178_93 (l0 l1 : Option Value) (L : VL) (st : List Value) (h : VG) (x : Int64) : ev 178 93 (l0 :: l1 :: some (.long x) :: L) (st) h = ev 178 94 (l0 :: l1 :: some (.long x) :: L) (.long x :: st) h := G_lload_n f178_93 rfl
theorem f178_94 : fetch 178 94 = some (.l2f, 1) := vtab tk178 59 rfl
theorem e178_94 (L : VL) (st : List Value) (h : VG) (x : Int64) : ev 178 94 L (.long x :: st) h = ev 178 95 L (.float (FP.l2f x) :: st) h := G_l2f f178_94
theorem f178_95 : fetch 178 95 = some (.f2d, 1) := vtab tk178 60 rfl
theorem e178_95 (L : VL) (st : List Value) (h : VG) (x : UInt32) (hn : vf_n64 (FP.f2d x)) : ev 178 95 L (.float x :: st) h = ev 178 96 L (.double (FP.f2d x) :: st) h := G_f2d f178_95 hn
theorem f178_96 : fetch 178 96 = some (.putfield 321, 3) := vtab tk178 61 rfl
theorem e178_96 (L : VL) (st : List Value) (h : VG) (a : Nat) (x : UInt64) (ho : ob h a 11) : ev 178 96 L (.double x :: .ref a :: st) h = ev 178 99 L (st) (pD h a 40 x) := G_putD (p := 1053) f178_96 lkF_12_321 (by decide) (by decide) (by decide +kernel) ⟨rfl, rfl⟩ ho
theorem f178_99 : fetch 178 99 = some (.iload_n 1, 1) := vtab tk178 62 rfl
theorem e178_99 (l0 : Option Value) (L : VL) (st : List Value) (h : VG) (x : Int32) : ev 178 99 (l0 :: some (.int x) :: L) (st) h = ev 178 100 (l0 :: some (.int x) :: L) (.int x :: st) h := G_iload_n f178_99 rfl
theorem f178_100 : fetch 178 100 = some (.bipush 7, 2) := vtab tk178 63 rfl
theorem e178_100 (L : VL) (st : List Value) (h : VG) : ev 178 100 L (st) h = ev 178 102 L (.int (7 : Int32) :: st) h := G_bipush f178_100 (by decide)
theorem f178_102 : fetch 178 102 = some (.if_icmp .ne 9, 3) := vtab tk178 64 rfl
theorem e178_102 (L : VL) (st : List Value) (h : VG) (x y : Int32) : ev 178 102 L (.int y :: .int x :: st) h = if x = y then ev 178 105 L st h else ev 178 111 L st h := G_icmp_ne f178_102 (by decide)
theorem f178_105 : fetch 178 105 = some (.aload_n 0, 1) := vtab tk178 65 rfl
theorem e178_105 (L : VL) (st : List Value) (h : VG) (x : Nat) : ev 178 105 (some (.ref x) :: L) (st) h = ev 178 106 (some (.ref x) :: L) (.ref x :: st) h := G_aload_n f178_105 rfl
theorem f178_106 : fetch 178 106 = some (.lload_n 2, 1) := vtab tk178 66 rfl
theorem e178_106 (l0 l1 : Option Value) (L : VL) (st : List Value) (h : VG) (x : Int64) : ev 178 106 (l0 :: l1 :: some (.long x) :: L) (st) h = ev 178 107 (l0 :: l1 :: some (.long x) :: L) (.long x :: st) h := G_lload_n f178_106 rfl
theorem f178_107 : fetch 178 107 = some (.l2d, 1) := vtab tk178 67 rfl
theorem e178_107 (L : VL) (st : List Value) (h : VG) (x : Int64) : ev 178 107 L (.long x :: st) h = ev 178 108 L (.double (FP.l2d x) :: st) h := G_l2d f178_107
theorem f178_108 : fetch 178 108 = some (.putfield 321, 3) := vtab tk178 68 rfl
theorem e178_108 (L : VL) (st : List Value) (h : VG) (a : Nat) (x : UInt64) (ho : ob h a 11) : ev 178 108 L (.double x :: .ref a :: st) h = ev 178 111 L (st) (pD h a 40 x) := G_putD (p := 1053) f178_108 lkF_12_321 (by decide) (by decide) (by decide +kernel) ⟨rfl, rfl⟩ ho
theorem f178_111 : fetch 178 111 = some (.return_, 1) := vtab tk178 69 rfl
theorem e178_111 (L : VL) (h : VG) : ev 178 111 L [] h = some (none, h) := G_vret f178_111 (by decide)
/-! 179 GuestCallsModel.becomes(I)V -/
def tb179 : List (Nat × Instr × Nat) := [(0, .iload_n 1, 1), (1, .bipush 6, 2), (3, .if_icmp .ne 22, 3), (6, .aload_n 0, 1), (7, .getfield 309, 3), (10, .bipush 6, 2), (12, .if_icmp .ge 13, 3), (15, .aload_n 0, 1), (16, .aload_n 0, 1), (17, .getfield 312, 3), (20, .l2f, 1), (21, .f2d, 1), (22, .putfield 321, 3), (25, .iload_n 1, 1), (26, .bipush 7, 2), (28, .if_icmp .ne 21, 3), (31, .aload_n 0, 1), (32, .getfield 309, 3), (35, .bipush 6, 2), (37, .if_icmp .ge 12, 3), (40, .aload_n 0, 1), (41, .aload_n 0, 1), (42, .getfield 312, 3), (45, .l2d, 1), (46, .putfield 321, 3), (49, .aload_n 0, 1), (50, .iload_n 1, 1), (51, .putfield 309, 3), (54, .return_, 1)]
theorem tk179 : tb179.all (fun q => decide (fetch 179 q.1 = some q.2)) = true := by decide +kernel
theorem f179_0 : fetch 179 0 = some (.iload_n 1, 1) := vtab tk179 0 rfl
theorem e179_0 (l0 : Option Value) (L : VL) (st : List Value) (h : VG) (x : Int32) : ev 179 0 (l0 :: some (.int x) :: L) (st) h = ev 179 1 (l0 :: some (.int x) :: L) (.int x :: st) h := G_iload_n f179_0 rfl
theorem f179_1 : fetch 179 1 = some (.bipush 6, 2) := vtab tk179 1 rfl
theorem e179_1 (L : VL) (st : List Value) (h : VG) : ev 179 1 L (st) h = ev 179 3 L (.int (6 : Int32) :: st) h := G_bipush f179_1 (by decide)
theorem f179_3 : fetch 179 3 = some (.if_icmp .ne 22, 3) := vtab tk179 2 rfl
theorem e179_3 (L : VL) (st : List Value) (h : VG) (x y : Int32) : ev 179 3 L (.int y :: .int x :: st) h = if x = y then ev 179 6 L st h else ev 179 25 L st h := G_icmp_ne f179_3 (by decide)
theorem f179_6 : fetch 179 6 = some (.aload_n 0, 1) := vtab tk179 3 rfl
theorem e179_6 (L : VL) (st : List Value) (h : VG) (x : Nat) : ev 179 6 (some (.ref x) :: L) (st) h = ev 179 7 (some (.ref x) :: L) (.ref x :: st) h := G_aload_n f179_6 rfl
theorem f179_7 : fetch 179 7 = some (.getfield 309, 3) := vtab tk179 4 rfl
theorem e179_7 (L : VL) (st : List Value) (h : VG) (a : Nat) (ho : ob h a 11) : ev 179 7 L (.ref a :: st) h = ev 179 10 L (.int (gI h a 38) :: st) h := G_getI (p := 1051) f179_7 lkF_12_309 (by decide) (by decide) ho
theorem f179_10 : fetch 179 10 = some (.bipush 6, 2) := vtab tk179 5 rfl
theorem e179_10 (L : VL) (st : List Value) (h : VG) : ev 179 10 L (st) h = ev 179 12 L (.int (6 : Int32) :: st) h := G_bipush f179_10 (by decide)
theorem f179_12 : fetch 179 12 = some (.if_icmp .ge 13, 3) := vtab tk179 6 rfl
theorem e179_12 (L : VL) (st : List Value) (h : VG) (x y : Int32) : ev 179 12 L (.int y :: .int x :: st) h = if x < y then ev 179 15 L st h else ev 179 25 L st h := G_icmp_ge f179_12 (by decide)
theorem f179_15 : fetch 179 15 = some (.aload_n 0, 1) := vtab tk179 7 rfl
theorem e179_15 (L : VL) (st : List Value) (h : VG) (x : Nat) : ev 179 15 (some (.ref x) :: L) (st) h = ev 179 16 (some (.ref x) :: L) (.ref x :: st) h := G_aload_n f179_15 rfl
theorem f179_16 : fetch 179 16 = some (.aload_n 0, 1) := vtab tk179 8 rfl
theorem e179_16 (L : VL) (st : List Value) (h : VG) (x : Nat) : ev 179 16 (some (.ref x) :: L) (st) h = ev 179 17 (some (.ref x) :: L) (.ref x :: st) h := G_aload_n f179_16 rfl
theorem f179_17 : fetch 179 17 = some (.getfield 312, 3) := vtab tk179 9 rfl
theorem e179_17 (L : VL) (st : List Value) (h : VG) (a : Nat) (ho : ob h a 11) : ev 179 17 L (.ref a :: st) h = ev 179 20 L (.long (gL h a 39) :: st) h := G_getL (p := 1052) f179_17 lkF_12_312 (by decide) (by decide) ho
theorem f179_20 : fetch 179 20 = some (.l2f, 1) := vtab tk179 10 rfl
theorem e179_20 (L : VL) (st : List Value) (h : VG) (x : Int64) : ev 179 20 L (.long x :: st) h = ev 179 21 L (.float (FP.l2f x) :: st) h := G_l2f f179_20
theorem f179_21 : fetch 179 21 = some (.f2d, 1) := vtab tk179 11 rfl
theorem e179_21 (L : VL) (st : List Value) (h : VG) (x : UInt32) (hn : vf_n64 (FP.f2d x)) : ev 179 21 L (.float x :: st) h = ev 179 22 L (.double (FP.f2d x) :: st) h := G_f2d f179_21 hn
theorem f179_22 : fetch 179 22 = some (.putfield 321, 3) := vtab tk179 12 rfl
theorem e179_22 (L : VL) (st : List Value) (h : VG) (a : Nat) (x : UInt64) (ho : ob h a 11) : ev 179 22 L (.double x :: .ref a :: st) h = ev 179 25 L (st) (pD h a 40 x) := G_putD (p := 1053) f179_22 lkF_12_321 (by decide) (by decide) (by decide +kernel) ⟨rfl, rfl⟩ ho
theorem f179_25 : fetch 179 25 = some (.iload_n 1, 1) := vtab tk179 13 rfl
theorem e179_25 (l0 : Option Value) (L : VL) (st : List Value) (h : VG) (x : Int32) : ev 179 25 (l0 :: some (.int x) :: L) (st) h = ev 179 26 (l0 :: some (.int x) :: L) (.int x :: st) h := G_iload_n f179_25 rfl
theorem f179_26 : fetch 179 26 = some (.bipush 7, 2) := vtab tk179 14 rfl
theorem e179_26 (L : VL) (st : List Value) (h : VG) : ev 179 26 L (st) h = ev 179 28 L (.int (7 : Int32) :: st) h := G_bipush f179_26 (by decide)
theorem f179_28 : fetch 179 28 = some (.if_icmp .ne 21, 3) := vtab tk179 15 rfl
theorem e179_28 (L : VL) (st : List Value) (h : VG) (x y : Int32) : ev 179 28 L (.int y :: .int x :: st) h = if x = y then ev 179 31 L st h else ev 179 49 L st h := G_icmp_ne f179_28 (by decide)
theorem f179_31 : fetch 179 31 = some (.aload_n 0, 1) := vtab tk179 16 rfl
theorem e179_31 (L : VL) (st : List Value) (h : VG) (x : Nat) : ev 179 31 (some (.ref x) :: L) (st) h = ev 179 32 (some (.ref x) :: L) (.ref x :: st) h := G_aload_n f179_31 rfl
theorem f179_32 : fetch 179 32 = some (.getfield 309, 3) := vtab tk179 17 rfl
theorem e179_32 (L : VL) (st : List Value) (h : VG) (a : Nat) (ho : ob h a 11) : ev 179 32 L (.ref a :: st) h = ev 179 35 L (.int (gI h a 38) :: st) h := G_getI (p := 1051) f179_32 lkF_12_309 (by decide) (by decide) ho
theorem f179_35 : fetch 179 35 = some (.bipush 6, 2) := vtab tk179 18 rfl
theorem e179_35 (L : VL) (st : List Value) (h : VG) : ev 179 35 L (st) h = ev 179 37 L (.int (6 : Int32) :: st) h := G_bipush f179_35 (by decide)
theorem f179_37 : fetch 179 37 = some (.if_icmp .ge 12, 3) := vtab tk179 19 rfl
theorem e179_37 (L : VL) (st : List Value) (h : VG) (x y : Int32) : ev 179 37 L (.int y :: .int x :: st) h = if x < y then ev 179 40 L st h else ev 179 49 L st h := G_icmp_ge f179_37 (by decide)
theorem f179_40 : fetch 179 40 = some (.aload_n 0, 1) := vtab tk179 20 rfl
theorem e179_40 (L : VL) (st : List Value) (h : VG) (x : Nat) : ev 179 40 (some (.ref x) :: L) (st) h = ev 179 41 (some (.ref x) :: L) (.ref x :: st) h := G_aload_n f179_40 rfl
theorem f179_41 : fetch 179 41 = some (.aload_n 0, 1) := vtab tk179 21 rfl
theorem e179_41 (L : VL) (st : List Value) (h : VG) (x : Nat) : ev 179 41 (some (.ref x) :: L) (st) h = ev 179 42 (some (.ref x) :: L) (.ref x :: st) h := G_aload_n f179_41 rfl
theorem f179_42 : fetch 179 42 = some (.getfield 312, 3) := vtab tk179 22 rfl
theorem e179_42 (L : VL) (st : List Value) (h : VG) (a : Nat) (ho : ob h a 11) : ev 179 42 L (.ref a :: st) h = ev 179 45 L (.long (gL h a 39) :: st) h := G_getL (p := 1052) f179_42 lkF_12_312 (by decide) (by decide) ho
theorem f179_45 : fetch 179 45 = some (.l2d, 1) := vtab tk179 23 rfl
theorem e179_45 (L : VL) (st : List Value) (h : VG) (x : Int64) : ev 179 45 L (.long x :: st) h = ev 179 46 L (.double (FP.l2d x) :: st) h := G_l2d f179_45
theorem f179_46 : fetch 179 46 = some (.putfield 321, 3) := vtab tk179 24 rfl
theorem e179_46 (L : VL) (st : List Value) (h : VG) (a : Nat) (x : UInt64) (ho : ob h a 11) : ev 179 46 L (.double x :: .ref a :: st) h = ev 179 49 L (st) (pD h a 40 x) := G_putD (p := 1053) f179_46 lkF_12_321 (by decide) (by decide) (by decide +kernel) ⟨rfl, rfl⟩ ho
theorem f179_49 : fetch 179 49 = some (.aload_n 0, 1) := vtab tk179 25 rfl
theorem e179_49 (L : VL) (st : List Value) (h : VG) (x : Nat) : ev 179 49 (some (.ref x) :: L) (st) h = ev 179 50 (some (.ref x) :: L) (.ref x :: st) h := G_aload_n f179_49 rfl
theorem f179_50 : fetch 179 50 = some (.iload_n 1, 1) := vtab tk179 26 rfl
theorem e179_50 (l0 : Option Value) (L : VL) (st : List Value) (h : VG) (x : Int32) : ev 179 50 (l0 :: some (.int x) :: L) (st) h = ev 179 51 (l0 :: some (.int x) :: L) (.int x :: st) h := G_iload_n f179_50 rfl
theorem f179_51 : fetch 179 51 = some (.putfield 309, 3) := vtab tk179 27 rfl
theorem e179_51 (L : VL) (st : List Value) (h : VG) (a : Nat) (x : Int32) (ho : ob h a 11) : ev 179 51 L (.int x :: .ref a :: st) h = ev 179 54 L (st) (pI h a 38 x) := G_putI (p := 1051) f179_51 lkF_12_309 (by decide) (by decide) (by decide +kernel) ⟨rfl, rfl⟩ ho
theorem f179_54 : fetch 179 54 = some (.return_, 1) := vtab tk179 28 rfl
theorem e179_54 (L : VL) (h : VG) : ev 179 54 L [] h = some (none, h) := G_vret f179_54 (by decide)
/-! 180 GuestCallsModel.told()J -/
def tb180 : List (Nat × Instr × Nat) := [(0, .aload_n 0, 1), (1, .getfield 309, 3), (4, .bipush 6, 2), (6, .if_icmp .eq 12, 3), (9, .aload_n 0, 1), (10, .getfield 309, 3), (13, .bipush 7, 2), (15, .if_icmp .ne 11, 3), (18, .aload_n 0, 1), (19, .getfield 321, 3), (22, .d2l, 1), (23, .goto 7, 3), (26, .aload_n 0, 1), (27, .getfield 312, 3), (30, .lreturn, 1)]
theorem tk180 : tb180.all (fun q => decide (fetch 180 q.1 = some q.2)) = true := by decide +kernel
theorem f180_0 : fetch 180 0 = some (.aload_n 0, 1) := vtab tk180 0 rfl
theorem e180_0 (L : VL) (st : List Value) (h : VG) (x : Nat) : ev 180 0 (some (.ref x) :: L) (st) h = ev 180 1 (some (.ref x) :: L) (.ref x :: st) h := G_aload_n f180_0 rfl
theorem f180_1 : fetch 180 1 = some (.getfield 309, 3) := vtab tk180 1 rfl
theorem e180_1 (L : VL) (st : List Value) (h : VG) (a : Nat) (ho : ob h a 11) : ev 180 1 L (.ref a :: st) h = ev 180 4 L (.int (gI h a 38) :: st) h := G_getI (p := 1051) f180_1 lkF_12_309 (by decide) (by decide) ho
theorem f180_4 : fetch 180 4 = some (.bipush 6, 2) := vtab tk180 2 rfl
theorem e180_4 (L : VL) (st : List Value) (h : VG) : ev 180 4 L (st) h = ev 180 6 L (.int (6 : Int32) :: st) h := G_bipush f180_4 (by decide)
theorem f180_6 : fetch 180 6 = some (.if_icmp .eq 12, 3) := vtab tk180 3 rfl
theorem e180_6 (L : VL) (st : List Value) (h : VG) (x y : Int32) : ev 180 6 L (.int y :: .int x :: st) h = if x = y then ev 180 18 L st h else ev 180 9 L st h := G_icmp_eq f180_6 (by decide)
theorem f180_9 : fetch 180 9 = some (.aload_n 0, 1) := vtab tk180 4 rfl
theorem e180_9 (L : VL) (st : List Value) (h : VG) (x : Nat) : ev 180 9 (some (.ref x) :: L) (st) h = ev 180 10 (some (.ref x) :: L) (.ref x :: st) h := G_aload_n f180_9 rfl
theorem f180_10 : fetch 180 10 = some (.getfield 309, 3) := vtab tk180 5 rfl
theorem e180_10 (L : VL) (st : List Value) (h : VG) (a : Nat) (ho : ob h a 11) : ev 180 10 L (.ref a :: st) h = ev 180 13 L (.int (gI h a 38) :: st) h := G_getI (p := 1051) f180_10 lkF_12_309 (by decide) (by decide) ho
theorem f180_13 : fetch 180 13 = some (.bipush 7, 2) := vtab tk180 6 rfl
theorem e180_13 (L : VL) (st : List Value) (h : VG) : ev 180 13 L (st) h = ev 180 15 L (.int (7 : Int32) :: st) h := G_bipush f180_13 (by decide)
theorem f180_15 : fetch 180 15 = some (.if_icmp .ne 11, 3) := vtab tk180 7 rfl
theorem e180_15 (L : VL) (st : List Value) (h : VG) (x y : Int32) : ev 180 15 L (.int y :: .int x :: st) h = if x = y then ev 180 18 L st h else ev 180 26 L st h := G_icmp_ne f180_15 (by decide)
theorem f180_18 : fetch 180 18 = some (.aload_n 0, 1) := vtab tk180 8 rfl
theorem e180_18 (L : VL) (st : List Value) (h : VG) (x : Nat) : ev 180 18 (some (.ref x) :: L) (st) h = ev 180 19 (some (.ref x) :: L) (.ref x :: st) h := G_aload_n f180_18 rfl
theorem f180_19 : fetch 180 19 = some (.getfield 321, 3) := vtab tk180 9 rfl
theorem e180_19 (L : VL) (st : List Value) (h : VG) (a : Nat) (ho : ob h a 11) : ev 180 19 L (.ref a :: st) h = ev 180 22 L (.double (gD h a 40) :: st) h := G_getD (p := 1053) f180_19 lkF_12_321 (by decide) (by decide) ho
theorem f180_22 : fetch 180 22 = some (.d2l, 1) := vtab tk180 10 rfl
theorem e180_22 (L : VL) (st : List Value) (h : VG) (x : UInt64) : ev 180 22 L (.double x :: st) h = ev 180 23 L (.long (FP.d2l x) :: st) h := G_d2l f180_22
theorem f180_23 : fetch 180 23 = some (.goto 7, 3) := vtab tk180 11 rfl
theorem e180_23 (L : VL) (st : List Value) (h : VG) : ev 180 23 L (st) h = ev 180 30 L (st) h := G_goto f180_23 (by decide)
theorem f180_26 : fetch 180 26 = some (.aload_n 0, 1) := vtab tk180 12 rfl
theorem e180_26 (L : VL) (st : List Value) (h : VG) (x : Nat) : ev 180 26 (some (.ref x) :: L) (st) h = ev 180 27 (some (.ref x) :: L) (.ref x :: st) h := G_aload_n f180_26 rfl
theorem f180_27 : fetch 180 27 = some (.getfield 312, 3) := vtab tk180 13 rfl
theorem e180_27 (L : VL) (st : List Value) (h : VG) (a : Nat) (ho : ob h a 11) : ev 180 27 L (.ref a :: st) h = ev 180 30 L (.long (gL h a 39) :: st) h := G_getL (p := 1052) f180_27 lkF_12_312 (by decide) (by decide) ho
theorem f180_30 : fetch 180 30 = some (.lreturn, 1) := vtab tk180 14 rfl
theorem e180_30 (L : VL) (h : VG) (x : Int64) : ev 180 30 L [.long x] h = some (some (.long x), h) := G_lret f180_30 (by decide)
/-! 181 GuestCallsModel.isBin(I)Z -/
def tb181 : List (Nat × Instr × Nat) := [(0, .iload_n 0, 1), (1, .iconst 0, 1), (2, .bipush 7, 2), (4, .invokestatic 260, 3), (7, .ireturn, 1)]
theorem tk181 : tb181.all (fun q => decide (fetch 181 q.1 = some q.2)) = true := by decide +kernel
theorem f181_0 : fetch 181 0 = some (.iload_n 0, 1) := vtab tk181 0 rfl
theorem e181_0 (L : VL) (st : List Value) (h : VG) (x : Int32) : ev 181 0 (some (.int x) :: L) (st) h = ev 181 1 (some (.int x) :: L) (.int x :: st) h := G_iload_n f181_0 rfl
theorem f181_1 : fetch 181 1 = some (.iconst 0, 1) := vtab tk181 1 rfl
theorem e181_1 (L : VL) (st : List Value) (h : VG) : ev 181 1 L (st) h = ev 181 2 L (.int (0 : Int32) :: st) h := G_iconst f181_1 (by decide)
theorem f181_2 : fetch 181 2 = some (.bipush 7, 2) := vtab tk181 2 rfl
theorem e181_2 (L : VL) (st : List Value) (h : VG) : ev 181 2 L (st) h = ev 181 4 L (.int (7 : Int32) :: st) h := G_bipush f181_2 (by decide)
theorem f181_4 : fetch 181 4 = some (.invokestatic 260, 3) := vtab tk181 3 rfl
theorem e181_4 (L : VL) (st : List Value) (h : VG) (x0 : Int32) (x1 : Int32) (x2 : Int32) (hs : catS st ≤ 8) : ev 181 4 L (.int x2 :: .int x1 :: .int x0 :: st) h = (ev 162 0 [some (.int x0), some (.int x1), some (.int x2)] [] h).bind fun q => ev 181 7 L (q.1.toList ++ st) q.2 := G_calls (k := 0) (p := 1286) (ars := [.int x0, .int x1, .int x2]) f181_4 lkC_12_260 (by decide) (by decide +kernel) rfl (Nat.le_of_ble_eq_true rfl) hs rfl
theorem f181_7 : fetch 181 7 = some (.ireturn, 1) := vtab tk181 4 rfl
theorem e181_7 (L : VL) (h : VG) (x : Int32) (hz : x = 0 ∨ x = 1) : ev 181 7 L [.int x] h = some (some (.int x), h) := G_iret f181_7 (ty := .boolean) (by decide) (vbool hz).1
/-! 182 GuestCallsModel.isNumber(I)Z -/
def tb182 : List (Nat × Instr × Nat) := [(0, .iload_n 0, 1), (1, .iconst 0, 1), (2, .bipush 7, 2), (4, .invokestatic 260, 3), (7, .ireturn, 1)]
theorem tk182 : tb182.all (fun q => decide (fetch 182 q.1 = some q.2)) = true := by decide +kernel
theorem f182_0 : fetch 182 0 = some (.iload_n 0, 1) := vtab tk182 0 rfl
theorem e182_0 (L : VL) (st : List Value) (h : VG) (x : Int32) : ev 182 0 (some (.int x) :: L) (st) h = ev 182 1 (some (.int x) :: L) (.int x :: st) h := G_iload_n f182_0 rfl
theorem f182_1 : fetch 182 1 = some (.iconst 0, 1) := vtab tk182 1 rfl
theorem e182_1 (L : VL) (st : List Value) (h : VG) : ev 182 1 L (st) h = ev 182 2 L (.int (0 : Int32) :: st) h := G_iconst f182_1 (by decide)
theorem f182_2 : fetch 182 2 = some (.bipush 7, 2) := vtab tk182 2 rfl
theorem e182_2 (L : VL) (st : List Value) (h : VG) : ev 182 2 L (st) h = ev 182 4 L (.int (7 : Int32) :: st) h := G_bipush f182_2 (by decide)
theorem f182_4 : fetch 182 4 = some (.invokestatic 260, 3) := vtab tk182 3 rfl
theorem e182_4 (L : VL) (st : List Value) (h : VG) (x0 : Int32) (x1 : Int32) (x2 : Int32) (hs : catS st ≤ 8) : ev 182 4 L (.int x2 :: .int x1 :: .int x0 :: st) h = (ev 162 0 [some (.int x0), some (.int x1), some (.int x2)] [] h).bind fun q => ev 182 7 L (q.1.toList ++ st) q.2 := G_calls (k := 0) (p := 1286) (ars := [.int x0, .int x1, .int x2]) f182_4 lkC_12_260 (by decide) (by decide +kernel) rfl (Nat.le_of_ble_eq_true rfl) hs rfl
theorem f182_7 : fetch 182 7 = some (.ireturn, 1) := vtab tk182 4 rfl
theorem e182_7 (L : VL) (h : VG) (x : Int32) (hz : x = 0 ∨ x = 1) : ev 182 7 L [.int x] h = some (some (.int x), h) := G_iret f182_7 (ty := .boolean) (by decide) (vbool hz).1
/-! 183 GuestCallsModel.bin(III)Z -/
def tb183 : List (Nat × Instr × Nat) := [(0, .iload_n 1, 1), (1, .invokestatic 325, 3), (4, .ifCond .eq 29, 3), (7, .iload_n 2, 1), (8, .iconst 0, 1), (9, .bipush 11, 2), (11, .invokestatic 260, 3), (14, .ifCond .eq 19, 3), (17, .iload_n 2, 1), (18, .bipush 10, 2), (20, .if_icmp .ge 15, 3), (23, .iload_n 3, 1), (24, .iconst 0, 1), (25, .bipush 40, 2), (27, .invokestatic 260, 3), (30, .ifCond .ne 5, 3), (33, .iconst 0, 1), (34, .ireturn, 1), (35, .aload_n 0, 1), (36, .getfield 76, 3), (39, .iload_n 1, 1), (40, .iload_n 2, 1), (41, .iastore, 1), (42, .aload_n 0, 1), (43, .getfield 79, 3), (46, .iload_n 1, 1), (47, .iload_n 2, 1), (48, .bipush 10, 2), (50, .if_icmp .ge 7, 3), (53, .iload_n 3, 1), (54, .goto 4, 3), (57, .iconst 0, 1), (58, .iastore, 1), (59, .bipush 40, 2), (61, .iload_n 1, 1), (62, .imul, 1), (63, .istore 4, 2), (65, .iload 4, 2), (67, .bipush 40, 2), (69, .iload_n 1, 1), (70, .imul, 1), (71, .aload_n 0, 1), (72, .getfield 79, 3), (75, .iload_n 1, 1), (76, .iaload, 1), (77, .iadd, 1), (78, .if_icmp .ge 44, 3), (81, .aload_n 0, 1), (82, .getfield 82, 3), (85, .iload 4, 2), (87, .iload_n 2, 1), (88, .bipush 8, 2), (90, .if_icmp .ge 7, 3), (93, .iload_n 2, 1), (94, .goto 5, 3), (97, .bipush (-2), 2), (99, .iastore, 1), (100, .aload_n 0, 1), (101, .getfield 85, 3), (104, .iload 4, 2), (106, .lconst 0, 1), (107, .lastore, 1), (108, .aload_n 0, 1), (109, .getfield 88, 3), (112, .iload 4, 2), (114, .dconst 0, 1), (115, .dastore, 1), (116, .iinc 4 1, 3), (119, .goto (-54), 3), (122, .iconst 1, 1), (123, .ireturn, 1)]
theorem tk183 : tb183.all (fun q => decide (fetch 183 q.1 = some q.2)) = true := by decide +kernel
theorem f183_0 : fetch 183 0 = some (.iload_n 1, 1) := vtab tk183 0 rfl
theorem e183_0 (l0 : Option Value) (L : VL) (st : List Value) (h : VG) (x : Int32) : ev 183 0 (l0 :: some (.int x) :: L) (st) h = ev 183 1 (l0 :: some (.int x) :: L) (.int x :: st) h := G_iload_n f183_0 rfl
theorem f183_1 : fetch 183 1 = some (.invokestatic 325, 3) := vtab tk183 1 rfl
theorem e183_1 (L : VL) (st : List Value) (h : VG) (x0 : Int32) (hs : catS st ≤ 8) : ev 183 1 L (.int x0 :: st) h = (ev 181 0 [some (.int x0)] [] h).bind fun q => ev 183 4 L (q.1.toList ++ st) q.2 := G_calls (k := 0) (p := 1359) (ars := [.int x0]) f183_1 lkC_12_325 (by decide) (by decide +kernel) rfl (Nat.le_of_ble_eq_true rfl) hs rfl
theorem f183_4 : fetch 183 4 = some (.ifCond .eq 29, 3) := vtab tk183 2 rfl
theorem e183_4 (L : VL) (st : List Value) (h : VG) (x : Int32) : ev 183 4 L (.int x :: st) h = if x = 0 then ev 183 33 L st h else ev 183 7 L st h := G_if_eq f183_4 (by decide)
theorem f183_7 : fetch 183 7 = some (.iload_n 2, 1) := vtab tk183 3 rfl
theorem e183_7 (l0 l1 : Option Value) (L : VL) (st : List Value) (h : VG) (x : Int32) : ev 183 7 (l0 :: l1 :: some (.int x) :: L) (st) h = ev 183 8 (l0 :: l1 :: some (.int x) :: L) (.int x :: st) h := G_iload_n f183_7 rfl
theorem f183_8 : fetch 183 8 = some (.iconst 0, 1) := vtab tk183 4 rfl
theorem e183_8 (L : VL) (st : List Value) (h : VG) : ev 183 8 L (st) h = ev 183 9 L (.int (0 : Int32) :: st) h := G_iconst f183_8 (by decide)
theorem f183_9 : fetch 183 9 = some (.bipush 11, 2) := vtab tk183 5 rfl
theorem e183_9 (L : VL) (st : List Value) (h : VG) : ev 183 9 L (st) h = ev 183 11 L (.int (11 : Int32) :: st) h := G_bipush f183_9 (by decide)
theorem f183_11 : fetch 183 11 = some (.invokestatic 260, 3) := vtab tk183 6 rfl
theorem e183_11 (L : VL) (st : List Value) (h : VG) (x0 : Int32) (x1 : Int32) (x2 : Int32) (hs : catS st ≤ 8) : ev 183 11 L (.int x2 :: .int x1 :: .int x0 :: st) h = (ev 162 0 [some (.int x0), some (.int x1), some (.int x2)] [] h).bind fun q => ev 183 14 L (q.1.toList ++ st) q.2 := G_calls (k := 0) (p := 1286) (ars := [.int x0, .int x1, .int x2]) f183_11 lkC_12_260 (by decide) (by decide +kernel) rfl (Nat.le_of_ble_eq_true rfl) hs rfl
theorem f183_14 : fetch 183 14 = some (.ifCond .eq 19, 3) := vtab tk183 7 rfl
theorem e183_14 (L : VL) (st : List Value) (h : VG) (x : Int32) : ev 183 14 L (.int x :: st) h = if x = 0 then ev 183 33 L st h else ev 183 17 L st h := G_if_eq f183_14 (by decide)
theorem f183_17 : fetch 183 17 = some (.iload_n 2, 1) := vtab tk183 8 rfl
theorem e183_17 (l0 l1 : Option Value) (L : VL) (st : List Value) (h : VG) (x : Int32) : ev 183 17 (l0 :: l1 :: some (.int x) :: L) (st) h = ev 183 18 (l0 :: l1 :: some (.int x) :: L) (.int x :: st) h := G_iload_n f183_17 rfl
theorem f183_18 : fetch 183 18 = some (.bipush 10, 2) := vtab tk183 9 rfl
theorem e183_18 (L : VL) (st : List Value) (h : VG) : ev 183 18 L (st) h = ev 183 20 L (.int (10 : Int32) :: st) h := G_bipush f183_18 (by decide)
theorem f183_20 : fetch 183 20 = some (.if_icmp .ge 15, 3) := vtab tk183 10 rfl
theorem e183_20 (L : VL) (st : List Value) (h : VG) (x y : Int32) : ev 183 20 L (.int y :: .int x :: st) h = if x < y then ev 183 23 L st h else ev 183 35 L st h := G_icmp_ge f183_20 (by decide)
theorem f183_23 : fetch 183 23 = some (.iload_n 3, 1) := vtab tk183 11 rfl
theorem e183_23 (l0 l1 l2 : Option Value) (L : VL) (st : List Value) (h : VG) (x : Int32) : ev 183 23 (l0 :: l1 :: l2 :: some (.int x) :: L) (st) h = ev 183 24 (l0 :: l1 :: l2 :: some (.int x) :: L) (.int x :: st) h := G_iload_n f183_23 rfl
theorem f183_24 : fetch 183 24 = some (.iconst 0, 1) := vtab tk183 12 rfl
theorem e183_24 (L : VL) (st : List Value) (h : VG) : ev 183 24 L (st) h = ev 183 25 L (.int (0 : Int32) :: st) h := G_iconst f183_24 (by decide)
theorem f183_25 : fetch 183 25 = some (.bipush 40, 2) := vtab tk183 13 rfl
theorem e183_25 (L : VL) (st : List Value) (h : VG) : ev 183 25 L (st) h = ev 183 27 L (.int (40 : Int32) :: st) h := G_bipush f183_25 (by decide)
theorem f183_27 : fetch 183 27 = some (.invokestatic 260, 3) := vtab tk183 14 rfl
theorem e183_27 (L : VL) (st : List Value) (h : VG) (x0 : Int32) (x1 : Int32) (x2 : Int32) (hs : catS st ≤ 8) : ev 183 27 L (.int x2 :: .int x1 :: .int x0 :: st) h = (ev 162 0 [some (.int x0), some (.int x1), some (.int x2)] [] h).bind fun q => ev 183 30 L (q.1.toList ++ st) q.2 := G_calls (k := 0) (p := 1286) (ars := [.int x0, .int x1, .int x2]) f183_27 lkC_12_260 (by decide) (by decide +kernel) rfl (Nat.le_of_ble_eq_true rfl) hs rfl
theorem f183_30 : fetch 183 30 = some (.ifCond .ne 5, 3) := vtab tk183 15 rfl
theorem e183_30 (L : VL) (st : List Value) (h : VG) (x : Int32) : ev 183 30 L (.int x :: st) h = if x = 0 then ev 183 33 L st h else ev 183 35 L st h := G_if_ne f183_30 (by decide)
theorem f183_33 : fetch 183 33 = some (.iconst 0, 1) := vtab tk183 16 rfl
theorem e183_33 (L : VL) (st : List Value) (h : VG) : ev 183 33 L (st) h = ev 183 34 L (.int (0 : Int32) :: st) h := G_iconst f183_33 (by decide)
theorem f183_34 : fetch 183 34 = some (.ireturn, 1) := vtab tk183 17 rfl
theorem e183_34 (L : VL) (h : VG) (x : Int32) (hz : x = 0 ∨ x = 1) : ev 183 34 L [.int x] h = some (some (.int x), h) := G_iret f183_34 (ty := .boolean) (by decide) (vbool hz).1
theorem f183_35 : fetch 183 35 = some (.aload_n 0, 1) := vtab tk183 18 rfl
theorem e183_35 (L : VL) (st : List Value) (h : VG) (x : Nat) : ev 183 35 (some (.ref x) :: L) (st) h = ev 183 36 (some (.ref x) :: L) (.ref x :: st) h := G_aload_n f183_35 rfl
theorem f183_36 : fetch 183 36 = some (.getfield 76, 3) := vtab tk183 19 rfl
theorem e183_36 (L : VL) (st : List Value) (h : VG) (a : Nat) (ho : ob h a 11) (hr : isR h a 42) : ev 183 36 L (.ref a :: st) h = ev 183 39 L (.ref (gR h a 42) :: st) h := G_getR (p := 1055) f183_36 lkF_12_76 (by decide) (by decide) ho hr
theorem f183_39 : fetch 183 39 = some (.iload_n 1, 1) := vtab tk183 20 rfl
theorem e183_39 (l0 : Option Value) (L : VL) (st : List Value) (h : VG) (x : Int32) : ev 183 39 (l0 :: some (.int x) :: L) (st) h = ev 183 40 (l0 :: some (.int x) :: L) (.int x :: st) h := G_iload_n f183_39 rfl
theorem f183_40 : fetch 183 40 = some (.iload_n 2, 1) := vtab tk183 21 rfl
theorem e183_40 (l0 l1 : Option Value) (L : VL) (st : List Value) (h : VG) (x : Int32) : ev 183 40 (l0 :: l1 :: some (.int x) :: L) (st) h = ev 183 41 (l0 :: l1 :: some (.int x) :: L) (.int x :: st) h := G_iload_n f183_40 rfl
theorem f183_41 : fetch 183 41 = some (.iastore, 1) := vtab tk183 22 rfl
theorem e183_41 (L : VL) (st : List Value) (h : VG) (a : Nat) (i : Int32) (x : Int32) (ha : arI h a 0) (hi : vp_in i (aln h a)) : ev 183 41 L (.int x :: .int i :: .ref a :: st) h = ev 183 42 L (st) (wI h a i.toNatClampNeg x) := G_iast f183_41 ha hi
theorem f183_42 : fetch 183 42 = some (.aload_n 0, 1) := vtab tk183 23 rfl
theorem e183_42 (L : VL) (st : List Value) (h : VG) (x : Nat) : ev 183 42 (some (.ref x) :: L) (st) h = ev 183 43 (some (.ref x) :: L) (.ref x :: st) h := G_aload_n f183_42 rfl
theorem f183_43 : fetch 183 43 = some (.getfield 79, 3) := vtab tk183 24 rfl
theorem e183_43 (L : VL) (st : List Value) (h : VG) (a : Nat) (ho : ob h a 11) (hr : isR h a 43) : ev 183 43 L (.ref a :: st) h = ev 183 46 L (.ref (gR h a 43) :: st) h := G_getR (p := 1056) f183_43 lkF_12_79 (by decide) (by decide) ho hr
theorem f183_46 : fetch 183 46 = some (.iload_n 1, 1) := vtab tk183 25 rfl
theorem e183_46 (l0 : Option Value) (L : VL) (st : List Value) (h : VG) (x : Int32) : ev 183 46 (l0 :: some (.int x) :: L) (st) h = ev 183 47 (l0 :: some (.int x) :: L) (.int x :: st) h := G_iload_n f183_46 rfl
theorem f183_47 : fetch 183 47 = some (.iload_n 2, 1) := vtab tk183 26 rfl
theorem e183_47 (l0 l1 : Option Value) (L : VL) (st : List Value) (h : VG) (x : Int32) : ev 183 47 (l0 :: l1 :: some (.int x) :: L) (st) h = ev 183 48 (l0 :: l1 :: some (.int x) :: L) (.int x :: st) h := G_iload_n f183_47 rfl
theorem f183_48 : fetch 183 48 = some (.bipush 10, 2) := vtab tk183 27 rfl
theorem e183_48 (L : VL) (st : List Value) (h : VG) : ev 183 48 L (st) h = ev 183 50 L (.int (10 : Int32) :: st) h := G_bipush f183_48 (by decide)
theorem f183_50 : fetch 183 50 = some (.if_icmp .ge 7, 3) := vtab tk183 28 rfl
theorem e183_50 (L : VL) (st : List Value) (h : VG) (x y : Int32) : ev 183 50 L (.int y :: .int x :: st) h = if x < y then ev 183 53 L st h else ev 183 57 L st h := G_icmp_ge f183_50 (by decide)
theorem f183_53 : fetch 183 53 = some (.iload_n 3, 1) := vtab tk183 29 rfl
theorem e183_53 (l0 l1 l2 : Option Value) (L : VL) (st : List Value) (h : VG) (x : Int32) : ev 183 53 (l0 :: l1 :: l2 :: some (.int x) :: L) (st) h = ev 183 54 (l0 :: l1 :: l2 :: some (.int x) :: L) (.int x :: st) h := G_iload_n f183_53 rfl
theorem f183_54 : fetch 183 54 = some (.goto 4, 3) := vtab tk183 30 rfl
theorem e183_54 (L : VL) (st : List Value) (h : VG) : ev 183 54 L (st) h = ev 183 58 L (st) h := G_goto f183_54 (by decide)
theorem f183_57 : fetch 183 57 = some (.iconst 0, 1) := vtab tk183 31 rfl
theorem e183_57 (L : VL) (st : List Value) (h : VG) : ev 183 57 L (st) h = ev 183 58 L (.int (0 : Int32) :: st) h := G_iconst f183_57 (by decide)
theorem f183_58 : fetch 183 58 = some (.iastore, 1) := vtab tk183 32 rfl
theorem e183_58 (L : VL) (st : List Value) (h : VG) (a : Nat) (i : Int32) (x : Int32) (ha : arI h a 0) (hi : vp_in i (aln h a)) : ev 183 58 L (.int x :: .int i :: .ref a :: st) h = ev 183 59 L (st) (wI h a i.toNatClampNeg x) := G_iast f183_58 ha hi
theorem f183_59 : fetch 183 59 = some (.bipush 40, 2) := vtab tk183 33 rfl
theorem e183_59 (L : VL) (st : List Value) (h : VG) : ev 183 59 L (st) h = ev 183 61 L (.int (40 : Int32) :: st) h := G_bipush f183_59 (by decide)
theorem f183_61 : fetch 183 61 = some (.iload_n 1, 1) := vtab tk183 34 rfl
theorem e183_61 (l0 : Option Value) (L : VL) (st : List Value) (h : VG) (x : Int32) : ev 183 61 (l0 :: some (.int x) :: L) (st) h = ev 183 62 (l0 :: some (.int x) :: L) (.int x :: st) h := G_iload_n f183_61 rfl
theorem f183_62 : fetch 183 62 = some (.imul, 1) := vtab tk183 35 rfl
theorem e183_62 (L : VL) (st : List Value) (h : VG) (x y : Int32) : ev 183 62 L (.int y :: .int x :: st) h = ev 183 63 L (.int (x * y) :: st) h := G_imul f183_62
theorem f183_63 : fetch 183 63 = some (.istore 4, 2) := vtab tk183 36 rfl
theorem e183_63 (l0 l1 l2 l3 l4 : Option Value) (L : VL) (st : List Value) (h : VG) (x : Int32) : ev 183 63 (l0 :: l1 :: l2 :: l3 :: l4 :: L) (.int x :: st) h = ev 183 65 (l0 :: l1 :: l2 :: vkk l3 :: some (.int x) :: L) (st) h := G_istore f183_63 rfl (S1_4 l0 l1 l2 l3 l4 L _)
theorem f183_65 : fetch 183 65 = some (.iload 4, 2) := vtab tk183 37 rfl
theorem e183_65 (l0 l1 l2 l3 : Option Value) (L : VL) (st : List Value) (h : VG) (x : Int32) : ev 183 65 (l0 :: l1 :: l2 :: l3 :: some (.int x) :: L) (st) h = ev 183 67 (l0 :: l1 :: l2 :: l3 :: some (.int x) :: L) (.int x :: st) h := G_iload f183_65 rfl
theorem f183_67 : fetch 183 67 = some (.bipush 40, 2) := vtab tk183 38 rfl
theorem e183_67 (L : VL) (st : List Value) (h : VG) : ev 183 67 L (st) h = ev 183 69 L (.int (40 : Int32) :: st) h := G_bipush f183_67 (by decide)
theorem f183_69 : fetch 183 69 = some (.iload_n 1, 1) := vtab tk183 39 rfl
theorem e183_69 (l0 : Option Value) (L : VL) (st : List Value) (h : VG) (x : Int32) : ev 183 69 (l0 :: some (.int x) :: L) (st) h = ev 183 70 (l0 :: some (.int x) :: L) (.int x :: st) h := G_iload_n f183_69 rfl
theorem f183_70 : fetch 183 70 = some (.imul, 1) := vtab tk183 40 rfl
theorem e183_70 (L : VL) (st : List Value) (h : VG) (x y : Int32) : ev 183 70 L (.int y :: .int x :: st) h = ev 183 71 L (.int (x * y) :: st) h := G_imul f183_70
theorem f183_71 : fetch 183 71 = some (.aload_n 0, 1) := vtab tk183 41 rfl
theorem e183_71 (L : VL) (st : List Value) (h : VG) (x : Nat) : ev 183 71 (some (.ref x) :: L) (st) h = ev 183 72 (some (.ref x) :: L) (.ref x :: st) h := G_aload_n f183_71 rfl
theorem f183_72 : fetch 183 72 = some (.getfield 79, 3) := vtab tk183 42 rfl
theorem e183_72 (L : VL) (st : List Value) (h : VG) (a : Nat) (ho : ob h a 11) (hr : isR h a 43) : ev 183 72 L (.ref a :: st) h = ev 183 75 L (.ref (gR h a 43) :: st) h := G_getR (p := 1056) f183_72 lkF_12_79 (by decide) (by decide) ho hr
theorem f183_75 : fetch 183 75 = some (.iload_n 1, 1) := vtab tk183 43 rfl
theorem e183_75 (l0 : Option Value) (L : VL) (st : List Value) (h : VG) (x : Int32) : ev 183 75 (l0 :: some (.int x) :: L) (st) h = ev 183 76 (l0 :: some (.int x) :: L) (.int x :: st) h := G_iload_n f183_75 rfl
theorem f183_76 : fetch 183 76 = some (.iaload, 1) := vtab tk183 44 rfl
theorem e183_76 (L : VL) (st : List Value) (h : VG) (a : Nat) (i : Int32) (ha : rdI h a) (hi : vp_in i (aln h a)) : ev 183 76 L (.int i :: .ref a :: st) h = ev 183 77 L (.int (aI h a i.toNatClampNeg) :: st) h := G_iald' f183_76 ha hi
theorem f183_77 : fetch 183 77 = some (.iadd, 1) := vtab tk183 45 rfl
theorem e183_77 (L : VL) (st : List Value) (h : VG) (x y : Int32) : ev 183 77 L (.int y :: .int x :: st) h = ev 183 78 L (.int (x + y) :: st) h := G_iadd f183_77
theorem f183_78 : fetch 183 78 = some (.if_icmp .ge 44, 3) := vtab tk183 46 rfl
theorem e183_78 (L : VL) (st : List Value) (h : VG) (x y : Int32) : ev 183 78 L (.int y :: .int x :: st) h = if x < y then ev 183 81 L st h else ev 183 122 L st h := G_icmp_ge f183_78 (by decide)
theorem f183_81 : fetch 183 81 = some (.aload_n 0, 1) := vtab tk183 47 rfl
theorem e183_81 (L : VL) (st : List Value) (h : VG) (x : Nat) : ev 183 81 (some (.ref x) :: L) (st) h = ev 183 82 (some (.ref x) :: L) (.ref x :: st) h := G_aload_n f183_81 rfl
theorem f183_82 : fetch 183 82 = some (.getfield 82, 3) := vtab tk183 48 rfl
theorem e183_82 (L : VL) (st : List Value) (h : VG) (a : Nat) (ho : ob h a 11) (hr : isR h a 44) : ev 183 82 L (.ref a :: st) h = ev 183 85 L (.ref (gR h a 44) :: st) h := G_getR (p := 1057) f183_82 lkF_12_82 (by decide) (by decide) ho hr
theorem f183_85 : fetch 183 85 = some (.iload 4, 2) := vtab tk183 49 rfl
theorem e183_85 (l0 l1 l2 l3 : Option Value) (L : VL) (st : List Value) (h : VG) (x : Int32) : ev 183 85 (l0 :: l1 :: l2 :: l3 :: some (.int x) :: L) (st) h = ev 183 87 (l0 :: l1 :: l2 :: l3 :: some (.int x) :: L) (.int x :: st) h := G_iload f183_85 rfl
theorem f183_87 : fetch 183 87 = some (.iload_n 2, 1) := vtab tk183 50 rfl
theorem e183_87 (l0 l1 : Option Value) (L : VL) (st : List Value) (h : VG) (x : Int32) : ev 183 87 (l0 :: l1 :: some (.int x) :: L) (st) h = ev 183 88 (l0 :: l1 :: some (.int x) :: L) (.int x :: st) h := G_iload_n f183_87 rfl
theorem f183_88 : fetch 183 88 = some (.bipush 8, 2) := vtab tk183 51 rfl
theorem e183_88 (L : VL) (st : List Value) (h : VG) : ev 183 88 L (st) h = ev 183 90 L (.int (8 : Int32) :: st) h := G_bipush f183_88 (by decide)
theorem f183_90 : fetch 183 90 = some (.if_icmp .ge 7, 3) := vtab tk183 52 rfl
theorem e183_90 (L : VL) (st : List Value) (h : VG) (x y : Int32) : ev 183 90 L (.int y :: .int x :: st) h = if x < y then ev 183 93 L st h else ev 183 97 L st h := G_icmp_ge f183_90 (by decide)
theorem f183_93 : fetch 183 93 = some (.iload_n 2, 1) := vtab tk183 53 rfl
theorem e183_93 (l0 l1 : Option Value) (L : VL) (st : List Value) (h : VG) (x : Int32) : ev 183 93 (l0 :: l1 :: some (.int x) :: L) (st) h = ev 183 94 (l0 :: l1 :: some (.int x) :: L) (.int x :: st) h := G_iload_n f183_93 rfl
theorem f183_94 : fetch 183 94 = some (.goto 5, 3) := vtab tk183 54 rfl
theorem e183_94 (L : VL) (st : List Value) (h : VG) : ev 183 94 L (st) h = ev 183 99 L (st) h := G_goto f183_94 (by decide)
theorem f183_97 : fetch 183 97 = some (.bipush (-2), 2) := vtab tk183 55 rfl
theorem e183_97 (L : VL) (st : List Value) (h : VG) : ev 183 97 L (st) h = ev 183 99 L (.int (-2 : Int32) :: st) h := G_bipush f183_97 (by decide)
theorem f183_99 : fetch 183 99 = some (.iastore, 1) := vtab tk183 56 rfl
theorem e183_99 (L : VL) (st : List Value) (h : VG) (a : Nat) (i : Int32) (x : Int32) (ha : arI h a 0) (hi : vp_in i (aln h a)) : ev 183 99 L (.int x :: .int i :: .ref a :: st) h = ev 183 100 L (st) (wI h a i.toNatClampNeg x) := G_iast f183_99 ha hi
theorem f183_100 : fetch 183 100 = some (.aload_n 0, 1) := vtab tk183 57 rfl
theorem e183_100 (L : VL) (st : List Value) (h : VG) (x : Nat) : ev 183 100 (some (.ref x) :: L) (st) h = ev 183 101 (some (.ref x) :: L) (.ref x :: st) h := G_aload_n f183_100 rfl
theorem f183_101 : fetch 183 101 = some (.getfield 85, 3) := vtab tk183 58 rfl
theorem e183_101 (L : VL) (st : List Value) (h : VG) (a : Nat) (ho : ob h a 11) (hr : isR h a 45) : ev 183 101 L (.ref a :: st) h = ev 183 104 L (.ref (gR h a 45) :: st) h := G_getR (p := 1058) f183_101 lkF_12_85 (by decide) (by decide) ho hr
theorem f183_104 : fetch 183 104 = some (.iload 4, 2) := vtab tk183 59 rfl
theorem e183_104 (l0 l1 l2 l3 : Option Value) (L : VL) (st : List Value) (h : VG) (x : Int32) : ev 183 104 (l0 :: l1 :: l2 :: l3 :: some (.int x) :: L) (st) h = ev 183 106 (l0 :: l1 :: l2 :: l3 :: some (.int x) :: L) (.int x :: st) h := G_iload f183_104 rfl
theorem f183_106 : fetch 183 106 = some (.lconst 0, 1) := vtab tk183 60 rfl
theorem e183_106 (L : VL) (st : List Value) (h : VG) : ev 183 106 L (st) h = ev 183 107 L (.long 0 :: st) h := G_lconst f183_106 (by decide)
theorem f183_107 : fetch 183 107 = some (.lastore, 1) := vtab tk183 61 rfl
theorem e183_107 (L : VL) (st : List Value) (h : VG) (a : Nat) (i : Int32) (x : Int64) (ha : arL h a) (hi : vp_in i (aln h a)) : ev 183 107 L (.long x :: .int i :: .ref a :: st) h = ev 183 108 L (st) (wL h a i.toNatClampNeg x) := G_last f183_107 ha hi
theorem f183_108 : fetch 183 108 = some (.aload_n 0, 1) := vtab tk183 62 rfl
theorem e183_108 (L : VL) (st : List Value) (h : VG) (x : Nat) : ev 183 108 (some (.ref x) :: L) (st) h = ev 183 109 (some (.ref x) :: L) (.ref x :: st) h := G_aload_n f183_108 rfl
theorem f183_109 : fetch 183 109 = some (.getfield 88, 3) := vtab tk183 63 rfl
theorem e183_109 (L : VL) (st : List Value) (h : VG) (a : Nat) (ho : ob h a 11) (hr : isR h a 46) : ev 183 109 L (.ref a :: st) h = ev 183 112 L (.ref (gR h a 46) :: st) h := G_getR (p := 1059) f183_109 lkF_12_88 (by decide) (by decide) ho hr
theorem f183_112 : fetch 183 112 = some (.iload 4, 2) := vtab tk183 64 rfl
theorem e183_112 (l0 l1 l2 l3 : Option Value) (L : VL) (st : List Value) (h : VG) (x : Int32) : ev 183 112 (l0 :: l1 :: l2 :: l3 :: some (.int x) :: L) (st) h = ev 183 114 (l0 :: l1 :: l2 :: l3 :: some (.int x) :: L) (.int x :: st) h := G_iload f183_112 rfl
theorem f183_114 : fetch 183 114 = some (.dconst 0, 1) := vtab tk183 65 rfl
theorem e183_114 (L : VL) (st : List Value) (h : VG) : ev 183 114 L (st) h = ev 183 115 L (.double FP.dconst0 :: st) h := G_dconst0 f183_114
theorem f183_115 : fetch 183 115 = some (.dastore, 1) := vtab tk183 66 rfl
theorem e183_115 (L : VL) (st : List Value) (h : VG) (a : Nat) (i : Int32) (x : UInt64) (ha : arD h a) (hi : vp_in i (aln h a)) : ev 183 115 L (.double x :: .int i :: .ref a :: st) h = ev 183 116 L (st) (wD h a i.toNatClampNeg x) := G_dast f183_115 ha hi
theorem f183_116 : fetch 183 116 = some (.iinc 4 1, 3) := vtab tk183 67 rfl
theorem e183_116 (l0 l1 l2 l3 : Option Value) (L : VL) (st : List Value) (h : VG) (x : Int32) : ev 183 116 (l0 :: l1 :: l2 :: l3 :: some (.int x) :: L) (st) h = ev 183 119 (l0 :: l1 :: l2 :: vkk l3 :: some (.int (x + (1 : Int32))) :: L) (st) h := G_iinc f183_116 rfl (by decide) (S1_4 l0 l1 l2 l3 (some (.int x)) L _)
theorem f183_119 : fetch 183 119 = some (.goto (-54), 3) := vtab tk183 68 rfl
theorem e183_119 (L : VL) (st : List Value) (h : VG) : ev 183 119 L (st) h = ev 183 65 L (st) h := G_goto f183_119 (by decide)
theorem f183_122 : fetch 183 122 = some (.iconst 1, 1) := vtab tk183 69 rfl
theorem e183_122 (L : VL) (st : List Value) (h : VG) : ev 183 122 L (st) h = ev 183 123 L (.int (1 : Int32) :: st) h := G_iconst f183_122 (by decide)
theorem f183_123 : fetch 183 123 = some (.ireturn, 1) := vtab tk183 70 rfl
theorem e183_123 (L : VL) (h : VG) (x : Int32) (hz : x = 0 ∨ x = 1) : ev 183 123 L [.int x] h = some (some (.int x), h) := G_iret f183_123 (ty := .boolean) (by decide) (vbool hz).1
/-! 184 GuestCallsModel.takes(I)V -/
def tb184 : List (Nat × Instr × Nat) := [(0, .aload_n 0, 1), (1, .aload_n 0, 1), (2, .getfield 82, 3), (5, .iload_n 1, 1), (6, .iaload, 1), (7, .putfield 309, 3), (10, .aload_n 0, 1), (11, .aload_n 0, 1), (12, .getfield 85, 3), (15, .iload_n 1, 1), (16, .laload, 1), (17, .putfield 312, 3), (20, .aload_n 0, 1), (21, .aload_n 0, 1), (22, .getfield 88, 3), (25, .iload_n 1, 1), (26, .daload, 1), (27, .putfield 321, 3), (30, .aload_n 0, 1), (31, .iconst 0, 1), (32, .putfield 316, 3), (35, .return_, 1)]
theorem tk184 : tb184.all (fun q => decide (fetch 184 q.1 = some q.2)) = true := by decide +kernel
theorem f184_0 : fetch 184 0 = some (.aload_n 0, 1) := vtab tk184 0 rfl
theorem e184_0 (L : VL) (st : List Value) (h : VG) (x : Nat) : ev 184 0 (some (.ref x) :: L) (st) h = ev 184 1 (some (.ref x) :: L) (.ref x :: st) h := G_aload_n f184_0 rfl
theorem f184_1 : fetch 184 1 = some (.aload_n 0, 1) := vtab tk184 1 rfl
theorem e184_1 (L : VL) (st : List Value) (h : VG) (x : Nat) : ev 184 1 (some (.ref x) :: L) (st) h = ev 184 2 (some (.ref x) :: L) (.ref x :: st) h := G_aload_n f184_1 rfl
theorem f184_2 : fetch 184 2 = some (.getfield 82, 3) := vtab tk184 2 rfl
theorem e184_2 (L : VL) (st : List Value) (h : VG) (a : Nat) (ho : ob h a 11) (hr : isR h a 44) : ev 184 2 L (.ref a :: st) h = ev 184 5 L (.ref (gR h a 44) :: st) h := G_getR (p := 1057) f184_2 lkF_12_82 (by decide) (by decide) ho hr
theorem f184_5 : fetch 184 5 = some (.iload_n 1, 1) := vtab tk184 3 rfl
theorem e184_5 (l0 : Option Value) (L : VL) (st : List Value) (h : VG) (x : Int32) : ev 184 5 (l0 :: some (.int x) :: L) (st) h = ev 184 6 (l0 :: some (.int x) :: L) (.int x :: st) h := G_iload_n f184_5 rfl
theorem f184_6 : fetch 184 6 = some (.iaload, 1) := vtab tk184 4 rfl
theorem e184_6 (L : VL) (st : List Value) (h : VG) (a : Nat) (i : Int32) (ha : rdI h a) (hi : vp_in i (aln h a)) : ev 184 6 L (.int i :: .ref a :: st) h = ev 184 7 L (.int (aI h a i.toNatClampNeg) :: st) h := G_iald' f184_6 ha hi
theorem f184_7 : fetch 184 7 = some (.putfield 309, 3) := vtab tk184 5 rfl
theorem e184_7 (L : VL) (st : List Value) (h : VG) (a : Nat) (x : Int32) (ho : ob h a 11) : ev 184 7 L (.int x :: .ref a :: st) h = ev 184 10 L (st) (pI h a 38 x) := G_putI (p := 1051) f184_7 lkF_12_309 (by decide) (by decide) (by decide +kernel) ⟨rfl, rfl⟩ ho
theorem f184_10 : fetch 184 10 = some (.aload_n 0, 1) := vtab tk184 6 rfl
theorem e184_10 (L : VL) (st : List Value) (h : VG) (x : Nat) : ev 184 10 (some (.ref x) :: L) (st) h = ev 184 11 (some (.ref x) :: L) (.ref x :: st) h := G_aload_n f184_10 rfl
theorem f184_11 : fetch 184 11 = some (.aload_n 0, 1) := vtab tk184 7 rfl
theorem e184_11 (L : VL) (st : List Value) (h : VG) (x : Nat) : ev 184 11 (some (.ref x) :: L) (st) h = ev 184 12 (some (.ref x) :: L) (.ref x :: st) h := G_aload_n f184_11 rfl
theorem f184_12 : fetch 184 12 = some (.getfield 85, 3) := vtab tk184 8 rfl
theorem e184_12 (L : VL) (st : List Value) (h : VG) (a : Nat) (ho : ob h a 11) (hr : isR h a 45) : ev 184 12 L (.ref a :: st) h = ev 184 15 L (.ref (gR h a 45) :: st) h := G_getR (p := 1058) f184_12 lkF_12_85 (by decide) (by decide) ho hr
theorem f184_15 : fetch 184 15 = some (.iload_n 1, 1) := vtab tk184 9 rfl
theorem e184_15 (l0 : Option Value) (L : VL) (st : List Value) (h : VG) (x : Int32) : ev 184 15 (l0 :: some (.int x) :: L) (st) h = ev 184 16 (l0 :: some (.int x) :: L) (.int x :: st) h := G_iload_n f184_15 rfl
theorem f184_16 : fetch 184 16 = some (.laload, 1) := vtab tk184 10 rfl
theorem e184_16 (L : VL) (st : List Value) (h : VG) (a : Nat) (i : Int32) (ha : arL h a) (hi : vp_in i (aln h a)) : ev 184 16 L (.int i :: .ref a :: st) h = ev 184 17 L (.long (aL h a i.toNatClampNeg) :: st) h := G_lald f184_16 ha hi
theorem f184_17 : fetch 184 17 = some (.putfield 312, 3) := vtab tk184 11 rfl
theorem e184_17 (L : VL) (st : List Value) (h : VG) (a : Nat) (x : Int64) (ho : ob h a 11) : ev 184 17 L (.long x :: .ref a :: st) h = ev 184 20 L (st) (pL h a 39 x) := G_putL (p := 1052) f184_17 lkF_12_312 (by decide) (by decide) (by decide +kernel) ⟨rfl, rfl⟩ ho
theorem f184_20 : fetch 184 20 = some (.aload_n 0, 1) := vtab tk184 12 rfl
theorem e184_20 (L : VL) (st : List Value) (h : VG) (x : Nat) : ev 184 20 (some (.ref x) :: L) (st) h = ev 184 21 (some (.ref x) :: L) (.ref x :: st) h := G_aload_n f184_20 rfl
theorem f184_21 : fetch 184 21 = some (.aload_n 0, 1) := vtab tk184 13 rfl
theorem e184_21 (L : VL) (st : List Value) (h : VG) (x : Nat) : ev 184 21 (some (.ref x) :: L) (st) h = ev 184 22 (some (.ref x) :: L) (.ref x :: st) h := G_aload_n f184_21 rfl
theorem f184_22 : fetch 184 22 = some (.getfield 88, 3) := vtab tk184 14 rfl
theorem e184_22 (L : VL) (st : List Value) (h : VG) (a : Nat) (ho : ob h a 11) (hr : isR h a 46) : ev 184 22 L (.ref a :: st) h = ev 184 25 L (.ref (gR h a 46) :: st) h := G_getR (p := 1059) f184_22 lkF_12_88 (by decide) (by decide) ho hr
theorem f184_25 : fetch 184 25 = some (.iload_n 1, 1) := vtab tk184 15 rfl
theorem e184_25 (l0 : Option Value) (L : VL) (st : List Value) (h : VG) (x : Int32) : ev 184 25 (l0 :: some (.int x) :: L) (st) h = ev 184 26 (l0 :: some (.int x) :: L) (.int x :: st) h := G_iload_n f184_25 rfl
theorem f184_26 : fetch 184 26 = some (.daload, 1) := vtab tk184 16 rfl
theorem e184_26 (L : VL) (st : List Value) (h : VG) (a : Nat) (i : Int32) (ha : arD h a) (hi : vp_in i (aln h a)) : ev 184 26 L (.int i :: .ref a :: st) h = ev 184 27 L (.double (aD h a i.toNatClampNeg) :: st) h := G_dald f184_26 ha hi
theorem f184_27 : fetch 184 27 = some (.putfield 321, 3) := vtab tk184 17 rfl
theorem e184_27 (L : VL) (st : List Value) (h : VG) (a : Nat) (x : UInt64) (ho : ob h a 11) : ev 184 27 L (.double x :: .ref a :: st) h = ev 184 30 L (st) (pD h a 40 x) := G_putD (p := 1053) f184_27 lkF_12_321 (by decide) (by decide) (by decide +kernel) ⟨rfl, rfl⟩ ho
theorem f184_30 : fetch 184 30 = some (.aload_n 0, 1) := vtab tk184 18 rfl
theorem e184_30 (L : VL) (st : List Value) (h : VG) (x : Nat) : ev 184 30 (some (.ref x) :: L) (st) h = ev 184 31 (some (.ref x) :: L) (.ref x :: st) h := G_aload_n f184_30 rfl
theorem f184_31 : fetch 184 31 = some (.iconst 0, 1) := vtab tk184 19 rfl
theorem e184_31 (L : VL) (st : List Value) (h : VG) : ev 184 31 L (st) h = ev 184 32 L (.int (0 : Int32) :: st) h := G_iconst f184_31 (by decide)
theorem f184_32 : fetch 184 32 = some (.putfield 316, 3) := vtab tk184 20 rfl
theorem e184_32 (L : VL) (st : List Value) (h : VG) (a : Nat) (x : Int32) (ho : ob h a 11) (hz : x = 0 ∨ x = 1) : ev 184 32 L (.int x :: .ref a :: st) h = ev 184 35 L (st) (pI h a 41 x) := G_putI (ci := 11) (p := 1054) f184_32 lkF_12_316 (by decide) (by decide) (by decide +kernel) (vbool hz) ho
theorem f184_35 : fetch 184 35 = some (.return_, 1) := vtab tk184 21 rfl
theorem e184_35 (L : VL) (h : VG) : ev 184 35 L [] h = some (none, h) := G_vret f184_35 (by decide)
/-! 185 GuestCallsModel.lays(I)V -/
def tb185 : List (Nat × Instr × Nat) := [(0, .aload_n 0, 1), (1, .getfield 82, 3), (4, .iload_n 1, 1), (5, .aload_n 0, 1), (6, .getfield 309, 3), (9, .iastore, 1), (10, .aload_n 0, 1), (11, .getfield 85, 3), (14, .iload_n 1, 1), (15, .aload_n 0, 1), (16, .getfield 312, 3), (19, .lastore, 1), (20, .aload_n 0, 1), (21, .getfield 88, 3), (24, .iload_n 1, 1), (25, .aload_n 0, 1), (26, .getfield 321, 3), (29, .dastore, 1), (30, .return_, 1)]
theorem tk185 : tb185.all (fun q => decide (fetch 185 q.1 = some q.2)) = true := by decide +kernel
theorem f185_0 : fetch 185 0 = some (.aload_n 0, 1) := vtab tk185 0 rfl
theorem e185_0 (L : VL) (st : List Value) (h : VG) (x : Nat) : ev 185 0 (some (.ref x) :: L) (st) h = ev 185 1 (some (.ref x) :: L) (.ref x :: st) h := G_aload_n f185_0 rfl
theorem f185_1 : fetch 185 1 = some (.getfield 82, 3) := vtab tk185 1 rfl
theorem e185_1 (L : VL) (st : List Value) (h : VG) (a : Nat) (ho : ob h a 11) (hr : isR h a 44) : ev 185 1 L (.ref a :: st) h = ev 185 4 L (.ref (gR h a 44) :: st) h := G_getR (p := 1057) f185_1 lkF_12_82 (by decide) (by decide) ho hr
theorem f185_4 : fetch 185 4 = some (.iload_n 1, 1) := vtab tk185 2 rfl
theorem e185_4 (l0 : Option Value) (L : VL) (st : List Value) (h : VG) (x : Int32) : ev 185 4 (l0 :: some (.int x) :: L) (st) h = ev 185 5 (l0 :: some (.int x) :: L) (.int x :: st) h := G_iload_n f185_4 rfl
theorem f185_5 : fetch 185 5 = some (.aload_n 0, 1) := vtab tk185 3 rfl
theorem e185_5 (L : VL) (st : List Value) (h : VG) (x : Nat) : ev 185 5 (some (.ref x) :: L) (st) h = ev 185 6 (some (.ref x) :: L) (.ref x :: st) h := G_aload_n f185_5 rfl
theorem f185_6 : fetch 185 6 = some (.getfield 309, 3) := vtab tk185 4 rfl
theorem e185_6 (L : VL) (st : List Value) (h : VG) (a : Nat) (ho : ob h a 11) : ev 185 6 L (.ref a :: st) h = ev 185 9 L (.int (gI h a 38) :: st) h := G_getI (p := 1051) f185_6 lkF_12_309 (by decide) (by decide) ho
theorem f185_9 : fetch 185 9 = some (.iastore, 1) := vtab tk185 5 rfl
theorem e185_9 (L : VL) (st : List Value) (h : VG) (a : Nat) (i : Int32) (x : Int32) (ha : arI h a 0) (hi : vp_in i (aln h a)) : ev 185 9 L (.int x :: .int i :: .ref a :: st) h = ev 185 10 L (st) (wI h a i.toNatClampNeg x) := G_iast f185_9 ha hi
theorem f185_10 : fetch 185 10 = some (.aload_n 0, 1) := vtab tk185 6 rfl
theorem e185_10 (L : VL) (st : List Value) (h : VG) (x : Nat) : ev 185 10 (some (.ref x) :: L) (st) h = ev 185 11 (some (.ref x) :: L) (.ref x :: st) h := G_aload_n f185_10 rfl
theorem f185_11 : fetch 185 11 = some (.getfield 85, 3) := vtab tk185 7 rfl
theorem e185_11 (L : VL) (st : List Value) (h : VG) (a : Nat) (ho : ob h a 11) (hr : isR h a 45) : ev 185 11 L (.ref a :: st) h = ev 185 14 L (.ref (gR h a 45) :: st) h := G_getR (p := 1058) f185_11 lkF_12_85 (by decide) (by decide) ho hr
theorem f185_14 : fetch 185 14 = some (.iload_n 1, 1) := vtab tk185 8 rfl
theorem e185_14 (l0 : Option Value) (L : VL) (st : List Value) (h : VG) (x : Int32) : ev 185 14 (l0 :: some (.int x) :: L) (st) h = ev 185 15 (l0 :: some (.int x) :: L) (.int x :: st) h := G_iload_n f185_14 rfl
theorem f185_15 : fetch 185 15 = some (.aload_n 0, 1) := vtab tk185 9 rfl
theorem e185_15 (L : VL) (st : List Value) (h : VG) (x : Nat) : ev 185 15 (some (.ref x) :: L) (st) h = ev 185 16 (some (.ref x) :: L) (.ref x :: st) h := G_aload_n f185_15 rfl
theorem f185_16 : fetch 185 16 = some (.getfield 312, 3) := vtab tk185 10 rfl
theorem e185_16 (L : VL) (st : List Value) (h : VG) (a : Nat) (ho : ob h a 11) : ev 185 16 L (.ref a :: st) h = ev 185 19 L (.long (gL h a 39) :: st) h := G_getL (p := 1052) f185_16 lkF_12_312 (by decide) (by decide) ho
theorem f185_19 : fetch 185 19 = some (.lastore, 1) := vtab tk185 11 rfl
theorem e185_19 (L : VL) (st : List Value) (h : VG) (a : Nat) (i : Int32) (x : Int64) (ha : arL h a) (hi : vp_in i (aln h a)) : ev 185 19 L (.long x :: .int i :: .ref a :: st) h = ev 185 20 L (st) (wL h a i.toNatClampNeg x) := G_last f185_19 ha hi
theorem f185_20 : fetch 185 20 = some (.aload_n 0, 1) := vtab tk185 12 rfl
theorem e185_20 (L : VL) (st : List Value) (h : VG) (x : Nat) : ev 185 20 (some (.ref x) :: L) (st) h = ev 185 21 (some (.ref x) :: L) (.ref x :: st) h := G_aload_n f185_20 rfl
theorem f185_21 : fetch 185 21 = some (.getfield 88, 3) := vtab tk185 13 rfl
theorem e185_21 (L : VL) (st : List Value) (h : VG) (a : Nat) (ho : ob h a 11) (hr : isR h a 46) : ev 185 21 L (.ref a :: st) h = ev 185 24 L (.ref (gR h a 46) :: st) h := G_getR (p := 1059) f185_21 lkF_12_88 (by decide) (by decide) ho hr
theorem f185_24 : fetch 185 24 = some (.iload_n 1, 1) := vtab tk185 14 rfl
theorem e185_24 (l0 : Option Value) (L : VL) (st : List Value) (h : VG) (x : Int32) : ev 185 24 (l0 :: some (.int x) :: L) (st) h = ev 185 25 (l0 :: some (.int x) :: L) (.int x :: st) h := G_iload_n f185_24 rfl
theorem f185_25 : fetch 185 25 = some (.aload_n 0, 1) := vtab tk185 15 rfl
theorem e185_25 (L : VL) (st : List Value) (h : VG) (x : Nat) : ev 185 25 (some (.ref x) :: L) (st) h = ev 185 26 (some (.ref x) :: L) (.ref x :: st) h := G_aload_n f185_25 rfl
theorem f185_26 : fetch 185 26 = some (.getfield 321, 3) := vtab tk185 16 rfl
theorem e185_26 (L : VL) (st : List Value) (h : VG) (a : Nat) (ho : ob h a 11) : ev 185 26 L (.ref a :: st) h = ev 185 29 L (.double (gD h a 40) :: st) h := G_getD (p := 1053) f185_26 lkF_12_321 (by decide) (by decide) ho
theorem f185_29 : fetch 185 29 = some (.dastore, 1) := vtab tk185 17 rfl
theorem e185_29 (L : VL) (st : List Value) (h : VG) (a : Nat) (i : Int32) (x : UInt64) (ha : arD h a) (hi : vp_in i (aln h a)) : ev 185 29 L (.double x :: .int i :: .ref a :: st) h = ev 185 30 L (st) (wD h a i.toNatClampNeg x) := G_dast f185_29 ha hi
theorem f185_30 : fetch 185 30 = some (.return_, 1) := vtab tk185 18 rfl
theorem e185_30 (L : VL) (h : VG) : ev 185 30 L [] h = some (none, h) := G_vret f185_30 (by decide)
/-! 186 GuestCallsModel.hasCell(II)Z -/
def tb186 : List (Nat × Instr × Nat) := [(0, .iload_n 2, 1), (1, .iconst 0, 1), (2, .aload_n 0, 1), (3, .getfield 79, 3), (6, .iload_n 1, 1), (7, .iaload, 1), (8, .iconst 1, 1), (9, .isub, 1), (10, .invokestatic 260, 3), (13, .ireturn, 1)]
theorem tk186 : tb186.all (fun q => decide (fetch 186 q.1 = some q.2)) = true := by decide +kernel
theorem f186_0 : fetch 186 0 = some (.iload_n 2, 1) := vtab tk186 0 rfl
theorem e186_0 (l0 l1 : Option Value) (L : VL) (st : List Value) (h : VG) (x : Int32) : ev 186 0 (l0 :: l1 :: some (.int x) :: L) (st) h = ev 186 1 (l0 :: l1 :: some (.int x) :: L) (.int x :: st) h := G_iload_n f186_0 rfl
theorem f186_1 : fetch 186 1 = some (.iconst 0, 1) := vtab tk186 1 rfl
theorem e186_1 (L : VL) (st : List Value) (h : VG) : ev 186 1 L (st) h = ev 186 2 L (.int (0 : Int32) :: st) h := G_iconst f186_1 (by decide)
theorem f186_2 : fetch 186 2 = some (.aload_n 0, 1) := vtab tk186 2 rfl
theorem e186_2 (L : VL) (st : List Value) (h : VG) (x : Nat) : ev 186 2 (some (.ref x) :: L) (st) h = ev 186 3 (some (.ref x) :: L) (.ref x :: st) h := G_aload_n f186_2 rfl
theorem f186_3 : fetch 186 3 = some (.getfield 79, 3) := vtab tk186 3 rfl
theorem e186_3 (L : VL) (st : List Value) (h : VG) (a : Nat) (ho : ob h a 11) (hr : isR h a 43) : ev 186 3 L (.ref a :: st) h = ev 186 6 L (.ref (gR h a 43) :: st) h := G_getR (p := 1056) f186_3 lkF_12_79 (by decide) (by decide) ho hr
theorem f186_6 : fetch 186 6 = some (.iload_n 1, 1) := vtab tk186 4 rfl
theorem e186_6 (l0 : Option Value) (L : VL) (st : List Value) (h : VG) (x : Int32) : ev 186 6 (l0 :: some (.int x) :: L) (st) h = ev 186 7 (l0 :: some (.int x) :: L) (.int x :: st) h := G_iload_n f186_6 rfl
theorem f186_7 : fetch 186 7 = some (.iaload, 1) := vtab tk186 5 rfl
theorem e186_7 (L : VL) (st : List Value) (h : VG) (a : Nat) (i : Int32) (ha : rdI h a) (hi : vp_in i (aln h a)) : ev 186 7 L (.int i :: .ref a :: st) h = ev 186 8 L (.int (aI h a i.toNatClampNeg) :: st) h := G_iald' f186_7 ha hi
theorem f186_8 : fetch 186 8 = some (.iconst 1, 1) := vtab tk186 6 rfl
theorem e186_8 (L : VL) (st : List Value) (h : VG) : ev 186 8 L (st) h = ev 186 9 L (.int (1 : Int32) :: st) h := G_iconst f186_8 (by decide)
theorem f186_9 : fetch 186 9 = some (.isub, 1) := vtab tk186 7 rfl
theorem e186_9 (L : VL) (st : List Value) (h : VG) (x y : Int32) : ev 186 9 L (.int y :: .int x :: st) h = ev 186 10 L (.int (x - y) :: st) h := G_isub f186_9
theorem f186_10 : fetch 186 10 = some (.invokestatic 260, 3) := vtab tk186 8 rfl
theorem e186_10 (L : VL) (st : List Value) (h : VG) (x0 : Int32) (x1 : Int32) (x2 : Int32) (hs : catS st ≤ 8) : ev 186 10 L (.int x2 :: .int x1 :: .int x0 :: st) h = (ev 162 0 [some (.int x0), some (.int x1), some (.int x2)] [] h).bind fun q => ev 186 13 L (q.1.toList ++ st) q.2 := G_calls (k := 0) (p := 1286) (ars := [.int x0, .int x1, .int x2]) f186_10 lkC_12_260 (by decide) (by decide +kernel) rfl (Nat.le_of_ble_eq_true rfl) hs rfl
theorem f186_13 : fetch 186 13 = some (.ireturn, 1) := vtab tk186 9 rfl
theorem e186_13 (L : VL) (h : VG) (x : Int32) (hz : x = 0 ∨ x = 1) : ev 186 13 L [.int x] h = some (some (.int x), h) := G_iret f186_13 (ty := .boolean) (by decide) (vbool hz).1
/-! 187 GuestCallsModel.whyNot(II)I -/
def tb187 : List (Nat × Instr × Nat) := [(0, .aload_n 0, 1), (1, .getfield 76, 3), (4, .iload_n 1, 1), (5, .iaload, 1), (6, .bipush 11, 2), (8, .if_icmp .ne 7, 3), (11, .iconst 3, 1), (12, .goto 32, 3), (15, .aload_n 0, 1), (16, .getfield 76, 3), (19, .iload_n 1, 1), (20, .iaload, 1), (21, .bipush 8, 2), (23, .if_icmp .lt 7, 3), (26, .iconst 2, 1), (27, .goto 17, 3), (30, .aload_n 0, 1), (31, .iload_n 1, 1), (32, .iload_n 2, 1), (33, .invokevirtual 328, 3), (36, .ifCond .eq 7, 3), (39, .iconst 0, 1), (40, .goto 4, 3), (43, .iconst 1, 1), (44, .ireturn, 1)]
theorem tk187 : tb187.all (fun q => decide (fetch 187 q.1 = some q.2)) = true := by decide +kernel
theorem f187_0 : fetch 187 0 = some (.aload_n 0, 1) := vtab tk187 0 rfl
theorem e187_0 (L : VL) (st : List Value) (h : VG) (x : Nat) : ev 187 0 (some (.ref x) :: L) (st) h = ev 187 1 (some (.ref x) :: L) (.ref x :: st) h := G_aload_n f187_0 rfl
theorem f187_1 : fetch 187 1 = some (.getfield 76, 3) := vtab tk187 1 rfl
theorem e187_1 (L : VL) (st : List Value) (h : VG) (a : Nat) (ho : ob h a 11) (hr : isR h a 42) : ev 187 1 L (.ref a :: st) h = ev 187 4 L (.ref (gR h a 42) :: st) h := G_getR (p := 1055) f187_1 lkF_12_76 (by decide) (by decide) ho hr
theorem f187_4 : fetch 187 4 = some (.iload_n 1, 1) := vtab tk187 2 rfl
theorem e187_4 (l0 : Option Value) (L : VL) (st : List Value) (h : VG) (x : Int32) : ev 187 4 (l0 :: some (.int x) :: L) (st) h = ev 187 5 (l0 :: some (.int x) :: L) (.int x :: st) h := G_iload_n f187_4 rfl
theorem f187_5 : fetch 187 5 = some (.iaload, 1) := vtab tk187 3 rfl
theorem e187_5 (L : VL) (st : List Value) (h : VG) (a : Nat) (i : Int32) (ha : rdI h a) (hi : vp_in i (aln h a)) : ev 187 5 L (.int i :: .ref a :: st) h = ev 187 6 L (.int (aI h a i.toNatClampNeg) :: st) h := G_iald' f187_5 ha hi
theorem f187_6 : fetch 187 6 = some (.bipush 11, 2) := vtab tk187 4 rfl
theorem e187_6 (L : VL) (st : List Value) (h : VG) : ev 187 6 L (st) h = ev 187 8 L (.int (11 : Int32) :: st) h := G_bipush f187_6 (by decide)
theorem f187_8 : fetch 187 8 = some (.if_icmp .ne 7, 3) := vtab tk187 5 rfl
theorem e187_8 (L : VL) (st : List Value) (h : VG) (x y : Int32) : ev 187 8 L (.int y :: .int x :: st) h = if x = y then ev 187 11 L st h else ev 187 15 L st h := G_icmp_ne f187_8 (by decide)
theorem f187_11 : fetch 187 11 = some (.iconst 3, 1) := vtab tk187 6 rfl
theorem e187_11 (L : VL) (st : List Value) (h : VG) : ev 187 11 L (st) h = ev 187 12 L (.int (3 : Int32) :: st) h := G_iconst f187_11 (by decide)
theorem f187_12 : fetch 187 12 = some (.goto 32, 3) := vtab tk187 7 rfl
theorem e187_12 (L : VL) (st : List Value) (h : VG) : ev 187 12 L (st) h = ev 187 44 L (st) h := G_goto f187_12 (by decide)
theorem f187_15 : fetch 187 15 = some (.aload_n 0, 1) := vtab tk187 8 rfl
theorem e187_15 (L : VL) (st : List Value) (h : VG) (x : Nat) : ev 187 15 (some (.ref x) :: L) (st) h = ev 187 16 (some (.ref x) :: L) (.ref x :: st) h := G_aload_n f187_15 rfl
theorem f187_16 : fetch 187 16 = some (.getfield 76, 3) := vtab tk187 9 rfl
theorem e187_16 (L : VL) (st : List Value) (h : VG) (a : Nat) (ho : ob h a 11) (hr : isR h a 42) : ev 187 16 L (.ref a :: st) h = ev 187 19 L (.ref (gR h a 42) :: st) h := G_getR (p := 1055) f187_16 lkF_12_76 (by decide) (by decide) ho hr
theorem f187_19 : fetch 187 19 = some (.iload_n 1, 1) := vtab tk187 10 rfl
theorem e187_19 (l0 : Option Value) (L : VL) (st : List Value) (h : VG) (x : Int32) : ev 187 19 (l0 :: some (.int x) :: L) (st) h = ev 187 20 (l0 :: some (.int x) :: L) (.int x :: st) h := G_iload_n f187_19 rfl
theorem f187_20 : fetch 187 20 = some (.iaload, 1) := vtab tk187 11 rfl
theorem e187_20 (L : VL) (st : List Value) (h : VG) (a : Nat) (i : Int32) (ha : rdI h a) (hi : vp_in i (aln h a)) : ev 187 20 L (.int i :: .ref a :: st) h = ev 187 21 L (.int (aI h a i.toNatClampNeg) :: st) h := G_iald' f187_20 ha hi
theorem f187_21 : fetch 187 21 = some (.bipush 8, 2) := vtab tk187 12 rfl
theorem e187_21 (L : VL) (st : List Value) (h : VG) : ev 187 21 L (st) h = ev 187 23 L (.int (8 : Int32) :: st) h := G_bipush f187_21 (by decide)
theorem f187_23 : fetch 187 23 = some (.if_icmp .lt 7, 3) := vtab tk187 13 rfl
theorem e187_23 (L : VL) (st : List Value) (h : VG) (x y : Int32) : ev 187 23 L (.int y :: .int x :: st) h = if x < y then ev 187 30 L st h else ev 187 26 L st h := G_icmp_lt f187_23 (by decide)
theorem f187_26 : fetch 187 26 = some (.iconst 2, 1) := vtab tk187 14 rfl
theorem e187_26 (L : VL) (st : List Value) (h : VG) : ev 187 26 L (st) h = ev 187 27 L (.int (2 : Int32) :: st) h := G_iconst f187_26 (by decide)
theorem f187_27 : fetch 187 27 = some (.goto 17, 3) := vtab tk187 15 rfl
theorem e187_27 (L : VL) (st : List Value) (h : VG) : ev 187 27 L (st) h = ev 187 44 L (st) h := G_goto f187_27 (by decide)
theorem f187_30 : fetch 187 30 = some (.aload_n 0, 1) := vtab tk187 16 rfl
theorem e187_30 (L : VL) (st : List Value) (h : VG) (x : Nat) : ev 187 30 (some (.ref x) :: L) (st) h = ev 187 31 (some (.ref x) :: L) (.ref x :: st) h := G_aload_n f187_30 rfl
theorem f187_31 : fetch 187 31 = some (.iload_n 1, 1) := vtab tk187 17 rfl
theorem e187_31 (l0 : Option Value) (L : VL) (st : List Value) (h : VG) (x : Int32) : ev 187 31 (l0 :: some (.int x) :: L) (st) h = ev 187 32 (l0 :: some (.int x) :: L) (.int x :: st) h := G_iload_n f187_31 rfl
theorem f187_32 : fetch 187 32 = some (.iload_n 2, 1) := vtab tk187 18 rfl
theorem e187_32 (l0 l1 : Option Value) (L : VL) (st : List Value) (h : VG) (x : Int32) : ev 187 32 (l0 :: l1 :: some (.int x) :: L) (st) h = ev 187 33 (l0 :: l1 :: some (.int x) :: L) (.int x :: st) h := G_iload_n f187_32 rfl
theorem f187_33 : fetch 187 33 = some (.invokevirtual 328, 3) := vtab tk187 19 rfl
theorem e187_33 (L : VL) (st : List Value) (h : VG) (b : Nat) (x0 : Int32) (x1 : Int32) (ho : ob h b 11) (hs : catS st ≤ 8) : ev 187 33 L (.int x1 :: .int x0 :: .ref b :: st) h = (ev 186 0 [some (.ref b), some (.int x0), some (.int x1)] [] h).bind fun q => ev 187 36 L (q.1.toList ++ st) q.2 := G_callv (k := 1) (p := 1385) (ars := [.int x0, .int x1]) f187_33 lkC_12_328 (by decide) (by decide +kernel) rfl (vcls_ob (ci := 11) (by decide) ho) (Nat.le_of_ble_eq_true rfl) hs rfl
theorem f187_36 : fetch 187 36 = some (.ifCond .eq 7, 3) := vtab tk187 20 rfl
theorem e187_36 (L : VL) (st : List Value) (h : VG) (x : Int32) : ev 187 36 L (.int x :: st) h = if x = 0 then ev 187 43 L st h else ev 187 39 L st h := G_if_eq f187_36 (by decide)
theorem f187_39 : fetch 187 39 = some (.iconst 0, 1) := vtab tk187 21 rfl
theorem e187_39 (L : VL) (st : List Value) (h : VG) : ev 187 39 L (st) h = ev 187 40 L (.int (0 : Int32) :: st) h := G_iconst f187_39 (by decide)
theorem f187_40 : fetch 187 40 = some (.goto 4, 3) := vtab tk187 22 rfl
theorem e187_40 (L : VL) (st : List Value) (h : VG) : ev 187 40 L (st) h = ev 187 44 L (st) h := G_goto f187_40 (by decide)
theorem f187_43 : fetch 187 43 = some (.iconst 1, 1) := vtab tk187 23 rfl
theorem e187_43 (L : VL) (st : List Value) (h : VG) : ev 187 43 L (st) h = ev 187 44 L (.int (1 : Int32) :: st) h := G_iconst f187_43 (by decide)
theorem f187_44 : fetch 187 44 = some (.ireturn, 1) := vtab tk187 24 rfl
theorem e187_44 (L : VL) (h : VG) (x : Int32) : ev 187 44 L [.int x] h = some (some (.int x), h) := G_iret f187_44 (ty := .int) (by decide) rfl
/-! 188 GuestCallsModel.reads(III)I -/
def tb188 : List (Nat × Instr × Nat) := [(0, .aload_n 0, 1), (1, .iload_n 1, 1), (2, .iload_n 2, 1), (3, .invokevirtual 332, 3), (6, .istore 4, 2), (8, .iload 4, 2), (10, .ifCond .le 6, 3), (13, .iload 4, 2), (15, .ireturn, 1), (16, .aload_n 0, 1), (17, .getfield 76, 3), (20, .iload_n 1, 1), (21, .iaload, 1), (22, .iload_n 3, 1), (23, .invokestatic 335, 3), (26, .ifCond .ne 5, 3), (29, .iconst 2, 1), (30, .ireturn, 1), (31, .aload_n 0, 1), (32, .bipush 40, 2), (34, .iload_n 1, 1), (35, .imul, 1), (36, .iload_n 2, 1), (37, .iadd, 1), (38, .invokevirtual 338, 3), (41, .aload_n 0, 1), (42, .iload_n 3, 1), (43, .invokevirtual 341, 3), (46, .iconst 0, 1), (47, .ireturn, 1)]
theorem tk188 : tb188.all (fun q => decide (fetch 188 q.1 = some q.2)) = true := by decide +kernel
theorem f188_0 : fetch 188 0 = some (.aload_n 0, 1) := vtab tk188 0 rfl
theorem e188_0 (L : VL) (st : List Value) (h : VG) (x : Nat) : ev 188 0 (some (.ref x) :: L) (st) h = ev 188 1 (some (.ref x) :: L) (.ref x :: st) h := G_aload_n f188_0 rfl
theorem f188_1 : fetch 188 1 = some (.iload_n 1, 1) := vtab tk188 1 rfl
theorem e188_1 (l0 : Option Value) (L : VL) (st : List Value) (h : VG) (x : Int32) : ev 188 1 (l0 :: some (.int x) :: L) (st) h = ev 188 2 (l0 :: some (.int x) :: L) (.int x :: st) h := G_iload_n f188_1 rfl
theorem f188_2 : fetch 188 2 = some (.iload_n 2, 1) := vtab tk188 2 rfl
theorem e188_2 (l0 l1 : Option Value) (L : VL) (st : List Value) (h : VG) (x : Int32) : ev 188 2 (l0 :: l1 :: some (.int x) :: L) (st) h = ev 188 3 (l0 :: l1 :: some (.int x) :: L) (.int x :: st) h := G_iload_n f188_2 rfl
theorem f188_3 : fetch 188 3 = some (.invokevirtual 332, 3) := vtab tk188 3 rfl
theorem e188_3 (L : VL) (st : List Value) (h : VG) (b : Nat) (x0 : Int32) (x1 : Int32) (ho : ob h b 11) (hs : catS st ≤ 8) : ev 188 3 L (.int x1 :: .int x0 :: .ref b :: st) h = (ev 187 0 [some (.ref b), some (.int x0), some (.int x1)] [] h).bind fun q => ev 188 6 L (q.1.toList ++ st) q.2 := G_callv (k := 1) (p := 1381) (ars := [.int x0, .int x1]) f188_3 lkC_12_332 (by decide) (by decide +kernel) rfl (vcls_ob (ci := 11) (by decide) ho) (Nat.le_of_ble_eq_true rfl) hs rfl
theorem f188_6 : fetch 188 6 = some (.istore 4, 2) := vtab tk188 4 rfl
theorem e188_6 (l0 l1 l2 l3 l4 : Option Value) (L : VL) (st : List Value) (h : VG) (x : Int32) : ev 188 6 (l0 :: l1 :: l2 :: l3 :: l4 :: L) (.int x :: st) h = ev 188 8 (l0 :: l1 :: l2 :: vkk l3 :: some (.int x) :: L) (st) h := G_istore f188_6 rfl (S1_4 l0 l1 l2 l3 l4 L _)
theorem f188_8 : fetch 188 8 = some (.iload 4, 2) := vtab tk188 5 rfl
theorem e188_8 (l0 l1 l2 l3 : Option Value) (L : VL) (st : List Value) (h : VG) (x : Int32) : ev 188 8 (l0 :: l1 :: l2 :: l3 :: some (.int x) :: L) (st) h = ev 188 10 (l0 :: l1 :: l2 :: l3 :: some (.int x) :: L) (.int x :: st) h := G_iload f188_8 rfl
theorem f188_10 : fetch 188 10 = some (.ifCond .le 6, 3) := vtab tk188 6 rfl
theorem e188_10 (L : VL) (st : List Value) (h : VG) (x : Int32) : ev 188 10 L (.int x :: st) h = if x ≤ 0 then ev 188 16 L st h else ev 188 13 L st h := G_if_le f188_10 (by decide)
theorem f188_13 : fetch 188 13 = some (.iload 4, 2) := vtab tk188 7 rfl
theorem e188_13 (l0 l1 l2 l3 : Option Value) (L : VL) (st : List Value) (h : VG) (x : Int32) : ev 188 13 (l0 :: l1 :: l2 :: l3 :: some (.int x) :: L) (st) h = ev 188 15 (l0 :: l1 :: l2 :: l3 :: some (.int x) :: L) (.int x :: st) h := G_iload f188_13 rfl
theorem f188_15 : fetch 188 15 = some (.ireturn, 1) := vtab tk188 8 rfl
theorem e188_15 (L : VL) (h : VG) (x : Int32) : ev 188 15 L [.int x] h = some (some (.int x), h) := G_iret f188_15 (ty := .int) (by decide) rfl
theorem f188_16 : fetch 188 16 = some (.aload_n 0, 1) := vtab tk188 9 rfl
theorem e188_16 (L : VL) (st : List Value) (h : VG) (x : Nat) : ev 188 16 (some (.ref x) :: L) (st) h = ev 188 17 (some (.ref x) :: L) (.ref x :: st) h := G_aload_n f188_16 rfl
theorem f188_17 : fetch 188 17 = some (.getfield 76, 3) := vtab tk188 10 rfl
theorem e188_17 (L : VL) (st : List Value) (h : VG) (a : Nat) (ho : ob h a 11) (hr : isR h a 42) : ev 188 17 L (.ref a :: st) h = ev 188 20 L (.ref (gR h a 42) :: st) h := G_getR (p := 1055) f188_17 lkF_12_76 (by decide) (by decide) ho hr
theorem f188_20 : fetch 188 20 = some (.iload_n 1, 1) := vtab tk188 11 rfl
theorem e188_20 (l0 : Option Value) (L : VL) (st : List Value) (h : VG) (x : Int32) : ev 188 20 (l0 :: some (.int x) :: L) (st) h = ev 188 21 (l0 :: some (.int x) :: L) (.int x :: st) h := G_iload_n f188_20 rfl
theorem f188_21 : fetch 188 21 = some (.iaload, 1) := vtab tk188 12 rfl
theorem e188_21 (L : VL) (st : List Value) (h : VG) (a : Nat) (i : Int32) (ha : rdI h a) (hi : vp_in i (aln h a)) : ev 188 21 L (.int i :: .ref a :: st) h = ev 188 22 L (.int (aI h a i.toNatClampNeg) :: st) h := G_iald' f188_21 ha hi
theorem f188_22 : fetch 188 22 = some (.iload_n 3, 1) := vtab tk188 13 rfl
theorem e188_22 (l0 l1 l2 : Option Value) (L : VL) (st : List Value) (h : VG) (x : Int32) : ev 188 22 (l0 :: l1 :: l2 :: some (.int x) :: L) (st) h = ev 188 23 (l0 :: l1 :: l2 :: some (.int x) :: L) (.int x :: st) h := G_iload_n f188_22 rfl
theorem f188_23 : fetch 188 23 = some (.invokestatic 335, 3) := vtab tk188 14 rfl
theorem e188_23 (L : VL) (st : List Value) (h : VG) (x0 : Int32) (x1 : Int32) (hs : catS st ≤ 8) : ev 188 23 L (.int x1 :: .int x0 :: st) h = (ev 177 0 [some (.int x0), some (.int x1)] [] h).bind fun q => ev 188 26 L (q.1.toList ++ st) q.2 := G_calls (k := 0) (p := 1389) (ars := [.int x0, .int x1]) f188_23 lkC_12_335 (by decide) (by decide +kernel) rfl (Nat.le_of_ble_eq_true rfl) hs rfl
theorem f188_26 : fetch 188 26 = some (.ifCond .ne 5, 3) := vtab tk188 15 rfl
theorem e188_26 (L : VL) (st : List Value) (h : VG) (x : Int32) : ev 188 26 L (.int x :: st) h = if x = 0 then ev 188 29 L st h else ev 188 31 L st h := G_if_ne f188_26 (by decide)
theorem f188_29 : fetch 188 29 = some (.iconst 2, 1) := vtab tk188 16 rfl
theorem e188_29 (L : VL) (st : List Value) (h : VG) : ev 188 29 L (st) h = ev 188 30 L (.int (2 : Int32) :: st) h := G_iconst f188_29 (by decide)
theorem f188_30 : fetch 188 30 = some (.ireturn, 1) := vtab tk188 17 rfl
theorem e188_30 (L : VL) (h : VG) (x : Int32) : ev 188 30 L [.int x] h = some (some (.int x), h) := G_iret f188_30 (ty := .int) (by decide) rfl
theorem f188_31 : fetch 188 31 = some (.aload_n 0, 1) := vtab tk188 18 rfl
theorem e188_31 (L : VL) (st : List Value) (h : VG) (x : Nat) : ev 188 31 (some (.ref x) :: L) (st) h = ev 188 32 (some (.ref x) :: L) (.ref x :: st) h := G_aload_n f188_31 rfl
theorem f188_32 : fetch 188 32 = some (.bipush 40, 2) := vtab tk188 19 rfl
theorem e188_32 (L : VL) (st : List Value) (h : VG) : ev 188 32 L (st) h = ev 188 34 L (.int (40 : Int32) :: st) h := G_bipush f188_32 (by decide)
theorem f188_34 : fetch 188 34 = some (.iload_n 1, 1) := vtab tk188 20 rfl
theorem e188_34 (l0 : Option Value) (L : VL) (st : List Value) (h : VG) (x : Int32) : ev 188 34 (l0 :: some (.int x) :: L) (st) h = ev 188 35 (l0 :: some (.int x) :: L) (.int x :: st) h := G_iload_n f188_34 rfl
theorem f188_35 : fetch 188 35 = some (.imul, 1) := vtab tk188 21 rfl
theorem e188_35 (L : VL) (st : List Value) (h : VG) (x y : Int32) : ev 188 35 L (.int y :: .int x :: st) h = ev 188 36 L (.int (x * y) :: st) h := G_imul f188_35
theorem f188_36 : fetch 188 36 = some (.iload_n 2, 1) := vtab tk188 22 rfl
theorem e188_36 (l0 l1 : Option Value) (L : VL) (st : List Value) (h : VG) (x : Int32) : ev 188 36 (l0 :: l1 :: some (.int x) :: L) (st) h = ev 188 37 (l0 :: l1 :: some (.int x) :: L) (.int x :: st) h := G_iload_n f188_36 rfl
theorem f188_37 : fetch 188 37 = some (.iadd, 1) := vtab tk188 23 rfl
theorem e188_37 (L : VL) (st : List Value) (h : VG) (x y : Int32) : ev 188 37 L (.int y :: .int x :: st) h = ev 188 38 L (.int (x + y) :: st) h := G_iadd f188_37
theorem f188_38 : fetch 188 38 = some (.invokevirtual 338, 3) := vtab tk188 24 rfl
theorem e188_38 (L : VL) (st : List Value) (h : VG) (b : Nat) (x0 : Int32) (ho : ob h b 11) (hs : catS st ≤ 8) : ev 188 38 L (.int x0 :: .ref b :: st) h = (ev 184 0 [some (.ref b), some (.int x0)] [] h).bind fun q => ev 188 41 L (q.1.toList ++ st) q.2 := G_callv (k := 1) (p := 1392) (ars := [.int x0]) f188_38 lkC_12_338 (by decide) (by decide +kernel) rfl (vcls_ob (ci := 11) (by decide) ho) (Nat.le_of_ble_eq_true rfl) hs rfl
theorem f188_41 : fetch 188 41 = some (.aload_n 0, 1) := vtab tk188 25 rfl
theorem e188_41 (L : VL) (st : List Value) (h : VG) (x : Nat) : ev 188 41 (some (.ref x) :: L) (st) h = ev 188 42 (some (.ref x) :: L) (.ref x :: st) h := G_aload_n f188_41 rfl
theorem f188_42 : fetch 188 42 = some (.iload_n 3, 1) := vtab tk188 26 rfl
theorem e188_42 (l0 l1 l2 : Option Value) (L : VL) (st : List Value) (h : VG) (x : Int32) : ev 188 42 (l0 :: l1 :: l2 :: some (.int x) :: L) (st) h = ev 188 43 (l0 :: l1 :: l2 :: some (.int x) :: L) (.int x :: st) h := G_iload_n f188_42 rfl
theorem f188_43 : fetch 188 43 = some (.invokevirtual 341, 3) := vtab tk188 27 rfl
theorem e188_43 (L : VL) (st : List Value) (h : VG) (b : Nat) (x0 : Int32) (ho : ob h b 11) (hs : catS st ≤ 8) : ev 188 43 L (.int x0 :: .ref b :: st) h = (ev 179 0 [some (.ref b), some (.int x0)] [] h).bind fun q => ev 188 46 L (q.1.toList ++ st) q.2 := G_callv (k := 1) (p := 1396) (ars := [.int x0]) f188_43 lkC_12_341 (by decide) (by decide +kernel) rfl (vcls_ob (ci := 11) (by decide) ho) (Nat.le_of_ble_eq_true rfl) hs rfl
theorem f188_46 : fetch 188 46 = some (.iconst 0, 1) := vtab tk188 28 rfl
theorem e188_46 (L : VL) (st : List Value) (h : VG) : ev 188 46 L (st) h = ev 188 47 L (.int (0 : Int32) :: st) h := G_iconst f188_46 (by decide)
theorem f188_47 : fetch 188 47 = some (.ireturn, 1) := vtab tk188 29 rfl
theorem e188_47 (L : VL) (h : VG) (x : Int32) : ev 188 47 L [.int x] h = some (some (.int x), h) := G_iret f188_47 (ty := .int) (by decide) rfl
/-! 189 GuestCallsModel.writes(II)I -/
def tb189 : List (Nat × Instr × Nat) := [(0, .aload_n 0, 1), (1, .getfield 316, 3), (4, .ifCond .eq 7, 3), (7, .iconst 4, 1), (8, .goto 9, 3), (11, .aload_n 0, 1), (12, .iload_n 1, 1), (13, .iload_n 2, 1), (14, .invokevirtual 332, 3), (17, .istore_n 3, 1), (18, .iload_n 3, 1), (19, .ifCond .le 5, 3), (22, .iload_n 3, 1), (23, .ireturn, 1), (24, .aload_n 0, 1), (25, .getfield 309, 3), (28, .aload_n 0, 1), (29, .getfield 76, 3), (32, .iload_n 1, 1), (33, .iaload, 1), (34, .invokestatic 335, 3), (37, .ifCond .ne 5, 3), (40, .iconst 2, 1), (41, .ireturn, 1), (42, .aload_n 0, 1), (43, .aload_n 0, 1), (44, .getfield 76, 3), (47, .iload_n 1, 1), (48, .iaload, 1), (49, .invokevirtual 341, 3), (52, .aload_n 0, 1), (53, .bipush 40, 2), (55, .iload_n 1, 1), (56, .imul, 1), (57, .iload_n 2, 1), (58, .iadd, 1), (59, .invokevirtual 344, 3), (62, .iconst 0, 1), (63, .ireturn, 1)]
theorem tk189 : tb189.all (fun q => decide (fetch 189 q.1 = some q.2)) = true := by decide +kernel
theorem f189_0 : fetch 189 0 = some (.aload_n 0, 1) := vtab tk189 0 rfl
theorem e189_0 (L : VL) (st : List Value) (h : VG) (x : Nat) : ev 189 0 (some (.ref x) :: L) (st) h = ev 189 1 (some (.ref x) :: L) (.ref x :: st) h := G_aload_n f189_0 rfl
theorem f189_1 : fetch 189 1 = some (.getfield 316, 3) := vtab tk189 1 rfl
theorem e189_1 (L : VL) (st : List Value) (h : VG) (a : Nat) (ho : ob h a 11) : ev 189 1 L (.ref a :: st) h = ev 189 4 L (.int (gI h a 41) :: st) h := G_getI (p := 1054) f189_1 lkF_12_316 (by decide) (by decide) ho
theorem f189_4 : fetch 189 4 = some (.ifCond .eq 7, 3) := vtab tk189 2 rfl
theorem e189_4 (L : VL) (st : List Value) (h : VG) (x : Int32) : ev 189 4 L (.int x :: st) h = if x = 0 then ev 189 11 L st h else ev 189 7 L st h := G_if_eq f189_4 (by decide)
theorem f189_7 : fetch 189 7 = some (.iconst 4, 1) := vtab tk189 3 rfl
theorem e189_7 (L : VL) (st : List Value) (h : VG) : ev 189 7 L (st) h = ev 189 8 L (.int (4 : Int32) :: st) h := G_iconst f189_7 (by decide)
theorem f189_8 : fetch 189 8 = some (.goto 9, 3) := vtab tk189 4 rfl
theorem e189_8 (L : VL) (st : List Value) (h : VG) : ev 189 8 L (st) h = ev 189 17 L (st) h := G_goto f189_8 (by decide)
theorem f189_11 : fetch 189 11 = some (.aload_n 0, 1) := vtab tk189 5 rfl
theorem e189_11 (L : VL) (st : List Value) (h : VG) (x : Nat) : ev 189 11 (some (.ref x) :: L) (st) h = ev 189 12 (some (.ref x) :: L) (.ref x :: st) h := G_aload_n f189_11 rfl
theorem f189_12 : fetch 189 12 = some (.iload_n 1, 1) := vtab tk189 6 rfl
theorem e189_12 (l0 : Option Value) (L : VL) (st : List Value) (h : VG) (x : Int32) : ev 189 12 (l0 :: some (.int x) :: L) (st) h = ev 189 13 (l0 :: some (.int x) :: L) (.int x :: st) h := G_iload_n f189_12 rfl
theorem f189_13 : fetch 189 13 = some (.iload_n 2, 1) := vtab tk189 7 rfl
theorem e189_13 (l0 l1 : Option Value) (L : VL) (st : List Value) (h : VG) (x : Int32) : ev 189 13 (l0 :: l1 :: some (.int x) :: L) (st) h = ev 189 14 (l0 :: l1 :: some (.int x) :: L) (.int x :: st) h := G_iload_n f189_13 rfl
theorem f189_14 : fetch 189 14 = some (.invokevirtual 332, 3) := vtab tk189 8 rfl
theorem e189_14 (L : VL) (st : List Value) (h : VG) (b : Nat) (x0 : Int32) (x1 : Int32) (ho : ob h b 11) (hs : catS st ≤ 8) : ev 189 14 L (.int x1 :: .int x0 :: .ref b :: st) h = (ev 187 0 [some (.ref b), some (.int x0), some (.int x1)] [] h).bind fun q => ev 189 17 L (q.1.toList ++ st) q.2 := G_callv (k := 1) (p := 1381) (ars := [.int x0, .int x1]) f189_14 lkC_12_332 (by decide) (by decide +kernel) rfl (vcls_ob (ci := 11) (by decide) ho) (Nat.le_of_ble_eq_true rfl) hs rfl
theorem f189_17 : fetch 189 17 = some (.istore_n 3, 1) := vtab tk189 9 rfl
theorem e189_17 (l0 l1 l2 l3 : Option Value) (L : VL) (st : List Value) (h : VG) (x : Int32) : ev 189 17 (l0 :: l1 :: l2 :: l3 :: L) (.int x :: st) h = ev 189 18 (l0 :: l1 :: vkk l2 :: some (.int x) :: L) (st) h := G_istore_n f189_17 rfl (S1_3 l0 l1 l2 l3 L _)
theorem f189_18 : fetch 189 18 = some (.iload_n 3, 1) := vtab tk189 10 rfl
theorem e189_18 (l0 l1 l2 : Option Value) (L : VL) (st : List Value) (h : VG) (x : Int32) : ev 189 18 (l0 :: l1 :: l2 :: some (.int x) :: L) (st) h = ev 189 19 (l0 :: l1 :: l2 :: some (.int x) :: L) (.int x :: st) h := G_iload_n f189_18 rfl
theorem f189_19 : fetch 189 19 = some (.ifCond .le 5, 3) := vtab tk189 11 rfl
theorem e189_19 (L : VL) (st : List Value) (h : VG) (x : Int32) : ev 189 19 L (.int x :: st) h = if x ≤ 0 then ev 189 24 L st h else ev 189 22 L st h := G_if_le f189_19 (by decide)
theorem f189_22 : fetch 189 22 = some (.iload_n 3, 1) := vtab tk189 12 rfl
theorem e189_22 (l0 l1 l2 : Option Value) (L : VL) (st : List Value) (h : VG) (x : Int32) : ev 189 22 (l0 :: l1 :: l2 :: some (.int x) :: L) (st) h = ev 189 23 (l0 :: l1 :: l2 :: some (.int x) :: L) (.int x :: st) h := G_iload_n f189_22 rfl
theorem f189_23 : fetch 189 23 = some (.ireturn, 1) := vtab tk189 13 rfl
theorem e189_23 (L : VL) (h : VG) (x : Int32) : ev 189 23 L [.int x] h = some (some (.int x), h) := G_iret f189_23 (ty := .int) (by decide) rfl
theorem f189_24 : fetch 189 24 = some (.aload_n 0, 1) := vtab tk189 14 rfl
theorem e189_24 (L : VL) (st : List Value) (h : VG) (x : Nat) : ev 189 24 (some (.ref x) :: L) (st) h = ev 189 25 (some (.ref x) :: L) (.ref x :: st) h := G_aload_n f189_24 rfl
theorem f189_25 : fetch 189 25 = some (.getfield 309, 3) := vtab tk189 15 rfl
theorem e189_25 (L : VL) (st : List Value) (h : VG) (a : Nat) (ho : ob h a 11) : ev 189 25 L (.ref a :: st) h = ev 189 28 L (.int (gI h a 38) :: st) h := G_getI (p := 1051) f189_25 lkF_12_309 (by decide) (by decide) ho
theorem f189_28 : fetch 189 28 = some (.aload_n 0, 1) := vtab tk189 16 rfl
theorem e189_28 (L : VL) (st : List Value) (h : VG) (x : Nat) : ev 189 28 (some (.ref x) :: L) (st) h = ev 189 29 (some (.ref x) :: L) (.ref x :: st) h := G_aload_n f189_28 rfl
theorem f189_29 : fetch 189 29 = some (.getfield 76, 3) := vtab tk189 17 rfl
theorem e189_29 (L : VL) (st : List Value) (h : VG) (a : Nat) (ho : ob h a 11) (hr : isR h a 42) : ev 189 29 L (.ref a :: st) h = ev 189 32 L (.ref (gR h a 42) :: st) h := G_getR (p := 1055) f189_29 lkF_12_76 (by decide) (by decide) ho hr
theorem f189_32 : fetch 189 32 = some (.iload_n 1, 1) := vtab tk189 18 rfl
theorem e189_32 (l0 : Option Value) (L : VL) (st : List Value) (h : VG) (x : Int32) : ev 189 32 (l0 :: some (.int x) :: L) (st) h = ev 189 33 (l0 :: some (.int x) :: L) (.int x :: st) h := G_iload_n f189_32 rfl
theorem f189_33 : fetch 189 33 = some (.iaload, 1) := vtab tk189 19 rfl
theorem e189_33 (L : VL) (st : List Value) (h : VG) (a : Nat) (i : Int32) (ha : rdI h a) (hi : vp_in i (aln h a)) : ev 189 33 L (.int i :: .ref a :: st) h = ev 189 34 L (.int (aI h a i.toNatClampNeg) :: st) h := G_iald' f189_33 ha hi
theorem f189_34 : fetch 189 34 = some (.invokestatic 335, 3) := vtab tk189 20 rfl
theorem e189_34 (L : VL) (st : List Value) (h : VG) (x0 : Int32) (x1 : Int32) (hs : catS st ≤ 8) : ev 189 34 L (.int x1 :: .int x0 :: st) h = (ev 177 0 [some (.int x0), some (.int x1)] [] h).bind fun q => ev 189 37 L (q.1.toList ++ st) q.2 := G_calls (k := 0) (p := 1389) (ars := [.int x0, .int x1]) f189_34 lkC_12_335 (by decide) (by decide +kernel) rfl (Nat.le_of_ble_eq_true rfl) hs rfl
theorem f189_37 : fetch 189 37 = some (.ifCond .ne 5, 3) := vtab tk189 21 rfl
theorem e189_37 (L : VL) (st : List Value) (h : VG) (x : Int32) : ev 189 37 L (.int x :: st) h = if x = 0 then ev 189 40 L st h else ev 189 42 L st h := G_if_ne f189_37 (by decide)
theorem f189_40 : fetch 189 40 = some (.iconst 2, 1) := vtab tk189 22 rfl
theorem e189_40 (L : VL) (st : List Value) (h : VG) : ev 189 40 L (st) h = ev 189 41 L (.int (2 : Int32) :: st) h := G_iconst f189_40 (by decide)
theorem f189_41 : fetch 189 41 = some (.ireturn, 1) := vtab tk189 23 rfl
theorem e189_41 (L : VL) (h : VG) (x : Int32) : ev 189 41 L [.int x] h = some (some (.int x), h) := G_iret f189_41 (ty := .int) (by decide) rfl
theorem f189_42 : fetch 189 42 = some (.aload_n 0, 1) := vtab tk189 24 rfl
theorem e189_42 (L : VL) (st : List Value) (h : VG) (x : Nat) : ev 189 42 (some (.ref x) :: L) (st) h = ev 189 43 (some (.ref x) :: L) (.ref x :: st) h := G_aload_n f189_42 rfl
theorem f189_43 : fetch 189 43 = some (.aload_n 0, 1) := vtab tk189 25 rfl
theorem e189_43 (L : VL) (st : List Value) (h : VG) (x : Nat) : ev 189 43 (some (.ref x) :: L) (st) h = ev 189 44 (some (.ref x) :: L) (.ref x :: st) h := G_aload_n f189_43 rfl
theorem f189_44 : fetch 189 44 = some (.getfield 76, 3) := vtab tk189 26 rfl
theorem e189_44 (L : VL) (st : List Value) (h : VG) (a : Nat) (ho : ob h a 11) (hr : isR h a 42) : ev 189 44 L (.ref a :: st) h = ev 189 47 L (.ref (gR h a 42) :: st) h := G_getR (p := 1055) f189_44 lkF_12_76 (by decide) (by decide) ho hr
theorem f189_47 : fetch 189 47 = some (.iload_n 1, 1) := vtab tk189 27 rfl
theorem e189_47 (l0 : Option Value) (L : VL) (st : List Value) (h : VG) (x : Int32) : ev 189 47 (l0 :: some (.int x) :: L) (st) h = ev 189 48 (l0 :: some (.int x) :: L) (.int x :: st) h := G_iload_n f189_47 rfl
theorem f189_48 : fetch 189 48 = some (.iaload, 1) := vtab tk189 28 rfl
theorem e189_48 (L : VL) (st : List Value) (h : VG) (a : Nat) (i : Int32) (ha : rdI h a) (hi : vp_in i (aln h a)) : ev 189 48 L (.int i :: .ref a :: st) h = ev 189 49 L (.int (aI h a i.toNatClampNeg) :: st) h := G_iald' f189_48 ha hi
theorem f189_49 : fetch 189 49 = some (.invokevirtual 341, 3) := vtab tk189 29 rfl
theorem e189_49 (L : VL) (st : List Value) (h : VG) (b : Nat) (x0 : Int32) (ho : ob h b 11) (hs : catS st ≤ 8) : ev 189 49 L (.int x0 :: .ref b :: st) h = (ev 179 0 [some (.ref b), some (.int x0)] [] h).bind fun q => ev 189 52 L (q.1.toList ++ st) q.2 := G_callv (k := 1) (p := 1396) (ars := [.int x0]) f189_49 lkC_12_341 (by decide) (by decide +kernel) rfl (vcls_ob (ci := 11) (by decide) ho) (Nat.le_of_ble_eq_true rfl) hs rfl
theorem f189_52 : fetch 189 52 = some (.aload_n 0, 1) := vtab tk189 30 rfl
theorem e189_52 (L : VL) (st : List Value) (h : VG) (x : Nat) : ev 189 52 (some (.ref x) :: L) (st) h = ev 189 53 (some (.ref x) :: L) (.ref x :: st) h := G_aload_n f189_52 rfl
theorem f189_53 : fetch 189 53 = some (.bipush 40, 2) := vtab tk189 31 rfl
theorem e189_53 (L : VL) (st : List Value) (h : VG) : ev 189 53 L (st) h = ev 189 55 L (.int (40 : Int32) :: st) h := G_bipush f189_53 (by decide)
theorem f189_55 : fetch 189 55 = some (.iload_n 1, 1) := vtab tk189 32 rfl
theorem e189_55 (l0 : Option Value) (L : VL) (st : List Value) (h : VG) (x : Int32) : ev 189 55 (l0 :: some (.int x) :: L) (st) h = ev 189 56 (l0 :: some (.int x) :: L) (.int x :: st) h := G_iload_n f189_55 rfl
theorem f189_56 : fetch 189 56 = some (.imul, 1) := vtab tk189 33 rfl
theorem e189_56 (L : VL) (st : List Value) (h : VG) (x y : Int32) : ev 189 56 L (.int y :: .int x :: st) h = ev 189 57 L (.int (x * y) :: st) h := G_imul f189_56
theorem f189_57 : fetch 189 57 = some (.iload_n 2, 1) := vtab tk189 34 rfl
theorem e189_57 (l0 l1 : Option Value) (L : VL) (st : List Value) (h : VG) (x : Int32) : ev 189 57 (l0 :: l1 :: some (.int x) :: L) (st) h = ev 189 58 (l0 :: l1 :: some (.int x) :: L) (.int x :: st) h := G_iload_n f189_57 rfl
theorem f189_58 : fetch 189 58 = some (.iadd, 1) := vtab tk189 35 rfl
theorem e189_58 (L : VL) (st : List Value) (h : VG) (x y : Int32) : ev 189 58 L (.int y :: .int x :: st) h = ev 189 59 L (.int (x + y) :: st) h := G_iadd f189_58
theorem f189_59 : fetch 189 59 = some (.invokevirtual 344, 3) := vtab tk189 36 rfl
theorem e189_59 (L : VL) (st : List Value) (h : VG) (b : Nat) (x0 : Int32) (ho : ob h b 11) (hs : catS st ≤ 8) : ev 189 59 L (.int x0 :: .ref b :: st) h = (ev 185 0 [some (.ref b), some (.int x0)] [] h).bind fun q => ev 189 62 L (q.1.toList ++ st) q.2 := G_callv (k := 1) (p := 1417) (ars := [.int x0]) f189_59 lkC_12_344 (by decide) (by decide +kernel) rfl (vcls_ob (ci := 11) (by decide) ho) (Nat.le_of_ble_eq_true rfl) hs rfl
theorem f189_62 : fetch 189 62 = some (.iconst 0, 1) := vtab tk189 37 rfl
theorem e189_62 (L : VL) (st : List Value) (h : VG) : ev 189 62 L (st) h = ev 189 63 L (.int (0 : Int32) :: st) h := G_iconst f189_62 (by decide)
theorem f189_63 : fetch 189 63 = some (.ireturn, 1) := vtab tk189 38 rfl
theorem e189_63 (L : VL) (h : VG) (x : Int32) : ev 189 63 L [.int x] h = some (some (.int x), h) := G_iret f189_63 (ty := .int) (by decide) rfl
/-! 190 GuestCallsModel.length(I)I -/
def tb190 : List (Nat × Instr × Nat) := [(0, .iload_n 1, 1), (1, .invokestatic 325, 3), (4, .ifCond .ne 10, 3), (7, .aload_n 0, 1), (8, .iconst 0, 1), (9, .putfield 244, 3), (12, .iconst (-1), 1), (13, .ireturn, 1), (14, .aload_n 0, 1), (15, .aload_n 0, 1), (16, .getfield 76, 3), (19, .iload_n 1, 1), (20, .iaload, 1), (21, .bipush 11, 2), (23, .if_icmp .ne 7, 3), (26, .iconst 3, 1), (27, .goto 19, 3), (30, .aload_n 0, 1), (31, .getfield 76, 3), (34, .iload_n 1, 1), (35, .iaload, 1), (36, .bipush 10, 2), (38, .if_icmp .ne 7, 3), (41, .iconst 2, 1), (42, .goto 4, 3), (45, .iconst 0, 1), (46, .invokevirtual 347, 3), (49, .ifCond .eq 12, 3), (52, .aload_n 0, 1), (53, .getfield 79, 3), (56, .iload_n 1, 1), (57, .iaload, 1), (58, .goto 4, 3), (61, .iconst (-1), 1), (62, .ireturn, 1)]
theorem tk190 : tb190.all (fun q => decide (fetch 190 q.1 = some q.2)) = true := by decide +kernel
theorem f190_0 : fetch 190 0 = some (.iload_n 1, 1) := vtab tk190 0 rfl
theorem e190_0 (l0 : Option Value) (L : VL) (st : List Value) (h : VG) (x : Int32) : ev 190 0 (l0 :: some (.int x) :: L) (st) h = ev 190 1 (l0 :: some (.int x) :: L) (.int x :: st) h := G_iload_n f190_0 rfl
theorem f190_1 : fetch 190 1 = some (.invokestatic 325, 3) := vtab tk190 1 rfl
theorem e190_1 (L : VL) (st : List Value) (h : VG) (x0 : Int32) (hs : catS st ≤ 8) : ev 190 1 L (.int x0 :: st) h = (ev 181 0 [some (.int x0)] [] h).bind fun q => ev 190 4 L (q.1.toList ++ st) q.2 := G_calls (k := 0) (p := 1359) (ars := [.int x0]) f190_1 lkC_12_325 (by decide) (by decide +kernel) rfl (Nat.le_of_ble_eq_true rfl) hs rfl
theorem f190_4 : fetch 190 4 = some (.ifCond .ne 10, 3) := vtab tk190 2 rfl
theorem e190_4 (L : VL) (st : List Value) (h : VG) (x : Int32) : ev 190 4 L (.int x :: st) h = if x = 0 then ev 190 7 L st h else ev 190 14 L st h := G_if_ne f190_4 (by decide)
theorem f190_7 : fetch 190 7 = some (.aload_n 0, 1) := vtab tk190 3 rfl
theorem e190_7 (L : VL) (st : List Value) (h : VG) (x : Nat) : ev 190 7 (some (.ref x) :: L) (st) h = ev 190 8 (some (.ref x) :: L) (.ref x :: st) h := G_aload_n f190_7 rfl
theorem f190_8 : fetch 190 8 = some (.iconst 0, 1) := vtab tk190 4 rfl
theorem e190_8 (L : VL) (st : List Value) (h : VG) : ev 190 8 L (st) h = ev 190 9 L (.int (0 : Int32) :: st) h := G_iconst f190_8 (by decide)
theorem f190_9 : fetch 190 9 = some (.putfield 244, 3) := vtab tk190 5 rfl
theorem e190_9 (L : VL) (st : List Value) (h : VG) (a : Nat) (x : Int32) (ho : ob h a 11) : ev 190 9 L (.int x :: .ref a :: st) h = ev 190 12 L (st) (pI h a 31 x) := G_putI (p := 1044) f190_9 lkF_12_244 (by decide) (by decide) (by decide +kernel) ⟨rfl, rfl⟩ ho
theorem f190_12 : fetch 190 12 = some (.iconst (-1), 1) := vtab tk190 6 rfl
theorem e190_12 (L : VL) (st : List Value) (h : VG) : ev 190 12 L (st) h = ev 190 13 L (.int (-1 : Int32) :: st) h := G_iconst f190_12 (by decide)
theorem f190_13 : fetch 190 13 = some (.ireturn, 1) := vtab tk190 7 rfl
theorem e190_13 (L : VL) (h : VG) (x : Int32) : ev 190 13 L [.int x] h = some (some (.int x), h) := G_iret f190_13 (ty := .int) (by decide) rfl
theorem f190_14 : fetch 190 14 = some (.aload_n 0, 1) := vtab tk190 8 rfl
theorem e190_14 (L : VL) (st : List Value) (h : VG) (x : Nat) : ev 190 14 (some (.ref x) :: L) (st) h = ev 190 15 (some (.ref x) :: L) (.ref x :: st) h := G_aload_n f190_14 rfl
theorem f190_15 : fetch 190 15 = some (.aload_n 0, 1) := vtab tk190 9 rfl
theorem e190_15 (L : VL) (st : List Value) (h : VG) (x : Nat) : ev 190 15 (some (.ref x) :: L) (st) h = ev 190 16 (some (.ref x) :: L) (.ref x :: st) h := G_aload_n f190_15 rfl
theorem f190_16 : fetch 190 16 = some (.getfield 76, 3) := vtab tk190 10 rfl
theorem e190_16 (L : VL) (st : List Value) (h : VG) (a : Nat) (ho : ob h a 11) (hr : isR h a 42) : ev 190 16 L (.ref a :: st) h = ev 190 19 L (.ref (gR h a 42) :: st) h := G_getR (p := 1055) f190_16 lkF_12_76 (by decide) (by decide) ho hr
theorem f190_19 : fetch 190 19 = some (.iload_n 1, 1) := vtab tk190 11 rfl
theorem e190_19 (l0 : Option Value) (L : VL) (st : List Value) (h : VG) (x : Int32) : ev 190 19 (l0 :: some (.int x) :: L) (st) h = ev 190 20 (l0 :: some (.int x) :: L) (.int x :: st) h := G_iload_n f190_19 rfl
theorem f190_20 : fetch 190 20 = some (.iaload, 1) := vtab tk190 12 rfl
theorem e190_20 (L : VL) (st : List Value) (h : VG) (a : Nat) (i : Int32) (ha : rdI h a) (hi : vp_in i (aln h a)) : ev 190 20 L (.int i :: .ref a :: st) h = ev 190 21 L (.int (aI h a i.toNatClampNeg) :: st) h := G_iald' f190_20 ha hi
theorem f190_21 : fetch 190 21 = some (.bipush 11, 2) := vtab tk190 13 rfl
theorem e190_21 (L : VL) (st : List Value) (h : VG) : ev 190 21 L (st) h = ev 190 23 L (.int (11 : Int32) :: st) h := G_bipush f190_21 (by decide)
theorem f190_23 : fetch 190 23 = some (.if_icmp .ne 7, 3) := vtab tk190 14 rfl
theorem e190_23 (L : VL) (st : List Value) (h : VG) (x y : Int32) : ev 190 23 L (.int y :: .int x :: st) h = if x = y then ev 190 26 L st h else ev 190 30 L st h := G_icmp_ne f190_23 (by decide)
theorem f190_26 : fetch 190 26 = some (.iconst 3, 1) := vtab tk190 15 rfl
theorem e190_26 (L : VL) (st : List Value) (h : VG) : ev 190 26 L (st) h = ev 190 27 L (.int (3 : Int32) :: st) h := G_iconst f190_26 (by decide)
theorem f190_27 : fetch 190 27 = some (.goto 19, 3) := vtab tk190 16 rfl
theorem e190_27 (L : VL) (st : List Value) (h : VG) : ev 190 27 L (st) h = ev 190 46 L (st) h := G_goto f190_27 (by decide)
theorem f190_30 : fetch 190 30 = some (.aload_n 0, 1) := vtab tk190 17 rfl
theorem e190_30 (L : VL) (st : List Value) (h : VG) (x : Nat) : ev 190 30 (some (.ref x) :: L) (st) h = ev 190 31 (some (.ref x) :: L) (.ref x :: st) h := G_aload_n f190_30 rfl
theorem f190_31 : fetch 190 31 = some (.getfield 76, 3) := vtab tk190 18 rfl
theorem e190_31 (L : VL) (st : List Value) (h : VG) (a : Nat) (ho : ob h a 11) (hr : isR h a 42) : ev 190 31 L (.ref a :: st) h = ev 190 34 L (.ref (gR h a 42) :: st) h := G_getR (p := 1055) f190_31 lkF_12_76 (by decide) (by decide) ho hr
theorem f190_34 : fetch 190 34 = some (.iload_n 1, 1) := vtab tk190 19 rfl
theorem e190_34 (l0 : Option Value) (L : VL) (st : List Value) (h : VG) (x : Int32) : ev 190 34 (l0 :: some (.int x) :: L) (st) h = ev 190 35 (l0 :: some (.int x) :: L) (.int x :: st) h := G_iload_n f190_34 rfl
theorem f190_35 : fetch 190 35 = some (.iaload, 1) := vtab tk190 20 rfl
theorem e190_35 (L : VL) (st : List Value) (h : VG) (a : Nat) (i : Int32) (ha : rdI h a) (hi : vp_in i (aln h a)) : ev 190 35 L (.int i :: .ref a :: st) h = ev 190 36 L (.int (aI h a i.toNatClampNeg) :: st) h := G_iald' f190_35 ha hi
theorem f190_36 : fetch 190 36 = some (.bipush 10, 2) := vtab tk190 21 rfl
theorem e190_36 (L : VL) (st : List Value) (h : VG) : ev 190 36 L (st) h = ev 190 38 L (.int (10 : Int32) :: st) h := G_bipush f190_36 (by decide)
theorem f190_38 : fetch 190 38 = some (.if_icmp .ne 7, 3) := vtab tk190 22 rfl
theorem e190_38 (L : VL) (st : List Value) (h : VG) (x y : Int32) : ev 190 38 L (.int y :: .int x :: st) h = if x = y then ev 190 41 L st h else ev 190 45 L st h := G_icmp_ne f190_38 (by decide)
theorem f190_41 : fetch 190 41 = some (.iconst 2, 1) := vtab tk190 23 rfl
theorem e190_41 (L : VL) (st : List Value) (h : VG) : ev 190 41 L (st) h = ev 190 42 L (.int (2 : Int32) :: st) h := G_iconst f190_41 (by decide)
theorem f190_42 : fetch 190 42 = some (.goto 4, 3) := vtab tk190 24 rfl
theorem e190_42 (L : VL) (st : List Value) (h : VG) : ev 190 42 L (st) h = ev 190 46 L (st) h := G_goto f190_42 (by decide)
theorem f190_45 : fetch 190 45 = some (.iconst 0, 1) := vtab tk190 25 rfl
theorem e190_45 (L : VL) (st : List Value) (h : VG) : ev 190 45 L (st) h = ev 190 46 L (.int (0 : Int32) :: st) h := G_iconst f190_45 (by decide)
theorem f190_46 : fetch 190 46 = some (.invokevirtual 347, 3) := vtab tk190 26 rfl
theorem e190_46 (L : VL) (st : List Value) (h : VG) (b : Nat) (x0 : Int32) (ho : ob h b 11) (hs : catS st ≤ 8) : ev 190 46 L (.int x0 :: .ref b :: st) h = (ev 164 0 [some (.ref b), some (.int x0)] [] h).bind fun q => ev 190 49 L (q.1.toList ++ st) q.2 := G_callv (k := 1) (p := 1366) (ars := [.int x0]) f190_46 lkC_12_347 (by decide) (by decide +kernel) rfl (vcls_ob (ci := 11) (by decide) ho) (Nat.le_of_ble_eq_true rfl) hs rfl
theorem f190_49 : fetch 190 49 = some (.ifCond .eq 12, 3) := vtab tk190 27 rfl
theorem e190_49 (L : VL) (st : List Value) (h : VG) (x : Int32) : ev 190 49 L (.int x :: st) h = if x = 0 then ev 190 61 L st h else ev 190 52 L st h := G_if_eq f190_49 (by decide)
theorem f190_52 : fetch 190 52 = some (.aload_n 0, 1) := vtab tk190 28 rfl
theorem e190_52 (L : VL) (st : List Value) (h : VG) (x : Nat) : ev 190 52 (some (.ref x) :: L) (st) h = ev 190 53 (some (.ref x) :: L) (.ref x :: st) h := G_aload_n f190_52 rfl
theorem f190_53 : fetch 190 53 = some (.getfield 79, 3) := vtab tk190 29 rfl
theorem e190_53 (L : VL) (st : List Value) (h : VG) (a : Nat) (ho : ob h a 11) (hr : isR h a 43) : ev 190 53 L (.ref a :: st) h = ev 190 56 L (.ref (gR h a 43) :: st) h := G_getR (p := 1056) f190_53 lkF_12_79 (by decide) (by decide) ho hr
theorem f190_56 : fetch 190 56 = some (.iload_n 1, 1) := vtab tk190 30 rfl
theorem e190_56 (l0 : Option Value) (L : VL) (st : List Value) (h : VG) (x : Int32) : ev 190 56 (l0 :: some (.int x) :: L) (st) h = ev 190 57 (l0 :: some (.int x) :: L) (.int x :: st) h := G_iload_n f190_56 rfl
theorem f190_57 : fetch 190 57 = some (.iaload, 1) := vtab tk190 31 rfl
theorem e190_57 (L : VL) (st : List Value) (h : VG) (a : Nat) (i : Int32) (ha : rdI h a) (hi : vp_in i (aln h a)) : ev 190 57 L (.int i :: .ref a :: st) h = ev 190 58 L (.int (aI h a i.toNatClampNeg) :: st) h := G_iald' f190_57 ha hi
theorem f190_58 : fetch 190 58 = some (.goto 4, 3) := vtab tk190 32 rfl
theorem e190_58 (L : VL) (st : List Value) (h : VG) : ev 190 58 L (st) h = ev 190 62 L (st) h := G_goto f190_58 (by decide)
theorem f190_61 : fetch 190 61 = some (.iconst (-1), 1) := vtab tk190 33 rfl
theorem e190_61 (L : VL) (st : List Value) (h : VG) : ev 190 61 L (st) h = ev 190 62 L (.int (-1 : Int32) :: st) h := G_iconst f190_61 (by decide)
theorem f190_62 : fetch 190 62 = some (.ireturn, 1) := vtab tk190 34 rfl
theorem e190_62 (L : VL) (h : VG) (x : Int32) : ev 190 62 L [.int x] h = some (some (.int x), h) := G_iret f190_62 (ty := .int) (by decide) rfl
/-! 191 GuestCallsModel.cell(III)J -/
def tb191 : List (Nat × Instr × Nat) := [(0, .aload_n 0, 1), (1, .iconst 0, 1), (2, .putfield 244, 3), (5, .iload_n 1, 1), (6, .invokestatic 325, 3), (9, .ifCond .eq 10, 3), (12, .iload_n 3, 1), (13, .invokestatic 350, 3), (16, .ifCond .ne 5, 3), (19, .lconst 0, 1), (20, .lreturn, 1), (21, .aload_n 0, 1), (22, .aload_n 0, 1), (23, .iload_n 1, 1), (24, .iload_n 2, 1), (25, .iload_n 3, 1), (26, .invokevirtual 353, 3), (29, .invokevirtual 347, 3), (32, .ifCond .eq 10, 3), (35, .aload_n 0, 1), (36, .invokevirtual 357, 3), (39, .goto 4, 3), (42, .lconst 0, 1), (43, .lreturn, 1)]
theorem tk191 : tb191.all (fun q => decide (fetch 191 q.1 = some q.2)) = true := by decide +kernel
theorem f191_0 : fetch 191 0 = some (.aload_n 0, 1) := vtab tk191 0 rfl
theorem e191_0 (L : VL) (st : List Value) (h : VG) (x : Nat) : ev 191 0 (some (.ref x) :: L) (st) h = ev 191 1 (some (.ref x) :: L) (.ref x :: st) h := G_aload_n f191_0 rfl
theorem f191_1 : fetch 191 1 = some (.iconst 0, 1) := vtab tk191 1 rfl
theorem e191_1 (L : VL) (st : List Value) (h : VG) : ev 191 1 L (st) h = ev 191 2 L (.int (0 : Int32) :: st) h := G_iconst f191_1 (by decide)
theorem f191_2 : fetch 191 2 = some (.putfield 244, 3) := vtab tk191 2 rfl
theorem e191_2 (L : VL) (st : List Value) (h : VG) (a : Nat) (x : Int32) (ho : ob h a 11) : ev 191 2 L (.int x :: .ref a :: st) h = ev 191 5 L (st) (pI h a 31 x) := G_putI (p := 1044) f191_2 lkF_12_244 (by decide) (by decide) (by decide +kernel) ⟨rfl, rfl⟩ ho
theorem f191_5 : fetch 191 5 = some (.iload_n 1, 1) := vtab tk191 3 rfl
theorem e191_5 (l0 : Option Value) (L : VL) (st : List Value) (h : VG) (x : Int32) : ev 191 5 (l0 :: some (.int x) :: L) (st) h = ev 191 6 (l0 :: some (.int x) :: L) (.int x :: st) h := G_iload_n f191_5 rfl
theorem f191_6 : fetch 191 6 = some (.invokestatic 325, 3) := vtab tk191 4 rfl
theorem e191_6 (L : VL) (st : List Value) (h : VG) (x0 : Int32) (hs : catS st ≤ 8) : ev 191 6 L (.int x0 :: st) h = (ev 181 0 [some (.int x0)] [] h).bind fun q => ev 191 9 L (q.1.toList ++ st) q.2 := G_calls (k := 0) (p := 1359) (ars := [.int x0]) f191_6 lkC_12_325 (by decide) (by decide +kernel) rfl (Nat.le_of_ble_eq_true rfl) hs rfl
theorem f191_9 : fetch 191 9 = some (.ifCond .eq 10, 3) := vtab tk191 5 rfl
theorem e191_9 (L : VL) (st : List Value) (h : VG) (x : Int32) : ev 191 9 L (.int x :: st) h = if x = 0 then ev 191 19 L st h else ev 191 12 L st h := G_if_eq f191_9 (by decide)
theorem f191_12 : fetch 191 12 = some (.iload_n 3, 1) := vtab tk191 6 rfl
theorem e191_12 (l0 l1 l2 : Option Value) (L : VL) (st : List Value) (h : VG) (x : Int32) : ev 191 12 (l0 :: l1 :: l2 :: some (.int x) :: L) (st) h = ev 191 13 (l0 :: l1 :: l2 :: some (.int x) :: L) (.int x :: st) h := G_iload_n f191_12 rfl
theorem f191_13 : fetch 191 13 = some (.invokestatic 350, 3) := vtab tk191 7 rfl
theorem e191_13 (L : VL) (st : List Value) (h : VG) (x0 : Int32) (hs : catS st ≤ 8) : ev 191 13 L (.int x0 :: st) h = (ev 182 0 [some (.int x0)] [] h).bind fun q => ev 191 16 L (q.1.toList ++ st) q.2 := G_calls (k := 0) (p := 1374) (ars := [.int x0]) f191_13 lkC_12_350 (by decide) (by decide +kernel) rfl (Nat.le_of_ble_eq_true rfl) hs rfl
theorem f191_16 : fetch 191 16 = some (.ifCond .ne 5, 3) := vtab tk191 8 rfl
theorem e191_16 (L : VL) (st : List Value) (h : VG) (x : Int32) : ev 191 16 L (.int x :: st) h = if x = 0 then ev 191 19 L st h else ev 191 21 L st h := G_if_ne f191_16 (by decide)
theorem f191_19 : fetch 191 19 = some (.lconst 0, 1) := vtab tk191 9 rfl
theorem e191_19 (L : VL) (st : List Value) (h : VG) : ev 191 19 L (st) h = ev 191 20 L (.long 0 :: st) h := G_lconst f191_19 (by decide)
theorem f191_20 : fetch 191 20 = some (.lreturn, 1) := vtab tk191 10 rfl
theorem e191_20 (L : VL) (h : VG) (x : Int64) : ev 191 20 L [.long x] h = some (some (.long x), h) := G_lret f191_20 (by decide)
theorem f191_21 : fetch 191 21 = some (.aload_n 0, 1) := vtab tk191 11 rfl
theorem e191_21 (L : VL) (st : List Value) (h : VG) (x : Nat) : ev 191 21 (some (.ref x) :: L) (st) h = ev 191 22 (some (.ref x) :: L) (.ref x :: st) h := G_aload_n f191_21 rfl
theorem f191_22 : fetch 191 22 = some (.aload_n 0, 1) := vtab tk191 12 rfl
theorem e191_22 (L : VL) (st : List Value) (h : VG) (x : Nat) : ev 191 22 (some (.ref x) :: L) (st) h = ev 191 23 (some (.ref x) :: L) (.ref x :: st) h := G_aload_n f191_22 rfl
theorem f191_23 : fetch 191 23 = some (.iload_n 1, 1) := vtab tk191 13 rfl
theorem e191_23 (l0 : Option Value) (L : VL) (st : List Value) (h : VG) (x : Int32) : ev 191 23 (l0 :: some (.int x) :: L) (st) h = ev 191 24 (l0 :: some (.int x) :: L) (.int x :: st) h := G_iload_n f191_23 rfl
theorem f191_24 : fetch 191 24 = some (.iload_n 2, 1) := vtab tk191 14 rfl
theorem e191_24 (l0 l1 : Option Value) (L : VL) (st : List Value) (h : VG) (x : Int32) : ev 191 24 (l0 :: l1 :: some (.int x) :: L) (st) h = ev 191 25 (l0 :: l1 :: some (.int x) :: L) (.int x :: st) h := G_iload_n f191_24 rfl
theorem f191_25 : fetch 191 25 = some (.iload_n 3, 1) := vtab tk191 15 rfl
theorem e191_25 (l0 l1 l2 : Option Value) (L : VL) (st : List Value) (h : VG) (x : Int32) : ev 191 25 (l0 :: l1 :: l2 :: some (.int x) :: L) (st) h = ev 191 26 (l0 :: l1 :: l2 :: some (.int x) :: L) (.int x :: st) h := G_iload_n f191_25 rfl
theorem f191_26 : fetch 191 26 = some (.invokevirtual 353, 3) := vtab tk191 16 rfl
theorem e191_26 (L : VL) (st : List Value) (h : VG) (b : Nat) (x0 : Int32) (x1 : Int32) (x2 : Int32) (ho : ob h b 11) (hs : catS st ≤ 8) : ev 191 26 L (.int x2 :: .int x1 :: .int x0 :: .ref b :: st) h = (ev 188 0 [some (.ref b), some (.int x0), some (.int x1), some (.int x2), none] [] h).bind fun q => ev 191 29 L (q.1.toList ++ st) q.2 := G_callv (k := 1) (p := 1377) (ars := [.int x0, .int x1, .int x2]) f191_26 lkC_12_353 (by decide) (by decide +kernel) rfl (vcls_ob (ci := 11) (by decide) ho) (Nat.le_of_ble_eq_true rfl) hs rfl
theorem f191_29 : fetch 191 29 = some (.invokevirtual 347, 3) := vtab tk191 17 rfl
theorem e191_29 (L : VL) (st : List Value) (h : VG) (b : Nat) (x0 : Int32) (ho : ob h b 11) (hs : catS st ≤ 8) : ev 191 29 L (.int x0 :: .ref b :: st) h = (ev 164 0 [some (.ref b), some (.int x0)] [] h).bind fun q => ev 191 32 L (q.1.toList ++ st) q.2 := G_callv (k := 1) (p := 1366) (ars := [.int x0]) f191_29 lkC_12_347 (by decide) (by decide +kernel) rfl (vcls_ob (ci := 11) (by decide) ho) (Nat.le_of_ble_eq_true rfl) hs rfl
theorem f191_32 : fetch 191 32 = some (.ifCond .eq 10, 3) := vtab tk191 18 rfl
theorem e191_32 (L : VL) (st : List Value) (h : VG) (x : Int32) : ev 191 32 L (.int x :: st) h = if x = 0 then ev 191 42 L st h else ev 191 35 L st h := G_if_eq f191_32 (by decide)
theorem f191_35 : fetch 191 35 = some (.aload_n 0, 1) := vtab tk191 19 rfl
theorem e191_35 (L : VL) (st : List Value) (h : VG) (x : Nat) : ev 191 35 (some (.ref x) :: L) (st) h = ev 191 36 (some (.ref x) :: L) (.ref x :: st) h := G_aload_n f191_35 rfl
theorem f191_36 : fetch 191 36 = some (.invokevirtual 357, 3) := vtab tk191 20 rfl
theorem e191_36 (L : VL) (st : List Value) (h : VG) (b : Nat)  (ho : ob h b 11) (hs : catS st ≤ 8) : ev 191 36 L (.ref b :: st) h = (ev 180 0 [some (.ref b)] [] h).bind fun q => ev 191 39 L (q.1.toList ++ st) q.2 := G_callv (k := 1) (p := 1400) (ars := []) f191_36 lkC_12_357 (by decide) (by decide +kernel) rfl (vcls_ob (ci := 11) (by decide) ho) (Nat.le_of_ble_eq_true rfl) hs rfl
theorem f191_39 : fetch 191 39 = some (.goto 4, 3) := vtab tk191 21 rfl
theorem e191_39 (L : VL) (st : List Value) (h : VG) : ev 191 39 L (st) h = ev 191 43 L (st) h := G_goto f191_39 (by decide)
theorem f191_42 : fetch 191 42 = some (.lconst 0, 1) := vtab tk191 22 rfl
theorem e191_42 (L : VL) (st : List Value) (h : VG) : ev 191 42 L (st) h = ev 191 43 L (.long 0 :: st) h := G_lconst f191_42 (by decide)
theorem f191_43 : fetch 191 43 = some (.lreturn, 1) := vtab tk191 23 rfl
theorem e191_43 (L : VL) (h : VG) (x : Int64) : ev 191 43 L [.long x] h = some (some (.long x), h) := G_lret f191_43 (by decide)
/-! 192 GuestCallsModel.write(IIIJ)Z -/
def tb192 : List (Nat × Instr × Nat) := [(0, .aload_n 0, 1), (1, .iconst 0, 1), (2, .putfield 244, 3), (5, .iload_n 1, 1), (6, .invokestatic 325, 3), (9, .ifCond .eq 10, 3), (12, .iload_n 3, 1), (13, .invokestatic 350, 3), (16, .ifCond .ne 5, 3), (19, .iconst 0, 1), (20, .ireturn, 1), (21, .aload_n 0, 1), (22, .iload_n 3, 1), (23, .lload 4, 2), (25, .invokevirtual 361, 3), (28, .aload_n 0, 1), (29, .aload_n 0, 1), (30, .iload_n 1, 1), (31, .iload_n 2, 1), (32, .invokevirtual 365, 3), (35, .invokevirtual 347, 3), (38, .ireturn, 1)]
theorem tk192 : tb192.all (fun q => decide (fetch 192 q.1 = some q.2)) = true := by decide +kernel
theorem f192_0 : fetch 192 0 = some (.aload_n 0, 1) := vtab tk192 0 rfl
theorem e192_0 (L : VL) (st : List Value) (h : VG) (x : Nat) : ev 192 0 (some (.ref x) :: L) (st) h = ev 192 1 (some (.ref x) :: L) (.ref x :: st) h := G_aload_n f192_0 rfl
theorem f192_1 : fetch 192 1 = some (.iconst 0, 1) := vtab tk192 1 rfl
theorem e192_1 (L : VL) (st : List Value) (h : VG) : ev 192 1 L (st) h = ev 192 2 L (.int (0 : Int32) :: st) h := G_iconst f192_1 (by decide)
theorem f192_2 : fetch 192 2 = some (.putfield 244, 3) := vtab tk192 2 rfl
theorem e192_2 (L : VL) (st : List Value) (h : VG) (a : Nat) (x : Int32) (ho : ob h a 11) : ev 192 2 L (.int x :: .ref a :: st) h = ev 192 5 L (st) (pI h a 31 x) := G_putI (p := 1044) f192_2 lkF_12_244 (by decide) (by decide) (by decide +kernel) ⟨rfl, rfl⟩ ho
theorem f192_5 : fetch 192 5 = some (.iload_n 1, 1) := vtab tk192 3 rfl
theorem e192_5 (l0 : Option Value) (L : VL) (st : List Value) (h : VG) (x : Int32) : ev 192 5 (l0 :: some (.int x) :: L) (st) h = ev 192 6 (l0 :: some (.int x) :: L) (.int x :: st) h := G_iload_n f192_5 rfl
theorem f192_6 : fetch 192 6 = some (.invokestatic 325, 3) := vtab tk192 4 rfl
theorem e192_6 (L : VL) (st : List Value) (h : VG) (x0 : Int32) (hs : catS st ≤ 8) : ev 192 6 L (.int x0 :: st) h = (ev 181 0 [some (.int x0)] [] h).bind fun q => ev 192 9 L (q.1.toList ++ st) q.2 := G_calls (k := 0) (p := 1359) (ars := [.int x0]) f192_6 lkC_12_325 (by decide) (by decide +kernel) rfl (Nat.le_of_ble_eq_true rfl) hs rfl
theorem f192_9 : fetch 192 9 = some (.ifCond .eq 10, 3) := vtab tk192 5 rfl
theorem e192_9 (L : VL) (st : List Value) (h : VG) (x : Int32) : ev 192 9 L (.int x :: st) h = if x = 0 then ev 192 19 L st h else ev 192 12 L st h := G_if_eq f192_9 (by decide)
theorem f192_12 : fetch 192 12 = some (.iload_n 3, 1) := vtab tk192 6 rfl
theorem e192_12 (l0 l1 l2 : Option Value) (L : VL) (st : List Value) (h : VG) (x : Int32) : ev 192 12 (l0 :: l1 :: l2 :: some (.int x) :: L) (st) h = ev 192 13 (l0 :: l1 :: l2 :: some (.int x) :: L) (.int x :: st) h := G_iload_n f192_12 rfl
theorem f192_13 : fetch 192 13 = some (.invokestatic 350, 3) := vtab tk192 7 rfl
theorem e192_13 (L : VL) (st : List Value) (h : VG) (x0 : Int32) (hs : catS st ≤ 8) : ev 192 13 L (.int x0 :: st) h = (ev 182 0 [some (.int x0)] [] h).bind fun q => ev 192 16 L (q.1.toList ++ st) q.2 := G_calls (k := 0) (p := 1374) (ars := [.int x0]) f192_13 lkC_12_350 (by decide) (by decide +kernel) rfl (Nat.le_of_ble_eq_true rfl) hs rfl
theorem f192_16 : fetch 192 16 = some (.ifCond .ne 5, 3) := vtab tk192 8 rfl
theorem e192_16 (L : VL) (st : List Value) (h : VG) (x : Int32) : ev 192 16 L (.int x :: st) h = if x = 0 then ev 192 19 L st h else ev 192 21 L st h := G_if_ne f192_16 (by decide)
theorem f192_19 : fetch 192 19 = some (.iconst 0, 1) := vtab tk192 9 rfl
theorem e192_19 (L : VL) (st : List Value) (h : VG) : ev 192 19 L (st) h = ev 192 20 L (.int (0 : Int32) :: st) h := G_iconst f192_19 (by decide)
theorem f192_20 : fetch 192 20 = some (.ireturn, 1) := vtab tk192 10 rfl
theorem e192_20 (L : VL) (h : VG) (x : Int32) (hz : x = 0 ∨ x = 1) : ev 192 20 L [.int x] h = some (some (.int x), h) := G_iret f192_20 (ty := .boolean) (by decide) (vbool hz).1
theorem f192_21 : fetch 192 21 = some (.aload_n 0, 1) := vtab tk192 11 rfl
theorem e192_21 (L : VL) (st : List Value) (h : VG) (x : Nat) : ev 192 21 (some (.ref x) :: L) (st) h = ev 192 22 (some (.ref x) :: L) (.ref x :: st) h := G_aload_n f192_21 rfl
theorem f192_22 : fetch 192 22 = some (.iload_n 3, 1) := vtab tk192 12 rfl
theorem e192_22 (l0 l1 l2 : Option Value) (L : VL) (st : List Value) (h : VG) (x : Int32) : ev 192 22 (l0 :: l1 :: l2 :: some (.int x) :: L) (st) h = ev 192 23 (l0 :: l1 :: l2 :: some (.int x) :: L) (.int x :: st) h := G_iload_n f192_22 rfl
theorem f192_23 : fetch 192 23 = some (.lload 4, 2) := vtab tk192 13 rfl
theorem e192_23 (l0 l1 l2 l3 : Option Value) (L : VL) (st : List Value) (h : VG) (x : Int64) : ev 192 23 (l0 :: l1 :: l2 :: l3 :: some (.long x) :: L) (st) h = ev 192 25 (l0 :: l1 :: l2 :: l3 :: some (.long x) :: L) (.long x :: st) h := G_lload f192_23 rfl
theorem f192_25 : fetch 192 25 = some (.invokevirtual 361, 3) := vtab tk192 14 rfl
theorem e192_25 (L : VL) (st : List Value) (h : VG) (b : Nat) (x0 : Int32) (x1 : Int64) (ho : ob h b 11) (hs : catS st ≤ 8) : ev 192 25 L (.long x1 :: .int x0 :: .ref b :: st) h = (ev 178 0 [some (.ref b), some (.int x0), some (.long x1), none] [] h).bind fun q => ev 192 28 L (q.1.toList ++ st) q.2 := G_callv (k := 1) (p := 1408) (ars := [.int x0, .long x1]) f192_25 lkC_12_361 (by decide) (by decide +kernel) rfl (vcls_ob (ci := 11) (by decide) ho) (Nat.le_of_ble_eq_true rfl) hs rfl
theorem f192_28 : fetch 192 28 = some (.aload_n 0, 1) := vtab tk192 15 rfl
theorem e192_28 (L : VL) (st : List Value) (h : VG) (x : Nat) : ev 192 28 (some (.ref x) :: L) (st) h = ev 192 29 (some (.ref x) :: L) (.ref x :: st) h := G_aload_n f192_28 rfl
theorem f192_29 : fetch 192 29 = some (.aload_n 0, 1) := vtab tk192 16 rfl
theorem e192_29 (L : VL) (st : List Value) (h : VG) (x : Nat) : ev 192 29 (some (.ref x) :: L) (st) h = ev 192 30 (some (.ref x) :: L) (.ref x :: st) h := G_aload_n f192_29 rfl
theorem f192_30 : fetch 192 30 = some (.iload_n 1, 1) := vtab tk192 17 rfl
theorem e192_30 (l0 : Option Value) (L : VL) (st : List Value) (h : VG) (x : Int32) : ev 192 30 (l0 :: some (.int x) :: L) (st) h = ev 192 31 (l0 :: some (.int x) :: L) (.int x :: st) h := G_iload_n f192_30 rfl
theorem f192_31 : fetch 192 31 = some (.iload_n 2, 1) := vtab tk192 18 rfl
theorem e192_31 (l0 l1 : Option Value) (L : VL) (st : List Value) (h : VG) (x : Int32) : ev 192 31 (l0 :: l1 :: some (.int x) :: L) (st) h = ev 192 32 (l0 :: l1 :: some (.int x) :: L) (.int x :: st) h := G_iload_n f192_31 rfl
theorem f192_32 : fetch 192 32 = some (.invokevirtual 365, 3) := vtab tk192 19 rfl
theorem e192_32 (L : VL) (st : List Value) (h : VG) (b : Nat) (x0 : Int32) (x1 : Int32) (ho : ob h b 11) (hs : catS st ≤ 8) : ev 192 32 L (.int x1 :: .int x0 :: .ref b :: st) h = (ev 189 0 [some (.ref b), some (.int x0), some (.int x1), none] [] h).bind fun q => ev 192 35 L (q.1.toList ++ st) q.2 := G_callv (k := 1) (p := 1413) (ars := [.int x0, .int x1]) f192_32 lkC_12_365 (by decide) (by decide +kernel) rfl (vcls_ob (ci := 11) (by decide) ho) (Nat.le_of_ble_eq_true rfl) hs rfl
theorem f192_35 : fetch 192 35 = some (.invokevirtual 347, 3) := vtab tk192 20 rfl
theorem e192_35 (L : VL) (st : List Value) (h : VG) (b : Nat) (x0 : Int32) (ho : ob h b 11) (hs : catS st ≤ 8) : ev 192 35 L (.int x0 :: .ref b :: st) h = (ev 164 0 [some (.ref b), some (.int x0)] [] h).bind fun q => ev 192 38 L (q.1.toList ++ st) q.2 := G_callv (k := 1) (p := 1366) (ars := [.int x0]) f192_35 lkC_12_347 (by decide) (by decide +kernel) rfl (vcls_ob (ci := 11) (by decide) ho) (Nat.le_of_ble_eq_true rfl) hs rfl
theorem f192_38 : fetch 192 38 = some (.ireturn, 1) := vtab tk192 21 rfl
theorem e192_38 (L : VL) (h : VG) (x : Int32) (hz : x = 0 ∨ x = 1) : ev 192 38 L [.int x] h = some (some (.int x), h) := G_iret f192_38 (ty := .boolean) (by decide) (vbool hz).1
/-! 193 GuestCallsModel.box(III)J -/
def tb193 : List (Nat × Instr × Nat) := [(0, .aload_n 0, 1), (1, .iconst 0, 1), (2, .putfield 244, 3), (5, .iload_n 1, 1), (6, .invokestatic 325, 3), (9, .ifCond .eq 12, 3), (12, .iload_n 3, 1), (13, .iconst 0, 1), (14, .iconst 1, 1), (15, .invokestatic 260, 3), (18, .ifCond .ne 7, 3), (21, .ldc2_w 368, 3), (24, .lreturn, 1), (25, .aload_n 0, 1), (26, .aload_n 0, 1), (27, .getfield 76, 3), (30, .iload_n 1, 1), (31, .iaload, 1), (32, .bipush 11, 2), (34, .if_icmp .ne 7, 3), (37, .iconst 3, 1), (38, .goto 32, 3), (41, .aload_n 0, 1), (42, .getfield 76, 3), (45, .iload_n 1, 1), (46, .iaload, 1), (47, .bipush 10, 2), (49, .if_icmp .ne 7, 3), (52, .iconst 2, 1), (53, .goto 17, 3), (56, .aload_n 0, 1), (57, .iload_n 1, 1), (58, .iload_n 2, 1), (59, .invokevirtual 328, 3), (62, .ifCond .eq 7, 3), (65, .iconst 0, 1), (66, .goto 4, 3), (69, .iconst 1, 1), (70, .invokevirtual 347, 3), (73, .ifCond .ne 7, 3), (76, .ldc2_w 368, 3), (79, .lreturn, 1), (80, .aload_n 0, 1), (81, .bipush 40, 2), (83, .iload_n 1, 1), (84, .imul, 1), (85, .iload_n 2, 1), (86, .iadd, 1), (87, .invokevirtual 338, 3), (90, .iload_n 3, 1), (91, .ifCond .ne 11, 3), (94, .aload_n 0, 1), (95, .getfield 309, 3), (98, .i2l, 1), (99, .goto 29, 3), (102, .aload_n 0, 1), (103, .getfield 309, 3), (106, .bipush (-2), 2), (108, .if_icmp .eq 12, 3), (111, .aload_n 0, 1), (112, .getfield 309, 3), (115, .bipush 9, 2), (117, .if_icmp .ne 7, 3), (120, .lconst 0, 1), (121, .goto 7, 3), (124, .aload_n 0, 1), (125, .invokevirtual 357, 3), (128, .lreturn, 1)]
theorem tk193 : tb193.all (fun q => decide (fetch 193 q.1 = some q.2)) = true := by decide +kernel
theorem f193_0 : fetch 193 0 = some (.aload_n 0, 1) := vtab tk193 0 rfl
theorem e193_0 (L : VL) (st : List Value) (h : VG) (x : Nat) : ev 193 0 (some (.ref x) :: L) (st) h = ev 193 1 (some (.ref x) :: L) (.ref x :: st) h := G_aload_n f193_0 rfl
theorem f193_1 : fetch 193 1 = some (.iconst 0, 1) := vtab tk193 1 rfl
theorem e193_1 (L : VL) (st : List Value) (h : VG) : ev 193 1 L (st) h = ev 193 2 L (.int (0 : Int32) :: st) h := G_iconst f193_1 (by decide)
theorem f193_2 : fetch 193 2 = some (.putfield 244, 3) := vtab tk193 2 rfl
theorem e193_2 (L : VL) (st : List Value) (h : VG) (a : Nat) (x : Int32) (ho : ob h a 11) : ev 193 2 L (.int x :: .ref a :: st) h = ev 193 5 L (st) (pI h a 31 x) := G_putI (p := 1044) f193_2 lkF_12_244 (by decide) (by decide) (by decide +kernel) ⟨rfl, rfl⟩ ho
theorem f193_5 : fetch 193 5 = some (.iload_n 1, 1) := vtab tk193 3 rfl
theorem e193_5 (l0 : Option Value) (L : VL) (st : List Value) (h : VG) (x : Int32) : ev 193 5 (l0 :: some (.int x) :: L) (st) h = ev 193 6 (l0 :: some (.int x) :: L) (.int x :: st) h := G_iload_n f193_5 rfl
theorem f193_6 : fetch 193 6 = some (.invokestatic 325, 3) := vtab tk193 4 rfl
theorem e193_6 (L : VL) (st : List Value) (h : VG) (x0 : Int32) (hs : catS st ≤ 8) : ev 193 6 L (.int x0 :: st) h = (ev 181 0 [some (.int x0)] [] h).bind fun q => ev 193 9 L (q.1.toList ++ st) q.2 := G_calls (k := 0) (p := 1359) (ars := [.int x0]) f193_6 lkC_12_325 (by decide) (by decide +kernel) rfl (Nat.le_of_ble_eq_true rfl) hs rfl
theorem f193_9 : fetch 193 9 = some (.ifCond .eq 12, 3) := vtab tk193 5 rfl
theorem e193_9 (L : VL) (st : List Value) (h : VG) (x : Int32) : ev 193 9 L (.int x :: st) h = if x = 0 then ev 193 21 L st h else ev 193 12 L st h := G_if_eq f193_9 (by decide)
theorem f193_12 : fetch 193 12 = some (.iload_n 3, 1) := vtab tk193 6 rfl
theorem e193_12 (l0 l1 l2 : Option Value) (L : VL) (st : List Value) (h : VG) (x : Int32) : ev 193 12 (l0 :: l1 :: l2 :: some (.int x) :: L) (st) h = ev 193 13 (l0 :: l1 :: l2 :: some (.int x) :: L) (.int x :: st) h := G_iload_n f193_12 rfl
theorem f193_13 : fetch 193 13 = some (.iconst 0, 1) := vtab tk193 7 rfl
theorem e193_13 (L : VL) (st : List Value) (h : VG) : ev 193 13 L (st) h = ev 193 14 L (.int (0 : Int32) :: st) h := G_iconst f193_13 (by decide)
theorem f193_14 : fetch 193 14 = some (.iconst 1, 1) := vtab tk193 8 rfl
theorem e193_14 (L : VL) (st : List Value) (h : VG) : ev 193 14 L (st) h = ev 193 15 L (.int (1 : Int32) :: st) h := G_iconst f193_14 (by decide)
theorem f193_15 : fetch 193 15 = some (.invokestatic 260, 3) := vtab tk193 9 rfl
theorem e193_15 (L : VL) (st : List Value) (h : VG) (x0 : Int32) (x1 : Int32) (x2 : Int32) (hs : catS st ≤ 8) : ev 193 15 L (.int x2 :: .int x1 :: .int x0 :: st) h = (ev 162 0 [some (.int x0), some (.int x1), some (.int x2)] [] h).bind fun q => ev 193 18 L (q.1.toList ++ st) q.2 := G_calls (k := 0) (p := 1286) (ars := [.int x0, .int x1, .int x2]) f193_15 lkC_12_260 (by decide) (by decide +kernel) rfl (Nat.le_of_ble_eq_true rfl) hs rfl
theorem f193_18 : fetch 193 18 = some (.ifCond .ne 7, 3) := vtab tk193 10 rfl
theorem e193_18 (L : VL) (st : List Value) (h : VG) (x : Int32) : ev 193 18 L (.int x :: st) h = if x = 0 then ev 193 21 L st h else ev 193 25 L st h := G_if_ne f193_18 (by decide)
theorem f193_21 : fetch 193 21 = some (.ldc2_w 368, 3) := vtab tk193 11 rfl
theorem e193_21 (L : VL) (st : List Value) (h : VG) : ev 193 21 L (st) h = ev 193 24 L (.long (-100000) :: st) h := G_ldc2l (p := 1425) f193_21 lkK_12_368
theorem f193_24 : fetch 193 24 = some (.lreturn, 1) := vtab tk193 12 rfl
theorem e193_24 (L : VL) (h : VG) (x : Int64) : ev 193 24 L [.long x] h = some (some (.long x), h) := G_lret f193_24 (by decide)
theorem f193_25 : fetch 193 25 = some (.aload_n 0, 1) := vtab tk193 13 rfl
theorem e193_25 (L : VL) (st : List Value) (h : VG) (x : Nat) : ev 193 25 (some (.ref x) :: L) (st) h = ev 193 26 (some (.ref x) :: L) (.ref x :: st) h := G_aload_n f193_25 rfl
theorem f193_26 : fetch 193 26 = some (.aload_n 0, 1) := vtab tk193 14 rfl
theorem e193_26 (L : VL) (st : List Value) (h : VG) (x : Nat) : ev 193 26 (some (.ref x) :: L) (st) h = ev 193 27 (some (.ref x) :: L) (.ref x :: st) h := G_aload_n f193_26 rfl
theorem f193_27 : fetch 193 27 = some (.getfield 76, 3) := vtab tk193 15 rfl
theorem e193_27 (L : VL) (st : List Value) (h : VG) (a : Nat) (ho : ob h a 11) (hr : isR h a 42) : ev 193 27 L (.ref a :: st) h = ev 193 30 L (.ref (gR h a 42) :: st) h := G_getR (p := 1055) f193_27 lkF_12_76 (by decide) (by decide) ho hr
theorem f193_30 : fetch 193 30 = some (.iload_n 1, 1) := vtab tk193 16 rfl
theorem e193_30 (l0 : Option Value) (L : VL) (st : List Value) (h : VG) (x : Int32) : ev 193 30 (l0 :: some (.int x) :: L) (st) h = ev 193 31 (l0 :: some (.int x) :: L) (.int x :: st) h := G_iload_n f193_30 rfl
theorem f193_31 : fetch 193 31 = some (.iaload, 1) := vtab tk193 17 rfl
theorem e193_31 (L : VL) (st : List Value) (h : VG) (a : Nat) (i : Int32) (ha : rdI h a) (hi : vp_in i (aln h a)) : ev 193 31 L (.int i :: .ref a :: st) h = ev 193 32 L (.int (aI h a i.toNatClampNeg) :: st) h := G_iald' f193_31 ha hi
theorem f193_32 : fetch 193 32 = some (.bipush 11, 2) := vtab tk193 18 rfl
theorem e193_32 (L : VL) (st : List Value) (h : VG) : ev 193 32 L (st) h = ev 193 34 L (.int (11 : Int32) :: st) h := G_bipush f193_32 (by decide)
theorem f193_34 : fetch 193 34 = some (.if_icmp .ne 7, 3) := vtab tk193 19 rfl
theorem e193_34 (L : VL) (st : List Value) (h : VG) (x y : Int32) : ev 193 34 L (.int y :: .int x :: st) h = if x = y then ev 193 37 L st h else ev 193 41 L st h := G_icmp_ne f193_34 (by decide)
theorem f193_37 : fetch 193 37 = some (.iconst 3, 1) := vtab tk193 20 rfl
theorem e193_37 (L : VL) (st : List Value) (h : VG) : ev 193 37 L (st) h = ev 193 38 L (.int (3 : Int32) :: st) h := G_iconst f193_37 (by decide)
theorem f193_38 : fetch 193 38 = some (.goto 32, 3) := vtab tk193 21 rfl
theorem e193_38 (L : VL) (st : List Value) (h : VG) : ev 193 38 L (st) h = ev 193 70 L (st) h := G_goto f193_38 (by decide)
theorem f193_41 : fetch 193 41 = some (.aload_n 0, 1) := vtab tk193 22 rfl
theorem e193_41 (L : VL) (st : List Value) (h : VG) (x : Nat) : ev 193 41 (some (.ref x) :: L) (st) h = ev 193 42 (some (.ref x) :: L) (.ref x :: st) h := G_aload_n f193_41 rfl
theorem f193_42 : fetch 193 42 = some (.getfield 76, 3) := vtab tk193 23 rfl
theorem e193_42 (L : VL) (st : List Value) (h : VG) (a : Nat) (ho : ob h a 11) (hr : isR h a 42) : ev 193 42 L (.ref a :: st) h = ev 193 45 L (.ref (gR h a 42) :: st) h := G_getR (p := 1055) f193_42 lkF_12_76 (by decide) (by decide) ho hr
theorem f193_45 : fetch 193 45 = some (.iload_n 1, 1) := vtab tk193 24 rfl
theorem e193_45 (l0 : Option Value) (L : VL) (st : List Value) (h : VG) (x : Int32) : ev 193 45 (l0 :: some (.int x) :: L) (st) h = ev 193 46 (l0 :: some (.int x) :: L) (.int x :: st) h := G_iload_n f193_45 rfl
theorem f193_46 : fetch 193 46 = some (.iaload, 1) := vtab tk193 25 rfl
theorem e193_46 (L : VL) (st : List Value) (h : VG) (a : Nat) (i : Int32) (ha : rdI h a) (hi : vp_in i (aln h a)) : ev 193 46 L (.int i :: .ref a :: st) h = ev 193 47 L (.int (aI h a i.toNatClampNeg) :: st) h := G_iald' f193_46 ha hi
theorem f193_47 : fetch 193 47 = some (.bipush 10, 2) := vtab tk193 26 rfl
theorem e193_47 (L : VL) (st : List Value) (h : VG) : ev 193 47 L (st) h = ev 193 49 L (.int (10 : Int32) :: st) h := G_bipush f193_47 (by decide)
theorem f193_49 : fetch 193 49 = some (.if_icmp .ne 7, 3) := vtab tk193 27 rfl
theorem e193_49 (L : VL) (st : List Value) (h : VG) (x y : Int32) : ev 193 49 L (.int y :: .int x :: st) h = if x = y then ev 193 52 L st h else ev 193 56 L st h := G_icmp_ne f193_49 (by decide)
theorem f193_52 : fetch 193 52 = some (.iconst 2, 1) := vtab tk193 28 rfl
theorem e193_52 (L : VL) (st : List Value) (h : VG) : ev 193 52 L (st) h = ev 193 53 L (.int (2 : Int32) :: st) h := G_iconst f193_52 (by decide)
theorem f193_53 : fetch 193 53 = some (.goto 17, 3) := vtab tk193 29 rfl
theorem e193_53 (L : VL) (st : List Value) (h : VG) : ev 193 53 L (st) h = ev 193 70 L (st) h := G_goto f193_53 (by decide)
theorem f193_56 : fetch 193 56 = some (.aload_n 0, 1) := vtab tk193 30 rfl
theorem e193_56 (L : VL) (st : List Value) (h : VG) (x : Nat) : ev 193 56 (some (.ref x) :: L) (st) h = ev 193 57 (some (.ref x) :: L) (.ref x :: st) h := G_aload_n f193_56 rfl
theorem f193_57 : fetch 193 57 = some (.iload_n 1, 1) := vtab tk193 31 rfl
theorem e193_57 (l0 : Option Value) (L : VL) (st : List Value) (h : VG) (x : Int32) : ev 193 57 (l0 :: some (.int x) :: L) (st) h = ev 193 58 (l0 :: some (.int x) :: L) (.int x :: st) h := G_iload_n f193_57 rfl
theorem f193_58 : fetch 193 58 = some (.iload_n 2, 1) := vtab tk193 32 rfl
theorem e193_58 (l0 l1 : Option Value) (L : VL) (st : List Value) (h : VG) (x : Int32) : ev 193 58 (l0 :: l1 :: some (.int x) :: L) (st) h = ev 193 59 (l0 :: l1 :: some (.int x) :: L) (.int x :: st) h := G_iload_n f193_58 rfl
theorem f193_59 : fetch 193 59 = some (.invokevirtual 328, 3) := vtab tk193 33 rfl
theorem e193_59 (L : VL) (st : List Value) (h : VG) (b : Nat) (x0 : Int32) (x1 : Int32) (ho : ob h b 11) (hs : catS st ≤ 8) : ev 193 59 L (.int x1 :: .int x0 :: .ref b :: st) h = (ev 186 0 [some (.ref b), some (.int x0), some (.int x1)] [] h).bind fun q => ev 193 62 L (q.1.toList ++ st) q.2 := G_callv (k := 1) (p := 1385) (ars := [.int x0, .int x1]) f193_59 lkC_12_328 (by decide) (by decide +kernel) rfl (vcls_ob (ci := 11) (by decide) ho) (Nat.le_of_ble_eq_true rfl) hs rfl
theorem f193_62 : fetch 193 62 = some (.ifCond .eq 7, 3) := vtab tk193 34 rfl
theorem e193_62 (L : VL) (st : List Value) (h : VG) (x : Int32) : ev 193 62 L (.int x :: st) h = if x = 0 then ev 193 69 L st h else ev 193 65 L st h := G_if_eq f193_62 (by decide)
theorem f193_65 : fetch 193 65 = some (.iconst 0, 1) := vtab tk193 35 rfl
theorem e193_65 (L : VL) (st : List Value) (h : VG) : ev 193 65 L (st) h = ev 193 66 L (.int (0 : Int32) :: st) h := G_iconst f193_65 (by decide)
theorem f193_66 : fetch 193 66 = some (.goto 4, 3) := vtab tk193 36 rfl
theorem e193_66 (L : VL) (st : List Value) (h : VG) : ev 193 66 L (st) h = ev 193 70 L (st) h := G_goto f193_66 (by decide)
theorem f193_69 : fetch 193 69 = some (.iconst 1, 1) := vtab tk193 37 rfl
theorem e193_69 (L : VL) (st : List Value) (h : VG) : ev 193 69 L (st) h = ev 193 70 L (.int (1 : Int32) :: st) h := G_iconst f193_69 (by decide)
theorem f193_70 : fetch 193 70 = some (.invokevirtual 347, 3) := vtab tk193 38 rfl
theorem e193_70 (L : VL) (st : List Value) (h : VG) (b : Nat) (x0 : Int32) (ho : ob h b 11) (hs : catS st ≤ 8) : ev 193 70 L (.int x0 :: .ref b :: st) h = (ev 164 0 [some (.ref b), some (.int x0)] [] h).bind fun q => ev 193 73 L (q.1.toList ++ st) q.2 := G_callv (k := 1) (p := 1366) (ars := [.int x0]) f193_70 lkC_12_347 (by decide) (by decide +kernel) rfl (vcls_ob (ci := 11) (by decide) ho) (Nat.le_of_ble_eq_true rfl) hs rfl
theorem f193_73 : fetch 193 73 = some (.ifCond .ne 7, 3) := vtab tk193 39 rfl
theorem e193_73 (L : VL) (st : List Value) (h : VG) (x : Int32) : ev 193 73 L (.int x :: st) h = if x = 0 then ev 193 76 L st h else ev 193 80 L st h := G_if_ne f193_73 (by decide)
theorem f193_76 : fetch 193 76 = some (.ldc2_w 368, 3) := vtab tk193 40 rfl
theorem e193_76 (L : VL) (st : List Value) (h : VG) : ev 193 76 L (st) h = ev 193 79 L (.long (-100000) :: st) h := G_ldc2l (p := 1425) f193_76 lkK_12_368
theorem f193_79 : fetch 193 79 = some (.lreturn, 1) := vtab tk193 41 rfl
theorem e193_79 (L : VL) (h : VG) (x : Int64) : ev 193 79 L [.long x] h = some (some (.long x), h) := G_lret f193_79 (by decide)
theorem f193_80 : fetch 193 80 = some (.aload_n 0, 1) := vtab tk193 42 rfl
theorem e193_80 (L : VL) (st : List Value) (h : VG) (x : Nat) : ev 193 80 (some (.ref x) :: L) (st) h = ev 193 81 (some (.ref x) :: L) (.ref x :: st) h := G_aload_n f193_80 rfl
theorem f193_81 : fetch 193 81 = some (.bipush 40, 2) := vtab tk193 43 rfl
theorem e193_81 (L : VL) (st : List Value) (h : VG) : ev 193 81 L (st) h = ev 193 83 L (.int (40 : Int32) :: st) h := G_bipush f193_81 (by decide)
theorem f193_83 : fetch 193 83 = some (.iload_n 1, 1) := vtab tk193 44 rfl
theorem e193_83 (l0 : Option Value) (L : VL) (st : List Value) (h : VG) (x : Int32) : ev 193 83 (l0 :: some (.int x) :: L) (st) h = ev 193 84 (l0 :: some (.int x) :: L) (.int x :: st) h := G_iload_n f193_83 rfl
theorem f193_84 : fetch 193 84 = some (.imul, 1) := vtab tk193 45 rfl
theorem e193_84 (L : VL) (st : List Value) (h : VG) (x y : Int32) : ev 193 84 L (.int y :: .int x :: st) h = ev 193 85 L (.int (x * y) :: st) h := G_imul f193_84
theorem f193_85 : fetch 193 85 = some (.iload_n 2, 1) := vtab tk193 46 rfl
theorem e193_85 (l0 l1 : Option Value) (L : VL) (st : List Value) (h : VG) (x : Int32) : ev 193 85 (l0 :: l1 :: some (.int x) :: L) (st) h = ev 193 86 (l0 :: l1 :: some (.int x) :: L) (.int x :: st) h := G_iload_n f193_85 rfl
theorem f193_86 : fetch 193 86 = some (.iadd, 1) := vtab tk193 47 rfl
theorem e193_86 (L : VL) (st : List Value) (h : VG) (x y : Int32) : ev 193 86 L (.int y :: .int x :: st) h = ev 193 87 L (.int (x + y) :: st) h := G_iadd f193_86
theorem f193_87 : fetch 193 87 = some (.invokevirtual 338, 3) := vtab tk193 48 rfl
theorem e193_87 (L : VL) (st : List Value) (h : VG) (b : Nat) (x0 : Int32) (ho : ob h b 11) (hs : catS st ≤ 8) : ev 193 87 L (.int x0 :: .ref b :: st) h = (ev 184 0 [some (.ref b), some (.int x0)] [] h).bind fun q => ev 193 90 L (q.1.toList ++ st) q.2 := G_callv (k := 1) (p := 1392) (ars := [.int x0]) f193_87 lkC_12_338 (by decide) (by decide +kernel) rfl (vcls_ob (ci := 11) (by decide) ho) (Nat.le_of_ble_eq_true rfl) hs rfl
theorem f193_90 : fetch 193 90 = some (.iload_n 3, 1) := vtab tk193 49 rfl
theorem e193_90 (l0 l1 l2 : Option Value) (L : VL) (st : List Value) (h : VG) (x : Int32) : ev 193 90 (l0 :: l1 :: l2 :: some (.int x) :: L) (st) h = ev 193 91 (l0 :: l1 :: l2 :: some (.int x) :: L) (.int x :: st) h := G_iload_n f193_90 rfl
theorem f193_91 : fetch 193 91 = some (.ifCond .ne 11, 3) := vtab tk193 50 rfl
theorem e193_91 (L : VL) (st : List Value) (h : VG) (x : Int32) : ev 193 91 L (.int x :: st) h = if x = 0 then ev 193 94 L st h else ev 193 102 L st h := G_if_ne f193_91 (by decide)
theorem f193_94 : fetch 193 94 = some (.aload_n 0, 1) := vtab tk193 51 rfl
theorem e193_94 (L : VL) (st : List Value) (h : VG) (x : Nat) : ev 193 94 (some (.ref x) :: L) (st) h = ev 193 95 (some (.ref x) :: L) (.ref x :: st) h := G_aload_n f193_94 rfl
theorem f193_95 : fetch 193 95 = some (.getfield 309, 3) := vtab tk193 52 rfl
theorem e193_95 (L : VL) (st : List Value) (h : VG) (a : Nat) (ho : ob h a 11) : ev 193 95 L (.ref a :: st) h = ev 193 98 L (.int (gI h a 38) :: st) h := G_getI (p := 1051) f193_95 lkF_12_309 (by decide) (by decide) ho
theorem f193_98 : fetch 193 98 = some (.i2l, 1) := vtab tk193 53 rfl
theorem e193_98 (L : VL) (st : List Value) (h : VG) (x : Int32) : ev 193 98 L (.int x :: st) h = ev 193 99 L (.long x.toInt64 :: st) h := G_i2l f193_98
theorem f193_99 : fetch 193 99 = some (.goto 29, 3) := vtab tk193 54 rfl
theorem e193_99 (L : VL) (st : List Value) (h : VG) : ev 193 99 L (st) h = ev 193 128 L (st) h := G_goto f193_99 (by decide)
theorem f193_102 : fetch 193 102 = some (.aload_n 0, 1) := vtab tk193 55 rfl
theorem e193_102 (L : VL) (st : List Value) (h : VG) (x : Nat) : ev 193 102 (some (.ref x) :: L) (st) h = ev 193 103 (some (.ref x) :: L) (.ref x :: st) h := G_aload_n f193_102 rfl
theorem f193_103 : fetch 193 103 = some (.getfield 309, 3) := vtab tk193 56 rfl
theorem e193_103 (L : VL) (st : List Value) (h : VG) (a : Nat) (ho : ob h a 11) : ev 193 103 L (.ref a :: st) h = ev 193 106 L (.int (gI h a 38) :: st) h := G_getI (p := 1051) f193_103 lkF_12_309 (by decide) (by decide) ho
theorem f193_106 : fetch 193 106 = some (.bipush (-2), 2) := vtab tk193 57 rfl
theorem e193_106 (L : VL) (st : List Value) (h : VG) : ev 193 106 L (st) h = ev 193 108 L (.int (-2 : Int32) :: st) h := G_bipush f193_106 (by decide)
theorem f193_108 : fetch 193 108 = some (.if_icmp .eq 12, 3) := vtab tk193 58 rfl
theorem e193_108 (L : VL) (st : List Value) (h : VG) (x y : Int32) : ev 193 108 L (.int y :: .int x :: st) h = if x = y then ev 193 120 L st h else ev 193 111 L st h := G_icmp_eq f193_108 (by decide)
theorem f193_111 : fetch 193 111 = some (.aload_n 0, 1) := vtab tk193 59 rfl
theorem e193_111 (L : VL) (st : List Value) (h : VG) (x : Nat) : ev 193 111 (some (.ref x) :: L) (st) h = ev 193 112 (some (.ref x) :: L) (.ref x :: st) h := G_aload_n f193_111 rfl
theorem f193_112 : fetch 193 112 = some (.getfield 309, 3) := vtab tk193 60 rfl
theorem e193_112 (L : VL) (st : List Value) (h : VG) (a : Nat) (ho : ob h a 11) : ev 193 112 L (.ref a :: st) h = ev 193 115 L (.int (gI h a 38) :: st) h := G_getI (p := 1051) f193_112 lkF_12_309 (by decide) (by decide) ho
theorem f193_115 : fetch 193 115 = some (.bipush 9, 2) := vtab tk193 61 rfl
theorem e193_115 (L : VL) (st : List Value) (h : VG) : ev 193 115 L (st) h = ev 193 117 L (.int (9 : Int32) :: st) h := G_bipush f193_115 (by decide)
theorem f193_117 : fetch 193 117 = some (.if_icmp .ne 7, 3) := vtab tk193 62 rfl
theorem e193_117 (L : VL) (st : List Value) (h : VG) (x y : Int32) : ev 193 117 L (.int y :: .int x :: st) h = if x = y then ev 193 120 L st h else ev 193 124 L st h := G_icmp_ne f193_117 (by decide)
theorem f193_120 : fetch 193 120 = some (.lconst 0, 1) := vtab tk193 63 rfl
theorem e193_120 (L : VL) (st : List Value) (h : VG) : ev 193 120 L (st) h = ev 193 121 L (.long 0 :: st) h := G_lconst f193_120 (by decide)
theorem f193_121 : fetch 193 121 = some (.goto 7, 3) := vtab tk193 64 rfl
theorem e193_121 (L : VL) (st : List Value) (h : VG) : ev 193 121 L (st) h = ev 193 128 L (st) h := G_goto f193_121 (by decide)
theorem f193_124 : fetch 193 124 = some (.aload_n 0, 1) := vtab tk193 65 rfl
theorem e193_124 (L : VL) (st : List Value) (h : VG) (x : Nat) : ev 193 124 (some (.ref x) :: L) (st) h = ev 193 125 (some (.ref x) :: L) (.ref x :: st) h := G_aload_n f193_124 rfl
theorem f193_125 : fetch 193 125 = some (.invokevirtual 357, 3) := vtab tk193 66 rfl
theorem e193_125 (L : VL) (st : List Value) (h : VG) (b : Nat)  (ho : ob h b 11) (hs : catS st ≤ 8) : ev 193 125 L (.ref b :: st) h = (ev 180 0 [some (.ref b)] [] h).bind fun q => ev 193 128 L (q.1.toList ++ st) q.2 := G_callv (k := 1) (p := 1400) (ars := []) f193_125 lkC_12_357 (by decide) (by decide +kernel) rfl (vcls_ob (ci := 11) (by decide) ho) (Nat.le_of_ble_eq_true rfl) hs rfl
theorem f193_128 : fetch 193 128 = some (.lreturn, 1) := vtab tk193 67 rfl
theorem e193_128 (L : VL) (h : VG) (x : Int64) : ev 193 128 L [.long x] h = some (some (.long x), h) := G_lret f193_128 (by decide)
/-! 194 GuestCallsModel.comesInto(II)I -/
def tb194 : List (Nat × Instr × Nat) := [(0, .aload_n 0, 1), (1, .getfield 76, 3), (4, .iload_n 1, 1), (5, .iaload, 1), (6, .istore_n 3, 1), (7, .iload_n 3, 1), (8, .bipush 11, 2), (10, .if_icmp .ne 5, 3), (13, .iconst 3, 1), (14, .ireturn, 1), (15, .iload_n 3, 1), (16, .bipush 10, 2), (18, .if_icmp .eq 18, 3), (21, .iload_n 3, 1), (22, .bipush 8, 2), (24, .if_icmp .ge 14, 3), (27, .aload_n 0, 1), (28, .getfield 309, 3), (31, .bipush (-2), 2), (33, .if_icmp .ne 5, 3), (36, .iconst 2, 1), (37, .ireturn, 1), (38, .aload_n 0, 1), (39, .iload_n 1, 1), (40, .iload_n 2, 1), (41, .invokevirtual 328, 3), (44, .ifCond .ne 5, 3), (47, .iconst 1, 1), (48, .ireturn, 1), (49, .iload_n 3, 1), (50, .bipush 8, 2), (52, .if_icmp .ge 17, 3), (55, .aload_n 0, 1), (56, .getfield 309, 3), (59, .iload_n 3, 1), (60, .invokestatic 335, 3), (63, .ifCond .ne 32, 3), (66, .goto 27, 3), (69, .iload_n 3, 1), (70, .bipush 9, 2), (72, .if_icmp .ne 23, 3), (75, .aload_n 0, 1), (76, .getfield 309, 3), (79, .bipush 8, 2), (81, .if_icmp .eq 14, 3), (84, .aload_n 0, 1), (85, .getfield 309, 3), (88, .bipush (-2), 2), (90, .if_icmp .eq 5, 3), (93, .iconst 2, 1), (94, .ireturn, 1), (95, .iload_n 3, 1), (96, .bipush 8, 2), (98, .if_icmp .ge 8, 3), (101, .aload_n 0, 1), (102, .iload_n 3, 1), (103, .invokevirtual 341, 3), (106, .aload_n 0, 1), (107, .bipush 40, 2), (109, .iload_n 1, 1), (110, .imul, 1), (111, .iload_n 2, 1), (112, .iadd, 1), (113, .invokevirtual 344, 3), (116, .iconst 0, 1), (117, .ireturn, 1)]
theorem tk194 : tb194.all (fun q => decide (fetch 194 q.1 = some q.2)) = true := by decide +kernel
theorem f194_0 : fetch 194 0 = some (.aload_n 0, 1) := vtab tk194 0 rfl
theorem e194_0 (L : VL) (st : List Value) (h : VG) (x : Nat) : ev 194 0 (some (.ref x) :: L) (st) h = ev 194 1 (some (.ref x) :: L) (.ref x :: st) h := G_aload_n f194_0 rfl
theorem f194_1 : fetch 194 1 = some (.getfield 76, 3) := vtab tk194 1 rfl
theorem e194_1 (L : VL) (st : List Value) (h : VG) (a : Nat) (ho : ob h a 11) (hr : isR h a 42) : ev 194 1 L (.ref a :: st) h = ev 194 4 L (.ref (gR h a 42) :: st) h := G_getR (p := 1055) f194_1 lkF_12_76 (by decide) (by decide) ho hr
theorem f194_4 : fetch 194 4 = some (.iload_n 1, 1) := vtab tk194 2 rfl
theorem e194_4 (l0 : Option Value) (L : VL) (st : List Value) (h : VG) (x : Int32) : ev 194 4 (l0 :: some (.int x) :: L) (st) h = ev 194 5 (l0 :: some (.int x) :: L) (.int x :: st) h := G_iload_n f194_4 rfl
theorem f194_5 : fetch 194 5 = some (.iaload, 1) := vtab tk194 3 rfl
theorem e194_5 (L : VL) (st : List Value) (h : VG) (a : Nat) (i : Int32) (ha : rdI h a) (hi : vp_in i (aln h a)) : ev 194 5 L (.int i :: .ref a :: st) h = ev 194 6 L (.int (aI h a i.toNatClampNeg) :: st) h := G_iald' f194_5 ha hi
theorem f194_6 : fetch 194 6 = some (.istore_n 3, 1) := vtab tk194 4 rfl
theorem e194_6 (l0 l1 l2 l3 : Option Value) (L : VL) (st : List Value) (h : VG) (x : Int32) : ev 194 6 (l0 :: l1 :: l2 :: l3 :: L) (.int x :: st) h = ev 194 7 (l0 :: l1 :: vkk l2 :: some (.int x) :: L) (st) h := G_istore_n f194_6 rfl (S1_3 l0 l1 l2 l3 L _)
theorem f194_7 : fetch 194 7 = some (.iload_n 3, 1) := vtab tk194 5 rfl
theorem e194_7 (l0 l1 l2 : Option Value) (L : VL) (st : List Value) (h : VG) (x : Int32) : ev 194 7 (l0 :: l1 :: l2 :: some (.int x) :: L) (st) h = ev 194 8 (l0 :: l1 :: l2 :: some (.int x) :: L) (.int x :: st) h := G_iload_n f194_7 rfl
theorem f194_8 : fetch 194 8 = some (.bipush 11, 2) := vtab tk194 6 rfl
theorem e194_8 (L : VL) (st : List Value) (h : VG) : ev 194 8 L (st) h = ev 194 10 L (.int (11 : Int32) :: st) h := G_bipush f194_8 (by decide)
theorem f194_10 : fetch 194 10 = some (.if_icmp .ne 5, 3) := vtab tk194 7 rfl
theorem e194_10 (L : VL) (st : List Value) (h : VG) (x y : Int32) : ev 194 10 L (.int y :: .int x :: st) h = if x = y then ev 194 13 L st h else ev 194 15 L st h := G_icmp_ne f194_10 (by decide)
theorem f194_13 : fetch 194 13 = some (.iconst 3, 1) := vtab tk194 8 rfl
theorem e194_13 (L : VL) (st : List Value) (h : VG) : ev 194 13 L (st) h = ev 194 14 L (.int (3 : Int32) :: st) h := G_iconst f194_13 (by decide)
theorem f194_14 : fetch 194 14 = some (.ireturn, 1) := vtab tk194 9 rfl
theorem e194_14 (L : VL) (h : VG) (x : Int32) : ev 194 14 L [.int x] h = some (some (.int x), h) := G_iret f194_14 (ty := .int) (by decide) rfl
theorem f194_15 : fetch 194 15 = some (.iload_n 3, 1) := vtab tk194 10 rfl
theorem e194_15 (l0 l1 l2 : Option Value) (L : VL) (st : List Value) (h : VG) (x : Int32) : ev 194 15 (l0 :: l1 :: l2 :: some (.int x) :: L) (st) h = ev 194 16 (l0 :: l1 :: l2 :: some (.int x) :: L) (.int x :: st) h := G_iload_n f194_15 rfl
theorem f194_16 : fetch 194 16 = some (.bipush 10, 2) := vtab tk194 11 rfl
theorem e194_16 (L : VL) (st : List Value) (h : VG) : ev 194 16 L (st) h = ev 194 18 L (.int (10 : Int32) :: st) h := G_bipush f194_16 (by decide)
theorem f194_18 : fetch 194 18 = some (.if_icmp .eq 18, 3) := vtab tk194 12 rfl
theorem e194_18 (L : VL) (st : List Value) (h : VG) (x y : Int32) : ev 194 18 L (.int y :: .int x :: st) h = if x = y then ev 194 36 L st h else ev 194 21 L st h := G_icmp_eq f194_18 (by decide)
theorem f194_21 : fetch 194 21 = some (.iload_n 3, 1) := vtab tk194 13 rfl
theorem e194_21 (l0 l1 l2 : Option Value) (L : VL) (st : List Value) (h : VG) (x : Int32) : ev 194 21 (l0 :: l1 :: l2 :: some (.int x) :: L) (st) h = ev 194 22 (l0 :: l1 :: l2 :: some (.int x) :: L) (.int x :: st) h := G_iload_n f194_21 rfl
theorem f194_22 : fetch 194 22 = some (.bipush 8, 2) := vtab tk194 14 rfl
theorem e194_22 (L : VL) (st : List Value) (h : VG) : ev 194 22 L (st) h = ev 194 24 L (.int (8 : Int32) :: st) h := G_bipush f194_22 (by decide)
theorem f194_24 : fetch 194 24 = some (.if_icmp .ge 14, 3) := vtab tk194 15 rfl
theorem e194_24 (L : VL) (st : List Value) (h : VG) (x y : Int32) : ev 194 24 L (.int y :: .int x :: st) h = if x < y then ev 194 27 L st h else ev 194 38 L st h := G_icmp_ge f194_24 (by decide)
theorem f194_27 : fetch 194 27 = some (.aload_n 0, 1) := vtab tk194 16 rfl
theorem e194_27 (L : VL) (st : List Value) (h : VG) (x : Nat) : ev 194 27 (some (.ref x) :: L) (st) h = ev 194 28 (some (.ref x) :: L) (.ref x :: st) h := G_aload_n f194_27 rfl
theorem f194_28 : fetch 194 28 = some (.getfield 309, 3) := vtab tk194 17 rfl
theorem e194_28 (L : VL) (st : List Value) (h : VG) (a : Nat) (ho : ob h a 11) : ev 194 28 L (.ref a :: st) h = ev 194 31 L (.int (gI h a 38) :: st) h := G_getI (p := 1051) f194_28 lkF_12_309 (by decide) (by decide) ho
theorem f194_31 : fetch 194 31 = some (.bipush (-2), 2) := vtab tk194 18 rfl
theorem e194_31 (L : VL) (st : List Value) (h : VG) : ev 194 31 L (st) h = ev 194 33 L (.int (-2 : Int32) :: st) h := G_bipush f194_31 (by decide)
theorem f194_33 : fetch 194 33 = some (.if_icmp .ne 5, 3) := vtab tk194 19 rfl
theorem e194_33 (L : VL) (st : List Value) (h : VG) (x y : Int32) : ev 194 33 L (.int y :: .int x :: st) h = if x = y then ev 194 36 L st h else ev 194 38 L st h := G_icmp_ne f194_33 (by decide)
theorem f194_36 : fetch 194 36 = some (.iconst 2, 1) := vtab tk194 20 rfl
theorem e194_36 (L : VL) (st : List Value) (h : VG) : ev 194 36 L (st) h = ev 194 37 L (.int (2 : Int32) :: st) h := G_iconst f194_36 (by decide)
theorem f194_37 : fetch 194 37 = some (.ireturn, 1) := vtab tk194 21 rfl
theorem e194_37 (L : VL) (h : VG) (x : Int32) : ev 194 37 L [.int x] h = some (some (.int x), h) := G_iret f194_37 (ty := .int) (by decide) rfl
theorem f194_38 : fetch 194 38 = some (.aload_n 0, 1) := vtab tk194 22 rfl
theorem e194_38 (L : VL) (st : List Value) (h : VG) (x : Nat) : ev 194 38 (some (.ref x) :: L) (st) h = ev 194 39 (some (.ref x) :: L) (.ref x :: st) h := G_aload_n f194_38 rfl
theorem f194_39 : fetch 194 39 = some (.iload_n 1, 1) := vtab tk194 23 rfl
theorem e194_39 (l0 : Option Value) (L : VL) (st : List Value) (h : VG) (x : Int32) : ev 194 39 (l0 :: some (.int x) :: L) (st) h = ev 194 40 (l0 :: some (.int x) :: L) (.int x :: st) h := G_iload_n f194_39 rfl
theorem f194_40 : fetch 194 40 = some (.iload_n 2, 1) := vtab tk194 24 rfl
theorem e194_40 (l0 l1 : Option Value) (L : VL) (st : List Value) (h : VG) (x : Int32) : ev 194 40 (l0 :: l1 :: some (.int x) :: L) (st) h = ev 194 41 (l0 :: l1 :: some (.int x) :: L) (.int x :: st) h := G_iload_n f194_40 rfl
theorem f194_41 : fetch 194 41 = some (.invokevirtual 328, 3) := vtab tk194 25 rfl
theorem e194_41 (L : VL) (st : List Value) (h : VG) (b : Nat) (x0 : Int32) (x1 : Int32) (ho : ob h b 11) (hs : catS st ≤ 8) : ev 194 41 L (.int x1 :: .int x0 :: .ref b :: st) h = (ev 186 0 [some (.ref b), some (.int x0), some (.int x1)] [] h).bind fun q => ev 194 44 L (q.1.toList ++ st) q.2 := G_callv (k := 1) (p := 1385) (ars := [.int x0, .int x1]) f194_41 lkC_12_328 (by decide) (by decide +kernel) rfl (vcls_ob (ci := 11) (by decide) ho) (Nat.le_of_ble_eq_true rfl) hs rfl
theorem f194_44 : fetch 194 44 = some (.ifCond .ne 5, 3) := vtab tk194 26 rfl
theorem e194_44 (L : VL) (st : List Value) (h : VG) (x : Int32) : ev 194 44 L (.int x :: st) h = if x = 0 then ev 194 47 L st h else ev 194 49 L st h := G_if_ne f194_44 (by decide)
theorem f194_47 : fetch 194 47 = some (.iconst 1, 1) := vtab tk194 27 rfl
theorem e194_47 (L : VL) (st : List Value) (h : VG) : ev 194 47 L (st) h = ev 194 48 L (.int (1 : Int32) :: st) h := G_iconst f194_47 (by decide)
theorem f194_48 : fetch 194 48 = some (.ireturn, 1) := vtab tk194 28 rfl
theorem e194_48 (L : VL) (h : VG) (x : Int32) : ev 194 48 L [.int x] h = some (some (.int x), h) := G_iret f194_48 (ty := .int) (by decide) rfl
theorem f194_49 : fetch 194 49 = some (.iload_n 3, 1) := vtab tk194 29 rfl
theorem e194_49 (l0 l1 l2 : Option Value) (L : VL) (st : List Value) (h : VG) (x : Int32) : ev 194 49 (l0 :: l1 :: l2 :: some (.int x) :: L) (st) h = ev 194 50 (l0 :: l1 :: l2 :: some (.int x) :: L) (.int x :: st) h := G_iload_n f194_49 rfl
theorem f194_50 : fetch 194 50 = some (.bipush 8, 2) := vtab tk194 30 rfl
theorem e194_50 (L : VL) (st : List Value) (h : VG) : ev 194 50 L (st) h = ev 194 52 L (.int (8 : Int32) :: st) h := G_bipush f194_50 (by decide)
theorem f194_52 : fetch 194 52 = some (.if_icmp .ge 17, 3) := vtab tk194 31 rfl
theorem e194_52 (L : VL) (st : List Value) (h : VG) (x y : Int32) : ev 194 52 L (.int y :: .int x :: st) h = if x < y then ev 194 55 L st h else ev 194 69 L st h := G_icmp_ge f194_52 (by decide)
theorem f194_55 : fetch 194 55 = some (.aload_n 0, 1) := vtab tk194 32 rfl
theorem e194_55 (L : VL) (st : List Value) (h : VG) (x : Nat) : ev 194 55 (some (.ref x) :: L) (st) h = ev 194 56 (some (.ref x) :: L) (.ref x :: st) h := G_aload_n f194_55 rfl
theorem f194_56 : fetch 194 56 = some (.getfield 309, 3) := vtab tk194 33 rfl
theorem e194_56 (L : VL) (st : List Value) (h : VG) (a : Nat) (ho : ob h a 11) : ev 194 56 L (.ref a :: st) h = ev 194 59 L (.int (gI h a 38) :: st) h := G_getI (p := 1051) f194_56 lkF_12_309 (by decide) (by decide) ho
theorem f194_59 : fetch 194 59 = some (.iload_n 3, 1) := vtab tk194 34 rfl
theorem e194_59 (l0 l1 l2 : Option Value) (L : VL) (st : List Value) (h : VG) (x : Int32) : ev 194 59 (l0 :: l1 :: l2 :: some (.int x) :: L) (st) h = ev 194 60 (l0 :: l1 :: l2 :: some (.int x) :: L) (.int x :: st) h := G_iload_n f194_59 rfl
theorem f194_60 : fetch 194 60 = some (.invokestatic 335, 3) := vtab tk194 35 rfl
theorem e194_60 (L : VL) (st : List Value) (h : VG) (x0 : Int32) (x1 : Int32) (hs : catS st ≤ 8) : ev 194 60 L (.int x1 :: .int x0 :: st) h = (ev 177 0 [some (.int x0), some (.int x1)] [] h).bind fun q => ev 194 63 L (q.1.toList ++ st) q.2 := G_calls (k := 0) (p := 1389) (ars := [.int x0, .int x1]) f194_60 lkC_12_335 (by decide) (by decide +kernel) rfl (Nat.le_of_ble_eq_true rfl) hs rfl
theorem f194_63 : fetch 194 63 = some (.ifCond .ne 32, 3) := vtab tk194 36 rfl
theorem e194_63 (L : VL) (st : List Value) (h : VG) (x : Int32) : ev 194 63 L (.int x :: st) h = if x = 0 then ev 194 66 L st h else ev 194 95 L st h := G_if_ne f194_63 (by decide)
theorem f194_66 : fetch 194 66 = some (.goto 27, 3) := vtab tk194 37 rfl
theorem e194_66 (L : VL) (st : List Value) (h : VG) : ev 194 66 L (st) h = ev 194 93 L (st) h := G_goto f194_66 (by decide)
theorem f194_69 : fetch 194 69 = some (.iload_n 3, 1) := vtab tk194 38 rfl
theorem e194_69 (l0 l1 l2 : Option Value) (L : VL) (st : List Value) (h : VG) (x : Int32) : ev 194 69 (l0 :: l1 :: l2 :: some (.int x) :: L) (st) h = ev 194 70 (l0 :: l1 :: l2 :: some (.int x) :: L) (.int x :: st) h := G_iload_n f194_69 rfl
theorem f194_70 : fetch 194 70 = some (.bipush 9, 2) := vtab tk194 39 rfl
theorem e194_70 (L : VL) (st : List Value) (h : VG) : ev 194 70 L (st) h = ev 194 72 L (.int (9 : Int32) :: st) h := G_bipush f194_70 (by decide)
theorem f194_72 : fetch 194 72 = some (.if_icmp .ne 23, 3) := vtab tk194 40 rfl
theorem e194_72 (L : VL) (st : List Value) (h : VG) (x y : Int32) : ev 194 72 L (.int y :: .int x :: st) h = if x = y then ev 194 75 L st h else ev 194 95 L st h := G_icmp_ne f194_72 (by decide)
theorem f194_75 : fetch 194 75 = some (.aload_n 0, 1) := vtab tk194 41 rfl
theorem e194_75 (L : VL) (st : List Value) (h : VG) (x : Nat) : ev 194 75 (some (.ref x) :: L) (st) h = ev 194 76 (some (.ref x) :: L) (.ref x :: st) h := G_aload_n f194_75 rfl
theorem f194_76 : fetch 194 76 = some (.getfield 309, 3) := vtab tk194 42 rfl
theorem e194_76 (L : VL) (st : List Value) (h : VG) (a : Nat) (ho : ob h a 11) : ev 194 76 L (.ref a :: st) h = ev 194 79 L (.int (gI h a 38) :: st) h := G_getI (p := 1051) f194_76 lkF_12_309 (by decide) (by decide) ho
theorem f194_79 : fetch 194 79 = some (.bipush 8, 2) := vtab tk194 43 rfl
theorem e194_79 (L : VL) (st : List Value) (h : VG) : ev 194 79 L (st) h = ev 194 81 L (.int (8 : Int32) :: st) h := G_bipush f194_79 (by decide)
theorem f194_81 : fetch 194 81 = some (.if_icmp .eq 14, 3) := vtab tk194 44 rfl
theorem e194_81 (L : VL) (st : List Value) (h : VG) (x y : Int32) : ev 194 81 L (.int y :: .int x :: st) h = if x = y then ev 194 95 L st h else ev 194 84 L st h := G_icmp_eq f194_81 (by decide)
theorem f194_84 : fetch 194 84 = some (.aload_n 0, 1) := vtab tk194 45 rfl
theorem e194_84 (L : VL) (st : List Value) (h : VG) (x : Nat) : ev 194 84 (some (.ref x) :: L) (st) h = ev 194 85 (some (.ref x) :: L) (.ref x :: st) h := G_aload_n f194_84 rfl
theorem f194_85 : fetch 194 85 = some (.getfield 309, 3) := vtab tk194 46 rfl
theorem e194_85 (L : VL) (st : List Value) (h : VG) (a : Nat) (ho : ob h a 11) : ev 194 85 L (.ref a :: st) h = ev 194 88 L (.int (gI h a 38) :: st) h := G_getI (p := 1051) f194_85 lkF_12_309 (by decide) (by decide) ho
theorem f194_88 : fetch 194 88 = some (.bipush (-2), 2) := vtab tk194 47 rfl
theorem e194_88 (L : VL) (st : List Value) (h : VG) : ev 194 88 L (st) h = ev 194 90 L (.int (-2 : Int32) :: st) h := G_bipush f194_88 (by decide)
theorem f194_90 : fetch 194 90 = some (.if_icmp .eq 5, 3) := vtab tk194 48 rfl
theorem e194_90 (L : VL) (st : List Value) (h : VG) (x y : Int32) : ev 194 90 L (.int y :: .int x :: st) h = if x = y then ev 194 95 L st h else ev 194 93 L st h := G_icmp_eq f194_90 (by decide)
theorem f194_93 : fetch 194 93 = some (.iconst 2, 1) := vtab tk194 49 rfl
theorem e194_93 (L : VL) (st : List Value) (h : VG) : ev 194 93 L (st) h = ev 194 94 L (.int (2 : Int32) :: st) h := G_iconst f194_93 (by decide)
theorem f194_94 : fetch 194 94 = some (.ireturn, 1) := vtab tk194 50 rfl
theorem e194_94 (L : VL) (h : VG) (x : Int32) : ev 194 94 L [.int x] h = some (some (.int x), h) := G_iret f194_94 (ty := .int) (by decide) rfl
theorem f194_95 : fetch 194 95 = some (.iload_n 3, 1) := vtab tk194 51 rfl
theorem e194_95 (l0 l1 l2 : Option Value) (L : VL) (st : List Value) (h : VG) (x : Int32) : ev 194 95 (l0 :: l1 :: l2 :: some (.int x) :: L) (st) h = ev 194 96 (l0 :: l1 :: l2 :: some (.int x) :: L) (.int x :: st) h := G_iload_n f194_95 rfl
theorem f194_96 : fetch 194 96 = some (.bipush 8, 2) := vtab tk194 52 rfl
theorem e194_96 (L : VL) (st : List Value) (h : VG) : ev 194 96 L (st) h = ev 194 98 L (.int (8 : Int32) :: st) h := G_bipush f194_96 (by decide)
theorem f194_98 : fetch 194 98 = some (.if_icmp .ge 8, 3) := vtab tk194 53 rfl
theorem e194_98 (L : VL) (st : List Value) (h : VG) (x y : Int32) : ev 194 98 L (.int y :: .int x :: st) h = if x < y then ev 194 101 L st h else ev 194 106 L st h := G_icmp_ge f194_98 (by decide)
theorem f194_101 : fetch 194 101 = some (.aload_n 0, 1) := vtab tk194 54 rfl
theorem e194_101 (L : VL) (st : List Value) (h : VG) (x : Nat) : ev 194 101 (some (.ref x) :: L) (st) h = ev 194 102 (some (.ref x) :: L) (.ref x :: st) h := G_aload_n f194_101 rfl
theorem f194_102 : fetch 194 102 = some (.iload_n 3, 1) := vtab tk194 55 rfl
theorem e194_102 (l0 l1 l2 : Option Value) (L : VL) (st : List Value) (h : VG) (x : Int32) : ev 194 102 (l0 :: l1 :: l2 :: some (.int x) :: L) (st) h = ev 194 103 (l0 :: l1 :: l2 :: some (.int x) :: L) (.int x :: st) h := G_iload_n f194_102 rfl
theorem f194_103 : fetch 194 103 = some (.invokevirtual 341, 3) := vtab tk194 56 rfl
theorem e194_103 (L : VL) (st : List Value) (h : VG) (b : Nat) (x0 : Int32) (ho : ob h b 11) (hs : catS st ≤ 8) : ev 194 103 L (.int x0 :: .ref b :: st) h = (ev 179 0 [some (.ref b), some (.int x0)] [] h).bind fun q => ev 194 106 L (q.1.toList ++ st) q.2 := G_callv (k := 1) (p := 1396) (ars := [.int x0]) f194_103 lkC_12_341 (by decide) (by decide +kernel) rfl (vcls_ob (ci := 11) (by decide) ho) (Nat.le_of_ble_eq_true rfl) hs rfl
theorem f194_106 : fetch 194 106 = some (.aload_n 0, 1) := vtab tk194 57 rfl
theorem e194_106 (L : VL) (st : List Value) (h : VG) (x : Nat) : ev 194 106 (some (.ref x) :: L) (st) h = ev 194 107 (some (.ref x) :: L) (.ref x :: st) h := G_aload_n f194_106 rfl
theorem f194_107 : fetch 194 107 = some (.bipush 40, 2) := vtab tk194 58 rfl
theorem e194_107 (L : VL) (st : List Value) (h : VG) : ev 194 107 L (st) h = ev 194 109 L (.int (40 : Int32) :: st) h := G_bipush f194_107 (by decide)
theorem f194_109 : fetch 194 109 = some (.iload_n 1, 1) := vtab tk194 59 rfl
theorem e194_109 (l0 : Option Value) (L : VL) (st : List Value) (h : VG) (x : Int32) : ev 194 109 (l0 :: some (.int x) :: L) (st) h = ev 194 110 (l0 :: some (.int x) :: L) (.int x :: st) h := G_iload_n f194_109 rfl
theorem f194_110 : fetch 194 110 = some (.imul, 1) := vtab tk194 60 rfl
theorem e194_110 (L : VL) (st : List Value) (h : VG) (x y : Int32) : ev 194 110 L (.int y :: .int x :: st) h = ev 194 111 L (.int (x * y) :: st) h := G_imul f194_110
theorem f194_111 : fetch 194 111 = some (.iload_n 2, 1) := vtab tk194 61 rfl
theorem e194_111 (l0 l1 : Option Value) (L : VL) (st : List Value) (h : VG) (x : Int32) : ev 194 111 (l0 :: l1 :: some (.int x) :: L) (st) h = ev 194 112 (l0 :: l1 :: some (.int x) :: L) (.int x :: st) h := G_iload_n f194_111 rfl
theorem f194_112 : fetch 194 112 = some (.iadd, 1) := vtab tk194 62 rfl
theorem e194_112 (L : VL) (st : List Value) (h : VG) (x y : Int32) : ev 194 112 L (.int y :: .int x :: st) h = ev 194 113 L (.int (x + y) :: st) h := G_iadd f194_112
theorem f194_113 : fetch 194 113 = some (.invokevirtual 344, 3) := vtab tk194 63 rfl
theorem e194_113 (L : VL) (st : List Value) (h : VG) (b : Nat) (x0 : Int32) (ho : ob h b 11) (hs : catS st ≤ 8) : ev 194 113 L (.int x0 :: .ref b :: st) h = (ev 185 0 [some (.ref b), some (.int x0)] [] h).bind fun q => ev 194 116 L (q.1.toList ++ st) q.2 := G_callv (k := 1) (p := 1417) (ars := [.int x0]) f194_113 lkC_12_344 (by decide) (by decide +kernel) rfl (vcls_ob (ci := 11) (by decide) ho) (Nat.le_of_ble_eq_true rfl) hs rfl
theorem f194_116 : fetch 194 116 = some (.iconst 0, 1) := vtab tk194 64 rfl
theorem e194_116 (L : VL) (st : List Value) (h : VG) : ev 194 116 L (st) h = ev 194 117 L (.int (0 : Int32) :: st) h := G_iconst f194_116 (by decide)
theorem f194_117 : fetch 194 117 = some (.ireturn, 1) := vtab tk194 65 rfl
theorem e194_117 (L : VL) (h : VG) (x : Int32) : ev 194 117 L [.int x] h = some (some (.int x), h) := G_iret f194_117 (ty := .int) (by decide) rfl
/-! 195 GuestCallsModel.put(IIIJ)Z -/
def tb195 : List (Nat × Instr × Nat) := [(0, .aload_n 0, 1), (1, .iconst 0, 1), (2, .putfield 244, 3), (5, .iload_n 1, 1), (6, .invokestatic 325, 3), (9, .ifCond .eq 13, 3), (12, .iload_n 3, 1), (13, .iconst 0, 1), (14, .bipush 10, 2), (16, .invokestatic 260, 3), (19, .ifCond .ne 5, 3), (22, .iconst 0, 1), (23, .ireturn, 1), (24, .iload_n 3, 1), (25, .invokestatic 350, 3), (28, .ifCond .eq 13, 3), (31, .aload_n 0, 1), (32, .iload_n 3, 1), (33, .lload 4, 2), (35, .invokevirtual 361, 3), (38, .goto 51, 3), (41, .aload_n 0, 1), (42, .iload_n 3, 1), (43, .bipush 8, 2), (45, .if_icmp .ne 8, 3), (48, .bipush 8, 2), (50, .goto 16, 3), (53, .iload_n 3, 1), (54, .bipush 9, 2), (56, .if_icmp .ne 8, 3), (59, .bipush 9, 2), (61, .goto 5, 3), (64, .bipush (-2), 2), (66, .putfield 309, 3), (69, .aload_n 0, 1), (70, .iload_n 3, 1), (71, .bipush 8, 2), (73, .if_icmp .ne 12, 3), (76, .lload 4, 2), (78, .ldc2_w 370, 3), (81, .land, 1), (82, .goto 4, 3), (85, .lconst 0, 1), (86, .putfield 312, 3), (89, .aload_n 0, 1), (90, .aload_n 0, 1), (91, .iload_n 1, 1), (92, .iload_n 2, 1), (93, .invokevirtual 372, 3), (96, .invokevirtual 347, 3), (99, .ireturn, 1)]
theorem tk195 : tb195.all (fun q => decide (fetch 195 q.1 = some q.2)) = true := by decide +kernel
theorem f195_0 : fetch 195 0 = some (.aload_n 0, 1) := vtab tk195 0 rfl
theorem e195_0 (L : VL) (st : List Value) (h : VG) (x : Nat) : ev 195 0 (some (.ref x) :: L) (st) h = ev 195 1 (some (.ref x) :: L) (.ref x :: st) h := G_aload_n f195_0 rfl
theorem f195_1 : fetch 195 1 = some (.iconst 0, 1) := vtab tk195 1 rfl
theorem e195_1 (L : VL) (st : List Value) (h : VG) : ev 195 1 L (st) h = ev 195 2 L (.int (0 : Int32) :: st) h := G_iconst f195_1 (by decide)
theorem f195_2 : fetch 195 2 = some (.putfield 244, 3) := vtab tk195 2 rfl
theorem e195_2 (L : VL) (st : List Value) (h : VG) (a : Nat) (x : Int32) (ho : ob h a 11) : ev 195 2 L (.int x :: .ref a :: st) h = ev 195 5 L (st) (pI h a 31 x) := G_putI (p := 1044) f195_2 lkF_12_244 (by decide) (by decide) (by decide +kernel) ⟨rfl, rfl⟩ ho
theorem f195_5 : fetch 195 5 = some (.iload_n 1, 1) := vtab tk195 3 rfl
theorem e195_5 (l0 : Option Value) (L : VL) (st : List Value) (h : VG) (x : Int32) : ev 195 5 (l0 :: some (.int x) :: L) (st) h = ev 195 6 (l0 :: some (.int x) :: L) (.int x :: st) h := G_iload_n f195_5 rfl
theorem f195_6 : fetch 195 6 = some (.invokestatic 325, 3) := vtab tk195 4 rfl
theorem e195_6 (L : VL) (st : List Value) (h : VG) (x0 : Int32) (hs : catS st ≤ 8) : ev 195 6 L (.int x0 :: st) h = (ev 181 0 [some (.int x0)] [] h).bind fun q => ev 195 9 L (q.1.toList ++ st) q.2 := G_calls (k := 0) (p := 1359) (ars := [.int x0]) f195_6 lkC_12_325 (by decide) (by decide +kernel) rfl (Nat.le_of_ble_eq_true rfl) hs rfl
theorem f195_9 : fetch 195 9 = some (.ifCond .eq 13, 3) := vtab tk195 5 rfl
theorem e195_9 (L : VL) (st : List Value) (h : VG) (x : Int32) : ev 195 9 L (.int x :: st) h = if x = 0 then ev 195 22 L st h else ev 195 12 L st h := G_if_eq f195_9 (by decide)
theorem f195_12 : fetch 195 12 = some (.iload_n 3, 1) := vtab tk195 6 rfl
theorem e195_12 (l0 l1 l2 : Option Value) (L : VL) (st : List Value) (h : VG) (x : Int32) : ev 195 12 (l0 :: l1 :: l2 :: some (.int x) :: L) (st) h = ev 195 13 (l0 :: l1 :: l2 :: some (.int x) :: L) (.int x :: st) h := G_iload_n f195_12 rfl
theorem f195_13 : fetch 195 13 = some (.iconst 0, 1) := vtab tk195 7 rfl
theorem e195_13 (L : VL) (st : List Value) (h : VG) : ev 195 13 L (st) h = ev 195 14 L (.int (0 : Int32) :: st) h := G_iconst f195_13 (by decide)
theorem f195_14 : fetch 195 14 = some (.bipush 10, 2) := vtab tk195 8 rfl
theorem e195_14 (L : VL) (st : List Value) (h : VG) : ev 195 14 L (st) h = ev 195 16 L (.int (10 : Int32) :: st) h := G_bipush f195_14 (by decide)
theorem f195_16 : fetch 195 16 = some (.invokestatic 260, 3) := vtab tk195 9 rfl
theorem e195_16 (L : VL) (st : List Value) (h : VG) (x0 : Int32) (x1 : Int32) (x2 : Int32) (hs : catS st ≤ 8) : ev 195 16 L (.int x2 :: .int x1 :: .int x0 :: st) h = (ev 162 0 [some (.int x0), some (.int x1), some (.int x2)] [] h).bind fun q => ev 195 19 L (q.1.toList ++ st) q.2 := G_calls (k := 0) (p := 1286) (ars := [.int x0, .int x1, .int x2]) f195_16 lkC_12_260 (by decide) (by decide +kernel) rfl (Nat.le_of_ble_eq_true rfl) hs rfl
theorem f195_19 : fetch 195 19 = some (.ifCond .ne 5, 3) := vtab tk195 10 rfl
theorem e195_19 (L : VL) (st : List Value) (h : VG) (x : Int32) : ev 195 19 L (.int x :: st) h = if x = 0 then ev 195 22 L st h else ev 195 24 L st h := G_if_ne f195_19 (by decide)
theorem f195_22 : fetch 195 22 = some (.iconst 0, 1) := vtab tk195 11 rfl
theorem e195_22 (L : VL) (st : List Value) (h : VG) : ev 195 22 L (st) h = ev 195 23 L (.int (0 : Int32) :: st) h := G_iconst f195_22 (by decide)
theorem f195_23 : fetch 195 23 = some (.ireturn, 1) := vtab tk195 12 rfl
theorem e195_23 (L : VL) (h : VG) (x : Int32) (hz : x = 0 ∨ x = 1) : ev 195 23 L [.int x] h = some (some (.int x), h) := G_iret f195_23 (ty := .boolean) (by decide) (vbool hz).1
theorem f195_24 : fetch 195 24 = some (.iload_n 3, 1) := vtab tk195 13 rfl
theorem e195_24 (l0 l1 l2 : Option Value) (L : VL) (st : List Value) (h : VG) (x : Int32) : ev 195 24 (l0 :: l1 :: l2 :: some (.int x) :: L) (st) h = ev 195 25 (l0 :: l1 :: l2 :: some (.int x) :: L) (.int x :: st) h := G_iload_n f195_24 rfl
theorem f195_25 : fetch 195 25 = some (.invokestatic 350, 3) := vtab tk195 14 rfl
theorem e195_25 (L : VL) (st : List Value) (h : VG) (x0 : Int32) (hs : catS st ≤ 8) : ev 195 25 L (.int x0 :: st) h = (ev 182 0 [some (.int x0)] [] h).bind fun q => ev 195 28 L (q.1.toList ++ st) q.2 := G_calls (k := 0) (p := 1374) (ars := [.int x0]) f195_25 lkC_12_350 (by decide) (by decide +kernel) rfl (Nat.le_of_ble_eq_true rfl) hs rfl
theorem f195_28 : fetch 195 28 = some (.ifCond .eq 13, 3) := vtab tk195 15 rfl
theorem e195_28 (L : VL) (st : List Value) (h : VG) (x : Int32) : ev 195 28 L (.int x :: st) h = if x = 0 then ev 195 41 L st h else ev 195 31 L st h := G_if_eq f195_28 (by decide)
theorem f195_31 : fetch 195 31 = some (.aload_n 0, 1) := vtab tk195 16 rfl
theorem e195_31 (L : VL) (st : List Value) (h : VG) (x : Nat) : ev 195 31 (some (.ref x) :: L) (st) h = ev 195 32 (some (.ref x) :: L) (.ref x :: st) h := G_aload_n f195_31 rfl
theorem f195_32 : fetch 195 32 = some (.iload_n 3, 1) := vtab tk195 17 rfl
theorem e195_32 (l0 l1 l2 : Option Value) (L : VL) (st : List Value) (h : VG) (x : Int32) : ev 195 32 (l0 :: l1 :: l2 :: some (.int x) :: L) (st) h = ev 195 33 (l0 :: l1 :: l2 :: some (.int x) :: L) (.int x :: st) h := G_iload_n f195_32 rfl
theorem f195_33 : fetch 195 33 = some (.lload 4, 2) := vtab tk195 18 rfl
theorem e195_33 (l0 l1 l2 l3 : Option Value) (L : VL) (st : List Value) (h : VG) (x : Int64) : ev 195 33 (l0 :: l1 :: l2 :: l3 :: some (.long x) :: L) (st) h = ev 195 35 (l0 :: l1 :: l2 :: l3 :: some (.long x) :: L) (.long x :: st) h := G_lload f195_33 rfl
theorem f195_35 : fetch 195 35 = some (.invokevirtual 361, 3) := vtab tk195 19 rfl
theorem e195_35 (L : VL) (st : List Value) (h : VG) (b : Nat) (x0 : Int32) (x1 : Int64) (ho : ob h b 11) (hs : catS st ≤ 8) : ev 195 35 L (.long x1 :: .int x0 :: .ref b :: st) h = (ev 178 0 [some (.ref b), some (.int x0), some (.long x1), none] [] h).bind fun q => ev 195 38 L (q.1.toList ++ st) q.2 := G_callv (k := 1) (p := 1408) (ars := [.int x0, .long x1]) f195_35 lkC_12_361 (by decide) (by decide +kernel) rfl (vcls_ob (ci := 11) (by decide) ho) (Nat.le_of_ble_eq_true rfl) hs rfl
theorem f195_38 : fetch 195 38 = some (.goto 51, 3) := vtab tk195 20 rfl
theorem e195_38 (L : VL) (st : List Value) (h : VG) : ev 195 38 L (st) h = ev 195 89 L (st) h := G_goto f195_38 (by decide)
theorem f195_41 : fetch 195 41 = some (.aload_n 0, 1) := vtab tk195 21 rfl
theorem e195_41 (L : VL) (st : List Value) (h : VG) (x : Nat) : ev 195 41 (some (.ref x) :: L) (st) h = ev 195 42 (some (.ref x) :: L) (.ref x :: st) h := G_aload_n f195_41 rfl
theorem f195_42 : fetch 195 42 = some (.iload_n 3, 1) := vtab tk195 22 rfl
theorem e195_42 (l0 l1 l2 : Option Value) (L : VL) (st : List Value) (h : VG) (x : Int32) : ev 195 42 (l0 :: l1 :: l2 :: some (.int x) :: L) (st) h = ev 195 43 (l0 :: l1 :: l2 :: some (.int x) :: L) (.int x :: st) h := G_iload_n f195_42 rfl
theorem f195_43 : fetch 195 43 = some (.bipush 8, 2) := vtab tk195 23 rfl
theorem e195_43 (L : VL) (st : List Value) (h : VG) : ev 195 43 L (st) h = ev 195 45 L (.int (8 : Int32) :: st) h := G_bipush f195_43 (by decide)
theorem f195_45 : fetch 195 45 = some (.if_icmp .ne 8, 3) := vtab tk195 24 rfl
theorem e195_45 (L : VL) (st : List Value) (h : VG) (x y : Int32) : ev 195 45 L (.int y :: .int x :: st) h = if x = y then ev 195 48 L st h else ev 195 53 L st h := G_icmp_ne f195_45 (by decide)
theorem f195_48 : fetch 195 48 = some (.bipush 8, 2) := vtab tk195 25 rfl
theorem e195_48 (L : VL) (st : List Value) (h : VG) : ev 195 48 L (st) h = ev 195 50 L (.int (8 : Int32) :: st) h := G_bipush f195_48 (by decide)
theorem f195_50 : fetch 195 50 = some (.goto 16, 3) := vtab tk195 26 rfl
theorem e195_50 (L : VL) (st : List Value) (h : VG) : ev 195 50 L (st) h = ev 195 66 L (st) h := G_goto f195_50 (by decide)
theorem f195_53 : fetch 195 53 = some (.iload_n 3, 1) := vtab tk195 27 rfl
theorem e195_53 (l0 l1 l2 : Option Value) (L : VL) (st : List Value) (h : VG) (x : Int32) : ev 195 53 (l0 :: l1 :: l2 :: some (.int x) :: L) (st) h = ev 195 54 (l0 :: l1 :: l2 :: some (.int x) :: L) (.int x :: st) h := G_iload_n f195_53 rfl
theorem f195_54 : fetch 195 54 = some (.bipush 9, 2) := vtab tk195 28 rfl
theorem e195_54 (L : VL) (st : List Value) (h : VG) : ev 195 54 L (st) h = ev 195 56 L (.int (9 : Int32) :: st) h := G_bipush f195_54 (by decide)
theorem f195_56 : fetch 195 56 = some (.if_icmp .ne 8, 3) := vtab tk195 29 rfl
theorem e195_56 (L : VL) (st : List Value) (h : VG) (x y : Int32) : ev 195 56 L (.int y :: .int x :: st) h = if x = y then ev 195 59 L st h else ev 195 64 L st h := G_icmp_ne f195_56 (by decide)
theorem f195_59 : fetch 195 59 = some (.bipush 9, 2) := vtab tk195 30 rfl
theorem e195_59 (L : VL) (st : List Value) (h : VG) : ev 195 59 L (st) h = ev 195 61 L (.int (9 : Int32) :: st) h := G_bipush f195_59 (by decide)
theorem f195_61 : fetch 195 61 = some (.goto 5, 3) := vtab tk195 31 rfl
theorem e195_61 (L : VL) (st : List Value) (h : VG) : ev 195 61 L (st) h = ev 195 66 L (st) h := G_goto f195_61 (by decide)
theorem f195_64 : fetch 195 64 = some (.bipush (-2), 2) := vtab tk195 32 rfl
theorem e195_64 (L : VL) (st : List Value) (h : VG) : ev 195 64 L (st) h = ev 195 66 L (.int (-2 : Int32) :: st) h := G_bipush f195_64 (by decide)
theorem f195_66 : fetch 195 66 = some (.putfield 309, 3) := vtab tk195 33 rfl
theorem e195_66 (L : VL) (st : List Value) (h : VG) (a : Nat) (x : Int32) (ho : ob h a 11) : ev 195 66 L (.int x :: .ref a :: st) h = ev 195 69 L (st) (pI h a 38 x) := G_putI (p := 1051) f195_66 lkF_12_309 (by decide) (by decide) (by decide +kernel) ⟨rfl, rfl⟩ ho
theorem f195_69 : fetch 195 69 = some (.aload_n 0, 1) := vtab tk195 34 rfl
theorem e195_69 (L : VL) (st : List Value) (h : VG) (x : Nat) : ev 195 69 (some (.ref x) :: L) (st) h = ev 195 70 (some (.ref x) :: L) (.ref x :: st) h := G_aload_n f195_69 rfl
theorem f195_70 : fetch 195 70 = some (.iload_n 3, 1) := vtab tk195 35 rfl
theorem e195_70 (l0 l1 l2 : Option Value) (L : VL) (st : List Value) (h : VG) (x : Int32) : ev 195 70 (l0 :: l1 :: l2 :: some (.int x) :: L) (st) h = ev 195 71 (l0 :: l1 :: l2 :: some (.int x) :: L) (.int x :: st) h := G_iload_n f195_70 rfl
theorem f195_71 : fetch 195 71 = some (.bipush 8, 2) := vtab tk195 36 rfl
theorem e195_71 (L : VL) (st : List Value) (h : VG) : ev 195 71 L (st) h = ev 195 73 L (.int (8 : Int32) :: st) h := G_bipush f195_71 (by decide)
theorem f195_73 : fetch 195 73 = some (.if_icmp .ne 12, 3) := vtab tk195 37 rfl
theorem e195_73 (L : VL) (st : List Value) (h : VG) (x y : Int32) : ev 195 73 L (.int y :: .int x :: st) h = if x = y then ev 195 76 L st h else ev 195 85 L st h := G_icmp_ne f195_73 (by decide)
theorem f195_76 : fetch 195 76 = some (.lload 4, 2) := vtab tk195 38 rfl
theorem e195_76 (l0 l1 l2 l3 : Option Value) (L : VL) (st : List Value) (h : VG) (x : Int64) : ev 195 76 (l0 :: l1 :: l2 :: l3 :: some (.long x) :: L) (st) h = ev 195 78 (l0 :: l1 :: l2 :: l3 :: some (.long x) :: L) (.long x :: st) h := G_lload f195_76 rfl
theorem f195_78 : fetch 195 78 = some (.ldc2_w 370, 3) := vtab tk195 39 rfl
theorem e195_78 (L : VL) (st : List Value) (h : VG) : ev 195 78 L (st) h = ev 195 81 L (.long 7 :: st) h := G_ldc2l (p := 1430) f195_78 lkK_12_370
theorem f195_81 : fetch 195 81 = some (.land, 1) := vtab tk195 40 rfl
theorem e195_81 (L : VL) (st : List Value) (h : VG) (x y : Int64) : ev 195 81 L (.long y :: .long x :: st) h = ev 195 82 L (.long (x &&& y) :: st) h := G_land f195_81
theorem f195_82 : fetch 195 82 = some (.goto 4, 3) := vtab tk195 41 rfl
theorem e195_82 (L : VL) (st : List Value) (h : VG) : ev 195 82 L (st) h = ev 195 86 L (st) h := G_goto f195_82 (by decide)
theorem f195_85 : fetch 195 85 = some (.lconst 0, 1) := vtab tk195 42 rfl
theorem e195_85 (L : VL) (st : List Value) (h : VG) : ev 195 85 L (st) h = ev 195 86 L (.long 0 :: st) h := G_lconst f195_85 (by decide)
theorem f195_86 : fetch 195 86 = some (.putfield 312, 3) := vtab tk195 43 rfl
theorem e195_86 (L : VL) (st : List Value) (h : VG) (a : Nat) (x : Int64) (ho : ob h a 11) : ev 195 86 L (.long x :: .ref a :: st) h = ev 195 89 L (st) (pL h a 39 x) := G_putL (p := 1052) f195_86 lkF_12_312 (by decide) (by decide) (by decide +kernel) ⟨rfl, rfl⟩ ho
theorem f195_89 : fetch 195 89 = some (.aload_n 0, 1) := vtab tk195 44 rfl
theorem e195_89 (L : VL) (st : List Value) (h : VG) (x : Nat) : ev 195 89 (some (.ref x) :: L) (st) h = ev 195 90 (some (.ref x) :: L) (.ref x :: st) h := G_aload_n f195_89 rfl
theorem f195_90 : fetch 195 90 = some (.aload_n 0, 1) := vtab tk195 45 rfl
theorem e195_90 (L : VL) (st : List Value) (h : VG) (x : Nat) : ev 195 90 (some (.ref x) :: L) (st) h = ev 195 91 (some (.ref x) :: L) (.ref x :: st) h := G_aload_n f195_90 rfl
theorem f195_91 : fetch 195 91 = some (.iload_n 1, 1) := vtab tk195 46 rfl
theorem e195_91 (l0 : Option Value) (L : VL) (st : List Value) (h : VG) (x : Int32) : ev 195 91 (l0 :: some (.int x) :: L) (st) h = ev 195 92 (l0 :: some (.int x) :: L) (.int x :: st) h := G_iload_n f195_91 rfl
theorem f195_92 : fetch 195 92 = some (.iload_n 2, 1) := vtab tk195 47 rfl
theorem e195_92 (l0 l1 : Option Value) (L : VL) (st : List Value) (h : VG) (x : Int32) : ev 195 92 (l0 :: l1 :: some (.int x) :: L) (st) h = ev 195 93 (l0 :: l1 :: some (.int x) :: L) (.int x :: st) h := G_iload_n f195_92 rfl
theorem f195_93 : fetch 195 93 = some (.invokevirtual 372, 3) := vtab tk195 48 rfl
theorem e195_93 (L : VL) (st : List Value) (h : VG) (b : Nat) (x0 : Int32) (x1 : Int32) (ho : ob h b 11) (hs : catS st ≤ 8) : ev 195 93 L (.int x1 :: .int x0 :: .ref b :: st) h = (ev 194 0 [some (.ref b), some (.int x0), some (.int x1), none] [] h).bind fun q => ev 195 96 L (q.1.toList ++ st) q.2 := G_callv (k := 1) (p := 1431) (ars := [.int x0, .int x1]) f195_93 lkC_12_372 (by decide) (by decide +kernel) rfl (vcls_ob (ci := 11) (by decide) ho) (Nat.le_of_ble_eq_true rfl) hs rfl
theorem f195_96 : fetch 195 96 = some (.invokevirtual 347, 3) := vtab tk195 49 rfl
theorem e195_96 (L : VL) (st : List Value) (h : VG) (b : Nat) (x0 : Int32) (ho : ob h b 11) (hs : catS st ≤ 8) : ev 195 96 L (.int x0 :: .ref b :: st) h = (ev 164 0 [some (.ref b), some (.int x0)] [] h).bind fun q => ev 195 99 L (q.1.toList ++ st) q.2 := G_callv (k := 1) (p := 1366) (ars := [.int x0]) f195_96 lkC_12_347 (by decide) (by decide +kernel) rfl (vcls_ob (ci := 11) (by decide) ho) (Nat.le_of_ble_eq_true rfl) hs rfl
theorem f195_99 : fetch 195 99 = some (.ireturn, 1) := vtab tk195 50 rfl
theorem e195_99 (L : VL) (h : VG) (x : Int32) (hz : x = 0 ∨ x = 1) : ev 195 99 L [.int x] h = some (some (.int x), h) := G_iret f195_99 (ty := .boolean) (by decide) (vbool hz).1
/-! 196 GuestCallsModel.copy(IIIIII)I -/
def tb196 : List (Nat × Instr × Nat) := [(0, .aload_n 0, 1), (1, .iconst 0, 1), (2, .putfield 244, 3), (5, .iload_n 1, 1), (6, .invokestatic 325, 3), (9, .ifCond .eq 29, 3), (12, .iload_n 3, 1), (13, .invokestatic 325, 3), (16, .ifCond .eq 22, 3), (19, .iload 5, 2), (21, .iconst 0, 1), (22, .bipush 40, 2), (24, .invokestatic 260, 3), (27, .ifCond .eq 11, 3), (30, .iload 6, 2), (32, .invokestatic 350, 3), (35, .ifCond .ne 5, 3), (38, .iconst (-1), 1), (39, .ireturn, 1), (40, .iconst 0, 1), (41, .istore 7, 2), (43, .iconst 0, 1), (44, .istore 8, 2), (46, .iconst 0, 1), (47, .istore 9, 2), (49, .iload 9, 2), (51, .iload 5, 2), (53, .if_icmp .ge 59, 3), (56, .aload_n 0, 1), (57, .iload_n 1, 1), (58, .iload_n 2, 1), (59, .iload 9, 2), (61, .iadd, 1), (62, .iload 6, 2), (64, .invokevirtual 353, 3), (67, .istore 10, 2), (69, .iload 10, 2), (71, .ifCond .ne 15, 3), (74, .aload_n 0, 1), (75, .iload_n 3, 1), (76, .iload 4, 2), (78, .iload 9, 2), (80, .iadd, 1), (81, .invokevirtual 365, 3), (84, .istore 10, 2), (86, .iload 10, 2), (88, .ifCond .ne 9, 3), (91, .iinc 7 1, 3), (94, .goto 12, 3), (97, .iload 8, 2), (99, .ifCond .ne 7, 3), (102, .iload 10, 2), (104, .istore 8, 2), (106, .iinc 9 1, 3), (109, .goto (-60), 3), (112, .aload_n 0, 1), (113, .iload 8, 2), (115, .invokevirtual 347, 3), (118, .pop, 1), (119, .iload 7, 2), (121, .ireturn, 1)]
theorem tk196 : tb196.all (fun q => decide (fetch 196 q.1 = some q.2)) = true := by decide +kernel
theorem f196_0 : fetch 196 0 = some (.aload_n 0, 1) := vtab tk196 0 rfl
theorem e196_0 (L : VL) (st : List Value) (h : VG) (x : Nat) : ev 196 0 (some (.ref x) :: L) (st) h = ev 196 1 (some (.ref x) :: L) (.ref x :: st) h := G_aload_n f196_0 rfl
theorem f196_1 : fetch 196 1 = some (.iconst 0, 1) := vtab tk196 1 rfl
theorem e196_1 (L : VL) (st : List Value) (h : VG) : ev 196 1 L (st) h = ev 196 2 L (.int (0 : Int32) :: st) h := G_iconst f196_1 (by decide)
theorem f196_2 : fetch 196 2 = some (.putfield 244, 3) := vtab tk196 2 rfl
theorem e196_2 (L : VL) (st : List Value) (h : VG) (a : Nat) (x : Int32) (ho : ob h a 11) : ev 196 2 L (.int x :: .ref a :: st) h = ev 196 5 L (st) (pI h a 31 x) := G_putI (p := 1044) f196_2 lkF_12_244 (by decide) (by decide) (by decide +kernel) ⟨rfl, rfl⟩ ho
theorem f196_5 : fetch 196 5 = some (.iload_n 1, 1) := vtab tk196 3 rfl
theorem e196_5 (l0 : Option Value) (L : VL) (st : List Value) (h : VG) (x : Int32) : ev 196 5 (l0 :: some (.int x) :: L) (st) h = ev 196 6 (l0 :: some (.int x) :: L) (.int x :: st) h := G_iload_n f196_5 rfl
theorem f196_6 : fetch 196 6 = some (.invokestatic 325, 3) := vtab tk196 4 rfl
theorem e196_6 (L : VL) (st : List Value) (h : VG) (x0 : Int32) (hs : catS st ≤ 8) : ev 196 6 L (.int x0 :: st) h = (ev 181 0 [some (.int x0)] [] h).bind fun q => ev 196 9 L (q.1.toList ++ st) q.2 := G_calls (k := 0) (p := 1359) (ars := [.int x0]) f196_6 lkC_12_325 (by decide) (by decide +kernel) rfl (Nat.le_of_ble_eq_true rfl) hs rfl
theorem f196_9 : fetch 196 9 = some (.ifCond .eq 29, 3) := vtab tk196 5 rfl
theorem e196_9 (L : VL) (st : List Value) (h : VG) (x : Int32) : ev 196 9 L (.int x :: st) h = if x = 0 then ev 196 38 L st h else ev 196 12 L st h := G_if_eq f196_9 (by decide)
theorem f196_12 : fetch 196 12 = some (.iload_n 3, 1) := vtab tk196 6 rfl
theorem e196_12 (l0 l1 l2 : Option Value) (L : VL) (st : List Value) (h : VG) (x : Int32) : ev 196 12 (l0 :: l1 :: l2 :: some (.int x) :: L) (st) h = ev 196 13 (l0 :: l1 :: l2 :: some (.int x) :: L) (.int x :: st) h := G_iload_n f196_12 rfl
theorem f196_13 : fetch 196 13 = some (.invokestatic 325, 3) := vtab tk196 7 rfl
theorem e196_13 (L : VL) (st : List Value) (h : VG) (x0 : Int32) (hs : catS st ≤ 8) : ev 196 13 L (.int x0 :: st) h = (ev 181 0 [some (.int x0)] [] h).bind fun q => ev 196 16 L (q.1.toList ++ st) q.2 := G_calls (k := 0) (p := 1359) (ars := [.int x0]) f196_13 lkC_12_325 (by decide) (by decide +kernel) rfl (Nat.le_of_ble_eq_true rfl) hs rfl
theorem f196_16 : fetch 196 16 = some (.ifCond .eq 22, 3) := vtab tk196 8 rfl
theorem e196_16 (L : VL) (st : List Value) (h : VG) (x : Int32) : ev 196 16 L (.int x :: st) h = if x = 0 then ev 196 38 L st h else ev 196 19 L st h := G_if_eq f196_16 (by decide)
theorem f196_19 : fetch 196 19 = some (.iload 5, 2) := vtab tk196 9 rfl
theorem e196_19 (l0 l1 l2 l3 l4 : Option Value) (L : VL) (st : List Value) (h : VG) (x : Int32) : ev 196 19 (l0 :: l1 :: l2 :: l3 :: l4 :: some (.int x) :: L) (st) h = ev 196 21 (l0 :: l1 :: l2 :: l3 :: l4 :: some (.int x) :: L) (.int x :: st) h := G_iload f196_19 rfl
theorem f196_21 : fetch 196 21 = some (.iconst 0, 1) := vtab tk196 10 rfl
theorem e196_21 (L : VL) (st : List Value) (h : VG) : ev 196 21 L (st) h = ev 196 22 L (.int (0 : Int32) :: st) h := G_iconst f196_21 (by decide)
theorem f196_22 : fetch 196 22 = some (.bipush 40, 2) := vtab tk196 11 rfl
theorem e196_22 (L : VL) (st : List Value) (h : VG) : ev 196 22 L (st) h = ev 196 24 L (.int (40 : Int32) :: st) h := G_bipush f196_22 (by decide)
theorem f196_24 : fetch 196 24 = some (.invokestatic 260, 3) := vtab tk196 12 rfl
theorem e196_24 (L : VL) (st : List Value) (h : VG) (x0 : Int32) (x1 : Int32) (x2 : Int32) (hs : catS st ≤ 8) : ev 196 24 L (.int x2 :: .int x1 :: .int x0 :: st) h = (ev 162 0 [some (.int x0), some (.int x1), some (.int x2)] [] h).bind fun q => ev 196 27 L (q.1.toList ++ st) q.2 := G_calls (k := 0) (p := 1286) (ars := [.int x0, .int x1, .int x2]) f196_24 lkC_12_260 (by decide) (by decide +kernel) rfl (Nat.le_of_ble_eq_true rfl) hs rfl
theorem f196_27 : fetch 196 27 = some (.ifCond .eq 11, 3) := vtab tk196 13 rfl
theorem e196_27 (L : VL) (st : List Value) (h : VG) (x : Int32) : ev 196 27 L (.int x :: st) h = if x = 0 then ev 196 38 L st h else ev 196 30 L st h := G_if_eq f196_27 (by decide)
theorem f196_30 : fetch 196 30 = some (.iload 6, 2) := vtab tk196 14 rfl
theorem e196_30 (l0 l1 l2 l3 l4 l5 : Option Value) (L : VL) (st : List Value) (h : VG) (x : Int32) : ev 196 30 (l0 :: l1 :: l2 :: l3 :: l4 :: l5 :: some (.int x) :: L) (st) h = ev 196 32 (l0 :: l1 :: l2 :: l3 :: l4 :: l5 :: some (.int x) :: L) (.int x :: st) h := G_iload f196_30 rfl
theorem f196_32 : fetch 196 32 = some (.invokestatic 350, 3) := vtab tk196 15 rfl
theorem e196_32 (L : VL) (st : List Value) (h : VG) (x0 : Int32) (hs : catS st ≤ 8) : ev 196 32 L (.int x0 :: st) h = (ev 182 0 [some (.int x0)] [] h).bind fun q => ev 196 35 L (q.1.toList ++ st) q.2 := G_calls (k := 0) (p := 1374) (ars := [.int x0]) f196_32 lkC_12_350 (by decide) (by decide +kernel) rfl (Nat.le_of_ble_eq_true rfl) hs rfl
theorem f196_35 : fetch 196 35 = some (.ifCond .ne 5, 3) := vtab tk196 16 rfl
theorem e196_35 (L : VL) (st : List Value) (h : VG) (x : Int32) : ev 196 35 L (.int x :: st) h = if x = 0 then ev 196 38 L st h else ev 196 40 L st h := G_if_ne f196_35 (by decide)
theorem f196_38 : fetch 196 38 = some (.iconst (-1), 1) := vtab tk196 17 rfl
theorem e196_38 (L : VL) (st : List Value) (h : VG) : ev 196 38 L (st) h = ev 196 39 L (.int (-1 : Int32) :: st) h := G_iconst f196_38 (by decide)
theorem f196_39 : fetch 196 39 = some (.ireturn, 1) := vtab tk196 18 rfl
theorem e196_39 (L : VL) (h : VG) (x : Int32) : ev 196 39 L [.int x] h = some (some (.int x), h) := G_iret f196_39 (ty := .int) (by decide) rfl
theorem f196_40 : fetch 196 40 = some (.iconst 0, 1) := vtab tk196 19 rfl
theorem e196_40 (L : VL) (st : List Value) (h : VG) : ev 196 40 L (st) h = ev 196 41 L (.int (0 : Int32) :: st) h := G_iconst f196_40 (by decide)
theorem f196_41 : fetch 196 41 = some (.istore 7, 2) := vtab tk196 20 rfl
theorem e196_41 (l0 l1 l2 l3 l4 l5 l6 l7 : Option Value) (L : VL) (st : List Value) (h : VG) (x : Int32) : ev 196 41 (l0 :: l1 :: l2 :: l3 :: l4 :: l5 :: l6 :: l7 :: L) (.int x :: st) h = ev 196 43 (l0 :: l1 :: l2 :: l3 :: l4 :: l5 :: vkk l6 :: some (.int x) :: L) (st) h := G_istore f196_41 rfl (S1_7 l0 l1 l2 l3 l4 l5 l6 l7 L _)
theorem f196_43 : fetch 196 43 = some (.iconst 0, 1) := vtab tk196 21 rfl
theorem e196_43 (L : VL) (st : List Value) (h : VG) : ev 196 43 L (st) h = ev 196 44 L (.int (0 : Int32) :: st) h := G_iconst f196_43 (by decide)
theorem f196_44 : fetch 196 44 = some (.istore 8, 2) := vtab tk196 22 rfl
theorem e196_44 (l0 l1 l2 l3 l4 l5 l6 l7 l8 : Option Value) (L : VL) (st : List Value) (h : VG) (x : Int32) : ev 196 44 (l0 :: l1 :: l2 :: l3 :: l4 :: l5 :: l6 :: l7 :: l8 :: L) (.int x :: st) h = ev 196 46 (l0 :: l1 :: l2 :: l3 :: l4 :: l5 :: l6 :: vkk l7 :: some (.int x) :: L) (st) h := G_istore f196_44 rfl (S1_8 l0 l1 l2 l3 l4 l5 l6 l7 l8 L _)
theorem f196_46 : fetch 196 46 = some (.iconst 0, 1) := vtab tk196 23 rfl
theorem e196_46 (L : VL) (st : List Value) (h : VG) : ev 196 46 L (st) h = ev 196 47 L (.int (0 : Int32) :: st) h := G_iconst f196_46 (by decide)
theorem f196_47 : fetch 196 47 = some (.istore 9, 2) := vtab tk196 24 rfl
theorem e196_47 (l0 l1 l2 l3 l4 l5 l6 l7 l8 l9 : Option Value) (L : VL) (st : List Value) (h : VG) (x : Int32) : ev 196 47 (l0 :: l1 :: l2 :: l3 :: l4 :: l5 :: l6 :: l7 :: l8 :: l9 :: L) (.int x :: st) h = ev 196 49 (l0 :: l1 :: l2 :: l3 :: l4 :: l5 :: l6 :: l7 :: vkk l8 :: some (.int x) :: L) (st) h := G_istore f196_47 rfl (S1_9 l0 l1 l2 l3 l4 l5 l6 l7 l8 l9 L _)
theorem f196_49 : fetch 196 49 = some (.iload 9, 2) := vtab tk196 25 rfl
theorem e196_49 (l0 l1 l2 l3 l4 l5 l6 l7 l8 : Option Value) (L : VL) (st : List Value) (h : VG) (x : Int32) : ev 196 49 (l0 :: l1 :: l2 :: l3 :: l4 :: l5 :: l6 :: l7 :: l8 :: some (.int x) :: L) (st) h = ev 196 51 (l0 :: l1 :: l2 :: l3 :: l4 :: l5 :: l6 :: l7 :: l8 :: some (.int x) :: L) (.int x :: st) h := G_iload f196_49 rfl
theorem f196_51 : fetch 196 51 = some (.iload 5, 2) := vtab tk196 26 rfl
theorem e196_51 (l0 l1 l2 l3 l4 : Option Value) (L : VL) (st : List Value) (h : VG) (x : Int32) : ev 196 51 (l0 :: l1 :: l2 :: l3 :: l4 :: some (.int x) :: L) (st) h = ev 196 53 (l0 :: l1 :: l2 :: l3 :: l4 :: some (.int x) :: L) (.int x :: st) h := G_iload f196_51 rfl
theorem f196_53 : fetch 196 53 = some (.if_icmp .ge 59, 3) := vtab tk196 27 rfl
theorem e196_53 (L : VL) (st : List Value) (h : VG) (x y : Int32) : ev 196 53 L (.int y :: .int x :: st) h = if x < y then ev 196 56 L st h else ev 196 112 L st h := G_icmp_ge f196_53 (by decide)
theorem f196_56 : fetch 196 56 = some (.aload_n 0, 1) := vtab tk196 28 rfl
theorem e196_56 (L : VL) (st : List Value) (h : VG) (x : Nat) : ev 196 56 (some (.ref x) :: L) (st) h = ev 196 57 (some (.ref x) :: L) (.ref x :: st) h := G_aload_n f196_56 rfl
theorem f196_57 : fetch 196 57 = some (.iload_n 1, 1) := vtab tk196 29 rfl
theorem e196_57 (l0 : Option Value) (L : VL) (st : List Value) (h : VG) (x : Int32) : ev 196 57 (l0 :: some (.int x) :: L) (st) h = ev 196 58 (l0 :: some (.int x) :: L) (.int x :: st) h := G_iload_n f196_57 rfl
theorem f196_58 : fetch 196 58 = some (.iload_n 2, 1) := vtab tk196 30 rfl
theorem e196_58 (l0 l1 : Option Value) (L : VL) (st : List Value) (h : VG) (x : Int32) : ev 196 58 (l0 :: l1 :: some (.int x) :: L) (st) h = ev 196 59 (l0 :: l1 :: some (.int x) :: L) (.int x :: st) h := G_iload_n f196_58 rfl
theorem f196_59 : fetch 196 59 = some (.iload 9, 2) := vtab tk196 31 rfl
theorem e196_59 (l0 l1 l2 l3 l4 l5 l6 l7 l8 : Option Value) (L : VL) (st : List Value) (h : VG) (x : Int32) : ev 196 59 (l0 :: l1 :: l2 :: l3 :: l4 :: l5 :: l6 :: l7 :: l8 :: some (.int x) :: L) (st) h = ev 196 61 (l0 :: l1 :: l2 :: l3 :: l4 :: l5 :: l6 :: l7 :: l8 :: some (.int x) :: L) (.int x :: st) h := G_iload f196_59 rfl
theorem f196_61 : fetch 196 61 = some (.iadd, 1) := vtab tk196 32 rfl
theorem e196_61 (L : VL) (st : List Value) (h : VG) (x y : Int32) : ev 196 61 L (.int y :: .int x :: st) h = ev 196 62 L (.int (x + y) :: st) h := G_iadd f196_61
theorem f196_62 : fetch 196 62 = some (.iload 6, 2) := vtab tk196 33 rfl
theorem e196_62 (l0 l1 l2 l3 l4 l5 : Option Value) (L : VL) (st : List Value) (h : VG) (x : Int32) : ev 196 62 (l0 :: l1 :: l2 :: l3 :: l4 :: l5 :: some (.int x) :: L) (st) h = ev 196 64 (l0 :: l1 :: l2 :: l3 :: l4 :: l5 :: some (.int x) :: L) (.int x :: st) h := G_iload f196_62 rfl
theorem f196_64 : fetch 196 64 = some (.invokevirtual 353, 3) := vtab tk196 34 rfl
theorem e196_64 (L : VL) (st : List Value) (h : VG) (b : Nat) (x0 : Int32) (x1 : Int32) (x2 : Int32) (ho : ob h b 11) (hs : catS st ≤ 8) : ev 196 64 L (.int x2 :: .int x1 :: .int x0 :: .ref b :: st) h = (ev 188 0 [some (.ref b), some (.int x0), some (.int x1), some (.int x2), none] [] h).bind fun q => ev 196 67 L (q.1.toList ++ st) q.2 := G_callv (k := 1) (p := 1377) (ars := [.int x0, .int x1, .int x2]) f196_64 lkC_12_353 (by decide) (by decide +kernel) rfl (vcls_ob (ci := 11) (by decide) ho) (Nat.le_of_ble_eq_true rfl) hs rfl
theorem f196_67 : fetch 196 67 = some (.istore 10, 2) := vtab tk196 35 rfl
theorem e196_67 (l0 l1 l2 l3 l4 l5 l6 l7 l8 l9 l10 : Option Value) (L : VL) (st : List Value) (h : VG) (x : Int32) : ev 196 67 (l0 :: l1 :: l2 :: l3 :: l4 :: l5 :: l6 :: l7 :: l8 :: l9 :: l10 :: L) (.int x :: st) h = ev 196 69 (l0 :: l1 :: l2 :: l3 :: l4 :: l5 :: l6 :: l7 :: l8 :: vkk l9 :: some (.int x) :: L) (st) h := G_istore f196_67 rfl (S1_10 l0 l1 l2 l3 l4 l5 l6 l7 l8 l9 l10 L _)
theorem f196_69 : fetch 196 69 = some (.iload 10, 2) := vtab tk196 36 rfl
theorem e196_69 (l0 l1 l2 l3 l4 l5 l6 l7 l8 l9 : Option Value) (L : VL) (st : List Value) (h : VG) (x : Int32) : ev 196 69 (l0 :: l1 :: l2 :: l3 :: l4 :: l5 :: l6 :: l7 :: l8 :: l9 :: some (.int x) :: L) (st) h = ev 196 71 (l0 :: l1 :: l2 :: l3 :: l4 :: l5 :: l6 :: l7 :: l8 :: l9 :: some (.int x) :: L) (.int x :: st) h := G_iload f196_69 rfl
theorem f196_71 : fetch 196 71 = some (.ifCond .ne 15, 3) := vtab tk196 37 rfl
theorem e196_71 (L : VL) (st : List Value) (h : VG) (x : Int32) : ev 196 71 L (.int x :: st) h = if x = 0 then ev 196 74 L st h else ev 196 86 L st h := G_if_ne f196_71 (by decide)
theorem f196_74 : fetch 196 74 = some (.aload_n 0, 1) := vtab tk196 38 rfl
theorem e196_74 (L : VL) (st : List Value) (h : VG) (x : Nat) : ev 196 74 (some (.ref x) :: L) (st) h = ev 196 75 (some (.ref x) :: L) (.ref x :: st) h := G_aload_n f196_74 rfl
theorem f196_75 : fetch 196 75 = some (.iload_n 3, 1) := vtab tk196 39 rfl
theorem e196_75 (l0 l1 l2 : Option Value) (L : VL) (st : List Value) (h : VG) (x : Int32) : ev 196 75 (l0 :: l1 :: l2 :: some (.int x) :: L) (st) h = ev 196 76 (l0 :: l1 :: l2 :: some (.int x) :: L) (.int x :: st) h := G_iload_n f196_75 rfl
theorem f196_76 : fetch 196 76 = some (.iload 4, 2) := vtab tk196 40 rfl
theorem e196_76 (l0 l1 l2 l3 : Option Value) (L : VL) (st : List Value) (h : VG) (x : Int32) : ev 196 76 (l0 :: l1 :: l2 :: l3 :: some (.int x) :: L) (st) h = ev 196 78 (l0 :: l1 :: l2 :: l3 :: some (.int x) :: L) (.int x :: st) h := G_iload f196_76 rfl
theorem f196_78 : fetch 196 78 = some (.iload 9, 2) := vtab tk196 41 rfl
theorem e196_78 (l0 l1 l2 l3 l4 l5 l6 l7 l8 : Option Value) (L : VL) (st : List Value) (h : VG) (x : Int32) : ev 196 78 (l0 :: l1 :: l2 :: l3 :: l4 :: l5 :: l6 :: l7 :: l8 :: some (.int x) :: L) (st) h = ev 196 80 (l0 :: l1 :: l2 :: l3 :: l4 :: l5 :: l6 :: l7 :: l8 :: some (.int x) :: L) (.int x :: st) h := G_iload f196_78 rfl
theorem f196_80 : fetch 196 80 = some (.iadd, 1) := vtab tk196 42 rfl
theorem e196_80 (L : VL) (st : List Value) (h : VG) (x y : Int32) : ev 196 80 L (.int y :: .int x :: st) h = ev 196 81 L (.int (x + y) :: st) h := G_iadd f196_80
theorem f196_81 : fetch 196 81 = some (.invokevirtual 365, 3) := vtab tk196 43 rfl
theorem e196_81 (L : VL) (st : List Value) (h : VG) (b : Nat) (x0 : Int32) (x1 : Int32) (ho : ob h b 11) (hs : catS st ≤ 8) : ev 196 81 L (.int x1 :: .int x0 :: .ref b :: st) h = (ev 189 0 [some (.ref b), some (.int x0), some (.int x1), none] [] h).bind fun q => ev 196 84 L (q.1.toList ++ st) q.2 := G_callv (k := 1) (p := 1413) (ars := [.int x0, .int x1]) f196_81 lkC_12_365 (by decide) (by decide +kernel) rfl (vcls_ob (ci := 11) (by decide) ho) (Nat.le_of_ble_eq_true rfl) hs rfl
theorem f196_84 : fetch 196 84 = some (.istore 10, 2) := vtab tk196 44 rfl
theorem e196_84 (l0 l1 l2 l3 l4 l5 l6 l7 l8 l9 l10 : Option Value) (L : VL) (st : List Value) (h : VG) (x : Int32) : ev 196 84 (l0 :: l1 :: l2 :: l3 :: l4 :: l5 :: l6 :: l7 :: l8 :: l9 :: l10 :: L) (.int x :: st) h = ev 196 86 (l0 :: l1 :: l2 :: l3 :: l4 :: l5 :: l6 :: l7 :: l8 :: vkk l9 :: some (.int x) :: L) (st) h := G_istore f196_84 rfl (S1_10 l0 l1 l2 l3 l4 l5 l6 l7 l8 l9 l10 L _)
theorem f196_86 : fetch 196 86 = some (.iload 10, 2) := vtab tk196 45 rfl
theorem e196_86 (l0 l1 l2 l3 l4 l5 l6 l7 l8 l9 : Option Value) (L : VL) (st : List Value) (h : VG) (x : Int32) : ev 196 86 (l0 :: l1 :: l2 :: l3 :: l4 :: l5 :: l6 :: l7 :: l8 :: l9 :: some (.int x) :: L) (st) h = ev 196 88 (l0 :: l1 :: l2 :: l3 :: l4 :: l5 :: l6 :: l7 :: l8 :: l9 :: some (.int x) :: L) (.int x :: st) h := G_iload f196_86 rfl
theorem f196_88 : fetch 196 88 = some (.ifCond .ne 9, 3) := vtab tk196 46 rfl
theorem e196_88 (L : VL) (st : List Value) (h : VG) (x : Int32) : ev 196 88 L (.int x :: st) h = if x = 0 then ev 196 91 L st h else ev 196 97 L st h := G_if_ne f196_88 (by decide)
theorem f196_91 : fetch 196 91 = some (.iinc 7 1, 3) := vtab tk196 47 rfl
theorem e196_91 (l0 l1 l2 l3 l4 l5 l6 : Option Value) (L : VL) (st : List Value) (h : VG) (x : Int32) : ev 196 91 (l0 :: l1 :: l2 :: l3 :: l4 :: l5 :: l6 :: some (.int x) :: L) (st) h = ev 196 94 (l0 :: l1 :: l2 :: l3 :: l4 :: l5 :: vkk l6 :: some (.int (x + (1 : Int32))) :: L) (st) h := G_iinc f196_91 rfl (by decide) (S1_7 l0 l1 l2 l3 l4 l5 l6 (some (.int x)) L _)
theorem f196_94 : fetch 196 94 = some (.goto 12, 3) := vtab tk196 48 rfl
theorem e196_94 (L : VL) (st : List Value) (h : VG) : ev 196 94 L (st) h = ev 196 106 L (st) h := G_goto f196_94 (by decide)
theorem f196_97 : fetch 196 97 = some (.iload 8, 2) := vtab tk196 49 rfl
theorem e196_97 (l0 l1 l2 l3 l4 l5 l6 l7 : Option Value) (L : VL) (st : List Value) (h : VG) (x : Int32) : ev 196 97 (l0 :: l1 :: l2 :: l3 :: l4 :: l5 :: l6 :: l7 :: some (.int x) :: L) (st) h = ev 196 99 (l0 :: l1 :: l2 :: l3 :: l4 :: l5 :: l6 :: l7 :: some (.int x) :: L) (.int x :: st) h := G_iload f196_97 rfl
theorem f196_99 : fetch 196 99 = some (.ifCond .ne 7, 3) := vtab tk196 50 rfl
theorem e196_99 (L : VL) (st : List Value) (h : VG) (x : Int32) : ev 196 99 L (.int x :: st) h = if x = 0 then ev 196 102 L st h else ev 196 106 L st h := G_if_ne f196_99 (by decide)
theorem f196_102 : fetch 196 102 = some (.iload 10, 2) := vtab tk196 51 rfl
theorem e196_102 (l0 l1 l2 l3 l4 l5 l6 l7 l8 l9 : Option Value) (L : VL) (st : List Value) (h : VG) (x : Int32) : ev 196 102 (l0 :: l1 :: l2 :: l3 :: l4 :: l5 :: l6 :: l7 :: l8 :: l9 :: some (.int x) :: L) (st) h = ev 196 104 (l0 :: l1 :: l2 :: l3 :: l4 :: l5 :: l6 :: l7 :: l8 :: l9 :: some (.int x) :: L) (.int x :: st) h := G_iload f196_102 rfl
theorem f196_104 : fetch 196 104 = some (.istore 8, 2) := vtab tk196 52 rfl
theorem e196_104 (l0 l1 l2 l3 l4 l5 l6 l7 l8 : Option Value) (L : VL) (st : List Value) (h : VG) (x : Int32) : ev 196 104 (l0 :: l1 :: l2 :: l3 :: l4 :: l5 :: l6 :: l7 :: l8 :: L) (.int x :: st) h = ev 196 106 (l0 :: l1 :: l2 :: l3 :: l4 :: l5 :: l6 :: vkk l7 :: some (.int x) :: L) (st) h := G_istore f196_104 rfl (S1_8 l0 l1 l2 l3 l4 l5 l6 l7 l8 L _)
theorem f196_106 : fetch 196 106 = some (.iinc 9 1, 3) := vtab tk196 53 rfl
theorem e196_106 (l0 l1 l2 l3 l4 l5 l6 l7 l8 : Option Value) (L : VL) (st : List Value) (h : VG) (x : Int32) : ev 196 106 (l0 :: l1 :: l2 :: l3 :: l4 :: l5 :: l6 :: l7 :: l8 :: some (.int x) :: L) (st) h = ev 196 109 (l0 :: l1 :: l2 :: l3 :: l4 :: l5 :: l6 :: l7 :: vkk l8 :: some (.int (x + (1 : Int32))) :: L) (st) h := G_iinc f196_106 rfl (by decide) (S1_9 l0 l1 l2 l3 l4 l5 l6 l7 l8 (some (.int x)) L _)
theorem f196_109 : fetch 196 109 = some (.goto (-60), 3) := vtab tk196 54 rfl
theorem e196_109 (L : VL) (st : List Value) (h : VG) : ev 196 109 L (st) h = ev 196 49 L (st) h := G_goto f196_109 (by decide)
theorem f196_112 : fetch 196 112 = some (.aload_n 0, 1) := vtab tk196 55 rfl
theorem e196_112 (L : VL) (st : List Value) (h : VG) (x : Nat) : ev 196 112 (some (.ref x) :: L) (st) h = ev 196 113 (some (.ref x) :: L) (.ref x :: st) h := G_aload_n f196_112 rfl
theorem f196_113 : fetch 196 113 = some (.iload 8, 2) := vtab tk196 56 rfl
theorem e196_113 (l0 l1 l2 l3 l4 l5 l6 l7 : Option Value) (L : VL) (st : List Value) (h : VG) (x : Int32) : ev 196 113 (l0 :: l1 :: l2 :: l3 :: l4 :: l5 :: l6 :: l7 :: some (.int x) :: L) (st) h = ev 196 115 (l0 :: l1 :: l2 :: l3 :: l4 :: l5 :: l6 :: l7 :: some (.int x) :: L) (.int x :: st) h := G_iload f196_113 rfl
theorem f196_115 : fetch 196 115 = some (.invokevirtual 347, 3) := vtab tk196 57 rfl
theorem e196_115 (L : VL) (st : List Value) (h : VG) (b : Nat) (x0 : Int32) (ho : ob h b 11) (hs : catS st ≤ 8) : ev 196 115 L (.int x0 :: .ref b :: st) h = (ev 164 0 [some (.ref b), some (.int x0)] [] h).bind fun q => ev 196 118 L (q.1.toList ++ st) q.2 := G_callv (k := 1) (p := 1366) (ars := [.int x0]) f196_115 lkC_12_347 (by decide) (by decide +kernel) rfl (vcls_ob (ci := 11) (by decide) ho) (Nat.le_of_ble_eq_true rfl) hs rfl
theorem f196_118 : fetch 196 118 = some (.pop, 1) := vtab tk196 58 rfl
theorem e196_118 (L : VL) (st : List Value) (h : VG) (x : Int32) : ev 196 118 L (.int x :: st) h = ev 196 119 L (st) h := G_pop_int f196_118
theorem e196_118b (L : VL) (st : List Value) (h : VG) (x : Nat) : ev 196 118 L (.ref x :: st) h = ev 196 119 L (st) h := G_pop_ref f196_118
theorem f196_119 : fetch 196 119 = some (.iload 7, 2) := vtab tk196 59 rfl
theorem e196_119 (l0 l1 l2 l3 l4 l5 l6 : Option Value) (L : VL) (st : List Value) (h : VG) (x : Int32) : ev 196 119 (l0 :: l1 :: l2 :: l3 :: l4 :: l5 :: l6 :: some (.int x) :: L) (st) h = ev 196 121 (l0 :: l1 :: l2 :: l3 :: l4 :: l5 :: l6 :: some (.int x) :: L) (.int x :: st) h := G_iload f196_119 rfl
theorem f196_121 : fetch 196 121 = some (.ireturn, 1) := vtab tk196 60 rfl
theorem e196_121 (L : VL) (h : VG) (x : Int32) : ev 196 121 L [.int x] h = some (some (.int x), h) := G_iret f196_121 (ty := .int) (by decide) rfl
/-! 197 GuestCallsModel.pastes(IIIII)I -/
def tb197 : List (Nat × Instr × Nat) := [(0, .aload_n 0, 1), (1, .getfield 76, 3), (4, .iload_n 1, 1), (5, .iaload, 1), (6, .bipush 11, 2), (8, .if_icmp .eq 14, 3), (11, .aload_n 0, 1), (12, .getfield 76, 3), (15, .iload_n 3, 1), (16, .iaload, 1), (17, .bipush 11, 2), (19, .if_icmp .ne 5, 3), (22, .iconst 3, 1), (23, .ireturn, 1), (24, .aload_n 0, 1), (25, .getfield 76, 3), (28, .iload_n 1, 1), (29, .iaload, 1), (30, .bipush 8, 2), (32, .if_icmp .ne 18, 3), (35, .aload_n 0, 1), (36, .getfield 76, 3), (39, .iload_n 3, 1), (40, .iaload, 1), (41, .bipush 9, 2), (43, .if_icmp .ne 7, 3), (46, .iconst 1, 1), (47, .goto 4, 3), (50, .iconst 0, 1), (51, .istore 6, 2), (53, .aload_n 0, 1), (54, .getfield 76, 3), (57, .iload_n 1, 1), (58, .iaload, 1), (59, .bipush 9, 2), (61, .if_icmp .ne 18, 3), (64, .aload_n 0, 1), (65, .getfield 76, 3), (68, .iload_n 3, 1), (69, .iaload, 1), (70, .bipush 8, 2), (72, .if_icmp .ne 7, 3), (75, .iconst 1, 1), (76, .goto 4, 3), (79, .iconst 0, 1), (80, .istore 7, 2), (82, .aload_n 0, 1), (83, .getfield 76, 3), (86, .iload_n 1, 1), (87, .iaload, 1), (88, .bipush 10, 2), (90, .if_icmp .eq 28, 3), (93, .aload_n 0, 1), (94, .getfield 76, 3), (97, .iload_n 1, 1), (98, .iaload, 1), (99, .aload_n 0, 1), (100, .getfield 76, 3), (103, .iload_n 3, 1), (104, .iaload, 1), (105, .if_icmp .eq 15, 3), (108, .iload 6, 2), (110, .ifCond .ne 10, 3), (113, .iload 7, 2), (115, .ifCond .ne 5, 3), (118, .iconst 2, 1), (119, .ireturn, 1), (120, .iload 5, 2), (122, .ifCond .lt 39, 3), (125, .iload_n 2, 1), (126, .ifCond .lt 35, 3), (129, .iload 4, 2), (131, .ifCond .lt 30, 3), (134, .iload_n 2, 1), (135, .aload_n 0, 1), (136, .getfield 79, 3), (139, .iload_n 1, 1), (140, .iaload, 1), (141, .iload 5, 2), (143, .isub, 1), (144, .if_icmp .gt 17, 3), (147, .iload 4, 2), (149, .aload_n 0, 1), (150, .getfield 79, 3), (153, .iload_n 3, 1), (154, .iaload, 1), (155, .iload 5, 2), (157, .isub, 1), (158, .if_icmp .le 5, 3), (161, .iconst 1, 1), (162, .ireturn, 1), (163, .iconst 0, 1), (164, .istore 8, 2), (166, .iload 8, 2), (168, .iload 5, 2), (170, .if_icmp .ge 72, 3), (173, .aload_n 0, 1), (174, .getfield 92, 3), (177, .iload 8, 2), (179, .aload_n 0, 1), (180, .getfield 82, 3), (183, .bipush 40, 2), (185, .iload_n 1, 1), (186, .imul, 1), (187, .iload_n 2, 1), (188, .iadd, 1), (189, .iload 8, 2), (191, .iadd, 1), (192, .iaload, 1), (193, .iastore, 1), (194, .aload_n 0, 1), (195, .getfield 95, 3), (198, .iload 8, 2), (200, .aload_n 0, 1), (201, .getfield 85, 3), (204, .bipush 40, 2), (206, .iload_n 1, 1), (207, .imul, 1), (208, .iload_n 2, 1), (209, .iadd, 1), (210, .iload 8, 2), (212, .iadd, 1), (213, .laload, 1), (214, .lastore, 1), (215, .aload_n 0, 1), (216, .getfield 98, 3), (219, .iload 8, 2), (221, .aload_n 0, 1), (222, .getfield 88, 3), (225, .bipush 40, 2), (227, .iload_n 1, 1), (228, .imul, 1), (229, .iload_n 2, 1), (230, .iadd, 1), (231, .iload 8, 2), (233, .iadd, 1), (234, .daload, 1), (235, .dastore, 1), (236, .iinc 8 1, 3), (239, .goto (-73), 3), (242, .iconst 0, 1), (243, .istore 8, 2), (245, .iload 8, 2), (247, .iload 5, 2), (249, .if_icmp .ge 106, 3), (252, .iload 6, 2), (254, .ifCond .eq 29, 3), (257, .aload_n 0, 1), (258, .getfield 92, 3), (261, .iload 8, 2), (263, .iaload, 1), (264, .bipush 8, 2), (266, .if_icmp .eq 17, 3), (269, .aload_n 0, 1), (270, .getfield 92, 3), (273, .iload 8, 2), (275, .iaload, 1), (276, .bipush (-2), 2), (278, .if_icmp .eq 5, 3), (281, .iconst 2, 1), (282, .ireturn, 1), (283, .aload_n 0, 1), (284, .getfield 82, 3), (287, .bipush 40, 2), (289, .iload_n 3, 1), (290, .imul, 1), (291, .iload 4, 2), (293, .iadd, 1), (294, .iload 8, 2), (296, .iadd, 1), (297, .aload_n 0, 1), (298, .getfield 92, 3), (301, .iload 8, 2), (303, .iaload, 1), (304, .iastore, 1), (305, .aload_n 0, 1), (306, .getfield 85, 3), (309, .bipush 40, 2), (311, .iload_n 3, 1), (312, .imul, 1), (313, .iload 4, 2), (315, .iadd, 1), (316, .iload 8, 2), (318, .iadd, 1), (319, .aload_n 0, 1), (320, .getfield 95, 3), (323, .iload 8, 2), (325, .laload, 1), (326, .lastore, 1), (327, .aload_n 0, 1), (328, .getfield 88, 3), (331, .bipush 40, 2), (333, .iload_n 3, 1), (334, .imul, 1), (335, .iload 4, 2), (337, .iadd, 1), (338, .iload 8, 2), (340, .iadd, 1), (341, .aload_n 0, 1), (342, .getfield 98, 3), (345, .iload 8, 2), (347, .daload, 1), (348, .dastore, 1), (349, .iinc 8 1, 3), (352, .goto (-107), 3), (355, .iconst 0, 1), (356, .ireturn, 1)]
theorem tk197 : tb197.all (fun q => decide (fetch 197 q.1 = some q.2)) = true := by decide +kernel
theorem f197_0 : fetch 197 0 = some (.aload_n 0, 1) := vtab tk197 0 rfl
theorem e197_0 (L : VL) (st : List Value) (h : VG) (x : Nat) : ev 197 0 (some (.ref x) :: L) (st) h = ev 197 1 (some (.ref x) :: L) (.ref x :: st) h := G_aload_n f197_0 rfl
theorem f197_1 : fetch 197 1 = some (.getfield 76, 3) := vtab tk197 1 rfl
theorem e197_1 (L : VL) (st : List Value) (h : VG) (a : Nat) (ho : ob h a 11) (hr : isR h a 42) : ev 197 1 L (.ref a :: st) h = ev 197 4 L (.ref (gR h a 42) :: st) h := G_getR (p := 1055) f197_1 lkF_12_76 (by decide) (by decide) ho hr
theorem f197_4 : fetch 197 4 = some (.iload_n 1, 1) := vtab tk197 2 rfl
theorem e197_4 (l0 : Option Value) (L : VL) (st : List Value) (h : VG) (x : Int32) : ev 197 4 (l0 :: some (.int x) :: L) (st) h = ev 197 5 (l0 :: some (.int x) :: L) (.int x :: st) h := G_iload_n f197_4 rfl
theorem f197_5 : fetch 197 5 = some (.iaload, 1) := vtab tk197 3 rfl
theorem e197_5 (L : VL) (st : List Value) (h : VG) (a : Nat) (i : Int32) (ha : rdI h a) (hi : vp_in i (aln h a)) : ev 197 5 L (.int i :: .ref a :: st) h = ev 197 6 L (.int (aI h a i.toNatClampNeg) :: st) h := G_iald' f197_5 ha hi
theorem f197_6 : fetch 197 6 = some (.bipush 11, 2) := vtab tk197 4 rfl
theorem e197_6 (L : VL) (st : List Value) (h : VG) : ev 197 6 L (st) h = ev 197 8 L (.int (11 : Int32) :: st) h := G_bipush f197_6 (by decide)
theorem f197_8 : fetch 197 8 = some (.if_icmp .eq 14, 3) := vtab tk197 5 rfl
theorem e197_8 (L : VL) (st : List Value) (h : VG) (x y : Int32) : ev 197 8 L (.int y :: .int x :: st) h = if x = y then ev 197 22 L st h else ev 197 11 L st h := G_icmp_eq f197_8 (by decide)
theorem f197_11 : fetch 197 11 = some (.aload_n 0, 1) := vtab tk197 6 rfl
theorem e197_11 (L : VL) (st : List Value) (h : VG) (x : Nat) : ev 197 11 (some (.ref x) :: L) (st) h = ev 197 12 (some (.ref x) :: L) (.ref x :: st) h := G_aload_n f197_11 rfl
theorem f197_12 : fetch 197 12 = some (.getfield 76, 3) := vtab tk197 7 rfl
theorem e197_12 (L : VL) (st : List Value) (h : VG) (a : Nat) (ho : ob h a 11) (hr : isR h a 42) : ev 197 12 L (.ref a :: st) h = ev 197 15 L (.ref (gR h a 42) :: st) h := G_getR (p := 1055) f197_12 lkF_12_76 (by decide) (by decide) ho hr
theorem f197_15 : fetch 197 15 = some (.iload_n 3, 1) := vtab tk197 8 rfl
theorem e197_15 (l0 l1 l2 : Option Value) (L : VL) (st : List Value) (h : VG) (x : Int32) : ev 197 15 (l0 :: l1 :: l2 :: some (.int x) :: L) (st) h = ev 197 16 (l0 :: l1 :: l2 :: some (.int x) :: L) (.int x :: st) h := G_iload_n f197_15 rfl
theorem f197_16 : fetch 197 16 = some (.iaload, 1) := vtab tk197 9 rfl
theorem e197_16 (L : VL) (st : List Value) (h : VG) (a : Nat) (i : Int32) (ha : rdI h a) (hi : vp_in i (aln h a)) : ev 197 16 L (.int i :: .ref a :: st) h = ev 197 17 L (.int (aI h a i.toNatClampNeg) :: st) h := G_iald' f197_16 ha hi
theorem f197_17 : fetch 197 17 = some (.bipush 11, 2) := vtab tk197 10 rfl
theorem e197_17 (L : VL) (st : List Value) (h : VG) : ev 197 17 L (st) h = ev 197 19 L (.int (11 : Int32) :: st) h := G_bipush f197_17 (by decide)
theorem f197_19 : fetch 197 19 = some (.if_icmp .ne 5, 3) := vtab tk197 11 rfl
theorem e197_19 (L : VL) (st : List Value) (h : VG) (x y : Int32) : ev 197 19 L (.int y :: .int x :: st) h = if x = y then ev 197 22 L st h else ev 197 24 L st h := G_icmp_ne f197_19 (by decide)
theorem f197_22 : fetch 197 22 = some (.iconst 3, 1) := vtab tk197 12 rfl
theorem e197_22 (L : VL) (st : List Value) (h : VG) : ev 197 22 L (st) h = ev 197 23 L (.int (3 : Int32) :: st) h := G_iconst f197_22 (by decide)
theorem f197_23 : fetch 197 23 = some (.ireturn, 1) := vtab tk197 13 rfl
theorem e197_23 (L : VL) (h : VG) (x : Int32) : ev 197 23 L [.int x] h = some (some (.int x), h) := G_iret f197_23 (ty := .int) (by decide) rfl
theorem f197_24 : fetch 197 24 = some (.aload_n 0, 1) := vtab tk197 14 rfl
theorem e197_24 (L : VL) (st : List Value) (h : VG) (x : Nat) : ev 197 24 (some (.ref x) :: L) (st) h = ev 197 25 (some (.ref x) :: L) (.ref x :: st) h := G_aload_n f197_24 rfl
theorem f197_25 : fetch 197 25 = some (.getfield 76, 3) := vtab tk197 15 rfl
theorem e197_25 (L : VL) (st : List Value) (h : VG) (a : Nat) (ho : ob h a 11) (hr : isR h a 42) : ev 197 25 L (.ref a :: st) h = ev 197 28 L (.ref (gR h a 42) :: st) h := G_getR (p := 1055) f197_25 lkF_12_76 (by decide) (by decide) ho hr
theorem f197_28 : fetch 197 28 = some (.iload_n 1, 1) := vtab tk197 16 rfl
theorem e197_28 (l0 : Option Value) (L : VL) (st : List Value) (h : VG) (x : Int32) : ev 197 28 (l0 :: some (.int x) :: L) (st) h = ev 197 29 (l0 :: some (.int x) :: L) (.int x :: st) h := G_iload_n f197_28 rfl
theorem f197_29 : fetch 197 29 = some (.iaload, 1) := vtab tk197 17 rfl
theorem e197_29 (L : VL) (st : List Value) (h : VG) (a : Nat) (i : Int32) (ha : rdI h a) (hi : vp_in i (aln h a)) : ev 197 29 L (.int i :: .ref a :: st) h = ev 197 30 L (.int (aI h a i.toNatClampNeg) :: st) h := G_iald' f197_29 ha hi
theorem f197_30 : fetch 197 30 = some (.bipush 8, 2) := vtab tk197 18 rfl
theorem e197_30 (L : VL) (st : List Value) (h : VG) : ev 197 30 L (st) h = ev 197 32 L (.int (8 : Int32) :: st) h := G_bipush f197_30 (by decide)
theorem f197_32 : fetch 197 32 = some (.if_icmp .ne 18, 3) := vtab tk197 19 rfl
theorem e197_32 (L : VL) (st : List Value) (h : VG) (x y : Int32) : ev 197 32 L (.int y :: .int x :: st) h = if x = y then ev 197 35 L st h else ev 197 50 L st h := G_icmp_ne f197_32 (by decide)
theorem f197_35 : fetch 197 35 = some (.aload_n 0, 1) := vtab tk197 20 rfl
theorem e197_35 (L : VL) (st : List Value) (h : VG) (x : Nat) : ev 197 35 (some (.ref x) :: L) (st) h = ev 197 36 (some (.ref x) :: L) (.ref x :: st) h := G_aload_n f197_35 rfl
theorem f197_36 : fetch 197 36 = some (.getfield 76, 3) := vtab tk197 21 rfl
theorem e197_36 (L : VL) (st : List Value) (h : VG) (a : Nat) (ho : ob h a 11) (hr : isR h a 42) : ev 197 36 L (.ref a :: st) h = ev 197 39 L (.ref (gR h a 42) :: st) h := G_getR (p := 1055) f197_36 lkF_12_76 (by decide) (by decide) ho hr
theorem f197_39 : fetch 197 39 = some (.iload_n 3, 1) := vtab tk197 22 rfl
theorem e197_39 (l0 l1 l2 : Option Value) (L : VL) (st : List Value) (h : VG) (x : Int32) : ev 197 39 (l0 :: l1 :: l2 :: some (.int x) :: L) (st) h = ev 197 40 (l0 :: l1 :: l2 :: some (.int x) :: L) (.int x :: st) h := G_iload_n f197_39 rfl
theorem f197_40 : fetch 197 40 = some (.iaload, 1) := vtab tk197 23 rfl
theorem e197_40 (L : VL) (st : List Value) (h : VG) (a : Nat) (i : Int32) (ha : rdI h a) (hi : vp_in i (aln h a)) : ev 197 40 L (.int i :: .ref a :: st) h = ev 197 41 L (.int (aI h a i.toNatClampNeg) :: st) h := G_iald' f197_40 ha hi
theorem f197_41 : fetch 197 41 = some (.bipush 9, 2) := vtab tk197 24 rfl
theorem e197_41 (L : VL) (st : List Value) (h : VG) : ev 197 41 L (st) h = ev 197 43 L (.int (9 : Int32) :: st) h := G_bipush f197_41 (by decide)
theorem f197_43 : fetch 197 43 = some (.if_icmp .ne 7, 3) := vtab tk197 25 rfl
theorem e197_43 (L : VL) (st : List Value) (h : VG) (x y : Int32) : ev 197 43 L (.int y :: .int x :: st) h = if x = y then ev 197 46 L st h else ev 197 50 L st h := G_icmp_ne f197_43 (by decide)
theorem f197_46 : fetch 197 46 = some (.iconst 1, 1) := vtab tk197 26 rfl
theorem e197_46 (L : VL) (st : List Value) (h : VG) : ev 197 46 L (st) h = ev 197 47 L (.int (1 : Int32) :: st) h := G_iconst f197_46 (by decide)
theorem f197_47 : fetch 197 47 = some (.goto 4, 3) := vtab tk197 27 rfl
theorem e197_47 (L : VL) (st : List Value) (h : VG) : ev 197 47 L (st) h = ev 197 51 L (st) h := G_goto f197_47 (by decide)
theorem f197_50 : fetch 197 50 = some (.iconst 0, 1) := vtab tk197 28 rfl
theorem e197_50 (L : VL) (st : List Value) (h : VG) : ev 197 50 L (st) h = ev 197 51 L (.int (0 : Int32) :: st) h := G_iconst f197_50 (by decide)
theorem f197_51 : fetch 197 51 = some (.istore 6, 2) := vtab tk197 29 rfl
theorem e197_51 (l0 l1 l2 l3 l4 l5 l6 : Option Value) (L : VL) (st : List Value) (h : VG) (x : Int32) : ev 197 51 (l0 :: l1 :: l2 :: l3 :: l4 :: l5 :: l6 :: L) (.int x :: st) h = ev 197 53 (l0 :: l1 :: l2 :: l3 :: l4 :: vkk l5 :: some (.int x) :: L) (st) h := G_istore f197_51 rfl (S1_6 l0 l1 l2 l3 l4 l5 l6 L _)
theorem f197_53 : fetch 197 53 = some (.aload_n 0, 1) := vtab tk197 30 rfl
theorem e197_53 (L : VL) (st : List Value) (h : VG) (x : Nat) : ev 197 53 (some (.ref x) :: L) (st) h = ev 197 54 (some (.ref x) :: L) (.ref x :: st) h := G_aload_n f197_53 rfl
theorem f197_54 : fetch 197 54 = some (.getfield 76, 3) := vtab tk197 31 rfl
theorem e197_54 (L : VL) (st : List Value) (h : VG) (a : Nat) (ho : ob h a 11) (hr : isR h a 42) : ev 197 54 L (.ref a :: st) h = ev 197 57 L (.ref (gR h a 42) :: st) h := G_getR (p := 1055) f197_54 lkF_12_76 (by decide) (by decide) ho hr
theorem f197_57 : fetch 197 57 = some (.iload_n 1, 1) := vtab tk197 32 rfl
theorem e197_57 (l0 : Option Value) (L : VL) (st : List Value) (h : VG) (x : Int32) : ev 197 57 (l0 :: some (.int x) :: L) (st) h = ev 197 58 (l0 :: some (.int x) :: L) (.int x :: st) h := G_iload_n f197_57 rfl
theorem f197_58 : fetch 197 58 = some (.iaload, 1) := vtab tk197 33 rfl
theorem e197_58 (L : VL) (st : List Value) (h : VG) (a : Nat) (i : Int32) (ha : rdI h a) (hi : vp_in i (aln h a)) : ev 197 58 L (.int i :: .ref a :: st) h = ev 197 59 L (.int (aI h a i.toNatClampNeg) :: st) h := G_iald' f197_58 ha hi
theorem f197_59 : fetch 197 59 = some (.bipush 9, 2) := vtab tk197 34 rfl
theorem e197_59 (L : VL) (st : List Value) (h : VG) : ev 197 59 L (st) h = ev 197 61 L (.int (9 : Int32) :: st) h := G_bipush f197_59 (by decide)
theorem f197_61 : fetch 197 61 = some (.if_icmp .ne 18, 3) := vtab tk197 35 rfl
theorem e197_61 (L : VL) (st : List Value) (h : VG) (x y : Int32) : ev 197 61 L (.int y :: .int x :: st) h = if x = y then ev 197 64 L st h else ev 197 79 L st h := G_icmp_ne f197_61 (by decide)
theorem f197_64 : fetch 197 64 = some (.aload_n 0, 1) := vtab tk197 36 rfl
theorem e197_64 (L : VL) (st : List Value) (h : VG) (x : Nat) : ev 197 64 (some (.ref x) :: L) (st) h = ev 197 65 (some (.ref x) :: L) (.ref x :: st) h := G_aload_n f197_64 rfl
theorem f197_65 : fetch 197 65 = some (.getfield 76, 3) := vtab tk197 37 rfl
theorem e197_65 (L : VL) (st : List Value) (h : VG) (a : Nat) (ho : ob h a 11) (hr : isR h a 42) : ev 197 65 L (.ref a :: st) h = ev 197 68 L (.ref (gR h a 42) :: st) h := G_getR (p := 1055) f197_65 lkF_12_76 (by decide) (by decide) ho hr
theorem f197_68 : fetch 197 68 = some (.iload_n 3, 1) := vtab tk197 38 rfl
theorem e197_68 (l0 l1 l2 : Option Value) (L : VL) (st : List Value) (h : VG) (x : Int32) : ev 197 68 (l0 :: l1 :: l2 :: some (.int x) :: L) (st) h = ev 197 69 (l0 :: l1 :: l2 :: some (.int x) :: L) (.int x :: st) h := G_iload_n f197_68 rfl
theorem f197_69 : fetch 197 69 = some (.iaload, 1) := vtab tk197 39 rfl
theorem e197_69 (L : VL) (st : List Value) (h : VG) (a : Nat) (i : Int32) (ha : rdI h a) (hi : vp_in i (aln h a)) : ev 197 69 L (.int i :: .ref a :: st) h = ev 197 70 L (.int (aI h a i.toNatClampNeg) :: st) h := G_iald' f197_69 ha hi
theorem f197_70 : fetch 197 70 = some (.bipush 8, 2) := vtab tk197 40 rfl
theorem e197_70 (L : VL) (st : List Value) (h : VG) : ev 197 70 L (st) h = ev 197 72 L (.int (8 : Int32) :: st) h := G_bipush f197_70 (by decide)
theorem f197_72 : fetch 197 72 = some (.if_icmp .ne 7, 3) := vtab tk197 41 rfl
theorem e197_72 (L : VL) (st : List Value) (h : VG) (x y : Int32) : ev 197 72 L (.int y :: .int x :: st) h = if x = y then ev 197 75 L st h else ev 197 79 L st h := G_icmp_ne f197_72 (by decide)
theorem f197_75 : fetch 197 75 = some (.iconst 1, 1) := vtab tk197 42 rfl
theorem e197_75 (L : VL) (st : List Value) (h : VG) : ev 197 75 L (st) h = ev 197 76 L (.int (1 : Int32) :: st) h := G_iconst f197_75 (by decide)
theorem f197_76 : fetch 197 76 = some (.goto 4, 3) := vtab tk197 43 rfl
theorem e197_76 (L : VL) (st : List Value) (h : VG) : ev 197 76 L (st) h = ev 197 80 L (st) h := G_goto f197_76 (by decide)
theorem f197_79 : fetch 197 79 = some (.iconst 0, 1) := vtab tk197 44 rfl
theorem e197_79 (L : VL) (st : List Value) (h : VG) : ev 197 79 L (st) h = ev 197 80 L (.int (0 : Int32) :: st) h := G_iconst f197_79 (by decide)
theorem f197_80 : fetch 197 80 = some (.istore 7, 2) := vtab tk197 45 rfl
theorem e197_80 (l0 l1 l2 l3 l4 l5 l6 l7 : Option Value) (L : VL) (st : List Value) (h : VG) (x : Int32) : ev 197 80 (l0 :: l1 :: l2 :: l3 :: l4 :: l5 :: l6 :: l7 :: L) (.int x :: st) h = ev 197 82 (l0 :: l1 :: l2 :: l3 :: l4 :: l5 :: vkk l6 :: some (.int x) :: L) (st) h := G_istore f197_80 rfl (S1_7 l0 l1 l2 l3 l4 l5 l6 l7 L _)
theorem f197_82 : fetch 197 82 = some (.aload_n 0, 1) := vtab tk197 46 rfl
theorem e197_82 (L : VL) (st : List Value) (h : VG) (x : Nat) : ev 197 82 (some (.ref x) :: L) (st) h = ev 197 83 (some (.ref x) :: L) (.ref x :: st) h := G_aload_n f197_82 rfl
theorem f197_83 : fetch 197 83 = some (.getfield 76, 3) := vtab tk197 47 rfl
theorem e197_83 (L : VL) (st : List Value) (h : VG) (a : Nat) (ho : ob h a 11) (hr : isR h a 42) : ev 197 83 L (.ref a :: st) h = ev 197 86 L (.ref (gR h a 42) :: st) h := G_getR (p := 1055) f197_83 lkF_12_76 (by decide) (by decide) ho hr
theorem f197_86 : fetch 197 86 = some (.iload_n 1, 1) := vtab tk197 48 rfl
theorem e197_86 (l0 : Option Value) (L : VL) (st : List Value) (h : VG) (x : Int32) : ev 197 86 (l0 :: some (.int x) :: L) (st) h = ev 197 87 (l0 :: some (.int x) :: L) (.int x :: st) h := G_iload_n f197_86 rfl
theorem f197_87 : fetch 197 87 = some (.iaload, 1) := vtab tk197 49 rfl
theorem e197_87 (L : VL) (st : List Value) (h : VG) (a : Nat) (i : Int32) (ha : rdI h a) (hi : vp_in i (aln h a)) : ev 197 87 L (.int i :: .ref a :: st) h = ev 197 88 L (.int (aI h a i.toNatClampNeg) :: st) h := G_iald' f197_87 ha hi
theorem f197_88 : fetch 197 88 = some (.bipush 10, 2) := vtab tk197 50 rfl
theorem e197_88 (L : VL) (st : List Value) (h : VG) : ev 197 88 L (st) h = ev 197 90 L (.int (10 : Int32) :: st) h := G_bipush f197_88 (by decide)
theorem f197_90 : fetch 197 90 = some (.if_icmp .eq 28, 3) := vtab tk197 51 rfl
theorem e197_90 (L : VL) (st : List Value) (h : VG) (x y : Int32) : ev 197 90 L (.int y :: .int x :: st) h = if x = y then ev 197 118 L st h else ev 197 93 L st h := G_icmp_eq f197_90 (by decide)
theorem f197_93 : fetch 197 93 = some (.aload_n 0, 1) := vtab tk197 52 rfl
theorem e197_93 (L : VL) (st : List Value) (h : VG) (x : Nat) : ev 197 93 (some (.ref x) :: L) (st) h = ev 197 94 (some (.ref x) :: L) (.ref x :: st) h := G_aload_n f197_93 rfl
theorem f197_94 : fetch 197 94 = some (.getfield 76, 3) := vtab tk197 53 rfl
theorem e197_94 (L : VL) (st : List Value) (h : VG) (a : Nat) (ho : ob h a 11) (hr : isR h a 42) : ev 197 94 L (.ref a :: st) h = ev 197 97 L (.ref (gR h a 42) :: st) h := G_getR (p := 1055) f197_94 lkF_12_76 (by decide) (by decide) ho hr
theorem f197_97 : fetch 197 97 = some (.iload_n 1, 1) := vtab tk197 54 rfl
theorem e197_97 (l0 : Option Value) (L : VL) (st : List Value) (h : VG) (x : Int32) : ev 197 97 (l0 :: some (.int x) :: L) (st) h = ev 197 98 (l0 :: some (.int x) :: L) (.int x :: st) h := G_iload_n f197_97 rfl
theorem f197_98 : fetch 197 98 = some (.iaload, 1) := vtab tk197 55 rfl
theorem e197_98 (L : VL) (st : List Value) (h : VG) (a : Nat) (i : Int32) (ha : rdI h a) (hi : vp_in i (aln h a)) : ev 197 98 L (.int i :: .ref a :: st) h = ev 197 99 L (.int (aI h a i.toNatClampNeg) :: st) h := G_iald' f197_98 ha hi
theorem f197_99 : fetch 197 99 = some (.aload_n 0, 1) := vtab tk197 56 rfl
theorem e197_99 (L : VL) (st : List Value) (h : VG) (x : Nat) : ev 197 99 (some (.ref x) :: L) (st) h = ev 197 100 (some (.ref x) :: L) (.ref x :: st) h := G_aload_n f197_99 rfl
theorem f197_100 : fetch 197 100 = some (.getfield 76, 3) := vtab tk197 57 rfl
theorem e197_100 (L : VL) (st : List Value) (h : VG) (a : Nat) (ho : ob h a 11) (hr : isR h a 42) : ev 197 100 L (.ref a :: st) h = ev 197 103 L (.ref (gR h a 42) :: st) h := G_getR (p := 1055) f197_100 lkF_12_76 (by decide) (by decide) ho hr
theorem f197_103 : fetch 197 103 = some (.iload_n 3, 1) := vtab tk197 58 rfl
theorem e197_103 (l0 l1 l2 : Option Value) (L : VL) (st : List Value) (h : VG) (x : Int32) : ev 197 103 (l0 :: l1 :: l2 :: some (.int x) :: L) (st) h = ev 197 104 (l0 :: l1 :: l2 :: some (.int x) :: L) (.int x :: st) h := G_iload_n f197_103 rfl
theorem f197_104 : fetch 197 104 = some (.iaload, 1) := vtab tk197 59 rfl
theorem e197_104 (L : VL) (st : List Value) (h : VG) (a : Nat) (i : Int32) (ha : rdI h a) (hi : vp_in i (aln h a)) : ev 197 104 L (.int i :: .ref a :: st) h = ev 197 105 L (.int (aI h a i.toNatClampNeg) :: st) h := G_iald' f197_104 ha hi
theorem f197_105 : fetch 197 105 = some (.if_icmp .eq 15, 3) := vtab tk197 60 rfl
theorem e197_105 (L : VL) (st : List Value) (h : VG) (x y : Int32) : ev 197 105 L (.int y :: .int x :: st) h = if x = y then ev 197 120 L st h else ev 197 108 L st h := G_icmp_eq f197_105 (by decide)
theorem f197_108 : fetch 197 108 = some (.iload 6, 2) := vtab tk197 61 rfl
theorem e197_108 (l0 l1 l2 l3 l4 l5 : Option Value) (L : VL) (st : List Value) (h : VG) (x : Int32) : ev 197 108 (l0 :: l1 :: l2 :: l3 :: l4 :: l5 :: some (.int x) :: L) (st) h = ev 197 110 (l0 :: l1 :: l2 :: l3 :: l4 :: l5 :: some (.int x) :: L) (.int x :: st) h := G_iload f197_108 rfl
theorem f197_110 : fetch 197 110 = some (.ifCond .ne 10, 3) := vtab tk197 62 rfl
theorem e197_110 (L : VL) (st : List Value) (h : VG) (x : Int32) : ev 197 110 L (.int x :: st) h = if x = 0 then ev 197 113 L st h else ev 197 120 L st h := G_if_ne f197_110 (by decide)
theorem f197_113 : fetch 197 113 = some (.iload 7, 2) := vtab tk197 63 rfl
theorem e197_113 (l0 l1 l2 l3 l4 l5 l6 : Option Value) (L : VL) (st : List Value) (h : VG) (x : Int32) : ev 197 113 (l0 :: l1 :: l2 :: l3 :: l4 :: l5 :: l6 :: some (.int x) :: L) (st) h = ev 197 115 (l0 :: l1 :: l2 :: l3 :: l4 :: l5 :: l6 :: some (.int x) :: L) (.int x :: st) h := G_iload f197_113 rfl
theorem f197_115 : fetch 197 115 = some (.ifCond .ne 5, 3) := vtab tk197 64 rfl
theorem e197_115 (L : VL) (st : List Value) (h : VG) (x : Int32) : ev 197 115 L (.int x :: st) h = if x = 0 then ev 197 118 L st h else ev 197 120 L st h := G_if_ne f197_115 (by decide)
theorem f197_118 : fetch 197 118 = some (.iconst 2, 1) := vtab tk197 65 rfl
theorem e197_118 (L : VL) (st : List Value) (h : VG) : ev 197 118 L (st) h = ev 197 119 L (.int (2 : Int32) :: st) h := G_iconst f197_118 (by decide)
theorem f197_119 : fetch 197 119 = some (.ireturn, 1) := vtab tk197 66 rfl
theorem e197_119 (L : VL) (h : VG) (x : Int32) : ev 197 119 L [.int x] h = some (some (.int x), h) := G_iret f197_119 (ty := .int) (by decide) rfl
theorem f197_120 : fetch 197 120 = some (.iload 5, 2) := vtab tk197 67 rfl
theorem e197_120 (l0 l1 l2 l3 l4 : Option Value) (L : VL) (st : List Value) (h : VG) (x : Int32) : ev 197 120 (l0 :: l1 :: l2 :: l3 :: l4 :: some (.int x) :: L) (st) h = ev 197 122 (l0 :: l1 :: l2 :: l3 :: l4 :: some (.int x) :: L) (.int x :: st) h := G_iload f197_120 rfl
theorem f197_122 : fetch 197 122 = some (.ifCond .lt 39, 3) := vtab tk197 68 rfl
theorem e197_122 (L : VL) (st : List Value) (h : VG) (x : Int32) : ev 197 122 L (.int x :: st) h = if x < 0 then ev 197 161 L st h else ev 197 125 L st h := G_if_lt f197_122 (by decide)
theorem f197_125 : fetch 197 125 = some (.iload_n 2, 1) := vtab tk197 69 rfl
theorem e197_125 (l0 l1 : Option Value) (L : VL) (st : List Value) (h : VG) (x : Int32) : ev 197 125 (l0 :: l1 :: some (.int x) :: L) (st) h = ev 197 126 (l0 :: l1 :: some (.int x) :: L) (.int x :: st) h := G_iload_n f197_125 rfl
theorem f197_126 : fetch 197 126 = some (.ifCond .lt 35, 3) := vtab tk197 70 rfl
theorem e197_126 (L : VL) (st : List Value) (h : VG) (x : Int32) : ev 197 126 L (.int x :: st) h = if x < 0 then ev 197 161 L st h else ev 197 129 L st h := G_if_lt f197_126 (by decide)
theorem f197_129 : fetch 197 129 = some (.iload 4, 2) := vtab tk197 71 rfl
theorem e197_129 (l0 l1 l2 l3 : Option Value) (L : VL) (st : List Value) (h : VG) (x : Int32) : ev 197 129 (l0 :: l1 :: l2 :: l3 :: some (.int x) :: L) (st) h = ev 197 131 (l0 :: l1 :: l2 :: l3 :: some (.int x) :: L) (.int x :: st) h := G_iload f197_129 rfl
theorem f197_131 : fetch 197 131 = some (.ifCond .lt 30, 3) := vtab tk197 72 rfl
theorem e197_131 (L : VL) (st : List Value) (h : VG) (x : Int32) : ev 197 131 L (.int x :: st) h = if x < 0 then ev 197 161 L st h else ev 197 134 L st h := G_if_lt f197_131 (by decide)
theorem f197_134 : fetch 197 134 = some (.iload_n 2, 1) := vtab tk197 73 rfl
theorem e197_134 (l0 l1 : Option Value) (L : VL) (st : List Value) (h : VG) (x : Int32) : ev 197 134 (l0 :: l1 :: some (.int x) :: L) (st) h = ev 197 135 (l0 :: l1 :: some (.int x) :: L) (.int x :: st) h := G_iload_n f197_134 rfl
theorem f197_135 : fetch 197 135 = some (.aload_n 0, 1) := vtab tk197 74 rfl
theorem e197_135 (L : VL) (st : List Value) (h : VG) (x : Nat) : ev 197 135 (some (.ref x) :: L) (st) h = ev 197 136 (some (.ref x) :: L) (.ref x :: st) h := G_aload_n f197_135 rfl
theorem f197_136 : fetch 197 136 = some (.getfield 79, 3) := vtab tk197 75 rfl
theorem e197_136 (L : VL) (st : List Value) (h : VG) (a : Nat) (ho : ob h a 11) (hr : isR h a 43) : ev 197 136 L (.ref a :: st) h = ev 197 139 L (.ref (gR h a 43) :: st) h := G_getR (p := 1056) f197_136 lkF_12_79 (by decide) (by decide) ho hr
theorem f197_139 : fetch 197 139 = some (.iload_n 1, 1) := vtab tk197 76 rfl
theorem e197_139 (l0 : Option Value) (L : VL) (st : List Value) (h : VG) (x : Int32) : ev 197 139 (l0 :: some (.int x) :: L) (st) h = ev 197 140 (l0 :: some (.int x) :: L) (.int x :: st) h := G_iload_n f197_139 rfl
theorem f197_140 : fetch 197 140 = some (.iaload, 1) := vtab tk197 77 rfl
theorem e197_140 (L : VL) (st : List Value) (h : VG) (a : Nat) (i : Int32) (ha : rdI h a) (hi : vp_in i (aln h a)) : ev 197 140 L (.int i :: .ref a :: st) h = ev 197 141 L (.int (aI h a i.toNatClampNeg) :: st) h := G_iald' f197_140 ha hi
theorem f197_141 : fetch 197 141 = some (.iload 5, 2) := vtab tk197 78 rfl
theorem e197_141 (l0 l1 l2 l3 l4 : Option Value) (L : VL) (st : List Value) (h : VG) (x : Int32) : ev 197 141 (l0 :: l1 :: l2 :: l3 :: l4 :: some (.int x) :: L) (st) h = ev 197 143 (l0 :: l1 :: l2 :: l3 :: l4 :: some (.int x) :: L) (.int x :: st) h := G_iload f197_141 rfl
theorem f197_143 : fetch 197 143 = some (.isub, 1) := vtab tk197 79 rfl
theorem e197_143 (L : VL) (st : List Value) (h : VG) (x y : Int32) : ev 197 143 L (.int y :: .int x :: st) h = ev 197 144 L (.int (x - y) :: st) h := G_isub f197_143
theorem f197_144 : fetch 197 144 = some (.if_icmp .gt 17, 3) := vtab tk197 80 rfl
theorem e197_144 (L : VL) (st : List Value) (h : VG) (x y : Int32) : ev 197 144 L (.int y :: .int x :: st) h = if x ≤ y then ev 197 147 L st h else ev 197 161 L st h := G_icmp_gt f197_144 (by decide)
theorem f197_147 : fetch 197 147 = some (.iload 4, 2) := vtab tk197 81 rfl
theorem e197_147 (l0 l1 l2 l3 : Option Value) (L : VL) (st : List Value) (h : VG) (x : Int32) : ev 197 147 (l0 :: l1 :: l2 :: l3 :: some (.int x) :: L) (st) h = ev 197 149 (l0 :: l1 :: l2 :: l3 :: some (.int x) :: L) (.int x :: st) h := G_iload f197_147 rfl
theorem f197_149 : fetch 197 149 = some (.aload_n 0, 1) := vtab tk197 82 rfl
theorem e197_149 (L : VL) (st : List Value) (h : VG) (x : Nat) : ev 197 149 (some (.ref x) :: L) (st) h = ev 197 150 (some (.ref x) :: L) (.ref x :: st) h := G_aload_n f197_149 rfl
theorem f197_150 : fetch 197 150 = some (.getfield 79, 3) := vtab tk197 83 rfl
theorem e197_150 (L : VL) (st : List Value) (h : VG) (a : Nat) (ho : ob h a 11) (hr : isR h a 43) : ev 197 150 L (.ref a :: st) h = ev 197 153 L (.ref (gR h a 43) :: st) h := G_getR (p := 1056) f197_150 lkF_12_79 (by decide) (by decide) ho hr
theorem f197_153 : fetch 197 153 = some (.iload_n 3, 1) := vtab tk197 84 rfl
theorem e197_153 (l0 l1 l2 : Option Value) (L : VL) (st : List Value) (h : VG) (x : Int32) : ev 197 153 (l0 :: l1 :: l2 :: some (.int x) :: L) (st) h = ev 197 154 (l0 :: l1 :: l2 :: some (.int x) :: L) (.int x :: st) h := G_iload_n f197_153 rfl
theorem f197_154 : fetch 197 154 = some (.iaload, 1) := vtab tk197 85 rfl
theorem e197_154 (L : VL) (st : List Value) (h : VG) (a : Nat) (i : Int32) (ha : rdI h a) (hi : vp_in i (aln h a)) : ev 197 154 L (.int i :: .ref a :: st) h = ev 197 155 L (.int (aI h a i.toNatClampNeg) :: st) h := G_iald' f197_154 ha hi
theorem f197_155 : fetch 197 155 = some (.iload 5, 2) := vtab tk197 86 rfl
theorem e197_155 (l0 l1 l2 l3 l4 : Option Value) (L : VL) (st : List Value) (h : VG) (x : Int32) : ev 197 155 (l0 :: l1 :: l2 :: l3 :: l4 :: some (.int x) :: L) (st) h = ev 197 157 (l0 :: l1 :: l2 :: l3 :: l4 :: some (.int x) :: L) (.int x :: st) h := G_iload f197_155 rfl
theorem f197_157 : fetch 197 157 = some (.isub, 1) := vtab tk197 87 rfl
theorem e197_157 (L : VL) (st : List Value) (h : VG) (x y : Int32) : ev 197 157 L (.int y :: .int x :: st) h = ev 197 158 L (.int (x - y) :: st) h := G_isub f197_157
theorem f197_158 : fetch 197 158 = some (.if_icmp .le 5, 3) := vtab tk197 88 rfl
theorem e197_158 (L : VL) (st : List Value) (h : VG) (x y : Int32) : ev 197 158 L (.int y :: .int x :: st) h = if x ≤ y then ev 197 163 L st h else ev 197 161 L st h := G_icmp_le f197_158 (by decide)
theorem f197_161 : fetch 197 161 = some (.iconst 1, 1) := vtab tk197 89 rfl
theorem e197_161 (L : VL) (st : List Value) (h : VG) : ev 197 161 L (st) h = ev 197 162 L (.int (1 : Int32) :: st) h := G_iconst f197_161 (by decide)
theorem f197_162 : fetch 197 162 = some (.ireturn, 1) := vtab tk197 90 rfl
theorem e197_162 (L : VL) (h : VG) (x : Int32) : ev 197 162 L [.int x] h = some (some (.int x), h) := G_iret f197_162 (ty := .int) (by decide) rfl
theorem f197_163 : fetch 197 163 = some (.iconst 0, 1) := vtab tk197 91 rfl
theorem e197_163 (L : VL) (st : List Value) (h : VG) : ev 197 163 L (st) h = ev 197 164 L (.int (0 : Int32) :: st) h := G_iconst f197_163 (by decide)
theorem f197_164 : fetch 197 164 = some (.istore 8, 2) := vtab tk197 92 rfl
theorem e197_164 (l0 l1 l2 l3 l4 l5 l6 l7 l8 : Option Value) (L : VL) (st : List Value) (h : VG) (x : Int32) : ev 197 164 (l0 :: l1 :: l2 :: l3 :: l4 :: l5 :: l6 :: l7 :: l8 :: L) (.int x :: st) h = ev 197 166 (l0 :: l1 :: l2 :: l3 :: l4 :: l5 :: l6 :: vkk l7 :: some (.int x) :: L) (st) h := G_istore f197_164 rfl (S1_8 l0 l1 l2 l3 l4 l5 l6 l7 l8 L _)
theorem f197_166 : fetch 197 166 = some (.iload 8, 2) := vtab tk197 93 rfl
theorem e197_166 (l0 l1 l2 l3 l4 l5 l6 l7 : Option Value) (L : VL) (st : List Value) (h : VG) (x : Int32) : ev 197 166 (l0 :: l1 :: l2 :: l3 :: l4 :: l5 :: l6 :: l7 :: some (.int x) :: L) (st) h = ev 197 168 (l0 :: l1 :: l2 :: l3 :: l4 :: l5 :: l6 :: l7 :: some (.int x) :: L) (.int x :: st) h := G_iload f197_166 rfl
theorem f197_168 : fetch 197 168 = some (.iload 5, 2) := vtab tk197 94 rfl
theorem e197_168 (l0 l1 l2 l3 l4 : Option Value) (L : VL) (st : List Value) (h : VG) (x : Int32) : ev 197 168 (l0 :: l1 :: l2 :: l3 :: l4 :: some (.int x) :: L) (st) h = ev 197 170 (l0 :: l1 :: l2 :: l3 :: l4 :: some (.int x) :: L) (.int x :: st) h := G_iload f197_168 rfl
theorem f197_170 : fetch 197 170 = some (.if_icmp .ge 72, 3) := vtab tk197 95 rfl
theorem e197_170 (L : VL) (st : List Value) (h : VG) (x y : Int32) : ev 197 170 L (.int y :: .int x :: st) h = if x < y then ev 197 173 L st h else ev 197 242 L st h := G_icmp_ge f197_170 (by decide)
theorem f197_173 : fetch 197 173 = some (.aload_n 0, 1) := vtab tk197 96 rfl
theorem e197_173 (L : VL) (st : List Value) (h : VG) (x : Nat) : ev 197 173 (some (.ref x) :: L) (st) h = ev 197 174 (some (.ref x) :: L) (.ref x :: st) h := G_aload_n f197_173 rfl
theorem f197_174 : fetch 197 174 = some (.getfield 92, 3) := vtab tk197 97 rfl
theorem e197_174 (L : VL) (st : List Value) (h : VG) (a : Nat) (ho : ob h a 11) (hr : isR h a 47) : ev 197 174 L (.ref a :: st) h = ev 197 177 L (.ref (gR h a 47) :: st) h := G_getR (p := 1060) f197_174 lkF_12_92 (by decide) (by decide) ho hr
theorem f197_177 : fetch 197 177 = some (.iload 8, 2) := vtab tk197 98 rfl
theorem e197_177 (l0 l1 l2 l3 l4 l5 l6 l7 : Option Value) (L : VL) (st : List Value) (h : VG) (x : Int32) : ev 197 177 (l0 :: l1 :: l2 :: l3 :: l4 :: l5 :: l6 :: l7 :: some (.int x) :: L) (st) h = ev 197 179 (l0 :: l1 :: l2 :: l3 :: l4 :: l5 :: l6 :: l7 :: some (.int x) :: L) (.int x :: st) h := G_iload f197_177 rfl
theorem f197_179 : fetch 197 179 = some (.aload_n 0, 1) := vtab tk197 99 rfl
theorem e197_179 (L : VL) (st : List Value) (h : VG) (x : Nat) : ev 197 179 (some (.ref x) :: L) (st) h = ev 197 180 (some (.ref x) :: L) (.ref x :: st) h := G_aload_n f197_179 rfl
theorem f197_180 : fetch 197 180 = some (.getfield 82, 3) := vtab tk197 100 rfl
theorem e197_180 (L : VL) (st : List Value) (h : VG) (a : Nat) (ho : ob h a 11) (hr : isR h a 44) : ev 197 180 L (.ref a :: st) h = ev 197 183 L (.ref (gR h a 44) :: st) h := G_getR (p := 1057) f197_180 lkF_12_82 (by decide) (by decide) ho hr
theorem f197_183 : fetch 197 183 = some (.bipush 40, 2) := vtab tk197 101 rfl
theorem e197_183 (L : VL) (st : List Value) (h : VG) : ev 197 183 L (st) h = ev 197 185 L (.int (40 : Int32) :: st) h := G_bipush f197_183 (by decide)
theorem f197_185 : fetch 197 185 = some (.iload_n 1, 1) := vtab tk197 102 rfl
theorem e197_185 (l0 : Option Value) (L : VL) (st : List Value) (h : VG) (x : Int32) : ev 197 185 (l0 :: some (.int x) :: L) (st) h = ev 197 186 (l0 :: some (.int x) :: L) (.int x :: st) h := G_iload_n f197_185 rfl
theorem f197_186 : fetch 197 186 = some (.imul, 1) := vtab tk197 103 rfl
theorem e197_186 (L : VL) (st : List Value) (h : VG) (x y : Int32) : ev 197 186 L (.int y :: .int x :: st) h = ev 197 187 L (.int (x * y) :: st) h := G_imul f197_186
theorem f197_187 : fetch 197 187 = some (.iload_n 2, 1) := vtab tk197 104 rfl
theorem e197_187 (l0 l1 : Option Value) (L : VL) (st : List Value) (h : VG) (x : Int32) : ev 197 187 (l0 :: l1 :: some (.int x) :: L) (st) h = ev 197 188 (l0 :: l1 :: some (.int x) :: L) (.int x :: st) h := G_iload_n f197_187 rfl
theorem f197_188 : fetch 197 188 = some (.iadd, 1) := vtab tk197 105 rfl
theorem e197_188 (L : VL) (st : List Value) (h : VG) (x y : Int32) : ev 197 188 L (.int y :: .int x :: st) h = ev 197 189 L (.int (x + y) :: st) h := G_iadd f197_188
theorem f197_189 : fetch 197 189 = some (.iload 8, 2) := vtab tk197 106 rfl
theorem e197_189 (l0 l1 l2 l3 l4 l5 l6 l7 : Option Value) (L : VL) (st : List Value) (h : VG) (x : Int32) : ev 197 189 (l0 :: l1 :: l2 :: l3 :: l4 :: l5 :: l6 :: l7 :: some (.int x) :: L) (st) h = ev 197 191 (l0 :: l1 :: l2 :: l3 :: l4 :: l5 :: l6 :: l7 :: some (.int x) :: L) (.int x :: st) h := G_iload f197_189 rfl
theorem f197_191 : fetch 197 191 = some (.iadd, 1) := vtab tk197 107 rfl
theorem e197_191 (L : VL) (st : List Value) (h : VG) (x y : Int32) : ev 197 191 L (.int y :: .int x :: st) h = ev 197 192 L (.int (x + y) :: st) h := G_iadd f197_191
theorem f197_192 : fetch 197 192 = some (.iaload, 1) := vtab tk197 108 rfl
theorem e197_192 (L : VL) (st : List Value) (h : VG) (a : Nat) (i : Int32) (ha : rdI h a) (hi : vp_in i (aln h a)) : ev 197 192 L (.int i :: .ref a :: st) h = ev 197 193 L (.int (aI h a i.toNatClampNeg) :: st) h := G_iald' f197_192 ha hi
theorem f197_193 : fetch 197 193 = some (.iastore, 1) := vtab tk197 109 rfl
theorem e197_193 (L : VL) (st : List Value) (h : VG) (a : Nat) (i : Int32) (x : Int32) (ha : arI h a 0) (hi : vp_in i (aln h a)) : ev 197 193 L (.int x :: .int i :: .ref a :: st) h = ev 197 194 L (st) (wI h a i.toNatClampNeg x) := G_iast f197_193 ha hi
theorem f197_194 : fetch 197 194 = some (.aload_n 0, 1) := vtab tk197 110 rfl
theorem e197_194 (L : VL) (st : List Value) (h : VG) (x : Nat) : ev 197 194 (some (.ref x) :: L) (st) h = ev 197 195 (some (.ref x) :: L) (.ref x :: st) h := G_aload_n f197_194 rfl
theorem f197_195 : fetch 197 195 = some (.getfield 95, 3) := vtab tk197 111 rfl
theorem e197_195 (L : VL) (st : List Value) (h : VG) (a : Nat) (ho : ob h a 11) (hr : isR h a 48) : ev 197 195 L (.ref a :: st) h = ev 197 198 L (.ref (gR h a 48) :: st) h := G_getR (p := 1061) f197_195 lkF_12_95 (by decide) (by decide) ho hr
theorem f197_198 : fetch 197 198 = some (.iload 8, 2) := vtab tk197 112 rfl
theorem e197_198 (l0 l1 l2 l3 l4 l5 l6 l7 : Option Value) (L : VL) (st : List Value) (h : VG) (x : Int32) : ev 197 198 (l0 :: l1 :: l2 :: l3 :: l4 :: l5 :: l6 :: l7 :: some (.int x) :: L) (st) h = ev 197 200 (l0 :: l1 :: l2 :: l3 :: l4 :: l5 :: l6 :: l7 :: some (.int x) :: L) (.int x :: st) h := G_iload f197_198 rfl
theorem f197_200 : fetch 197 200 = some (.aload_n 0, 1) := vtab tk197 113 rfl
theorem e197_200 (L : VL) (st : List Value) (h : VG) (x : Nat) : ev 197 200 (some (.ref x) :: L) (st) h = ev 197 201 (some (.ref x) :: L) (.ref x :: st) h := G_aload_n f197_200 rfl
theorem f197_201 : fetch 197 201 = some (.getfield 85, 3) := vtab tk197 114 rfl
theorem e197_201 (L : VL) (st : List Value) (h : VG) (a : Nat) (ho : ob h a 11) (hr : isR h a 45) : ev 197 201 L (.ref a :: st) h = ev 197 204 L (.ref (gR h a 45) :: st) h := G_getR (p := 1058) f197_201 lkF_12_85 (by decide) (by decide) ho hr
theorem f197_204 : fetch 197 204 = some (.bipush 40, 2) := vtab tk197 115 rfl
theorem e197_204 (L : VL) (st : List Value) (h : VG) : ev 197 204 L (st) h = ev 197 206 L (.int (40 : Int32) :: st) h := G_bipush f197_204 (by decide)
theorem f197_206 : fetch 197 206 = some (.iload_n 1, 1) := vtab tk197 116 rfl
theorem e197_206 (l0 : Option Value) (L : VL) (st : List Value) (h : VG) (x : Int32) : ev 197 206 (l0 :: some (.int x) :: L) (st) h = ev 197 207 (l0 :: some (.int x) :: L) (.int x :: st) h := G_iload_n f197_206 rfl
theorem f197_207 : fetch 197 207 = some (.imul, 1) := vtab tk197 117 rfl
theorem e197_207 (L : VL) (st : List Value) (h : VG) (x y : Int32) : ev 197 207 L (.int y :: .int x :: st) h = ev 197 208 L (.int (x * y) :: st) h := G_imul f197_207
theorem f197_208 : fetch 197 208 = some (.iload_n 2, 1) := vtab tk197 118 rfl
theorem e197_208 (l0 l1 : Option Value) (L : VL) (st : List Value) (h : VG) (x : Int32) : ev 197 208 (l0 :: l1 :: some (.int x) :: L) (st) h = ev 197 209 (l0 :: l1 :: some (.int x) :: L) (.int x :: st) h := G_iload_n f197_208 rfl
theorem f197_209 : fetch 197 209 = some (.iadd, 1) := vtab tk197 119 rfl
theorem e197_209 (L : VL) (st : List Value) (h : VG) (x y : Int32) : ev 197 209 L (.int y :: .int x :: st) h = ev 197 210 L (.int (x + y) :: st) h := G_iadd f197_209
theorem f197_210 : fetch 197 210 = some (.iload 8, 2) := vtab tk197 120 rfl
theorem e197_210 (l0 l1 l2 l3 l4 l5 l6 l7 : Option Value) (L : VL) (st : List Value) (h : VG) (x : Int32) : ev 197 210 (l0 :: l1 :: l2 :: l3 :: l4 :: l5 :: l6 :: l7 :: some (.int x) :: L) (st) h = ev 197 212 (l0 :: l1 :: l2 :: l3 :: l4 :: l5 :: l6 :: l7 :: some (.int x) :: L) (.int x :: st) h := G_iload f197_210 rfl
theorem f197_212 : fetch 197 212 = some (.iadd, 1) := vtab tk197 121 rfl
theorem e197_212 (L : VL) (st : List Value) (h : VG) (x y : Int32) : ev 197 212 L (.int y :: .int x :: st) h = ev 197 213 L (.int (x + y) :: st) h := G_iadd f197_212
theorem f197_213 : fetch 197 213 = some (.laload, 1) := vtab tk197 122 rfl
theorem e197_213 (L : VL) (st : List Value) (h : VG) (a : Nat) (i : Int32) (ha : arL h a) (hi : vp_in i (aln h a)) : ev 197 213 L (.int i :: .ref a :: st) h = ev 197 214 L (.long (aL h a i.toNatClampNeg) :: st) h := G_lald f197_213 ha hi
theorem f197_214 : fetch 197 214 = some (.lastore, 1) := vtab tk197 123 rfl
theorem e197_214 (L : VL) (st : List Value) (h : VG) (a : Nat) (i : Int32) (x : Int64) (ha : arL h a) (hi : vp_in i (aln h a)) : ev 197 214 L (.long x :: .int i :: .ref a :: st) h = ev 197 215 L (st) (wL h a i.toNatClampNeg x) := G_last f197_214 ha hi
theorem f197_215 : fetch 197 215 = some (.aload_n 0, 1) := vtab tk197 124 rfl
theorem e197_215 (L : VL) (st : List Value) (h : VG) (x : Nat) : ev 197 215 (some (.ref x) :: L) (st) h = ev 197 216 (some (.ref x) :: L) (.ref x :: st) h := G_aload_n f197_215 rfl
theorem f197_216 : fetch 197 216 = some (.getfield 98, 3) := vtab tk197 125 rfl
theorem e197_216 (L : VL) (st : List Value) (h : VG) (a : Nat) (ho : ob h a 11) (hr : isR h a 49) : ev 197 216 L (.ref a :: st) h = ev 197 219 L (.ref (gR h a 49) :: st) h := G_getR (p := 1062) f197_216 lkF_12_98 (by decide) (by decide) ho hr
theorem f197_219 : fetch 197 219 = some (.iload 8, 2) := vtab tk197 126 rfl
theorem e197_219 (l0 l1 l2 l3 l4 l5 l6 l7 : Option Value) (L : VL) (st : List Value) (h : VG) (x : Int32) : ev 197 219 (l0 :: l1 :: l2 :: l3 :: l4 :: l5 :: l6 :: l7 :: some (.int x) :: L) (st) h = ev 197 221 (l0 :: l1 :: l2 :: l3 :: l4 :: l5 :: l6 :: l7 :: some (.int x) :: L) (.int x :: st) h := G_iload f197_219 rfl
theorem f197_221 : fetch 197 221 = some (.aload_n 0, 1) := vtab tk197 127 rfl
theorem e197_221 (L : VL) (st : List Value) (h : VG) (x : Nat) : ev 197 221 (some (.ref x) :: L) (st) h = ev 197 222 (some (.ref x) :: L) (.ref x :: st) h := G_aload_n f197_221 rfl
theorem f197_222 : fetch 197 222 = some (.getfield 88, 3) := vtab tk197 128 rfl
theorem e197_222 (L : VL) (st : List Value) (h : VG) (a : Nat) (ho : ob h a 11) (hr : isR h a 46) : ev 197 222 L (.ref a :: st) h = ev 197 225 L (.ref (gR h a 46) :: st) h := G_getR (p := 1059) f197_222 lkF_12_88 (by decide) (by decide) ho hr
theorem f197_225 : fetch 197 225 = some (.bipush 40, 2) := vtab tk197 129 rfl
theorem e197_225 (L : VL) (st : List Value) (h : VG) : ev 197 225 L (st) h = ev 197 227 L (.int (40 : Int32) :: st) h := G_bipush f197_225 (by decide)
theorem f197_227 : fetch 197 227 = some (.iload_n 1, 1) := vtab tk197 130 rfl
theorem e197_227 (l0 : Option Value) (L : VL) (st : List Value) (h : VG) (x : Int32) : ev 197 227 (l0 :: some (.int x) :: L) (st) h = ev 197 228 (l0 :: some (.int x) :: L) (.int x :: st) h := G_iload_n f197_227 rfl
theorem f197_228 : fetch 197 228 = some (.imul, 1) := vtab tk197 131 rfl
theorem e197_228 (L : VL) (st : List Value) (h : VG) (x y : Int32) : ev 197 228 L (.int y :: .int x :: st) h = ev 197 229 L (.int (x * y) :: st) h := G_imul f197_228
theorem f197_229 : fetch 197 229 = some (.iload_n 2, 1) := vtab tk197 132 rfl
theorem e197_229 (l0 l1 : Option Value) (L : VL) (st : List Value) (h : VG) (x : Int32) : ev 197 229 (l0 :: l1 :: some (.int x) :: L) (st) h = ev 197 230 (l0 :: l1 :: some (.int x) :: L) (.int x :: st) h := G_iload_n f197_229 rfl
theorem f197_230 : fetch 197 230 = some (.iadd, 1) := vtab tk197 133 rfl
theorem e197_230 (L : VL) (st : List Value) (h : VG) (x y : Int32) : ev 197 230 L (.int y :: .int x :: st) h = ev 197 231 L (.int (x + y) :: st) h := G_iadd f197_230
theorem f197_231 : fetch 197 231 = some (.iload 8, 2) := vtab tk197 134 rfl
theorem e197_231 (l0 l1 l2 l3 l4 l5 l6 l7 : Option Value) (L : VL) (st : List Value) (h : VG) (x : Int32) : ev 197 231 (l0 :: l1 :: l2 :: l3 :: l4 :: l5 :: l6 :: l7 :: some (.int x) :: L) (st) h = ev 197 233 (l0 :: l1 :: l2 :: l3 :: l4 :: l5 :: l6 :: l7 :: some (.int x) :: L) (.int x :: st) h := G_iload f197_231 rfl
theorem f197_233 : fetch 197 233 = some (.iadd, 1) := vtab tk197 135 rfl
theorem e197_233 (L : VL) (st : List Value) (h : VG) (x y : Int32) : ev 197 233 L (.int y :: .int x :: st) h = ev 197 234 L (.int (x + y) :: st) h := G_iadd f197_233
theorem f197_234 : fetch 197 234 = some (.daload, 1) := vtab tk197 136 rfl
theorem e197_234 (L : VL) (st : List Value) (h : VG) (a : Nat) (i : Int32) (ha : arD h a) (hi : vp_in i (aln h a)) : ev 197 234 L (.int i :: .ref a :: st) h = ev 197 235 L (.double (aD h a i.toNatClampNeg) :: st) h := G_dald f197_234 ha hi
theorem f197_235 : fetch 197 235 = some (.dastore, 1) := vtab tk197 137 rfl
theorem e197_235 (L : VL) (st : List Value) (h : VG) (a : Nat) (i : Int32) (x : UInt64) (ha : arD h a) (hi : vp_in i (aln h a)) : ev 197 235 L (.double x :: .int i :: .ref a :: st) h = ev 197 236 L (st) (wD h a i.toNatClampNeg x) := G_dast f197_235 ha hi
theorem f197_236 : fetch 197 236 = some (.iinc 8 1, 3) := vtab tk197 138 rfl
theorem e197_236 (l0 l1 l2 l3 l4 l5 l6 l7 : Option Value) (L : VL) (st : List Value) (h : VG) (x : Int32) : ev 197 236 (l0 :: l1 :: l2 :: l3 :: l4 :: l5 :: l6 :: l7 :: some (.int x) :: L) (st) h = ev 197 239 (l0 :: l1 :: l2 :: l3 :: l4 :: l5 :: l6 :: vkk l7 :: some (.int (x + (1 : Int32))) :: L) (st) h := G_iinc f197_236 rfl (by decide) (S1_8 l0 l1 l2 l3 l4 l5 l6 l7 (some (.int x)) L _)
theorem f197_239 : fetch 197 239 = some (.goto (-73), 3) := vtab tk197 139 rfl
theorem e197_239 (L : VL) (st : List Value) (h : VG) : ev 197 239 L (st) h = ev 197 166 L (st) h := G_goto f197_239 (by decide)
theorem f197_242 : fetch 197 242 = some (.iconst 0, 1) := vtab tk197 140 rfl
theorem e197_242 (L : VL) (st : List Value) (h : VG) : ev 197 242 L (st) h = ev 197 243 L (.int (0 : Int32) :: st) h := G_iconst f197_242 (by decide)
theorem f197_243 : fetch 197 243 = some (.istore 8, 2) := vtab tk197 141 rfl
theorem e197_243 (l0 l1 l2 l3 l4 l5 l6 l7 l8 : Option Value) (L : VL) (st : List Value) (h : VG) (x : Int32) : ev 197 243 (l0 :: l1 :: l2 :: l3 :: l4 :: l5 :: l6 :: l7 :: l8 :: L) (.int x :: st) h = ev 197 245 (l0 :: l1 :: l2 :: l3 :: l4 :: l5 :: l6 :: vkk l7 :: some (.int x) :: L) (st) h := G_istore f197_243 rfl (S1_8 l0 l1 l2 l3 l4 l5 l6 l7 l8 L _)
theorem f197_245 : fetch 197 245 = some (.iload 8, 2) := vtab tk197 142 rfl
theorem e197_245 (l0 l1 l2 l3 l4 l5 l6 l7 : Option Value) (L : VL) (st : List Value) (h : VG) (x : Int32) : ev 197 245 (l0 :: l1 :: l2 :: l3 :: l4 :: l5 :: l6 :: l7 :: some (.int x) :: L) (st) h = ev 197 247 (l0 :: l1 :: l2 :: l3 :: l4 :: l5 :: l6 :: l7 :: some (.int x) :: L) (.int x :: st) h := G_iload f197_245 rfl
theorem f197_247 : fetch 197 247 = some (.iload 5, 2) := vtab tk197 143 rfl
theorem e197_247 (l0 l1 l2 l3 l4 : Option Value) (L : VL) (st : List Value) (h : VG) (x : Int32) : ev 197 247 (l0 :: l1 :: l2 :: l3 :: l4 :: some (.int x) :: L) (st) h = ev 197 249 (l0 :: l1 :: l2 :: l3 :: l4 :: some (.int x) :: L) (.int x :: st) h := G_iload f197_247 rfl
theorem f197_249 : fetch 197 249 = some (.if_icmp .ge 106, 3) := vtab tk197 144 rfl
theorem e197_249 (L : VL) (st : List Value) (h : VG) (x y : Int32) : ev 197 249 L (.int y :: .int x :: st) h = if x < y then ev 197 252 L st h else ev 197 355 L st h := G_icmp_ge f197_249 (by decide)
theorem f197_252 : fetch 197 252 = some (.iload 6, 2) := vtab tk197 145 rfl
theorem e197_252 (l0 l1 l2 l3 l4 l5 : Option Value) (L : VL) (st : List Value) (h : VG) (x : Int32) : ev 197 252 (l0 :: l1 :: l2 :: l3 :: l4 :: l5 :: some (.int x) :: L) (st) h = ev 197 254 (l0 :: l1 :: l2 :: l3 :: l4 :: l5 :: some (.int x) :: L) (.int x :: st) h := G_iload f197_252 rfl
theorem f197_254 : fetch 197 254 = some (.ifCond .eq 29, 3) := vtab tk197 146 rfl
theorem e197_254 (L : VL) (st : List Value) (h : VG) (x : Int32) : ev 197 254 L (.int x :: st) h = if x = 0 then ev 197 283 L st h else ev 197 257 L st h := G_if_eq f197_254 (by decide)
theorem f197_257 : fetch 197 257 = some (.aload_n 0, 1) := vtab tk197 147 rfl
theorem e197_257 (L : VL) (st : List Value) (h : VG) (x : Nat) : ev 197 257 (some (.ref x) :: L) (st) h = ev 197 258 (some (.ref x) :: L) (.ref x :: st) h := G_aload_n f197_257 rfl
theorem f197_258 : fetch 197 258 = some (.getfield 92, 3) := vtab tk197 148 rfl
theorem e197_258 (L : VL) (st : List Value) (h : VG) (a : Nat) (ho : ob h a 11) (hr : isR h a 47) : ev 197 258 L (.ref a :: st) h = ev 197 261 L (.ref (gR h a 47) :: st) h := G_getR (p := 1060) f197_258 lkF_12_92 (by decide) (by decide) ho hr
theorem f197_261 : fetch 197 261 = some (.iload 8, 2) := vtab tk197 149 rfl
theorem e197_261 (l0 l1 l2 l3 l4 l5 l6 l7 : Option Value) (L : VL) (st : List Value) (h : VG) (x : Int32) : ev 197 261 (l0 :: l1 :: l2 :: l3 :: l4 :: l5 :: l6 :: l7 :: some (.int x) :: L) (st) h = ev 197 263 (l0 :: l1 :: l2 :: l3 :: l4 :: l5 :: l6 :: l7 :: some (.int x) :: L) (.int x :: st) h := G_iload f197_261 rfl
theorem f197_263 : fetch 197 263 = some (.iaload, 1) := vtab tk197 150 rfl
theorem e197_263 (L : VL) (st : List Value) (h : VG) (a : Nat) (i : Int32) (ha : rdI h a) (hi : vp_in i (aln h a)) : ev 197 263 L (.int i :: .ref a :: st) h = ev 197 264 L (.int (aI h a i.toNatClampNeg) :: st) h := G_iald' f197_263 ha hi
theorem f197_264 : fetch 197 264 = some (.bipush 8, 2) := vtab tk197 151 rfl
theorem e197_264 (L : VL) (st : List Value) (h : VG) : ev 197 264 L (st) h = ev 197 266 L (.int (8 : Int32) :: st) h := G_bipush f197_264 (by decide)
theorem f197_266 : fetch 197 266 = some (.if_icmp .eq 17, 3) := vtab tk197 152 rfl
theorem e197_266 (L : VL) (st : List Value) (h : VG) (x y : Int32) : ev 197 266 L (.int y :: .int x :: st) h = if x = y then ev 197 283 L st h else ev 197 269 L st h := G_icmp_eq f197_266 (by decide)
theorem f197_269 : fetch 197 269 = some (.aload_n 0, 1) := vtab tk197 153 rfl
theorem e197_269 (L : VL) (st : List Value) (h : VG) (x : Nat) : ev 197 269 (some (.ref x) :: L) (st) h = ev 197 270 (some (.ref x) :: L) (.ref x :: st) h := G_aload_n f197_269 rfl
theorem f197_270 : fetch 197 270 = some (.getfield 92, 3) := vtab tk197 154 rfl
theorem e197_270 (L : VL) (st : List Value) (h : VG) (a : Nat) (ho : ob h a 11) (hr : isR h a 47) : ev 197 270 L (.ref a :: st) h = ev 197 273 L (.ref (gR h a 47) :: st) h := G_getR (p := 1060) f197_270 lkF_12_92 (by decide) (by decide) ho hr
theorem f197_273 : fetch 197 273 = some (.iload 8, 2) := vtab tk197 155 rfl
theorem e197_273 (l0 l1 l2 l3 l4 l5 l6 l7 : Option Value) (L : VL) (st : List Value) (h : VG) (x : Int32) : ev 197 273 (l0 :: l1 :: l2 :: l3 :: l4 :: l5 :: l6 :: l7 :: some (.int x) :: L) (st) h = ev 197 275 (l0 :: l1 :: l2 :: l3 :: l4 :: l5 :: l6 :: l7 :: some (.int x) :: L) (.int x :: st) h := G_iload f197_273 rfl
theorem f197_275 : fetch 197 275 = some (.iaload, 1) := vtab tk197 156 rfl
theorem e197_275 (L : VL) (st : List Value) (h : VG) (a : Nat) (i : Int32) (ha : rdI h a) (hi : vp_in i (aln h a)) : ev 197 275 L (.int i :: .ref a :: st) h = ev 197 276 L (.int (aI h a i.toNatClampNeg) :: st) h := G_iald' f197_275 ha hi
theorem f197_276 : fetch 197 276 = some (.bipush (-2), 2) := vtab tk197 157 rfl
theorem e197_276 (L : VL) (st : List Value) (h : VG) : ev 197 276 L (st) h = ev 197 278 L (.int (-2 : Int32) :: st) h := G_bipush f197_276 (by decide)
theorem f197_278 : fetch 197 278 = some (.if_icmp .eq 5, 3) := vtab tk197 158 rfl
theorem e197_278 (L : VL) (st : List Value) (h : VG) (x y : Int32) : ev 197 278 L (.int y :: .int x :: st) h = if x = y then ev 197 283 L st h else ev 197 281 L st h := G_icmp_eq f197_278 (by decide)
theorem f197_281 : fetch 197 281 = some (.iconst 2, 1) := vtab tk197 159 rfl
theorem e197_281 (L : VL) (st : List Value) (h : VG) : ev 197 281 L (st) h = ev 197 282 L (.int (2 : Int32) :: st) h := G_iconst f197_281 (by decide)
theorem f197_282 : fetch 197 282 = some (.ireturn, 1) := vtab tk197 160 rfl
theorem e197_282 (L : VL) (h : VG) (x : Int32) : ev 197 282 L [.int x] h = some (some (.int x), h) := G_iret f197_282 (ty := .int) (by decide) rfl
theorem f197_283 : fetch 197 283 = some (.aload_n 0, 1) := vtab tk197 161 rfl
theorem e197_283 (L : VL) (st : List Value) (h : VG) (x : Nat) : ev 197 283 (some (.ref x) :: L) (st) h = ev 197 284 (some (.ref x) :: L) (.ref x :: st) h := G_aload_n f197_283 rfl
theorem f197_284 : fetch 197 284 = some (.getfield 82, 3) := vtab tk197 162 rfl
theorem e197_284 (L : VL) (st : List Value) (h : VG) (a : Nat) (ho : ob h a 11) (hr : isR h a 44) : ev 197 284 L (.ref a :: st) h = ev 197 287 L (.ref (gR h a 44) :: st) h := G_getR (p := 1057) f197_284 lkF_12_82 (by decide) (by decide) ho hr
theorem f197_287 : fetch 197 287 = some (.bipush 40, 2) := vtab tk197 163 rfl
theorem e197_287 (L : VL) (st : List Value) (h : VG) : ev 197 287 L (st) h = ev 197 289 L (.int (40 : Int32) :: st) h := G_bipush f197_287 (by decide)
theorem f197_289 : fetch 197 289 = some (.iload_n 3, 1) := vtab tk197 164 rfl
theorem e197_289 (l0 l1 l2 : Option Value) (L : VL) (st : List Value) (h : VG) (x : Int32) : ev 197 289 (l0 :: l1 :: l2 :: some (.int x) :: L) (st) h = ev 197 290 (l0 :: l1 :: l2 :: some (.int x) :: L) (.int x :: st) h := G_iload_n f197_289 rfl
theorem f197_290 : fetch 197 290 = some (.imul, 1) := vtab tk197 165 rfl
theorem e197_290 (L : VL) (st : List Value) (h : VG) (x y : Int32) : ev 197 290 L (.int y :: .int x :: st) h = ev 197 291 L (.int (x * y) :: st) h := G_imul f197_290
theorem f197_291 : fetch 197 291 = some (.iload 4, 2) := vtab tk197 166 rfl
theorem e197_291 (l0 l1 l2 l3 : Option Value) (L : VL) (st : List Value) (h : VG) (x : Int32) : ev 197 291 (l0 :: l1 :: l2 :: l3 :: some (.int x) :: L) (st) h = ev 197 293 (l0 :: l1 :: l2 :: l3 :: some (.int x) :: L) (.int x :: st) h := G_iload f197_291 rfl
theorem f197_293 : fetch 197 293 = some (.iadd, 1) := vtab tk197 167 rfl
theorem e197_293 (L : VL) (st : List Value) (h : VG) (x y : Int32) : ev 197 293 L (.int y :: .int x :: st) h = ev 197 294 L (.int (x + y) :: st) h := G_iadd f197_293
theorem f197_294 : fetch 197 294 = some (.iload 8, 2) := vtab tk197 168 rfl
theorem e197_294 (l0 l1 l2 l3 l4 l5 l6 l7 : Option Value) (L : VL) (st : List Value) (h : VG) (x : Int32) : ev 197 294 (l0 :: l1 :: l2 :: l3 :: l4 :: l5 :: l6 :: l7 :: some (.int x) :: L) (st) h = ev 197 296 (l0 :: l1 :: l2 :: l3 :: l4 :: l5 :: l6 :: l7 :: some (.int x) :: L) (.int x :: st) h := G_iload f197_294 rfl
theorem f197_296 : fetch 197 296 = some (.iadd, 1) := vtab tk197 169 rfl
theorem e197_296 (L : VL) (st : List Value) (h : VG) (x y : Int32) : ev 197 296 L (.int y :: .int x :: st) h = ev 197 297 L (.int (x + y) :: st) h := G_iadd f197_296
theorem f197_297 : fetch 197 297 = some (.aload_n 0, 1) := vtab tk197 170 rfl
theorem e197_297 (L : VL) (st : List Value) (h : VG) (x : Nat) : ev 197 297 (some (.ref x) :: L) (st) h = ev 197 298 (some (.ref x) :: L) (.ref x :: st) h := G_aload_n f197_297 rfl
theorem f197_298 : fetch 197 298 = some (.getfield 92, 3) := vtab tk197 171 rfl
theorem e197_298 (L : VL) (st : List Value) (h : VG) (a : Nat) (ho : ob h a 11) (hr : isR h a 47) : ev 197 298 L (.ref a :: st) h = ev 197 301 L (.ref (gR h a 47) :: st) h := G_getR (p := 1060) f197_298 lkF_12_92 (by decide) (by decide) ho hr
theorem f197_301 : fetch 197 301 = some (.iload 8, 2) := vtab tk197 172 rfl
theorem e197_301 (l0 l1 l2 l3 l4 l5 l6 l7 : Option Value) (L : VL) (st : List Value) (h : VG) (x : Int32) : ev 197 301 (l0 :: l1 :: l2 :: l3 :: l4 :: l5 :: l6 :: l7 :: some (.int x) :: L) (st) h = ev 197 303 (l0 :: l1 :: l2 :: l3 :: l4 :: l5 :: l6 :: l7 :: some (.int x) :: L) (.int x :: st) h := G_iload f197_301 rfl
theorem f197_303 : fetch 197 303 = some (.iaload, 1) := vtab tk197 173 rfl
theorem e197_303 (L : VL) (st : List Value) (h : VG) (a : Nat) (i : Int32) (ha : rdI h a) (hi : vp_in i (aln h a)) : ev 197 303 L (.int i :: .ref a :: st) h = ev 197 304 L (.int (aI h a i.toNatClampNeg) :: st) h := G_iald' f197_303 ha hi
theorem f197_304 : fetch 197 304 = some (.iastore, 1) := vtab tk197 174 rfl
theorem e197_304 (L : VL) (st : List Value) (h : VG) (a : Nat) (i : Int32) (x : Int32) (ha : arI h a 0) (hi : vp_in i (aln h a)) : ev 197 304 L (.int x :: .int i :: .ref a :: st) h = ev 197 305 L (st) (wI h a i.toNatClampNeg x) := G_iast f197_304 ha hi
theorem f197_305 : fetch 197 305 = some (.aload_n 0, 1) := vtab tk197 175 rfl
theorem e197_305 (L : VL) (st : List Value) (h : VG) (x : Nat) : ev 197 305 (some (.ref x) :: L) (st) h = ev 197 306 (some (.ref x) :: L) (.ref x :: st) h := G_aload_n f197_305 rfl
theorem f197_306 : fetch 197 306 = some (.getfield 85, 3) := vtab tk197 176 rfl
theorem e197_306 (L : VL) (st : List Value) (h : VG) (a : Nat) (ho : ob h a 11) (hr : isR h a 45) : ev 197 306 L (.ref a :: st) h = ev 197 309 L (.ref (gR h a 45) :: st) h := G_getR (p := 1058) f197_306 lkF_12_85 (by decide) (by decide) ho hr
theorem f197_309 : fetch 197 309 = some (.bipush 40, 2) := vtab tk197 177 rfl
theorem e197_309 (L : VL) (st : List Value) (h : VG) : ev 197 309 L (st) h = ev 197 311 L (.int (40 : Int32) :: st) h := G_bipush f197_309 (by decide)
theorem f197_311 : fetch 197 311 = some (.iload_n 3, 1) := vtab tk197 178 rfl
theorem e197_311 (l0 l1 l2 : Option Value) (L : VL) (st : List Value) (h : VG) (x : Int32) : ev 197 311 (l0 :: l1 :: l2 :: some (.int x) :: L) (st) h = ev 197 312 (l0 :: l1 :: l2 :: some (.int x) :: L) (.int x :: st) h := G_iload_n f197_311 rfl
theorem f197_312 : fetch 197 312 = some (.imul, 1) := vtab tk197 179 rfl
theorem e197_312 (L : VL) (st : List Value) (h : VG) (x y : Int32) : ev 197 312 L (.int y :: .int x :: st) h = ev 197 313 L (.int (x * y) :: st) h := G_imul f197_312
theorem f197_313 : fetch 197 313 = some (.iload 4, 2) := vtab tk197 180 rfl
theorem e197_313 (l0 l1 l2 l3 : Option Value) (L : VL) (st : List Value) (h : VG) (x : Int32) : ev 197 313 (l0 :: l1 :: l2 :: l3 :: some (.int x) :: L) (st) h = ev 197 315 (l0 :: l1 :: l2 :: l3 :: some (.int x) :: L) (.int x :: st) h := G_iload f197_313 rfl
theorem f197_315 : fetch 197 315 = some (.iadd, 1) := vtab tk197 181 rfl
theorem e197_315 (L : VL) (st : List Value) (h : VG) (x y : Int32) : ev 197 315 L (.int y :: .int x :: st) h = ev 197 316 L (.int (x + y) :: st) h := G_iadd f197_315
theorem f197_316 : fetch 197 316 = some (.iload 8, 2) := vtab tk197 182 rfl
theorem e197_316 (l0 l1 l2 l3 l4 l5 l6 l7 : Option Value) (L : VL) (st : List Value) (h : VG) (x : Int32) : ev 197 316 (l0 :: l1 :: l2 :: l3 :: l4 :: l5 :: l6 :: l7 :: some (.int x) :: L) (st) h = ev 197 318 (l0 :: l1 :: l2 :: l3 :: l4 :: l5 :: l6 :: l7 :: some (.int x) :: L) (.int x :: st) h := G_iload f197_316 rfl
theorem f197_318 : fetch 197 318 = some (.iadd, 1) := vtab tk197 183 rfl
theorem e197_318 (L : VL) (st : List Value) (h : VG) (x y : Int32) : ev 197 318 L (.int y :: .int x :: st) h = ev 197 319 L (.int (x + y) :: st) h := G_iadd f197_318
theorem f197_319 : fetch 197 319 = some (.aload_n 0, 1) := vtab tk197 184 rfl
theorem e197_319 (L : VL) (st : List Value) (h : VG) (x : Nat) : ev 197 319 (some (.ref x) :: L) (st) h = ev 197 320 (some (.ref x) :: L) (.ref x :: st) h := G_aload_n f197_319 rfl
theorem f197_320 : fetch 197 320 = some (.getfield 95, 3) := vtab tk197 185 rfl
theorem e197_320 (L : VL) (st : List Value) (h : VG) (a : Nat) (ho : ob h a 11) (hr : isR h a 48) : ev 197 320 L (.ref a :: st) h = ev 197 323 L (.ref (gR h a 48) :: st) h := G_getR (p := 1061) f197_320 lkF_12_95 (by decide) (by decide) ho hr
theorem f197_323 : fetch 197 323 = some (.iload 8, 2) := vtab tk197 186 rfl
theorem e197_323 (l0 l1 l2 l3 l4 l5 l6 l7 : Option Value) (L : VL) (st : List Value) (h : VG) (x : Int32) : ev 197 323 (l0 :: l1 :: l2 :: l3 :: l4 :: l5 :: l6 :: l7 :: some (.int x) :: L) (st) h = ev 197 325 (l0 :: l1 :: l2 :: l3 :: l4 :: l5 :: l6 :: l7 :: some (.int x) :: L) (.int x :: st) h := G_iload f197_323 rfl
theorem f197_325 : fetch 197 325 = some (.laload, 1) := vtab tk197 187 rfl
theorem e197_325 (L : VL) (st : List Value) (h : VG) (a : Nat) (i : Int32) (ha : arL h a) (hi : vp_in i (aln h a)) : ev 197 325 L (.int i :: .ref a :: st) h = ev 197 326 L (.long (aL h a i.toNatClampNeg) :: st) h := G_lald f197_325 ha hi
theorem f197_326 : fetch 197 326 = some (.lastore, 1) := vtab tk197 188 rfl
theorem e197_326 (L : VL) (st : List Value) (h : VG) (a : Nat) (i : Int32) (x : Int64) (ha : arL h a) (hi : vp_in i (aln h a)) : ev 197 326 L (.long x :: .int i :: .ref a :: st) h = ev 197 327 L (st) (wL h a i.toNatClampNeg x) := G_last f197_326 ha hi
theorem f197_327 : fetch 197 327 = some (.aload_n 0, 1) := vtab tk197 189 rfl
theorem e197_327 (L : VL) (st : List Value) (h : VG) (x : Nat) : ev 197 327 (some (.ref x) :: L) (st) h = ev 197 328 (some (.ref x) :: L) (.ref x :: st) h := G_aload_n f197_327 rfl
theorem f197_328 : fetch 197 328 = some (.getfield 88, 3) := vtab tk197 190 rfl
theorem e197_328 (L : VL) (st : List Value) (h : VG) (a : Nat) (ho : ob h a 11) (hr : isR h a 46) : ev 197 328 L (.ref a :: st) h = ev 197 331 L (.ref (gR h a 46) :: st) h := G_getR (p := 1059) f197_328 lkF_12_88 (by decide) (by decide) ho hr
theorem f197_331 : fetch 197 331 = some (.bipush 40, 2) := vtab tk197 191 rfl
theorem e197_331 (L : VL) (st : List Value) (h : VG) : ev 197 331 L (st) h = ev 197 333 L (.int (40 : Int32) :: st) h := G_bipush f197_331 (by decide)
theorem f197_333 : fetch 197 333 = some (.iload_n 3, 1) := vtab tk197 192 rfl
theorem e197_333 (l0 l1 l2 : Option Value) (L : VL) (st : List Value) (h : VG) (x : Int32) : ev 197 333 (l0 :: l1 :: l2 :: some (.int x) :: L) (st) h = ev 197 334 (l0 :: l1 :: l2 :: some (.int x) :: L) (.int x :: st) h := G_iload_n f197_333 rfl
theorem f197_334 : fetch 197 334 = some (.imul, 1) := vtab tk197 193 rfl
theorem e197_334 (L : VL) (st : List Value) (h : VG) (x y : Int32) : ev 197 334 L (.int y :: .int x :: st) h = ev 197 335 L (.int (x * y) :: st) h := G_imul f197_334
theorem f197_335 : fetch 197 335 = some (.iload 4, 2) := vtab tk197 194 rfl
theorem e197_335 (l0 l1 l2 l3 : Option Value) (L : VL) (st : List Value) (h : VG) (x : Int32) : ev 197 335 (l0 :: l1 :: l2 :: l3 :: some (.int x) :: L) (st) h = ev 197 337 (l0 :: l1 :: l2 :: l3 :: some (.int x) :: L) (.int x :: st) h := G_iload f197_335 rfl
theorem f197_337 : fetch 197 337 = some (.iadd, 1) := vtab tk197 195 rfl
theorem e197_337 (L : VL) (st : List Value) (h : VG) (x y : Int32) : ev 197 337 L (.int y :: .int x :: st) h = ev 197 338 L (.int (x + y) :: st) h := G_iadd f197_337
theorem f197_338 : fetch 197 338 = some (.iload 8, 2) := vtab tk197 196 rfl
theorem e197_338 (l0 l1 l2 l3 l4 l5 l6 l7 : Option Value) (L : VL) (st : List Value) (h : VG) (x : Int32) : ev 197 338 (l0 :: l1 :: l2 :: l3 :: l4 :: l5 :: l6 :: l7 :: some (.int x) :: L) (st) h = ev 197 340 (l0 :: l1 :: l2 :: l3 :: l4 :: l5 :: l6 :: l7 :: some (.int x) :: L) (.int x :: st) h := G_iload f197_338 rfl
theorem f197_340 : fetch 197 340 = some (.iadd, 1) := vtab tk197 197 rfl
theorem e197_340 (L : VL) (st : List Value) (h : VG) (x y : Int32) : ev 197 340 L (.int y :: .int x :: st) h = ev 197 341 L (.int (x + y) :: st) h := G_iadd f197_340
theorem f197_341 : fetch 197 341 = some (.aload_n 0, 1) := vtab tk197 198 rfl
theorem e197_341 (L : VL) (st : List Value) (h : VG) (x : Nat) : ev 197 341 (some (.ref x) :: L) (st) h = ev 197 342 (some (.ref x) :: L) (.ref x :: st) h := G_aload_n f197_341 rfl
theorem f197_342 : fetch 197 342 = some (.getfield 98, 3) := vtab tk197 199 rfl
theorem e197_342 (L : VL) (st : List Value) (h : VG) (a : Nat) (ho : ob h a 11) (hr : isR h a 49) : ev 197 342 L (.ref a :: st) h = ev 197 345 L (.ref (gR h a 49) :: st) h := G_getR (p := 1062) f197_342 lkF_12_98 (by decide) (by decide) ho hr
theorem f197_345 : fetch 197 345 = some (.iload 8, 2) := vtab tk197 200 rfl
theorem e197_345 (l0 l1 l2 l3 l4 l5 l6 l7 : Option Value) (L : VL) (st : List Value) (h : VG) (x : Int32) : ev 197 345 (l0 :: l1 :: l2 :: l3 :: l4 :: l5 :: l6 :: l7 :: some (.int x) :: L) (st) h = ev 197 347 (l0 :: l1 :: l2 :: l3 :: l4 :: l5 :: l6 :: l7 :: some (.int x) :: L) (.int x :: st) h := G_iload f197_345 rfl
theorem f197_347 : fetch 197 347 = some (.daload, 1) := vtab tk197 201 rfl
theorem e197_347 (L : VL) (st : List Value) (h : VG) (a : Nat) (i : Int32) (ha : arD h a) (hi : vp_in i (aln h a)) : ev 197 347 L (.int i :: .ref a :: st) h = ev 197 348 L (.double (aD h a i.toNatClampNeg) :: st) h := G_dald f197_347 ha hi
theorem f197_348 : fetch 197 348 = some (.dastore, 1) := vtab tk197 202 rfl
theorem e197_348 (L : VL) (st : List Value) (h : VG) (a : Nat) (i : Int32) (x : UInt64) (ha : arD h a) (hi : vp_in i (aln h a)) : ev 197 348 L (.double x :: .int i :: .ref a :: st) h = ev 197 349 L (st) (wD h a i.toNatClampNeg x) := G_dast f197_348 ha hi
theorem f197_349 : fetch 197 349 = some (.iinc 8 1, 3) := vtab tk197 203 rfl
theorem e197_349 (l0 l1 l2 l3 l4 l5 l6 l7 : Option Value) (L : VL) (st : List Value) (h : VG) (x : Int32) : ev 197 349 (l0 :: l1 :: l2 :: l3 :: l4 :: l5 :: l6 :: l7 :: some (.int x) :: L) (st) h = ev 197 352 (l0 :: l1 :: l2 :: l3 :: l4 :: l5 :: l6 :: vkk l7 :: some (.int (x + (1 : Int32))) :: L) (st) h := G_iinc f197_349 rfl (by decide) (S1_8 l0 l1 l2 l3 l4 l5 l6 l7 (some (.int x)) L _)
theorem f197_352 : fetch 197 352 = some (.goto (-107), 3) := vtab tk197 204 rfl
theorem e197_352 (L : VL) (st : List Value) (h : VG) : ev 197 352 L (st) h = ev 197 245 L (st) h := G_goto f197_352 (by decide)
theorem f197_355 : fetch 197 355 = some (.iconst 0, 1) := vtab tk197 205 rfl
theorem e197_355 (L : VL) (st : List Value) (h : VG) : ev 197 355 L (st) h = ev 197 356 L (.int (0 : Int32) :: st) h := G_iconst f197_355 (by decide)
theorem f197_356 : fetch 197 356 = some (.ireturn, 1) := vtab tk197 206 rfl
theorem e197_356 (L : VL) (h : VG) (x : Int32) : ev 197 356 L [.int x] h = some (some (.int x), h) := G_iret f197_356 (ty := .int) (by decide) rfl
/-! 198 GuestCallsModel.paste(IIIII)Z -/
def tb198 : List (Nat × Instr × Nat) := [(0, .aload_n 0, 1), (1, .iconst 0, 1), (2, .putfield 244, 3), (5, .iload_n 1, 1), (6, .invokestatic 325, 3), (9, .ifCond .eq 32, 3), (12, .iload_n 3, 1), (13, .invokestatic 325, 3), (16, .ifCond .eq 25, 3), (19, .aload_n 0, 1), (20, .aload_n 0, 1), (21, .iload_n 1, 1), (22, .iload_n 2, 1), (23, .iload_n 3, 1), (24, .iload 4, 2), (26, .iload 5, 2), (28, .invokevirtual 375, 3), (31, .invokevirtual 347, 3), (34, .ifCond .eq 7, 3), (37, .iconst 1, 1), (38, .goto 4, 3), (41, .iconst 0, 1), (42, .ireturn, 1)]
theorem tk198 : tb198.all (fun q => decide (fetch 198 q.1 = some q.2)) = true := by decide +kernel
theorem f198_0 : fetch 198 0 = some (.aload_n 0, 1) := vtab tk198 0 rfl
theorem e198_0 (L : VL) (st : List Value) (h : VG) (x : Nat) : ev 198 0 (some (.ref x) :: L) (st) h = ev 198 1 (some (.ref x) :: L) (.ref x :: st) h := G_aload_n f198_0 rfl
theorem f198_1 : fetch 198 1 = some (.iconst 0, 1) := vtab tk198 1 rfl
theorem e198_1 (L : VL) (st : List Value) (h : VG) : ev 198 1 L (st) h = ev 198 2 L (.int (0 : Int32) :: st) h := G_iconst f198_1 (by decide)
theorem f198_2 : fetch 198 2 = some (.putfield 244, 3) := vtab tk198 2 rfl
theorem e198_2 (L : VL) (st : List Value) (h : VG) (a : Nat) (x : Int32) (ho : ob h a 11) : ev 198 2 L (.int x :: .ref a :: st) h = ev 198 5 L (st) (pI h a 31 x) := G_putI (p := 1044) f198_2 lkF_12_244 (by decide) (by decide) (by decide +kernel) ⟨rfl, rfl⟩ ho
theorem f198_5 : fetch 198 5 = some (.iload_n 1, 1) := vtab tk198 3 rfl
theorem e198_5 (l0 : Option Value) (L : VL) (st : List Value) (h : VG) (x : Int32) : ev 198 5 (l0 :: some (.int x) :: L) (st) h = ev 198 6 (l0 :: some (.int x) :: L) (.int x :: st) h := G_iload_n f198_5 rfl
theorem f198_6 : fetch 198 6 = some (.invokestatic 325, 3) := vtab tk198 4 rfl
theorem e198_6 (L : VL) (st : List Value) (h : VG) (x0 : Int32) (hs : catS st ≤ 8) : ev 198 6 L (.int x0 :: st) h = (ev 181 0 [some (.int x0)] [] h).bind fun q => ev 198 9 L (q.1.toList ++ st) q.2 := G_calls (k := 0) (p := 1359) (ars := [.int x0]) f198_6 lkC_12_325 (by decide) (by decide +kernel) rfl (Nat.le_of_ble_eq_true rfl) hs rfl
theorem f198_9 : fetch 198 9 = some (.ifCond .eq 32, 3) := vtab tk198 5 rfl
theorem e198_9 (L : VL) (st : List Value) (h : VG) (x : Int32) : ev 198 9 L (.int x :: st) h = if x = 0 then ev 198 41 L st h else ev 198 12 L st h := G_if_eq f198_9 (by decide)
theorem f198_12 : fetch 198 12 = some (.iload_n 3, 1) := vtab tk198 6 rfl
theorem e198_12 (l0 l1 l2 : Option Value) (L : VL) (st : List Value) (h : VG) (x : Int32) : ev 198 12 (l0 :: l1 :: l2 :: some (.int x) :: L) (st) h = ev 198 13 (l0 :: l1 :: l2 :: some (.int x) :: L) (.int x :: st) h := G_iload_n f198_12 rfl
theorem f198_13 : fetch 198 13 = some (.invokestatic 325, 3) := vtab tk198 7 rfl
theorem e198_13 (L : VL) (st : List Value) (h : VG) (x0 : Int32) (hs : catS st ≤ 8) : ev 198 13 L (.int x0 :: st) h = (ev 181 0 [some (.int x0)] [] h).bind fun q => ev 198 16 L (q.1.toList ++ st) q.2 := G_calls (k := 0) (p := 1359) (ars := [.int x0]) f198_13 lkC_12_325 (by decide) (by decide +kernel) rfl (Nat.le_of_ble_eq_true rfl) hs rfl
theorem f198_16 : fetch 198 16 = some (.ifCond .eq 25, 3) := vtab tk198 8 rfl
theorem e198_16 (L : VL) (st : List Value) (h : VG) (x : Int32) : ev 198 16 L (.int x :: st) h = if x = 0 then ev 198 41 L st h else ev 198 19 L st h := G_if_eq f198_16 (by decide)
theorem f198_19 : fetch 198 19 = some (.aload_n 0, 1) := vtab tk198 9 rfl
theorem e198_19 (L : VL) (st : List Value) (h : VG) (x : Nat) : ev 198 19 (some (.ref x) :: L) (st) h = ev 198 20 (some (.ref x) :: L) (.ref x :: st) h := G_aload_n f198_19 rfl
theorem f198_20 : fetch 198 20 = some (.aload_n 0, 1) := vtab tk198 10 rfl
theorem e198_20 (L : VL) (st : List Value) (h : VG) (x : Nat) : ev 198 20 (some (.ref x) :: L) (st) h = ev 198 21 (some (.ref x) :: L) (.ref x :: st) h := G_aload_n f198_20 rfl
theorem f198_21 : fetch 198 21 = some (.iload_n 1, 1) := vtab tk198 11 rfl
theorem e198_21 (l0 : Option Value) (L : VL) (st : List Value) (h : VG) (x : Int32) : ev 198 21 (l0 :: some (.int x) :: L) (st) h = ev 198 22 (l0 :: some (.int x) :: L) (.int x :: st) h := G_iload_n f198_21 rfl
theorem f198_22 : fetch 198 22 = some (.iload_n 2, 1) := vtab tk198 12 rfl
theorem e198_22 (l0 l1 : Option Value) (L : VL) (st : List Value) (h : VG) (x : Int32) : ev 198 22 (l0 :: l1 :: some (.int x) :: L) (st) h = ev 198 23 (l0 :: l1 :: some (.int x) :: L) (.int x :: st) h := G_iload_n f198_22 rfl
theorem f198_23 : fetch 198 23 = some (.iload_n 3, 1) := vtab tk198 13 rfl
theorem e198_23 (l0 l1 l2 : Option Value) (L : VL) (st : List Value) (h : VG) (x : Int32) : ev 198 23 (l0 :: l1 :: l2 :: some (.int x) :: L) (st) h = ev 198 24 (l0 :: l1 :: l2 :: some (.int x) :: L) (.int x :: st) h := G_iload_n f198_23 rfl
theorem f198_24 : fetch 198 24 = some (.iload 4, 2) := vtab tk198 14 rfl
theorem e198_24 (l0 l1 l2 l3 : Option Value) (L : VL) (st : List Value) (h : VG) (x : Int32) : ev 198 24 (l0 :: l1 :: l2 :: l3 :: some (.int x) :: L) (st) h = ev 198 26 (l0 :: l1 :: l2 :: l3 :: some (.int x) :: L) (.int x :: st) h := G_iload f198_24 rfl
theorem f198_26 : fetch 198 26 = some (.iload 5, 2) := vtab tk198 15 rfl
theorem e198_26 (l0 l1 l2 l3 l4 : Option Value) (L : VL) (st : List Value) (h : VG) (x : Int32) : ev 198 26 (l0 :: l1 :: l2 :: l3 :: l4 :: some (.int x) :: L) (st) h = ev 198 28 (l0 :: l1 :: l2 :: l3 :: l4 :: some (.int x) :: L) (.int x :: st) h := G_iload f198_26 rfl
theorem f198_28 : fetch 198 28 = some (.invokevirtual 375, 3) := vtab tk198 16 rfl
theorem e198_28 (L : VL) (st : List Value) (h : VG) (b : Nat) (x0 : Int32) (x1 : Int32) (x2 : Int32) (x3 : Int32) (x4 : Int32) (ho : ob h b 11) (hs : catS st ≤ 8) : ev 198 28 L (.int x4 :: .int x3 :: .int x2 :: .int x1 :: .int x0 :: .ref b :: st) h = (ev 197 0 [some (.ref b), some (.int x0), some (.int x1), some (.int x2), some (.int x3), some (.int x4), none, none, none] [] h).bind fun q => ev 198 31 L (q.1.toList ++ st) q.2 := G_callv (k := 1) (p := 1443) (ars := [.int x0, .int x1, .int x2, .int x3, .int x4]) f198_28 lkC_12_375 (by decide) (by decide +kernel) rfl (vcls_ob (ci := 11) (by decide) ho) (Nat.le_of_ble_eq_true rfl) hs rfl
theorem f198_31 : fetch 198 31 = some (.invokevirtual 347, 3) := vtab tk198 17 rfl
theorem e198_31 (L : VL) (st : List Value) (h : VG) (b : Nat) (x0 : Int32) (ho : ob h b 11) (hs : catS st ≤ 8) : ev 198 31 L (.int x0 :: .ref b :: st) h = (ev 164 0 [some (.ref b), some (.int x0)] [] h).bind fun q => ev 198 34 L (q.1.toList ++ st) q.2 := G_callv (k := 1) (p := 1366) (ars := [.int x0]) f198_31 lkC_12_347 (by decide) (by decide +kernel) rfl (vcls_ob (ci := 11) (by decide) ho) (Nat.le_of_ble_eq_true rfl) hs rfl
theorem f198_34 : fetch 198 34 = some (.ifCond .eq 7, 3) := vtab tk198 18 rfl
theorem e198_34 (L : VL) (st : List Value) (h : VG) (x : Int32) : ev 198 34 L (.int x :: st) h = if x = 0 then ev 198 41 L st h else ev 198 37 L st h := G_if_eq f198_34 (by decide)
theorem f198_37 : fetch 198 37 = some (.iconst 1, 1) := vtab tk198 19 rfl
theorem e198_37 (L : VL) (st : List Value) (h : VG) : ev 198 37 L (st) h = ev 198 38 L (.int (1 : Int32) :: st) h := G_iconst f198_37 (by decide)
theorem f198_38 : fetch 198 38 = some (.goto 4, 3) := vtab tk198 20 rfl
theorem e198_38 (L : VL) (st : List Value) (h : VG) : ev 198 38 L (st) h = ev 198 42 L (st) h := G_goto f198_38 (by decide)
theorem f198_41 : fetch 198 41 = some (.iconst 0, 1) := vtab tk198 21 rfl
theorem e198_41 (L : VL) (st : List Value) (h : VG) : ev 198 41 L (st) h = ev 198 42 L (.int (0 : Int32) :: st) h := G_iconst f198_41 (by decide)
theorem f198_42 : fetch 198 42 = some (.ireturn, 1) := vtab tk198 22 rfl
theorem e198_42 (L : VL) (h : VG) (x : Int32) (hz : x = 0 ∨ x = 1) : ev 198 42 L [.int x] h = some (some (.int x), h) := G_iret f198_42 (ty := .boolean) (by decide) (vbool hz).1
/-! 199 GuestCallsModel.realAt(I)D -/
def tb199 : List (Nat × Instr × Nat) := [(0, .aload_n 0, 1), (1, .getfield 82, 3), (4, .iload_n 1, 1), (5, .iaload, 1), (6, .bipush 6, 2), (8, .if_icmp .eq 14, 3), (11, .aload_n 0, 1), (12, .getfield 82, 3), (15, .iload_n 1, 1), (16, .iaload, 1), (17, .bipush 7, 2), (19, .if_icmp .ne 12, 3), (22, .aload_n 0, 1), (23, .getfield 88, 3), (26, .iload_n 1, 1), (27, .daload, 1), (28, .goto 10, 3), (31, .aload_n 0, 1), (32, .getfield 85, 3), (35, .iload_n 1, 1), (36, .laload, 1), (37, .l2d, 1), (38, .dreturn, 1)]
theorem tk199 : tb199.all (fun q => decide (fetch 199 q.1 = some q.2)) = true := by decide +kernel
theorem f199_0 : fetch 199 0 = some (.aload_n 0, 1) := vtab tk199 0 rfl
theorem e199_0 (L : VL) (st : List Value) (h : VG) (x : Nat) : ev 199 0 (some (.ref x) :: L) (st) h = ev 199 1 (some (.ref x) :: L) (.ref x :: st) h := G_aload_n f199_0 rfl
theorem f199_1 : fetch 199 1 = some (.getfield 82, 3) := vtab tk199 1 rfl
theorem e199_1 (L : VL) (st : List Value) (h : VG) (a : Nat) (ho : ob h a 11) (hr : isR h a 44) : ev 199 1 L (.ref a :: st) h = ev 199 4 L (.ref (gR h a 44) :: st) h := G_getR (p := 1057) f199_1 lkF_12_82 (by decide) (by decide) ho hr
theorem f199_4 : fetch 199 4 = some (.iload_n 1, 1) := vtab tk199 2 rfl
theorem e199_4 (l0 : Option Value) (L : VL) (st : List Value) (h : VG) (x : Int32) : ev 199 4 (l0 :: some (.int x) :: L) (st) h = ev 199 5 (l0 :: some (.int x) :: L) (.int x :: st) h := G_iload_n f199_4 rfl
theorem f199_5 : fetch 199 5 = some (.iaload, 1) := vtab tk199 3 rfl
theorem e199_5 (L : VL) (st : List Value) (h : VG) (a : Nat) (i : Int32) (ha : rdI h a) (hi : vp_in i (aln h a)) : ev 199 5 L (.int i :: .ref a :: st) h = ev 199 6 L (.int (aI h a i.toNatClampNeg) :: st) h := G_iald' f199_5 ha hi
theorem f199_6 : fetch 199 6 = some (.bipush 6, 2) := vtab tk199 4 rfl
theorem e199_6 (L : VL) (st : List Value) (h : VG) : ev 199 6 L (st) h = ev 199 8 L (.int (6 : Int32) :: st) h := G_bipush f199_6 (by decide)
theorem f199_8 : fetch 199 8 = some (.if_icmp .eq 14, 3) := vtab tk199 5 rfl
theorem e199_8 (L : VL) (st : List Value) (h : VG) (x y : Int32) : ev 199 8 L (.int y :: .int x :: st) h = if x = y then ev 199 22 L st h else ev 199 11 L st h := G_icmp_eq f199_8 (by decide)
theorem f199_11 : fetch 199 11 = some (.aload_n 0, 1) := vtab tk199 6 rfl
theorem e199_11 (L : VL) (st : List Value) (h : VG) (x : Nat) : ev 199 11 (some (.ref x) :: L) (st) h = ev 199 12 (some (.ref x) :: L) (.ref x :: st) h := G_aload_n f199_11 rfl
theorem f199_12 : fetch 199 12 = some (.getfield 82, 3) := vtab tk199 7 rfl
theorem e199_12 (L : VL) (st : List Value) (h : VG) (a : Nat) (ho : ob h a 11) (hr : isR h a 44) : ev 199 12 L (.ref a :: st) h = ev 199 15 L (.ref (gR h a 44) :: st) h := G_getR (p := 1057) f199_12 lkF_12_82 (by decide) (by decide) ho hr
theorem f199_15 : fetch 199 15 = some (.iload_n 1, 1) := vtab tk199 8 rfl
theorem e199_15 (l0 : Option Value) (L : VL) (st : List Value) (h : VG) (x : Int32) : ev 199 15 (l0 :: some (.int x) :: L) (st) h = ev 199 16 (l0 :: some (.int x) :: L) (.int x :: st) h := G_iload_n f199_15 rfl
theorem f199_16 : fetch 199 16 = some (.iaload, 1) := vtab tk199 9 rfl
theorem e199_16 (L : VL) (st : List Value) (h : VG) (a : Nat) (i : Int32) (ha : rdI h a) (hi : vp_in i (aln h a)) : ev 199 16 L (.int i :: .ref a :: st) h = ev 199 17 L (.int (aI h a i.toNatClampNeg) :: st) h := G_iald' f199_16 ha hi
theorem f199_17 : fetch 199 17 = some (.bipush 7, 2) := vtab tk199 10 rfl
theorem e199_17 (L : VL) (st : List Value) (h : VG) : ev 199 17 L (st) h = ev 199 19 L (.int (7 : Int32) :: st) h := G_bipush f199_17 (by decide)
theorem f199_19 : fetch 199 19 = some (.if_icmp .ne 12, 3) := vtab tk199 11 rfl
theorem e199_19 (L : VL) (st : List Value) (h : VG) (x y : Int32) : ev 199 19 L (.int y :: .int x :: st) h = if x = y then ev 199 22 L st h else ev 199 31 L st h := G_icmp_ne f199_19 (by decide)
theorem f199_22 : fetch 199 22 = some (.aload_n 0, 1) := vtab tk199 12 rfl
theorem e199_22 (L : VL) (st : List Value) (h : VG) (x : Nat) : ev 199 22 (some (.ref x) :: L) (st) h = ev 199 23 (some (.ref x) :: L) (.ref x :: st) h := G_aload_n f199_22 rfl
theorem f199_23 : fetch 199 23 = some (.getfield 88, 3) := vtab tk199 13 rfl
theorem e199_23 (L : VL) (st : List Value) (h : VG) (a : Nat) (ho : ob h a 11) (hr : isR h a 46) : ev 199 23 L (.ref a :: st) h = ev 199 26 L (.ref (gR h a 46) :: st) h := G_getR (p := 1059) f199_23 lkF_12_88 (by decide) (by decide) ho hr
theorem f199_26 : fetch 199 26 = some (.iload_n 1, 1) := vtab tk199 14 rfl
theorem e199_26 (l0 : Option Value) (L : VL) (st : List Value) (h : VG) (x : Int32) : ev 199 26 (l0 :: some (.int x) :: L) (st) h = ev 199 27 (l0 :: some (.int x) :: L) (.int x :: st) h := G_iload_n f199_26 rfl
theorem f199_27 : fetch 199 27 = some (.daload, 1) := vtab tk199 15 rfl
theorem e199_27 (L : VL) (st : List Value) (h : VG) (a : Nat) (i : Int32) (ha : arD h a) (hi : vp_in i (aln h a)) : ev 199 27 L (.int i :: .ref a :: st) h = ev 199 28 L (.double (aD h a i.toNatClampNeg) :: st) h := G_dald f199_27 ha hi
theorem f199_28 : fetch 199 28 = some (.goto 10, 3) := vtab tk199 16 rfl
theorem e199_28 (L : VL) (st : List Value) (h : VG) : ev 199 28 L (st) h = ev 199 38 L (st) h := G_goto f199_28 (by decide)
theorem f199_31 : fetch 199 31 = some (.aload_n 0, 1) := vtab tk199 17 rfl
theorem e199_31 (L : VL) (st : List Value) (h : VG) (x : Nat) : ev 199 31 (some (.ref x) :: L) (st) h = ev 199 32 (some (.ref x) :: L) (.ref x :: st) h := G_aload_n f199_31 rfl
theorem f199_32 : fetch 199 32 = some (.getfield 85, 3) := vtab tk199 18 rfl
theorem e199_32 (L : VL) (st : List Value) (h : VG) (a : Nat) (ho : ob h a 11) (hr : isR h a 45) : ev 199 32 L (.ref a :: st) h = ev 199 35 L (.ref (gR h a 45) :: st) h := G_getR (p := 1058) f199_32 lkF_12_85 (by decide) (by decide) ho hr
theorem f199_35 : fetch 199 35 = some (.iload_n 1, 1) := vtab tk199 19 rfl
theorem e199_35 (l0 : Option Value) (L : VL) (st : List Value) (h : VG) (x : Int32) : ev 199 35 (l0 :: some (.int x) :: L) (st) h = ev 199 36 (l0 :: some (.int x) :: L) (.int x :: st) h := G_iload_n f199_35 rfl
theorem f199_36 : fetch 199 36 = some (.laload, 1) := vtab tk199 20 rfl
theorem e199_36 (L : VL) (st : List Value) (h : VG) (a : Nat) (i : Int32) (ha : arL h a) (hi : vp_in i (aln h a)) : ev 199 36 L (.int i :: .ref a :: st) h = ev 199 37 L (.long (aL h a i.toNatClampNeg) :: st) h := G_lald f199_36 ha hi
theorem f199_37 : fetch 199 37 = some (.l2d, 1) := vtab tk199 21 rfl
theorem e199_37 (L : VL) (st : List Value) (h : VG) (x : Int64) : ev 199 37 L (.long x :: st) h = ev 199 38 L (.double (FP.l2d x) :: st) h := G_l2d f199_37
theorem f199_38 : fetch 199 38 = some (.dreturn, 1) := vtab tk199 22 rfl
theorem e199_38 (L : VL) (h : VG) (x : UInt64) : ev 199 38 L [.double x] h = some (some (.double x), h) := G_dret f199_38 (by decide)
/-! 200 GuestCallsModel.areAlike(II)Z -/
def tb200 : List (Nat × Instr × Nat) := [(0, .aload_n 0, 1), (1, .getfield 82, 3), (4, .iload_n 1, 1), (5, .iaload, 1), (6, .invokestatic 350, 3), (9, .ifCond .eq 19, 3), (12, .aload_n 0, 1), (13, .getfield 82, 3), (16, .iload_n 2, 1), (17, .iaload, 1), (18, .invokestatic 350, 3), (21, .ifCond .eq 7, 3), (24, .iconst 1, 1), (25, .goto 4, 3), (28, .iconst 0, 1), (29, .istore_n 3, 1), (30, .iload_n 3, 1), (31, .ifCond .ne 51, 3), (34, .aload_n 0, 1), (35, .getfield 82, 3), (38, .iload_n 1, 1), (39, .iaload, 1), (40, .aload_n 0, 1), (41, .getfield 82, 3), (44, .iload_n 2, 1), (45, .iaload, 1), (46, .if_icmp .ne 34, 3), (49, .aload_n 0, 1), (50, .getfield 82, 3), (53, .iload_n 1, 1), (54, .iaload, 1), (55, .bipush 8, 2), (57, .if_icmp .ne 19, 3), (60, .aload_n 0, 1), (61, .getfield 85, 3), (64, .iload_n 1, 1), (65, .laload, 1), (66, .aload_n 0, 1), (67, .getfield 85, 3), (70, .iload_n 2, 1), (71, .laload, 1), (72, .lcmp, 1), (73, .ifCond .ne 7, 3), (76, .iconst 1, 1), (77, .goto 4, 3), (80, .iconst 0, 1), (81, .ireturn, 1), (82, .aload_n 0, 1), (83, .getfield 82, 3), (86, .iload_n 1, 1), (87, .iaload, 1), (88, .ifCond .eq 12, 3), (91, .aload_n 0, 1), (92, .getfield 82, 3), (95, .iload_n 2, 1), (96, .iaload, 1), (97, .ifCond .ne 40, 3), (100, .aload_n 0, 1), (101, .getfield 82, 3), (104, .iload_n 1, 1), (105, .iaload, 1), (106, .aload_n 0, 1), (107, .getfield 82, 3), (110, .iload_n 2, 1), (111, .iaload, 1), (112, .if_icmp .ne 23, 3), (115, .aload_n 0, 1), (116, .getfield 85, 3), (119, .iload_n 1, 1), (120, .laload, 1), (121, .aload_n 0, 1), (122, .getfield 85, 3), (125, .iload_n 2, 1), (126, .laload, 1), (127, .lcmp, 1), (128, .ifCond .ne 7, 3), (131, .iconst 1, 1), (132, .goto 4, 3), (135, .iconst 0, 1), (136, .ireturn, 1), (137, .aload_n 0, 1), (138, .iload_n 1, 1), (139, .invokevirtual 379, 3), (142, .aload_n 0, 1), (143, .iload_n 2, 1), (144, .invokevirtual 379, 3), (147, .dcmp .l, 1), (148, .ifCond .ne 7, 3), (151, .iconst 1, 1), (152, .goto 4, 3), (155, .iconst 0, 1), (156, .ireturn, 1)]
theorem tk200 : tb200.all (fun q => decide (fetch 200 q.1 = some q.2)) = true := by decide +kernel
theorem f200_0 : fetch 200 0 = some (.aload_n 0, 1) := vtab tk200 0 rfl
theorem e200_0 (L : VL) (st : List Value) (h : VG) (x : Nat) : ev 200 0 (some (.ref x) :: L) (st) h = ev 200 1 (some (.ref x) :: L) (.ref x :: st) h := G_aload_n f200_0 rfl
theorem f200_1 : fetch 200 1 = some (.getfield 82, 3) := vtab tk200 1 rfl
theorem e200_1 (L : VL) (st : List Value) (h : VG) (a : Nat) (ho : ob h a 11) (hr : isR h a 44) : ev 200 1 L (.ref a :: st) h = ev 200 4 L (.ref (gR h a 44) :: st) h := G_getR (p := 1057) f200_1 lkF_12_82 (by decide) (by decide) ho hr
theorem f200_4 : fetch 200 4 = some (.iload_n 1, 1) := vtab tk200 2 rfl
theorem e200_4 (l0 : Option Value) (L : VL) (st : List Value) (h : VG) (x : Int32) : ev 200 4 (l0 :: some (.int x) :: L) (st) h = ev 200 5 (l0 :: some (.int x) :: L) (.int x :: st) h := G_iload_n f200_4 rfl
theorem f200_5 : fetch 200 5 = some (.iaload, 1) := vtab tk200 3 rfl
theorem e200_5 (L : VL) (st : List Value) (h : VG) (a : Nat) (i : Int32) (ha : rdI h a) (hi : vp_in i (aln h a)) : ev 200 5 L (.int i :: .ref a :: st) h = ev 200 6 L (.int (aI h a i.toNatClampNeg) :: st) h := G_iald' f200_5 ha hi
theorem f200_6 : fetch 200 6 = some (.invokestatic 350, 3) := vtab tk200 4 rfl
theorem e200_6 (L : VL) (st : List Value) (h : VG) (x0 : Int32) (hs : catS st ≤ 8) : ev 200 6 L (.int x0 :: st) h = (ev 182 0 [some (.int x0)] [] h).bind fun q => ev 200 9 L (q.1.toList ++ st) q.2 := G_calls (k := 0) (p := 1374) (ars := [.int x0]) f200_6 lkC_12_350 (by decide) (by decide +kernel) rfl (Nat.le_of_ble_eq_true rfl) hs rfl
theorem f200_9 : fetch 200 9 = some (.ifCond .eq 19, 3) := vtab tk200 5 rfl
theorem e200_9 (L : VL) (st : List Value) (h : VG) (x : Int32) : ev 200 9 L (.int x :: st) h = if x = 0 then ev 200 28 L st h else ev 200 12 L st h := G_if_eq f200_9 (by decide)
theorem f200_12 : fetch 200 12 = some (.aload_n 0, 1) := vtab tk200 6 rfl
theorem e200_12 (L : VL) (st : List Value) (h : VG) (x : Nat) : ev 200 12 (some (.ref x) :: L) (st) h = ev 200 13 (some (.ref x) :: L) (.ref x :: st) h := G_aload_n f200_12 rfl
theorem f200_13 : fetch 200 13 = some (.getfield 82, 3) := vtab tk200 7 rfl
theorem e200_13 (L : VL) (st : List Value) (h : VG) (a : Nat) (ho : ob h a 11) (hr : isR h a 44) : ev 200 13 L (.ref a :: st) h = ev 200 16 L (.ref (gR h a 44) :: st) h := G_getR (p := 1057) f200_13 lkF_12_82 (by decide) (by decide) ho hr
theorem f200_16 : fetch 200 16 = some (.iload_n 2, 1) := vtab tk200 8 rfl
theorem e200_16 (l0 l1 : Option Value) (L : VL) (st : List Value) (h : VG) (x : Int32) : ev 200 16 (l0 :: l1 :: some (.int x) :: L) (st) h = ev 200 17 (l0 :: l1 :: some (.int x) :: L) (.int x :: st) h := G_iload_n f200_16 rfl
theorem f200_17 : fetch 200 17 = some (.iaload, 1) := vtab tk200 9 rfl
theorem e200_17 (L : VL) (st : List Value) (h : VG) (a : Nat) (i : Int32) (ha : rdI h a) (hi : vp_in i (aln h a)) : ev 200 17 L (.int i :: .ref a :: st) h = ev 200 18 L (.int (aI h a i.toNatClampNeg) :: st) h := G_iald' f200_17 ha hi
theorem f200_18 : fetch 200 18 = some (.invokestatic 350, 3) := vtab tk200 10 rfl
theorem e200_18 (L : VL) (st : List Value) (h : VG) (x0 : Int32) (hs : catS st ≤ 8) : ev 200 18 L (.int x0 :: st) h = (ev 182 0 [some (.int x0)] [] h).bind fun q => ev 200 21 L (q.1.toList ++ st) q.2 := G_calls (k := 0) (p := 1374) (ars := [.int x0]) f200_18 lkC_12_350 (by decide) (by decide +kernel) rfl (Nat.le_of_ble_eq_true rfl) hs rfl
theorem f200_21 : fetch 200 21 = some (.ifCond .eq 7, 3) := vtab tk200 11 rfl
theorem e200_21 (L : VL) (st : List Value) (h : VG) (x : Int32) : ev 200 21 L (.int x :: st) h = if x = 0 then ev 200 28 L st h else ev 200 24 L st h := G_if_eq f200_21 (by decide)
theorem f200_24 : fetch 200 24 = some (.iconst 1, 1) := vtab tk200 12 rfl
theorem e200_24 (L : VL) (st : List Value) (h : VG) : ev 200 24 L (st) h = ev 200 25 L (.int (1 : Int32) :: st) h := G_iconst f200_24 (by decide)
theorem f200_25 : fetch 200 25 = some (.goto 4, 3) := vtab tk200 13 rfl
theorem e200_25 (L : VL) (st : List Value) (h : VG) : ev 200 25 L (st) h = ev 200 29 L (st) h := G_goto f200_25 (by decide)
theorem f200_28 : fetch 200 28 = some (.iconst 0, 1) := vtab tk200 14 rfl
theorem e200_28 (L : VL) (st : List Value) (h : VG) : ev 200 28 L (st) h = ev 200 29 L (.int (0 : Int32) :: st) h := G_iconst f200_28 (by decide)
theorem f200_29 : fetch 200 29 = some (.istore_n 3, 1) := vtab tk200 15 rfl
theorem e200_29 (l0 l1 l2 l3 : Option Value) (L : VL) (st : List Value) (h : VG) (x : Int32) : ev 200 29 (l0 :: l1 :: l2 :: l3 :: L) (.int x :: st) h = ev 200 30 (l0 :: l1 :: vkk l2 :: some (.int x) :: L) (st) h := G_istore_n f200_29 rfl (S1_3 l0 l1 l2 l3 L _)
theorem f200_30 : fetch 200 30 = some (.iload_n 3, 1) := vtab tk200 16 rfl
theorem e200_30 (l0 l1 l2 : Option Value) (L : VL) (st : List Value) (h : VG) (x : Int32) : ev 200 30 (l0 :: l1 :: l2 :: some (.int x) :: L) (st) h = ev 200 31 (l0 :: l1 :: l2 :: some (.int x) :: L) (.int x :: st) h := G_iload_n f200_30 rfl
theorem f200_31 : fetch 200 31 = some (.ifCond .ne 51, 3) := vtab tk200 17 rfl
theorem e200_31 (L : VL) (st : List Value) (h : VG) (x : Int32) : ev 200 31 L (.int x :: st) h = if x = 0 then ev 200 34 L st h else ev 200 82 L st h := G_if_ne f200_31 (by decide)
theorem f200_34 : fetch 200 34 = some (.aload_n 0, 1) := vtab tk200 18 rfl
theorem e200_34 (L : VL) (st : List Value) (h : VG) (x : Nat) : ev 200 34 (some (.ref x) :: L) (st) h = ev 200 35 (some (.ref x) :: L) (.ref x :: st) h := G_aload_n f200_34 rfl
theorem f200_35 : fetch 200 35 = some (.getfield 82, 3) := vtab tk200 19 rfl
theorem e200_35 (L : VL) (st : List Value) (h : VG) (a : Nat) (ho : ob h a 11) (hr : isR h a 44) : ev 200 35 L (.ref a :: st) h = ev 200 38 L (.ref (gR h a 44) :: st) h := G_getR (p := 1057) f200_35 lkF_12_82 (by decide) (by decide) ho hr
theorem f200_38 : fetch 200 38 = some (.iload_n 1, 1) := vtab tk200 20 rfl
theorem e200_38 (l0 : Option Value) (L : VL) (st : List Value) (h : VG) (x : Int32) : ev 200 38 (l0 :: some (.int x) :: L) (st) h = ev 200 39 (l0 :: some (.int x) :: L) (.int x :: st) h := G_iload_n f200_38 rfl
theorem f200_39 : fetch 200 39 = some (.iaload, 1) := vtab tk200 21 rfl
theorem e200_39 (L : VL) (st : List Value) (h : VG) (a : Nat) (i : Int32) (ha : rdI h a) (hi : vp_in i (aln h a)) : ev 200 39 L (.int i :: .ref a :: st) h = ev 200 40 L (.int (aI h a i.toNatClampNeg) :: st) h := G_iald' f200_39 ha hi
theorem f200_40 : fetch 200 40 = some (.aload_n 0, 1) := vtab tk200 22 rfl
theorem e200_40 (L : VL) (st : List Value) (h : VG) (x : Nat) : ev 200 40 (some (.ref x) :: L) (st) h = ev 200 41 (some (.ref x) :: L) (.ref x :: st) h := G_aload_n f200_40 rfl
theorem f200_41 : fetch 200 41 = some (.getfield 82, 3) := vtab tk200 23 rfl
theorem e200_41 (L : VL) (st : List Value) (h : VG) (a : Nat) (ho : ob h a 11) (hr : isR h a 44) : ev 200 41 L (.ref a :: st) h = ev 200 44 L (.ref (gR h a 44) :: st) h := G_getR (p := 1057) f200_41 lkF_12_82 (by decide) (by decide) ho hr
theorem f200_44 : fetch 200 44 = some (.iload_n 2, 1) := vtab tk200 24 rfl
theorem e200_44 (l0 l1 : Option Value) (L : VL) (st : List Value) (h : VG) (x : Int32) : ev 200 44 (l0 :: l1 :: some (.int x) :: L) (st) h = ev 200 45 (l0 :: l1 :: some (.int x) :: L) (.int x :: st) h := G_iload_n f200_44 rfl
theorem f200_45 : fetch 200 45 = some (.iaload, 1) := vtab tk200 25 rfl
theorem e200_45 (L : VL) (st : List Value) (h : VG) (a : Nat) (i : Int32) (ha : rdI h a) (hi : vp_in i (aln h a)) : ev 200 45 L (.int i :: .ref a :: st) h = ev 200 46 L (.int (aI h a i.toNatClampNeg) :: st) h := G_iald' f200_45 ha hi
theorem f200_46 : fetch 200 46 = some (.if_icmp .ne 34, 3) := vtab tk200 26 rfl
theorem e200_46 (L : VL) (st : List Value) (h : VG) (x y : Int32) : ev 200 46 L (.int y :: .int x :: st) h = if x = y then ev 200 49 L st h else ev 200 80 L st h := G_icmp_ne f200_46 (by decide)
theorem f200_49 : fetch 200 49 = some (.aload_n 0, 1) := vtab tk200 27 rfl
theorem e200_49 (L : VL) (st : List Value) (h : VG) (x : Nat) : ev 200 49 (some (.ref x) :: L) (st) h = ev 200 50 (some (.ref x) :: L) (.ref x :: st) h := G_aload_n f200_49 rfl
theorem f200_50 : fetch 200 50 = some (.getfield 82, 3) := vtab tk200 28 rfl
theorem e200_50 (L : VL) (st : List Value) (h : VG) (a : Nat) (ho : ob h a 11) (hr : isR h a 44) : ev 200 50 L (.ref a :: st) h = ev 200 53 L (.ref (gR h a 44) :: st) h := G_getR (p := 1057) f200_50 lkF_12_82 (by decide) (by decide) ho hr
theorem f200_53 : fetch 200 53 = some (.iload_n 1, 1) := vtab tk200 29 rfl
theorem e200_53 (l0 : Option Value) (L : VL) (st : List Value) (h : VG) (x : Int32) : ev 200 53 (l0 :: some (.int x) :: L) (st) h = ev 200 54 (l0 :: some (.int x) :: L) (.int x :: st) h := G_iload_n f200_53 rfl
theorem f200_54 : fetch 200 54 = some (.iaload, 1) := vtab tk200 30 rfl
theorem e200_54 (L : VL) (st : List Value) (h : VG) (a : Nat) (i : Int32) (ha : rdI h a) (hi : vp_in i (aln h a)) : ev 200 54 L (.int i :: .ref a :: st) h = ev 200 55 L (.int (aI h a i.toNatClampNeg) :: st) h := G_iald' f200_54 ha hi
theorem f200_55 : fetch 200 55 = some (.bipush 8, 2) := vtab tk200 31 rfl
theorem e200_55 (L : VL) (st : List Value) (h : VG) : ev 200 55 L (st) h = ev 200 57 L (.int (8 : Int32) :: st) h := G_bipush f200_55 (by decide)
theorem f200_57 : fetch 200 57 = some (.if_icmp .ne 19, 3) := vtab tk200 32 rfl
theorem e200_57 (L : VL) (st : List Value) (h : VG) (x y : Int32) : ev 200 57 L (.int y :: .int x :: st) h = if x = y then ev 200 60 L st h else ev 200 76 L st h := G_icmp_ne f200_57 (by decide)
theorem f200_60 : fetch 200 60 = some (.aload_n 0, 1) := vtab tk200 33 rfl
theorem e200_60 (L : VL) (st : List Value) (h : VG) (x : Nat) : ev 200 60 (some (.ref x) :: L) (st) h = ev 200 61 (some (.ref x) :: L) (.ref x :: st) h := G_aload_n f200_60 rfl
theorem f200_61 : fetch 200 61 = some (.getfield 85, 3) := vtab tk200 34 rfl
theorem e200_61 (L : VL) (st : List Value) (h : VG) (a : Nat) (ho : ob h a 11) (hr : isR h a 45) : ev 200 61 L (.ref a :: st) h = ev 200 64 L (.ref (gR h a 45) :: st) h := G_getR (p := 1058) f200_61 lkF_12_85 (by decide) (by decide) ho hr
theorem f200_64 : fetch 200 64 = some (.iload_n 1, 1) := vtab tk200 35 rfl
theorem e200_64 (l0 : Option Value) (L : VL) (st : List Value) (h : VG) (x : Int32) : ev 200 64 (l0 :: some (.int x) :: L) (st) h = ev 200 65 (l0 :: some (.int x) :: L) (.int x :: st) h := G_iload_n f200_64 rfl
theorem f200_65 : fetch 200 65 = some (.laload, 1) := vtab tk200 36 rfl
theorem e200_65 (L : VL) (st : List Value) (h : VG) (a : Nat) (i : Int32) (ha : arL h a) (hi : vp_in i (aln h a)) : ev 200 65 L (.int i :: .ref a :: st) h = ev 200 66 L (.long (aL h a i.toNatClampNeg) :: st) h := G_lald f200_65 ha hi
theorem f200_66 : fetch 200 66 = some (.aload_n 0, 1) := vtab tk200 37 rfl
theorem e200_66 (L : VL) (st : List Value) (h : VG) (x : Nat) : ev 200 66 (some (.ref x) :: L) (st) h = ev 200 67 (some (.ref x) :: L) (.ref x :: st) h := G_aload_n f200_66 rfl
theorem f200_67 : fetch 200 67 = some (.getfield 85, 3) := vtab tk200 38 rfl
theorem e200_67 (L : VL) (st : List Value) (h : VG) (a : Nat) (ho : ob h a 11) (hr : isR h a 45) : ev 200 67 L (.ref a :: st) h = ev 200 70 L (.ref (gR h a 45) :: st) h := G_getR (p := 1058) f200_67 lkF_12_85 (by decide) (by decide) ho hr
theorem f200_70 : fetch 200 70 = some (.iload_n 2, 1) := vtab tk200 39 rfl
theorem e200_70 (l0 l1 : Option Value) (L : VL) (st : List Value) (h : VG) (x : Int32) : ev 200 70 (l0 :: l1 :: some (.int x) :: L) (st) h = ev 200 71 (l0 :: l1 :: some (.int x) :: L) (.int x :: st) h := G_iload_n f200_70 rfl
theorem f200_71 : fetch 200 71 = some (.laload, 1) := vtab tk200 40 rfl
theorem e200_71 (L : VL) (st : List Value) (h : VG) (a : Nat) (i : Int32) (ha : arL h a) (hi : vp_in i (aln h a)) : ev 200 71 L (.int i :: .ref a :: st) h = ev 200 72 L (.long (aL h a i.toNatClampNeg) :: st) h := G_lald f200_71 ha hi
theorem f200_72 : fetch 200 72 = some (.lcmp, 1) := vtab tk200 41 rfl
theorem e200_72 (L : VL) (st : List Value) (h : VG) (x y : Int64) : ev 200 72 L (.long y :: .long x :: st) h = ev 200 73 L (.int (lg_cmp x y) :: st) h := G_lcmp f200_72
theorem f200_73 : fetch 200 73 = some (.ifCond .ne 7, 3) := vtab tk200 42 rfl
theorem e200_73 (L : VL) (st : List Value) (h : VG) (x : Int32) : ev 200 73 L (.int x :: st) h = if x = 0 then ev 200 76 L st h else ev 200 80 L st h := G_if_ne f200_73 (by decide)
theorem f200_76 : fetch 200 76 = some (.iconst 1, 1) := vtab tk200 43 rfl
theorem e200_76 (L : VL) (st : List Value) (h : VG) : ev 200 76 L (st) h = ev 200 77 L (.int (1 : Int32) :: st) h := G_iconst f200_76 (by decide)
theorem f200_77 : fetch 200 77 = some (.goto 4, 3) := vtab tk200 44 rfl
theorem e200_77 (L : VL) (st : List Value) (h : VG) : ev 200 77 L (st) h = ev 200 81 L (st) h := G_goto f200_77 (by decide)
theorem f200_80 : fetch 200 80 = some (.iconst 0, 1) := vtab tk200 45 rfl
theorem e200_80 (L : VL) (st : List Value) (h : VG) : ev 200 80 L (st) h = ev 200 81 L (.int (0 : Int32) :: st) h := G_iconst f200_80 (by decide)
theorem f200_81 : fetch 200 81 = some (.ireturn, 1) := vtab tk200 46 rfl
theorem e200_81 (L : VL) (h : VG) (x : Int32) (hz : x = 0 ∨ x = 1) : ev 200 81 L [.int x] h = some (some (.int x), h) := G_iret f200_81 (ty := .boolean) (by decide) (vbool hz).1
theorem f200_82 : fetch 200 82 = some (.aload_n 0, 1) := vtab tk200 47 rfl
theorem e200_82 (L : VL) (st : List Value) (h : VG) (x : Nat) : ev 200 82 (some (.ref x) :: L) (st) h = ev 200 83 (some (.ref x) :: L) (.ref x :: st) h := G_aload_n f200_82 rfl
theorem f200_83 : fetch 200 83 = some (.getfield 82, 3) := vtab tk200 48 rfl
theorem e200_83 (L : VL) (st : List Value) (h : VG) (a : Nat) (ho : ob h a 11) (hr : isR h a 44) : ev 200 83 L (.ref a :: st) h = ev 200 86 L (.ref (gR h a 44) :: st) h := G_getR (p := 1057) f200_83 lkF_12_82 (by decide) (by decide) ho hr
theorem f200_86 : fetch 200 86 = some (.iload_n 1, 1) := vtab tk200 49 rfl
theorem e200_86 (l0 : Option Value) (L : VL) (st : List Value) (h : VG) (x : Int32) : ev 200 86 (l0 :: some (.int x) :: L) (st) h = ev 200 87 (l0 :: some (.int x) :: L) (.int x :: st) h := G_iload_n f200_86 rfl
theorem f200_87 : fetch 200 87 = some (.iaload, 1) := vtab tk200 50 rfl
theorem e200_87 (L : VL) (st : List Value) (h : VG) (a : Nat) (i : Int32) (ha : rdI h a) (hi : vp_in i (aln h a)) : ev 200 87 L (.int i :: .ref a :: st) h = ev 200 88 L (.int (aI h a i.toNatClampNeg) :: st) h := G_iald' f200_87 ha hi
theorem f200_88 : fetch 200 88 = some (.ifCond .eq 12, 3) := vtab tk200 51 rfl
theorem e200_88 (L : VL) (st : List Value) (h : VG) (x : Int32) : ev 200 88 L (.int x :: st) h = if x = 0 then ev 200 100 L st h else ev 200 91 L st h := G_if_eq f200_88 (by decide)
theorem f200_91 : fetch 200 91 = some (.aload_n 0, 1) := vtab tk200 52 rfl
theorem e200_91 (L : VL) (st : List Value) (h : VG) (x : Nat) : ev 200 91 (some (.ref x) :: L) (st) h = ev 200 92 (some (.ref x) :: L) (.ref x :: st) h := G_aload_n f200_91 rfl
theorem f200_92 : fetch 200 92 = some (.getfield 82, 3) := vtab tk200 53 rfl
theorem e200_92 (L : VL) (st : List Value) (h : VG) (a : Nat) (ho : ob h a 11) (hr : isR h a 44) : ev 200 92 L (.ref a :: st) h = ev 200 95 L (.ref (gR h a 44) :: st) h := G_getR (p := 1057) f200_92 lkF_12_82 (by decide) (by decide) ho hr
theorem f200_95 : fetch 200 95 = some (.iload_n 2, 1) := vtab tk200 54 rfl
theorem e200_95 (l0 l1 : Option Value) (L : VL) (st : List Value) (h : VG) (x : Int32) : ev 200 95 (l0 :: l1 :: some (.int x) :: L) (st) h = ev 200 96 (l0 :: l1 :: some (.int x) :: L) (.int x :: st) h := G_iload_n f200_95 rfl
theorem f200_96 : fetch 200 96 = some (.iaload, 1) := vtab tk200 55 rfl
theorem e200_96 (L : VL) (st : List Value) (h : VG) (a : Nat) (i : Int32) (ha : rdI h a) (hi : vp_in i (aln h a)) : ev 200 96 L (.int i :: .ref a :: st) h = ev 200 97 L (.int (aI h a i.toNatClampNeg) :: st) h := G_iald' f200_96 ha hi
theorem f200_97 : fetch 200 97 = some (.ifCond .ne 40, 3) := vtab tk200 56 rfl
theorem e200_97 (L : VL) (st : List Value) (h : VG) (x : Int32) : ev 200 97 L (.int x :: st) h = if x = 0 then ev 200 100 L st h else ev 200 137 L st h := G_if_ne f200_97 (by decide)
theorem f200_100 : fetch 200 100 = some (.aload_n 0, 1) := vtab tk200 57 rfl
theorem e200_100 (L : VL) (st : List Value) (h : VG) (x : Nat) : ev 200 100 (some (.ref x) :: L) (st) h = ev 200 101 (some (.ref x) :: L) (.ref x :: st) h := G_aload_n f200_100 rfl
theorem f200_101 : fetch 200 101 = some (.getfield 82, 3) := vtab tk200 58 rfl
theorem e200_101 (L : VL) (st : List Value) (h : VG) (a : Nat) (ho : ob h a 11) (hr : isR h a 44) : ev 200 101 L (.ref a :: st) h = ev 200 104 L (.ref (gR h a 44) :: st) h := G_getR (p := 1057) f200_101 lkF_12_82 (by decide) (by decide) ho hr
theorem f200_104 : fetch 200 104 = some (.iload_n 1, 1) := vtab tk200 59 rfl
theorem e200_104 (l0 : Option Value) (L : VL) (st : List Value) (h : VG) (x : Int32) : ev 200 104 (l0 :: some (.int x) :: L) (st) h = ev 200 105 (l0 :: some (.int x) :: L) (.int x :: st) h := G_iload_n f200_104 rfl
theorem f200_105 : fetch 200 105 = some (.iaload, 1) := vtab tk200 60 rfl
theorem e200_105 (L : VL) (st : List Value) (h : VG) (a : Nat) (i : Int32) (ha : rdI h a) (hi : vp_in i (aln h a)) : ev 200 105 L (.int i :: .ref a :: st) h = ev 200 106 L (.int (aI h a i.toNatClampNeg) :: st) h := G_iald' f200_105 ha hi
theorem f200_106 : fetch 200 106 = some (.aload_n 0, 1) := vtab tk200 61 rfl
theorem e200_106 (L : VL) (st : List Value) (h : VG) (x : Nat) : ev 200 106 (some (.ref x) :: L) (st) h = ev 200 107 (some (.ref x) :: L) (.ref x :: st) h := G_aload_n f200_106 rfl
theorem f200_107 : fetch 200 107 = some (.getfield 82, 3) := vtab tk200 62 rfl
theorem e200_107 (L : VL) (st : List Value) (h : VG) (a : Nat) (ho : ob h a 11) (hr : isR h a 44) : ev 200 107 L (.ref a :: st) h = ev 200 110 L (.ref (gR h a 44) :: st) h := G_getR (p := 1057) f200_107 lkF_12_82 (by decide) (by decide) ho hr
theorem f200_110 : fetch 200 110 = some (.iload_n 2, 1) := vtab tk200 63 rfl
theorem e200_110 (l0 l1 : Option Value) (L : VL) (st : List Value) (h : VG) (x : Int32) : ev 200 110 (l0 :: l1 :: some (.int x) :: L) (st) h = ev 200 111 (l0 :: l1 :: some (.int x) :: L) (.int x :: st) h := G_iload_n f200_110 rfl
theorem f200_111 : fetch 200 111 = some (.iaload, 1) := vtab tk200 64 rfl
theorem e200_111 (L : VL) (st : List Value) (h : VG) (a : Nat) (i : Int32) (ha : rdI h a) (hi : vp_in i (aln h a)) : ev 200 111 L (.int i :: .ref a :: st) h = ev 200 112 L (.int (aI h a i.toNatClampNeg) :: st) h := G_iald' f200_111 ha hi
theorem f200_112 : fetch 200 112 = some (.if_icmp .ne 23, 3) := vtab tk200 65 rfl
theorem e200_112 (L : VL) (st : List Value) (h : VG) (x y : Int32) : ev 200 112 L (.int y :: .int x :: st) h = if x = y then ev 200 115 L st h else ev 200 135 L st h := G_icmp_ne f200_112 (by decide)
theorem f200_115 : fetch 200 115 = some (.aload_n 0, 1) := vtab tk200 66 rfl
theorem e200_115 (L : VL) (st : List Value) (h : VG) (x : Nat) : ev 200 115 (some (.ref x) :: L) (st) h = ev 200 116 (some (.ref x) :: L) (.ref x :: st) h := G_aload_n f200_115 rfl
theorem f200_116 : fetch 200 116 = some (.getfield 85, 3) := vtab tk200 67 rfl
theorem e200_116 (L : VL) (st : List Value) (h : VG) (a : Nat) (ho : ob h a 11) (hr : isR h a 45) : ev 200 116 L (.ref a :: st) h = ev 200 119 L (.ref (gR h a 45) :: st) h := G_getR (p := 1058) f200_116 lkF_12_85 (by decide) (by decide) ho hr
theorem f200_119 : fetch 200 119 = some (.iload_n 1, 1) := vtab tk200 68 rfl
theorem e200_119 (l0 : Option Value) (L : VL) (st : List Value) (h : VG) (x : Int32) : ev 200 119 (l0 :: some (.int x) :: L) (st) h = ev 200 120 (l0 :: some (.int x) :: L) (.int x :: st) h := G_iload_n f200_119 rfl
theorem f200_120 : fetch 200 120 = some (.laload, 1) := vtab tk200 69 rfl
theorem e200_120 (L : VL) (st : List Value) (h : VG) (a : Nat) (i : Int32) (ha : arL h a) (hi : vp_in i (aln h a)) : ev 200 120 L (.int i :: .ref a :: st) h = ev 200 121 L (.long (aL h a i.toNatClampNeg) :: st) h := G_lald f200_120 ha hi
theorem f200_121 : fetch 200 121 = some (.aload_n 0, 1) := vtab tk200 70 rfl
theorem e200_121 (L : VL) (st : List Value) (h : VG) (x : Nat) : ev 200 121 (some (.ref x) :: L) (st) h = ev 200 122 (some (.ref x) :: L) (.ref x :: st) h := G_aload_n f200_121 rfl
theorem f200_122 : fetch 200 122 = some (.getfield 85, 3) := vtab tk200 71 rfl
theorem e200_122 (L : VL) (st : List Value) (h : VG) (a : Nat) (ho : ob h a 11) (hr : isR h a 45) : ev 200 122 L (.ref a :: st) h = ev 200 125 L (.ref (gR h a 45) :: st) h := G_getR (p := 1058) f200_122 lkF_12_85 (by decide) (by decide) ho hr
theorem f200_125 : fetch 200 125 = some (.iload_n 2, 1) := vtab tk200 72 rfl
theorem e200_125 (l0 l1 : Option Value) (L : VL) (st : List Value) (h : VG) (x : Int32) : ev 200 125 (l0 :: l1 :: some (.int x) :: L) (st) h = ev 200 126 (l0 :: l1 :: some (.int x) :: L) (.int x :: st) h := G_iload_n f200_125 rfl
theorem f200_126 : fetch 200 126 = some (.laload, 1) := vtab tk200 73 rfl
theorem e200_126 (L : VL) (st : List Value) (h : VG) (a : Nat) (i : Int32) (ha : arL h a) (hi : vp_in i (aln h a)) : ev 200 126 L (.int i :: .ref a :: st) h = ev 200 127 L (.long (aL h a i.toNatClampNeg) :: st) h := G_lald f200_126 ha hi
theorem f200_127 : fetch 200 127 = some (.lcmp, 1) := vtab tk200 74 rfl
theorem e200_127 (L : VL) (st : List Value) (h : VG) (x y : Int64) : ev 200 127 L (.long y :: .long x :: st) h = ev 200 128 L (.int (lg_cmp x y) :: st) h := G_lcmp f200_127
theorem f200_128 : fetch 200 128 = some (.ifCond .ne 7, 3) := vtab tk200 75 rfl
theorem e200_128 (L : VL) (st : List Value) (h : VG) (x : Int32) : ev 200 128 L (.int x :: st) h = if x = 0 then ev 200 131 L st h else ev 200 135 L st h := G_if_ne f200_128 (by decide)
theorem f200_131 : fetch 200 131 = some (.iconst 1, 1) := vtab tk200 76 rfl
theorem e200_131 (L : VL) (st : List Value) (h : VG) : ev 200 131 L (st) h = ev 200 132 L (.int (1 : Int32) :: st) h := G_iconst f200_131 (by decide)
theorem f200_132 : fetch 200 132 = some (.goto 4, 3) := vtab tk200 77 rfl
theorem e200_132 (L : VL) (st : List Value) (h : VG) : ev 200 132 L (st) h = ev 200 136 L (st) h := G_goto f200_132 (by decide)
theorem f200_135 : fetch 200 135 = some (.iconst 0, 1) := vtab tk200 78 rfl
theorem e200_135 (L : VL) (st : List Value) (h : VG) : ev 200 135 L (st) h = ev 200 136 L (.int (0 : Int32) :: st) h := G_iconst f200_135 (by decide)
theorem f200_136 : fetch 200 136 = some (.ireturn, 1) := vtab tk200 79 rfl
theorem e200_136 (L : VL) (h : VG) (x : Int32) (hz : x = 0 ∨ x = 1) : ev 200 136 L [.int x] h = some (some (.int x), h) := G_iret f200_136 (ty := .boolean) (by decide) (vbool hz).1
theorem f200_137 : fetch 200 137 = some (.aload_n 0, 1) := vtab tk200 80 rfl
theorem e200_137 (L : VL) (st : List Value) (h : VG) (x : Nat) : ev 200 137 (some (.ref x) :: L) (st) h = ev 200 138 (some (.ref x) :: L) (.ref x :: st) h := G_aload_n f200_137 rfl
theorem f200_138 : fetch 200 138 = some (.iload_n 1, 1) := vtab tk200 81 rfl
theorem e200_138 (l0 : Option Value) (L : VL) (st : List Value) (h : VG) (x : Int32) : ev 200 138 (l0 :: some (.int x) :: L) (st) h = ev 200 139 (l0 :: some (.int x) :: L) (.int x :: st) h := G_iload_n f200_138 rfl
theorem f200_139 : fetch 200 139 = some (.invokevirtual 379, 3) := vtab tk200 82 rfl
theorem e200_139 (L : VL) (st : List Value) (h : VG) (b : Nat) (x0 : Int32) (ho : ob h b 11) (hs : catS st ≤ 8) : ev 200 139 L (.int x0 :: .ref b :: st) h = (ev 199 0 [some (.ref b), some (.int x0)] [] h).bind fun q => ev 200 142 L (q.1.toList ++ st) q.2 := G_callv (k := 1) (p := 1455) (ars := [.int x0]) f200_139 lkC_12_379 (by decide) (by decide +kernel) rfl (vcls_ob (ci := 11) (by decide) ho) (Nat.le_of_ble_eq_true rfl) hs rfl
theorem f200_142 : fetch 200 142 = some (.aload_n 0, 1) := vtab tk200 83 rfl
theorem e200_142 (L : VL) (st : List Value) (h : VG) (x : Nat) : ev 200 142 (some (.ref x) :: L) (st) h = ev 200 143 (some (.ref x) :: L) (.ref x :: st) h := G_aload_n f200_142 rfl
theorem f200_143 : fetch 200 143 = some (.iload_n 2, 1) := vtab tk200 84 rfl
theorem e200_143 (l0 l1 : Option Value) (L : VL) (st : List Value) (h : VG) (x : Int32) : ev 200 143 (l0 :: l1 :: some (.int x) :: L) (st) h = ev 200 144 (l0 :: l1 :: some (.int x) :: L) (.int x :: st) h := G_iload_n f200_143 rfl
theorem f200_144 : fetch 200 144 = some (.invokevirtual 379, 3) := vtab tk200 85 rfl
theorem e200_144 (L : VL) (st : List Value) (h : VG) (b : Nat) (x0 : Int32) (ho : ob h b 11) (hs : catS st ≤ 8) : ev 200 144 L (.int x0 :: .ref b :: st) h = (ev 199 0 [some (.ref b), some (.int x0)] [] h).bind fun q => ev 200 147 L (q.1.toList ++ st) q.2 := G_callv (k := 1) (p := 1455) (ars := [.int x0]) f200_144 lkC_12_379 (by decide) (by decide +kernel) rfl (vcls_ob (ci := 11) (by decide) ho) (Nat.le_of_ble_eq_true rfl) hs rfl
theorem f200_147 : fetch 200 147 = some (.dcmp .l, 1) := vtab tk200 86 rfl
theorem e200_147 (L : VL) (st : List Value) (h : VG) (x y : UInt64) : ev 200 147 L (.double y :: .double x :: st) h = ev 200 148 L (.int (Op.cmpValue (FP.dcmp x y) .l) :: st) h := G_dcmp f200_147
theorem f200_148 : fetch 200 148 = some (.ifCond .ne 7, 3) := vtab tk200 87 rfl
theorem e200_148 (L : VL) (st : List Value) (h : VG) (x : Int32) : ev 200 148 L (.int x :: st) h = if x = 0 then ev 200 151 L st h else ev 200 155 L st h := G_if_ne f200_148 (by decide)
theorem f200_151 : fetch 200 151 = some (.iconst 1, 1) := vtab tk200 88 rfl
theorem e200_151 (L : VL) (st : List Value) (h : VG) : ev 200 151 L (st) h = ev 200 152 L (.int (1 : Int32) :: st) h := G_iconst f200_151 (by decide)
theorem f200_152 : fetch 200 152 = some (.goto 4, 3) := vtab tk200 89 rfl
theorem e200_152 (L : VL) (st : List Value) (h : VG) : ev 200 152 L (st) h = ev 200 156 L (st) h := G_goto f200_152 (by decide)
theorem f200_155 : fetch 200 155 = some (.iconst 0, 1) := vtab tk200 90 rfl
theorem e200_155 (L : VL) (st : List Value) (h : VG) : ev 200 155 L (st) h = ev 200 156 L (.int (0 : Int32) :: st) h := G_iconst f200_155 (by decide)
theorem f200_156 : fetch 200 156 = some (.ireturn, 1) := vtab tk200 91 rfl
theorem e200_156 (L : VL) (h : VG) (x : Int32) (hz : x = 0 ∨ x = 1) : ev 200 156 L [.int x] h = some (some (.int x), h) := G_iret f200_156 (ty := .boolean) (by decide) (vbool hz).1
/-! 201 GuestCallsModel.unlike(II)I -/
def tb201 : List (Nat × Instr × Nat) := [(0, .aload_n 0, 1), (1, .iconst 0, 1), (2, .putfield 244, 3), (5, .iload_n 1, 1), (6, .invokestatic 325, 3), (9, .ifCond .eq 10, 3), (12, .iload_n 2, 1), (13, .invokestatic 325, 3), (16, .ifCond .ne 6, 3), (19, .bipush (-2), 2), (21, .ireturn, 1), (22, .aload_n 0, 1), (23, .getfield 76, 3), (26, .iload_n 1, 1), (27, .iaload, 1), (28, .bipush 11, 2), (30, .if_icmp .ne 7, 3), (33, .iconst 3, 1), (34, .goto 49, 3), (37, .aload_n 0, 1), (38, .getfield 76, 3), (41, .iload_n 1, 1), (42, .iaload, 1), (43, .bipush 10, 2), (45, .if_icmp .ne 7, 3), (48, .iconst 2, 1), (49, .goto 34, 3), (52, .aload_n 0, 1), (53, .getfield 76, 3), (56, .iload_n 2, 1), (57, .iaload, 1), (58, .bipush 11, 2), (60, .if_icmp .ne 7, 3), (63, .iconst 3, 1), (64, .goto 19, 3), (67, .aload_n 0, 1), (68, .getfield 76, 3), (71, .iload_n 2, 1), (72, .iaload, 1), (73, .bipush 10, 2), (75, .if_icmp .ne 7, 3), (78, .iconst 2, 1), (79, .goto 4, 3), (82, .iconst 0, 1), (83, .istore_n 3, 1), (84, .aload_n 0, 1), (85, .iload_n 3, 1), (86, .invokevirtual 347, 3), (89, .ifCond .ne 6, 3), (92, .bipush (-2), 2), (94, .ireturn, 1), (95, .aload_n 0, 1), (96, .getfield 79, 3), (99, .iload_n 1, 1), (100, .iaload, 1), (101, .aload_n 0, 1), (102, .getfield 79, 3), (105, .iload_n 2, 1), (106, .iaload, 1), (107, .invokestatic 274, 3), (110, .istore 4, 2), (112, .iconst 0, 1), (113, .istore 5, 2), (115, .iload 5, 2), (117, .iload 4, 2), (119, .if_icmp .ge 33, 3), (122, .aload_n 0, 1), (123, .bipush 40, 2), (125, .iload_n 1, 1), (126, .imul, 1), (127, .iload 5, 2), (129, .iadd, 1), (130, .bipush 40, 2), (132, .iload_n 2, 1), (133, .imul, 1), (134, .iload 5, 2), (136, .iadd, 1), (137, .invokevirtual 383, 3), (140, .ifCond .ne 6, 3), (143, .iload 5, 2), (145, .ireturn, 1), (146, .iinc 5 1, 3), (149, .goto (-34), 3), (152, .aload_n 0, 1), (153, .getfield 79, 3), (156, .iload_n 1, 1), (157, .iaload, 1), (158, .aload_n 0, 1), (159, .getfield 79, 3), (162, .iload_n 2, 1), (163, .iaload, 1), (164, .if_icmp .ne 7, 3), (167, .iconst (-1), 1), (168, .goto 5, 3), (171, .iload 4, 2), (173, .ireturn, 1)]
theorem tk201 : tb201.all (fun q => decide (fetch 201 q.1 = some q.2)) = true := by decide +kernel
theorem f201_0 : fetch 201 0 = some (.aload_n 0, 1) := vtab tk201 0 rfl
theorem e201_0 (L : VL) (st : List Value) (h : VG) (x : Nat) : ev 201 0 (some (.ref x) :: L) (st) h = ev 201 1 (some (.ref x) :: L) (.ref x :: st) h := G_aload_n f201_0 rfl
theorem f201_1 : fetch 201 1 = some (.iconst 0, 1) := vtab tk201 1 rfl
theorem e201_1 (L : VL) (st : List Value) (h : VG) : ev 201 1 L (st) h = ev 201 2 L (.int (0 : Int32) :: st) h := G_iconst f201_1 (by decide)
theorem f201_2 : fetch 201 2 = some (.putfield 244, 3) := vtab tk201 2 rfl
theorem e201_2 (L : VL) (st : List Value) (h : VG) (a : Nat) (x : Int32) (ho : ob h a 11) : ev 201 2 L (.int x :: .ref a :: st) h = ev 201 5 L (st) (pI h a 31 x) := G_putI (p := 1044) f201_2 lkF_12_244 (by decide) (by decide) (by decide +kernel) ⟨rfl, rfl⟩ ho
theorem f201_5 : fetch 201 5 = some (.iload_n 1, 1) := vtab tk201 3 rfl
theorem e201_5 (l0 : Option Value) (L : VL) (st : List Value) (h : VG) (x : Int32) : ev 201 5 (l0 :: some (.int x) :: L) (st) h = ev 201 6 (l0 :: some (.int x) :: L) (.int x :: st) h := G_iload_n f201_5 rfl
theorem f201_6 : fetch 201 6 = some (.invokestatic 325, 3) := vtab tk201 4 rfl
theorem e201_6 (L : VL) (st : List Value) (h : VG) (x0 : Int32) (hs : catS st ≤ 8) : ev 201 6 L (.int x0 :: st) h = (ev 181 0 [some (.int x0)] [] h).bind fun q => ev 201 9 L (q.1.toList ++ st) q.2 := G_calls (k := 0) (p := 1359) (ars := [.int x0]) f201_6 lkC_12_325 (by decide) (by decide +kernel) rfl (Nat.le_of_ble_eq_true rfl) hs rfl
theorem f201_9 : fetch 201 9 = some (.ifCond .eq 10, 3) := vtab tk201 5 rfl
theorem e201_9 (L : VL) (st : List Value) (h : VG) (x : Int32) : ev 201 9 L (.int x :: st) h = if x = 0 then ev 201 19 L st h else ev 201 12 L st h := G_if_eq f201_9 (by decide)
theorem f201_12 : fetch 201 12 = some (.iload_n 2, 1) := vtab tk201 6 rfl
theorem e201_12 (l0 l1 : Option Value) (L : VL) (st : List Value) (h : VG) (x : Int32) : ev 201 12 (l0 :: l1 :: some (.int x) :: L) (st) h = ev 201 13 (l0 :: l1 :: some (.int x) :: L) (.int x :: st) h := G_iload_n f201_12 rfl
theorem f201_13 : fetch 201 13 = some (.invokestatic 325, 3) := vtab tk201 7 rfl
theorem e201_13 (L : VL) (st : List Value) (h : VG) (x0 : Int32) (hs : catS st ≤ 8) : ev 201 13 L (.int x0 :: st) h = (ev 181 0 [some (.int x0)] [] h).bind fun q => ev 201 16 L (q.1.toList ++ st) q.2 := G_calls (k := 0) (p := 1359) (ars := [.int x0]) f201_13 lkC_12_325 (by decide) (by decide +kernel) rfl (Nat.le_of_ble_eq_true rfl) hs rfl
theorem f201_16 : fetch 201 16 = some (.ifCond .ne 6, 3) := vtab tk201 8 rfl
theorem e201_16 (L : VL) (st : List Value) (h : VG) (x : Int32) : ev 201 16 L (.int x :: st) h = if x = 0 then ev 201 19 L st h else ev 201 22 L st h := G_if_ne f201_16 (by decide)
theorem f201_19 : fetch 201 19 = some (.bipush (-2), 2) := vtab tk201 9 rfl
theorem e201_19 (L : VL) (st : List Value) (h : VG) : ev 201 19 L (st) h = ev 201 21 L (.int (-2 : Int32) :: st) h := G_bipush f201_19 (by decide)
theorem f201_21 : fetch 201 21 = some (.ireturn, 1) := vtab tk201 10 rfl
theorem e201_21 (L : VL) (h : VG) (x : Int32) : ev 201 21 L [.int x] h = some (some (.int x), h) := G_iret f201_21 (ty := .int) (by decide) rfl
theorem f201_22 : fetch 201 22 = some (.aload_n 0, 1) := vtab tk201 11 rfl
theorem e201_22 (L : VL) (st : List Value) (h : VG) (x : Nat) : ev 201 22 (some (.ref x) :: L) (st) h = ev 201 23 (some (.ref x) :: L) (.ref x :: st) h := G_aload_n f201_22 rfl
theorem f201_23 : fetch 201 23 = some (.getfield 76, 3) := vtab tk201 12 rfl
theorem e201_23 (L : VL) (st : List Value) (h : VG) (a : Nat) (ho : ob h a 11) (hr : isR h a 42) : ev 201 23 L (.ref a :: st) h = ev 201 26 L (.ref (gR h a 42) :: st) h := G_getR (p := 1055) f201_23 lkF_12_76 (by decide) (by decide) ho hr
theorem f201_26 : fetch 201 26 = some (.iload_n 1, 1) := vtab tk201 13 rfl
theorem e201_26 (l0 : Option Value) (L : VL) (st : List Value) (h : VG) (x : Int32) : ev 201 26 (l0 :: some (.int x) :: L) (st) h = ev 201 27 (l0 :: some (.int x) :: L) (.int x :: st) h := G_iload_n f201_26 rfl
theorem f201_27 : fetch 201 27 = some (.iaload, 1) := vtab tk201 14 rfl
theorem e201_27 (L : VL) (st : List Value) (h : VG) (a : Nat) (i : Int32) (ha : rdI h a) (hi : vp_in i (aln h a)) : ev 201 27 L (.int i :: .ref a :: st) h = ev 201 28 L (.int (aI h a i.toNatClampNeg) :: st) h := G_iald' f201_27 ha hi
theorem f201_28 : fetch 201 28 = some (.bipush 11, 2) := vtab tk201 15 rfl
theorem e201_28 (L : VL) (st : List Value) (h : VG) : ev 201 28 L (st) h = ev 201 30 L (.int (11 : Int32) :: st) h := G_bipush f201_28 (by decide)
theorem f201_30 : fetch 201 30 = some (.if_icmp .ne 7, 3) := vtab tk201 16 rfl
theorem e201_30 (L : VL) (st : List Value) (h : VG) (x y : Int32) : ev 201 30 L (.int y :: .int x :: st) h = if x = y then ev 201 33 L st h else ev 201 37 L st h := G_icmp_ne f201_30 (by decide)
theorem f201_33 : fetch 201 33 = some (.iconst 3, 1) := vtab tk201 17 rfl
theorem e201_33 (L : VL) (st : List Value) (h : VG) : ev 201 33 L (st) h = ev 201 34 L (.int (3 : Int32) :: st) h := G_iconst f201_33 (by decide)
theorem f201_34 : fetch 201 34 = some (.goto 49, 3) := vtab tk201 18 rfl
theorem e201_34 (L : VL) (st : List Value) (h : VG) : ev 201 34 L (st) h = ev 201 83 L (st) h := G_goto f201_34 (by decide)
theorem f201_37 : fetch 201 37 = some (.aload_n 0, 1) := vtab tk201 19 rfl
theorem e201_37 (L : VL) (st : List Value) (h : VG) (x : Nat) : ev 201 37 (some (.ref x) :: L) (st) h = ev 201 38 (some (.ref x) :: L) (.ref x :: st) h := G_aload_n f201_37 rfl
theorem f201_38 : fetch 201 38 = some (.getfield 76, 3) := vtab tk201 20 rfl
theorem e201_38 (L : VL) (st : List Value) (h : VG) (a : Nat) (ho : ob h a 11) (hr : isR h a 42) : ev 201 38 L (.ref a :: st) h = ev 201 41 L (.ref (gR h a 42) :: st) h := G_getR (p := 1055) f201_38 lkF_12_76 (by decide) (by decide) ho hr
theorem f201_41 : fetch 201 41 = some (.iload_n 1, 1) := vtab tk201 21 rfl
theorem e201_41 (l0 : Option Value) (L : VL) (st : List Value) (h : VG) (x : Int32) : ev 201 41 (l0 :: some (.int x) :: L) (st) h = ev 201 42 (l0 :: some (.int x) :: L) (.int x :: st) h := G_iload_n f201_41 rfl
theorem f201_42 : fetch 201 42 = some (.iaload, 1) := vtab tk201 22 rfl
theorem e201_42 (L : VL) (st : List Value) (h : VG) (a : Nat) (i : Int32) (ha : rdI h a) (hi : vp_in i (aln h a)) : ev 201 42 L (.int i :: .ref a :: st) h = ev 201 43 L (.int (aI h a i.toNatClampNeg) :: st) h := G_iald' f201_42 ha hi
theorem f201_43 : fetch 201 43 = some (.bipush 10, 2) := vtab tk201 23 rfl
theorem e201_43 (L : VL) (st : List Value) (h : VG) : ev 201 43 L (st) h = ev 201 45 L (.int (10 : Int32) :: st) h := G_bipush f201_43 (by decide)
theorem f201_45 : fetch 201 45 = some (.if_icmp .ne 7, 3) := vtab tk201 24 rfl
theorem e201_45 (L : VL) (st : List Value) (h : VG) (x y : Int32) : ev 201 45 L (.int y :: .int x :: st) h = if x = y then ev 201 48 L st h else ev 201 52 L st h := G_icmp_ne f201_45 (by decide)
theorem f201_48 : fetch 201 48 = some (.iconst 2, 1) := vtab tk201 25 rfl
theorem e201_48 (L : VL) (st : List Value) (h : VG) : ev 201 48 L (st) h = ev 201 49 L (.int (2 : Int32) :: st) h := G_iconst f201_48 (by decide)
theorem f201_49 : fetch 201 49 = some (.goto 34, 3) := vtab tk201 26 rfl
theorem e201_49 (L : VL) (st : List Value) (h : VG) : ev 201 49 L (st) h = ev 201 83 L (st) h := G_goto f201_49 (by decide)
theorem f201_52 : fetch 201 52 = some (.aload_n 0, 1) := vtab tk201 27 rfl
theorem e201_52 (L : VL) (st : List Value) (h : VG) (x : Nat) : ev 201 52 (some (.ref x) :: L) (st) h = ev 201 53 (some (.ref x) :: L) (.ref x :: st) h := G_aload_n f201_52 rfl
theorem f201_53 : fetch 201 53 = some (.getfield 76, 3) := vtab tk201 28 rfl
theorem e201_53 (L : VL) (st : List Value) (h : VG) (a : Nat) (ho : ob h a 11) (hr : isR h a 42) : ev 201 53 L (.ref a :: st) h = ev 201 56 L (.ref (gR h a 42) :: st) h := G_getR (p := 1055) f201_53 lkF_12_76 (by decide) (by decide) ho hr
theorem f201_56 : fetch 201 56 = some (.iload_n 2, 1) := vtab tk201 29 rfl
theorem e201_56 (l0 l1 : Option Value) (L : VL) (st : List Value) (h : VG) (x : Int32) : ev 201 56 (l0 :: l1 :: some (.int x) :: L) (st) h = ev 201 57 (l0 :: l1 :: some (.int x) :: L) (.int x :: st) h := G_iload_n f201_56 rfl
theorem f201_57 : fetch 201 57 = some (.iaload, 1) := vtab tk201 30 rfl
theorem e201_57 (L : VL) (st : List Value) (h : VG) (a : Nat) (i : Int32) (ha : rdI h a) (hi : vp_in i (aln h a)) : ev 201 57 L (.int i :: .ref a :: st) h = ev 201 58 L (.int (aI h a i.toNatClampNeg) :: st) h := G_iald' f201_57 ha hi
theorem f201_58 : fetch 201 58 = some (.bipush 11, 2) := vtab tk201 31 rfl
theorem e201_58 (L : VL) (st : List Value) (h : VG) : ev 201 58 L (st) h = ev 201 60 L (.int (11 : Int32) :: st) h := G_bipush f201_58 (by decide)
theorem f201_60 : fetch 201 60 = some (.if_icmp .ne 7, 3) := vtab tk201 32 rfl
theorem e201_60 (L : VL) (st : List Value) (h : VG) (x y : Int32) : ev 201 60 L (.int y :: .int x :: st) h = if x = y then ev 201 63 L st h else ev 201 67 L st h := G_icmp_ne f201_60 (by decide)
theorem f201_63 : fetch 201 63 = some (.iconst 3, 1) := vtab tk201 33 rfl
theorem e201_63 (L : VL) (st : List Value) (h : VG) : ev 201 63 L (st) h = ev 201 64 L (.int (3 : Int32) :: st) h := G_iconst f201_63 (by decide)
theorem f201_64 : fetch 201 64 = some (.goto 19, 3) := vtab tk201 34 rfl
theorem e201_64 (L : VL) (st : List Value) (h : VG) : ev 201 64 L (st) h = ev 201 83 L (st) h := G_goto f201_64 (by decide)
theorem f201_67 : fetch 201 67 = some (.aload_n 0, 1) := vtab tk201 35 rfl
theorem e201_67 (L : VL) (st : List Value) (h : VG) (x : Nat) : ev 201 67 (some (.ref x) :: L) (st) h = ev 201 68 (some (.ref x) :: L) (.ref x :: st) h := G_aload_n f201_67 rfl
theorem f201_68 : fetch 201 68 = some (.getfield 76, 3) := vtab tk201 36 rfl
theorem e201_68 (L : VL) (st : List Value) (h : VG) (a : Nat) (ho : ob h a 11) (hr : isR h a 42) : ev 201 68 L (.ref a :: st) h = ev 201 71 L (.ref (gR h a 42) :: st) h := G_getR (p := 1055) f201_68 lkF_12_76 (by decide) (by decide) ho hr
theorem f201_71 : fetch 201 71 = some (.iload_n 2, 1) := vtab tk201 37 rfl
theorem e201_71 (l0 l1 : Option Value) (L : VL) (st : List Value) (h : VG) (x : Int32) : ev 201 71 (l0 :: l1 :: some (.int x) :: L) (st) h = ev 201 72 (l0 :: l1 :: some (.int x) :: L) (.int x :: st) h := G_iload_n f201_71 rfl
theorem f201_72 : fetch 201 72 = some (.iaload, 1) := vtab tk201 38 rfl
theorem e201_72 (L : VL) (st : List Value) (h : VG) (a : Nat) (i : Int32) (ha : rdI h a) (hi : vp_in i (aln h a)) : ev 201 72 L (.int i :: .ref a :: st) h = ev 201 73 L (.int (aI h a i.toNatClampNeg) :: st) h := G_iald' f201_72 ha hi
theorem f201_73 : fetch 201 73 = some (.bipush 10, 2) := vtab tk201 39 rfl
theorem e201_73 (L : VL) (st : List Value) (h : VG) : ev 201 73 L (st) h = ev 201 75 L (.int (10 : Int32) :: st) h := G_bipush f201_73 (by decide)
theorem f201_75 : fetch 201 75 = some (.if_icmp .ne 7, 3) := vtab tk201 40 rfl
theorem e201_75 (L : VL) (st : List Value) (h : VG) (x y : Int32) : ev 201 75 L (.int y :: .int x :: st) h = if x = y then ev 201 78 L st h else ev 201 82 L st h := G_icmp_ne f201_75 (by decide)
theorem f201_78 : fetch 201 78 = some (.iconst 2, 1) := vtab tk201 41 rfl
theorem e201_78 (L : VL) (st : List Value) (h : VG) : ev 201 78 L (st) h = ev 201 79 L (.int (2 : Int32) :: st) h := G_iconst f201_78 (by decide)
theorem f201_79 : fetch 201 79 = some (.goto 4, 3) := vtab tk201 42 rfl
theorem e201_79 (L : VL) (st : List Value) (h : VG) : ev 201 79 L (st) h = ev 201 83 L (st) h := G_goto f201_79 (by decide)
theorem f201_82 : fetch 201 82 = some (.iconst 0, 1) := vtab tk201 43 rfl
theorem e201_82 (L : VL) (st : List Value) (h : VG) : ev 201 82 L (st) h = ev 201 83 L (.int (0 : Int32) :: st) h := G_iconst f201_82 (by decide)
theorem f201_83 : fetch 201 83 = some (.istore_n 3, 1) := vtab tk201 44 rfl
theorem e201_83 (l0 l1 l2 l3 : Option Value) (L : VL) (st : List Value) (h : VG) (x : Int32) : ev 201 83 (l0 :: l1 :: l2 :: l3 :: L) (.int x :: st) h = ev 201 84 (l0 :: l1 :: vkk l2 :: some (.int x) :: L) (st) h := G_istore_n f201_83 rfl (S1_3 l0 l1 l2 l3 L _)
theorem f201_84 : fetch 201 84 = some (.aload_n 0, 1) := vtab tk201 45 rfl
theorem e201_84 (L : VL) (st : List Value) (h : VG) (x : Nat) : ev 201 84 (some (.ref x) :: L) (st) h = ev 201 85 (some (.ref x) :: L) (.ref x :: st) h := G_aload_n f201_84 rfl
theorem f201_85 : fetch 201 85 = some (.iload_n 3, 1) := vtab tk201 46 rfl
theorem e201_85 (l0 l1 l2 : Option Value) (L : VL) (st : List Value) (h : VG) (x : Int32) : ev 201 85 (l0 :: l1 :: l2 :: some (.int x) :: L) (st) h = ev 201 86 (l0 :: l1 :: l2 :: some (.int x) :: L) (.int x :: st) h := G_iload_n f201_85 rfl
theorem f201_86 : fetch 201 86 = some (.invokevirtual 347, 3) := vtab tk201 47 rfl
theorem e201_86 (L : VL) (st : List Value) (h : VG) (b : Nat) (x0 : Int32) (ho : ob h b 11) (hs : catS st ≤ 8) : ev 201 86 L (.int x0 :: .ref b :: st) h = (ev 164 0 [some (.ref b), some (.int x0)] [] h).bind fun q => ev 201 89 L (q.1.toList ++ st) q.2 := G_callv (k := 1) (p := 1366) (ars := [.int x0]) f201_86 lkC_12_347 (by decide) (by decide +kernel) rfl (vcls_ob (ci := 11) (by decide) ho) (Nat.le_of_ble_eq_true rfl) hs rfl
theorem f201_89 : fetch 201 89 = some (.ifCond .ne 6, 3) := vtab tk201 48 rfl
theorem e201_89 (L : VL) (st : List Value) (h : VG) (x : Int32) : ev 201 89 L (.int x :: st) h = if x = 0 then ev 201 92 L st h else ev 201 95 L st h := G_if_ne f201_89 (by decide)
theorem f201_92 : fetch 201 92 = some (.bipush (-2), 2) := vtab tk201 49 rfl
theorem e201_92 (L : VL) (st : List Value) (h : VG) : ev 201 92 L (st) h = ev 201 94 L (.int (-2 : Int32) :: st) h := G_bipush f201_92 (by decide)
theorem f201_94 : fetch 201 94 = some (.ireturn, 1) := vtab tk201 50 rfl
theorem e201_94 (L : VL) (h : VG) (x : Int32) : ev 201 94 L [.int x] h = some (some (.int x), h) := G_iret f201_94 (ty := .int) (by decide) rfl
theorem f201_95 : fetch 201 95 = some (.aload_n 0, 1) := vtab tk201 51 rfl
theorem e201_95 (L : VL) (st : List Value) (h : VG) (x : Nat) : ev 201 95 (some (.ref x) :: L) (st) h = ev 201 96 (some (.ref x) :: L) (.ref x :: st) h := G_aload_n f201_95 rfl
theorem f201_96 : fetch 201 96 = some (.getfield 79, 3) := vtab tk201 52 rfl
theorem e201_96 (L : VL) (st : List Value) (h : VG) (a : Nat) (ho : ob h a 11) (hr : isR h a 43) : ev 201 96 L (.ref a :: st) h = ev 201 99 L (.ref (gR h a 43) :: st) h := G_getR (p := 1056) f201_96 lkF_12_79 (by decide) (by decide) ho hr
theorem f201_99 : fetch 201 99 = some (.iload_n 1, 1) := vtab tk201 53 rfl
theorem e201_99 (l0 : Option Value) (L : VL) (st : List Value) (h : VG) (x : Int32) : ev 201 99 (l0 :: some (.int x) :: L) (st) h = ev 201 100 (l0 :: some (.int x) :: L) (.int x :: st) h := G_iload_n f201_99 rfl
theorem f201_100 : fetch 201 100 = some (.iaload, 1) := vtab tk201 54 rfl
theorem e201_100 (L : VL) (st : List Value) (h : VG) (a : Nat) (i : Int32) (ha : rdI h a) (hi : vp_in i (aln h a)) : ev 201 100 L (.int i :: .ref a :: st) h = ev 201 101 L (.int (aI h a i.toNatClampNeg) :: st) h := G_iald' f201_100 ha hi
theorem f201_101 : fetch 201 101 = some (.aload_n 0, 1) := vtab tk201 55 rfl
theorem e201_101 (L : VL) (st : List Value) (h : VG) (x : Nat) : ev 201 101 (some (.ref x) :: L) (st) h = ev 201 102 (some (.ref x) :: L) (.ref x :: st) h := G_aload_n f201_101 rfl
theorem f201_102 : fetch 201 102 = some (.getfield 79, 3) := vtab tk201 56 rfl
theorem e201_102 (L : VL) (st : List Value) (h : VG) (a : Nat) (ho : ob h a 11) (hr : isR h a 43) : ev 201 102 L (.ref a :: st) h = ev 201 105 L (.ref (gR h a 43) :: st) h := G_getR (p := 1056) f201_102 lkF_12_79 (by decide) (by decide) ho hr
theorem f201_105 : fetch 201 105 = some (.iload_n 2, 1) := vtab tk201 57 rfl
theorem e201_105 (l0 l1 : Option Value) (L : VL) (st : List Value) (h : VG) (x : Int32) : ev 201 105 (l0 :: l1 :: some (.int x) :: L) (st) h = ev 201 106 (l0 :: l1 :: some (.int x) :: L) (.int x :: st) h := G_iload_n f201_105 rfl
theorem f201_106 : fetch 201 106 = some (.iaload, 1) := vtab tk201 58 rfl
theorem e201_106 (L : VL) (st : List Value) (h : VG) (a : Nat) (i : Int32) (ha : rdI h a) (hi : vp_in i (aln h a)) : ev 201 106 L (.int i :: .ref a :: st) h = ev 201 107 L (.int (aI h a i.toNatClampNeg) :: st) h := G_iald' f201_106 ha hi
theorem f201_107 : fetch 201 107 = some (.invokestatic 274, 3) := vtab tk201 59 rfl
theorem e201_107 (L : VL) (st : List Value) (h : VG) (x0 : Int32) (x1 : Int32) (hs : catS st ≤ 8) : ev 201 107 L (.int x1 :: .int x0 :: st) h = (ev 163 0 [some (.int x0), some (.int x1)] [] h).bind fun q => ev 201 110 L (q.1.toList ++ st) q.2 := G_calls (k := 0) (p := 1329) (ars := [.int x0, .int x1]) f201_107 lkC_12_274 (by decide) (by decide +kernel) rfl (Nat.le_of_ble_eq_true rfl) hs rfl
theorem f201_110 : fetch 201 110 = some (.istore 4, 2) := vtab tk201 60 rfl
theorem e201_110 (l0 l1 l2 l3 l4 : Option Value) (L : VL) (st : List Value) (h : VG) (x : Int32) : ev 201 110 (l0 :: l1 :: l2 :: l3 :: l4 :: L) (.int x :: st) h = ev 201 112 (l0 :: l1 :: l2 :: vkk l3 :: some (.int x) :: L) (st) h := G_istore f201_110 rfl (S1_4 l0 l1 l2 l3 l4 L _)
theorem f201_112 : fetch 201 112 = some (.iconst 0, 1) := vtab tk201 61 rfl
theorem e201_112 (L : VL) (st : List Value) (h : VG) : ev 201 112 L (st) h = ev 201 113 L (.int (0 : Int32) :: st) h := G_iconst f201_112 (by decide)
theorem f201_113 : fetch 201 113 = some (.istore 5, 2) := vtab tk201 62 rfl
theorem e201_113 (l0 l1 l2 l3 l4 l5 : Option Value) (L : VL) (st : List Value) (h : VG) (x : Int32) : ev 201 113 (l0 :: l1 :: l2 :: l3 :: l4 :: l5 :: L) (.int x :: st) h = ev 201 115 (l0 :: l1 :: l2 :: l3 :: vkk l4 :: some (.int x) :: L) (st) h := G_istore f201_113 rfl (S1_5 l0 l1 l2 l3 l4 l5 L _)
theorem f201_115 : fetch 201 115 = some (.iload 5, 2) := vtab tk201 63 rfl
theorem e201_115 (l0 l1 l2 l3 l4 : Option Value) (L : VL) (st : List Value) (h : VG) (x : Int32) : ev 201 115 (l0 :: l1 :: l2 :: l3 :: l4 :: some (.int x) :: L) (st) h = ev 201 117 (l0 :: l1 :: l2 :: l3 :: l4 :: some (.int x) :: L) (.int x :: st) h := G_iload f201_115 rfl
theorem f201_117 : fetch 201 117 = some (.iload 4, 2) := vtab tk201 64 rfl
theorem e201_117 (l0 l1 l2 l3 : Option Value) (L : VL) (st : List Value) (h : VG) (x : Int32) : ev 201 117 (l0 :: l1 :: l2 :: l3 :: some (.int x) :: L) (st) h = ev 201 119 (l0 :: l1 :: l2 :: l3 :: some (.int x) :: L) (.int x :: st) h := G_iload f201_117 rfl
theorem f201_119 : fetch 201 119 = some (.if_icmp .ge 33, 3) := vtab tk201 65 rfl
theorem e201_119 (L : VL) (st : List Value) (h : VG) (x y : Int32) : ev 201 119 L (.int y :: .int x :: st) h = if x < y then ev 201 122 L st h else ev 201 152 L st h := G_icmp_ge f201_119 (by decide)
theorem f201_122 : fetch 201 122 = some (.aload_n 0, 1) := vtab tk201 66 rfl
theorem e201_122 (L : VL) (st : List Value) (h : VG) (x : Nat) : ev 201 122 (some (.ref x) :: L) (st) h = ev 201 123 (some (.ref x) :: L) (.ref x :: st) h := G_aload_n f201_122 rfl
theorem f201_123 : fetch 201 123 = some (.bipush 40, 2) := vtab tk201 67 rfl
theorem e201_123 (L : VL) (st : List Value) (h : VG) : ev 201 123 L (st) h = ev 201 125 L (.int (40 : Int32) :: st) h := G_bipush f201_123 (by decide)
theorem f201_125 : fetch 201 125 = some (.iload_n 1, 1) := vtab tk201 68 rfl
theorem e201_125 (l0 : Option Value) (L : VL) (st : List Value) (h : VG) (x : Int32) : ev 201 125 (l0 :: some (.int x) :: L) (st) h = ev 201 126 (l0 :: some (.int x) :: L) (.int x :: st) h := G_iload_n f201_125 rfl
theorem f201_126 : fetch 201 126 = some (.imul, 1) := vtab tk201 69 rfl
theorem e201_126 (L : VL) (st : List Value) (h : VG) (x y : Int32) : ev 201 126 L (.int y :: .int x :: st) h = ev 201 127 L (.int (x * y) :: st) h := G_imul f201_126
theorem f201_127 : fetch 201 127 = some (.iload 5, 2) := vtab tk201 70 rfl
theorem e201_127 (l0 l1 l2 l3 l4 : Option Value) (L : VL) (st : List Value) (h : VG) (x : Int32) : ev 201 127 (l0 :: l1 :: l2 :: l3 :: l4 :: some (.int x) :: L) (st) h = ev 201 129 (l0 :: l1 :: l2 :: l3 :: l4 :: some (.int x) :: L) (.int x :: st) h := G_iload f201_127 rfl
theorem f201_129 : fetch 201 129 = some (.iadd, 1) := vtab tk201 71 rfl
theorem e201_129 (L : VL) (st : List Value) (h : VG) (x y : Int32) : ev 201 129 L (.int y :: .int x :: st) h = ev 201 130 L (.int (x + y) :: st) h := G_iadd f201_129
theorem f201_130 : fetch 201 130 = some (.bipush 40, 2) := vtab tk201 72 rfl
theorem e201_130 (L : VL) (st : List Value) (h : VG) : ev 201 130 L (st) h = ev 201 132 L (.int (40 : Int32) :: st) h := G_bipush f201_130 (by decide)
theorem f201_132 : fetch 201 132 = some (.iload_n 2, 1) := vtab tk201 73 rfl
theorem e201_132 (l0 l1 : Option Value) (L : VL) (st : List Value) (h : VG) (x : Int32) : ev 201 132 (l0 :: l1 :: some (.int x) :: L) (st) h = ev 201 133 (l0 :: l1 :: some (.int x) :: L) (.int x :: st) h := G_iload_n f201_132 rfl
theorem f201_133 : fetch 201 133 = some (.imul, 1) := vtab tk201 74 rfl
theorem e201_133 (L : VL) (st : List Value) (h : VG) (x y : Int32) : ev 201 133 L (.int y :: .int x :: st) h = ev 201 134 L (.int (x * y) :: st) h := G_imul f201_133
theorem f201_134 : fetch 201 134 = some (.iload 5, 2) := vtab tk201 75 rfl
theorem e201_134 (l0 l1 l2 l3 l4 : Option Value) (L : VL) (st : List Value) (h : VG) (x : Int32) : ev 201 134 (l0 :: l1 :: l2 :: l3 :: l4 :: some (.int x) :: L) (st) h = ev 201 136 (l0 :: l1 :: l2 :: l3 :: l4 :: some (.int x) :: L) (.int x :: st) h := G_iload f201_134 rfl
theorem f201_136 : fetch 201 136 = some (.iadd, 1) := vtab tk201 76 rfl
theorem e201_136 (L : VL) (st : List Value) (h : VG) (x y : Int32) : ev 201 136 L (.int y :: .int x :: st) h = ev 201 137 L (.int (x + y) :: st) h := G_iadd f201_136
theorem f201_137 : fetch 201 137 = some (.invokevirtual 383, 3) := vtab tk201 77 rfl
theorem e201_137 (L : VL) (st : List Value) (h : VG) (b : Nat) (x0 : Int32) (x1 : Int32) (ho : ob h b 11) (hs : catS st ≤ 8) : ev 201 137 L (.int x1 :: .int x0 :: .ref b :: st) h = (ev 200 0 [some (.ref b), some (.int x0), some (.int x1), none] [] h).bind fun q => ev 201 140 L (q.1.toList ++ st) q.2 := G_callv (k := 1) (p := 1451) (ars := [.int x0, .int x1]) f201_137 lkC_12_383 (by decide) (by decide +kernel) rfl (vcls_ob (ci := 11) (by decide) ho) (Nat.le_of_ble_eq_true rfl) hs rfl
theorem f201_140 : fetch 201 140 = some (.ifCond .ne 6, 3) := vtab tk201 78 rfl
theorem e201_140 (L : VL) (st : List Value) (h : VG) (x : Int32) : ev 201 140 L (.int x :: st) h = if x = 0 then ev 201 143 L st h else ev 201 146 L st h := G_if_ne f201_140 (by decide)
theorem f201_143 : fetch 201 143 = some (.iload 5, 2) := vtab tk201 79 rfl
theorem e201_143 (l0 l1 l2 l3 l4 : Option Value) (L : VL) (st : List Value) (h : VG) (x : Int32) : ev 201 143 (l0 :: l1 :: l2 :: l3 :: l4 :: some (.int x) :: L) (st) h = ev 201 145 (l0 :: l1 :: l2 :: l3 :: l4 :: some (.int x) :: L) (.int x :: st) h := G_iload f201_143 rfl
theorem f201_145 : fetch 201 145 = some (.ireturn, 1) := vtab tk201 80 rfl
theorem e201_145 (L : VL) (h : VG) (x : Int32) : ev 201 145 L [.int x] h = some (some (.int x), h) := G_iret f201_145 (ty := .int) (by decide) rfl
theorem f201_146 : fetch 201 146 = some (.iinc 5 1, 3) := vtab tk201 81 rfl
theorem e201_146 (l0 l1 l2 l3 l4 : Option Value) (L : VL) (st : List Value) (h : VG) (x : Int32) : ev 201 146 (l0 :: l1 :: l2 :: l3 :: l4 :: some (.int x) :: L) (st) h = ev 201 149 (l0 :: l1 :: l2 :: l3 :: vkk l4 :: some (.int (x + (1 : Int32))) :: L) (st) h := G_iinc f201_146 rfl (by decide) (S1_5 l0 l1 l2 l3 l4 (some (.int x)) L _)
theorem f201_149 : fetch 201 149 = some (.goto (-34), 3) := vtab tk201 82 rfl
theorem e201_149 (L : VL) (st : List Value) (h : VG) : ev 201 149 L (st) h = ev 201 115 L (st) h := G_goto f201_149 (by decide)
theorem f201_152 : fetch 201 152 = some (.aload_n 0, 1) := vtab tk201 83 rfl
theorem e201_152 (L : VL) (st : List Value) (h : VG) (x : Nat) : ev 201 152 (some (.ref x) :: L) (st) h = ev 201 153 (some (.ref x) :: L) (.ref x :: st) h := G_aload_n f201_152 rfl
theorem f201_153 : fetch 201 153 = some (.getfield 79, 3) := vtab tk201 84 rfl
theorem e201_153 (L : VL) (st : List Value) (h : VG) (a : Nat) (ho : ob h a 11) (hr : isR h a 43) : ev 201 153 L (.ref a :: st) h = ev 201 156 L (.ref (gR h a 43) :: st) h := G_getR (p := 1056) f201_153 lkF_12_79 (by decide) (by decide) ho hr
theorem f201_156 : fetch 201 156 = some (.iload_n 1, 1) := vtab tk201 85 rfl
theorem e201_156 (l0 : Option Value) (L : VL) (st : List Value) (h : VG) (x : Int32) : ev 201 156 (l0 :: some (.int x) :: L) (st) h = ev 201 157 (l0 :: some (.int x) :: L) (.int x :: st) h := G_iload_n f201_156 rfl
theorem f201_157 : fetch 201 157 = some (.iaload, 1) := vtab tk201 86 rfl
theorem e201_157 (L : VL) (st : List Value) (h : VG) (a : Nat) (i : Int32) (ha : rdI h a) (hi : vp_in i (aln h a)) : ev 201 157 L (.int i :: .ref a :: st) h = ev 201 158 L (.int (aI h a i.toNatClampNeg) :: st) h := G_iald' f201_157 ha hi
theorem f201_158 : fetch 201 158 = some (.aload_n 0, 1) := vtab tk201 87 rfl
theorem e201_158 (L : VL) (st : List Value) (h : VG) (x : Nat) : ev 201 158 (some (.ref x) :: L) (st) h = ev 201 159 (some (.ref x) :: L) (.ref x :: st) h := G_aload_n f201_158 rfl
theorem f201_159 : fetch 201 159 = some (.getfield 79, 3) := vtab tk201 88 rfl
theorem e201_159 (L : VL) (st : List Value) (h : VG) (a : Nat) (ho : ob h a 11) (hr : isR h a 43) : ev 201 159 L (.ref a :: st) h = ev 201 162 L (.ref (gR h a 43) :: st) h := G_getR (p := 1056) f201_159 lkF_12_79 (by decide) (by decide) ho hr
theorem f201_162 : fetch 201 162 = some (.iload_n 2, 1) := vtab tk201 89 rfl
theorem e201_162 (l0 l1 : Option Value) (L : VL) (st : List Value) (h : VG) (x : Int32) : ev 201 162 (l0 :: l1 :: some (.int x) :: L) (st) h = ev 201 163 (l0 :: l1 :: some (.int x) :: L) (.int x :: st) h := G_iload_n f201_162 rfl
theorem f201_163 : fetch 201 163 = some (.iaload, 1) := vtab tk201 90 rfl
theorem e201_163 (L : VL) (st : List Value) (h : VG) (a : Nat) (i : Int32) (ha : rdI h a) (hi : vp_in i (aln h a)) : ev 201 163 L (.int i :: .ref a :: st) h = ev 201 164 L (.int (aI h a i.toNatClampNeg) :: st) h := G_iald' f201_163 ha hi
theorem f201_164 : fetch 201 164 = some (.if_icmp .ne 7, 3) := vtab tk201 91 rfl
theorem e201_164 (L : VL) (st : List Value) (h : VG) (x y : Int32) : ev 201 164 L (.int y :: .int x :: st) h = if x = y then ev 201 167 L st h else ev 201 171 L st h := G_icmp_ne f201_164 (by decide)
theorem f201_167 : fetch 201 167 = some (.iconst (-1), 1) := vtab tk201 92 rfl
theorem e201_167 (L : VL) (st : List Value) (h : VG) : ev 201 167 L (st) h = ev 201 168 L (.int (-1 : Int32) :: st) h := G_iconst f201_167 (by decide)
theorem f201_168 : fetch 201 168 = some (.goto 5, 3) := vtab tk201 93 rfl
theorem e201_168 (L : VL) (st : List Value) (h : VG) : ev 201 168 L (st) h = ev 201 173 L (st) h := G_goto f201_168 (by decide)
theorem f201_171 : fetch 201 171 = some (.iload 4, 2) := vtab tk201 94 rfl
theorem e201_171 (l0 l1 l2 l3 : Option Value) (L : VL) (st : List Value) (h : VG) (x : Int32) : ev 201 171 (l0 :: l1 :: l2 :: l3 :: some (.int x) :: L) (st) h = ev 201 173 (l0 :: l1 :: l2 :: l3 :: some (.int x) :: L) (.int x :: st) h := G_iload f201_171 rfl
theorem f201_173 : fetch 201 173 = some (.ireturn, 1) := vtab tk201 95 rfl
theorem e201_173 (L : VL) (h : VG) (x : Int32) : ev 201 173 L [.int x] h = some (some (.int x), h) := G_iret f201_173 (ty := .int) (by decide) rfl
/-! 202 GuestCallsModel.isThere(II)Z -/
def tb202 : List (Nat × Instr × Nat) := [(0, .iload_n 2, 1), (1, .ifCond .eq 17, 3), (4, .iload_n 1, 1), (5, .ifCond .lt 17, 3), (8, .iload_n 1, 1), (9, .aload_n 0, 1), (10, .getfield 40, 3), (13, .iload_n 2, 1), (14, .isub, 1), (15, .if_icmp .gt 7, 3), (18, .iconst 1, 1), (19, .goto 4, 3), (22, .iconst 0, 1), (23, .ireturn, 1)]
theorem tk202 : tb202.all (fun q => decide (fetch 202 q.1 = some q.2)) = true := by decide +kernel
theorem f202_0 : fetch 202 0 = some (.iload_n 2, 1) := vtab tk202 0 rfl
theorem e202_0 (l0 l1 : Option Value) (L : VL) (st : List Value) (h : VG) (x : Int32) : ev 202 0 (l0 :: l1 :: some (.int x) :: L) (st) h = ev 202 1 (l0 :: l1 :: some (.int x) :: L) (.int x :: st) h := G_iload_n f202_0 rfl
theorem f202_1 : fetch 202 1 = some (.ifCond .eq 17, 3) := vtab tk202 1 rfl
theorem e202_1 (L : VL) (st : List Value) (h : VG) (x : Int32) : ev 202 1 L (.int x :: st) h = if x = 0 then ev 202 18 L st h else ev 202 4 L st h := G_if_eq f202_1 (by decide)
theorem f202_4 : fetch 202 4 = some (.iload_n 1, 1) := vtab tk202 2 rfl
theorem e202_4 (l0 : Option Value) (L : VL) (st : List Value) (h : VG) (x : Int32) : ev 202 4 (l0 :: some (.int x) :: L) (st) h = ev 202 5 (l0 :: some (.int x) :: L) (.int x :: st) h := G_iload_n f202_4 rfl
theorem f202_5 : fetch 202 5 = some (.ifCond .lt 17, 3) := vtab tk202 3 rfl
theorem e202_5 (L : VL) (st : List Value) (h : VG) (x : Int32) : ev 202 5 L (.int x :: st) h = if x < 0 then ev 202 22 L st h else ev 202 8 L st h := G_if_lt f202_5 (by decide)
theorem f202_8 : fetch 202 8 = some (.iload_n 1, 1) := vtab tk202 4 rfl
theorem e202_8 (l0 : Option Value) (L : VL) (st : List Value) (h : VG) (x : Int32) : ev 202 8 (l0 :: some (.int x) :: L) (st) h = ev 202 9 (l0 :: some (.int x) :: L) (.int x :: st) h := G_iload_n f202_8 rfl
theorem f202_9 : fetch 202 9 = some (.aload_n 0, 1) := vtab tk202 5 rfl
theorem e202_9 (L : VL) (st : List Value) (h : VG) (x : Nat) : ev 202 9 (some (.ref x) :: L) (st) h = ev 202 10 (some (.ref x) :: L) (.ref x :: st) h := G_aload_n f202_9 rfl
theorem f202_10 : fetch 202 10 = some (.getfield 40, 3) := vtab tk202 6 rfl
theorem e202_10 (L : VL) (st : List Value) (h : VG) (a : Nat) (ho : ob h a 11) : ev 202 10 L (.ref a :: st) h = ev 202 13 L (.int (gI h a 18) :: st) h := G_getI (p := 1031) f202_10 lkF_12_40 (by decide) (by decide) ho
theorem f202_13 : fetch 202 13 = some (.iload_n 2, 1) := vtab tk202 7 rfl
theorem e202_13 (l0 l1 : Option Value) (L : VL) (st : List Value) (h : VG) (x : Int32) : ev 202 13 (l0 :: l1 :: some (.int x) :: L) (st) h = ev 202 14 (l0 :: l1 :: some (.int x) :: L) (.int x :: st) h := G_iload_n f202_13 rfl
theorem f202_14 : fetch 202 14 = some (.isub, 1) := vtab tk202 8 rfl
theorem e202_14 (L : VL) (st : List Value) (h : VG) (x y : Int32) : ev 202 14 L (.int y :: .int x :: st) h = ev 202 15 L (.int (x - y) :: st) h := G_isub f202_14
theorem f202_15 : fetch 202 15 = some (.if_icmp .gt 7, 3) := vtab tk202 9 rfl
theorem e202_15 (L : VL) (st : List Value) (h : VG) (x y : Int32) : ev 202 15 L (.int y :: .int x :: st) h = if x ≤ y then ev 202 18 L st h else ev 202 22 L st h := G_icmp_gt f202_15 (by decide)
theorem f202_18 : fetch 202 18 = some (.iconst 1, 1) := vtab tk202 10 rfl
theorem e202_18 (L : VL) (st : List Value) (h : VG) : ev 202 18 L (st) h = ev 202 19 L (.int (1 : Int32) :: st) h := G_iconst f202_18 (by decide)
theorem f202_19 : fetch 202 19 = some (.goto 4, 3) := vtab tk202 11 rfl
theorem e202_19 (L : VL) (st : List Value) (h : VG) : ev 202 19 L (st) h = ev 202 23 L (st) h := G_goto f202_19 (by decide)
theorem f202_22 : fetch 202 22 = some (.iconst 0, 1) := vtab tk202 12 rfl
theorem e202_22 (L : VL) (st : List Value) (h : VG) : ev 202 22 L (st) h = ev 202 23 L (.int (0 : Int32) :: st) h := G_iconst f202_22 (by decide)
theorem f202_23 : fetch 202 23 = some (.ireturn, 1) := vtab tk202 13 rfl
theorem e202_23 (L : VL) (h : VG) (x : Int32) (hz : x = 0 ∨ x = 1) : ev 202 23 L [.int x] h = some (some (.int x), h) := G_iret f202_23 (ty := .boolean) (by decide) (vbool hz).1
/-! 203 GuestCallsModel.numberAt(II)J -/
def tb203 : List (Nat × Instr × Nat) := [(0, .lconst 0, 1), (1, .lstore_n 3, 1), (2, .iconst 0, 1), (3, .istore 5, 2), (5, .iload 5, 2), (7, .iload_n 2, 1), (8, .if_icmp .ge 43, 3), (11, .lload_n 3, 1), (12, .bipush 8, 2), (14, .lshl, 1), (15, .aload_n 0, 1), (16, .getfield 52, 3), (19, .aload_n 0, 1), (20, .getfield 229, 3), (23, .ifCond .eq 10, 3), (26, .iload_n 1, 1), (27, .iload 5, 2), (29, .iadd, 1), (30, .goto 11, 3), (33, .iload_n 1, 1), (34, .iload_n 2, 1), (35, .iadd, 1), (36, .iconst 1, 1), (37, .isub, 1), (38, .iload 5, 2), (40, .isub, 1), (41, .iaload, 1), (42, .i2l, 1), (43, .lor, 1), (44, .lstore_n 3, 1), (45, .iinc 5 1, 3), (48, .goto (-43), 3), (51, .lload_n 3, 1), (52, .lreturn, 1)]
theorem tk203 : tb203.all (fun q => decide (fetch 203 q.1 = some q.2)) = true := by decide +kernel
theorem f203_0 : fetch 203 0 = some (.lconst 0, 1) := vtab tk203 0 rfl
theorem e203_0 (L : VL) (st : List Value) (h : VG) : ev 203 0 L (st) h = ev 203 1 L (.long 0 :: st) h := G_lconst f203_0 (by decide)
theorem f203_1 : fetch 203 1 = some (.lstore_n 3, 1) := vtab tk203 1 rfl
theorem e203_1 (l0 l1 l2 l3 l4 : Option Value) (L : VL) (st : List Value) (h : VG) (x : Int64) : ev 203 1 (l0 :: l1 :: l2 :: l3 :: l4 :: L) (.long x :: st) h = ev 203 2 (l0 :: l1 :: vkk l2 :: some (.long x) :: none :: L) (st) h := G_lstore_n f203_1 rfl (S2_3 l0 l1 l2 l3 l4 L _)
theorem f203_2 : fetch 203 2 = some (.iconst 0, 1) := vtab tk203 2 rfl
theorem e203_2 (L : VL) (st : List Value) (h : VG) : ev 203 2 L (st) h = ev 203 3 L (.int (0 : Int32) :: st) h := G_iconst f203_2 (by decide)
theorem f203_3 : fetch 203 3 = some (.istore 5, 2) := vtab tk203 3 rfl
theorem e203_3 (l0 l1 l2 l3 l4 l5 : Option Value) (L : VL) (st : List Value) (h : VG) (x : Int32) : ev 203 3 (l0 :: l1 :: l2 :: l3 :: l4 :: l5 :: L) (.int x :: st) h = ev 203 5 (l0 :: l1 :: l2 :: l3 :: vkk l4 :: some (.int x) :: L) (st) h := G_istore f203_3 rfl (S1_5 l0 l1 l2 l3 l4 l5 L _)
theorem f203_5 : fetch 203 5 = some (.iload 5, 2) := vtab tk203 4 rfl
theorem e203_5 (l0 l1 l2 l3 l4 : Option Value) (L : VL) (st : List Value) (h : VG) (x : Int32) : ev 203 5 (l0 :: l1 :: l2 :: l3 :: l4 :: some (.int x) :: L) (st) h = ev 203 7 (l0 :: l1 :: l2 :: l3 :: l4 :: some (.int x) :: L) (.int x :: st) h := G_iload f203_5 rfl
theorem f203_7 : fetch 203 7 = some (.iload_n 2, 1) := vtab tk203 5 rfl
theorem e203_7 (l0 l1 : Option Value) (L : VL) (st : List Value) (h : VG) (x : Int32) : ev 203 7 (l0 :: l1 :: some (.int x) :: L) (st) h = ev 203 8 (l0 :: l1 :: some (.int x) :: L) (.int x :: st) h := G_iload_n f203_7 rfl
theorem f203_8 : fetch 203 8 = some (.if_icmp .ge 43, 3) := vtab tk203 6 rfl
theorem e203_8 (L : VL) (st : List Value) (h : VG) (x y : Int32) : ev 203 8 L (.int y :: .int x :: st) h = if x < y then ev 203 11 L st h else ev 203 51 L st h := G_icmp_ge f203_8 (by decide)
theorem f203_11 : fetch 203 11 = some (.lload_n 3, 1) := vtab tk203 7 rfl
theorem e203_11 (l0 l1 l2 : Option Value) (L : VL) (st : List Value) (h : VG) (x : Int64) : ev 203 11 (l0 :: l1 :: l2 :: some (.long x) :: L) (st) h = ev 203 12 (l0 :: l1 :: l2 :: some (.long x) :: L) (.long x :: st) h := G_lload_n f203_11 rfl
theorem f203_12 : fetch 203 12 = some (.bipush 8, 2) := vtab tk203 8 rfl
theorem e203_12 (L : VL) (st : List Value) (h : VG) : ev 203 12 L (st) h = ev 203 14 L (.int (8 : Int32) :: st) h := G_bipush f203_12 (by decide)
theorem f203_14 : fetch 203 14 = some (.lshl, 1) := vtab tk203 9 rfl
theorem e203_14 (L : VL) (st : List Value) (h : VG) (x : Int64) (y : Int32) : ev 203 14 L (.int y :: .long x :: st) h = ev 203 15 L (.long (x <<< (y.toInt64 &&& 63)) :: st) h := G_lshl f203_14
theorem f203_15 : fetch 203 15 = some (.aload_n 0, 1) := vtab tk203 10 rfl
theorem e203_15 (L : VL) (st : List Value) (h : VG) (x : Nat) : ev 203 15 (some (.ref x) :: L) (st) h = ev 203 16 (some (.ref x) :: L) (.ref x :: st) h := G_aload_n f203_15 rfl
theorem f203_16 : fetch 203 16 = some (.getfield 52, 3) := vtab tk203 11 rfl
theorem e203_16 (L : VL) (st : List Value) (h : VG) (a : Nat) (ho : ob h a 11) (hr : isR h a 23) : ev 203 16 L (.ref a :: st) h = ev 203 19 L (.ref (gR h a 23) :: st) h := G_getR (p := 1036) f203_16 lkF_12_52 (by decide) (by decide) ho hr
theorem f203_19 : fetch 203 19 = some (.aload_n 0, 1) := vtab tk203 12 rfl
theorem e203_19 (L : VL) (st : List Value) (h : VG) (x : Nat) : ev 203 19 (some (.ref x) :: L) (st) h = ev 203 20 (some (.ref x) :: L) (.ref x :: st) h := G_aload_n f203_19 rfl
theorem f203_20 : fetch 203 20 = some (.getfield 229, 3) := vtab tk203 13 rfl
theorem e203_20 (L : VL) (st : List Value) (h : VG) (a : Nat) (ho : ob h a 11) : ev 203 20 L (.ref a :: st) h = ev 203 23 L (.int (gI h a 17) :: st) h := G_getI (p := 1030) f203_20 lkF_12_229 (by decide) (by decide) ho
theorem f203_23 : fetch 203 23 = some (.ifCond .eq 10, 3) := vtab tk203 14 rfl
theorem e203_23 (L : VL) (st : List Value) (h : VG) (x : Int32) : ev 203 23 L (.int x :: st) h = if x = 0 then ev 203 33 L st h else ev 203 26 L st h := G_if_eq f203_23 (by decide)
theorem f203_26 : fetch 203 26 = some (.iload_n 1, 1) := vtab tk203 15 rfl
theorem e203_26 (l0 : Option Value) (L : VL) (st : List Value) (h : VG) (x : Int32) : ev 203 26 (l0 :: some (.int x) :: L) (st) h = ev 203 27 (l0 :: some (.int x) :: L) (.int x :: st) h := G_iload_n f203_26 rfl
theorem f203_27 : fetch 203 27 = some (.iload 5, 2) := vtab tk203 16 rfl
theorem e203_27 (l0 l1 l2 l3 l4 : Option Value) (L : VL) (st : List Value) (h : VG) (x : Int32) : ev 203 27 (l0 :: l1 :: l2 :: l3 :: l4 :: some (.int x) :: L) (st) h = ev 203 29 (l0 :: l1 :: l2 :: l3 :: l4 :: some (.int x) :: L) (.int x :: st) h := G_iload f203_27 rfl
theorem f203_29 : fetch 203 29 = some (.iadd, 1) := vtab tk203 17 rfl
theorem e203_29 (L : VL) (st : List Value) (h : VG) (x y : Int32) : ev 203 29 L (.int y :: .int x :: st) h = ev 203 30 L (.int (x + y) :: st) h := G_iadd f203_29
theorem f203_30 : fetch 203 30 = some (.goto 11, 3) := vtab tk203 18 rfl
theorem e203_30 (L : VL) (st : List Value) (h : VG) : ev 203 30 L (st) h = ev 203 41 L (st) h := G_goto f203_30 (by decide)
theorem f203_33 : fetch 203 33 = some (.iload_n 1, 1) := vtab tk203 19 rfl
theorem e203_33 (l0 : Option Value) (L : VL) (st : List Value) (h : VG) (x : Int32) : ev 203 33 (l0 :: some (.int x) :: L) (st) h = ev 203 34 (l0 :: some (.int x) :: L) (.int x :: st) h := G_iload_n f203_33 rfl
theorem f203_34 : fetch 203 34 = some (.iload_n 2, 1) := vtab tk203 20 rfl
theorem e203_34 (l0 l1 : Option Value) (L : VL) (st : List Value) (h : VG) (x : Int32) : ev 203 34 (l0 :: l1 :: some (.int x) :: L) (st) h = ev 203 35 (l0 :: l1 :: some (.int x) :: L) (.int x :: st) h := G_iload_n f203_34 rfl
theorem f203_35 : fetch 203 35 = some (.iadd, 1) := vtab tk203 21 rfl
theorem e203_35 (L : VL) (st : List Value) (h : VG) (x y : Int32) : ev 203 35 L (.int y :: .int x :: st) h = ev 203 36 L (.int (x + y) :: st) h := G_iadd f203_35
theorem f203_36 : fetch 203 36 = some (.iconst 1, 1) := vtab tk203 22 rfl
theorem e203_36 (L : VL) (st : List Value) (h : VG) : ev 203 36 L (st) h = ev 203 37 L (.int (1 : Int32) :: st) h := G_iconst f203_36 (by decide)
theorem f203_37 : fetch 203 37 = some (.isub, 1) := vtab tk203 23 rfl
theorem e203_37 (L : VL) (st : List Value) (h : VG) (x y : Int32) : ev 203 37 L (.int y :: .int x :: st) h = ev 203 38 L (.int (x - y) :: st) h := G_isub f203_37
theorem f203_38 : fetch 203 38 = some (.iload 5, 2) := vtab tk203 24 rfl
theorem e203_38 (l0 l1 l2 l3 l4 : Option Value) (L : VL) (st : List Value) (h : VG) (x : Int32) : ev 203 38 (l0 :: l1 :: l2 :: l3 :: l4 :: some (.int x) :: L) (st) h = ev 203 40 (l0 :: l1 :: l2 :: l3 :: l4 :: some (.int x) :: L) (.int x :: st) h := G_iload f203_38 rfl
theorem f203_40 : fetch 203 40 = some (.isub, 1) := vtab tk203 25 rfl
theorem e203_40 (L : VL) (st : List Value) (h : VG) (x y : Int32) : ev 203 40 L (.int y :: .int x :: st) h = ev 203 41 L (.int (x - y) :: st) h := G_isub f203_40
theorem f203_41 : fetch 203 41 = some (.iaload, 1) := vtab tk203 26 rfl
theorem e203_41 (L : VL) (st : List Value) (h : VG) (a : Nat) (i : Int32) (ha : rdI h a) (hi : vp_in i (aln h a)) : ev 203 41 L (.int i :: .ref a :: st) h = ev 203 42 L (.int (aI h a i.toNatClampNeg) :: st) h := G_iald' f203_41 ha hi
theorem f203_42 : fetch 203 42 = some (.i2l, 1) := vtab tk203 27 rfl
theorem e203_42 (L : VL) (st : List Value) (h : VG) (x : Int32) : ev 203 42 L (.int x :: st) h = ev 203 43 L (.long x.toInt64 :: st) h := G_i2l f203_42
theorem f203_43 : fetch 203 43 = some (.lor, 1) := vtab tk203 28 rfl
theorem e203_43 (L : VL) (st : List Value) (h : VG) (x y : Int64) : ev 203 43 L (.long y :: .long x :: st) h = ev 203 44 L (.long (x ||| y) :: st) h := G_lor f203_43
theorem f203_44 : fetch 203 44 = some (.lstore_n 3, 1) := vtab tk203 29 rfl
theorem e203_44 (l0 l1 l2 l3 l4 : Option Value) (L : VL) (st : List Value) (h : VG) (x : Int64) : ev 203 44 (l0 :: l1 :: l2 :: l3 :: l4 :: L) (.long x :: st) h = ev 203 45 (l0 :: l1 :: vkk l2 :: some (.long x) :: none :: L) (st) h := G_lstore_n f203_44 rfl (S2_3 l0 l1 l2 l3 l4 L _)
theorem f203_45 : fetch 203 45 = some (.iinc 5 1, 3) := vtab tk203 30 rfl
theorem e203_45 (l0 l1 l2 l3 l4 : Option Value) (L : VL) (st : List Value) (h : VG) (x : Int32) : ev 203 45 (l0 :: l1 :: l2 :: l3 :: l4 :: some (.int x) :: L) (st) h = ev 203 48 (l0 :: l1 :: l2 :: l3 :: vkk l4 :: some (.int (x + (1 : Int32))) :: L) (st) h := G_iinc f203_45 rfl (by decide) (S1_5 l0 l1 l2 l3 l4 (some (.int x)) L _)
theorem f203_48 : fetch 203 48 = some (.goto (-43), 3) := vtab tk203 31 rfl
theorem e203_48 (L : VL) (st : List Value) (h : VG) : ev 203 48 L (st) h = ev 203 5 L (st) h := G_goto f203_48 (by decide)
theorem f203_51 : fetch 203 51 = some (.lload_n 3, 1) := vtab tk203 32 rfl
theorem e203_51 (l0 l1 l2 : Option Value) (L : VL) (st : List Value) (h : VG) (x : Int64) : ev 203 51 (l0 :: l1 :: l2 :: some (.long x) :: L) (st) h = ev 203 52 (l0 :: l1 :: l2 :: some (.long x) :: L) (.long x :: st) h := G_lload_n f203_51 rfl
theorem f203_52 : fetch 203 52 = some (.lreturn, 1) := vtab tk203 33 rfl
theorem e203_52 (L : VL) (h : VG) (x : Int64) : ev 203 52 L [.long x] h = some (some (.long x), h) := G_lret f203_52 (by decide)
/-! 204 GuestCallsModel.signed(JI)J -/
def tb204 : List (Nat × Instr × Nat) := [(0, .bipush 64, 2), (2, .bipush 8, 2), (4, .iload_n 2, 1), (5, .imul, 1), (6, .isub, 1), (7, .istore_n 3, 1), (8, .lload_n 0, 1), (9, .iload_n 3, 1), (10, .lshl, 1), (11, .iload_n 3, 1), (12, .lshr, 1), (13, .lreturn, 1)]
theorem tk204 : tb204.all (fun q => decide (fetch 204 q.1 = some q.2)) = true := by decide +kernel
theorem f204_0 : fetch 204 0 = some (.bipush 64, 2) := vtab tk204 0 rfl
theorem e204_0 (L : VL) (st : List Value) (h : VG) : ev 204 0 L (st) h = ev 204 2 L (.int (64 : Int32) :: st) h := G_bipush f204_0 (by decide)
theorem f204_2 : fetch 204 2 = some (.bipush 8, 2) := vtab tk204 1 rfl
theorem e204_2 (L : VL) (st : List Value) (h : VG) : ev 204 2 L (st) h = ev 204 4 L (.int (8 : Int32) :: st) h := G_bipush f204_2 (by decide)
theorem f204_4 : fetch 204 4 = some (.iload_n 2, 1) := vtab tk204 2 rfl
theorem e204_4 (l0 l1 : Option Value) (L : VL) (st : List Value) (h : VG) (x : Int32) : ev 204 4 (l0 :: l1 :: some (.int x) :: L) (st) h = ev 204 5 (l0 :: l1 :: some (.int x) :: L) (.int x :: st) h := G_iload_n f204_4 rfl
theorem f204_5 : fetch 204 5 = some (.imul, 1) := vtab tk204 3 rfl
theorem e204_5 (L : VL) (st : List Value) (h : VG) (x y : Int32) : ev 204 5 L (.int y :: .int x :: st) h = ev 204 6 L (.int (x * y) :: st) h := G_imul f204_5
theorem f204_6 : fetch 204 6 = some (.isub, 1) := vtab tk204 4 rfl
theorem e204_6 (L : VL) (st : List Value) (h : VG) (x y : Int32) : ev 204 6 L (.int y :: .int x :: st) h = ev 204 7 L (.int (x - y) :: st) h := G_isub f204_6
theorem f204_7 : fetch 204 7 = some (.istore_n 3, 1) := vtab tk204 5 rfl
theorem e204_7 (l0 l1 l2 l3 : Option Value) (L : VL) (st : List Value) (h : VG) (x : Int32) : ev 204 7 (l0 :: l1 :: l2 :: l3 :: L) (.int x :: st) h = ev 204 8 (l0 :: l1 :: vkk l2 :: some (.int x) :: L) (st) h := G_istore_n f204_7 rfl (S1_3 l0 l1 l2 l3 L _)
theorem f204_8 : fetch 204 8 = some (.lload_n 0, 1) := vtab tk204 6 rfl
theorem e204_8 (L : VL) (st : List Value) (h : VG) (x : Int64) : ev 204 8 (some (.long x) :: L) (st) h = ev 204 9 (some (.long x) :: L) (.long x :: st) h := G_lload_n f204_8 rfl
theorem f204_9 : fetch 204 9 = some (.iload_n 3, 1) := vtab tk204 7 rfl
theorem e204_9 (l0 l1 l2 : Option Value) (L : VL) (st : List Value) (h : VG) (x : Int32) : ev 204 9 (l0 :: l1 :: l2 :: some (.int x) :: L) (st) h = ev 204 10 (l0 :: l1 :: l2 :: some (.int x) :: L) (.int x :: st) h := G_iload_n f204_9 rfl
theorem f204_10 : fetch 204 10 = some (.lshl, 1) := vtab tk204 8 rfl
theorem e204_10 (L : VL) (st : List Value) (h : VG) (x : Int64) (y : Int32) : ev 204 10 L (.int y :: .long x :: st) h = ev 204 11 L (.long (x <<< (y.toInt64 &&& 63)) :: st) h := G_lshl f204_10
theorem f204_11 : fetch 204 11 = some (.iload_n 3, 1) := vtab tk204 9 rfl
theorem e204_11 (l0 l1 l2 : Option Value) (L : VL) (st : List Value) (h : VG) (x : Int32) : ev 204 11 (l0 :: l1 :: l2 :: some (.int x) :: L) (st) h = ev 204 12 (l0 :: l1 :: l2 :: some (.int x) :: L) (.int x :: st) h := G_iload_n f204_11 rfl
theorem f204_12 : fetch 204 12 = some (.lshr, 1) := vtab tk204 10 rfl
theorem e204_12 (L : VL) (st : List Value) (h : VG) (x : Int64) (y : Int32) : ev 204 12 L (.int y :: .long x :: st) h = ev 204 13 L (.long (x >>> (y.toInt64 &&& 63)) :: st) h := G_lshr f204_12
theorem f204_13 : fetch 204 13 = some (.lreturn, 1) := vtab tk204 11 rfl
theorem e204_13 (L : VL) (h : VG) (x : Int64) : ev 204 13 L [.long x] h = some (some (.long x), h) := G_lret f204_13 (by decide)
/-! 205 GuestCallsModel.clears()V -/
def tb205 : List (Nat × Instr × Nat) := [(0, .iconst 0, 1), (1, .istore_n 1, 1), (2, .iload_n 1, 1), (3, .sipush 512, 3), (6, .if_icmp .ge 23, 3), (9, .aload_n 0, 1), (10, .getfield 101, 3), (13, .iload_n 1, 1), (14, .iconst 0, 1), (15, .iastore, 1), (16, .aload_n 0, 1), (17, .getfield 104, 3), (20, .iload_n 1, 1), (21, .iconst 0, 1), (22, .bastore, 1), (23, .iinc 1 1, 3), (26, .goto (-24), 3), (29, .return_, 1)]
theorem tk205 : tb205.all (fun q => decide (fetch 205 q.1 = some q.2)) = true := by decide +kernel
theorem f205_0 : fetch 205 0 = some (.iconst 0, 1) := vtab tk205 0 rfl
theorem e205_0 (L : VL) (st : List Value) (h : VG) : ev 205 0 L (st) h = ev 205 1 L (.int (0 : Int32) :: st) h := G_iconst f205_0 (by decide)
theorem f205_1 : fetch 205 1 = some (.istore_n 1, 1) := vtab tk205 1 rfl
theorem e205_1 (l0 l1 : Option Value) (L : VL) (st : List Value) (h : VG) (x : Int32) : ev 205 1 (l0 :: l1 :: L) (.int x :: st) h = ev 205 2 (vkk l0 :: some (.int x) :: L) (st) h := G_istore_n f205_1 rfl (S1_1 l0 l1 L _)
theorem f205_2 : fetch 205 2 = some (.iload_n 1, 1) := vtab tk205 2 rfl
theorem e205_2 (l0 : Option Value) (L : VL) (st : List Value) (h : VG) (x : Int32) : ev 205 2 (l0 :: some (.int x) :: L) (st) h = ev 205 3 (l0 :: some (.int x) :: L) (.int x :: st) h := G_iload_n f205_2 rfl
theorem f205_3 : fetch 205 3 = some (.sipush 512, 3) := vtab tk205 3 rfl
theorem e205_3 (L : VL) (st : List Value) (h : VG) : ev 205 3 L (st) h = ev 205 6 L (.int (512 : Int32) :: st) h := G_sipush f205_3 (by decide)
theorem f205_6 : fetch 205 6 = some (.if_icmp .ge 23, 3) := vtab tk205 4 rfl
theorem e205_6 (L : VL) (st : List Value) (h : VG) (x y : Int32) : ev 205 6 L (.int y :: .int x :: st) h = if x < y then ev 205 9 L st h else ev 205 29 L st h := G_icmp_ge f205_6 (by decide)
theorem f205_9 : fetch 205 9 = some (.aload_n 0, 1) := vtab tk205 5 rfl
theorem e205_9 (L : VL) (st : List Value) (h : VG) (x : Nat) : ev 205 9 (some (.ref x) :: L) (st) h = ev 205 10 (some (.ref x) :: L) (.ref x :: st) h := G_aload_n f205_9 rfl
theorem f205_10 : fetch 205 10 = some (.getfield 101, 3) := vtab tk205 6 rfl
theorem e205_10 (L : VL) (st : List Value) (h : VG) (a : Nat) (ho : ob h a 11) (hr : isR h a 50) : ev 205 10 L (.ref a :: st) h = ev 205 13 L (.ref (gR h a 50) :: st) h := G_getR (p := 1063) f205_10 lkF_12_101 (by decide) (by decide) ho hr
theorem f205_13 : fetch 205 13 = some (.iload_n 1, 1) := vtab tk205 7 rfl
theorem e205_13 (l0 : Option Value) (L : VL) (st : List Value) (h : VG) (x : Int32) : ev 205 13 (l0 :: some (.int x) :: L) (st) h = ev 205 14 (l0 :: some (.int x) :: L) (.int x :: st) h := G_iload_n f205_13 rfl
theorem f205_14 : fetch 205 14 = some (.iconst 0, 1) := vtab tk205 8 rfl
theorem e205_14 (L : VL) (st : List Value) (h : VG) : ev 205 14 L (st) h = ev 205 15 L (.int (0 : Int32) :: st) h := G_iconst f205_14 (by decide)
theorem f205_15 : fetch 205 15 = some (.iastore, 1) := vtab tk205 9 rfl
theorem e205_15 (L : VL) (st : List Value) (h : VG) (a : Nat) (i : Int32) (x : Int32) (ha : arI h a 0) (hi : vp_in i (aln h a)) : ev 205 15 L (.int x :: .int i :: .ref a :: st) h = ev 205 16 L (st) (wI h a i.toNatClampNeg x) := G_iast f205_15 ha hi
theorem f205_16 : fetch 205 16 = some (.aload_n 0, 1) := vtab tk205 10 rfl
theorem e205_16 (L : VL) (st : List Value) (h : VG) (x : Nat) : ev 205 16 (some (.ref x) :: L) (st) h = ev 205 17 (some (.ref x) :: L) (.ref x :: st) h := G_aload_n f205_16 rfl
theorem f205_17 : fetch 205 17 = some (.getfield 104, 3) := vtab tk205 11 rfl
theorem e205_17 (L : VL) (st : List Value) (h : VG) (a : Nat) (ho : ob h a 11) (hr : isR h a 51) : ev 205 17 L (.ref a :: st) h = ev 205 20 L (.ref (gR h a 51) :: st) h := G_getR (p := 1064) f205_17 lkF_12_104 (by decide) (by decide) ho hr
theorem f205_20 : fetch 205 20 = some (.iload_n 1, 1) := vtab tk205 12 rfl
theorem e205_20 (l0 : Option Value) (L : VL) (st : List Value) (h : VG) (x : Int32) : ev 205 20 (l0 :: some (.int x) :: L) (st) h = ev 205 21 (l0 :: some (.int x) :: L) (.int x :: st) h := G_iload_n f205_20 rfl
theorem f205_21 : fetch 205 21 = some (.iconst 0, 1) := vtab tk205 13 rfl
theorem e205_21 (L : VL) (st : List Value) (h : VG) : ev 205 21 L (st) h = ev 205 22 L (.int (0 : Int32) :: st) h := G_iconst f205_21 (by decide)
theorem f205_22 : fetch 205 22 = some (.bastore, 1) := vtab tk205 14 rfl
theorem e205_22 (L : VL) (st : List Value) (h : VG) (a : Nat) (i : Int32) (x : Int32) (ha : arI h a 2) (hi : vp_in i (aln h a)) : ev 205 22 L (.int x :: .int i :: .ref a :: st) h = ev 205 23 L (st) (wI h a i.toNatClampNeg (vp_nar .byte x)) := G_bast f205_22 ha hi
theorem e205_22z (L : VL) (st : List Value) (h : VG) (a : Nat) (i : Int32) (x : Int32) (ha : arI h a 3) (hi : vp_in i (aln h a)) : ev 205 22 L (.int x :: .int i :: .ref a :: st) h = ev 205 23 L (st) (wI h a i.toNatClampNeg (vp_nar .boolean x)) := G_zast f205_22 ha hi
theorem f205_23 : fetch 205 23 = some (.iinc 1 1, 3) := vtab tk205 15 rfl
theorem e205_23 (l0 : Option Value) (L : VL) (st : List Value) (h : VG) (x : Int32) : ev 205 23 (l0 :: some (.int x) :: L) (st) h = ev 205 26 (vkk l0 :: some (.int (x + (1 : Int32))) :: L) (st) h := G_iinc f205_23 rfl (by decide) (S1_1 l0 (some (.int x)) L _)
theorem f205_26 : fetch 205 26 = some (.goto (-24), 3) := vtab tk205 16 rfl
theorem e205_26 (L : VL) (st : List Value) (h : VG) : ev 205 26 L (st) h = ev 205 2 L (st) h := G_goto f205_26 (by decide)
theorem f205_29 : fetch 205 29 = some (.return_, 1) := vtab tk205 17 rfl
theorem e205_29 (L : VL) (h : VG) : ev 205 29 L [] h = some (none, h) := G_vret f205_29 (by decide)
