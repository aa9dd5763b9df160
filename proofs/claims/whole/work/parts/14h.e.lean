/-! 229 GuestCallsModel.hold(I)Z -/
def tb229 : List (Nat × Instr × Nat) := [(0, .iload_n 1, 1), (1, .iconst 0, 1), (2, .iconst 1, 1), (3, .invokestatic 260, 3), (6, .ifCond .ne 5, 3), (9, .iconst 0, 1), (10, .ireturn, 1), (11, .iconst 0, 1), (12, .istore_n 2, 1), (13, .iload_n 2, 1), (14, .sipush 256, 3), (17, .if_icmp .ge 27, 3), (20, .aload_n 0, 1), (21, .getfield 123, 3), (24, .sipush 256, 3), (27, .iload_n 1, 1), (28, .imul, 1), (29, .iload_n 2, 1), (30, .iadd, 1), (31, .aload_n 0, 1), (32, .getfield 52, 3), (35, .iload_n 2, 1), (36, .iaload, 1), (37, .iastore, 1), (38, .iinc 2 1, 3), (41, .goto (-28), 3), (44, .iconst 0, 1), (45, .istore_n 2, 1), (46, .iload_n 2, 1), (47, .bipush 8, 2), (49, .if_icmp .ge 60, 3), (52, .aload_n 0, 1), (53, .getfield 126, 3), (56, .bipush 8, 2), (58, .iload_n 1, 1), (59, .imul, 1), (60, .iload_n 2, 1), (61, .iadd, 1), (62, .aload_n 0, 1), (63, .getfield 76, 3), (66, .iload_n 2, 1), (67, .iaload, 1), (68, .iastore, 1), (69, .aload_n 0, 1), (70, .getfield 129, 3), (73, .bipush 8, 2), (75, .iload_n 1, 1), (76, .imul, 1), (77, .iload_n 2, 1), (78, .iadd, 1), (79, .aload_n 0, 1), (80, .getfield 79, 3), (83, .iload_n 2, 1), (84, .iaload, 1), (85, .iastore, 1), (86, .aload_n 0, 1), (87, .getfield 141, 3), (90, .bipush 8, 2), (92, .iload_n 1, 1), (93, .imul, 1), (94, .iload_n 2, 1), (95, .iadd, 1), (96, .aload_n 0, 1), (97, .getfield 117, 3), (100, .iload_n 2, 1), (101, .laload, 1), (102, .lastore, 1), (103, .iinc 2 1, 3), (106, .goto (-60), 3), (109, .iconst 0, 1), (110, .istore_n 2, 1), (111, .iload_n 2, 1), (112, .sipush 320, 3), (115, .if_icmp .ge 63, 3), (118, .aload_n 0, 1), (119, .getfield 132, 3), (122, .sipush 320, 3), (125, .iload_n 1, 1), (126, .imul, 1), (127, .iload_n 2, 1), (128, .iadd, 1), (129, .aload_n 0, 1), (130, .getfield 82, 3), (133, .iload_n 2, 1), (134, .iaload, 1), (135, .iastore, 1), (136, .aload_n 0, 1), (137, .getfield 135, 3), (140, .sipush 320, 3), (143, .iload_n 1, 1), (144, .imul, 1), (145, .iload_n 2, 1), (146, .iadd, 1), (147, .aload_n 0, 1), (148, .getfield 85, 3), (151, .iload_n 2, 1), (152, .laload, 1), (153, .lastore, 1), (154, .aload_n 0, 1), (155, .getfield 138, 3), (158, .sipush 320, 3), (161, .iload_n 1, 1), (162, .imul, 1), (163, .iload_n 2, 1), (164, .iadd, 1), (165, .aload_n 0, 1), (166, .getfield 88, 3), (169, .iload_n 2, 1), (170, .daload, 1), (171, .dastore, 1), (172, .iinc 2 1, 3), (175, .goto (-64), 3), (178, .aload_n 0, 1), (179, .getfield 144, 3), (182, .iload_n 1, 1), (183, .aload_n 0, 1), (184, .getfield 241, 3), (187, .iastore, 1), (188, .aload_n 0, 1), (189, .getfield 120, 3), (192, .iload_n 1, 1), (193, .iconst 1, 1), (194, .bastore, 1), (195, .iconst 1, 1), (196, .ireturn, 1)]
theorem tk229 : tb229.all (fun q => decide (fetch 229 q.1 = some q.2)) = true := by decide +kernel
theorem f229_0 : fetch 229 0 = some (.iload_n 1, 1) := vtab tk229 0 rfl
theorem e229_0 (l0 : Option Value) (L : VL) (st : List Value) (h : VG) (x : Int32) : ev 229 0 (l0 :: some (.int x) :: L) (st) h = ev 229 1 (l0 :: some (.int x) :: L) (.int x :: st) h := G_iload_n f229_0 rfl
theorem f229_1 : fetch 229 1 = some (.iconst 0, 1) := vtab tk229 1 rfl
theorem e229_1 (L : VL) (st : List Value) (h : VG) : ev 229 1 L (st) h = ev 229 2 L (.int (0 : Int32) :: st) h := G_iconst f229_1 (by decide)
theorem f229_2 : fetch 229 2 = some (.iconst 1, 1) := vtab tk229 2 rfl
theorem e229_2 (L : VL) (st : List Value) (h : VG) : ev 229 2 L (st) h = ev 229 3 L (.int (1 : Int32) :: st) h := G_iconst f229_2 (by decide)
theorem f229_3 : fetch 229 3 = some (.invokestatic 260, 3) := vtab tk229 3 rfl
theorem e229_3 (L : VL) (st : List Value) (h : VG) (x0 : Int32) (x1 : Int32) (x2 : Int32) (hs : catS st ≤ 8) : ev 229 3 L (.int x2 :: .int x1 :: .int x0 :: st) h = (ev 162 0 [some (.int x0), some (.int x1), some (.int x2)] [] h).bind fun q => ev 229 6 L (q.1.toList ++ st) q.2 := G_calls (k := 0) (p := 1286) (ars := [.int x0, .int x1, .int x2]) f229_3 lkC_12_260 (by decide) (by decide +kernel) rfl (Nat.le_of_ble_eq_true rfl) hs rfl
theorem f229_6 : fetch 229 6 = some (.ifCond .ne 5, 3) := vtab tk229 4 rfl
theorem e229_6 (L : VL) (st : List Value) (h : VG) (x : Int32) : ev 229 6 L (.int x :: st) h = if x = 0 then ev 229 9 L st h else ev 229 11 L st h := G_if_ne f229_6 (by decide)
theorem f229_9 : fetch 229 9 = some (.iconst 0, 1) := vtab tk229 5 rfl
theorem e229_9 (L : VL) (st : List Value) (h : VG) : ev 229 9 L (st) h = ev 229 10 L (.int (0 : Int32) :: st) h := G_iconst f229_9 (by decide)
theorem f229_10 : fetch 229 10 = some (.ireturn, 1) := vtab tk229 6 rfl
theorem e229_10 (L : VL) (h : VG) (x : Int32) (hz : x = 0 ∨ x = 1) : ev 229 10 L [.int x] h = some (some (.int x), h) := G_iret f229_10 (ty := .boolean) (by decide) (vbool hz).1
theorem f229_11 : fetch 229 11 = some (.iconst 0, 1) := vtab tk229 7 rfl
theorem e229_11 (L : VL) (st : List Value) (h : VG) : ev 229 11 L (st) h = ev 229 12 L (.int (0 : Int32) :: st) h := G_iconst f229_11 (by decide)
theorem f229_12 : fetch 229 12 = some (.istore_n 2, 1) := vtab tk229 8 rfl
theorem e229_12 (l0 l1 l2 : Option Value) (L : VL) (st : List Value) (h : VG) (x : Int32) : ev 229 12 (l0 :: l1 :: l2 :: L) (.int x :: st) h = ev 229 13 (l0 :: vkk l1 :: some (.int x) :: L) (st) h := G_istore_n f229_12 rfl (S1_2 l0 l1 l2 L _)
theorem f229_13 : fetch 229 13 = some (.iload_n 2, 1) := vtab tk229 9 rfl
theorem e229_13 (l0 l1 : Option Value) (L : VL) (st : List Value) (h : VG) (x : Int32) : ev 229 13 (l0 :: l1 :: some (.int x) :: L) (st) h = ev 229 14 (l0 :: l1 :: some (.int x) :: L) (.int x :: st) h := G_iload_n f229_13 rfl
theorem f229_14 : fetch 229 14 = some (.sipush 256, 3) := vtab tk229 10 rfl
theorem e229_14 (L : VL) (st : List Value) (h : VG) : ev 229 14 L (st) h = ev 229 17 L (.int (256 : Int32) :: st) h := G_sipush f229_14 (by decide)
theorem f229_17 : fetch 229 17 = some (.if_icmp .ge 27, 3) := vtab tk229 11 rfl
theorem e229_17 (L : VL) (st : List Value) (h : VG) (x y : Int32) : ev 229 17 L (.int y :: .int x :: st) h = if x < y then ev 229 20 L st h else ev 229 44 L st h := G_icmp_ge f229_17 (by decide)
theorem f229_20 : fetch 229 20 = some (.aload_n 0, 1) := vtab tk229 12 rfl
theorem e229_20 (L : VL) (st : List Value) (h : VG) (x : Nat) : ev 229 20 (some (.ref x) :: L) (st) h = ev 229 21 (some (.ref x) :: L) (.ref x :: st) h := G_aload_n f229_20 rfl
theorem f229_21 : fetch 229 21 = some (.getfield 123, 3) := vtab tk229 13 rfl
theorem e229_21 (L : VL) (st : List Value) (h : VG) (a : Nat) (ho : ob h a 11) (hr : isR h a 59) : ev 229 21 L (.ref a :: st) h = ev 229 24 L (.ref (gR h a 59) :: st) h := G_getR (p := 1072) f229_21 lkF_12_123 (by decide) (by decide) ho hr
theorem f229_24 : fetch 229 24 = some (.sipush 256, 3) := vtab tk229 14 rfl
theorem e229_24 (L : VL) (st : List Value) (h : VG) : ev 229 24 L (st) h = ev 229 27 L (.int (256 : Int32) :: st) h := G_sipush f229_24 (by decide)
theorem f229_27 : fetch 229 27 = some (.iload_n 1, 1) := vtab tk229 15 rfl
theorem e229_27 (l0 : Option Value) (L : VL) (st : List Value) (h : VG) (x : Int32) : ev 229 27 (l0 :: some (.int x) :: L) (st) h = ev 229 28 (l0 :: some (.int x) :: L) (.int x :: st) h := G_iload_n f229_27 rfl
theorem f229_28 : fetch 229 28 = some (.imul, 1) := vtab tk229 16 rfl
theorem e229_28 (L : VL) (st : List Value) (h : VG) (x y : Int32) : ev 229 28 L (.int y :: .int x :: st) h = ev 229 29 L (.int (x * y) :: st) h := G_imul f229_28
theorem f229_29 : fetch 229 29 = some (.iload_n 2, 1) := vtab tk229 17 rfl
theorem e229_29 (l0 l1 : Option Value) (L : VL) (st : List Value) (h : VG) (x : Int32) : ev 229 29 (l0 :: l1 :: some (.int x) :: L) (st) h = ev 229 30 (l0 :: l1 :: some (.int x) :: L) (.int x :: st) h := G_iload_n f229_29 rfl
theorem f229_30 : fetch 229 30 = some (.iadd, 1) := vtab tk229 18 rfl
theorem e229_30 (L : VL) (st : List Value) (h : VG) (x y : Int32) : ev 229 30 L (.int y :: .int x :: st) h = ev 229 31 L (.int (x + y) :: st) h := G_iadd f229_30
theorem f229_31 : fetch 229 31 = some (.aload_n 0, 1) := vtab tk229 19 rfl
theorem e229_31 (L : VL) (st : List Value) (h : VG) (x : Nat) : ev 229 31 (some (.ref x) :: L) (st) h = ev 229 32 (some (.ref x) :: L) (.ref x :: st) h := G_aload_n f229_31 rfl
theorem f229_32 : fetch 229 32 = some (.getfield 52, 3) := vtab tk229 20 rfl
theorem e229_32 (L : VL) (st : List Value) (h : VG) (a : Nat) (ho : ob h a 11) (hr : isR h a 23) : ev 229 32 L (.ref a :: st) h = ev 229 35 L (.ref (gR h a 23) :: st) h := G_getR (p := 1036) f229_32 lkF_12_52 (by decide) (by decide) ho hr
theorem f229_35 : fetch 229 35 = some (.iload_n 2, 1) := vtab tk229 21 rfl
theorem e229_35 (l0 l1 : Option Value) (L : VL) (st : List Value) (h : VG) (x : Int32) : ev 229 35 (l0 :: l1 :: some (.int x) :: L) (st) h = ev 229 36 (l0 :: l1 :: some (.int x) :: L) (.int x :: st) h := G_iload_n f229_35 rfl
theorem f229_36 : fetch 229 36 = some (.iaload, 1) := vtab tk229 22 rfl
theorem e229_36 (L : VL) (st : List Value) (h : VG) (a : Nat) (i : Int32) (ha : rdI h a) (hi : vp_in i (aln h a)) : ev 229 36 L (.int i :: .ref a :: st) h = ev 229 37 L (.int (aI h a i.toNatClampNeg) :: st) h := G_iald' f229_36 ha hi
theorem f229_37 : fetch 229 37 = some (.iastore, 1) := vtab tk229 23 rfl
theorem e229_37 (L : VL) (st : List Value) (h : VG) (a : Nat) (i : Int32) (x : Int32) (ha : arI h a 0) (hi : vp_in i (aln h a)) : ev 229 37 L (.int x :: .int i :: .ref a :: st) h = ev 229 38 L (st) (wI h a i.toNatClampNeg x) := G_iast f229_37 ha hi
theorem f229_38 : fetch 229 38 = some (.iinc 2 1, 3) := vtab tk229 24 rfl
theorem e229_38 (l0 l1 : Option Value) (L : VL) (st : List Value) (h : VG) (x : Int32) : ev 229 38 (l0 :: l1 :: some (.int x) :: L) (st) h = ev 229 41 (l0 :: vkk l1 :: some (.int (x + (1 : Int32))) :: L) (st) h := G_iinc f229_38 rfl (by decide) (S1_2 l0 l1 (some (.int x)) L _)
theorem f229_41 : fetch 229 41 = some (.goto (-28), 3) := vtab tk229 25 rfl
theorem e229_41 (L : VL) (st : List Value) (h : VG) : ev 229 41 L (st) h = ev 229 13 L (st) h := G_goto f229_41 (by decide)
theorem f229_44 : fetch 229 44 = some (.iconst 0, 1) := vtab tk229 26 rfl
theorem e229_44 (L : VL) (st : List Value) (h : VG) : ev 229 44 L (st) h = ev 229 45 L (.int (0 : Int32) :: st) h := G_iconst f229_44 (by decide)
theorem f229_45 : fetch 229 45 = some (.istore_n 2, 1) := vtab tk229 27 rfl
theorem e229_45 (l0 l1 l2 : Option Value) (L : VL) (st : List Value) (h : VG) (x : Int32) : ev 229 45 (l0 :: l1 :: l2 :: L) (.int x :: st) h = ev 229 46 (l0 :: vkk l1 :: some (.int x) :: L) (st) h := G_istore_n f229_45 rfl (S1_2 l0 l1 l2 L _)
theorem f229_46 : fetch 229 46 = some (.iload_n 2, 1) := vtab tk229 28 rfl
theorem e229_46 (l0 l1 : Option Value) (L : VL) (st : List Value) (h : VG) (x : Int32) : ev 229 46 (l0 :: l1 :: some (.int x) :: L) (st) h = ev 229 47 (l0 :: l1 :: some (.int x) :: L) (.int x :: st) h := G_iload_n f229_46 rfl
theorem f229_47 : fetch 229 47 = some (.bipush 8, 2) := vtab tk229 29 rfl
theorem e229_47 (L : VL) (st : List Value) (h : VG) : ev 229 47 L (st) h = ev 229 49 L (.int (8 : Int32) :: st) h := G_bipush f229_47 (by decide)
theorem f229_49 : fetch 229 49 = some (.if_icmp .ge 60, 3) := vtab tk229 30 rfl
theorem e229_49 (L : VL) (st : List Value) (h : VG) (x y : Int32) : ev 229 49 L (.int y :: .int x :: st) h = if x < y then ev 229 52 L st h else ev 229 109 L st h := G_icmp_ge f229_49 (by decide)
theorem f229_52 : fetch 229 52 = some (.aload_n 0, 1) := vtab tk229 31 rfl
theorem e229_52 (L : VL) (st : List Value) (h : VG) (x : Nat) : ev 229 52 (some (.ref x) :: L) (st) h = ev 229 53 (some (.ref x) :: L) (.ref x :: st) h := G_aload_n f229_52 rfl
theorem f229_53 : fetch 229 53 = some (.getfield 126, 3) := vtab tk229 32 rfl
theorem e229_53 (L : VL) (st : List Value) (h : VG) (a : Nat) (ho : ob h a 11) (hr : isR h a 60) : ev 229 53 L (.ref a :: st) h = ev 229 56 L (.ref (gR h a 60) :: st) h := G_getR (p := 1073) f229_53 lkF_12_126 (by decide) (by decide) ho hr
theorem f229_56 : fetch 229 56 = some (.bipush 8, 2) := vtab tk229 33 rfl
theorem e229_56 (L : VL) (st : List Value) (h : VG) : ev 229 56 L (st) h = ev 229 58 L (.int (8 : Int32) :: st) h := G_bipush f229_56 (by decide)
theorem f229_58 : fetch 229 58 = some (.iload_n 1, 1) := vtab tk229 34 rfl
theorem e229_58 (l0 : Option Value) (L : VL) (st : List Value) (h : VG) (x : Int32) : ev 229 58 (l0 :: some (.int x) :: L) (st) h = ev 229 59 (l0 :: some (.int x) :: L) (.int x :: st) h := G_iload_n f229_58 rfl
theorem f229_59 : fetch 229 59 = some (.imul, 1) := vtab tk229 35 rfl
theorem e229_59 (L : VL) (st : List Value) (h : VG) (x y : Int32) : ev 229 59 L (.int y :: .int x :: st) h = ev 229 60 L (.int (x * y) :: st) h := G_imul f229_59
theorem f229_60 : fetch 229 60 = some (.iload_n 2, 1) := vtab tk229 36 rfl
theorem e229_60 (l0 l1 : Option Value) (L : VL) (st : List Value) (h : VG) (x : Int32) : ev 229 60 (l0 :: l1 :: some (.int x) :: L) (st) h = ev 229 61 (l0 :: l1 :: some (.int x) :: L) (.int x :: st) h := G_iload_n f229_60 rfl
theorem f229_61 : fetch 229 61 = some (.iadd, 1) := vtab tk229 37 rfl
theorem e229_61 (L : VL) (st : List Value) (h : VG) (x y : Int32) : ev 229 61 L (.int y :: .int x :: st) h = ev 229 62 L (.int (x + y) :: st) h := G_iadd f229_61
theorem f229_62 : fetch 229 62 = some (.aload_n 0, 1) := vtab tk229 38 rfl
theorem e229_62 (L : VL) (st : List Value) (h : VG) (x : Nat) : ev 229 62 (some (.ref x) :: L) (st) h = ev 229 63 (some (.ref x) :: L) (.ref x :: st) h := G_aload_n f229_62 rfl
theorem f229_63 : fetch 229 63 = some (.getfield 76, 3) := vtab tk229 39 rfl
theorem e229_63 (L : VL) (st : List Value) (h : VG) (a : Nat) (ho : ob h a 11) (hr : isR h a 42) : ev 229 63 L (.ref a :: st) h = ev 229 66 L (.ref (gR h a 42) :: st) h := G_getR (p := 1055) f229_63 lkF_12_76 (by decide) (by decide) ho hr
theorem f229_66 : fetch 229 66 = some (.iload_n 2, 1) := vtab tk229 40 rfl
theorem e229_66 (l0 l1 : Option Value) (L : VL) (st : List Value) (h : VG) (x : Int32) : ev 229 66 (l0 :: l1 :: some (.int x) :: L) (st) h = ev 229 67 (l0 :: l1 :: some (.int x) :: L) (.int x :: st) h := G_iload_n f229_66 rfl
theorem f229_67 : fetch 229 67 = some (.iaload, 1) := vtab tk229 41 rfl
theorem e229_67 (L : VL) (st : List Value) (h : VG) (a : Nat) (i : Int32) (ha : rdI h a) (hi : vp_in i (aln h a)) : ev 229 67 L (.int i :: .ref a :: st) h = ev 229 68 L (.int (aI h a i.toNatClampNeg) :: st) h := G_iald' f229_67 ha hi
theorem f229_68 : fetch 229 68 = some (.iastore, 1) := vtab tk229 42 rfl
theorem e229_68 (L : VL) (st : List Value) (h : VG) (a : Nat) (i : Int32) (x : Int32) (ha : arI h a 0) (hi : vp_in i (aln h a)) : ev 229 68 L (.int x :: .int i :: .ref a :: st) h = ev 229 69 L (st) (wI h a i.toNatClampNeg x) := G_iast f229_68 ha hi
theorem f229_69 : fetch 229 69 = some (.aload_n 0, 1) := vtab tk229 43 rfl
theorem e229_69 (L : VL) (st : List Value) (h : VG) (x : Nat) : ev 229 69 (some (.ref x) :: L) (st) h = ev 229 70 (some (.ref x) :: L) (.ref x :: st) h := G_aload_n f229_69 rfl
theorem f229_70 : fetch 229 70 = some (.getfield 129, 3) := vtab tk229 44 rfl
theorem e229_70 (L : VL) (st : List Value) (h : VG) (a : Nat) (ho : ob h a 11) (hr : isR h a 61) : ev 229 70 L (.ref a :: st) h = ev 229 73 L (.ref (gR h a 61) :: st) h := G_getR (p := 1074) f229_70 lkF_12_129 (by decide) (by decide) ho hr
theorem f229_73 : fetch 229 73 = some (.bipush 8, 2) := vtab tk229 45 rfl
theorem e229_73 (L : VL) (st : List Value) (h : VG) : ev 229 73 L (st) h = ev 229 75 L (.int (8 : Int32) :: st) h := G_bipush f229_73 (by decide)
theorem f229_75 : fetch 229 75 = some (.iload_n 1, 1) := vtab tk229 46 rfl
theorem e229_75 (l0 : Option Value) (L : VL) (st : List Value) (h : VG) (x : Int32) : ev 229 75 (l0 :: some (.int x) :: L) (st) h = ev 229 76 (l0 :: some (.int x) :: L) (.int x :: st) h := G_iload_n f229_75 rfl
theorem f229_76 : fetch 229 76 = some (.imul, 1) := vtab tk229 47 rfl
theorem e229_76 (L : VL) (st : List Value) (h : VG) (x y : Int32) : ev 229 76 L (.int y :: .int x :: st) h = ev 229 77 L (.int (x * y) :: st) h := G_imul f229_76
theorem f229_77 : fetch 229 77 = some (.iload_n 2, 1) := vtab tk229 48 rfl
theorem e229_77 (l0 l1 : Option Value) (L : VL) (st : List Value) (h : VG) (x : Int32) : ev 229 77 (l0 :: l1 :: some (.int x) :: L) (st) h = ev 229 78 (l0 :: l1 :: some (.int x) :: L) (.int x :: st) h := G_iload_n f229_77 rfl
theorem f229_78 : fetch 229 78 = some (.iadd, 1) := vtab tk229 49 rfl
theorem e229_78 (L : VL) (st : List Value) (h : VG) (x y : Int32) : ev 229 78 L (.int y :: .int x :: st) h = ev 229 79 L (.int (x + y) :: st) h := G_iadd f229_78
theorem f229_79 : fetch 229 79 = some (.aload_n 0, 1) := vtab tk229 50 rfl
theorem e229_79 (L : VL) (st : List Value) (h : VG) (x : Nat) : ev 229 79 (some (.ref x) :: L) (st) h = ev 229 80 (some (.ref x) :: L) (.ref x :: st) h := G_aload_n f229_79 rfl
theorem f229_80 : fetch 229 80 = some (.getfield 79, 3) := vtab tk229 51 rfl
theorem e229_80 (L : VL) (st : List Value) (h : VG) (a : Nat) (ho : ob h a 11) (hr : isR h a 43) : ev 229 80 L (.ref a :: st) h = ev 229 83 L (.ref (gR h a 43) :: st) h := G_getR (p := 1056) f229_80 lkF_12_79 (by decide) (by decide) ho hr
theorem f229_83 : fetch 229 83 = some (.iload_n 2, 1) := vtab tk229 52 rfl
theorem e229_83 (l0 l1 : Option Value) (L : VL) (st : List Value) (h : VG) (x : Int32) : ev 229 83 (l0 :: l1 :: some (.int x) :: L) (st) h = ev 229 84 (l0 :: l1 :: some (.int x) :: L) (.int x :: st) h := G_iload_n f229_83 rfl
theorem f229_84 : fetch 229 84 = some (.iaload, 1) := vtab tk229 53 rfl
theorem e229_84 (L : VL) (st : List Value) (h : VG) (a : Nat) (i : Int32) (ha : rdI h a) (hi : vp_in i (aln h a)) : ev 229 84 L (.int i :: .ref a :: st) h = ev 229 85 L (.int (aI h a i.toNatClampNeg) :: st) h := G_iald' f229_84 ha hi
theorem f229_85 : fetch 229 85 = some (.iastore, 1) := vtab tk229 54 rfl
theorem e229_85 (L : VL) (st : List Value) (h : VG) (a : Nat) (i : Int32) (x : Int32) (ha : arI h a 0) (hi : vp_in i (aln h a)) : ev 229 85 L (.int x :: .int i :: .ref a :: st) h = ev 229 86 L (st) (wI h a i.toNatClampNeg x) := G_iast f229_85 ha hi
theorem f229_86 : fetch 229 86 = some (.aload_n 0, 1) := vtab tk229 55 rfl
theorem e229_86 (L : VL) (st : List Value) (h : VG) (x : Nat) : ev 229 86 (some (.ref x) :: L) (st) h = ev 229 87 (some (.ref x) :: L) (.ref x :: st) h := G_aload_n f229_86 rfl
theorem f229_87 : fetch 229 87 = some (.getfield 141, 3) := vtab tk229 56 rfl
theorem e229_87 (L : VL) (st : List Value) (h : VG) (a : Nat) (ho : ob h a 11) (hr : isR h a 65) : ev 229 87 L (.ref a :: st) h = ev 229 90 L (.ref (gR h a 65) :: st) h := G_getR (p := 1078) f229_87 lkF_12_141 (by decide) (by decide) ho hr
theorem f229_90 : fetch 229 90 = some (.bipush 8, 2) := vtab tk229 57 rfl
theorem e229_90 (L : VL) (st : List Value) (h : VG) : ev 229 90 L (st) h = ev 229 92 L (.int (8 : Int32) :: st) h := G_bipush f229_90 (by decide)
theorem f229_92 : fetch 229 92 = some (.iload_n 1, 1) := vtab tk229 58 rfl
theorem e229_92 (l0 : Option Value) (L : VL) (st : List Value) (h : VG) (x : Int32) : ev 229 92 (l0 :: some (.int x) :: L) (st) h = ev 229 93 (l0 :: some (.int x) :: L) (.int x :: st) h := G_iload_n f229_92 rfl
theorem f229_93 : fetch 229 93 = some (.imul, 1) := vtab tk229 59 rfl
theorem e229_93 (L : VL) (st : List Value) (h : VG) (x y : Int32) : ev 229 93 L (.int y :: .int x :: st) h = ev 229 94 L (.int (x * y) :: st) h := G_imul f229_93
theorem f229_94 : fetch 229 94 = some (.iload_n 2, 1) := vtab tk229 60 rfl
theorem e229_94 (l0 l1 : Option Value) (L : VL) (st : List Value) (h : VG) (x : Int32) : ev 229 94 (l0 :: l1 :: some (.int x) :: L) (st) h = ev 229 95 (l0 :: l1 :: some (.int x) :: L) (.int x :: st) h := G_iload_n f229_94 rfl
theorem f229_95 : fetch 229 95 = some (.iadd, 1) := vtab tk229 61 rfl
theorem e229_95 (L : VL) (st : List Value) (h : VG) (x y : Int32) : ev 229 95 L (.int y :: .int x :: st) h = ev 229 96 L (.int (x + y) :: st) h := G_iadd f229_95
theorem f229_96 : fetch 229 96 = some (.aload_n 0, 1) := vtab tk229 62 rfl
theorem e229_96 (L : VL) (st : List Value) (h : VG) (x : Nat) : ev 229 96 (some (.ref x) :: L) (st) h = ev 229 97 (some (.ref x) :: L) (.ref x :: st) h := G_aload_n f229_96 rfl
theorem f229_97 : fetch 229 97 = some (.getfield 117, 3) := vtab tk229 63 rfl
theorem e229_97 (L : VL) (st : List Value) (h : VG) (a : Nat) (ho : ob h a 11) (hr : isR h a 56) : ev 229 97 L (.ref a :: st) h = ev 229 100 L (.ref (gR h a 56) :: st) h := G_getR (p := 1069) f229_97 lkF_12_117 (by decide) (by decide) ho hr
theorem f229_100 : fetch 229 100 = some (.iload_n 2, 1) := vtab tk229 64 rfl
theorem e229_100 (l0 l1 : Option Value) (L : VL) (st : List Value) (h : VG) (x : Int32) : ev 229 100 (l0 :: l1 :: some (.int x) :: L) (st) h = ev 229 101 (l0 :: l1 :: some (.int x) :: L) (.int x :: st) h := G_iload_n f229_100 rfl
theorem f229_101 : fetch 229 101 = some (.laload, 1) := vtab tk229 65 rfl
theorem e229_101 (L : VL) (st : List Value) (h : VG) (a : Nat) (i : Int32) (ha : arL h a) (hi : vp_in i (aln h a)) : ev 229 101 L (.int i :: .ref a :: st) h = ev 229 102 L (.long (aL h a i.toNatClampNeg) :: st) h := G_lald f229_101 ha hi
theorem f229_102 : fetch 229 102 = some (.lastore, 1) := vtab tk229 66 rfl
theorem e229_102 (L : VL) (st : List Value) (h : VG) (a : Nat) (i : Int32) (x : Int64) (ha : arL h a) (hi : vp_in i (aln h a)) : ev 229 102 L (.long x :: .int i :: .ref a :: st) h = ev 229 103 L (st) (wL h a i.toNatClampNeg x) := G_last f229_102 ha hi
theorem f229_103 : fetch 229 103 = some (.iinc 2 1, 3) := vtab tk229 67 rfl
theorem e229_103 (l0 l1 : Option Value) (L : VL) (st : List Value) (h : VG) (x : Int32) : ev 229 103 (l0 :: l1 :: some (.int x) :: L) (st) h = ev 229 106 (l0 :: vkk l1 :: some (.int (x + (1 : Int32))) :: L) (st) h := G_iinc f229_103 rfl (by decide) (S1_2 l0 l1 (some (.int x)) L _)
theorem f229_106 : fetch 229 106 = some (.goto (-60), 3) := vtab tk229 68 rfl
theorem e229_106 (L : VL) (st : List Value) (h : VG) : ev 229 106 L (st) h = ev 229 46 L (st) h := G_goto f229_106 (by decide)
theorem f229_109 : fetch 229 109 = some (.iconst 0, 1) := vtab tk229 69 rfl
theorem e229_109 (L : VL) (st : List Value) (h : VG) : ev 229 109 L (st) h = ev 229 110 L (.int (0 : Int32) :: st) h := G_iconst f229_109 (by decide)
theorem f229_110 : fetch 229 110 = some (.istore_n 2, 1) := vtab tk229 70 rfl
theorem e229_110 (l0 l1 l2 : Option Value) (L : VL) (st : List Value) (h : VG) (x : Int32) : ev 229 110 (l0 :: l1 :: l2 :: L) (.int x :: st) h = ev 229 111 (l0 :: vkk l1 :: some (.int x) :: L) (st) h := G_istore_n f229_110 rfl (S1_2 l0 l1 l2 L _)
theorem f229_111 : fetch 229 111 = some (.iload_n 2, 1) := vtab tk229 71 rfl
theorem e229_111 (l0 l1 : Option Value) (L : VL) (st : List Value) (h : VG) (x : Int32) : ev 229 111 (l0 :: l1 :: some (.int x) :: L) (st) h = ev 229 112 (l0 :: l1 :: some (.int x) :: L) (.int x :: st) h := G_iload_n f229_111 rfl
theorem f229_112 : fetch 229 112 = some (.sipush 320, 3) := vtab tk229 72 rfl
theorem e229_112 (L : VL) (st : List Value) (h : VG) : ev 229 112 L (st) h = ev 229 115 L (.int (320 : Int32) :: st) h := G_sipush f229_112 (by decide)
theorem f229_115 : fetch 229 115 = some (.if_icmp .ge 63, 3) := vtab tk229 73 rfl
theorem e229_115 (L : VL) (st : List Value) (h : VG) (x y : Int32) : ev 229 115 L (.int y :: .int x :: st) h = if x < y then ev 229 118 L st h else ev 229 178 L st h := G_icmp_ge f229_115 (by decide)
theorem f229_118 : fetch 229 118 = some (.aload_n 0, 1) := vtab tk229 74 rfl
theorem e229_118 (L : VL) (st : List Value) (h : VG) (x : Nat) : ev 229 118 (some (.ref x) :: L) (st) h = ev 229 119 (some (.ref x) :: L) (.ref x :: st) h := G_aload_n f229_118 rfl
theorem f229_119 : fetch 229 119 = some (.getfield 132, 3) := vtab tk229 75 rfl
theorem e229_119 (L : VL) (st : List Value) (h : VG) (a : Nat) (ho : ob h a 11) (hr : isR h a 62) : ev 229 119 L (.ref a :: st) h = ev 229 122 L (.ref (gR h a 62) :: st) h := G_getR (p := 1075) f229_119 lkF_12_132 (by decide) (by decide) ho hr
theorem f229_122 : fetch 229 122 = some (.sipush 320, 3) := vtab tk229 76 rfl
theorem e229_122 (L : VL) (st : List Value) (h : VG) : ev 229 122 L (st) h = ev 229 125 L (.int (320 : Int32) :: st) h := G_sipush f229_122 (by decide)
theorem f229_125 : fetch 229 125 = some (.iload_n 1, 1) := vtab tk229 77 rfl
theorem e229_125 (l0 : Option Value) (L : VL) (st : List Value) (h : VG) (x : Int32) : ev 229 125 (l0 :: some (.int x) :: L) (st) h = ev 229 126 (l0 :: some (.int x) :: L) (.int x :: st) h := G_iload_n f229_125 rfl
theorem f229_126 : fetch 229 126 = some (.imul, 1) := vtab tk229 78 rfl
theorem e229_126 (L : VL) (st : List Value) (h : VG) (x y : Int32) : ev 229 126 L (.int y :: .int x :: st) h = ev 229 127 L (.int (x * y) :: st) h := G_imul f229_126
theorem f229_127 : fetch 229 127 = some (.iload_n 2, 1) := vtab tk229 79 rfl
theorem e229_127 (l0 l1 : Option Value) (L : VL) (st : List Value) (h : VG) (x : Int32) : ev 229 127 (l0 :: l1 :: some (.int x) :: L) (st) h = ev 229 128 (l0 :: l1 :: some (.int x) :: L) (.int x :: st) h := G_iload_n f229_127 rfl
theorem f229_128 : fetch 229 128 = some (.iadd, 1) := vtab tk229 80 rfl
theorem e229_128 (L : VL) (st : List Value) (h : VG) (x y : Int32) : ev 229 128 L (.int y :: .int x :: st) h = ev 229 129 L (.int (x + y) :: st) h := G_iadd f229_128
theorem f229_129 : fetch 229 129 = some (.aload_n 0, 1) := vtab tk229 81 rfl
theorem e229_129 (L : VL) (st : List Value) (h : VG) (x : Nat) : ev 229 129 (some (.ref x) :: L) (st) h = ev 229 130 (some (.ref x) :: L) (.ref x :: st) h := G_aload_n f229_129 rfl
theorem f229_130 : fetch 229 130 = some (.getfield 82, 3) := vtab tk229 82 rfl
theorem e229_130 (L : VL) (st : List Value) (h : VG) (a : Nat) (ho : ob h a 11) (hr : isR h a 44) : ev 229 130 L (.ref a :: st) h = ev 229 133 L (.ref (gR h a 44) :: st) h := G_getR (p := 1057) f229_130 lkF_12_82 (by decide) (by decide) ho hr
theorem f229_133 : fetch 229 133 = some (.iload_n 2, 1) := vtab tk229 83 rfl
theorem e229_133 (l0 l1 : Option Value) (L : VL) (st : List Value) (h : VG) (x : Int32) : ev 229 133 (l0 :: l1 :: some (.int x) :: L) (st) h = ev 229 134 (l0 :: l1 :: some (.int x) :: L) (.int x :: st) h := G_iload_n f229_133 rfl
theorem f229_134 : fetch 229 134 = some (.iaload, 1) := vtab tk229 84 rfl
theorem e229_134 (L : VL) (st : List Value) (h : VG) (a : Nat) (i : Int32) (ha : rdI h a) (hi : vp_in i (aln h a)) : ev 229 134 L (.int i :: .ref a :: st) h = ev 229 135 L (.int (aI h a i.toNatClampNeg) :: st) h := G_iald' f229_134 ha hi
theorem f229_135 : fetch 229 135 = some (.iastore, 1) := vtab tk229 85 rfl
theorem e229_135 (L : VL) (st : List Value) (h : VG) (a : Nat) (i : Int32) (x : Int32) (ha : arI h a 0) (hi : vp_in i (aln h a)) : ev 229 135 L (.int x :: .int i :: .ref a :: st) h = ev 229 136 L (st) (wI h a i.toNatClampNeg x) := G_iast f229_135 ha hi
theorem f229_136 : fetch 229 136 = some (.aload_n 0, 1) := vtab tk229 86 rfl
theorem e229_136 (L : VL) (st : List Value) (h : VG) (x : Nat) : ev 229 136 (some (.ref x) :: L) (st) h = ev 229 137 (some (.ref x) :: L) (.ref x :: st) h := G_aload_n f229_136 rfl
theorem f229_137 : fetch 229 137 = some (.getfield 135, 3) := vtab tk229 87 rfl
theorem e229_137 (L : VL) (st : List Value) (h : VG) (a : Nat) (ho : ob h a 11) (hr : isR h a 63) : ev 229 137 L (.ref a :: st) h = ev 229 140 L (.ref (gR h a 63) :: st) h := G_getR (p := 1076) f229_137 lkF_12_135 (by decide) (by decide) ho hr
theorem f229_140 : fetch 229 140 = some (.sipush 320, 3) := vtab tk229 88 rfl
theorem e229_140 (L : VL) (st : List Value) (h : VG) : ev 229 140 L (st) h = ev 229 143 L (.int (320 : Int32) :: st) h := G_sipush f229_140 (by decide)
theorem f229_143 : fetch 229 143 = some (.iload_n 1, 1) := vtab tk229 89 rfl
theorem e229_143 (l0 : Option Value) (L : VL) (st : List Value) (h : VG) (x : Int32) : ev 229 143 (l0 :: some (.int x) :: L) (st) h = ev 229 144 (l0 :: some (.int x) :: L) (.int x :: st) h := G_iload_n f229_143 rfl
theorem f229_144 : fetch 229 144 = some (.imul, 1) := vtab tk229 90 rfl
theorem e229_144 (L : VL) (st : List Value) (h : VG) (x y : Int32) : ev 229 144 L (.int y :: .int x :: st) h = ev 229 145 L (.int (x * y) :: st) h := G_imul f229_144
theorem f229_145 : fetch 229 145 = some (.iload_n 2, 1) := vtab tk229 91 rfl
theorem e229_145 (l0 l1 : Option Value) (L : VL) (st : List Value) (h : VG) (x : Int32) : ev 229 145 (l0 :: l1 :: some (.int x) :: L) (st) h = ev 229 146 (l0 :: l1 :: some (.int x) :: L) (.int x :: st) h := G_iload_n f229_145 rfl
theorem f229_146 : fetch 229 146 = some (.iadd, 1) := vtab tk229 92 rfl
theorem e229_146 (L : VL) (st : List Value) (h : VG) (x y : Int32) : ev 229 146 L (.int y :: .int x :: st) h = ev 229 147 L (.int (x + y) :: st) h := G_iadd f229_146
theorem f229_147 : fetch 229 147 = some (.aload_n 0, 1) := vtab tk229 93 rfl
theorem e229_147 (L : VL) (st : List Value) (h : VG) (x : Nat) : ev 229 147 (some (.ref x) :: L) (st) h = ev 229 148 (some (.ref x) :: L) (.ref x :: st) h := G_aload_n f229_147 rfl
theorem f229_148 : fetch 229 148 = some (.getfield 85, 3) := vtab tk229 94 rfl
theorem e229_148 (L : VL) (st : List Value) (h : VG) (a : Nat) (ho : ob h a 11) (hr : isR h a 45) : ev 229 148 L (.ref a :: st) h = ev 229 151 L (.ref (gR h a 45) :: st) h := G_getR (p := 1058) f229_148 lkF_12_85 (by decide) (by decide) ho hr
theorem f229_151 : fetch 229 151 = some (.iload_n 2, 1) := vtab tk229 95 rfl
theorem e229_151 (l0 l1 : Option Value) (L : VL) (st : List Value) (h : VG) (x : Int32) : ev 229 151 (l0 :: l1 :: some (.int x) :: L) (st) h = ev 229 152 (l0 :: l1 :: some (.int x) :: L) (.int x :: st) h := G_iload_n f229_151 rfl
theorem f229_152 : fetch 229 152 = some (.laload, 1) := vtab tk229 96 rfl
theorem e229_152 (L : VL) (st : List Value) (h : VG) (a : Nat) (i : Int32) (ha : arL h a) (hi : vp_in i (aln h a)) : ev 229 152 L (.int i :: .ref a :: st) h = ev 229 153 L (.long (aL h a i.toNatClampNeg) :: st) h := G_lald f229_152 ha hi
theorem f229_153 : fetch 229 153 = some (.lastore, 1) := vtab tk229 97 rfl
theorem e229_153 (L : VL) (st : List Value) (h : VG) (a : Nat) (i : Int32) (x : Int64) (ha : arL h a) (hi : vp_in i (aln h a)) : ev 229 153 L (.long x :: .int i :: .ref a :: st) h = ev 229 154 L (st) (wL h a i.toNatClampNeg x) := G_last f229_153 ha hi
theorem f229_154 : fetch 229 154 = some (.aload_n 0, 1) := vtab tk229 98 rfl
theorem e229_154 (L : VL) (st : List Value) (h : VG) (x : Nat) : ev 229 154 (some (.ref x) :: L) (st) h = ev 229 155 (some (.ref x) :: L) (.ref x :: st) h := G_aload_n f229_154 rfl
theorem f229_155 : fetch 229 155 = some (.getfield 138, 3) := vtab tk229 99 rfl
theorem e229_155 (L : VL) (st : List Value) (h : VG) (a : Nat) (ho : ob h a 11) (hr : isR h a 64) : ev 229 155 L (.ref a :: st) h = ev 229 158 L (.ref (gR h a 64) :: st) h := G_getR (p := 1077) f229_155 lkF_12_138 (by decide) (by decide) ho hr
theorem f229_158 : fetch 229 158 = some (.sipush 320, 3) := vtab tk229 100 rfl
theorem e229_158 (L : VL) (st : List Value) (h : VG) : ev 229 158 L (st) h = ev 229 161 L (.int (320 : Int32) :: st) h := G_sipush f229_158 (by decide)
theorem f229_161 : fetch 229 161 = some (.iload_n 1, 1) := vtab tk229 101 rfl
theorem e229_161 (l0 : Option Value) (L : VL) (st : List Value) (h : VG) (x : Int32) : ev 229 161 (l0 :: some (.int x) :: L) (st) h = ev 229 162 (l0 :: some (.int x) :: L) (.int x :: st) h := G_iload_n f229_161 rfl
theorem f229_162 : fetch 229 162 = some (.imul, 1) := vtab tk229 102 rfl
theorem e229_162 (L : VL) (st : List Value) (h : VG) (x y : Int32) : ev 229 162 L (.int y :: .int x :: st) h = ev 229 163 L (.int (x * y) :: st) h := G_imul f229_162
theorem f229_163 : fetch 229 163 = some (.iload_n 2, 1) := vtab tk229 103 rfl
theorem e229_163 (l0 l1 : Option Value) (L : VL) (st : List Value) (h : VG) (x : Int32) : ev 229 163 (l0 :: l1 :: some (.int x) :: L) (st) h = ev 229 164 (l0 :: l1 :: some (.int x) :: L) (.int x :: st) h := G_iload_n f229_163 rfl
theorem f229_164 : fetch 229 164 = some (.iadd, 1) := vtab tk229 104 rfl
theorem e229_164 (L : VL) (st : List Value) (h : VG) (x y : Int32) : ev 229 164 L (.int y :: .int x :: st) h = ev 229 165 L (.int (x + y) :: st) h := G_iadd f229_164
theorem f229_165 : fetch 229 165 = some (.aload_n 0, 1) := vtab tk229 105 rfl
theorem e229_165 (L : VL) (st : List Value) (h : VG) (x : Nat) : ev 229 165 (some (.ref x) :: L) (st) h = ev 229 166 (some (.ref x) :: L) (.ref x :: st) h := G_aload_n f229_165 rfl
theorem f229_166 : fetch 229 166 = some (.getfield 88, 3) := vtab tk229 106 rfl
theorem e229_166 (L : VL) (st : List Value) (h : VG) (a : Nat) (ho : ob h a 11) (hr : isR h a 46) : ev 229 166 L (.ref a :: st) h = ev 229 169 L (.ref (gR h a 46) :: st) h := G_getR (p := 1059) f229_166 lkF_12_88 (by decide) (by decide) ho hr
theorem f229_169 : fetch 229 169 = some (.iload_n 2, 1) := vtab tk229 107 rfl
theorem e229_169 (l0 l1 : Option Value) (L : VL) (st : List Value) (h : VG) (x : Int32) : ev 229 169 (l0 :: l1 :: some (.int x) :: L) (st) h = ev 229 170 (l0 :: l1 :: some (.int x) :: L) (.int x :: st) h := G_iload_n f229_169 rfl
theorem f229_170 : fetch 229 170 = some (.daload, 1) := vtab tk229 108 rfl
theorem e229_170 (L : VL) (st : List Value) (h : VG) (a : Nat) (i : Int32) (ha : arD h a) (hi : vp_in i (aln h a)) : ev 229 170 L (.int i :: .ref a :: st) h = ev 229 171 L (.double (aD h a i.toNatClampNeg) :: st) h := G_dald f229_170 ha hi
theorem f229_171 : fetch 229 171 = some (.dastore, 1) := vtab tk229 109 rfl
theorem e229_171 (L : VL) (st : List Value) (h : VG) (a : Nat) (i : Int32) (x : UInt64) (ha : arD h a) (hi : vp_in i (aln h a)) : ev 229 171 L (.double x :: .int i :: .ref a :: st) h = ev 229 172 L (st) (wD h a i.toNatClampNeg x) := G_dast f229_171 ha hi
theorem f229_172 : fetch 229 172 = some (.iinc 2 1, 3) := vtab tk229 110 rfl
theorem e229_172 (l0 l1 : Option Value) (L : VL) (st : List Value) (h : VG) (x : Int32) : ev 229 172 (l0 :: l1 :: some (.int x) :: L) (st) h = ev 229 175 (l0 :: vkk l1 :: some (.int (x + (1 : Int32))) :: L) (st) h := G_iinc f229_172 rfl (by decide) (S1_2 l0 l1 (some (.int x)) L _)
theorem f229_175 : fetch 229 175 = some (.goto (-64), 3) := vtab tk229 111 rfl
theorem e229_175 (L : VL) (st : List Value) (h : VG) : ev 229 175 L (st) h = ev 229 111 L (st) h := G_goto f229_175 (by decide)
theorem f229_178 : fetch 229 178 = some (.aload_n 0, 1) := vtab tk229 112 rfl
theorem e229_178 (L : VL) (st : List Value) (h : VG) (x : Nat) : ev 229 178 (some (.ref x) :: L) (st) h = ev 229 179 (some (.ref x) :: L) (.ref x :: st) h := G_aload_n f229_178 rfl
theorem f229_179 : fetch 229 179 = some (.getfield 144, 3) := vtab tk229 113 rfl
theorem e229_179 (L : VL) (st : List Value) (h : VG) (a : Nat) (ho : ob h a 11) (hr : isR h a 66) : ev 229 179 L (.ref a :: st) h = ev 229 182 L (.ref (gR h a 66) :: st) h := G_getR (p := 1079) f229_179 lkF_12_144 (by decide) (by decide) ho hr
theorem f229_182 : fetch 229 182 = some (.iload_n 1, 1) := vtab tk229 114 rfl
theorem e229_182 (l0 : Option Value) (L : VL) (st : List Value) (h : VG) (x : Int32) : ev 229 182 (l0 :: some (.int x) :: L) (st) h = ev 229 183 (l0 :: some (.int x) :: L) (.int x :: st) h := G_iload_n f229_182 rfl
theorem f229_183 : fetch 229 183 = some (.aload_n 0, 1) := vtab tk229 115 rfl
theorem e229_183 (L : VL) (st : List Value) (h : VG) (x : Nat) : ev 229 183 (some (.ref x) :: L) (st) h = ev 229 184 (some (.ref x) :: L) (.ref x :: st) h := G_aload_n f229_183 rfl
theorem f229_184 : fetch 229 184 = some (.getfield 241, 3) := vtab tk229 116 rfl
theorem e229_184 (L : VL) (st : List Value) (h : VG) (a : Nat) (ho : ob h a 11) : ev 229 184 L (.ref a :: st) h = ev 229 187 L (.int (gI h a 57) :: st) h := G_getI (p := 1070) f229_184 lkF_12_241 (by decide) (by decide) ho
theorem f229_187 : fetch 229 187 = some (.iastore, 1) := vtab tk229 117 rfl
theorem e229_187 (L : VL) (st : List Value) (h : VG) (a : Nat) (i : Int32) (x : Int32) (ha : arI h a 0) (hi : vp_in i (aln h a)) : ev 229 187 L (.int x :: .int i :: .ref a :: st) h = ev 229 188 L (st) (wI h a i.toNatClampNeg x) := G_iast f229_187 ha hi
theorem f229_188 : fetch 229 188 = some (.aload_n 0, 1) := vtab tk229 118 rfl
theorem e229_188 (L : VL) (st : List Value) (h : VG) (x : Nat) : ev 229 188 (some (.ref x) :: L) (st) h = ev 229 189 (some (.ref x) :: L) (.ref x :: st) h := G_aload_n f229_188 rfl
theorem f229_189 : fetch 229 189 = some (.getfield 120, 3) := vtab tk229 119 rfl
theorem e229_189 (L : VL) (st : List Value) (h : VG) (a : Nat) (ho : ob h a 11) (hr : isR h a 58) : ev 229 189 L (.ref a :: st) h = ev 229 192 L (.ref (gR h a 58) :: st) h := G_getR (p := 1071) f229_189 lkF_12_120 (by decide) (by decide) ho hr
theorem f229_192 : fetch 229 192 = some (.iload_n 1, 1) := vtab tk229 120 rfl
theorem e229_192 (l0 : Option Value) (L : VL) (st : List Value) (h : VG) (x : Int32) : ev 229 192 (l0 :: some (.int x) :: L) (st) h = ev 229 193 (l0 :: some (.int x) :: L) (.int x :: st) h := G_iload_n f229_192 rfl
theorem f229_193 : fetch 229 193 = some (.iconst 1, 1) := vtab tk229 121 rfl
theorem e229_193 (L : VL) (st : List Value) (h : VG) : ev 229 193 L (st) h = ev 229 194 L (.int (1 : Int32) :: st) h := G_iconst f229_193 (by decide)
theorem f229_194 : fetch 229 194 = some (.bastore, 1) := vtab tk229 122 rfl
theorem e229_194 (L : VL) (st : List Value) (h : VG) (a : Nat) (i : Int32) (x : Int32) (ha : arI h a 2) (hi : vp_in i (aln h a)) : ev 229 194 L (.int x :: .int i :: .ref a :: st) h = ev 229 195 L (st) (wI h a i.toNatClampNeg (vp_nar .byte x)) := G_bast f229_194 ha hi
theorem e229_194z (L : VL) (st : List Value) (h : VG) (a : Nat) (i : Int32) (x : Int32) (ha : arI h a 3) (hi : vp_in i (aln h a)) : ev 229 194 L (.int x :: .int i :: .ref a :: st) h = ev 229 195 L (st) (wI h a i.toNatClampNeg (vp_nar .boolean x)) := G_zast f229_194 ha hi
theorem f229_195 : fetch 229 195 = some (.iconst 1, 1) := vtab tk229 123 rfl
theorem e229_195 (L : VL) (st : List Value) (h : VG) : ev 229 195 L (st) h = ev 229 196 L (.int (1 : Int32) :: st) h := G_iconst f229_195 (by decide)
theorem f229_196 : fetch 229 196 = some (.ireturn, 1) := vtab tk229 124 rfl
theorem e229_196 (L : VL) (h : VG) (x : Int32) (hz : x = 0 ∨ x = 1) : ev 229 196 L [.int x] h = some (some (.int x), h) := G_iret f229_196 (ty := .boolean) (by decide) (vbool hz).1
/-! 230 GuestCallsModel.restore(I)Z -/
def tb230 : List (Nat × Instr × Nat) := [(0, .iload_n 1, 1), (1, .iconst 0, 1), (2, .iconst 1, 1), (3, .invokestatic 260, 3), (6, .ifCond .eq 12, 3), (9, .aload_n 0, 1), (10, .getfield 120, 3), (13, .iload_n 1, 1), (14, .baload, 1), (15, .ifCond .ne 5, 3), (18, .iconst 0, 1), (19, .ireturn, 1), (20, .iconst 0, 1), (21, .istore_n 2, 1), (22, .iload_n 2, 1), (23, .sipush 256, 3), (26, .if_icmp .ge 27, 3), (29, .aload_n 0, 1), (30, .getfield 52, 3), (33, .iload_n 2, 1), (34, .aload_n 0, 1), (35, .getfield 123, 3), (38, .sipush 256, 3), (41, .iload_n 1, 1), (42, .imul, 1), (43, .iload_n 2, 1), (44, .iadd, 1), (45, .iaload, 1), (46, .iastore, 1), (47, .iinc 2 1, 3), (50, .goto (-28), 3), (53, .iconst 0, 1), (54, .istore_n 2, 1), (55, .iload_n 2, 1), (56, .bipush 8, 2), (58, .if_icmp .ge 60, 3), (61, .aload_n 0, 1), (62, .getfield 76, 3), (65, .iload_n 2, 1), (66, .aload_n 0, 1), (67, .getfield 126, 3), (70, .bipush 8, 2), (72, .iload_n 1, 1), (73, .imul, 1), (74, .iload_n 2, 1), (75, .iadd, 1), (76, .iaload, 1), (77, .iastore, 1), (78, .aload_n 0, 1), (79, .getfield 79, 3), (82, .iload_n 2, 1), (83, .aload_n 0, 1), (84, .getfield 129, 3), (87, .bipush 8, 2), (89, .iload_n 1, 1), (90, .imul, 1), (91, .iload_n 2, 1), (92, .iadd, 1), (93, .iaload, 1), (94, .iastore, 1), (95, .aload_n 0, 1), (96, .getfield 117, 3), (99, .iload_n 2, 1), (100, .aload_n 0, 1), (101, .getfield 141, 3), (104, .bipush 8, 2), (106, .iload_n 1, 1), (107, .imul, 1), (108, .iload_n 2, 1), (109, .iadd, 1), (110, .laload, 1), (111, .lastore, 1), (112, .iinc 2 1, 3), (115, .goto (-60), 3), (118, .iconst 0, 1), (119, .istore_n 2, 1), (120, .iload_n 2, 1), (121, .sipush 320, 3), (124, .if_icmp .ge 63, 3), (127, .aload_n 0, 1), (128, .getfield 82, 3), (131, .iload_n 2, 1), (132, .aload_n 0, 1), (133, .getfield 132, 3), (136, .sipush 320, 3), (139, .iload_n 1, 1), (140, .imul, 1), (141, .iload_n 2, 1), (142, .iadd, 1), (143, .iaload, 1), (144, .iastore, 1), (145, .aload_n 0, 1), (146, .getfield 85, 3), (149, .iload_n 2, 1), (150, .aload_n 0, 1), (151, .getfield 135, 3), (154, .sipush 320, 3), (157, .iload_n 1, 1), (158, .imul, 1), (159, .iload_n 2, 1), (160, .iadd, 1), (161, .laload, 1), (162, .lastore, 1), (163, .aload_n 0, 1), (164, .getfield 88, 3), (167, .iload_n 2, 1), (168, .aload_n 0, 1), (169, .getfield 138, 3), (172, .sipush 320, 3), (175, .iload_n 1, 1), (176, .imul, 1), (177, .iload_n 2, 1), (178, .iadd, 1), (179, .daload, 1), (180, .dastore, 1), (181, .iinc 2 1, 3), (184, .goto (-64), 3), (187, .aload_n 0, 1), (188, .aload_n 0, 1), (189, .getfield 144, 3), (192, .iload_n 1, 1), (193, .iaload, 1), (194, .putfield 241, 3), (197, .iconst 1, 1), (198, .ireturn, 1)]
theorem tk230 : tb230.all (fun q => decide (fetch 230 q.1 = some q.2)) = true := by decide +kernel
theorem f230_0 : fetch 230 0 = some (.iload_n 1, 1) := vtab tk230 0 rfl
theorem e230_0 (l0 : Option Value) (L : VL) (st : List Value) (h : VG) (x : Int32) : ev 230 0 (l0 :: some (.int x) :: L) (st) h = ev 230 1 (l0 :: some (.int x) :: L) (.int x :: st) h := G_iload_n f230_0 rfl
theorem f230_1 : fetch 230 1 = some (.iconst 0, 1) := vtab tk230 1 rfl
theorem e230_1 (L : VL) (st : List Value) (h : VG) : ev 230 1 L (st) h = ev 230 2 L (.int (0 : Int32) :: st) h := G_iconst f230_1 (by decide)
theorem f230_2 : fetch 230 2 = some (.iconst 1, 1) := vtab tk230 2 rfl
theorem e230_2 (L : VL) (st : List Value) (h : VG) : ev 230 2 L (st) h = ev 230 3 L (.int (1 : Int32) :: st) h := G_iconst f230_2 (by decide)
theorem f230_3 : fetch 230 3 = some (.invokestatic 260, 3) := vtab tk230 3 rfl
theorem e230_3 (L : VL) (st : List Value) (h : VG) (x0 : Int32) (x1 : Int32) (x2 : Int32) (hs : catS st ≤ 8) : ev 230 3 L (.int x2 :: .int x1 :: .int x0 :: st) h = (ev 162 0 [some (.int x0), some (.int x1), some (.int x2)] [] h).bind fun q => ev 230 6 L (q.1.toList ++ st) q.2 := G_calls (k := 0) (p := 1286) (ars := [.int x0, .int x1, .int x2]) f230_3 lkC_12_260 (by decide) (by decide +kernel) rfl (Nat.le_of_ble_eq_true rfl) hs rfl
theorem f230_6 : fetch 230 6 = some (.ifCond .eq 12, 3) := vtab tk230 4 rfl
theorem e230_6 (L : VL) (st : List Value) (h : VG) (x : Int32) : ev 230 6 L (.int x :: st) h = if x = 0 then ev 230 18 L st h else ev 230 9 L st h := G_if_eq f230_6 (by decide)
theorem f230_9 : fetch 230 9 = some (.aload_n 0, 1) := vtab tk230 5 rfl
theorem e230_9 (L : VL) (st : List Value) (h : VG) (x : Nat) : ev 230 9 (some (.ref x) :: L) (st) h = ev 230 10 (some (.ref x) :: L) (.ref x :: st) h := G_aload_n f230_9 rfl
theorem f230_10 : fetch 230 10 = some (.getfield 120, 3) := vtab tk230 6 rfl
theorem e230_10 (L : VL) (st : List Value) (h : VG) (a : Nat) (ho : ob h a 11) (hr : isR h a 58) : ev 230 10 L (.ref a :: st) h = ev 230 13 L (.ref (gR h a 58) :: st) h := G_getR (p := 1071) f230_10 lkF_12_120 (by decide) (by decide) ho hr
theorem f230_13 : fetch 230 13 = some (.iload_n 1, 1) := vtab tk230 7 rfl
theorem e230_13 (l0 : Option Value) (L : VL) (st : List Value) (h : VG) (x : Int32) : ev 230 13 (l0 :: some (.int x) :: L) (st) h = ev 230 14 (l0 :: some (.int x) :: L) (.int x :: st) h := G_iload_n f230_13 rfl
theorem f230_14 : fetch 230 14 = some (.baload, 1) := vtab tk230 8 rfl
theorem e230_14 (L : VL) (st : List Value) (h : VG) (a : Nat) (i : Int32) (ha : rdB h a) (hi : vp_in i (aln h a)) : ev 230 14 L (.int i :: .ref a :: st) h = ev 230 15 L (.int (aI h a i.toNatClampNeg) :: st) h := G_bald' f230_14 ha hi
theorem f230_15 : fetch 230 15 = some (.ifCond .ne 5, 3) := vtab tk230 9 rfl
theorem e230_15 (L : VL) (st : List Value) (h : VG) (x : Int32) : ev 230 15 L (.int x :: st) h = if x = 0 then ev 230 18 L st h else ev 230 20 L st h := G_if_ne f230_15 (by decide)
theorem f230_18 : fetch 230 18 = some (.iconst 0, 1) := vtab tk230 10 rfl
theorem e230_18 (L : VL) (st : List Value) (h : VG) : ev 230 18 L (st) h = ev 230 19 L (.int (0 : Int32) :: st) h := G_iconst f230_18 (by decide)
theorem f230_19 : fetch 230 19 = some (.ireturn, 1) := vtab tk230 11 rfl
theorem e230_19 (L : VL) (h : VG) (x : Int32) (hz : x = 0 ∨ x = 1) : ev 230 19 L [.int x] h = some (some (.int x), h) := G_iret f230_19 (ty := .boolean) (by decide) (vbool hz).1
theorem f230_20 : fetch 230 20 = some (.iconst 0, 1) := vtab tk230 12 rfl
theorem e230_20 (L : VL) (st : List Value) (h : VG) : ev 230 20 L (st) h = ev 230 21 L (.int (0 : Int32) :: st) h := G_iconst f230_20 (by decide)
theorem f230_21 : fetch 230 21 = some (.istore_n 2, 1) := vtab tk230 13 rfl
theorem e230_21 (l0 l1 l2 : Option Value) (L : VL) (st : List Value) (h : VG) (x : Int32) : ev 230 21 (l0 :: l1 :: l2 :: L) (.int x :: st) h = ev 230 22 (l0 :: vkk l1 :: some (.int x) :: L) (st) h := G_istore_n f230_21 rfl (S1_2 l0 l1 l2 L _)
theorem f230_22 : fetch 230 22 = some (.iload_n 2, 1) := vtab tk230 14 rfl
theorem e230_22 (l0 l1 : Option Value) (L : VL) (st : List Value) (h : VG) (x : Int32) : ev 230 22 (l0 :: l1 :: some (.int x) :: L) (st) h = ev 230 23 (l0 :: l1 :: some (.int x) :: L) (.int x :: st) h := G_iload_n f230_22 rfl
theorem f230_23 : fetch 230 23 = some (.sipush 256, 3) := vtab tk230 15 rfl
theorem e230_23 (L : VL) (st : List Value) (h : VG) : ev 230 23 L (st) h = ev 230 26 L (.int (256 : Int32) :: st) h := G_sipush f230_23 (by decide)
theorem f230_26 : fetch 230 26 = some (.if_icmp .ge 27, 3) := vtab tk230 16 rfl
theorem e230_26 (L : VL) (st : List Value) (h : VG) (x y : Int32) : ev 230 26 L (.int y :: .int x :: st) h = if x < y then ev 230 29 L st h else ev 230 53 L st h := G_icmp_ge f230_26 (by decide)
theorem f230_29 : fetch 230 29 = some (.aload_n 0, 1) := vtab tk230 17 rfl
theorem e230_29 (L : VL) (st : List Value) (h : VG) (x : Nat) : ev 230 29 (some (.ref x) :: L) (st) h = ev 230 30 (some (.ref x) :: L) (.ref x :: st) h := G_aload_n f230_29 rfl
theorem f230_30 : fetch 230 30 = some (.getfield 52, 3) := vtab tk230 18 rfl
theorem e230_30 (L : VL) (st : List Value) (h : VG) (a : Nat) (ho : ob h a 11) (hr : isR h a 23) : ev 230 30 L (.ref a :: st) h = ev 230 33 L (.ref (gR h a 23) :: st) h := G_getR (p := 1036) f230_30 lkF_12_52 (by decide) (by decide) ho hr
theorem f230_33 : fetch 230 33 = some (.iload_n 2, 1) := vtab tk230 19 rfl
theorem e230_33 (l0 l1 : Option Value) (L : VL) (st : List Value) (h : VG) (x : Int32) : ev 230 33 (l0 :: l1 :: some (.int x) :: L) (st) h = ev 230 34 (l0 :: l1 :: some (.int x) :: L) (.int x :: st) h := G_iload_n f230_33 rfl
theorem f230_34 : fetch 230 34 = some (.aload_n 0, 1) := vtab tk230 20 rfl
theorem e230_34 (L : VL) (st : List Value) (h : VG) (x : Nat) : ev 230 34 (some (.ref x) :: L) (st) h = ev 230 35 (some (.ref x) :: L) (.ref x :: st) h := G_aload_n f230_34 rfl
theorem f230_35 : fetch 230 35 = some (.getfield 123, 3) := vtab tk230 21 rfl
theorem e230_35 (L : VL) (st : List Value) (h : VG) (a : Nat) (ho : ob h a 11) (hr : isR h a 59) : ev 230 35 L (.ref a :: st) h = ev 230 38 L (.ref (gR h a 59) :: st) h := G_getR (p := 1072) f230_35 lkF_12_123 (by decide) (by decide) ho hr
theorem f230_38 : fetch 230 38 = some (.sipush 256, 3) := vtab tk230 22 rfl
theorem e230_38 (L : VL) (st : List Value) (h : VG) : ev 230 38 L (st) h = ev 230 41 L (.int (256 : Int32) :: st) h := G_sipush f230_38 (by decide)
theorem f230_41 : fetch 230 41 = some (.iload_n 1, 1) := vtab tk230 23 rfl
theorem e230_41 (l0 : Option Value) (L : VL) (st : List Value) (h : VG) (x : Int32) : ev 230 41 (l0 :: some (.int x) :: L) (st) h = ev 230 42 (l0 :: some (.int x) :: L) (.int x :: st) h := G_iload_n f230_41 rfl
theorem f230_42 : fetch 230 42 = some (.imul, 1) := vtab tk230 24 rfl
theorem e230_42 (L : VL) (st : List Value) (h : VG) (x y : Int32) : ev 230 42 L (.int y :: .int x :: st) h = ev 230 43 L (.int (x * y) :: st) h := G_imul f230_42
theorem f230_43 : fetch 230 43 = some (.iload_n 2, 1) := vtab tk230 25 rfl
theorem e230_43 (l0 l1 : Option Value) (L : VL) (st : List Value) (h : VG) (x : Int32) : ev 230 43 (l0 :: l1 :: some (.int x) :: L) (st) h = ev 230 44 (l0 :: l1 :: some (.int x) :: L) (.int x :: st) h := G_iload_n f230_43 rfl
theorem f230_44 : fetch 230 44 = some (.iadd, 1) := vtab tk230 26 rfl
theorem e230_44 (L : VL) (st : List Value) (h : VG) (x y : Int32) : ev 230 44 L (.int y :: .int x :: st) h = ev 230 45 L (.int (x + y) :: st) h := G_iadd f230_44
theorem f230_45 : fetch 230 45 = some (.iaload, 1) := vtab tk230 27 rfl
theorem e230_45 (L : VL) (st : List Value) (h : VG) (a : Nat) (i : Int32) (ha : rdI h a) (hi : vp_in i (aln h a)) : ev 230 45 L (.int i :: .ref a :: st) h = ev 230 46 L (.int (aI h a i.toNatClampNeg) :: st) h := G_iald' f230_45 ha hi
theorem f230_46 : fetch 230 46 = some (.iastore, 1) := vtab tk230 28 rfl
theorem e230_46 (L : VL) (st : List Value) (h : VG) (a : Nat) (i : Int32) (x : Int32) (ha : arI h a 0) (hi : vp_in i (aln h a)) : ev 230 46 L (.int x :: .int i :: .ref a :: st) h = ev 230 47 L (st) (wI h a i.toNatClampNeg x) := G_iast f230_46 ha hi
theorem f230_47 : fetch 230 47 = some (.iinc 2 1, 3) := vtab tk230 29 rfl
theorem e230_47 (l0 l1 : Option Value) (L : VL) (st : List Value) (h : VG) (x : Int32) : ev 230 47 (l0 :: l1 :: some (.int x) :: L) (st) h = ev 230 50 (l0 :: vkk l1 :: some (.int (x + (1 : Int32))) :: L) (st) h := G_iinc f230_47 rfl (by decide) (S1_2 l0 l1 (some (.int x)) L _)
theorem f230_50 : fetch 230 50 = some (.goto (-28), 3) := vtab tk230 30 rfl
theorem e230_50 (L : VL) (st : List Value) (h : VG) : ev 230 50 L (st) h = ev 230 22 L (st) h := G_goto f230_50 (by decide)
theorem f230_53 : fetch 230 53 = some (.iconst 0, 1) := vtab tk230 31 rfl
theorem e230_53 (L : VL) (st : List Value) (h : VG) : ev 230 53 L (st) h = ev 230 54 L (.int (0 : Int32) :: st) h := G_iconst f230_53 (by decide)
theorem f230_54 : fetch 230 54 = some (.istore_n 2, 1) := vtab tk230 32 rfl
theorem e230_54 (l0 l1 l2 : Option Value) (L : VL) (st : List Value) (h : VG) (x : Int32) : ev 230 54 (l0 :: l1 :: l2 :: L) (.int x :: st) h = ev 230 55 (l0 :: vkk l1 :: some (.int x) :: L) (st) h := G_istore_n f230_54 rfl (S1_2 l0 l1 l2 L _)
theorem f230_55 : fetch 230 55 = some (.iload_n 2, 1) := vtab tk230 33 rfl
theorem e230_55 (l0 l1 : Option Value) (L : VL) (st : List Value) (h : VG) (x : Int32) : ev 230 55 (l0 :: l1 :: some (.int x) :: L) (st) h = ev 230 56 (l0 :: l1 :: some (.int x) :: L) (.int x :: st) h := G_iload_n f230_55 rfl
theorem f230_56 : fetch 230 56 = some (.bipush 8, 2) := vtab tk230 34 rfl
theorem e230_56 (L : VL) (st : List Value) (h : VG) : ev 230 56 L (st) h = ev 230 58 L (.int (8 : Int32) :: st) h := G_bipush f230_56 (by decide)
theorem f230_58 : fetch 230 58 = some (.if_icmp .ge 60, 3) := vtab tk230 35 rfl
theorem e230_58 (L : VL) (st : List Value) (h : VG) (x y : Int32) : ev 230 58 L (.int y :: .int x :: st) h = if x < y then ev 230 61 L st h else ev 230 118 L st h := G_icmp_ge f230_58 (by decide)
theorem f230_61 : fetch 230 61 = some (.aload_n 0, 1) := vtab tk230 36 rfl
theorem e230_61 (L : VL) (st : List Value) (h : VG) (x : Nat) : ev 230 61 (some (.ref x) :: L) (st) h = ev 230 62 (some (.ref x) :: L) (.ref x :: st) h := G_aload_n f230_61 rfl
theorem f230_62 : fetch 230 62 = some (.getfield 76, 3) := vtab tk230 37 rfl
theorem e230_62 (L : VL) (st : List Value) (h : VG) (a : Nat) (ho : ob h a 11) (hr : isR h a 42) : ev 230 62 L (.ref a :: st) h = ev 230 65 L (.ref (gR h a 42) :: st) h := G_getR (p := 1055) f230_62 lkF_12_76 (by decide) (by decide) ho hr
theorem f230_65 : fetch 230 65 = some (.iload_n 2, 1) := vtab tk230 38 rfl
theorem e230_65 (l0 l1 : Option Value) (L : VL) (st : List Value) (h : VG) (x : Int32) : ev 230 65 (l0 :: l1 :: some (.int x) :: L) (st) h = ev 230 66 (l0 :: l1 :: some (.int x) :: L) (.int x :: st) h := G_iload_n f230_65 rfl
theorem f230_66 : fetch 230 66 = some (.aload_n 0, 1) := vtab tk230 39 rfl
theorem e230_66 (L : VL) (st : List Value) (h : VG) (x : Nat) : ev 230 66 (some (.ref x) :: L) (st) h = ev 230 67 (some (.ref x) :: L) (.ref x :: st) h := G_aload_n f230_66 rfl
theorem f230_67 : fetch 230 67 = some (.getfield 126, 3) := vtab tk230 40 rfl
theorem e230_67 (L : VL) (st : List Value) (h : VG) (a : Nat) (ho : ob h a 11) (hr : isR h a 60) : ev 230 67 L (.ref a :: st) h = ev 230 70 L (.ref (gR h a 60) :: st) h := G_getR (p := 1073) f230_67 lkF_12_126 (by decide) (by decide) ho hr
theorem f230_70 : fetch 230 70 = some (.bipush 8, 2) := vtab tk230 41 rfl
theorem e230_70 (L : VL) (st : List Value) (h : VG) : ev 230 70 L (st) h = ev 230 72 L (.int (8 : Int32) :: st) h := G_bipush f230_70 (by decide)
theorem f230_72 : fetch 230 72 = some (.iload_n 1, 1) := vtab tk230 42 rfl
theorem e230_72 (l0 : Option Value) (L : VL) (st : List Value) (h : VG) (x : Int32) : ev 230 72 (l0 :: some (.int x) :: L) (st) h = ev 230 73 (l0 :: some (.int x) :: L) (.int x :: st) h := G_iload_n f230_72 rfl
theorem f230_73 : fetch 230 73 = some (.imul, 1) := vtab tk230 43 rfl
theorem e230_73 (L : VL) (st : List Value) (h : VG) (x y : Int32) : ev 230 73 L (.int y :: .int x :: st) h = ev 230 74 L (.int (x * y) :: st) h := G_imul f230_73
theorem f230_74 : fetch 230 74 = some (.iload_n 2, 1) := vtab tk230 44 rfl
theorem e230_74 (l0 l1 : Option Value) (L : VL) (st : List Value) (h : VG) (x : Int32) : ev 230 74 (l0 :: l1 :: some (.int x) :: L) (st) h = ev 230 75 (l0 :: l1 :: some (.int x) :: L) (.int x :: st) h := G_iload_n f230_74 rfl
theorem f230_75 : fetch 230 75 = some (.iadd, 1) := vtab tk230 45 rfl
theorem e230_75 (L : VL) (st : List Value) (h : VG) (x y : Int32) : ev 230 75 L (.int y :: .int x :: st) h = ev 230 76 L (.int (x + y) :: st) h := G_iadd f230_75
theorem f230_76 : fetch 230 76 = some (.iaload, 1) := vtab tk230 46 rfl
theorem e230_76 (L : VL) (st : List Value) (h : VG) (a : Nat) (i : Int32) (ha : rdI h a) (hi : vp_in i (aln h a)) : ev 230 76 L (.int i :: .ref a :: st) h = ev 230 77 L (.int (aI h a i.toNatClampNeg) :: st) h := G_iald' f230_76 ha hi
theorem f230_77 : fetch 230 77 = some (.iastore, 1) := vtab tk230 47 rfl
theorem e230_77 (L : VL) (st : List Value) (h : VG) (a : Nat) (i : Int32) (x : Int32) (ha : arI h a 0) (hi : vp_in i (aln h a)) : ev 230 77 L (.int x :: .int i :: .ref a :: st) h = ev 230 78 L (st) (wI h a i.toNatClampNeg x) := G_iast f230_77 ha hi
theorem f230_78 : fetch 230 78 = some (.aload_n 0, 1) := vtab tk230 48 rfl
theorem e230_78 (L : VL) (st : List Value) (h : VG) (x : Nat) : ev 230 78 (some (.ref x) :: L) (st) h = ev 230 79 (some (.ref x) :: L) (.ref x :: st) h := G_aload_n f230_78 rfl
theorem f230_79 : fetch 230 79 = some (.getfield 79, 3) := vtab tk230 49 rfl
theorem e230_79 (L : VL) (st : List Value) (h : VG) (a : Nat) (ho : ob h a 11) (hr : isR h a 43) : ev 230 79 L (.ref a :: st) h = ev 230 82 L (.ref (gR h a 43) :: st) h := G_getR (p := 1056) f230_79 lkF_12_79 (by decide) (by decide) ho hr
theorem f230_82 : fetch 230 82 = some (.iload_n 2, 1) := vtab tk230 50 rfl
theorem e230_82 (l0 l1 : Option Value) (L : VL) (st : List Value) (h : VG) (x : Int32) : ev 230 82 (l0 :: l1 :: some (.int x) :: L) (st) h = ev 230 83 (l0 :: l1 :: some (.int x) :: L) (.int x :: st) h := G_iload_n f230_82 rfl
theorem f230_83 : fetch 230 83 = some (.aload_n 0, 1) := vtab tk230 51 rfl
theorem e230_83 (L : VL) (st : List Value) (h : VG) (x : Nat) : ev 230 83 (some (.ref x) :: L) (st) h = ev 230 84 (some (.ref x) :: L) (.ref x :: st) h := G_aload_n f230_83 rfl
theorem f230_84 : fetch 230 84 = some (.getfield 129, 3) := vtab tk230 52 rfl
theorem e230_84 (L : VL) (st : List Value) (h : VG) (a : Nat) (ho : ob h a 11) (hr : isR h a 61) : ev 230 84 L (.ref a :: st) h = ev 230 87 L (.ref (gR h a 61) :: st) h := G_getR (p := 1074) f230_84 lkF_12_129 (by decide) (by decide) ho hr
theorem f230_87 : fetch 230 87 = some (.bipush 8, 2) := vtab tk230 53 rfl
theorem e230_87 (L : VL) (st : List Value) (h : VG) : ev 230 87 L (st) h = ev 230 89 L (.int (8 : Int32) :: st) h := G_bipush f230_87 (by decide)
theorem f230_89 : fetch 230 89 = some (.iload_n 1, 1) := vtab tk230 54 rfl
theorem e230_89 (l0 : Option Value) (L : VL) (st : List Value) (h : VG) (x : Int32) : ev 230 89 (l0 :: some (.int x) :: L) (st) h = ev 230 90 (l0 :: some (.int x) :: L) (.int x :: st) h := G_iload_n f230_89 rfl
theorem f230_90 : fetch 230 90 = some (.imul, 1) := vtab tk230 55 rfl
theorem e230_90 (L : VL) (st : List Value) (h : VG) (x y : Int32) : ev 230 90 L (.int y :: .int x :: st) h = ev 230 91 L (.int (x * y) :: st) h := G_imul f230_90
theorem f230_91 : fetch 230 91 = some (.iload_n 2, 1) := vtab tk230 56 rfl
theorem e230_91 (l0 l1 : Option Value) (L : VL) (st : List Value) (h : VG) (x : Int32) : ev 230 91 (l0 :: l1 :: some (.int x) :: L) (st) h = ev 230 92 (l0 :: l1 :: some (.int x) :: L) (.int x :: st) h := G_iload_n f230_91 rfl
theorem f230_92 : fetch 230 92 = some (.iadd, 1) := vtab tk230 57 rfl
theorem e230_92 (L : VL) (st : List Value) (h : VG) (x y : Int32) : ev 230 92 L (.int y :: .int x :: st) h = ev 230 93 L (.int (x + y) :: st) h := G_iadd f230_92
theorem f230_93 : fetch 230 93 = some (.iaload, 1) := vtab tk230 58 rfl
theorem e230_93 (L : VL) (st : List Value) (h : VG) (a : Nat) (i : Int32) (ha : rdI h a) (hi : vp_in i (aln h a)) : ev 230 93 L (.int i :: .ref a :: st) h = ev 230 94 L (.int (aI h a i.toNatClampNeg) :: st) h := G_iald' f230_93 ha hi
theorem f230_94 : fetch 230 94 = some (.iastore, 1) := vtab tk230 59 rfl
theorem e230_94 (L : VL) (st : List Value) (h : VG) (a : Nat) (i : Int32) (x : Int32) (ha : arI h a 0) (hi : vp_in i (aln h a)) : ev 230 94 L (.int x :: .int i :: .ref a :: st) h = ev 230 95 L (st) (wI h a i.toNatClampNeg x) := G_iast f230_94 ha hi
theorem f230_95 : fetch 230 95 = some (.aload_n 0, 1) := vtab tk230 60 rfl
theorem e230_95 (L : VL) (st : List Value) (h : VG) (x : Nat) : ev 230 95 (some (.ref x) :: L) (st) h = ev 230 96 (some (.ref x) :: L) (.ref x :: st) h := G_aload_n f230_95 rfl
theorem f230_96 : fetch 230 96 = some (.getfield 117, 3) := vtab tk230 61 rfl
theorem e230_96 (L : VL) (st : List Value) (h : VG) (a : Nat) (ho : ob h a 11) (hr : isR h a 56) : ev 230 96 L (.ref a :: st) h = ev 230 99 L (.ref (gR h a 56) :: st) h := G_getR (p := 1069) f230_96 lkF_12_117 (by decide) (by decide) ho hr
theorem f230_99 : fetch 230 99 = some (.iload_n 2, 1) := vtab tk230 62 rfl
theorem e230_99 (l0 l1 : Option Value) (L : VL) (st : List Value) (h : VG) (x : Int32) : ev 230 99 (l0 :: l1 :: some (.int x) :: L) (st) h = ev 230 100 (l0 :: l1 :: some (.int x) :: L) (.int x :: st) h := G_iload_n f230_99 rfl
theorem f230_100 : fetch 230 100 = some (.aload_n 0, 1) := vtab tk230 63 rfl
theorem e230_100 (L : VL) (st : List Value) (h : VG) (x : Nat) : ev 230 100 (some (.ref x) :: L) (st) h = ev 230 101 (some (.ref x) :: L) (.ref x :: st) h := G_aload_n f230_100 rfl
theorem f230_101 : fetch 230 101 = some (.getfield 141, 3) := vtab tk230 64 rfl
theorem e230_101 (L : VL) (st : List Value) (h : VG) (a : Nat) (ho : ob h a 11) (hr : isR h a 65) : ev 230 101 L (.ref a :: st) h = ev 230 104 L (.ref (gR h a 65) :: st) h := G_getR (p := 1078) f230_101 lkF_12_141 (by decide) (by decide) ho hr
theorem f230_104 : fetch 230 104 = some (.bipush 8, 2) := vtab tk230 65 rfl
theorem e230_104 (L : VL) (st : List Value) (h : VG) : ev 230 104 L (st) h = ev 230 106 L (.int (8 : Int32) :: st) h := G_bipush f230_104 (by decide)
theorem f230_106 : fetch 230 106 = some (.iload_n 1, 1) := vtab tk230 66 rfl
theorem e230_106 (l0 : Option Value) (L : VL) (st : List Value) (h : VG) (x : Int32) : ev 230 106 (l0 :: some (.int x) :: L) (st) h = ev 230 107 (l0 :: some (.int x) :: L) (.int x :: st) h := G_iload_n f230_106 rfl
theorem f230_107 : fetch 230 107 = some (.imul, 1) := vtab tk230 67 rfl
theorem e230_107 (L : VL) (st : List Value) (h : VG) (x y : Int32) : ev 230 107 L (.int y :: .int x :: st) h = ev 230 108 L (.int (x * y) :: st) h := G_imul f230_107
theorem f230_108 : fetch 230 108 = some (.iload_n 2, 1) := vtab tk230 68 rfl
theorem e230_108 (l0 l1 : Option Value) (L : VL) (st : List Value) (h : VG) (x : Int32) : ev 230 108 (l0 :: l1 :: some (.int x) :: L) (st) h = ev 230 109 (l0 :: l1 :: some (.int x) :: L) (.int x :: st) h := G_iload_n f230_108 rfl
theorem f230_109 : fetch 230 109 = some (.iadd, 1) := vtab tk230 69 rfl
theorem e230_109 (L : VL) (st : List Value) (h : VG) (x y : Int32) : ev 230 109 L (.int y :: .int x :: st) h = ev 230 110 L (.int (x + y) :: st) h := G_iadd f230_109
theorem f230_110 : fetch 230 110 = some (.laload, 1) := vtab tk230 70 rfl
theorem e230_110 (L : VL) (st : List Value) (h : VG) (a : Nat) (i : Int32) (ha : arL h a) (hi : vp_in i (aln h a)) : ev 230 110 L (.int i :: .ref a :: st) h = ev 230 111 L (.long (aL h a i.toNatClampNeg) :: st) h := G_lald f230_110 ha hi
theorem f230_111 : fetch 230 111 = some (.lastore, 1) := vtab tk230 71 rfl
theorem e230_111 (L : VL) (st : List Value) (h : VG) (a : Nat) (i : Int32) (x : Int64) (ha : arL h a) (hi : vp_in i (aln h a)) : ev 230 111 L (.long x :: .int i :: .ref a :: st) h = ev 230 112 L (st) (wL h a i.toNatClampNeg x) := G_last f230_111 ha hi
theorem f230_112 : fetch 230 112 = some (.iinc 2 1, 3) := vtab tk230 72 rfl
theorem e230_112 (l0 l1 : Option Value) (L : VL) (st : List Value) (h : VG) (x : Int32) : ev 230 112 (l0 :: l1 :: some (.int x) :: L) (st) h = ev 230 115 (l0 :: vkk l1 :: some (.int (x + (1 : Int32))) :: L) (st) h := G_iinc f230_112 rfl (by decide) (S1_2 l0 l1 (some (.int x)) L _)
theorem f230_115 : fetch 230 115 = some (.goto (-60), 3) := vtab tk230 73 rfl
theorem e230_115 (L : VL) (st : List Value) (h : VG) : ev 230 115 L (st) h = ev 230 55 L (st) h := G_goto f230_115 (by decide)
theorem f230_118 : fetch 230 118 = some (.iconst 0, 1) := vtab tk230 74 rfl
theorem e230_118 (L : VL) (st : List Value) (h : VG) : ev 230 118 L (st) h = ev 230 119 L (.int (0 : Int32) :: st) h := G_iconst f230_118 (by decide)
theorem f230_119 : fetch 230 119 = some (.istore_n 2, 1) := vtab tk230 75 rfl
theorem e230_119 (l0 l1 l2 : Option Value) (L : VL) (st : List Value) (h : VG) (x : Int32) : ev 230 119 (l0 :: l1 :: l2 :: L) (.int x :: st) h = ev 230 120 (l0 :: vkk l1 :: some (.int x) :: L) (st) h := G_istore_n f230_119 rfl (S1_2 l0 l1 l2 L _)
theorem f230_120 : fetch 230 120 = some (.iload_n 2, 1) := vtab tk230 76 rfl
theorem e230_120 (l0 l1 : Option Value) (L : VL) (st : List Value) (h : VG) (x : Int32) : ev 230 120 (l0 :: l1 :: some (.int x) :: L) (st) h = ev 230 121 (l0 :: l1 :: some (.int x) :: L) (.int x :: st) h := G_iload_n f230_120 rfl
theorem f230_121 : fetch 230 121 = some (.sipush 320, 3) := vtab tk230 77 rfl
theorem e230_121 (L : VL) (st : List Value) (h : VG) : ev 230 121 L (st) h = ev 230 124 L (.int (320 : Int32) :: st) h := G_sipush f230_121 (by decide)
theorem f230_124 : fetch 230 124 = some (.if_icmp .ge 63, 3) := vtab tk230 78 rfl
theorem e230_124 (L : VL) (st : List Value) (h : VG) (x y : Int32) : ev 230 124 L (.int y :: .int x :: st) h = if x < y then ev 230 127 L st h else ev 230 187 L st h := G_icmp_ge f230_124 (by decide)
theorem f230_127 : fetch 230 127 = some (.aload_n 0, 1) := vtab tk230 79 rfl
theorem e230_127 (L : VL) (st : List Value) (h : VG) (x : Nat) : ev 230 127 (some (.ref x) :: L) (st) h = ev 230 128 (some (.ref x) :: L) (.ref x :: st) h := G_aload_n f230_127 rfl
theorem f230_128 : fetch 230 128 = some (.getfield 82, 3) := vtab tk230 80 rfl
theorem e230_128 (L : VL) (st : List Value) (h : VG) (a : Nat) (ho : ob h a 11) (hr : isR h a 44) : ev 230 128 L (.ref a :: st) h = ev 230 131 L (.ref (gR h a 44) :: st) h := G_getR (p := 1057) f230_128 lkF_12_82 (by decide) (by decide) ho hr
theorem f230_131 : fetch 230 131 = some (.iload_n 2, 1) := vtab tk230 81 rfl
theorem e230_131 (l0 l1 : Option Value) (L : VL) (st : List Value) (h : VG) (x : Int32) : ev 230 131 (l0 :: l1 :: some (.int x) :: L) (st) h = ev 230 132 (l0 :: l1 :: some (.int x) :: L) (.int x :: st) h := G_iload_n f230_131 rfl
theorem f230_132 : fetch 230 132 = some (.aload_n 0, 1) := vtab tk230 82 rfl
theorem e230_132 (L : VL) (st : List Value) (h : VG) (x : Nat) : ev 230 132 (some (.ref x) :: L) (st) h = ev 230 133 (some (.ref x) :: L) (.ref x :: st) h := G_aload_n f230_132 rfl
theorem f230_133 : fetch 230 133 = some (.getfield 132, 3) := vtab tk230 83 rfl
theorem e230_133 (L : VL) (st : List Value) (h : VG) (a : Nat) (ho : ob h a 11) (hr : isR h a 62) : ev 230 133 L (.ref a :: st) h = ev 230 136 L (.ref (gR h a 62) :: st) h := G_getR (p := 1075) f230_133 lkF_12_132 (by decide) (by decide) ho hr
theorem f230_136 : fetch 230 136 = some (.sipush 320, 3) := vtab tk230 84 rfl
theorem e230_136 (L : VL) (st : List Value) (h : VG) : ev 230 136 L (st) h = ev 230 139 L (.int (320 : Int32) :: st) h := G_sipush f230_136 (by decide)
theorem f230_139 : fetch 230 139 = some (.iload_n 1, 1) := vtab tk230 85 rfl
theorem e230_139 (l0 : Option Value) (L : VL) (st : List Value) (h : VG) (x : Int32) : ev 230 139 (l0 :: some (.int x) :: L) (st) h = ev 230 140 (l0 :: some (.int x) :: L) (.int x :: st) h := G_iload_n f230_139 rfl
theorem f230_140 : fetch 230 140 = some (.imul, 1) := vtab tk230 86 rfl
theorem e230_140 (L : VL) (st : List Value) (h : VG) (x y : Int32) : ev 230 140 L (.int y :: .int x :: st) h = ev 230 141 L (.int (x * y) :: st) h := G_imul f230_140
theorem f230_141 : fetch 230 141 = some (.iload_n 2, 1) := vtab tk230 87 rfl
theorem e230_141 (l0 l1 : Option Value) (L : VL) (st : List Value) (h : VG) (x : Int32) : ev 230 141 (l0 :: l1 :: some (.int x) :: L) (st) h = ev 230 142 (l0 :: l1 :: some (.int x) :: L) (.int x :: st) h := G_iload_n f230_141 rfl
theorem f230_142 : fetch 230 142 = some (.iadd, 1) := vtab tk230 88 rfl
theorem e230_142 (L : VL) (st : List Value) (h : VG) (x y : Int32) : ev 230 142 L (.int y :: .int x :: st) h = ev 230 143 L (.int (x + y) :: st) h := G_iadd f230_142
theorem f230_143 : fetch 230 143 = some (.iaload, 1) := vtab tk230 89 rfl
theorem e230_143 (L : VL) (st : List Value) (h : VG) (a : Nat) (i : Int32) (ha : rdI h a) (hi : vp_in i (aln h a)) : ev 230 143 L (.int i :: .ref a :: st) h = ev 230 144 L (.int (aI h a i.toNatClampNeg) :: st) h := G_iald' f230_143 ha hi
theorem f230_144 : fetch 230 144 = some (.iastore, 1) := vtab tk230 90 rfl
theorem e230_144 (L : VL) (st : List Value) (h : VG) (a : Nat) (i : Int32) (x : Int32) (ha : arI h a 0) (hi : vp_in i (aln h a)) : ev 230 144 L (.int x :: .int i :: .ref a :: st) h = ev 230 145 L (st) (wI h a i.toNatClampNeg x) := G_iast f230_144 ha hi
theorem f230_145 : fetch 230 145 = some (.aload_n 0, 1) := vtab tk230 91 rfl
theorem e230_145 (L : VL) (st : List Value) (h : VG) (x : Nat) : ev 230 145 (some (.ref x) :: L) (st) h = ev 230 146 (some (.ref x) :: L) (.ref x :: st) h := G_aload_n f230_145 rfl
theorem f230_146 : fetch 230 146 = some (.getfield 85, 3) := vtab tk230 92 rfl
theorem e230_146 (L : VL) (st : List Value) (h : VG) (a : Nat) (ho : ob h a 11) (hr : isR h a 45) : ev 230 146 L (.ref a :: st) h = ev 230 149 L (.ref (gR h a 45) :: st) h := G_getR (p := 1058) f230_146 lkF_12_85 (by decide) (by decide) ho hr
theorem f230_149 : fetch 230 149 = some (.iload_n 2, 1) := vtab tk230 93 rfl
theorem e230_149 (l0 l1 : Option Value) (L : VL) (st : List Value) (h : VG) (x : Int32) : ev 230 149 (l0 :: l1 :: some (.int x) :: L) (st) h = ev 230 150 (l0 :: l1 :: some (.int x) :: L) (.int x :: st) h := G_iload_n f230_149 rfl
theorem f230_150 : fetch 230 150 = some (.aload_n 0, 1) := vtab tk230 94 rfl
theorem e230_150 (L : VL) (st : List Value) (h : VG) (x : Nat) : ev 230 150 (some (.ref x) :: L) (st) h = ev 230 151 (some (.ref x) :: L) (.ref x :: st) h := G_aload_n f230_150 rfl
theorem f230_151 : fetch 230 151 = some (.getfield 135, 3) := vtab tk230 95 rfl
theorem e230_151 (L : VL) (st : List Value) (h : VG) (a : Nat) (ho : ob h a 11) (hr : isR h a 63) : ev 230 151 L (.ref a :: st) h = ev 230 154 L (.ref (gR h a 63) :: st) h := G_getR (p := 1076) f230_151 lkF_12_135 (by decide) (by decide) ho hr
theorem f230_154 : fetch 230 154 = some (.sipush 320, 3) := vtab tk230 96 rfl
theorem e230_154 (L : VL) (st : List Value) (h : VG) : ev 230 154 L (st) h = ev 230 157 L (.int (320 : Int32) :: st) h := G_sipush f230_154 (by decide)
theorem f230_157 : fetch 230 157 = some (.iload_n 1, 1) := vtab tk230 97 rfl
theorem e230_157 (l0 : Option Value) (L : VL) (st : List Value) (h : VG) (x : Int32) : ev 230 157 (l0 :: some (.int x) :: L) (st) h = ev 230 158 (l0 :: some (.int x) :: L) (.int x :: st) h := G_iload_n f230_157 rfl
theorem f230_158 : fetch 230 158 = some (.imul, 1) := vtab tk230 98 rfl
theorem e230_158 (L : VL) (st : List Value) (h : VG) (x y : Int32) : ev 230 158 L (.int y :: .int x :: st) h = ev 230 159 L (.int (x * y) :: st) h := G_imul f230_158
theorem f230_159 : fetch 230 159 = some (.iload_n 2, 1) := vtab tk230 99 rfl
theorem e230_159 (l0 l1 : Option Value) (L : VL) (st : List Value) (h : VG) (x : Int32) : ev 230 159 (l0 :: l1 :: some (.int x) :: L) (st) h = ev 230 160 (l0 :: l1 :: some (.int x) :: L) (.int x :: st) h := G_iload_n f230_159 rfl
theorem f230_160 : fetch 230 160 = some (.iadd, 1) := vtab tk230 100 rfl
theorem e230_160 (L : VL) (st : List Value) (h : VG) (x y : Int32) : ev 230 160 L (.int y :: .int x :: st) h = ev 230 161 L (.int (x + y) :: st) h := G_iadd f230_160
theorem f230_161 : fetch 230 161 = some (.laload, 1) := vtab tk230 101 rfl
theorem e230_161 (L : VL) (st : List Value) (h : VG) (a : Nat) (i : Int32) (ha : arL h a) (hi : vp_in i (aln h a)) : ev 230 161 L (.int i :: .ref a :: st) h = ev 230 162 L (.long (aL h a i.toNatClampNeg) :: st) h := G_lald f230_161 ha hi
theorem f230_162 : fetch 230 162 = some (.lastore, 1) := vtab tk230 102 rfl
theorem e230_162 (L : VL) (st : List Value) (h : VG) (a : Nat) (i : Int32) (x : Int64) (ha : arL h a) (hi : vp_in i (aln h a)) : ev 230 162 L (.long x :: .int i :: .ref a :: st) h = ev 230 163 L (st) (wL h a i.toNatClampNeg x) := G_last f230_162 ha hi
theorem f230_163 : fetch 230 163 = some (.aload_n 0, 1) := vtab tk230 103 rfl
theorem e230_163 (L : VL) (st : List Value) (h : VG) (x : Nat) : ev 230 163 (some (.ref x) :: L) (st) h = ev 230 164 (some (.ref x) :: L) (.ref x :: st) h := G_aload_n f230_163 rfl
theorem f230_164 : fetch 230 164 = some (.getfield 88, 3) := vtab tk230 104 rfl
theorem e230_164 (L : VL) (st : List Value) (h : VG) (a : Nat) (ho : ob h a 11) (hr : isR h a 46) : ev 230 164 L (.ref a :: st) h = ev 230 167 L (.ref (gR h a 46) :: st) h := G_getR (p := 1059) f230_164 lkF_12_88 (by decide) (by decide) ho hr
theorem f230_167 : fetch 230 167 = some (.iload_n 2, 1) := vtab tk230 105 rfl
theorem e230_167 (l0 l1 : Option Value) (L : VL) (st : List Value) (h : VG) (x : Int32) : ev 230 167 (l0 :: l1 :: some (.int x) :: L) (st) h = ev 230 168 (l0 :: l1 :: some (.int x) :: L) (.int x :: st) h := G_iload_n f230_167 rfl
theorem f230_168 : fetch 230 168 = some (.aload_n 0, 1) := vtab tk230 106 rfl
theorem e230_168 (L : VL) (st : List Value) (h : VG) (x : Nat) : ev 230 168 (some (.ref x) :: L) (st) h = ev 230 169 (some (.ref x) :: L) (.ref x :: st) h := G_aload_n f230_168 rfl
theorem f230_169 : fetch 230 169 = some (.getfield 138, 3) := vtab tk230 107 rfl
theorem e230_169 (L : VL) (st : List Value) (h : VG) (a : Nat) (ho : ob h a 11) (hr : isR h a 64) : ev 230 169 L (.ref a :: st) h = ev 230 172 L (.ref (gR h a 64) :: st) h := G_getR (p := 1077) f230_169 lkF_12_138 (by decide) (by decide) ho hr
theorem f230_172 : fetch 230 172 = some (.sipush 320, 3) := vtab tk230 108 rfl
theorem e230_172 (L : VL) (st : List Value) (h : VG) : ev 230 172 L (st) h = ev 230 175 L (.int (320 : Int32) :: st) h := G_sipush f230_172 (by decide)
theorem f230_175 : fetch 230 175 = some (.iload_n 1, 1) := vtab tk230 109 rfl
theorem e230_175 (l0 : Option Value) (L : VL) (st : List Value) (h : VG) (x : Int32) : ev 230 175 (l0 :: some (.int x) :: L) (st) h = ev 230 176 (l0 :: some (.int x) :: L) (.int x :: st) h := G_iload_n f230_175 rfl
theorem f230_176 : fetch 230 176 = some (.imul, 1) := vtab tk230 110 rfl
theorem e230_176 (L : VL) (st : List Value) (h : VG) (x y : Int32) : ev 230 176 L (.int y :: .int x :: st) h = ev 230 177 L (.int (x * y) :: st) h := G_imul f230_176
theorem f230_177 : fetch 230 177 = some (.iload_n 2, 1) := vtab tk230 111 rfl
theorem e230_177 (l0 l1 : Option Value) (L : VL) (st : List Value) (h : VG) (x : Int32) : ev 230 177 (l0 :: l1 :: some (.int x) :: L) (st) h = ev 230 178 (l0 :: l1 :: some (.int x) :: L) (.int x :: st) h := G_iload_n f230_177 rfl
theorem f230_178 : fetch 230 178 = some (.iadd, 1) := vtab tk230 112 rfl
theorem e230_178 (L : VL) (st : List Value) (h : VG) (x y : Int32) : ev 230 178 L (.int y :: .int x :: st) h = ev 230 179 L (.int (x + y) :: st) h := G_iadd f230_178
theorem f230_179 : fetch 230 179 = some (.daload, 1) := vtab tk230 113 rfl
theorem e230_179 (L : VL) (st : List Value) (h : VG) (a : Nat) (i : Int32) (ha : arD h a) (hi : vp_in i (aln h a)) : ev 230 179 L (.int i :: .ref a :: st) h = ev 230 180 L (.double (aD h a i.toNatClampNeg) :: st) h := G_dald f230_179 ha hi
theorem f230_180 : fetch 230 180 = some (.dastore, 1) := vtab tk230 114 rfl
theorem e230_180 (L : VL) (st : List Value) (h : VG) (a : Nat) (i : Int32) (x : UInt64) (ha : arD h a) (hi : vp_in i (aln h a)) : ev 230 180 L (.double x :: .int i :: .ref a :: st) h = ev 230 181 L (st) (wD h a i.toNatClampNeg x) := G_dast f230_180 ha hi
theorem f230_181 : fetch 230 181 = some (.iinc 2 1, 3) := vtab tk230 115 rfl
theorem e230_181 (l0 l1 : Option Value) (L : VL) (st : List Value) (h : VG) (x : Int32) : ev 230 181 (l0 :: l1 :: some (.int x) :: L) (st) h = ev 230 184 (l0 :: vkk l1 :: some (.int (x + (1 : Int32))) :: L) (st) h := G_iinc f230_181 rfl (by decide) (S1_2 l0 l1 (some (.int x)) L _)
theorem f230_184 : fetch 230 184 = some (.goto (-64), 3) := vtab tk230 116 rfl
theorem e230_184 (L : VL) (st : List Value) (h : VG) : ev 230 184 L (st) h = ev 230 120 L (st) h := G_goto f230_184 (by decide)
theorem f230_187 : fetch 230 187 = some (.aload_n 0, 1) := vtab tk230 117 rfl
theorem e230_187 (L : VL) (st : List Value) (h : VG) (x : Nat) : ev 230 187 (some (.ref x) :: L) (st) h = ev 230 188 (some (.ref x) :: L) (.ref x :: st) h := G_aload_n f230_187 rfl
theorem f230_188 : fetch 230 188 = some (.aload_n 0, 1) := vtab tk230 118 rfl
theorem e230_188 (L : VL) (st : List Value) (h : VG) (x : Nat) : ev 230 188 (some (.ref x) :: L) (st) h = ev 230 189 (some (.ref x) :: L) (.ref x :: st) h := G_aload_n f230_188 rfl
theorem f230_189 : fetch 230 189 = some (.getfield 144, 3) := vtab tk230 119 rfl
theorem e230_189 (L : VL) (st : List Value) (h : VG) (a : Nat) (ho : ob h a 11) (hr : isR h a 66) : ev 230 189 L (.ref a :: st) h = ev 230 192 L (.ref (gR h a 66) :: st) h := G_getR (p := 1079) f230_189 lkF_12_144 (by decide) (by decide) ho hr
theorem f230_192 : fetch 230 192 = some (.iload_n 1, 1) := vtab tk230 120 rfl
theorem e230_192 (l0 : Option Value) (L : VL) (st : List Value) (h : VG) (x : Int32) : ev 230 192 (l0 :: some (.int x) :: L) (st) h = ev 230 193 (l0 :: some (.int x) :: L) (.int x :: st) h := G_iload_n f230_192 rfl
theorem f230_193 : fetch 230 193 = some (.iaload, 1) := vtab tk230 121 rfl
theorem e230_193 (L : VL) (st : List Value) (h : VG) (a : Nat) (i : Int32) (ha : rdI h a) (hi : vp_in i (aln h a)) : ev 230 193 L (.int i :: .ref a :: st) h = ev 230 194 L (.int (aI h a i.toNatClampNeg) :: st) h := G_iald' f230_193 ha hi
theorem f230_194 : fetch 230 194 = some (.putfield 241, 3) := vtab tk230 122 rfl
theorem e230_194 (L : VL) (st : List Value) (h : VG) (a : Nat) (x : Int32) (ho : ob h a 11) : ev 230 194 L (.int x :: .ref a :: st) h = ev 230 197 L (st) (pI h a 57 x) := G_putI (p := 1070) f230_194 lkF_12_241 (by decide) (by decide) (by decide +kernel) ⟨rfl, rfl⟩ ho
theorem f230_197 : fetch 230 197 = some (.iconst 1, 1) := vtab tk230 123 rfl
theorem e230_197 (L : VL) (st : List Value) (h : VG) : ev 230 197 L (st) h = ev 230 198 L (.int (1 : Int32) :: st) h := G_iconst f230_197 (by decide)
theorem f230_198 : fetch 230 198 = some (.ireturn, 1) := vtab tk230 124 rfl
theorem e230_198 (L : VL) (h : VG) (x : Int32) (hz : x = 0 ∨ x = 1) : ev 230 198 L [.int x] h = some (some (.int x), h) := G_iret f230_198 (ty := .boolean) (by decide) (vbool hz).1
/-! 231 GuestCallsModel.binsTaken()I -/
def tb231 : List (Nat × Instr × Nat) := [(0, .iconst 0, 1), (1, .istore_n 1, 1), (2, .iconst 0, 1), (3, .istore_n 2, 1), (4, .iload_n 2, 1), (5, .bipush 8, 2), (7, .if_icmp .ge 26, 3), (10, .aload_n 0, 1), (11, .getfield 76, 3), (14, .iload_n 2, 1), (15, .iaload, 1), (16, .bipush 11, 2), (18, .if_icmp .eq 9, 3), (21, .iload_n 1, 1), (22, .iconst 1, 1), (23, .iload_n 2, 1), (24, .ishl, 1), (25, .ior, 1), (26, .istore_n 1, 1), (27, .iinc 2 1, 3), (30, .goto (-26), 3), (33, .iload_n 1, 1), (34, .ireturn, 1)]
theorem tk231 : tb231.all (fun q => decide (fetch 231 q.1 = some q.2)) = true := by decide +kernel
theorem f231_0 : fetch 231 0 = some (.iconst 0, 1) := vtab tk231 0 rfl
theorem e231_0 (L : VL) (st : List Value) (h : VG) : ev 231 0 L (st) h = ev 231 1 L (.int (0 : Int32) :: st) h := G_iconst f231_0 (by decide)
theorem f231_1 : fetch 231 1 = some (.istore_n 1, 1) := vtab tk231 1 rfl
theorem e231_1 (l0 l1 : Option Value) (L : VL) (st : List Value) (h : VG) (x : Int32) : ev 231 1 (l0 :: l1 :: L) (.int x :: st) h = ev 231 2 (vkk l0 :: some (.int x) :: L) (st) h := G_istore_n f231_1 rfl (S1_1 l0 l1 L _)
theorem f231_2 : fetch 231 2 = some (.iconst 0, 1) := vtab tk231 2 rfl
theorem e231_2 (L : VL) (st : List Value) (h : VG) : ev 231 2 L (st) h = ev 231 3 L (.int (0 : Int32) :: st) h := G_iconst f231_2 (by decide)
theorem f231_3 : fetch 231 3 = some (.istore_n 2, 1) := vtab tk231 3 rfl
theorem e231_3 (l0 l1 l2 : Option Value) (L : VL) (st : List Value) (h : VG) (x : Int32) : ev 231 3 (l0 :: l1 :: l2 :: L) (.int x :: st) h = ev 231 4 (l0 :: vkk l1 :: some (.int x) :: L) (st) h := G_istore_n f231_3 rfl (S1_2 l0 l1 l2 L _)
theorem f231_4 : fetch 231 4 = some (.iload_n 2, 1) := vtab tk231 4 rfl
theorem e231_4 (l0 l1 : Option Value) (L : VL) (st : List Value) (h : VG) (x : Int32) : ev 231 4 (l0 :: l1 :: some (.int x) :: L) (st) h = ev 231 5 (l0 :: l1 :: some (.int x) :: L) (.int x :: st) h := G_iload_n f231_4 rfl
theorem f231_5 : fetch 231 5 = some (.bipush 8, 2) := vtab tk231 5 rfl
theorem e231_5 (L : VL) (st : List Value) (h : VG) : ev 231 5 L (st) h = ev 231 7 L (.int (8 : Int32) :: st) h := G_bipush f231_5 (by decide)
theorem f231_7 : fetch 231 7 = some (.if_icmp .ge 26, 3) := vtab tk231 6 rfl
theorem e231_7 (L : VL) (st : List Value) (h : VG) (x y : Int32) : ev 231 7 L (.int y :: .int x :: st) h = if x < y then ev 231 10 L st h else ev 231 33 L st h := G_icmp_ge f231_7 (by decide)
theorem f231_10 : fetch 231 10 = some (.aload_n 0, 1) := vtab tk231 7 rfl
theorem e231_10 (L : VL) (st : List Value) (h : VG) (x : Nat) : ev 231 10 (some (.ref x) :: L) (st) h = ev 231 11 (some (.ref x) :: L) (.ref x :: st) h := G_aload_n f231_10 rfl
theorem f231_11 : fetch 231 11 = some (.getfield 76, 3) := vtab tk231 8 rfl
theorem e231_11 (L : VL) (st : List Value) (h : VG) (a : Nat) (ho : ob h a 11) (hr : isR h a 42) : ev 231 11 L (.ref a :: st) h = ev 231 14 L (.ref (gR h a 42) :: st) h := G_getR (p := 1055) f231_11 lkF_12_76 (by decide) (by decide) ho hr
theorem f231_14 : fetch 231 14 = some (.iload_n 2, 1) := vtab tk231 9 rfl
theorem e231_14 (l0 l1 : Option Value) (L : VL) (st : List Value) (h : VG) (x : Int32) : ev 231 14 (l0 :: l1 :: some (.int x) :: L) (st) h = ev 231 15 (l0 :: l1 :: some (.int x) :: L) (.int x :: st) h := G_iload_n f231_14 rfl
theorem f231_15 : fetch 231 15 = some (.iaload, 1) := vtab tk231 10 rfl
theorem e231_15 (L : VL) (st : List Value) (h : VG) (a : Nat) (i : Int32) (ha : rdI h a) (hi : vp_in i (aln h a)) : ev 231 15 L (.int i :: .ref a :: st) h = ev 231 16 L (.int (aI h a i.toNatClampNeg) :: st) h := G_iald' f231_15 ha hi
theorem f231_16 : fetch 231 16 = some (.bipush 11, 2) := vtab tk231 11 rfl
theorem e231_16 (L : VL) (st : List Value) (h : VG) : ev 231 16 L (st) h = ev 231 18 L (.int (11 : Int32) :: st) h := G_bipush f231_16 (by decide)
theorem f231_18 : fetch 231 18 = some (.if_icmp .eq 9, 3) := vtab tk231 12 rfl
theorem e231_18 (L : VL) (st : List Value) (h : VG) (x y : Int32) : ev 231 18 L (.int y :: .int x :: st) h = if x = y then ev 231 27 L st h else ev 231 21 L st h := G_icmp_eq f231_18 (by decide)
theorem f231_21 : fetch 231 21 = some (.iload_n 1, 1) := vtab tk231 13 rfl
theorem e231_21 (l0 : Option Value) (L : VL) (st : List Value) (h : VG) (x : Int32) : ev 231 21 (l0 :: some (.int x) :: L) (st) h = ev 231 22 (l0 :: some (.int x) :: L) (.int x :: st) h := G_iload_n f231_21 rfl
theorem f231_22 : fetch 231 22 = some (.iconst 1, 1) := vtab tk231 14 rfl
theorem e231_22 (L : VL) (st : List Value) (h : VG) : ev 231 22 L (st) h = ev 231 23 L (.int (1 : Int32) :: st) h := G_iconst f231_22 (by decide)
theorem f231_23 : fetch 231 23 = some (.iload_n 2, 1) := vtab tk231 15 rfl
theorem e231_23 (l0 l1 : Option Value) (L : VL) (st : List Value) (h : VG) (x : Int32) : ev 231 23 (l0 :: l1 :: some (.int x) :: L) (st) h = ev 231 24 (l0 :: l1 :: some (.int x) :: L) (.int x :: st) h := G_iload_n f231_23 rfl
theorem f231_24 : fetch 231 24 = some (.ishl, 1) := vtab tk231 16 rfl
theorem e231_24 (L : VL) (st : List Value) (h : VG) (x y : Int32) : ev 231 24 L (.int y :: .int x :: st) h = ev 231 25 L (.int (x <<< (y &&& 31)) :: st) h := G_ishl f231_24
theorem f231_25 : fetch 231 25 = some (.ior, 1) := vtab tk231 17 rfl
theorem e231_25 (L : VL) (st : List Value) (h : VG) (x y : Int32) : ev 231 25 L (.int y :: .int x :: st) h = ev 231 26 L (.int (x ||| y) :: st) h := G_ior f231_25
theorem f231_26 : fetch 231 26 = some (.istore_n 1, 1) := vtab tk231 18 rfl
theorem e231_26 (l0 l1 : Option Value) (L : VL) (st : List Value) (h : VG) (x : Int32) : ev 231 26 (l0 :: l1 :: L) (.int x :: st) h = ev 231 27 (vkk l0 :: some (.int x) :: L) (st) h := G_istore_n f231_26 rfl (S1_1 l0 l1 L _)
theorem f231_27 : fetch 231 27 = some (.iinc 2 1, 3) := vtab tk231 19 rfl
theorem e231_27 (l0 l1 : Option Value) (L : VL) (st : List Value) (h : VG) (x : Int32) : ev 231 27 (l0 :: l1 :: some (.int x) :: L) (st) h = ev 231 30 (l0 :: vkk l1 :: some (.int (x + (1 : Int32))) :: L) (st) h := G_iinc f231_27 rfl (by decide) (S1_2 l0 l1 (some (.int x)) L _)
theorem f231_30 : fetch 231 30 = some (.goto (-26), 3) := vtab tk231 20 rfl
theorem e231_30 (L : VL) (st : List Value) (h : VG) : ev 231 30 L (st) h = ev 231 4 L (st) h := G_goto f231_30 (by decide)
theorem f231_33 : fetch 231 33 = some (.iload_n 1, 1) := vtab tk231 21 rfl
theorem e231_33 (l0 : Option Value) (L : VL) (st : List Value) (h : VG) (x : Int32) : ev 231 33 (l0 :: some (.int x) :: L) (st) h = ev 231 34 (l0 :: some (.int x) :: L) (.int x :: st) h := G_iload_n f231_33 rfl
theorem f231_34 : fetch 231 34 = some (.ireturn, 1) := vtab tk231 22 rfl
theorem e231_34 (L : VL) (h : VG) (x : Int32) : ev 231 34 L [.int x] h = some (some (.int x), h) := G_iret f231_34 (ty := .int) (by decide) rfl
/-! 232 GuestCallsModel.bytesNotNone()I -/
def tb232 : List (Nat × Instr × Nat) := [(0, .iconst 0, 1), (1, .istore_n 1, 1), (2, .iconst 0, 1), (3, .istore_n 2, 1), (4, .iload_n 2, 1), (5, .sipush 256, 3), (8, .if_icmp .ge 21, 3), (11, .aload_n 0, 1), (12, .getfield 52, 3), (15, .iload_n 2, 1), (16, .iaload, 1), (17, .ifCond .eq 6, 3), (20, .iinc 1 1, 3), (23, .iinc 2 1, 3), (26, .goto (-22), 3), (29, .iload_n 1, 1), (30, .ireturn, 1)]
theorem tk232 : tb232.all (fun q => decide (fetch 232 q.1 = some q.2)) = true := by decide +kernel
theorem f232_0 : fetch 232 0 = some (.iconst 0, 1) := vtab tk232 0 rfl
theorem e232_0 (L : VL) (st : List Value) (h : VG) : ev 232 0 L (st) h = ev 232 1 L (.int (0 : Int32) :: st) h := G_iconst f232_0 (by decide)
theorem f232_1 : fetch 232 1 = some (.istore_n 1, 1) := vtab tk232 1 rfl
theorem e232_1 (l0 l1 : Option Value) (L : VL) (st : List Value) (h : VG) (x : Int32) : ev 232 1 (l0 :: l1 :: L) (.int x :: st) h = ev 232 2 (vkk l0 :: some (.int x) :: L) (st) h := G_istore_n f232_1 rfl (S1_1 l0 l1 L _)
theorem f232_2 : fetch 232 2 = some (.iconst 0, 1) := vtab tk232 2 rfl
theorem e232_2 (L : VL) (st : List Value) (h : VG) : ev 232 2 L (st) h = ev 232 3 L (.int (0 : Int32) :: st) h := G_iconst f232_2 (by decide)
theorem f232_3 : fetch 232 3 = some (.istore_n 2, 1) := vtab tk232 3 rfl
theorem e232_3 (l0 l1 l2 : Option Value) (L : VL) (st : List Value) (h : VG) (x : Int32) : ev 232 3 (l0 :: l1 :: l2 :: L) (.int x :: st) h = ev 232 4 (l0 :: vkk l1 :: some (.int x) :: L) (st) h := G_istore_n f232_3 rfl (S1_2 l0 l1 l2 L _)
theorem f232_4 : fetch 232 4 = some (.iload_n 2, 1) := vtab tk232 4 rfl
theorem e232_4 (l0 l1 : Option Value) (L : VL) (st : List Value) (h : VG) (x : Int32) : ev 232 4 (l0 :: l1 :: some (.int x) :: L) (st) h = ev 232 5 (l0 :: l1 :: some (.int x) :: L) (.int x :: st) h := G_iload_n f232_4 rfl
theorem f232_5 : fetch 232 5 = some (.sipush 256, 3) := vtab tk232 5 rfl
theorem e232_5 (L : VL) (st : List Value) (h : VG) : ev 232 5 L (st) h = ev 232 8 L (.int (256 : Int32) :: st) h := G_sipush f232_5 (by decide)
theorem f232_8 : fetch 232 8 = some (.if_icmp .ge 21, 3) := vtab tk232 6 rfl
theorem e232_8 (L : VL) (st : List Value) (h : VG) (x y : Int32) : ev 232 8 L (.int y :: .int x :: st) h = if x < y then ev 232 11 L st h else ev 232 29 L st h := G_icmp_ge f232_8 (by decide)
theorem f232_11 : fetch 232 11 = some (.aload_n 0, 1) := vtab tk232 7 rfl
theorem e232_11 (L : VL) (st : List Value) (h : VG) (x : Nat) : ev 232 11 (some (.ref x) :: L) (st) h = ev 232 12 (some (.ref x) :: L) (.ref x :: st) h := G_aload_n f232_11 rfl
theorem f232_12 : fetch 232 12 = some (.getfield 52, 3) := vtab tk232 8 rfl
theorem e232_12 (L : VL) (st : List Value) (h : VG) (a : Nat) (ho : ob h a 11) (hr : isR h a 23) : ev 232 12 L (.ref a :: st) h = ev 232 15 L (.ref (gR h a 23) :: st) h := G_getR (p := 1036) f232_12 lkF_12_52 (by decide) (by decide) ho hr
theorem f232_15 : fetch 232 15 = some (.iload_n 2, 1) := vtab tk232 9 rfl
theorem e232_15 (l0 l1 : Option Value) (L : VL) (st : List Value) (h : VG) (x : Int32) : ev 232 15 (l0 :: l1 :: some (.int x) :: L) (st) h = ev 232 16 (l0 :: l1 :: some (.int x) :: L) (.int x :: st) h := G_iload_n f232_15 rfl
theorem f232_16 : fetch 232 16 = some (.iaload, 1) := vtab tk232 10 rfl
theorem e232_16 (L : VL) (st : List Value) (h : VG) (a : Nat) (i : Int32) (ha : rdI h a) (hi : vp_in i (aln h a)) : ev 232 16 L (.int i :: .ref a :: st) h = ev 232 17 L (.int (aI h a i.toNatClampNeg) :: st) h := G_iald' f232_16 ha hi
theorem f232_17 : fetch 232 17 = some (.ifCond .eq 6, 3) := vtab tk232 11 rfl
theorem e232_17 (L : VL) (st : List Value) (h : VG) (x : Int32) : ev 232 17 L (.int x :: st) h = if x = 0 then ev 232 23 L st h else ev 232 20 L st h := G_if_eq f232_17 (by decide)
theorem f232_20 : fetch 232 20 = some (.iinc 1 1, 3) := vtab tk232 12 rfl
theorem e232_20 (l0 : Option Value) (L : VL) (st : List Value) (h : VG) (x : Int32) : ev 232 20 (l0 :: some (.int x) :: L) (st) h = ev 232 23 (vkk l0 :: some (.int (x + (1 : Int32))) :: L) (st) h := G_iinc f232_20 rfl (by decide) (S1_1 l0 (some (.int x)) L _)
theorem f232_23 : fetch 232 23 = some (.iinc 2 1, 3) := vtab tk232 13 rfl
theorem e232_23 (l0 l1 : Option Value) (L : VL) (st : List Value) (h : VG) (x : Int32) : ev 232 23 (l0 :: l1 :: some (.int x) :: L) (st) h = ev 232 26 (l0 :: vkk l1 :: some (.int (x + (1 : Int32))) :: L) (st) h := G_iinc f232_23 rfl (by decide) (S1_2 l0 l1 (some (.int x)) L _)
theorem f232_26 : fetch 232 26 = some (.goto (-22), 3) := vtab tk232 14 rfl
theorem e232_26 (L : VL) (st : List Value) (h : VG) : ev 232 26 L (st) h = ev 232 4 L (st) h := G_goto f232_26 (by decide)
theorem f232_29 : fetch 232 29 = some (.iload_n 1, 1) := vtab tk232 15 rfl
theorem e232_29 (l0 : Option Value) (L : VL) (st : List Value) (h : VG) (x : Int32) : ev 232 29 (l0 :: some (.int x) :: L) (st) h = ev 232 30 (l0 :: some (.int x) :: L) (.int x :: st) h := G_iload_n f232_29 rfl
theorem f232_30 : fetch 232 30 = some (.ireturn, 1) := vtab tk232 16 rfl
theorem e232_30 (L : VL) (h : VG) (x : Int32) : ev 232 30 L [.int x] h = some (some (.int x), h) := G_iret f232_30 (ty := .int) (by decide) rfl
/-! 233 GuestCallsModel.count(I)I -/
def tb233 : List (Nat × Instr × Nat) := [(0, .iload_n 1, 1), (1, .tableswitch 138 0 9 #[55, 60, 65, 78, 83, 88, 93, 123, 128, 133], 55), (56, .aload_n 0, 1), (57, .getfield 235, 3), (60, .ireturn, 1), (61, .aload_n 0, 1), (62, .getfield 40, 3), (65, .ireturn, 1), (66, .aload_n 0, 1), (67, .getfield 229, 3), (70, .ifCond .eq 7, 3), (73, .iconst 1, 1), (74, .goto 4, 3), (77, .iconst 0, 1), (78, .ireturn, 1), (79, .aload_n 0, 1), (80, .getfield 241, 3), (83, .ireturn, 1), (84, .aload_n 0, 1), (85, .invokevirtual 453, 3), (88, .ireturn, 1), (89, .aload_n 0, 1), (90, .getfield 151, 3), (93, .ireturn, 1), (94, .aload_n 0, 1), (95, .getfield 120, 3), (98, .iconst 0, 1), (99, .baload, 1), (100, .ifCond .eq 7, 3), (103, .iconst 1, 1), (104, .goto 4, 3), (107, .iconst 0, 1), (108, .aload_n 0, 1), (109, .getfield 120, 3), (112, .iconst 1, 1), (113, .baload, 1), (114, .ifCond .eq 7, 3), (117, .iconst 1, 1), (118, .goto 4, 3), (121, .iconst 0, 1), (122, .iadd, 1), (123, .ireturn, 1), (124, .aload_n 0, 1), (125, .invokevirtual 457, 3), (128, .ireturn, 1), (129, .aload_n 0, 1), (130, .invokevirtual 460, 3), (133, .ireturn, 1), (134, .aload_n 0, 1), (135, .getfield 247, 3), (138, .ireturn, 1), (139, .iconst (-1), 1), (140, .ireturn, 1)]
theorem tk233 : tb233.all (fun q => decide (fetch 233 q.1 = some q.2)) = true := by decide +kernel
theorem f233_0 : fetch 233 0 = some (.iload_n 1, 1) := vtab tk233 0 rfl
theorem e233_0 (l0 : Option Value) (L : VL) (st : List Value) (h : VG) (x : Int32) : ev 233 0 (l0 :: some (.int x) :: L) (st) h = ev 233 1 (l0 :: some (.int x) :: L) (.int x :: st) h := G_iload_n f233_0 rfl
theorem f233_1 : fetch 233 1 = some (.tableswitch 138 0 9 #[55, 60, 65, 78, 83, 88, 93, 123, 128, 133], 55) := vtab tk233 1 rfl
theorem e233_1 (L : VL) (st : List Value) (h : VG) (x : Int32) : ev 233 1 L (.int x :: st) h = if x = (0 : Int32) then ev 233 56 L st h else (if x = (1 : Int32) then ev 233 61 L st h else (if x = (2 : Int32) then ev 233 66 L st h else (if x = (3 : Int32) then ev 233 79 L st h else (if x = (4 : Int32) then ev 233 84 L st h else (if x = (5 : Int32) then ev 233 89 L st h else (if x = (6 : Int32) then ev 233 94 L st h else (if x = (7 : Int32) then ev 233 124 L st h else (if x = (8 : Int32) then ev 233 129 L st h else (if x = (9 : Int32) then ev 233 134 L st h else (ev 233 139 L st h)))))))))) := (G_tsw f233_1 (by decide) (by decide) (by decide)).trans rfl
theorem f233_56 : fetch 233 56 = some (.aload_n 0, 1) := vtab tk233 2 rfl
theorem e233_56 (L : VL) (st : List Value) (h : VG) (x : Nat) : ev 233 56 (some (.ref x) :: L) (st) h = ev 233 57 (some (.ref x) :: L) (.ref x :: st) h := G_aload_n f233_56 rfl
theorem f233_57 : fetch 233 57 = some (.getfield 235, 3) := vtab tk233 3 rfl
theorem e233_57 (L : VL) (st : List Value) (h : VG) (a : Nat) (ho : ob h a 11) : ev 233 57 L (.ref a :: st) h = ev 233 60 L (.int (gI h a 19) :: st) h := G_getI (p := 1032) f233_57 lkF_12_235 (by decide) (by decide) ho
theorem f233_60 : fetch 233 60 = some (.ireturn, 1) := vtab tk233 4 rfl
theorem e233_60 (L : VL) (h : VG) (x : Int32) : ev 233 60 L [.int x] h = some (some (.int x), h) := G_iret f233_60 (ty := .int) (by decide) rfl
theorem f233_61 : fetch 233 61 = some (.aload_n 0, 1) := vtab tk233 5 rfl
theorem e233_61 (L : VL) (st : List Value) (h : VG) (x : Nat) : ev 233 61 (some (.ref x) :: L) (st) h = ev 233 62 (some (.ref x) :: L) (.ref x :: st) h := G_aload_n f233_61 rfl
theorem f233_62 : fetch 233 62 = some (.getfield 40, 3) := vtab tk233 6 rfl
theorem e233_62 (L : VL) (st : List Value) (h : VG) (a : Nat) (ho : ob h a 11) : ev 233 62 L (.ref a :: st) h = ev 233 65 L (.int (gI h a 18) :: st) h := G_getI (p := 1031) f233_62 lkF_12_40 (by decide) (by decide) ho
theorem f233_65 : fetch 233 65 = some (.ireturn, 1) := vtab tk233 7 rfl
theorem e233_65 (L : VL) (h : VG) (x : Int32) : ev 233 65 L [.int x] h = some (some (.int x), h) := G_iret f233_65 (ty := .int) (by decide) rfl
theorem f233_66 : fetch 233 66 = some (.aload_n 0, 1) := vtab tk233 8 rfl
theorem e233_66 (L : VL) (st : List Value) (h : VG) (x : Nat) : ev 233 66 (some (.ref x) :: L) (st) h = ev 233 67 (some (.ref x) :: L) (.ref x :: st) h := G_aload_n f233_66 rfl
theorem f233_67 : fetch 233 67 = some (.getfield 229, 3) := vtab tk233 9 rfl
theorem e233_67 (L : VL) (st : List Value) (h : VG) (a : Nat) (ho : ob h a 11) : ev 233 67 L (.ref a :: st) h = ev 233 70 L (.int (gI h a 17) :: st) h := G_getI (p := 1030) f233_67 lkF_12_229 (by decide) (by decide) ho
theorem f233_70 : fetch 233 70 = some (.ifCond .eq 7, 3) := vtab tk233 10 rfl
theorem e233_70 (L : VL) (st : List Value) (h : VG) (x : Int32) : ev 233 70 L (.int x :: st) h = if x = 0 then ev 233 77 L st h else ev 233 73 L st h := G_if_eq f233_70 (by decide)
theorem f233_73 : fetch 233 73 = some (.iconst 1, 1) := vtab tk233 11 rfl
theorem e233_73 (L : VL) (st : List Value) (h : VG) : ev 233 73 L (st) h = ev 233 74 L (.int (1 : Int32) :: st) h := G_iconst f233_73 (by decide)
theorem f233_74 : fetch 233 74 = some (.goto 4, 3) := vtab tk233 12 rfl
theorem e233_74 (L : VL) (st : List Value) (h : VG) : ev 233 74 L (st) h = ev 233 78 L (st) h := G_goto f233_74 (by decide)
theorem f233_77 : fetch 233 77 = some (.iconst 0, 1) := vtab tk233 13 rfl
theorem e233_77 (L : VL) (st : List Value) (h : VG) : ev 233 77 L (st) h = ev 233 78 L (.int (0 : Int32) :: st) h := G_iconst f233_77 (by decide)
theorem f233_78 : fetch 233 78 = some (.ireturn, 1) := vtab tk233 14 rfl
theorem e233_78 (L : VL) (h : VG) (x : Int32) : ev 233 78 L [.int x] h = some (some (.int x), h) := G_iret f233_78 (ty := .int) (by decide) rfl
theorem f233_79 : fetch 233 79 = some (.aload_n 0, 1) := vtab tk233 15 rfl
theorem e233_79 (L : VL) (st : List Value) (h : VG) (x : Nat) : ev 233 79 (some (.ref x) :: L) (st) h = ev 233 80 (some (.ref x) :: L) (.ref x :: st) h := G_aload_n f233_79 rfl
theorem f233_80 : fetch 233 80 = some (.getfield 241, 3) := vtab tk233 16 rfl
theorem e233_80 (L : VL) (st : List Value) (h : VG) (a : Nat) (ho : ob h a 11) : ev 233 80 L (.ref a :: st) h = ev 233 83 L (.int (gI h a 57) :: st) h := G_getI (p := 1070) f233_80 lkF_12_241 (by decide) (by decide) ho
theorem f233_83 : fetch 233 83 = some (.ireturn, 1) := vtab tk233 17 rfl
theorem e233_83 (L : VL) (h : VG) (x : Int32) : ev 233 83 L [.int x] h = some (some (.int x), h) := G_iret f233_83 (ty := .int) (by decide) rfl
theorem f233_84 : fetch 233 84 = some (.aload_n 0, 1) := vtab tk233 18 rfl
theorem e233_84 (L : VL) (st : List Value) (h : VG) (x : Nat) : ev 233 84 (some (.ref x) :: L) (st) h = ev 233 85 (some (.ref x) :: L) (.ref x :: st) h := G_aload_n f233_84 rfl
theorem f233_85 : fetch 233 85 = some (.invokevirtual 453, 3) := vtab tk233 19 rfl
theorem e233_85 (L : VL) (st : List Value) (h : VG) (b : Nat)  (ho : ob h b 11) (hs : catS st ≤ 8) : ev 233 85 L (.ref b :: st) h = (ev 226 0 [some (.ref b)] [] h).bind fun q => ev 233 88 L (q.1.toList ++ st) q.2 := G_callv (k := 1) (p := 1563) (ars := []) f233_85 lkC_12_453 (by decide) (by decide +kernel) rfl (vcls_ob (ci := 11) (by decide) ho) (Nat.le_of_ble_eq_true rfl) hs rfl
theorem f233_88 : fetch 233 88 = some (.ireturn, 1) := vtab tk233 20 rfl
theorem e233_88 (L : VL) (h : VG) (x : Int32) : ev 233 88 L [.int x] h = some (some (.int x), h) := G_iret f233_88 (ty := .int) (by decide) rfl
theorem f233_89 : fetch 233 89 = some (.aload_n 0, 1) := vtab tk233 21 rfl
theorem e233_89 (L : VL) (st : List Value) (h : VG) (x : Nat) : ev 233 89 (some (.ref x) :: L) (st) h = ev 233 90 (some (.ref x) :: L) (.ref x :: st) h := G_aload_n f233_89 rfl
theorem f233_90 : fetch 233 90 = some (.getfield 151, 3) := vtab tk233 22 rfl
theorem e233_90 (L : VL) (st : List Value) (h : VG) (a : Nat) (ho : ob h a 11) : ev 233 90 L (.ref a :: st) h = ev 233 93 L (.int (gI h a 2) :: st) h := G_getI (p := 1015) f233_90 lkF_12_151 (by decide) (by decide) ho
theorem f233_93 : fetch 233 93 = some (.ireturn, 1) := vtab tk233 23 rfl
theorem e233_93 (L : VL) (h : VG) (x : Int32) : ev 233 93 L [.int x] h = some (some (.int x), h) := G_iret f233_93 (ty := .int) (by decide) rfl
theorem f233_94 : fetch 233 94 = some (.aload_n 0, 1) := vtab tk233 24 rfl
theorem e233_94 (L : VL) (st : List Value) (h : VG) (x : Nat) : ev 233 94 (some (.ref x) :: L) (st) h = ev 233 95 (some (.ref x) :: L) (.ref x :: st) h := G_aload_n f233_94 rfl
theorem f233_95 : fetch 233 95 = some (.getfield 120, 3) := vtab tk233 25 rfl
theorem e233_95 (L : VL) (st : List Value) (h : VG) (a : Nat) (ho : ob h a 11) (hr : isR h a 58) : ev 233 95 L (.ref a :: st) h = ev 233 98 L (.ref (gR h a 58) :: st) h := G_getR (p := 1071) f233_95 lkF_12_120 (by decide) (by decide) ho hr
theorem f233_98 : fetch 233 98 = some (.iconst 0, 1) := vtab tk233 26 rfl
theorem e233_98 (L : VL) (st : List Value) (h : VG) : ev 233 98 L (st) h = ev 233 99 L (.int (0 : Int32) :: st) h := G_iconst f233_98 (by decide)
theorem f233_99 : fetch 233 99 = some (.baload, 1) := vtab tk233 27 rfl
theorem e233_99 (L : VL) (st : List Value) (h : VG) (a : Nat) (i : Int32) (ha : rdB h a) (hi : vp_in i (aln h a)) : ev 233 99 L (.int i :: .ref a :: st) h = ev 233 100 L (.int (aI h a i.toNatClampNeg) :: st) h := G_bald' f233_99 ha hi
theorem f233_100 : fetch 233 100 = some (.ifCond .eq 7, 3) := vtab tk233 28 rfl
theorem e233_100 (L : VL) (st : List Value) (h : VG) (x : Int32) : ev 233 100 L (.int x :: st) h = if x = 0 then ev 233 107 L st h else ev 233 103 L st h := G_if_eq f233_100 (by decide)
theorem f233_103 : fetch 233 103 = some (.iconst 1, 1) := vtab tk233 29 rfl
theorem e233_103 (L : VL) (st : List Value) (h : VG) : ev 233 103 L (st) h = ev 233 104 L (.int (1 : Int32) :: st) h := G_iconst f233_103 (by decide)
theorem f233_104 : fetch 233 104 = some (.goto 4, 3) := vtab tk233 30 rfl
theorem e233_104 (L : VL) (st : List Value) (h : VG) : ev 233 104 L (st) h = ev 233 108 L (st) h := G_goto f233_104 (by decide)
theorem f233_107 : fetch 233 107 = some (.iconst 0, 1) := vtab tk233 31 rfl
theorem e233_107 (L : VL) (st : List Value) (h : VG) : ev 233 107 L (st) h = ev 233 108 L (.int (0 : Int32) :: st) h := G_iconst f233_107 (by decide)
theorem f233_108 : fetch 233 108 = some (.aload_n 0, 1) := vtab tk233 32 rfl
theorem e233_108 (L : VL) (st : List Value) (h : VG) (x : Nat) : ev 233 108 (some (.ref x) :: L) (st) h = ev 233 109 (some (.ref x) :: L) (.ref x :: st) h := G_aload_n f233_108 rfl
theorem f233_109 : fetch 233 109 = some (.getfield 120, 3) := vtab tk233 33 rfl
theorem e233_109 (L : VL) (st : List Value) (h : VG) (a : Nat) (ho : ob h a 11) (hr : isR h a 58) : ev 233 109 L (.ref a :: st) h = ev 233 112 L (.ref (gR h a 58) :: st) h := G_getR (p := 1071) f233_109 lkF_12_120 (by decide) (by decide) ho hr
theorem f233_112 : fetch 233 112 = some (.iconst 1, 1) := vtab tk233 34 rfl
theorem e233_112 (L : VL) (st : List Value) (h : VG) : ev 233 112 L (st) h = ev 233 113 L (.int (1 : Int32) :: st) h := G_iconst f233_112 (by decide)
theorem f233_113 : fetch 233 113 = some (.baload, 1) := vtab tk233 35 rfl
theorem e233_113 (L : VL) (st : List Value) (h : VG) (a : Nat) (i : Int32) (ha : rdB h a) (hi : vp_in i (aln h a)) : ev 233 113 L (.int i :: .ref a :: st) h = ev 233 114 L (.int (aI h a i.toNatClampNeg) :: st) h := G_bald' f233_113 ha hi
theorem f233_114 : fetch 233 114 = some (.ifCond .eq 7, 3) := vtab tk233 36 rfl
theorem e233_114 (L : VL) (st : List Value) (h : VG) (x : Int32) : ev 233 114 L (.int x :: st) h = if x = 0 then ev 233 121 L st h else ev 233 117 L st h := G_if_eq f233_114 (by decide)
theorem f233_117 : fetch 233 117 = some (.iconst 1, 1) := vtab tk233 37 rfl
theorem e233_117 (L : VL) (st : List Value) (h : VG) : ev 233 117 L (st) h = ev 233 118 L (.int (1 : Int32) :: st) h := G_iconst f233_117 (by decide)
theorem f233_118 : fetch 233 118 = some (.goto 4, 3) := vtab tk233 38 rfl
theorem e233_118 (L : VL) (st : List Value) (h : VG) : ev 233 118 L (st) h = ev 233 122 L (st) h := G_goto f233_118 (by decide)
theorem f233_121 : fetch 233 121 = some (.iconst 0, 1) := vtab tk233 39 rfl
theorem e233_121 (L : VL) (st : List Value) (h : VG) : ev 233 121 L (st) h = ev 233 122 L (.int (0 : Int32) :: st) h := G_iconst f233_121 (by decide)
theorem f233_122 : fetch 233 122 = some (.iadd, 1) := vtab tk233 40 rfl
theorem e233_122 (L : VL) (st : List Value) (h : VG) (x y : Int32) : ev 233 122 L (.int y :: .int x :: st) h = ev 233 123 L (.int (x + y) :: st) h := G_iadd f233_122
theorem f233_123 : fetch 233 123 = some (.ireturn, 1) := vtab tk233 41 rfl
theorem e233_123 (L : VL) (h : VG) (x : Int32) : ev 233 123 L [.int x] h = some (some (.int x), h) := G_iret f233_123 (ty := .int) (by decide) rfl
theorem f233_124 : fetch 233 124 = some (.aload_n 0, 1) := vtab tk233 42 rfl
theorem e233_124 (L : VL) (st : List Value) (h : VG) (x : Nat) : ev 233 124 (some (.ref x) :: L) (st) h = ev 233 125 (some (.ref x) :: L) (.ref x :: st) h := G_aload_n f233_124 rfl
theorem f233_125 : fetch 233 125 = some (.invokevirtual 457, 3) := vtab tk233 43 rfl
theorem e233_125 (L : VL) (st : List Value) (h : VG) (b : Nat)  (ho : ob h b 11) (hs : catS st ≤ 8) : ev 233 125 L (.ref b :: st) h = (ev 231 0 [some (.ref b), none, none] [] h).bind fun q => ev 233 128 L (q.1.toList ++ st) q.2 := G_callv (k := 1) (p := 1583) (ars := []) f233_125 lkC_12_457 (by decide) (by decide +kernel) rfl (vcls_ob (ci := 11) (by decide) ho) (Nat.le_of_ble_eq_true rfl) hs rfl
theorem f233_128 : fetch 233 128 = some (.ireturn, 1) := vtab tk233 44 rfl
theorem e233_128 (L : VL) (h : VG) (x : Int32) : ev 233 128 L [.int x] h = some (some (.int x), h) := G_iret f233_128 (ty := .int) (by decide) rfl
theorem f233_129 : fetch 233 129 = some (.aload_n 0, 1) := vtab tk233 45 rfl
theorem e233_129 (L : VL) (st : List Value) (h : VG) (x : Nat) : ev 233 129 (some (.ref x) :: L) (st) h = ev 233 130 (some (.ref x) :: L) (.ref x :: st) h := G_aload_n f233_129 rfl
theorem f233_130 : fetch 233 130 = some (.invokevirtual 460, 3) := vtab tk233 46 rfl
theorem e233_130 (L : VL) (st : List Value) (h : VG) (b : Nat)  (ho : ob h b 11) (hs : catS st ≤ 8) : ev 233 130 L (.ref b :: st) h = (ev 232 0 [some (.ref b), none, none] [] h).bind fun q => ev 233 133 L (q.1.toList ++ st) q.2 := G_callv (k := 1) (p := 1587) (ars := []) f233_130 lkC_12_460 (by decide) (by decide +kernel) rfl (vcls_ob (ci := 11) (by decide) ho) (Nat.le_of_ble_eq_true rfl) hs rfl
theorem f233_133 : fetch 233 133 = some (.ireturn, 1) := vtab tk233 47 rfl
theorem e233_133 (L : VL) (h : VG) (x : Int32) : ev 233 133 L [.int x] h = some (some (.int x), h) := G_iret f233_133 (ty := .int) (by decide) rfl
theorem f233_134 : fetch 233 134 = some (.aload_n 0, 1) := vtab tk233 48 rfl
theorem e233_134 (L : VL) (st : List Value) (h : VG) (x : Nat) : ev 233 134 (some (.ref x) :: L) (st) h = ev 233 135 (some (.ref x) :: L) (.ref x :: st) h := G_aload_n f233_134 rfl
theorem f233_135 : fetch 233 135 = some (.getfield 247, 3) := vtab tk233 49 rfl
theorem e233_135 (L : VL) (st : List Value) (h : VG) (a : Nat) (ho : ob h a 11) : ev 233 135 L (.ref a :: st) h = ev 233 138 L (.int (gI h a 32) :: st) h := G_getI (p := 1045) f233_135 lkF_12_247 (by decide) (by decide) ho
theorem f233_138 : fetch 233 138 = some (.ireturn, 1) := vtab tk233 50 rfl
theorem e233_138 (L : VL) (h : VG) (x : Int32) : ev 233 138 L [.int x] h = some (some (.int x), h) := G_iret f233_138 (ty := .int) (by decide) rfl
theorem f233_139 : fetch 233 139 = some (.iconst (-1), 1) := vtab tk233 51 rfl
theorem e233_139 (L : VL) (st : List Value) (h : VG) : ev 233 139 L (st) h = ev 233 140 L (.int (-1 : Int32) :: st) h := G_iconst f233_139 (by decide)
theorem f233_140 : fetch 233 140 = some (.ireturn, 1) := vtab tk233 52 rfl
theorem e233_140 (L : VL) (h : VG) (x : Int32) : ev 233 140 L [.int x] h = some (some (.int x), h) := G_iret f233_140 (ty := .int) (by decide) rfl
/-! 234 GuestCallsLaw.law([I)Z -/
def tb234_0 : List (Nat × Instr × Nat) := [(0, .new 7, 3), (3, .dup, 1), (4, .invokespecial 9, 3), (7, .astore_n 1, 1), (8, .new 10, 3), (11, .dup, 1), (12, .invokespecial 12, 3), (15, .astore_n 2, 1), (16, .iconst 0, 1), (17, .istore_n 3, 1), (18, .iload_n 3, 1), (19, .aload_n 0, 1), (20, .arraylength, 1), (21, .bipush 7, 2), (23, .isub, 1), (24, .if_icmp .gt 1383, 3), (27, .aload_n 0, 1), (28, .iload_n 3, 1), (29, .iaload, 1), (30, .bipush 31, 2), (32, .iand, 1), (33, .tableswitch 1368 0 29 #[135, 198, 221, 234, 247, 260, 329, 372, 395, 428, 471, 494, 538, 621, 665, 748, 823, 886, 919, 962, 1005, 1074, 1117, 1186, 1210, 1273, 1286, 1299, 1322, 1345], 135), (168, .aload_n 1, 1), (169, .aload_n 0, 1), (170, .iload_n 3, 1), (171, .iconst 1, 1), (172, .iadd, 1), (173, .iaload, 1), (174, .aload_n 0, 1), (175, .iload_n 3, 1), (176, .iconst 2, 1), (177, .iadd, 1), (178, .iaload, 1), (179, .aload_n 0, 1), (180, .iload_n 3, 1), (181, .iconst 3, 1), (182, .iadd, 1), (183, .iaload, 1), (184, .aload_n 0, 1), (185, .iload_n 3, 1), (186, .iconst 4, 1), (187, .iadd, 1), (188, .iaload, 1), (189, .aload_n 0, 1), (190, .iload_n 3, 1), (191, .iconst 5, 1), (192, .iadd, 1), (193, .iaload, 1), (194, .invokevirtual 13, 3), (197, .aload_n 2, 1)]
theorem tk234_0 : tb234_0.all (fun q => decide (fetch 234 q.1 = some q.2)) = true := by decide +kernel
def tb234_1 : List (Nat × Instr × Nat) := [(198, .aload_n 0, 1), (199, .iload_n 3, 1), (200, .iconst 1, 1), (201, .iadd, 1), (202, .iaload, 1), (203, .aload_n 0, 1), (204, .iload_n 3, 1), (205, .iconst 2, 1), (206, .iadd, 1), (207, .iaload, 1), (208, .aload_n 0, 1), (209, .iload_n 3, 1), (210, .iconst 3, 1), (211, .iadd, 1), (212, .iaload, 1), (213, .aload_n 0, 1), (214, .iload_n 3, 1), (215, .iconst 4, 1), (216, .iadd, 1), (217, .iaload, 1), (218, .aload_n 0, 1), (219, .iload_n 3, 1), (220, .iconst 5, 1), (221, .iadd, 1), (222, .iaload, 1), (223, .invokevirtual 17, 3), (226, .if_icmp .eq 1175, 3), (229, .iconst 0, 1), (230, .ireturn, 1), (231, .aload_n 1, 1), (232, .aload_n 0, 1), (233, .iload_n 3, 1), (234, .iconst 1, 1), (235, .iadd, 1), (236, .iaload, 1), (237, .invokevirtual 18, 3), (240, .aload_n 2, 1), (241, .aload_n 0, 1), (242, .iload_n 3, 1), (243, .iconst 1, 1), (244, .iadd, 1), (245, .iaload, 1), (246, .invokevirtual 22, 3), (249, .if_icmp .eq 1152, 3), (252, .iconst 0, 1), (253, .ireturn, 1), (254, .aload_n 1, 1), (255, .invokevirtual 23, 3), (258, .aload_n 2, 1), (259, .invokevirtual 27, 3)]
theorem tk234_1 : tb234_1.all (fun q => decide (fetch 234 q.1 = some q.2)) = true := by decide +kernel
def tb234_2 : List (Nat × Instr × Nat) := [(262, .if_icmp .eq 1139, 3), (265, .iconst 0, 1), (266, .ireturn, 1), (267, .aload_n 1, 1), (268, .invokevirtual 28, 3), (271, .aload_n 2, 1), (272, .invokevirtual 31, 3), (275, .if_icmp .eq 1126, 3), (278, .iconst 0, 1), (279, .ireturn, 1), (280, .aload_n 1, 1), (281, .invokevirtual 32, 3), (284, .aload_n 2, 1), (285, .invokevirtual 35, 3), (288, .if_icmp .eq 1113, 3), (291, .iconst 0, 1), (292, .ireturn, 1), (293, .aload_n 1, 1), (294, .aload_n 0, 1), (295, .iload_n 3, 1), (296, .iconst 1, 1), (297, .iadd, 1), (298, .iaload, 1), (299, .aload_n 0, 1), (300, .iload_n 3, 1), (301, .iconst 2, 1), (302, .iadd, 1), (303, .iaload, 1), (304, .ifCond .eq 7, 3), (307, .iconst 1, 1), (308, .goto 4, 3), (311, .iconst 0, 1), (312, .aload_n 0, 1), (313, .iload_n 3, 1), (314, .iconst 3, 1), (315, .iadd, 1), (316, .iaload, 1), (317, .aload_n 0, 1), (318, .iload_n 3, 1), (319, .iconst 4, 1), (320, .iadd, 1), (321, .iaload, 1), (322, .invokevirtual 36, 3), (325, .aload_n 2, 1), (326, .aload_n 0, 1), (327, .iload_n 3, 1), (328, .iconst 1, 1), (329, .iadd, 1), (330, .iaload, 1), (331, .aload_n 0, 1)]
theorem tk234_2 : tb234_2.all (fun q => decide (fetch 234 q.1 = some q.2)) = true := by decide +kernel
def tb234_3 : List (Nat × Instr × Nat) := [(332, .iload_n 3, 1), (333, .iconst 2, 1), (334, .iadd, 1), (335, .iaload, 1), (336, .ifCond .eq 7, 3), (339, .iconst 1, 1), (340, .goto 4, 3), (343, .iconst 0, 1), (344, .aload_n 0, 1), (345, .iload_n 3, 1), (346, .iconst 3, 1), (347, .iadd, 1), (348, .iaload, 1), (349, .aload_n 0, 1), (350, .iload_n 3, 1), (351, .iconst 4, 1), (352, .iadd, 1), (353, .iaload, 1), (354, .invokevirtual 40, 3), (357, .if_icmp .eq 1044, 3), (360, .iconst 0, 1), (361, .ireturn, 1), (362, .aload_n 1, 1), (363, .aload_n 0, 1), (364, .iload_n 3, 1), (365, .iconst 1, 1), (366, .iadd, 1), (367, .iaload, 1), (368, .aload_n 0, 1), (369, .iload_n 3, 1), (370, .iconst 2, 1), (371, .iadd, 1), (372, .iaload, 1), (373, .aload_n 0, 1), (374, .iload_n 3, 1), (375, .iconst 3, 1), (376, .iadd, 1), (377, .iaload, 1), (378, .invokevirtual 41, 3), (381, .aload_n 2, 1), (382, .aload_n 0, 1), (383, .iload_n 3, 1), (384, .iconst 1, 1), (385, .iadd, 1), (386, .iaload, 1), (387, .aload_n 0, 1), (388, .iload_n 3, 1), (389, .iconst 2, 1), (390, .iadd, 1), (391, .iaload, 1)]
theorem tk234_3 : tb234_3.all (fun q => decide (fetch 234 q.1 = some q.2)) = true := by decide +kernel
def tb234_4 : List (Nat × Instr × Nat) := [(392, .aload_n 0, 1), (393, .iload_n 3, 1), (394, .iconst 3, 1), (395, .iadd, 1), (396, .iaload, 1), (397, .invokevirtual 45, 3), (400, .if_icmp .eq 1001, 3), (403, .iconst 0, 1), (404, .ireturn, 1), (405, .aload_n 1, 1), (406, .aload_n 0, 1), (407, .iload_n 3, 1), (408, .iconst 1, 1), (409, .iadd, 1), (410, .iaload, 1), (411, .invokevirtual 46, 3), (414, .aload_n 2, 1), (415, .aload_n 0, 1), (416, .iload_n 3, 1), (417, .iconst 1, 1), (418, .iadd, 1), (419, .iaload, 1), (420, .invokevirtual 49, 3), (423, .if_icmp .eq 978, 3), (426, .iconst 0, 1), (427, .ireturn, 1), (428, .aload_n 1, 1), (429, .aload_n 0, 1), (430, .iload_n 3, 1), (431, .iconst 1, 1), (432, .iadd, 1), (433, .iaload, 1), (434, .aload_n 0, 1), (435, .iload_n 3, 1), (436, .iconst 2, 1), (437, .iadd, 1), (438, .iaload, 1), (439, .invokevirtual 50, 3), (442, .aload_n 2, 1), (443, .aload_n 0, 1), (444, .iload_n 3, 1), (445, .iconst 1, 1), (446, .iadd, 1), (447, .iaload, 1), (448, .aload_n 0, 1), (449, .iload_n 3, 1), (450, .iconst 2, 1), (451, .iadd, 1), (452, .iaload, 1), (453, .invokevirtual 54, 3)]
theorem tk234_4 : tb234_4.all (fun q => decide (fetch 234 q.1 = some q.2)) = true := by decide +kernel
def tb234_5 : List (Nat × Instr × Nat) := [(456, .if_icmp .eq 945, 3), (459, .iconst 0, 1), (460, .ireturn, 1), (461, .aload_n 1, 1), (462, .aload_n 0, 1), (463, .iload_n 3, 1), (464, .iconst 1, 1), (465, .iadd, 1), (466, .iaload, 1), (467, .aload_n 0, 1), (468, .iload_n 3, 1), (469, .iconst 2, 1), (470, .iadd, 1), (471, .iaload, 1), (472, .aload_n 0, 1), (473, .iload_n 3, 1), (474, .iconst 3, 1), (475, .iadd, 1), (476, .iaload, 1), (477, .invokevirtual 55, 3), (480, .aload_n 2, 1), (481, .aload_n 0, 1), (482, .iload_n 3, 1), (483, .iconst 1, 1), (484, .iadd, 1), (485, .iaload, 1), (486, .aload_n 0, 1), (487, .iload_n 3, 1), (488, .iconst 2, 1), (489, .iadd, 1), (490, .iaload, 1), (491, .aload_n 0, 1), (492, .iload_n 3, 1), (493, .iconst 3, 1), (494, .iadd, 1), (495, .iaload, 1), (496, .invokevirtual 59, 3), (499, .if_icmp .eq 902, 3), (502, .iconst 0, 1), (503, .ireturn, 1), (504, .aload_n 1, 1), (505, .aload_n 0, 1), (506, .iload_n 3, 1), (507, .iconst 1, 1), (508, .iadd, 1), (509, .iaload, 1), (510, .invokevirtual 60, 3), (513, .aload_n 2, 1), (514, .aload_n 0, 1), (515, .iload_n 3, 1)]
theorem tk234_5 : tb234_5.all (fun q => decide (fetch 234 q.1 = some q.2)) = true := by decide +kernel
def tb234_6 : List (Nat × Instr × Nat) := [(516, .iconst 1, 1), (517, .iadd, 1), (518, .iaload, 1), (519, .invokevirtual 63, 3), (522, .if_icmp .eq 879, 3), (525, .iconst 0, 1), (526, .ireturn, 1), (527, .aload_n 1, 1), (528, .aload_n 0, 1), (529, .iload_n 3, 1), (530, .iconst 1, 1), (531, .iadd, 1), (532, .iaload, 1), (533, .aload_n 0, 1), (534, .iload_n 3, 1), (535, .iconst 2, 1), (536, .iadd, 1), (537, .iaload, 1), (538, .aload_n 0, 1), (539, .iload_n 3, 1), (540, .iconst 3, 1), (541, .iadd, 1), (542, .iaload, 1), (543, .invokevirtual 64, 3), (546, .aload_n 2, 1), (547, .aload_n 0, 1), (548, .iload_n 3, 1), (549, .iconst 1, 1), (550, .iadd, 1), (551, .iaload, 1), (552, .aload_n 0, 1), (553, .iload_n 3, 1), (554, .iconst 2, 1), (555, .iadd, 1), (556, .iaload, 1), (557, .aload_n 0, 1), (558, .iload_n 3, 1), (559, .iconst 3, 1), (560, .iadd, 1), (561, .iaload, 1), (562, .invokevirtual 68, 3), (565, .lcmp, 1), (566, .ifCond .eq 835, 3), (569, .iconst 0, 1), (570, .ireturn, 1), (571, .aload_n 1, 1), (572, .aload_n 0, 1), (573, .iload_n 3, 1), (574, .iconst 1, 1), (575, .iadd, 1)]
theorem tk234_6 : tb234_6.all (fun q => decide (fetch 234 q.1 = some q.2)) = true := by decide +kernel
def tb234_7 : List (Nat × Instr × Nat) := [(576, .iaload, 1), (577, .aload_n 0, 1), (578, .iload_n 3, 1), (579, .iconst 2, 1), (580, .iadd, 1), (581, .iaload, 1), (582, .aload_n 0, 1), (583, .iload_n 3, 1), (584, .iconst 3, 1), (585, .iadd, 1), (586, .iaload, 1), (587, .aload_n 0, 1), (588, .iload_n 3, 1), (589, .iconst 4, 1), (590, .iadd, 1), (591, .iaload, 1), (592, .i2l, 1), (593, .bipush 32, 2), (595, .lshl, 1), (596, .aload_n 0, 1), (597, .iload_n 3, 1), (598, .iconst 5, 1), (599, .iadd, 1), (600, .iaload, 1), (601, .i2l, 1), (602, .ldc2_w 69, 3), (605, .land, 1), (606, .lor, 1), (607, .invokevirtual 71, 3), (610, .aload_n 2, 1), (611, .aload_n 0, 1), (612, .iload_n 3, 1), (613, .iconst 1, 1), (614, .iadd, 1), (615, .iaload, 1), (616, .aload_n 0, 1), (617, .iload_n 3, 1), (618, .iconst 2, 1), (619, .iadd, 1), (620, .iaload, 1), (621, .aload_n 0, 1), (622, .iload_n 3, 1), (623, .iconst 3, 1), (624, .iadd, 1), (625, .iaload, 1), (626, .aload_n 0, 1), (627, .iload_n 3, 1), (628, .iconst 4, 1), (629, .iadd, 1), (630, .iaload, 1)]
theorem tk234_7 : tb234_7.all (fun q => decide (fetch 234 q.1 = some q.2)) = true := by decide +kernel
def tb234_8 : List (Nat × Instr × Nat) := [(631, .i2l, 1), (632, .bipush 32, 2), (634, .lshl, 1), (635, .aload_n 0, 1), (636, .iload_n 3, 1), (637, .iconst 5, 1), (638, .iadd, 1), (639, .iaload, 1), (640, .i2l, 1), (641, .ldc2_w 69, 3), (644, .land, 1), (645, .lor, 1), (646, .invokevirtual 75, 3), (649, .if_icmp .eq 752, 3), (652, .iconst 0, 1), (653, .ireturn, 1), (654, .aload_n 1, 1), (655, .aload_n 0, 1), (656, .iload_n 3, 1), (657, .iconst 1, 1), (658, .iadd, 1), (659, .iaload, 1), (660, .aload_n 0, 1), (661, .iload_n 3, 1), (662, .iconst 2, 1), (663, .iadd, 1), (664, .iaload, 1), (665, .aload_n 0, 1), (666, .iload_n 3, 1), (667, .iconst 3, 1), (668, .iadd, 1), (669, .iaload, 1), (670, .invokevirtual 76, 3), (673, .aload_n 2, 1), (674, .aload_n 0, 1), (675, .iload_n 3, 1), (676, .iconst 1, 1), (677, .iadd, 1), (678, .iaload, 1), (679, .aload_n 0, 1), (680, .iload_n 3, 1), (681, .iconst 2, 1), (682, .iadd, 1), (683, .iaload, 1), (684, .aload_n 0, 1), (685, .iload_n 3, 1), (686, .iconst 3, 1), (687, .iadd, 1), (688, .iaload, 1), (689, .invokevirtual 79, 3)]
theorem tk234_8 : tb234_8.all (fun q => decide (fetch 234 q.1 = some q.2)) = true := by decide +kernel
def tb234_9 : List (Nat × Instr × Nat) := [(692, .lcmp, 1), (693, .ifCond .eq 708, 3), (696, .iconst 0, 1), (697, .ireturn, 1), (698, .aload_n 1, 1), (699, .aload_n 0, 1), (700, .iload_n 3, 1), (701, .iconst 1, 1), (702, .iadd, 1), (703, .iaload, 1), (704, .aload_n 0, 1), (705, .iload_n 3, 1), (706, .iconst 2, 1), (707, .iadd, 1), (708, .iaload, 1), (709, .aload_n 0, 1), (710, .iload_n 3, 1), (711, .iconst 3, 1), (712, .iadd, 1), (713, .iaload, 1), (714, .aload_n 0, 1), (715, .iload_n 3, 1), (716, .iconst 4, 1), (717, .iadd, 1), (718, .iaload, 1), (719, .i2l, 1), (720, .bipush 32, 2), (722, .lshl, 1), (723, .aload_n 0, 1), (724, .iload_n 3, 1), (725, .iconst 5, 1), (726, .iadd, 1), (727, .iaload, 1), (728, .i2l, 1), (729, .ldc2_w 69, 3), (732, .land, 1), (733, .lor, 1), (734, .invokevirtual 80, 3), (737, .aload_n 2, 1), (738, .aload_n 0, 1), (739, .iload_n 3, 1), (740, .iconst 1, 1), (741, .iadd, 1), (742, .iaload, 1), (743, .aload_n 0, 1), (744, .iload_n 3, 1), (745, .iconst 2, 1), (746, .iadd, 1), (747, .iaload, 1), (748, .aload_n 0, 1)]
theorem tk234_9 : tb234_9.all (fun q => decide (fetch 234 q.1 = some q.2)) = true := by decide +kernel
def tb234_10 : List (Nat × Instr × Nat) := [(749, .iload_n 3, 1), (750, .iconst 3, 1), (751, .iadd, 1), (752, .iaload, 1), (753, .aload_n 0, 1), (754, .iload_n 3, 1), (755, .iconst 4, 1), (756, .iadd, 1), (757, .iaload, 1), (758, .i2l, 1), (759, .bipush 32, 2), (761, .lshl, 1), (762, .aload_n 0, 1), (763, .iload_n 3, 1), (764, .iconst 5, 1), (765, .iadd, 1), (766, .iaload, 1), (767, .i2l, 1), (768, .ldc2_w 69, 3), (771, .land, 1), (772, .lor, 1), (773, .invokevirtual 83, 3), (776, .if_icmp .eq 625, 3), (779, .iconst 0, 1), (780, .ireturn, 1), (781, .aload_n 1, 1), (782, .aload_n 0, 1), (783, .iload_n 3, 1), (784, .iconst 1, 1), (785, .iadd, 1), (786, .iaload, 1), (787, .aload_n 0, 1), (788, .iload_n 3, 1), (789, .iconst 2, 1), (790, .iadd, 1), (791, .iaload, 1), (792, .aload_n 0, 1), (793, .iload_n 3, 1), (794, .iconst 3, 1), (795, .iadd, 1), (796, .iaload, 1), (797, .aload_n 0, 1), (798, .iload_n 3, 1), (799, .iconst 4, 1), (800, .iadd, 1), (801, .iaload, 1), (802, .aload_n 0, 1), (803, .iload_n 3, 1), (804, .iconst 5, 1), (805, .iadd, 1)]
theorem tk234_10 : tb234_10.all (fun q => decide (fetch 234 q.1 = some q.2)) = true := by decide +kernel
def tb234_11 : List (Nat × Instr × Nat) := [(806, .iaload, 1), (807, .aload_n 0, 1), (808, .iload_n 3, 1), (809, .bipush 6, 2), (811, .iadd, 1), (812, .iaload, 1), (813, .invokevirtual 84, 3), (816, .aload_n 2, 1), (817, .aload_n 0, 1), (818, .iload_n 3, 1), (819, .iconst 1, 1), (820, .iadd, 1), (821, .iaload, 1), (822, .aload_n 0, 1), (823, .iload_n 3, 1), (824, .iconst 2, 1), (825, .iadd, 1), (826, .iaload, 1), (827, .aload_n 0, 1), (828, .iload_n 3, 1), (829, .iconst 3, 1), (830, .iadd, 1), (831, .iaload, 1), (832, .aload_n 0, 1), (833, .iload_n 3, 1), (834, .iconst 4, 1), (835, .iadd, 1), (836, .iaload, 1), (837, .aload_n 0, 1), (838, .iload_n 3, 1), (839, .iconst 5, 1), (840, .iadd, 1), (841, .iaload, 1), (842, .aload_n 0, 1), (843, .iload_n 3, 1), (844, .bipush 6, 2), (846, .iadd, 1), (847, .iaload, 1), (848, .invokevirtual 88, 3), (851, .if_icmp .eq 550, 3), (854, .iconst 0, 1), (855, .ireturn, 1), (856, .aload_n 1, 1), (857, .aload_n 0, 1), (858, .iload_n 3, 1), (859, .iconst 1, 1), (860, .iadd, 1), (861, .iaload, 1), (862, .aload_n 0, 1), (863, .iload_n 3, 1)]
theorem tk234_11 : tb234_11.all (fun q => decide (fetch 234 q.1 = some q.2)) = true := by decide +kernel
def tb234_12 : List (Nat × Instr × Nat) := [(864, .iconst 2, 1), (865, .iadd, 1), (866, .iaload, 1), (867, .aload_n 0, 1), (868, .iload_n 3, 1), (869, .iconst 3, 1), (870, .iadd, 1), (871, .iaload, 1), (872, .aload_n 0, 1), (873, .iload_n 3, 1), (874, .iconst 4, 1), (875, .iadd, 1), (876, .iaload, 1), (877, .aload_n 0, 1), (878, .iload_n 3, 1), (879, .iconst 5, 1), (880, .iadd, 1), (881, .iaload, 1), (882, .invokevirtual 89, 3), (885, .aload_n 2, 1), (886, .aload_n 0, 1), (887, .iload_n 3, 1), (888, .iconst 1, 1), (889, .iadd, 1), (890, .iaload, 1), (891, .aload_n 0, 1), (892, .iload_n 3, 1), (893, .iconst 2, 1), (894, .iadd, 1), (895, .iaload, 1), (896, .aload_n 0, 1), (897, .iload_n 3, 1), (898, .iconst 3, 1), (899, .iadd, 1), (900, .iaload, 1), (901, .aload_n 0, 1), (902, .iload_n 3, 1), (903, .iconst 4, 1), (904, .iadd, 1), (905, .iaload, 1), (906, .aload_n 0, 1), (907, .iload_n 3, 1), (908, .iconst 5, 1), (909, .iadd, 1), (910, .iaload, 1), (911, .invokevirtual 93, 3), (914, .if_icmp .eq 487, 3), (917, .iconst 0, 1), (918, .ireturn, 1), (919, .aload_n 1, 1)]
theorem tk234_12 : tb234_12.all (fun q => decide (fetch 234 q.1 = some q.2)) = true := by decide +kernel
def tb234_13 : List (Nat × Instr × Nat) := [(920, .aload_n 0, 1), (921, .iload_n 3, 1), (922, .iconst 1, 1), (923, .iadd, 1), (924, .iaload, 1), (925, .aload_n 0, 1), (926, .iload_n 3, 1), (927, .iconst 2, 1), (928, .iadd, 1), (929, .iaload, 1), (930, .invokevirtual 94, 3), (933, .aload_n 2, 1), (934, .aload_n 0, 1), (935, .iload_n 3, 1), (936, .iconst 1, 1), (937, .iadd, 1), (938, .iaload, 1), (939, .aload_n 0, 1), (940, .iload_n 3, 1), (941, .iconst 2, 1), (942, .iadd, 1), (943, .iaload, 1), (944, .invokevirtual 98, 3), (947, .if_icmp .eq 454, 3), (950, .iconst 0, 1), (951, .ireturn, 1), (952, .aload_n 1, 1), (953, .aload_n 0, 1), (954, .iload_n 3, 1), (955, .iconst 1, 1), (956, .iadd, 1), (957, .iaload, 1), (958, .aload_n 0, 1), (959, .iload_n 3, 1), (960, .iconst 2, 1), (961, .iadd, 1), (962, .iaload, 1), (963, .aload_n 0, 1), (964, .iload_n 3, 1), (965, .iconst 3, 1), (966, .iadd, 1), (967, .iaload, 1), (968, .invokevirtual 99, 3), (971, .aload_n 2, 1), (972, .aload_n 0, 1), (973, .iload_n 3, 1), (974, .iconst 1, 1), (975, .iadd, 1), (976, .iaload, 1), (977, .aload_n 0, 1)]
theorem tk234_13 : tb234_13.all (fun q => decide (fetch 234 q.1 = some q.2)) = true := by decide +kernel
def tb234_14 : List (Nat × Instr × Nat) := [(978, .iload_n 3, 1), (979, .iconst 2, 1), (980, .iadd, 1), (981, .iaload, 1), (982, .aload_n 0, 1), (983, .iload_n 3, 1), (984, .iconst 3, 1), (985, .iadd, 1), (986, .iaload, 1), (987, .invokevirtual 102, 3), (990, .if_icmp .eq 411, 3), (993, .iconst 0, 1), (994, .ireturn, 1), (995, .aload_n 1, 1), (996, .aload_n 0, 1), (997, .iload_n 3, 1), (998, .iconst 1, 1), (999, .iadd, 1), (1000, .iaload, 1), (1001, .aload_n 0, 1), (1002, .iload_n 3, 1), (1003, .iconst 2, 1), (1004, .iadd, 1), (1005, .iaload, 1), (1006, .aload_n 0, 1), (1007, .iload_n 3, 1), (1008, .iconst 3, 1), (1009, .iadd, 1), (1010, .iaload, 1), (1011, .invokevirtual 103, 3), (1014, .aload_n 2, 1), (1015, .aload_n 0, 1), (1016, .iload_n 3, 1), (1017, .iconst 1, 1), (1018, .iadd, 1), (1019, .iaload, 1), (1020, .aload_n 0, 1), (1021, .iload_n 3, 1), (1022, .iconst 2, 1), (1023, .iadd, 1), (1024, .iaload, 1), (1025, .aload_n 0, 1), (1026, .iload_n 3, 1), (1027, .iconst 3, 1), (1028, .iadd, 1), (1029, .iaload, 1), (1030, .invokevirtual 106, 3), (1033, .if_icmp .eq 368, 3), (1036, .iconst 0, 1), (1037, .ireturn, 1)]
theorem tk234_14 : tb234_14.all (fun q => decide (fetch 234 q.1 = some q.2)) = true := by decide +kernel
def tb234_15 : List (Nat × Instr × Nat) := [(1038, .aload_n 1, 1), (1039, .aload_n 0, 1), (1040, .iload_n 3, 1), (1041, .iconst 1, 1), (1042, .iadd, 1), (1043, .iaload, 1), (1044, .aload_n 0, 1), (1045, .iload_n 3, 1), (1046, .iconst 2, 1), (1047, .iadd, 1), (1048, .iaload, 1), (1049, .aload_n 0, 1), (1050, .iload_n 3, 1), (1051, .iconst 3, 1), (1052, .iadd, 1), (1053, .iaload, 1), (1054, .aload_n 0, 1), (1055, .iload_n 3, 1), (1056, .iconst 4, 1), (1057, .iadd, 1), (1058, .iaload, 1), (1059, .ifCond .eq 7, 3), (1062, .iconst 1, 1), (1063, .goto 4, 3), (1066, .iconst 0, 1), (1067, .invokevirtual 107, 3), (1070, .aload_n 2, 1), (1071, .aload_n 0, 1), (1072, .iload_n 3, 1), (1073, .iconst 1, 1), (1074, .iadd, 1), (1075, .iaload, 1), (1076, .aload_n 0, 1), (1077, .iload_n 3, 1), (1078, .iconst 2, 1), (1079, .iadd, 1), (1080, .iaload, 1), (1081, .aload_n 0, 1), (1082, .iload_n 3, 1), (1083, .iconst 3, 1), (1084, .iadd, 1), (1085, .iaload, 1), (1086, .aload_n 0, 1), (1087, .iload_n 3, 1), (1088, .iconst 4, 1), (1089, .iadd, 1), (1090, .iaload, 1), (1091, .ifCond .eq 7, 3), (1094, .iconst 1, 1), (1095, .goto 4, 3)]
theorem tk234_15 : tb234_15.all (fun q => decide (fetch 234 q.1 = some q.2)) = true := by decide +kernel
def tb234_16 : List (Nat × Instr × Nat) := [(1098, .iconst 0, 1), (1099, .invokevirtual 111, 3), (1102, .if_icmp .eq 299, 3), (1105, .iconst 0, 1), (1106, .ireturn, 1), (1107, .aload_n 1, 1), (1108, .aload_n 0, 1), (1109, .iload_n 3, 1), (1110, .iconst 1, 1), (1111, .iadd, 1), (1112, .iaload, 1), (1113, .aload_n 0, 1), (1114, .iload_n 3, 1), (1115, .iconst 2, 1), (1116, .iadd, 1), (1117, .iaload, 1), (1118, .aload_n 0, 1), (1119, .iload_n 3, 1), (1120, .iconst 3, 1), (1121, .iadd, 1), (1122, .iaload, 1), (1123, .invokevirtual 112, 3), (1126, .aload_n 2, 1), (1127, .aload_n 0, 1), (1128, .iload_n 3, 1), (1129, .iconst 1, 1), (1130, .iadd, 1), (1131, .iaload, 1), (1132, .aload_n 0, 1), (1133, .iload_n 3, 1), (1134, .iconst 2, 1), (1135, .iadd, 1), (1136, .iaload, 1), (1137, .aload_n 0, 1), (1138, .iload_n 3, 1), (1139, .iconst 3, 1), (1140, .iadd, 1), (1141, .iaload, 1), (1142, .invokevirtual 115, 3), (1145, .if_icmp .eq 256, 3), (1148, .iconst 0, 1), (1149, .ireturn, 1), (1150, .aload_n 1, 1), (1151, .aload_n 0, 1), (1152, .iload_n 3, 1), (1153, .iconst 1, 1), (1154, .iadd, 1), (1155, .iaload, 1), (1156, .aload_n 0, 1), (1157, .iload_n 3, 1)]
theorem tk234_16 : tb234_16.all (fun q => decide (fetch 234 q.1 = some q.2)) = true := by decide +kernel
def tb234_17 : List (Nat × Instr × Nat) := [(1158, .iconst 2, 1), (1159, .iadd, 1), (1160, .iaload, 1), (1161, .aload_n 0, 1), (1162, .iload_n 3, 1), (1163, .iconst 3, 1), (1164, .iadd, 1), (1165, .iaload, 1), (1166, .aload_n 0, 1), (1167, .iload_n 3, 1), (1168, .iconst 4, 1), (1169, .iadd, 1), (1170, .iaload, 1), (1171, .ifCond .eq 7, 3), (1174, .iconst 1, 1), (1175, .goto 4, 3), (1178, .iconst 0, 1), (1179, .invokevirtual 116, 3), (1182, .aload_n 2, 1), (1183, .aload_n 0, 1), (1184, .iload_n 3, 1), (1185, .iconst 1, 1), (1186, .iadd, 1), (1187, .iaload, 1), (1188, .aload_n 0, 1), (1189, .iload_n 3, 1), (1190, .iconst 2, 1), (1191, .iadd, 1), (1192, .iaload, 1), (1193, .aload_n 0, 1), (1194, .iload_n 3, 1), (1195, .iconst 3, 1), (1196, .iadd, 1), (1197, .iaload, 1), (1198, .aload_n 0, 1), (1199, .iload_n 3, 1), (1200, .iconst 4, 1), (1201, .iadd, 1), (1202, .iaload, 1), (1203, .ifCond .eq 7, 3), (1206, .iconst 1, 1), (1207, .goto 4, 3), (1210, .iconst 0, 1), (1211, .invokevirtual 119, 3), (1214, .if_icmp .eq 187, 3), (1217, .iconst 0, 1), (1218, .ireturn, 1), (1219, .aload_n 1, 1), (1220, .aload_n 0, 1), (1221, .iload_n 3, 1)]
theorem tk234_17 : tb234_17.all (fun q => decide (fetch 234 q.1 = some q.2)) = true := by decide +kernel
def tb234_18 : List (Nat × Instr × Nat) := [(1222, .iconst 1, 1), (1223, .iadd, 1), (1224, .iaload, 1), (1225, .invokevirtual 120, 3), (1228, .aload_n 2, 1), (1229, .aload_n 0, 1), (1230, .iload_n 3, 1), (1231, .iconst 1, 1), (1232, .iadd, 1), (1233, .iaload, 1), (1234, .invokevirtual 124, 3), (1237, .lcmp, 1), (1238, .ifCond .eq 163, 3), (1241, .iconst 0, 1), (1242, .ireturn, 1), (1243, .aload_n 1, 1), (1244, .aload_n 0, 1), (1245, .iload_n 3, 1), (1246, .iconst 1, 1), (1247, .iadd, 1), (1248, .iaload, 1), (1249, .aload_n 0, 1), (1250, .iload_n 3, 1), (1251, .iconst 2, 1), (1252, .iadd, 1), (1253, .iaload, 1), (1254, .i2l, 1), (1255, .bipush 32, 2), (1257, .lshl, 1), (1258, .aload_n 0, 1), (1259, .iload_n 3, 1), (1260, .iconst 3, 1), (1261, .iadd, 1), (1262, .iaload, 1), (1263, .i2l, 1), (1264, .ldc2_w 69, 3), (1267, .land, 1), (1268, .lor, 1), (1269, .invokevirtual 125, 3), (1272, .aload_n 2, 1), (1273, .aload_n 0, 1), (1274, .iload_n 3, 1), (1275, .iconst 1, 1), (1276, .iadd, 1), (1277, .iaload, 1), (1278, .aload_n 0, 1), (1279, .iload_n 3, 1), (1280, .iconst 2, 1), (1281, .iadd, 1), (1282, .iaload, 1)]
theorem tk234_18 : tb234_18.all (fun q => decide (fetch 234 q.1 = some q.2)) = true := by decide +kernel
def tb234_19 : List (Nat × Instr × Nat) := [(1283, .i2l, 1), (1284, .bipush 32, 2), (1286, .lshl, 1), (1287, .aload_n 0, 1), (1288, .iload_n 3, 1), (1289, .iconst 3, 1), (1290, .iadd, 1), (1291, .iaload, 1), (1292, .i2l, 1), (1293, .ldc2_w 69, 3), (1296, .land, 1), (1297, .lor, 1), (1298, .invokevirtual 129, 3), (1301, .if_icmp .eq 100, 3), (1304, .iconst 0, 1), (1305, .ireturn, 1), (1306, .aload_n 1, 1), (1307, .invokevirtual 130, 3), (1310, .aload_n 2, 1), (1311, .invokevirtual 133, 3), (1314, .if_icmp .eq 87, 3), (1317, .iconst 0, 1), (1318, .ireturn, 1), (1319, .aload_n 1, 1), (1320, .invokevirtual 134, 3), (1323, .aload_n 2, 1), (1324, .invokevirtual 137, 3), (1327, .if_icmp .eq 74, 3), (1330, .iconst 0, 1), (1331, .ireturn, 1), (1332, .aload_n 1, 1), (1333, .aload_n 0, 1), (1334, .iload_n 3, 1), (1335, .iconst 1, 1), (1336, .iadd, 1), (1337, .iaload, 1), (1338, .invokevirtual 138, 3), (1341, .aload_n 2, 1), (1342, .aload_n 0, 1), (1343, .iload_n 3, 1), (1344, .iconst 1, 1), (1345, .iadd, 1), (1346, .iaload, 1), (1347, .invokevirtual 142, 3), (1350, .if_icmp .eq 51, 3), (1353, .iconst 0, 1), (1354, .ireturn, 1), (1355, .aload_n 1, 1), (1356, .aload_n 0, 1), (1357, .iload_n 3, 1)]
theorem tk234_19 : tb234_19.all (fun q => decide (fetch 234 q.1 = some q.2)) = true := by decide +kernel
def tb234_20 : List (Nat × Instr × Nat) := [(1358, .iconst 1, 1), (1359, .iadd, 1), (1360, .iaload, 1), (1361, .invokevirtual 143, 3), (1364, .aload_n 2, 1), (1365, .aload_n 0, 1), (1366, .iload_n 3, 1), (1367, .iconst 1, 1), (1368, .iadd, 1), (1369, .iaload, 1), (1370, .invokevirtual 146, 3), (1373, .if_icmp .eq 28, 3), (1376, .iconst 0, 1), (1377, .ireturn, 1), (1378, .aload_n 1, 1), (1379, .aload_n 0, 1), (1380, .iload_n 3, 1), (1381, .iconst 1, 1), (1382, .iadd, 1), (1383, .iaload, 1), (1384, .invokevirtual 147, 3), (1387, .aload_n 2, 1), (1388, .aload_n 0, 1), (1389, .iload_n 3, 1), (1390, .iconst 1, 1), (1391, .iadd, 1), (1392, .iaload, 1), (1393, .invokevirtual 150, 3), (1396, .if_icmp .eq 5, 3), (1399, .iconst 0, 1), (1400, .ireturn, 1), (1401, .iinc 3 7, 3), (1404, .goto (-1386), 3), (1407, .iconst 1, 1), (1408, .ireturn, 1)]
theorem tk234_20 : tb234_20.all (fun q => decide (fetch 234 q.1 = some q.2)) = true := by decide +kernel
theorem f234_0 : fetch 234 0 = some (.new 7, 3) := vtab tk234_0 0 rfl
theorem e234_0 (L : VL) (st : List Value) (h : VG) : ev 234 0 L (st) h = ev 234 3 L (.ref h.2.1 :: st) (hnew h (.inr (10, vDef 10)) (vNsl 10)) := G_new (p := 101) f234_0 lkN_13_7
theorem f234_3 : fetch 234 3 = some (.dup, 1) := vtab tk234_0 1 rfl
theorem e234_3b (L : VL) (st : List Value) (h : VG) (x : Int32) : ev 234 3 L (.int x :: st) h = ev 234 4 L (.int x :: .int x :: st) h := G_dup_int f234_3
theorem e234_3 (L : VL) (st : List Value) (h : VG) (x : Nat) : ev 234 3 L (.ref x :: st) h = ev 234 4 L (.ref x :: .ref x :: st) h := G_dup_ref f234_3
theorem f234_4 : fetch 234 4 = some (.invokespecial 9, 3) := vtab tk234_0 2 rfl
theorem e234_4 (L : VL) (st : List Value) (h : VG) (b : Nat)  (hs : catS st ≤ 8) : ev 234 4 L (.ref b :: st) h = (ev 92 0 [some (.ref b)] [] h).bind fun q => ev 234 7 L (q.1.toList ++ st) q.2 := G_calli (k := 2) (p := 103) (ars := []) f234_4 lkC_13_9 (by decide) (by decide +kernel) rfl (Nat.le_of_ble_eq_true rfl) hs rfl
theorem f234_7 : fetch 234 7 = some (.astore_n 1, 1) := vtab tk234_0 3 rfl
theorem e234_7 (l0 l1 : Option Value) (L : VL) (st : List Value) (h : VG) (x : Nat) : ev 234 7 (l0 :: l1 :: L) (.ref x :: st) h = ev 234 8 (vkk l0 :: some (.ref x) :: L) (st) h := G_astore_n f234_7 rfl (S1_1 l0 l1 L _)
theorem f234_8 : fetch 234 8 = some (.new 10, 3) := vtab tk234_0 4 rfl
theorem e234_8 (L : VL) (st : List Value) (h : VG) : ev 234 8 L (st) h = ev 234 11 L (.ref h.2.1 :: st) (hnew h (.inr (11, vDef 11)) (vNsl 11)) := G_new (p := 1001) f234_8 lkN_13_10
theorem f234_11 : fetch 234 11 = some (.dup, 1) := vtab tk234_0 5 rfl
theorem e234_11b (L : VL) (st : List Value) (h : VG) (x : Int32) : ev 234 11 L (.int x :: st) h = ev 234 12 L (.int x :: .int x :: st) h := G_dup_int f234_11
theorem e234_11 (L : VL) (st : List Value) (h : VG) (x : Nat) : ev 234 11 L (.ref x :: st) h = ev 234 12 L (.ref x :: .ref x :: st) h := G_dup_ref f234_11
theorem f234_12 : fetch 234 12 = some (.invokespecial 12, 3) := vtab tk234_0 6 rfl
theorem e234_12 (L : VL) (st : List Value) (h : VG) (b : Nat)  (hs : catS st ≤ 8) : ev 234 12 L (.ref b :: st) h = (ev 136 0 [some (.ref b), none] [] h).bind fun q => ev 234 15 L (q.1.toList ++ st) q.2 := G_calli (k := 2) (p := 1003) (ars := []) f234_12 lkC_13_12 (by decide) (by decide +kernel) rfl (Nat.le_of_ble_eq_true rfl) hs rfl
theorem f234_15 : fetch 234 15 = some (.astore_n 2, 1) := vtab tk234_0 7 rfl
theorem e234_15 (l0 l1 l2 : Option Value) (L : VL) (st : List Value) (h : VG) (x : Nat) : ev 234 15 (l0 :: l1 :: l2 :: L) (.ref x :: st) h = ev 234 16 (l0 :: vkk l1 :: some (.ref x) :: L) (st) h := G_astore_n f234_15 rfl (S1_2 l0 l1 l2 L _)
theorem f234_16 : fetch 234 16 = some (.iconst 0, 1) := vtab tk234_0 8 rfl
theorem e234_16 (L : VL) (st : List Value) (h : VG) : ev 234 16 L (st) h = ev 234 17 L (.int (0 : Int32) :: st) h := G_iconst f234_16 (by decide)
theorem f234_17 : fetch 234 17 = some (.istore_n 3, 1) := vtab tk234_0 9 rfl
theorem e234_17 (l0 l1 l2 l3 : Option Value) (L : VL) (st : List Value) (h : VG) (x : Int32) : ev 234 17 (l0 :: l1 :: l2 :: l3 :: L) (.int x :: st) h = ev 234 18 (l0 :: l1 :: vkk l2 :: some (.int x) :: L) (st) h := G_istore_n f234_17 rfl (S1_3 l0 l1 l2 l3 L _)
theorem f234_18 : fetch 234 18 = some (.iload_n 3, 1) := vtab tk234_0 10 rfl
theorem e234_18 (l0 l1 l2 : Option Value) (L : VL) (st : List Value) (h : VG) (x : Int32) : ev 234 18 (l0 :: l1 :: l2 :: some (.int x) :: L) (st) h = ev 234 19 (l0 :: l1 :: l2 :: some (.int x) :: L) (.int x :: st) h := G_iload_n f234_18 rfl
theorem f234_19 : fetch 234 19 = some (.aload_n 0, 1) := vtab tk234_0 11 rfl
theorem e234_19 (L : VL) (st : List Value) (h : VG) (x : Nat) : ev 234 19 (some (.ref x) :: L) (st) h = ev 234 20 (some (.ref x) :: L) (.ref x :: st) h := G_aload_n f234_19 rfl
theorem f234_20 : fetch 234 20 = some (.arraylength, 1) := vtab tk234_0 12 rfl
theorem e234_20 (L : VL) (st : List Value) (h : VG) (a : Nat) (ha : ∃ t n f, h.1 a = .inl (t, n, f) ∧ (t < 8 ∨ t = 20 ∨ t = 21)) : ev 234 20 L (.ref a :: st) h = ev 234 21 L (.int (Int32.ofNat (aln h a)) :: st) h := G_alen f234_20 ha
theorem f234_21 : fetch 234 21 = some (.bipush 7, 2) := vtab tk234_0 13 rfl
theorem e234_21 (L : VL) (st : List Value) (h : VG) : ev 234 21 L (st) h = ev 234 23 L (.int (7 : Int32) :: st) h := G_bipush f234_21 (by decide)
theorem f234_23 : fetch 234 23 = some (.isub, 1) := vtab tk234_0 14 rfl
theorem e234_23 (L : VL) (st : List Value) (h : VG) (x y : Int32) : ev 234 23 L (.int y :: .int x :: st) h = ev 234 24 L (.int (x - y) :: st) h := G_isub f234_23
theorem f234_24 : fetch 234 24 = some (.if_icmp .gt 1383, 3) := vtab tk234_0 15 rfl
theorem e234_24 (L : VL) (st : List Value) (h : VG) (x y : Int32) : ev 234 24 L (.int y :: .int x :: st) h = if x ≤ y then ev 234 27 L st h else ev 234 1407 L st h := G_icmp_gt f234_24 (by decide)
theorem f234_27 : fetch 234 27 = some (.aload_n 0, 1) := vtab tk234_0 16 rfl
theorem e234_27 (L : VL) (st : List Value) (h : VG) (x : Nat) : ev 234 27 (some (.ref x) :: L) (st) h = ev 234 28 (some (.ref x) :: L) (.ref x :: st) h := G_aload_n f234_27 rfl
theorem f234_28 : fetch 234 28 = some (.iload_n 3, 1) := vtab tk234_0 17 rfl
theorem e234_28 (l0 l1 l2 : Option Value) (L : VL) (st : List Value) (h : VG) (x : Int32) : ev 234 28 (l0 :: l1 :: l2 :: some (.int x) :: L) (st) h = ev 234 29 (l0 :: l1 :: l2 :: some (.int x) :: L) (.int x :: st) h := G_iload_n f234_28 rfl
theorem f234_29 : fetch 234 29 = some (.iaload, 1) := vtab tk234_0 18 rfl
theorem e234_29 (L : VL) (st : List Value) (h : VG) (a : Nat) (i : Int32) (ha : rdI h a) (hi : vp_in i (aln h a)) : ev 234 29 L (.int i :: .ref a :: st) h = ev 234 30 L (.int (aI h a i.toNatClampNeg) :: st) h := G_iald' f234_29 ha hi
theorem f234_30 : fetch 234 30 = some (.bipush 31, 2) := vtab tk234_0 19 rfl
theorem e234_30 (L : VL) (st : List Value) (h : VG) : ev 234 30 L (st) h = ev 234 32 L (.int (31 : Int32) :: st) h := G_bipush f234_30 (by decide)
theorem f234_32 : fetch 234 32 = some (.iand, 1) := vtab tk234_0 20 rfl
theorem e234_32 (L : VL) (st : List Value) (h : VG) (x y : Int32) : ev 234 32 L (.int y :: .int x :: st) h = ev 234 33 L (.int (x &&& y) :: st) h := G_iand f234_32
theorem f234_33 : fetch 234 33 = some (.tableswitch 1368 0 29 #[135, 198, 221, 234, 247, 260, 329, 372, 395, 428, 471, 494, 538, 621, 665, 748, 823, 886, 919, 962, 1005, 1074, 1117, 1186, 1210, 1273, 1286, 1299, 1322, 1345], 135) := vtab tk234_0 21 rfl
theorem e234_33 (L : VL) (st : List Value) (h : VG) (x : Int32) : ev 234 33 L (.int x :: st) h = if x = (0 : Int32) then ev 234 168 L st h else (if x = (1 : Int32) then ev 234 231 L st h else (if x = (2 : Int32) then ev 234 254 L st h else (if x = (3 : Int32) then ev 234 267 L st h else (if x = (4 : Int32) then ev 234 280 L st h else (if x = (5 : Int32) then ev 234 293 L st h else (if x = (6 : Int32) then ev 234 362 L st h else (if x = (7 : Int32) then ev 234 405 L st h else (if x = (8 : Int32) then ev 234 428 L st h else (if x = (9 : Int32) then ev 234 461 L st h else (if x = (10 : Int32) then ev 234 504 L st h else (if x = (11 : Int32) then ev 234 527 L st h else (if x = (12 : Int32) then ev 234 571 L st h else (if x = (13 : Int32) then ev 234 654 L st h else (if x = (14 : Int32) then ev 234 698 L st h else (if x = (15 : Int32) then ev 234 781 L st h else (if x = (16 : Int32) then ev 234 856 L st h else (if x = (17 : Int32) then ev 234 919 L st h else (if x = (18 : Int32) then ev 234 952 L st h else (if x = (19 : Int32) then ev 234 995 L st h else (if x = (20 : Int32) then ev 234 1038 L st h else (if x = (21 : Int32) then ev 234 1107 L st h else (if x = (22 : Int32) then ev 234 1150 L st h else (if x = (23 : Int32) then ev 234 1219 L st h else (if x = (24 : Int32) then ev 234 1243 L st h else (if x = (25 : Int32) then ev 234 1306 L st h else (if x = (26 : Int32) then ev 234 1319 L st h else (if x = (27 : Int32) then ev 234 1332 L st h else (if x = (28 : Int32) then ev 234 1355 L st h else (if x = (29 : Int32) then ev 234 1378 L st h else (ev 234 1401 L st h)))))))))))))))))))))))))))))) := (G_tsw f234_33 (by decide) (by decide) (by decide)).trans rfl
theorem f234_168 : fetch 234 168 = some (.aload_n 1, 1) := vtab tk234_0 22 rfl
theorem e234_168 (l0 : Option Value) (L : VL) (st : List Value) (h : VG) (x : Nat) : ev 234 168 (l0 :: some (.ref x) :: L) (st) h = ev 234 169 (l0 :: some (.ref x) :: L) (.ref x :: st) h := G_aload_n f234_168 rfl
theorem f234_169 : fetch 234 169 = some (.aload_n 0, 1) := vtab tk234_0 23 rfl
theorem e234_169 (L : VL) (st : List Value) (h : VG) (x : Nat) : ev 234 169 (some (.ref x) :: L) (st) h = ev 234 170 (some (.ref x) :: L) (.ref x :: st) h := G_aload_n f234_169 rfl
theorem f234_170 : fetch 234 170 = some (.iload_n 3, 1) := vtab tk234_0 24 rfl
theorem e234_170 (l0 l1 l2 : Option Value) (L : VL) (st : List Value) (h : VG) (x : Int32) : ev 234 170 (l0 :: l1 :: l2 :: some (.int x) :: L) (st) h = ev 234 171 (l0 :: l1 :: l2 :: some (.int x) :: L) (.int x :: st) h := G_iload_n f234_170 rfl
theorem f234_171 : fetch 234 171 = some (.iconst 1, 1) := vtab tk234_0 25 rfl
theorem e234_171 (L : VL) (st : List Value) (h : VG) : ev 234 171 L (st) h = ev 234 172 L (.int (1 : Int32) :: st) h := G_iconst f234_171 (by decide)
theorem f234_172 : fetch 234 172 = some (.iadd, 1) := vtab tk234_0 26 rfl
theorem e234_172 (L : VL) (st : List Value) (h : VG) (x y : Int32) : ev 234 172 L (.int y :: .int x :: st) h = ev 234 173 L (.int (x + y) :: st) h := G_iadd f234_172
theorem f234_173 : fetch 234 173 = some (.iaload, 1) := vtab tk234_0 27 rfl
theorem e234_173 (L : VL) (st : List Value) (h : VG) (a : Nat) (i : Int32) (ha : rdI h a) (hi : vp_in i (aln h a)) : ev 234 173 L (.int i :: .ref a :: st) h = ev 234 174 L (.int (aI h a i.toNatClampNeg) :: st) h := G_iald' f234_173 ha hi
theorem f234_174 : fetch 234 174 = some (.aload_n 0, 1) := vtab tk234_0 28 rfl
theorem e234_174 (L : VL) (st : List Value) (h : VG) (x : Nat) : ev 234 174 (some (.ref x) :: L) (st) h = ev 234 175 (some (.ref x) :: L) (.ref x :: st) h := G_aload_n f234_174 rfl
theorem f234_175 : fetch 234 175 = some (.iload_n 3, 1) := vtab tk234_0 29 rfl
theorem e234_175 (l0 l1 l2 : Option Value) (L : VL) (st : List Value) (h : VG) (x : Int32) : ev 234 175 (l0 :: l1 :: l2 :: some (.int x) :: L) (st) h = ev 234 176 (l0 :: l1 :: l2 :: some (.int x) :: L) (.int x :: st) h := G_iload_n f234_175 rfl
theorem f234_176 : fetch 234 176 = some (.iconst 2, 1) := vtab tk234_0 30 rfl
theorem e234_176 (L : VL) (st : List Value) (h : VG) : ev 234 176 L (st) h = ev 234 177 L (.int (2 : Int32) :: st) h := G_iconst f234_176 (by decide)
theorem f234_177 : fetch 234 177 = some (.iadd, 1) := vtab tk234_0 31 rfl
theorem e234_177 (L : VL) (st : List Value) (h : VG) (x y : Int32) : ev 234 177 L (.int y :: .int x :: st) h = ev 234 178 L (.int (x + y) :: st) h := G_iadd f234_177
theorem f234_178 : fetch 234 178 = some (.iaload, 1) := vtab tk234_0 32 rfl
theorem e234_178 (L : VL) (st : List Value) (h : VG) (a : Nat) (i : Int32) (ha : rdI h a) (hi : vp_in i (aln h a)) : ev 234 178 L (.int i :: .ref a :: st) h = ev 234 179 L (.int (aI h a i.toNatClampNeg) :: st) h := G_iald' f234_178 ha hi
theorem f234_179 : fetch 234 179 = some (.aload_n 0, 1) := vtab tk234_0 33 rfl
theorem e234_179 (L : VL) (st : List Value) (h : VG) (x : Nat) : ev 234 179 (some (.ref x) :: L) (st) h = ev 234 180 (some (.ref x) :: L) (.ref x :: st) h := G_aload_n f234_179 rfl
theorem f234_180 : fetch 234 180 = some (.iload_n 3, 1) := vtab tk234_0 34 rfl
theorem e234_180 (l0 l1 l2 : Option Value) (L : VL) (st : List Value) (h : VG) (x : Int32) : ev 234 180 (l0 :: l1 :: l2 :: some (.int x) :: L) (st) h = ev 234 181 (l0 :: l1 :: l2 :: some (.int x) :: L) (.int x :: st) h := G_iload_n f234_180 rfl
theorem f234_181 : fetch 234 181 = some (.iconst 3, 1) := vtab tk234_0 35 rfl
theorem e234_181 (L : VL) (st : List Value) (h : VG) : ev 234 181 L (st) h = ev 234 182 L (.int (3 : Int32) :: st) h := G_iconst f234_181 (by decide)
theorem f234_182 : fetch 234 182 = some (.iadd, 1) := vtab tk234_0 36 rfl
theorem e234_182 (L : VL) (st : List Value) (h : VG) (x y : Int32) : ev 234 182 L (.int y :: .int x :: st) h = ev 234 183 L (.int (x + y) :: st) h := G_iadd f234_182
theorem f234_183 : fetch 234 183 = some (.iaload, 1) := vtab tk234_0 37 rfl
theorem e234_183 (L : VL) (st : List Value) (h : VG) (a : Nat) (i : Int32) (ha : rdI h a) (hi : vp_in i (aln h a)) : ev 234 183 L (.int i :: .ref a :: st) h = ev 234 184 L (.int (aI h a i.toNatClampNeg) :: st) h := G_iald' f234_183 ha hi
theorem f234_184 : fetch 234 184 = some (.aload_n 0, 1) := vtab tk234_0 38 rfl
theorem e234_184 (L : VL) (st : List Value) (h : VG) (x : Nat) : ev 234 184 (some (.ref x) :: L) (st) h = ev 234 185 (some (.ref x) :: L) (.ref x :: st) h := G_aload_n f234_184 rfl
theorem f234_185 : fetch 234 185 = some (.iload_n 3, 1) := vtab tk234_0 39 rfl
theorem e234_185 (l0 l1 l2 : Option Value) (L : VL) (st : List Value) (h : VG) (x : Int32) : ev 234 185 (l0 :: l1 :: l2 :: some (.int x) :: L) (st) h = ev 234 186 (l0 :: l1 :: l2 :: some (.int x) :: L) (.int x :: st) h := G_iload_n f234_185 rfl
theorem f234_186 : fetch 234 186 = some (.iconst 4, 1) := vtab tk234_0 40 rfl
theorem e234_186 (L : VL) (st : List Value) (h : VG) : ev 234 186 L (st) h = ev 234 187 L (.int (4 : Int32) :: st) h := G_iconst f234_186 (by decide)
theorem f234_187 : fetch 234 187 = some (.iadd, 1) := vtab tk234_0 41 rfl
theorem e234_187 (L : VL) (st : List Value) (h : VG) (x y : Int32) : ev 234 187 L (.int y :: .int x :: st) h = ev 234 188 L (.int (x + y) :: st) h := G_iadd f234_187
theorem f234_188 : fetch 234 188 = some (.iaload, 1) := vtab tk234_0 42 rfl
theorem e234_188 (L : VL) (st : List Value) (h : VG) (a : Nat) (i : Int32) (ha : rdI h a) (hi : vp_in i (aln h a)) : ev 234 188 L (.int i :: .ref a :: st) h = ev 234 189 L (.int (aI h a i.toNatClampNeg) :: st) h := G_iald' f234_188 ha hi
theorem f234_189 : fetch 234 189 = some (.aload_n 0, 1) := vtab tk234_0 43 rfl
theorem e234_189 (L : VL) (st : List Value) (h : VG) (x : Nat) : ev 234 189 (some (.ref x) :: L) (st) h = ev 234 190 (some (.ref x) :: L) (.ref x :: st) h := G_aload_n f234_189 rfl
theorem f234_190 : fetch 234 190 = some (.iload_n 3, 1) := vtab tk234_0 44 rfl
theorem e234_190 (l0 l1 l2 : Option Value) (L : VL) (st : List Value) (h : VG) (x : Int32) : ev 234 190 (l0 :: l1 :: l2 :: some (.int x) :: L) (st) h = ev 234 191 (l0 :: l1 :: l2 :: some (.int x) :: L) (.int x :: st) h := G_iload_n f234_190 rfl
theorem f234_191 : fetch 234 191 = some (.iconst 5, 1) := vtab tk234_0 45 rfl
theorem e234_191 (L : VL) (st : List Value) (h : VG) : ev 234 191 L (st) h = ev 234 192 L (.int (5 : Int32) :: st) h := G_iconst f234_191 (by decide)
theorem f234_192 : fetch 234 192 = some (.iadd, 1) := vtab tk234_0 46 rfl
theorem e234_192 (L : VL) (st : List Value) (h : VG) (x y : Int32) : ev 234 192 L (.int y :: .int x :: st) h = ev 234 193 L (.int (x + y) :: st) h := G_iadd f234_192
theorem f234_193 : fetch 234 193 = some (.iaload, 1) := vtab tk234_0 47 rfl
theorem e234_193 (L : VL) (st : List Value) (h : VG) (a : Nat) (i : Int32) (ha : rdI h a) (hi : vp_in i (aln h a)) : ev 234 193 L (.int i :: .ref a :: st) h = ev 234 194 L (.int (aI h a i.toNatClampNeg) :: st) h := G_iald' f234_193 ha hi
theorem f234_194 : fetch 234 194 = some (.invokevirtual 13, 3) := vtab tk234_0 48 rfl
theorem e234_194 (L : VL) (st : List Value) (h : VG) (b : Nat) (x0 : Int32) (x1 : Int32) (x2 : Int32) (x3 : Int32) (x4 : Int32) (ho : ob h b 10) (hs : catS st ≤ 8) : ev 234 194 L (.int x4 :: .int x3 :: .int x2 :: .int x1 :: .int x0 :: .ref b :: st) h = (ev 93 0 [some (.ref b), some (.int x0), some (.int x1), some (.int x2), some (.int x3), some (.int x4)] [] h).bind fun q => ev 234 197 L (q.1.toList ++ st) q.2 := G_callv (k := 1) (p := 472) (ars := [.int x0, .int x1, .int x2, .int x3, .int x4]) f234_194 lkC_13_13 (by decide) (by decide +kernel) rfl (vcls_ob (ci := 10) (by decide) ho) (Nat.le_of_ble_eq_true rfl) hs rfl
theorem f234_197 : fetch 234 197 = some (.aload_n 2, 1) := vtab tk234_0 49 rfl
theorem e234_197 (l0 l1 : Option Value) (L : VL) (st : List Value) (h : VG) (x : Nat) : ev 234 197 (l0 :: l1 :: some (.ref x) :: L) (st) h = ev 234 198 (l0 :: l1 :: some (.ref x) :: L) (.ref x :: st) h := G_aload_n f234_197 rfl
theorem f234_198 : fetch 234 198 = some (.aload_n 0, 1) := vtab tk234_1 0 rfl
theorem e234_198 (L : VL) (st : List Value) (h : VG) (x : Nat) : ev 234 198 (some (.ref x) :: L) (st) h = ev 234 199 (some (.ref x) :: L) (.ref x :: st) h := G_aload_n f234_198 rfl
theorem f234_199 : fetch 234 199 = some (.iload_n 3, 1) := vtab tk234_1 1 rfl
theorem e234_199 (l0 l1 l2 : Option Value) (L : VL) (st : List Value) (h : VG) (x : Int32) : ev 234 199 (l0 :: l1 :: l2 :: some (.int x) :: L) (st) h = ev 234 200 (l0 :: l1 :: l2 :: some (.int x) :: L) (.int x :: st) h := G_iload_n f234_199 rfl
theorem f234_200 : fetch 234 200 = some (.iconst 1, 1) := vtab tk234_1 2 rfl
theorem e234_200 (L : VL) (st : List Value) (h : VG) : ev 234 200 L (st) h = ev 234 201 L (.int (1 : Int32) :: st) h := G_iconst f234_200 (by decide)
theorem f234_201 : fetch 234 201 = some (.iadd, 1) := vtab tk234_1 3 rfl
theorem e234_201 (L : VL) (st : List Value) (h : VG) (x y : Int32) : ev 234 201 L (.int y :: .int x :: st) h = ev 234 202 L (.int (x + y) :: st) h := G_iadd f234_201
theorem f234_202 : fetch 234 202 = some (.iaload, 1) := vtab tk234_1 4 rfl
theorem e234_202 (L : VL) (st : List Value) (h : VG) (a : Nat) (i : Int32) (ha : rdI h a) (hi : vp_in i (aln h a)) : ev 234 202 L (.int i :: .ref a :: st) h = ev 234 203 L (.int (aI h a i.toNatClampNeg) :: st) h := G_iald' f234_202 ha hi
theorem f234_203 : fetch 234 203 = some (.aload_n 0, 1) := vtab tk234_1 5 rfl
theorem e234_203 (L : VL) (st : List Value) (h : VG) (x : Nat) : ev 234 203 (some (.ref x) :: L) (st) h = ev 234 204 (some (.ref x) :: L) (.ref x :: st) h := G_aload_n f234_203 rfl
theorem f234_204 : fetch 234 204 = some (.iload_n 3, 1) := vtab tk234_1 6 rfl
theorem e234_204 (l0 l1 l2 : Option Value) (L : VL) (st : List Value) (h : VG) (x : Int32) : ev 234 204 (l0 :: l1 :: l2 :: some (.int x) :: L) (st) h = ev 234 205 (l0 :: l1 :: l2 :: some (.int x) :: L) (.int x :: st) h := G_iload_n f234_204 rfl
theorem f234_205 : fetch 234 205 = some (.iconst 2, 1) := vtab tk234_1 7 rfl
theorem e234_205 (L : VL) (st : List Value) (h : VG) : ev 234 205 L (st) h = ev 234 206 L (.int (2 : Int32) :: st) h := G_iconst f234_205 (by decide)
theorem f234_206 : fetch 234 206 = some (.iadd, 1) := vtab tk234_1 8 rfl
theorem e234_206 (L : VL) (st : List Value) (h : VG) (x y : Int32) : ev 234 206 L (.int y :: .int x :: st) h = ev 234 207 L (.int (x + y) :: st) h := G_iadd f234_206
theorem f234_207 : fetch 234 207 = some (.iaload, 1) := vtab tk234_1 9 rfl
theorem e234_207 (L : VL) (st : List Value) (h : VG) (a : Nat) (i : Int32) (ha : rdI h a) (hi : vp_in i (aln h a)) : ev 234 207 L (.int i :: .ref a :: st) h = ev 234 208 L (.int (aI h a i.toNatClampNeg) :: st) h := G_iald' f234_207 ha hi
theorem f234_208 : fetch 234 208 = some (.aload_n 0, 1) := vtab tk234_1 10 rfl
theorem e234_208 (L : VL) (st : List Value) (h : VG) (x : Nat) : ev 234 208 (some (.ref x) :: L) (st) h = ev 234 209 (some (.ref x) :: L) (.ref x :: st) h := G_aload_n f234_208 rfl
theorem f234_209 : fetch 234 209 = some (.iload_n 3, 1) := vtab tk234_1 11 rfl
theorem e234_209 (l0 l1 l2 : Option Value) (L : VL) (st : List Value) (h : VG) (x : Int32) : ev 234 209 (l0 :: l1 :: l2 :: some (.int x) :: L) (st) h = ev 234 210 (l0 :: l1 :: l2 :: some (.int x) :: L) (.int x :: st) h := G_iload_n f234_209 rfl
theorem f234_210 : fetch 234 210 = some (.iconst 3, 1) := vtab tk234_1 12 rfl
theorem e234_210 (L : VL) (st : List Value) (h : VG) : ev 234 210 L (st) h = ev 234 211 L (.int (3 : Int32) :: st) h := G_iconst f234_210 (by decide)
theorem f234_211 : fetch 234 211 = some (.iadd, 1) := vtab tk234_1 13 rfl
theorem e234_211 (L : VL) (st : List Value) (h : VG) (x y : Int32) : ev 234 211 L (.int y :: .int x :: st) h = ev 234 212 L (.int (x + y) :: st) h := G_iadd f234_211
theorem f234_212 : fetch 234 212 = some (.iaload, 1) := vtab tk234_1 14 rfl
theorem e234_212 (L : VL) (st : List Value) (h : VG) (a : Nat) (i : Int32) (ha : rdI h a) (hi : vp_in i (aln h a)) : ev 234 212 L (.int i :: .ref a :: st) h = ev 234 213 L (.int (aI h a i.toNatClampNeg) :: st) h := G_iald' f234_212 ha hi
theorem f234_213 : fetch 234 213 = some (.aload_n 0, 1) := vtab tk234_1 15 rfl
theorem e234_213 (L : VL) (st : List Value) (h : VG) (x : Nat) : ev 234 213 (some (.ref x) :: L) (st) h = ev 234 214 (some (.ref x) :: L) (.ref x :: st) h := G_aload_n f234_213 rfl
theorem f234_214 : fetch 234 214 = some (.iload_n 3, 1) := vtab tk234_1 16 rfl
theorem e234_214 (l0 l1 l2 : Option Value) (L : VL) (st : List Value) (h : VG) (x : Int32) : ev 234 214 (l0 :: l1 :: l2 :: some (.int x) :: L) (st) h = ev 234 215 (l0 :: l1 :: l2 :: some (.int x) :: L) (.int x :: st) h := G_iload_n f234_214 rfl
theorem f234_215 : fetch 234 215 = some (.iconst 4, 1) := vtab tk234_1 17 rfl
theorem e234_215 (L : VL) (st : List Value) (h : VG) : ev 234 215 L (st) h = ev 234 216 L (.int (4 : Int32) :: st) h := G_iconst f234_215 (by decide)
theorem f234_216 : fetch 234 216 = some (.iadd, 1) := vtab tk234_1 18 rfl
theorem e234_216 (L : VL) (st : List Value) (h : VG) (x y : Int32) : ev 234 216 L (.int y :: .int x :: st) h = ev 234 217 L (.int (x + y) :: st) h := G_iadd f234_216
theorem f234_217 : fetch 234 217 = some (.iaload, 1) := vtab tk234_1 19 rfl
theorem e234_217 (L : VL) (st : List Value) (h : VG) (a : Nat) (i : Int32) (ha : rdI h a) (hi : vp_in i (aln h a)) : ev 234 217 L (.int i :: .ref a :: st) h = ev 234 218 L (.int (aI h a i.toNatClampNeg) :: st) h := G_iald' f234_217 ha hi
theorem f234_218 : fetch 234 218 = some (.aload_n 0, 1) := vtab tk234_1 20 rfl
theorem e234_218 (L : VL) (st : List Value) (h : VG) (x : Nat) : ev 234 218 (some (.ref x) :: L) (st) h = ev 234 219 (some (.ref x) :: L) (.ref x :: st) h := G_aload_n f234_218 rfl
theorem f234_219 : fetch 234 219 = some (.iload_n 3, 1) := vtab tk234_1 21 rfl
theorem e234_219 (l0 l1 l2 : Option Value) (L : VL) (st : List Value) (h : VG) (x : Int32) : ev 234 219 (l0 :: l1 :: l2 :: some (.int x) :: L) (st) h = ev 234 220 (l0 :: l1 :: l2 :: some (.int x) :: L) (.int x :: st) h := G_iload_n f234_219 rfl
theorem f234_220 : fetch 234 220 = some (.iconst 5, 1) := vtab tk234_1 22 rfl
theorem e234_220 (L : VL) (st : List Value) (h : VG) : ev 234 220 L (st) h = ev 234 221 L (.int (5 : Int32) :: st) h := G_iconst f234_220 (by decide)
theorem f234_221 : fetch 234 221 = some (.iadd, 1) := vtab tk234_1 23 rfl
theorem e234_221 (L : VL) (st : List Value) (h : VG) (x y : Int32) : ev 234 221 L (.int y :: .int x :: st) h = ev 234 222 L (.int (x + y) :: st) h := G_iadd f234_221
theorem f234_222 : fetch 234 222 = some (.iaload, 1) := vtab tk234_1 24 rfl
theorem e234_222 (L : VL) (st : List Value) (h : VG) (a : Nat) (i : Int32) (ha : rdI h a) (hi : vp_in i (aln h a)) : ev 234 222 L (.int i :: .ref a :: st) h = ev 234 223 L (.int (aI h a i.toNatClampNeg) :: st) h := G_iald' f234_222 ha hi
theorem f234_223 : fetch 234 223 = some (.invokevirtual 17, 3) := vtab tk234_1 25 rfl
theorem e234_223 (L : VL) (st : List Value) (h : VG) (b : Nat) (x0 : Int32) (x1 : Int32) (x2 : Int32) (x3 : Int32) (x4 : Int32) (ho : ob h b 11) (hs : catS st ≤ 8) : ev 234 223 L (.int x4 :: .int x3 :: .int x2 :: .int x1 :: .int x0 :: .ref b :: st) h = (ev 137 0 [some (.ref b), some (.int x0), some (.int x1), some (.int x2), some (.int x3), some (.int x4)] [] h).bind fun q => ev 234 226 L (q.1.toList ++ st) q.2 := G_callv (k := 1) (p := 1216) (ars := [.int x0, .int x1, .int x2, .int x3, .int x4]) f234_223 lkC_13_17 (by decide) (by decide +kernel) rfl (vcls_ob (ci := 11) (by decide) ho) (Nat.le_of_ble_eq_true rfl) hs rfl
theorem f234_226 : fetch 234 226 = some (.if_icmp .eq 1175, 3) := vtab tk234_1 26 rfl
theorem e234_226 (L : VL) (st : List Value) (h : VG) (x y : Int32) : ev 234 226 L (.int y :: .int x :: st) h = if x = y then ev 234 1401 L st h else ev 234 229 L st h := G_icmp_eq f234_226 (by decide)
theorem f234_229 : fetch 234 229 = some (.iconst 0, 1) := vtab tk234_1 27 rfl
theorem e234_229 (L : VL) (st : List Value) (h : VG) : ev 234 229 L (st) h = ev 234 230 L (.int (0 : Int32) :: st) h := G_iconst f234_229 (by decide)
theorem f234_230 : fetch 234 230 = some (.ireturn, 1) := vtab tk234_1 28 rfl
theorem e234_230 (L : VL) (h : VG) (x : Int32) (hz : x = 0 ∨ x = 1) : ev 234 230 L [.int x] h = some (some (.int x), h) := G_iret f234_230 (ty := .boolean) (by decide) (vbool hz).1
theorem f234_231 : fetch 234 231 = some (.aload_n 1, 1) := vtab tk234_1 29 rfl
theorem e234_231 (l0 : Option Value) (L : VL) (st : List Value) (h : VG) (x : Nat) : ev 234 231 (l0 :: some (.ref x) :: L) (st) h = ev 234 232 (l0 :: some (.ref x) :: L) (.ref x :: st) h := G_aload_n f234_231 rfl
theorem f234_232 : fetch 234 232 = some (.aload_n 0, 1) := vtab tk234_1 30 rfl
theorem e234_232 (L : VL) (st : List Value) (h : VG) (x : Nat) : ev 234 232 (some (.ref x) :: L) (st) h = ev 234 233 (some (.ref x) :: L) (.ref x :: st) h := G_aload_n f234_232 rfl
theorem f234_233 : fetch 234 233 = some (.iload_n 3, 1) := vtab tk234_1 31 rfl
theorem e234_233 (l0 l1 l2 : Option Value) (L : VL) (st : List Value) (h : VG) (x : Int32) : ev 234 233 (l0 :: l1 :: l2 :: some (.int x) :: L) (st) h = ev 234 234 (l0 :: l1 :: l2 :: some (.int x) :: L) (.int x :: st) h := G_iload_n f234_233 rfl
theorem f234_234 : fetch 234 234 = some (.iconst 1, 1) := vtab tk234_1 32 rfl
theorem e234_234 (L : VL) (st : List Value) (h : VG) : ev 234 234 L (st) h = ev 234 235 L (.int (1 : Int32) :: st) h := G_iconst f234_234 (by decide)
theorem f234_235 : fetch 234 235 = some (.iadd, 1) := vtab tk234_1 33 rfl
theorem e234_235 (L : VL) (st : List Value) (h : VG) (x y : Int32) : ev 234 235 L (.int y :: .int x :: st) h = ev 234 236 L (.int (x + y) :: st) h := G_iadd f234_235
theorem f234_236 : fetch 234 236 = some (.iaload, 1) := vtab tk234_1 34 rfl
theorem e234_236 (L : VL) (st : List Value) (h : VG) (a : Nat) (i : Int32) (ha : rdI h a) (hi : vp_in i (aln h a)) : ev 234 236 L (.int i :: .ref a :: st) h = ev 234 237 L (.int (aI h a i.toNatClampNeg) :: st) h := G_iald' f234_236 ha hi
theorem f234_237 : fetch 234 237 = some (.invokevirtual 18, 3) := vtab tk234_1 35 rfl
theorem e234_237 (L : VL) (st : List Value) (h : VG) (b : Nat) (x0 : Int32) (ho : ob h b 10) (hs : catS st ≤ 8) : ev 234 237 L (.int x0 :: .ref b :: st) h = (ev 95 0 [some (.ref b), some (.int x0)] [] h).bind fun q => ev 234 240 L (q.1.toList ++ st) q.2 := G_callv (k := 1) (p := 480) (ars := [.int x0]) f234_237 lkC_13_18 (by decide) (by decide +kernel) rfl (vcls_ob (ci := 10) (by decide) ho) (Nat.le_of_ble_eq_true rfl) hs rfl
theorem f234_240 : fetch 234 240 = some (.aload_n 2, 1) := vtab tk234_1 36 rfl
theorem e234_240 (l0 l1 : Option Value) (L : VL) (st : List Value) (h : VG) (x : Nat) : ev 234 240 (l0 :: l1 :: some (.ref x) :: L) (st) h = ev 234 241 (l0 :: l1 :: some (.ref x) :: L) (.ref x :: st) h := G_aload_n f234_240 rfl
theorem f234_241 : fetch 234 241 = some (.aload_n 0, 1) := vtab tk234_1 37 rfl
theorem e234_241 (L : VL) (st : List Value) (h : VG) (x : Nat) : ev 234 241 (some (.ref x) :: L) (st) h = ev 234 242 (some (.ref x) :: L) (.ref x :: st) h := G_aload_n f234_241 rfl
theorem f234_242 : fetch 234 242 = some (.iload_n 3, 1) := vtab tk234_1 38 rfl
theorem e234_242 (l0 l1 l2 : Option Value) (L : VL) (st : List Value) (h : VG) (x : Int32) : ev 234 242 (l0 :: l1 :: l2 :: some (.int x) :: L) (st) h = ev 234 243 (l0 :: l1 :: l2 :: some (.int x) :: L) (.int x :: st) h := G_iload_n f234_242 rfl
theorem f234_243 : fetch 234 243 = some (.iconst 1, 1) := vtab tk234_1 39 rfl
theorem e234_243 (L : VL) (st : List Value) (h : VG) : ev 234 243 L (st) h = ev 234 244 L (.int (1 : Int32) :: st) h := G_iconst f234_243 (by decide)
theorem f234_244 : fetch 234 244 = some (.iadd, 1) := vtab tk234_1 40 rfl
theorem e234_244 (L : VL) (st : List Value) (h : VG) (x y : Int32) : ev 234 244 L (.int y :: .int x :: st) h = ev 234 245 L (.int (x + y) :: st) h := G_iadd f234_244
theorem f234_245 : fetch 234 245 = some (.iaload, 1) := vtab tk234_1 41 rfl
theorem e234_245 (L : VL) (st : List Value) (h : VG) (a : Nat) (i : Int32) (ha : rdI h a) (hi : vp_in i (aln h a)) : ev 234 245 L (.int i :: .ref a :: st) h = ev 234 246 L (.int (aI h a i.toNatClampNeg) :: st) h := G_iald' f234_245 ha hi
theorem f234_246 : fetch 234 246 = some (.invokevirtual 22, 3) := vtab tk234_1 42 rfl
theorem e234_246 (L : VL) (st : List Value) (h : VG) (b : Nat) (x0 : Int32) (ho : ob h b 11) (hs : catS st ≤ 8) : ev 234 246 L (.int x0 :: .ref b :: st) h = (ev 139 0 [some (.ref b), some (.int x0)] [] h).bind fun q => ev 234 249 L (q.1.toList ++ st) q.2 := G_callv (k := 1) (p := 1224) (ars := [.int x0]) f234_246 lkC_13_22 (by decide) (by decide +kernel) rfl (vcls_ob (ci := 11) (by decide) ho) (Nat.le_of_ble_eq_true rfl) hs rfl
theorem f234_249 : fetch 234 249 = some (.if_icmp .eq 1152, 3) := vtab tk234_1 43 rfl
theorem e234_249 (L : VL) (st : List Value) (h : VG) (x y : Int32) : ev 234 249 L (.int y :: .int x :: st) h = if x = y then ev 234 1401 L st h else ev 234 252 L st h := G_icmp_eq f234_249 (by decide)
theorem f234_252 : fetch 234 252 = some (.iconst 0, 1) := vtab tk234_1 44 rfl
theorem e234_252 (L : VL) (st : List Value) (h : VG) : ev 234 252 L (st) h = ev 234 253 L (.int (0 : Int32) :: st) h := G_iconst f234_252 (by decide)
theorem f234_253 : fetch 234 253 = some (.ireturn, 1) := vtab tk234_1 45 rfl
theorem e234_253 (L : VL) (h : VG) (x : Int32) (hz : x = 0 ∨ x = 1) : ev 234 253 L [.int x] h = some (some (.int x), h) := G_iret f234_253 (ty := .boolean) (by decide) (vbool hz).1
theorem f234_254 : fetch 234 254 = some (.aload_n 1, 1) := vtab tk234_1 46 rfl
theorem e234_254 (l0 : Option Value) (L : VL) (st : List Value) (h : VG) (x : Nat) : ev 234 254 (l0 :: some (.ref x) :: L) (st) h = ev 234 255 (l0 :: some (.ref x) :: L) (.ref x :: st) h := G_aload_n f234_254 rfl
theorem f234_255 : fetch 234 255 = some (.invokevirtual 23, 3) := vtab tk234_1 47 rfl
theorem e234_255 (L : VL) (st : List Value) (h : VG) (b : Nat)  (ho : ob h b 10) (hs : catS st ≤ 8) : ev 234 255 L (.ref b :: st) h = (ev 96 0 [some (.ref b), none, none] [] h).bind fun q => ev 234 258 L (q.1.toList ++ st) q.2 := G_callv (k := 1) (p := 484) (ars := []) f234_255 lkC_13_23 (by decide) (by decide +kernel) rfl (vcls_ob (ci := 10) (by decide) ho) (Nat.le_of_ble_eq_true rfl) hs rfl
theorem f234_258 : fetch 234 258 = some (.aload_n 2, 1) := vtab tk234_1 48 rfl
theorem e234_258 (l0 l1 : Option Value) (L : VL) (st : List Value) (h : VG) (x : Nat) : ev 234 258 (l0 :: l1 :: some (.ref x) :: L) (st) h = ev 234 259 (l0 :: l1 :: some (.ref x) :: L) (.ref x :: st) h := G_aload_n f234_258 rfl
theorem f234_259 : fetch 234 259 = some (.invokevirtual 27, 3) := vtab tk234_1 49 rfl
theorem e234_259 (L : VL) (st : List Value) (h : VG) (b : Nat)  (ho : ob h b 11) (hs : catS st ≤ 8) : ev 234 259 L (.ref b :: st) h = (ev 153 0 [some (.ref b), none] [] h).bind fun q => ev 234 262 L (q.1.toList ++ st) q.2 := G_callv (k := 1) (p := 1228) (ars := []) f234_259 lkC_13_27 (by decide) (by decide +kernel) rfl (vcls_ob (ci := 11) (by decide) ho) (Nat.le_of_ble_eq_true rfl) hs rfl
theorem f234_262 : fetch 234 262 = some (.if_icmp .eq 1139, 3) := vtab tk234_2 0 rfl
theorem e234_262 (L : VL) (st : List Value) (h : VG) (x y : Int32) : ev 234 262 L (.int y :: .int x :: st) h = if x = y then ev 234 1401 L st h else ev 234 265 L st h := G_icmp_eq f234_262 (by decide)
theorem f234_265 : fetch 234 265 = some (.iconst 0, 1) := vtab tk234_2 1 rfl
theorem e234_265 (L : VL) (st : List Value) (h : VG) : ev 234 265 L (st) h = ev 234 266 L (.int (0 : Int32) :: st) h := G_iconst f234_265 (by decide)
theorem f234_266 : fetch 234 266 = some (.ireturn, 1) := vtab tk234_2 2 rfl
theorem e234_266 (L : VL) (h : VG) (x : Int32) (hz : x = 0 ∨ x = 1) : ev 234 266 L [.int x] h = some (some (.int x), h) := G_iret f234_266 (ty := .boolean) (by decide) (vbool hz).1
theorem f234_267 : fetch 234 267 = some (.aload_n 1, 1) := vtab tk234_2 3 rfl
theorem e234_267 (l0 : Option Value) (L : VL) (st : List Value) (h : VG) (x : Nat) : ev 234 267 (l0 :: some (.ref x) :: L) (st) h = ev 234 268 (l0 :: some (.ref x) :: L) (.ref x :: st) h := G_aload_n f234_267 rfl
theorem f234_268 : fetch 234 268 = some (.invokevirtual 28, 3) := vtab tk234_2 4 rfl
theorem e234_268 (L : VL) (st : List Value) (h : VG) (b : Nat)  (ho : ob h b 10) (hs : catS st ≤ 8) : ev 234 268 L (.ref b :: st) h = (ev 98 0 [some (.ref b)] [] h).bind fun q => ev 234 271 L (q.1.toList ++ st) q.2 := G_callv (k := 1) (p := 653) (ars := []) f234_268 lkC_13_28 (by decide) (by decide +kernel) rfl (vcls_ob (ci := 10) (by decide) ho) (Nat.le_of_ble_eq_true rfl) hs rfl
theorem f234_271 : fetch 234 271 = some (.aload_n 2, 1) := vtab tk234_2 5 rfl
theorem e234_271 (l0 l1 : Option Value) (L : VL) (st : List Value) (h : VG) (x : Nat) : ev 234 271 (l0 :: l1 :: some (.ref x) :: L) (st) h = ev 234 272 (l0 :: l1 :: some (.ref x) :: L) (.ref x :: st) h := G_aload_n f234_271 rfl
theorem f234_272 : fetch 234 272 = some (.invokevirtual 31, 3) := vtab tk234_2 6 rfl
theorem e234_272 (L : VL) (st : List Value) (h : VG) (b : Nat)  (ho : ob h b 11) (hs : catS st ≤ 8) : ev 234 272 L (.ref b :: st) h = (ev 155 0 [some (.ref b)] [] h).bind fun q => ev 234 275 L (q.1.toList ++ st) q.2 := G_callv (k := 1) (p := 1305) (ars := []) f234_272 lkC_13_31 (by decide) (by decide +kernel) rfl (vcls_ob (ci := 11) (by decide) ho) (Nat.le_of_ble_eq_true rfl) hs rfl
theorem f234_275 : fetch 234 275 = some (.if_icmp .eq 1126, 3) := vtab tk234_2 7 rfl
theorem e234_275 (L : VL) (st : List Value) (h : VG) (x y : Int32) : ev 234 275 L (.int y :: .int x :: st) h = if x = y then ev 234 1401 L st h else ev 234 278 L st h := G_icmp_eq f234_275 (by decide)
theorem f234_278 : fetch 234 278 = some (.iconst 0, 1) := vtab tk234_2 8 rfl
theorem e234_278 (L : VL) (st : List Value) (h : VG) : ev 234 278 L (st) h = ev 234 279 L (.int (0 : Int32) :: st) h := G_iconst f234_278 (by decide)
theorem f234_279 : fetch 234 279 = some (.ireturn, 1) := vtab tk234_2 9 rfl
theorem e234_279 (L : VL) (h : VG) (x : Int32) (hz : x = 0 ∨ x = 1) : ev 234 279 L [.int x] h = some (some (.int x), h) := G_iret f234_279 (ty := .boolean) (by decide) (vbool hz).1
theorem f234_280 : fetch 234 280 = some (.aload_n 1, 1) := vtab tk234_2 10 rfl
theorem e234_280 (l0 : Option Value) (L : VL) (st : List Value) (h : VG) (x : Nat) : ev 234 280 (l0 :: some (.ref x) :: L) (st) h = ev 234 281 (l0 :: some (.ref x) :: L) (.ref x :: st) h := G_aload_n f234_280 rfl
theorem f234_281 : fetch 234 281 = some (.invokevirtual 32, 3) := vtab tk234_2 11 rfl
theorem e234_281 (L : VL) (st : List Value) (h : VG) (b : Nat)  (ho : ob h b 10) (hs : catS st ≤ 8) : ev 234 281 L (.ref b :: st) h = (ev 99 0 [some (.ref b)] [] h).bind fun q => ev 234 284 L (q.1.toList ++ st) q.2 := G_callv (k := 1) (p := 657) (ars := []) f234_281 lkC_13_32 (by decide) (by decide +kernel) rfl (vcls_ob (ci := 10) (by decide) ho) (Nat.le_of_ble_eq_true rfl) hs rfl
theorem f234_284 : fetch 234 284 = some (.aload_n 2, 1) := vtab tk234_2 12 rfl
theorem e234_284 (l0 l1 : Option Value) (L : VL) (st : List Value) (h : VG) (x : Nat) : ev 234 284 (l0 :: l1 :: some (.ref x) :: L) (st) h = ev 234 285 (l0 :: l1 :: some (.ref x) :: L) (.ref x :: st) h := G_aload_n f234_284 rfl
theorem f234_285 : fetch 234 285 = some (.invokevirtual 35, 3) := vtab tk234_2 13 rfl
theorem e234_285 (L : VL) (st : List Value) (h : VG) (b : Nat)  (ho : ob h b 11) (hs : catS st ≤ 8) : ev 234 285 L (.ref b :: st) h = (ev 165 0 [some (.ref b)] [] h).bind fun q => ev 234 288 L (q.1.toList ++ st) q.2 := G_callv (k := 1) (p := 1309) (ars := []) f234_285 lkC_13_35 (by decide) (by decide +kernel) rfl (vcls_ob (ci := 11) (by decide) ho) (Nat.le_of_ble_eq_true rfl) hs rfl
theorem f234_288 : fetch 234 288 = some (.if_icmp .eq 1113, 3) := vtab tk234_2 14 rfl
theorem e234_288 (L : VL) (st : List Value) (h : VG) (x y : Int32) : ev 234 288 L (.int y :: .int x :: st) h = if x = y then ev 234 1401 L st h else ev 234 291 L st h := G_icmp_eq f234_288 (by decide)
theorem f234_291 : fetch 234 291 = some (.iconst 0, 1) := vtab tk234_2 15 rfl
theorem e234_291 (L : VL) (st : List Value) (h : VG) : ev 234 291 L (st) h = ev 234 292 L (.int (0 : Int32) :: st) h := G_iconst f234_291 (by decide)
theorem f234_292 : fetch 234 292 = some (.ireturn, 1) := vtab tk234_2 16 rfl
theorem e234_292 (L : VL) (h : VG) (x : Int32) (hz : x = 0 ∨ x = 1) : ev 234 292 L [.int x] h = some (some (.int x), h) := G_iret f234_292 (ty := .boolean) (by decide) (vbool hz).1
theorem f234_293 : fetch 234 293 = some (.aload_n 1, 1) := vtab tk234_2 17 rfl
theorem e234_293 (l0 : Option Value) (L : VL) (st : List Value) (h : VG) (x : Nat) : ev 234 293 (l0 :: some (.ref x) :: L) (st) h = ev 234 294 (l0 :: some (.ref x) :: L) (.ref x :: st) h := G_aload_n f234_293 rfl
theorem f234_294 : fetch 234 294 = some (.aload_n 0, 1) := vtab tk234_2 18 rfl
theorem e234_294 (L : VL) (st : List Value) (h : VG) (x : Nat) : ev 234 294 (some (.ref x) :: L) (st) h = ev 234 295 (some (.ref x) :: L) (.ref x :: st) h := G_aload_n f234_294 rfl
theorem f234_295 : fetch 234 295 = some (.iload_n 3, 1) := vtab tk234_2 19 rfl
theorem e234_295 (l0 l1 l2 : Option Value) (L : VL) (st : List Value) (h : VG) (x : Int32) : ev 234 295 (l0 :: l1 :: l2 :: some (.int x) :: L) (st) h = ev 234 296 (l0 :: l1 :: l2 :: some (.int x) :: L) (.int x :: st) h := G_iload_n f234_295 rfl
theorem f234_296 : fetch 234 296 = some (.iconst 1, 1) := vtab tk234_2 20 rfl
theorem e234_296 (L : VL) (st : List Value) (h : VG) : ev 234 296 L (st) h = ev 234 297 L (.int (1 : Int32) :: st) h := G_iconst f234_296 (by decide)
theorem f234_297 : fetch 234 297 = some (.iadd, 1) := vtab tk234_2 21 rfl
theorem e234_297 (L : VL) (st : List Value) (h : VG) (x y : Int32) : ev 234 297 L (.int y :: .int x :: st) h = ev 234 298 L (.int (x + y) :: st) h := G_iadd f234_297
theorem f234_298 : fetch 234 298 = some (.iaload, 1) := vtab tk234_2 22 rfl
theorem e234_298 (L : VL) (st : List Value) (h : VG) (a : Nat) (i : Int32) (ha : rdI h a) (hi : vp_in i (aln h a)) : ev 234 298 L (.int i :: .ref a :: st) h = ev 234 299 L (.int (aI h a i.toNatClampNeg) :: st) h := G_iald' f234_298 ha hi
theorem f234_299 : fetch 234 299 = some (.aload_n 0, 1) := vtab tk234_2 23 rfl
theorem e234_299 (L : VL) (st : List Value) (h : VG) (x : Nat) : ev 234 299 (some (.ref x) :: L) (st) h = ev 234 300 (some (.ref x) :: L) (.ref x :: st) h := G_aload_n f234_299 rfl
theorem f234_300 : fetch 234 300 = some (.iload_n 3, 1) := vtab tk234_2 24 rfl
theorem e234_300 (l0 l1 l2 : Option Value) (L : VL) (st : List Value) (h : VG) (x : Int32) : ev 234 300 (l0 :: l1 :: l2 :: some (.int x) :: L) (st) h = ev 234 301 (l0 :: l1 :: l2 :: some (.int x) :: L) (.int x :: st) h := G_iload_n f234_300 rfl
theorem f234_301 : fetch 234 301 = some (.iconst 2, 1) := vtab tk234_2 25 rfl
theorem e234_301 (L : VL) (st : List Value) (h : VG) : ev 234 301 L (st) h = ev 234 302 L (.int (2 : Int32) :: st) h := G_iconst f234_301 (by decide)
theorem f234_302 : fetch 234 302 = some (.iadd, 1) := vtab tk234_2 26 rfl
theorem e234_302 (L : VL) (st : List Value) (h : VG) (x y : Int32) : ev 234 302 L (.int y :: .int x :: st) h = ev 234 303 L (.int (x + y) :: st) h := G_iadd f234_302
theorem f234_303 : fetch 234 303 = some (.iaload, 1) := vtab tk234_2 27 rfl
theorem e234_303 (L : VL) (st : List Value) (h : VG) (a : Nat) (i : Int32) (ha : rdI h a) (hi : vp_in i (aln h a)) : ev 234 303 L (.int i :: .ref a :: st) h = ev 234 304 L (.int (aI h a i.toNatClampNeg) :: st) h := G_iald' f234_303 ha hi
theorem f234_304 : fetch 234 304 = some (.ifCond .eq 7, 3) := vtab tk234_2 28 rfl
theorem e234_304 (L : VL) (st : List Value) (h : VG) (x : Int32) : ev 234 304 L (.int x :: st) h = if x = 0 then ev 234 311 L st h else ev 234 307 L st h := G_if_eq f234_304 (by decide)
theorem f234_307 : fetch 234 307 = some (.iconst 1, 1) := vtab tk234_2 29 rfl
theorem e234_307 (L : VL) (st : List Value) (h : VG) : ev 234 307 L (st) h = ev 234 308 L (.int (1 : Int32) :: st) h := G_iconst f234_307 (by decide)
theorem f234_308 : fetch 234 308 = some (.goto 4, 3) := vtab tk234_2 30 rfl
theorem e234_308 (L : VL) (st : List Value) (h : VG) : ev 234 308 L (st) h = ev 234 312 L (st) h := G_goto f234_308 (by decide)
theorem f234_311 : fetch 234 311 = some (.iconst 0, 1) := vtab tk234_2 31 rfl
theorem e234_311 (L : VL) (st : List Value) (h : VG) : ev 234 311 L (st) h = ev 234 312 L (.int (0 : Int32) :: st) h := G_iconst f234_311 (by decide)
theorem f234_312 : fetch 234 312 = some (.aload_n 0, 1) := vtab tk234_2 32 rfl
theorem e234_312 (L : VL) (st : List Value) (h : VG) (x : Nat) : ev 234 312 (some (.ref x) :: L) (st) h = ev 234 313 (some (.ref x) :: L) (.ref x :: st) h := G_aload_n f234_312 rfl
theorem f234_313 : fetch 234 313 = some (.iload_n 3, 1) := vtab tk234_2 33 rfl
theorem e234_313 (l0 l1 l2 : Option Value) (L : VL) (st : List Value) (h : VG) (x : Int32) : ev 234 313 (l0 :: l1 :: l2 :: some (.int x) :: L) (st) h = ev 234 314 (l0 :: l1 :: l2 :: some (.int x) :: L) (.int x :: st) h := G_iload_n f234_313 rfl
theorem f234_314 : fetch 234 314 = some (.iconst 3, 1) := vtab tk234_2 34 rfl
theorem e234_314 (L : VL) (st : List Value) (h : VG) : ev 234 314 L (st) h = ev 234 315 L (.int (3 : Int32) :: st) h := G_iconst f234_314 (by decide)
theorem f234_315 : fetch 234 315 = some (.iadd, 1) := vtab tk234_2 35 rfl
theorem e234_315 (L : VL) (st : List Value) (h : VG) (x y : Int32) : ev 234 315 L (.int y :: .int x :: st) h = ev 234 316 L (.int (x + y) :: st) h := G_iadd f234_315
theorem f234_316 : fetch 234 316 = some (.iaload, 1) := vtab tk234_2 36 rfl
theorem e234_316 (L : VL) (st : List Value) (h : VG) (a : Nat) (i : Int32) (ha : rdI h a) (hi : vp_in i (aln h a)) : ev 234 316 L (.int i :: .ref a :: st) h = ev 234 317 L (.int (aI h a i.toNatClampNeg) :: st) h := G_iald' f234_316 ha hi
theorem f234_317 : fetch 234 317 = some (.aload_n 0, 1) := vtab tk234_2 37 rfl
theorem e234_317 (L : VL) (st : List Value) (h : VG) (x : Nat) : ev 234 317 (some (.ref x) :: L) (st) h = ev 234 318 (some (.ref x) :: L) (.ref x :: st) h := G_aload_n f234_317 rfl
theorem f234_318 : fetch 234 318 = some (.iload_n 3, 1) := vtab tk234_2 38 rfl
theorem e234_318 (l0 l1 l2 : Option Value) (L : VL) (st : List Value) (h : VG) (x : Int32) : ev 234 318 (l0 :: l1 :: l2 :: some (.int x) :: L) (st) h = ev 234 319 (l0 :: l1 :: l2 :: some (.int x) :: L) (.int x :: st) h := G_iload_n f234_318 rfl
theorem f234_319 : fetch 234 319 = some (.iconst 4, 1) := vtab tk234_2 39 rfl
theorem e234_319 (L : VL) (st : List Value) (h : VG) : ev 234 319 L (st) h = ev 234 320 L (.int (4 : Int32) :: st) h := G_iconst f234_319 (by decide)
theorem f234_320 : fetch 234 320 = some (.iadd, 1) := vtab tk234_2 40 rfl
theorem e234_320 (L : VL) (st : List Value) (h : VG) (x y : Int32) : ev 234 320 L (.int y :: .int x :: st) h = ev 234 321 L (.int (x + y) :: st) h := G_iadd f234_320
theorem f234_321 : fetch 234 321 = some (.iaload, 1) := vtab tk234_2 41 rfl
theorem e234_321 (L : VL) (st : List Value) (h : VG) (a : Nat) (i : Int32) (ha : rdI h a) (hi : vp_in i (aln h a)) : ev 234 321 L (.int i :: .ref a :: st) h = ev 234 322 L (.int (aI h a i.toNatClampNeg) :: st) h := G_iald' f234_321 ha hi
theorem f234_322 : fetch 234 322 = some (.invokevirtual 36, 3) := vtab tk234_2 42 rfl
theorem e234_322 (L : VL) (st : List Value) (h : VG) (b : Nat) (x0 : Int32) (x1 : Int32) (x2 : Int32) (x3 : Int32) (ho : ob h b 10) (hs : catS st ≤ 8) : ev 234 322 L (.int x3 :: .int x2 :: .int x1 :: .int x0 :: .ref b :: st) h = (ev 104 0 [some (.ref b), some (.int x0), some (.int x1), some (.int x2), some (.int x3), none, none] [] h).bind fun q => ev 234 325 L (q.1.toList ++ st) q.2 := G_callv (k := 1) (p := 661) (ars := [.int x0, .int x1, .int x2, .int x3]) f234_322 lkC_13_36 (by decide) (by decide +kernel) rfl (vcls_ob (ci := 10) (by decide) ho) (Nat.le_of_ble_eq_true rfl) hs rfl
theorem f234_325 : fetch 234 325 = some (.aload_n 2, 1) := vtab tk234_2 43 rfl
theorem e234_325 (l0 l1 : Option Value) (L : VL) (st : List Value) (h : VG) (x : Nat) : ev 234 325 (l0 :: l1 :: some (.ref x) :: L) (st) h = ev 234 326 (l0 :: l1 :: some (.ref x) :: L) (.ref x :: st) h := G_aload_n f234_325 rfl
theorem f234_326 : fetch 234 326 = some (.aload_n 0, 1) := vtab tk234_2 44 rfl
theorem e234_326 (L : VL) (st : List Value) (h : VG) (x : Nat) : ev 234 326 (some (.ref x) :: L) (st) h = ev 234 327 (some (.ref x) :: L) (.ref x :: st) h := G_aload_n f234_326 rfl
theorem f234_327 : fetch 234 327 = some (.iload_n 3, 1) := vtab tk234_2 45 rfl
theorem e234_327 (l0 l1 l2 : Option Value) (L : VL) (st : List Value) (h : VG) (x : Int32) : ev 234 327 (l0 :: l1 :: l2 :: some (.int x) :: L) (st) h = ev 234 328 (l0 :: l1 :: l2 :: some (.int x) :: L) (.int x :: st) h := G_iload_n f234_327 rfl
theorem f234_328 : fetch 234 328 = some (.iconst 1, 1) := vtab tk234_2 46 rfl
theorem e234_328 (L : VL) (st : List Value) (h : VG) : ev 234 328 L (st) h = ev 234 329 L (.int (1 : Int32) :: st) h := G_iconst f234_328 (by decide)
theorem f234_329 : fetch 234 329 = some (.iadd, 1) := vtab tk234_2 47 rfl
theorem e234_329 (L : VL) (st : List Value) (h : VG) (x y : Int32) : ev 234 329 L (.int y :: .int x :: st) h = ev 234 330 L (.int (x + y) :: st) h := G_iadd f234_329
theorem f234_330 : fetch 234 330 = some (.iaload, 1) := vtab tk234_2 48 rfl
theorem e234_330 (L : VL) (st : List Value) (h : VG) (a : Nat) (i : Int32) (ha : rdI h a) (hi : vp_in i (aln h a)) : ev 234 330 L (.int i :: .ref a :: st) h = ev 234 331 L (.int (aI h a i.toNatClampNeg) :: st) h := G_iald' f234_330 ha hi
theorem f234_331 : fetch 234 331 = some (.aload_n 0, 1) := vtab tk234_2 49 rfl
theorem e234_331 (L : VL) (st : List Value) (h : VG) (x : Nat) : ev 234 331 (some (.ref x) :: L) (st) h = ev 234 332 (some (.ref x) :: L) (.ref x :: st) h := G_aload_n f234_331 rfl
theorem f234_332 : fetch 234 332 = some (.iload_n 3, 1) := vtab tk234_3 0 rfl
theorem e234_332 (l0 l1 l2 : Option Value) (L : VL) (st : List Value) (h : VG) (x : Int32) : ev 234 332 (l0 :: l1 :: l2 :: some (.int x) :: L) (st) h = ev 234 333 (l0 :: l1 :: l2 :: some (.int x) :: L) (.int x :: st) h := G_iload_n f234_332 rfl
theorem f234_333 : fetch 234 333 = some (.iconst 2, 1) := vtab tk234_3 1 rfl
theorem e234_333 (L : VL) (st : List Value) (h : VG) : ev 234 333 L (st) h = ev 234 334 L (.int (2 : Int32) :: st) h := G_iconst f234_333 (by decide)
theorem f234_334 : fetch 234 334 = some (.iadd, 1) := vtab tk234_3 2 rfl
theorem e234_334 (L : VL) (st : List Value) (h : VG) (x y : Int32) : ev 234 334 L (.int y :: .int x :: st) h = ev 234 335 L (.int (x + y) :: st) h := G_iadd f234_334
theorem f234_335 : fetch 234 335 = some (.iaload, 1) := vtab tk234_3 3 rfl
theorem e234_335 (L : VL) (st : List Value) (h : VG) (a : Nat) (i : Int32) (ha : rdI h a) (hi : vp_in i (aln h a)) : ev 234 335 L (.int i :: .ref a :: st) h = ev 234 336 L (.int (aI h a i.toNatClampNeg) :: st) h := G_iald' f234_335 ha hi
theorem f234_336 : fetch 234 336 = some (.ifCond .eq 7, 3) := vtab tk234_3 4 rfl
theorem e234_336 (L : VL) (st : List Value) (h : VG) (x : Int32) : ev 234 336 L (.int x :: st) h = if x = 0 then ev 234 343 L st h else ev 234 339 L st h := G_if_eq f234_336 (by decide)
theorem f234_339 : fetch 234 339 = some (.iconst 1, 1) := vtab tk234_3 5 rfl
theorem e234_339 (L : VL) (st : List Value) (h : VG) : ev 234 339 L (st) h = ev 234 340 L (.int (1 : Int32) :: st) h := G_iconst f234_339 (by decide)
theorem f234_340 : fetch 234 340 = some (.goto 4, 3) := vtab tk234_3 6 rfl
theorem e234_340 (L : VL) (st : List Value) (h : VG) : ev 234 340 L (st) h = ev 234 344 L (st) h := G_goto f234_340 (by decide)
theorem f234_343 : fetch 234 343 = some (.iconst 0, 1) := vtab tk234_3 7 rfl
theorem e234_343 (L : VL) (st : List Value) (h : VG) : ev 234 343 L (st) h = ev 234 344 L (.int (0 : Int32) :: st) h := G_iconst f234_343 (by decide)
theorem f234_344 : fetch 234 344 = some (.aload_n 0, 1) := vtab tk234_3 8 rfl
theorem e234_344 (L : VL) (st : List Value) (h : VG) (x : Nat) : ev 234 344 (some (.ref x) :: L) (st) h = ev 234 345 (some (.ref x) :: L) (.ref x :: st) h := G_aload_n f234_344 rfl
theorem f234_345 : fetch 234 345 = some (.iload_n 3, 1) := vtab tk234_3 9 rfl
theorem e234_345 (l0 l1 l2 : Option Value) (L : VL) (st : List Value) (h : VG) (x : Int32) : ev 234 345 (l0 :: l1 :: l2 :: some (.int x) :: L) (st) h = ev 234 346 (l0 :: l1 :: l2 :: some (.int x) :: L) (.int x :: st) h := G_iload_n f234_345 rfl
theorem f234_346 : fetch 234 346 = some (.iconst 3, 1) := vtab tk234_3 10 rfl
theorem e234_346 (L : VL) (st : List Value) (h : VG) : ev 234 346 L (st) h = ev 234 347 L (.int (3 : Int32) :: st) h := G_iconst f234_346 (by decide)
theorem f234_347 : fetch 234 347 = some (.iadd, 1) := vtab tk234_3 11 rfl
theorem e234_347 (L : VL) (st : List Value) (h : VG) (x y : Int32) : ev 234 347 L (.int y :: .int x :: st) h = ev 234 348 L (.int (x + y) :: st) h := G_iadd f234_347
theorem f234_348 : fetch 234 348 = some (.iaload, 1) := vtab tk234_3 12 rfl
theorem e234_348 (L : VL) (st : List Value) (h : VG) (a : Nat) (i : Int32) (ha : rdI h a) (hi : vp_in i (aln h a)) : ev 234 348 L (.int i :: .ref a :: st) h = ev 234 349 L (.int (aI h a i.toNatClampNeg) :: st) h := G_iald' f234_348 ha hi
theorem f234_349 : fetch 234 349 = some (.aload_n 0, 1) := vtab tk234_3 13 rfl
theorem e234_349 (L : VL) (st : List Value) (h : VG) (x : Nat) : ev 234 349 (some (.ref x) :: L) (st) h = ev 234 350 (some (.ref x) :: L) (.ref x :: st) h := G_aload_n f234_349 rfl
theorem f234_350 : fetch 234 350 = some (.iload_n 3, 1) := vtab tk234_3 14 rfl
theorem e234_350 (l0 l1 l2 : Option Value) (L : VL) (st : List Value) (h : VG) (x : Int32) : ev 234 350 (l0 :: l1 :: l2 :: some (.int x) :: L) (st) h = ev 234 351 (l0 :: l1 :: l2 :: some (.int x) :: L) (.int x :: st) h := G_iload_n f234_350 rfl
theorem f234_351 : fetch 234 351 = some (.iconst 4, 1) := vtab tk234_3 15 rfl
theorem e234_351 (L : VL) (st : List Value) (h : VG) : ev 234 351 L (st) h = ev 234 352 L (.int (4 : Int32) :: st) h := G_iconst f234_351 (by decide)
theorem f234_352 : fetch 234 352 = some (.iadd, 1) := vtab tk234_3 16 rfl
theorem e234_352 (L : VL) (st : List Value) (h : VG) (x y : Int32) : ev 234 352 L (.int y :: .int x :: st) h = ev 234 353 L (.int (x + y) :: st) h := G_iadd f234_352
theorem f234_353 : fetch 234 353 = some (.iaload, 1) := vtab tk234_3 17 rfl
theorem e234_353 (L : VL) (st : List Value) (h : VG) (a : Nat) (i : Int32) (ha : rdI h a) (hi : vp_in i (aln h a)) : ev 234 353 L (.int i :: .ref a :: st) h = ev 234 354 L (.int (aI h a i.toNatClampNeg) :: st) h := G_iald' f234_353 ha hi
theorem f234_354 : fetch 234 354 = some (.invokevirtual 40, 3) := vtab tk234_3 18 rfl
theorem e234_354 (L : VL) (st : List Value) (h : VG) (b : Nat) (x0 : Int32) (x1 : Int32) (x2 : Int32) (x3 : Int32) (ho : ob h b 11) (hs : catS st ≤ 8) : ev 234 354 L (.int x3 :: .int x2 :: .int x1 :: .int x0 :: .ref b :: st) h = (ev 172 0 [some (.ref b), some (.int x0), some (.int x1), some (.int x2), some (.int x3), none] [] h).bind fun q => ev 234 357 L (q.1.toList ++ st) q.2 := G_callv (k := 1) (p := 1313) (ars := [.int x0, .int x1, .int x2, .int x3]) f234_354 lkC_13_40 (by decide) (by decide +kernel) rfl (vcls_ob (ci := 11) (by decide) ho) (Nat.le_of_ble_eq_true rfl) hs rfl
theorem f234_357 : fetch 234 357 = some (.if_icmp .eq 1044, 3) := vtab tk234_3 19 rfl
theorem e234_357 (L : VL) (st : List Value) (h : VG) (x y : Int32) : ev 234 357 L (.int y :: .int x :: st) h = if x = y then ev 234 1401 L st h else ev 234 360 L st h := G_icmp_eq f234_357 (by decide)
theorem f234_360 : fetch 234 360 = some (.iconst 0, 1) := vtab tk234_3 20 rfl
theorem e234_360 (L : VL) (st : List Value) (h : VG) : ev 234 360 L (st) h = ev 234 361 L (.int (0 : Int32) :: st) h := G_iconst f234_360 (by decide)
theorem f234_361 : fetch 234 361 = some (.ireturn, 1) := vtab tk234_3 21 rfl
theorem e234_361 (L : VL) (h : VG) (x : Int32) (hz : x = 0 ∨ x = 1) : ev 234 361 L [.int x] h = some (some (.int x), h) := G_iret f234_361 (ty := .boolean) (by decide) (vbool hz).1
theorem f234_362 : fetch 234 362 = some (.aload_n 1, 1) := vtab tk234_3 22 rfl
theorem e234_362 (l0 : Option Value) (L : VL) (st : List Value) (h : VG) (x : Nat) : ev 234 362 (l0 :: some (.ref x) :: L) (st) h = ev 234 363 (l0 :: some (.ref x) :: L) (.ref x :: st) h := G_aload_n f234_362 rfl
theorem f234_363 : fetch 234 363 = some (.aload_n 0, 1) := vtab tk234_3 23 rfl
theorem e234_363 (L : VL) (st : List Value) (h : VG) (x : Nat) : ev 234 363 (some (.ref x) :: L) (st) h = ev 234 364 (some (.ref x) :: L) (.ref x :: st) h := G_aload_n f234_363 rfl
theorem f234_364 : fetch 234 364 = some (.iload_n 3, 1) := vtab tk234_3 24 rfl
theorem e234_364 (l0 l1 l2 : Option Value) (L : VL) (st : List Value) (h : VG) (x : Int32) : ev 234 364 (l0 :: l1 :: l2 :: some (.int x) :: L) (st) h = ev 234 365 (l0 :: l1 :: l2 :: some (.int x) :: L) (.int x :: st) h := G_iload_n f234_364 rfl
theorem f234_365 : fetch 234 365 = some (.iconst 1, 1) := vtab tk234_3 25 rfl
theorem e234_365 (L : VL) (st : List Value) (h : VG) : ev 234 365 L (st) h = ev 234 366 L (.int (1 : Int32) :: st) h := G_iconst f234_365 (by decide)
theorem f234_366 : fetch 234 366 = some (.iadd, 1) := vtab tk234_3 26 rfl
theorem e234_366 (L : VL) (st : List Value) (h : VG) (x y : Int32) : ev 234 366 L (.int y :: .int x :: st) h = ev 234 367 L (.int (x + y) :: st) h := G_iadd f234_366
theorem f234_367 : fetch 234 367 = some (.iaload, 1) := vtab tk234_3 27 rfl
theorem e234_367 (L : VL) (st : List Value) (h : VG) (a : Nat) (i : Int32) (ha : rdI h a) (hi : vp_in i (aln h a)) : ev 234 367 L (.int i :: .ref a :: st) h = ev 234 368 L (.int (aI h a i.toNatClampNeg) :: st) h := G_iald' f234_367 ha hi
theorem f234_368 : fetch 234 368 = some (.aload_n 0, 1) := vtab tk234_3 28 rfl
theorem e234_368 (L : VL) (st : List Value) (h : VG) (x : Nat) : ev 234 368 (some (.ref x) :: L) (st) h = ev 234 369 (some (.ref x) :: L) (.ref x :: st) h := G_aload_n f234_368 rfl
theorem f234_369 : fetch 234 369 = some (.iload_n 3, 1) := vtab tk234_3 29 rfl
theorem e234_369 (l0 l1 l2 : Option Value) (L : VL) (st : List Value) (h : VG) (x : Int32) : ev 234 369 (l0 :: l1 :: l2 :: some (.int x) :: L) (st) h = ev 234 370 (l0 :: l1 :: l2 :: some (.int x) :: L) (.int x :: st) h := G_iload_n f234_369 rfl
theorem f234_370 : fetch 234 370 = some (.iconst 2, 1) := vtab tk234_3 30 rfl
theorem e234_370 (L : VL) (st : List Value) (h : VG) : ev 234 370 L (st) h = ev 234 371 L (.int (2 : Int32) :: st) h := G_iconst f234_370 (by decide)
theorem f234_371 : fetch 234 371 = some (.iadd, 1) := vtab tk234_3 31 rfl
theorem e234_371 (L : VL) (st : List Value) (h : VG) (x y : Int32) : ev 234 371 L (.int y :: .int x :: st) h = ev 234 372 L (.int (x + y) :: st) h := G_iadd f234_371
theorem f234_372 : fetch 234 372 = some (.iaload, 1) := vtab tk234_3 32 rfl
theorem e234_372 (L : VL) (st : List Value) (h : VG) (a : Nat) (i : Int32) (ha : rdI h a) (hi : vp_in i (aln h a)) : ev 234 372 L (.int i :: .ref a :: st) h = ev 234 373 L (.int (aI h a i.toNatClampNeg) :: st) h := G_iald' f234_372 ha hi
theorem f234_373 : fetch 234 373 = some (.aload_n 0, 1) := vtab tk234_3 33 rfl
theorem e234_373 (L : VL) (st : List Value) (h : VG) (x : Nat) : ev 234 373 (some (.ref x) :: L) (st) h = ev 234 374 (some (.ref x) :: L) (.ref x :: st) h := G_aload_n f234_373 rfl
theorem f234_374 : fetch 234 374 = some (.iload_n 3, 1) := vtab tk234_3 34 rfl
theorem e234_374 (l0 l1 l2 : Option Value) (L : VL) (st : List Value) (h : VG) (x : Int32) : ev 234 374 (l0 :: l1 :: l2 :: some (.int x) :: L) (st) h = ev 234 375 (l0 :: l1 :: l2 :: some (.int x) :: L) (.int x :: st) h := G_iload_n f234_374 rfl
theorem f234_375 : fetch 234 375 = some (.iconst 3, 1) := vtab tk234_3 35 rfl
theorem e234_375 (L : VL) (st : List Value) (h : VG) : ev 234 375 L (st) h = ev 234 376 L (.int (3 : Int32) :: st) h := G_iconst f234_375 (by decide)
theorem f234_376 : fetch 234 376 = some (.iadd, 1) := vtab tk234_3 36 rfl
theorem e234_376 (L : VL) (st : List Value) (h : VG) (x y : Int32) : ev 234 376 L (.int y :: .int x :: st) h = ev 234 377 L (.int (x + y) :: st) h := G_iadd f234_376
theorem f234_377 : fetch 234 377 = some (.iaload, 1) := vtab tk234_3 37 rfl
theorem e234_377 (L : VL) (st : List Value) (h : VG) (a : Nat) (i : Int32) (ha : rdI h a) (hi : vp_in i (aln h a)) : ev 234 377 L (.int i :: .ref a :: st) h = ev 234 378 L (.int (aI h a i.toNatClampNeg) :: st) h := G_iald' f234_377 ha hi
theorem f234_378 : fetch 234 378 = some (.invokevirtual 41, 3) := vtab tk234_3 38 rfl
theorem e234_378 (L : VL) (st : List Value) (h : VG) (b : Nat) (x0 : Int32) (x1 : Int32) (x2 : Int32) (ho : ob h b 10) (hs : catS st ≤ 8) : ev 234 378 L (.int x2 :: .int x1 :: .int x0 :: .ref b :: st) h = (ev 107 0 [some (.ref b), some (.int x0), some (.int x1), some (.int x2), none] [] h).bind fun q => ev 234 381 L (q.1.toList ++ st) q.2 := G_callv (k := 1) (p := 676) (ars := [.int x0, .int x1, .int x2]) f234_378 lkC_13_41 (by decide) (by decide +kernel) rfl (vcls_ob (ci := 10) (by decide) ho) (Nat.le_of_ble_eq_true rfl) hs rfl
theorem f234_381 : fetch 234 381 = some (.aload_n 2, 1) := vtab tk234_3 39 rfl
theorem e234_381 (l0 l1 : Option Value) (L : VL) (st : List Value) (h : VG) (x : Nat) : ev 234 381 (l0 :: l1 :: some (.ref x) :: L) (st) h = ev 234 382 (l0 :: l1 :: some (.ref x) :: L) (.ref x :: st) h := G_aload_n f234_381 rfl
theorem f234_382 : fetch 234 382 = some (.aload_n 0, 1) := vtab tk234_3 40 rfl
theorem e234_382 (L : VL) (st : List Value) (h : VG) (x : Nat) : ev 234 382 (some (.ref x) :: L) (st) h = ev 234 383 (some (.ref x) :: L) (.ref x :: st) h := G_aload_n f234_382 rfl
theorem f234_383 : fetch 234 383 = some (.iload_n 3, 1) := vtab tk234_3 41 rfl
theorem e234_383 (l0 l1 l2 : Option Value) (L : VL) (st : List Value) (h : VG) (x : Int32) : ev 234 383 (l0 :: l1 :: l2 :: some (.int x) :: L) (st) h = ev 234 384 (l0 :: l1 :: l2 :: some (.int x) :: L) (.int x :: st) h := G_iload_n f234_383 rfl
theorem f234_384 : fetch 234 384 = some (.iconst 1, 1) := vtab tk234_3 42 rfl
theorem e234_384 (L : VL) (st : List Value) (h : VG) : ev 234 384 L (st) h = ev 234 385 L (.int (1 : Int32) :: st) h := G_iconst f234_384 (by decide)
theorem f234_385 : fetch 234 385 = some (.iadd, 1) := vtab tk234_3 43 rfl
theorem e234_385 (L : VL) (st : List Value) (h : VG) (x y : Int32) : ev 234 385 L (.int y :: .int x :: st) h = ev 234 386 L (.int (x + y) :: st) h := G_iadd f234_385
theorem f234_386 : fetch 234 386 = some (.iaload, 1) := vtab tk234_3 44 rfl
theorem e234_386 (L : VL) (st : List Value) (h : VG) (a : Nat) (i : Int32) (ha : rdI h a) (hi : vp_in i (aln h a)) : ev 234 386 L (.int i :: .ref a :: st) h = ev 234 387 L (.int (aI h a i.toNatClampNeg) :: st) h := G_iald' f234_386 ha hi
theorem f234_387 : fetch 234 387 = some (.aload_n 0, 1) := vtab tk234_3 45 rfl
theorem e234_387 (L : VL) (st : List Value) (h : VG) (x : Nat) : ev 234 387 (some (.ref x) :: L) (st) h = ev 234 388 (some (.ref x) :: L) (.ref x :: st) h := G_aload_n f234_387 rfl
theorem f234_388 : fetch 234 388 = some (.iload_n 3, 1) := vtab tk234_3 46 rfl
theorem e234_388 (l0 l1 l2 : Option Value) (L : VL) (st : List Value) (h : VG) (x : Int32) : ev 234 388 (l0 :: l1 :: l2 :: some (.int x) :: L) (st) h = ev 234 389 (l0 :: l1 :: l2 :: some (.int x) :: L) (.int x :: st) h := G_iload_n f234_388 rfl
theorem f234_389 : fetch 234 389 = some (.iconst 2, 1) := vtab tk234_3 47 rfl
theorem e234_389 (L : VL) (st : List Value) (h : VG) : ev 234 389 L (st) h = ev 234 390 L (.int (2 : Int32) :: st) h := G_iconst f234_389 (by decide)
theorem f234_390 : fetch 234 390 = some (.iadd, 1) := vtab tk234_3 48 rfl
theorem e234_390 (L : VL) (st : List Value) (h : VG) (x y : Int32) : ev 234 390 L (.int y :: .int x :: st) h = ev 234 391 L (.int (x + y) :: st) h := G_iadd f234_390
theorem f234_391 : fetch 234 391 = some (.iaload, 1) := vtab tk234_3 49 rfl
theorem e234_391 (L : VL) (st : List Value) (h : VG) (a : Nat) (i : Int32) (ha : rdI h a) (hi : vp_in i (aln h a)) : ev 234 391 L (.int i :: .ref a :: st) h = ev 234 392 L (.int (aI h a i.toNatClampNeg) :: st) h := G_iald' f234_391 ha hi
theorem f234_392 : fetch 234 392 = some (.aload_n 0, 1) := vtab tk234_4 0 rfl
theorem e234_392 (L : VL) (st : List Value) (h : VG) (x : Nat) : ev 234 392 (some (.ref x) :: L) (st) h = ev 234 393 (some (.ref x) :: L) (.ref x :: st) h := G_aload_n f234_392 rfl
theorem f234_393 : fetch 234 393 = some (.iload_n 3, 1) := vtab tk234_4 1 rfl
theorem e234_393 (l0 l1 l2 : Option Value) (L : VL) (st : List Value) (h : VG) (x : Int32) : ev 234 393 (l0 :: l1 :: l2 :: some (.int x) :: L) (st) h = ev 234 394 (l0 :: l1 :: l2 :: some (.int x) :: L) (.int x :: st) h := G_iload_n f234_393 rfl
theorem f234_394 : fetch 234 394 = some (.iconst 3, 1) := vtab tk234_4 2 rfl
theorem e234_394 (L : VL) (st : List Value) (h : VG) : ev 234 394 L (st) h = ev 234 395 L (.int (3 : Int32) :: st) h := G_iconst f234_394 (by decide)
theorem f234_395 : fetch 234 395 = some (.iadd, 1) := vtab tk234_4 3 rfl
theorem e234_395 (L : VL) (st : List Value) (h : VG) (x y : Int32) : ev 234 395 L (.int y :: .int x :: st) h = ev 234 396 L (.int (x + y) :: st) h := G_iadd f234_395
theorem f234_396 : fetch 234 396 = some (.iaload, 1) := vtab tk234_4 4 rfl
theorem e234_396 (L : VL) (st : List Value) (h : VG) (a : Nat) (i : Int32) (ha : rdI h a) (hi : vp_in i (aln h a)) : ev 234 396 L (.int i :: .ref a :: st) h = ev 234 397 L (.int (aI h a i.toNatClampNeg) :: st) h := G_iald' f234_396 ha hi
theorem f234_397 : fetch 234 397 = some (.invokevirtual 45, 3) := vtab tk234_4 5 rfl
theorem e234_397 (L : VL) (st : List Value) (h : VG) (b : Nat) (x0 : Int32) (x1 : Int32) (x2 : Int32) (ho : ob h b 11) (hs : catS st ≤ 8) : ev 234 397 L (.int x2 :: .int x1 :: .int x0 :: .ref b :: st) h = (ev 176 0 [some (.ref b), some (.int x0), some (.int x1), some (.int x2), none, none, none, none, none, none, none, none, none] [] h).bind fun q => ev 234 400 L (q.1.toList ++ st) q.2 := G_callv (k := 1) (p := 1343) (ars := [.int x0, .int x1, .int x2]) f234_397 lkC_13_45 (by decide) (by decide +kernel) rfl (vcls_ob (ci := 11) (by decide) ho) (Nat.le_of_ble_eq_true rfl) hs rfl
theorem f234_400 : fetch 234 400 = some (.if_icmp .eq 1001, 3) := vtab tk234_4 6 rfl
theorem e234_400 (L : VL) (st : List Value) (h : VG) (x y : Int32) : ev 234 400 L (.int y :: .int x :: st) h = if x = y then ev 234 1401 L st h else ev 234 403 L st h := G_icmp_eq f234_400 (by decide)
theorem f234_403 : fetch 234 403 = some (.iconst 0, 1) := vtab tk234_4 7 rfl
theorem e234_403 (L : VL) (st : List Value) (h : VG) : ev 234 403 L (st) h = ev 234 404 L (.int (0 : Int32) :: st) h := G_iconst f234_403 (by decide)
theorem f234_404 : fetch 234 404 = some (.ireturn, 1) := vtab tk234_4 8 rfl
theorem e234_404 (L : VL) (h : VG) (x : Int32) (hz : x = 0 ∨ x = 1) : ev 234 404 L [.int x] h = some (some (.int x), h) := G_iret f234_404 (ty := .boolean) (by decide) (vbool hz).1
theorem f234_405 : fetch 234 405 = some (.aload_n 1, 1) := vtab tk234_4 9 rfl
theorem e234_405 (l0 : Option Value) (L : VL) (st : List Value) (h : VG) (x : Nat) : ev 234 405 (l0 :: some (.ref x) :: L) (st) h = ev 234 406 (l0 :: some (.ref x) :: L) (.ref x :: st) h := G_aload_n f234_405 rfl
theorem f234_406 : fetch 234 406 = some (.aload_n 0, 1) := vtab tk234_4 10 rfl
theorem e234_406 (L : VL) (st : List Value) (h : VG) (x : Nat) : ev 234 406 (some (.ref x) :: L) (st) h = ev 234 407 (some (.ref x) :: L) (.ref x :: st) h := G_aload_n f234_406 rfl
theorem f234_407 : fetch 234 407 = some (.iload_n 3, 1) := vtab tk234_4 11 rfl
theorem e234_407 (l0 l1 l2 : Option Value) (L : VL) (st : List Value) (h : VG) (x : Int32) : ev 234 407 (l0 :: l1 :: l2 :: some (.int x) :: L) (st) h = ev 234 408 (l0 :: l1 :: l2 :: some (.int x) :: L) (.int x :: st) h := G_iload_n f234_407 rfl
theorem f234_408 : fetch 234 408 = some (.iconst 1, 1) := vtab tk234_4 12 rfl
theorem e234_408 (L : VL) (st : List Value) (h : VG) : ev 234 408 L (st) h = ev 234 409 L (.int (1 : Int32) :: st) h := G_iconst f234_408 (by decide)
theorem f234_409 : fetch 234 409 = some (.iadd, 1) := vtab tk234_4 13 rfl
theorem e234_409 (L : VL) (st : List Value) (h : VG) (x y : Int32) : ev 234 409 L (.int y :: .int x :: st) h = ev 234 410 L (.int (x + y) :: st) h := G_iadd f234_409
theorem f234_410 : fetch 234 410 = some (.iaload, 1) := vtab tk234_4 14 rfl
theorem e234_410 (L : VL) (st : List Value) (h : VG) (a : Nat) (i : Int32) (ha : rdI h a) (hi : vp_in i (aln h a)) : ev 234 410 L (.int i :: .ref a :: st) h = ev 234 411 L (.int (aI h a i.toNatClampNeg) :: st) h := G_iald' f234_410 ha hi
theorem f234_411 : fetch 234 411 = some (.invokevirtual 46, 3) := vtab tk234_4 15 rfl
theorem e234_411 (L : VL) (st : List Value) (h : VG) (b : Nat) (x0 : Int32) (ho : ob h b 10) (hs : catS st ≤ 8) : ev 234 411 L (.int x0 :: .ref b :: st) h = (ev 108 0 [some (.ref b), some (.int x0)] [] h).bind fun q => ev 234 414 L (q.1.toList ++ st) q.2 := G_callv (k := 1) (p := 680) (ars := [.int x0]) f234_411 lkC_13_46 (by decide) (by decide +kernel) rfl (vcls_ob (ci := 10) (by decide) ho) (Nat.le_of_ble_eq_true rfl) hs rfl
theorem f234_414 : fetch 234 414 = some (.aload_n 2, 1) := vtab tk234_4 16 rfl
theorem e234_414 (l0 l1 : Option Value) (L : VL) (st : List Value) (h : VG) (x : Nat) : ev 234 414 (l0 :: l1 :: some (.ref x) :: L) (st) h = ev 234 415 (l0 :: l1 :: some (.ref x) :: L) (.ref x :: st) h := G_aload_n f234_414 rfl
theorem f234_415 : fetch 234 415 = some (.aload_n 0, 1) := vtab tk234_4 17 rfl
theorem e234_415 (L : VL) (st : List Value) (h : VG) (x : Nat) : ev 234 415 (some (.ref x) :: L) (st) h = ev 234 416 (some (.ref x) :: L) (.ref x :: st) h := G_aload_n f234_415 rfl
theorem f234_416 : fetch 234 416 = some (.iload_n 3, 1) := vtab tk234_4 18 rfl
theorem e234_416 (l0 l1 l2 : Option Value) (L : VL) (st : List Value) (h : VG) (x : Int32) : ev 234 416 (l0 :: l1 :: l2 :: some (.int x) :: L) (st) h = ev 234 417 (l0 :: l1 :: l2 :: some (.int x) :: L) (.int x :: st) h := G_iload_n f234_416 rfl
theorem f234_417 : fetch 234 417 = some (.iconst 1, 1) := vtab tk234_4 19 rfl
theorem e234_417 (L : VL) (st : List Value) (h : VG) : ev 234 417 L (st) h = ev 234 418 L (.int (1 : Int32) :: st) h := G_iconst f234_417 (by decide)
theorem f234_418 : fetch 234 418 = some (.iadd, 1) := vtab tk234_4 20 rfl
theorem e234_418 (L : VL) (st : List Value) (h : VG) (x y : Int32) : ev 234 418 L (.int y :: .int x :: st) h = ev 234 419 L (.int (x + y) :: st) h := G_iadd f234_418
theorem f234_419 : fetch 234 419 = some (.iaload, 1) := vtab tk234_4 21 rfl
theorem e234_419 (L : VL) (st : List Value) (h : VG) (a : Nat) (i : Int32) (ha : rdI h a) (hi : vp_in i (aln h a)) : ev 234 419 L (.int i :: .ref a :: st) h = ev 234 420 L (.int (aI h a i.toNatClampNeg) :: st) h := G_iald' f234_419 ha hi
theorem f234_420 : fetch 234 420 = some (.invokevirtual 49, 3) := vtab tk234_4 22 rfl
theorem e234_420 (L : VL) (st : List Value) (h : VG) (b : Nat) (x0 : Int32) (ho : ob h b 11) (hs : catS st ≤ 8) : ev 234 420 L (.int x0 :: .ref b :: st) h = (ev 222 0 [some (.ref b), some (.int x0)] [] h).bind fun q => ev 234 423 L (q.1.toList ++ st) q.2 := G_callv (k := 1) (p := 1543) (ars := [.int x0]) f234_420 lkC_13_49 (by decide) (by decide +kernel) rfl (vcls_ob (ci := 11) (by decide) ho) (Nat.le_of_ble_eq_true rfl) hs rfl
theorem f234_423 : fetch 234 423 = some (.if_icmp .eq 978, 3) := vtab tk234_4 23 rfl
theorem e234_423 (L : VL) (st : List Value) (h : VG) (x y : Int32) : ev 234 423 L (.int y :: .int x :: st) h = if x = y then ev 234 1401 L st h else ev 234 426 L st h := G_icmp_eq f234_423 (by decide)
theorem f234_426 : fetch 234 426 = some (.iconst 0, 1) := vtab tk234_4 24 rfl
theorem e234_426 (L : VL) (st : List Value) (h : VG) : ev 234 426 L (st) h = ev 234 427 L (.int (0 : Int32) :: st) h := G_iconst f234_426 (by decide)
theorem f234_427 : fetch 234 427 = some (.ireturn, 1) := vtab tk234_4 25 rfl
theorem e234_427 (L : VL) (h : VG) (x : Int32) (hz : x = 0 ∨ x = 1) : ev 234 427 L [.int x] h = some (some (.int x), h) := G_iret f234_427 (ty := .boolean) (by decide) (vbool hz).1
theorem f234_428 : fetch 234 428 = some (.aload_n 1, 1) := vtab tk234_4 26 rfl
theorem e234_428 (l0 : Option Value) (L : VL) (st : List Value) (h : VG) (x : Nat) : ev 234 428 (l0 :: some (.ref x) :: L) (st) h = ev 234 429 (l0 :: some (.ref x) :: L) (.ref x :: st) h := G_aload_n f234_428 rfl
theorem f234_429 : fetch 234 429 = some (.aload_n 0, 1) := vtab tk234_4 27 rfl
theorem e234_429 (L : VL) (st : List Value) (h : VG) (x : Nat) : ev 234 429 (some (.ref x) :: L) (st) h = ev 234 430 (some (.ref x) :: L) (.ref x :: st) h := G_aload_n f234_429 rfl
theorem f234_430 : fetch 234 430 = some (.iload_n 3, 1) := vtab tk234_4 28 rfl
theorem e234_430 (l0 l1 l2 : Option Value) (L : VL) (st : List Value) (h : VG) (x : Int32) : ev 234 430 (l0 :: l1 :: l2 :: some (.int x) :: L) (st) h = ev 234 431 (l0 :: l1 :: l2 :: some (.int x) :: L) (.int x :: st) h := G_iload_n f234_430 rfl
theorem f234_431 : fetch 234 431 = some (.iconst 1, 1) := vtab tk234_4 29 rfl
theorem e234_431 (L : VL) (st : List Value) (h : VG) : ev 234 431 L (st) h = ev 234 432 L (.int (1 : Int32) :: st) h := G_iconst f234_431 (by decide)
theorem f234_432 : fetch 234 432 = some (.iadd, 1) := vtab tk234_4 30 rfl
theorem e234_432 (L : VL) (st : List Value) (h : VG) (x y : Int32) : ev 234 432 L (.int y :: .int x :: st) h = ev 234 433 L (.int (x + y) :: st) h := G_iadd f234_432
theorem f234_433 : fetch 234 433 = some (.iaload, 1) := vtab tk234_4 31 rfl
theorem e234_433 (L : VL) (st : List Value) (h : VG) (a : Nat) (i : Int32) (ha : rdI h a) (hi : vp_in i (aln h a)) : ev 234 433 L (.int i :: .ref a :: st) h = ev 234 434 L (.int (aI h a i.toNatClampNeg) :: st) h := G_iald' f234_433 ha hi
theorem f234_434 : fetch 234 434 = some (.aload_n 0, 1) := vtab tk234_4 32 rfl
theorem e234_434 (L : VL) (st : List Value) (h : VG) (x : Nat) : ev 234 434 (some (.ref x) :: L) (st) h = ev 234 435 (some (.ref x) :: L) (.ref x :: st) h := G_aload_n f234_434 rfl
theorem f234_435 : fetch 234 435 = some (.iload_n 3, 1) := vtab tk234_4 33 rfl
theorem e234_435 (l0 l1 l2 : Option Value) (L : VL) (st : List Value) (h : VG) (x : Int32) : ev 234 435 (l0 :: l1 :: l2 :: some (.int x) :: L) (st) h = ev 234 436 (l0 :: l1 :: l2 :: some (.int x) :: L) (.int x :: st) h := G_iload_n f234_435 rfl
theorem f234_436 : fetch 234 436 = some (.iconst 2, 1) := vtab tk234_4 34 rfl
theorem e234_436 (L : VL) (st : List Value) (h : VG) : ev 234 436 L (st) h = ev 234 437 L (.int (2 : Int32) :: st) h := G_iconst f234_436 (by decide)
theorem f234_437 : fetch 234 437 = some (.iadd, 1) := vtab tk234_4 35 rfl
theorem e234_437 (L : VL) (st : List Value) (h : VG) (x y : Int32) : ev 234 437 L (.int y :: .int x :: st) h = ev 234 438 L (.int (x + y) :: st) h := G_iadd f234_437
theorem f234_438 : fetch 234 438 = some (.iaload, 1) := vtab tk234_4 36 rfl
theorem e234_438 (L : VL) (st : List Value) (h : VG) (a : Nat) (i : Int32) (ha : rdI h a) (hi : vp_in i (aln h a)) : ev 234 438 L (.int i :: .ref a :: st) h = ev 234 439 L (.int (aI h a i.toNatClampNeg) :: st) h := G_iald' f234_438 ha hi
theorem f234_439 : fetch 234 439 = some (.invokevirtual 50, 3) := vtab tk234_4 37 rfl
theorem e234_439 (L : VL) (st : List Value) (h : VG) (b : Nat) (x0 : Int32) (x1 : Int32) (ho : ob h b 10) (hs : catS st ≤ 8) : ev 234 439 L (.int x1 :: .int x0 :: .ref b :: st) h = (ev 109 0 [some (.ref b), some (.int x0), some (.int x1)] [] h).bind fun q => ev 234 442 L (q.1.toList ++ st) q.2 := G_callv (k := 1) (p := 684) (ars := [.int x0, .int x1]) f234_439 lkC_13_50 (by decide) (by decide +kernel) rfl (vcls_ob (ci := 10) (by decide) ho) (Nat.le_of_ble_eq_true rfl) hs rfl
theorem f234_442 : fetch 234 442 = some (.aload_n 2, 1) := vtab tk234_4 38 rfl
theorem e234_442 (l0 l1 : Option Value) (L : VL) (st : List Value) (h : VG) (x : Nat) : ev 234 442 (l0 :: l1 :: some (.ref x) :: L) (st) h = ev 234 443 (l0 :: l1 :: some (.ref x) :: L) (.ref x :: st) h := G_aload_n f234_442 rfl
theorem f234_443 : fetch 234 443 = some (.aload_n 0, 1) := vtab tk234_4 39 rfl
theorem e234_443 (L : VL) (st : List Value) (h : VG) (x : Nat) : ev 234 443 (some (.ref x) :: L) (st) h = ev 234 444 (some (.ref x) :: L) (.ref x :: st) h := G_aload_n f234_443 rfl
theorem f234_444 : fetch 234 444 = some (.iload_n 3, 1) := vtab tk234_4 40 rfl
theorem e234_444 (l0 l1 l2 : Option Value) (L : VL) (st : List Value) (h : VG) (x : Int32) : ev 234 444 (l0 :: l1 :: l2 :: some (.int x) :: L) (st) h = ev 234 445 (l0 :: l1 :: l2 :: some (.int x) :: L) (.int x :: st) h := G_iload_n f234_444 rfl
theorem f234_445 : fetch 234 445 = some (.iconst 1, 1) := vtab tk234_4 41 rfl
theorem e234_445 (L : VL) (st : List Value) (h : VG) : ev 234 445 L (st) h = ev 234 446 L (.int (1 : Int32) :: st) h := G_iconst f234_445 (by decide)
theorem f234_446 : fetch 234 446 = some (.iadd, 1) := vtab tk234_4 42 rfl
theorem e234_446 (L : VL) (st : List Value) (h : VG) (x y : Int32) : ev 234 446 L (.int y :: .int x :: st) h = ev 234 447 L (.int (x + y) :: st) h := G_iadd f234_446
theorem f234_447 : fetch 234 447 = some (.iaload, 1) := vtab tk234_4 43 rfl
theorem e234_447 (L : VL) (st : List Value) (h : VG) (a : Nat) (i : Int32) (ha : rdI h a) (hi : vp_in i (aln h a)) : ev 234 447 L (.int i :: .ref a :: st) h = ev 234 448 L (.int (aI h a i.toNatClampNeg) :: st) h := G_iald' f234_447 ha hi
theorem f234_448 : fetch 234 448 = some (.aload_n 0, 1) := vtab tk234_4 44 rfl
theorem e234_448 (L : VL) (st : List Value) (h : VG) (x : Nat) : ev 234 448 (some (.ref x) :: L) (st) h = ev 234 449 (some (.ref x) :: L) (.ref x :: st) h := G_aload_n f234_448 rfl
theorem f234_449 : fetch 234 449 = some (.iload_n 3, 1) := vtab tk234_4 45 rfl
theorem e234_449 (l0 l1 l2 : Option Value) (L : VL) (st : List Value) (h : VG) (x : Int32) : ev 234 449 (l0 :: l1 :: l2 :: some (.int x) :: L) (st) h = ev 234 450 (l0 :: l1 :: l2 :: some (.int x) :: L) (.int x :: st) h := G_iload_n f234_449 rfl
theorem f234_450 : fetch 234 450 = some (.iconst 2, 1) := vtab tk234_4 46 rfl
theorem e234_450 (L : VL) (st : List Value) (h : VG) : ev 234 450 L (st) h = ev 234 451 L (.int (2 : Int32) :: st) h := G_iconst f234_450 (by decide)
theorem f234_451 : fetch 234 451 = some (.iadd, 1) := vtab tk234_4 47 rfl
theorem e234_451 (L : VL) (st : List Value) (h : VG) (x y : Int32) : ev 234 451 L (.int y :: .int x :: st) h = ev 234 452 L (.int (x + y) :: st) h := G_iadd f234_451
theorem f234_452 : fetch 234 452 = some (.iaload, 1) := vtab tk234_4 48 rfl
theorem e234_452 (L : VL) (st : List Value) (h : VG) (a : Nat) (i : Int32) (ha : rdI h a) (hi : vp_in i (aln h a)) : ev 234 452 L (.int i :: .ref a :: st) h = ev 234 453 L (.int (aI h a i.toNatClampNeg) :: st) h := G_iald' f234_452 ha hi
theorem f234_453 : fetch 234 453 = some (.invokevirtual 54, 3) := vtab tk234_4 49 rfl
theorem e234_453 (L : VL) (st : List Value) (h : VG) (b : Nat) (x0 : Int32) (x1 : Int32) (ho : ob h b 11) (hs : catS st ≤ 8) : ev 234 453 L (.int x1 :: .int x0 :: .ref b :: st) h = (ev 223 0 [some (.ref b), some (.int x0), some (.int x1)] [] h).bind fun q => ev 234 456 L (q.1.toList ++ st) q.2 := G_callv (k := 1) (p := 1547) (ars := [.int x0, .int x1]) f234_453 lkC_13_54 (by decide) (by decide +kernel) rfl (vcls_ob (ci := 11) (by decide) ho) (Nat.le_of_ble_eq_true rfl) hs rfl
theorem f234_456 : fetch 234 456 = some (.if_icmp .eq 945, 3) := vtab tk234_5 0 rfl
theorem e234_456 (L : VL) (st : List Value) (h : VG) (x y : Int32) : ev 234 456 L (.int y :: .int x :: st) h = if x = y then ev 234 1401 L st h else ev 234 459 L st h := G_icmp_eq f234_456 (by decide)
theorem f234_459 : fetch 234 459 = some (.iconst 0, 1) := vtab tk234_5 1 rfl
theorem e234_459 (L : VL) (st : List Value) (h : VG) : ev 234 459 L (st) h = ev 234 460 L (.int (0 : Int32) :: st) h := G_iconst f234_459 (by decide)
theorem f234_460 : fetch 234 460 = some (.ireturn, 1) := vtab tk234_5 2 rfl
theorem e234_460 (L : VL) (h : VG) (x : Int32) (hz : x = 0 ∨ x = 1) : ev 234 460 L [.int x] h = some (some (.int x), h) := G_iret f234_460 (ty := .boolean) (by decide) (vbool hz).1
theorem f234_461 : fetch 234 461 = some (.aload_n 1, 1) := vtab tk234_5 3 rfl
theorem e234_461 (l0 : Option Value) (L : VL) (st : List Value) (h : VG) (x : Nat) : ev 234 461 (l0 :: some (.ref x) :: L) (st) h = ev 234 462 (l0 :: some (.ref x) :: L) (.ref x :: st) h := G_aload_n f234_461 rfl
theorem f234_462 : fetch 234 462 = some (.aload_n 0, 1) := vtab tk234_5 4 rfl
theorem e234_462 (L : VL) (st : List Value) (h : VG) (x : Nat) : ev 234 462 (some (.ref x) :: L) (st) h = ev 234 463 (some (.ref x) :: L) (.ref x :: st) h := G_aload_n f234_462 rfl
theorem f234_463 : fetch 234 463 = some (.iload_n 3, 1) := vtab tk234_5 5 rfl
theorem e234_463 (l0 l1 l2 : Option Value) (L : VL) (st : List Value) (h : VG) (x : Int32) : ev 234 463 (l0 :: l1 :: l2 :: some (.int x) :: L) (st) h = ev 234 464 (l0 :: l1 :: l2 :: some (.int x) :: L) (.int x :: st) h := G_iload_n f234_463 rfl
theorem f234_464 : fetch 234 464 = some (.iconst 1, 1) := vtab tk234_5 6 rfl
theorem e234_464 (L : VL) (st : List Value) (h : VG) : ev 234 464 L (st) h = ev 234 465 L (.int (1 : Int32) :: st) h := G_iconst f234_464 (by decide)
theorem f234_465 : fetch 234 465 = some (.iadd, 1) := vtab tk234_5 7 rfl
theorem e234_465 (L : VL) (st : List Value) (h : VG) (x y : Int32) : ev 234 465 L (.int y :: .int x :: st) h = ev 234 466 L (.int (x + y) :: st) h := G_iadd f234_465
theorem f234_466 : fetch 234 466 = some (.iaload, 1) := vtab tk234_5 8 rfl
theorem e234_466 (L : VL) (st : List Value) (h : VG) (a : Nat) (i : Int32) (ha : rdI h a) (hi : vp_in i (aln h a)) : ev 234 466 L (.int i :: .ref a :: st) h = ev 234 467 L (.int (aI h a i.toNatClampNeg) :: st) h := G_iald' f234_466 ha hi
theorem f234_467 : fetch 234 467 = some (.aload_n 0, 1) := vtab tk234_5 9 rfl
theorem e234_467 (L : VL) (st : List Value) (h : VG) (x : Nat) : ev 234 467 (some (.ref x) :: L) (st) h = ev 234 468 (some (.ref x) :: L) (.ref x :: st) h := G_aload_n f234_467 rfl
theorem f234_468 : fetch 234 468 = some (.iload_n 3, 1) := vtab tk234_5 10 rfl
theorem e234_468 (l0 l1 l2 : Option Value) (L : VL) (st : List Value) (h : VG) (x : Int32) : ev 234 468 (l0 :: l1 :: l2 :: some (.int x) :: L) (st) h = ev 234 469 (l0 :: l1 :: l2 :: some (.int x) :: L) (.int x :: st) h := G_iload_n f234_468 rfl
theorem f234_469 : fetch 234 469 = some (.iconst 2, 1) := vtab tk234_5 11 rfl
theorem e234_469 (L : VL) (st : List Value) (h : VG) : ev 234 469 L (st) h = ev 234 470 L (.int (2 : Int32) :: st) h := G_iconst f234_469 (by decide)
theorem f234_470 : fetch 234 470 = some (.iadd, 1) := vtab tk234_5 12 rfl
theorem e234_470 (L : VL) (st : List Value) (h : VG) (x y : Int32) : ev 234 470 L (.int y :: .int x :: st) h = ev 234 471 L (.int (x + y) :: st) h := G_iadd f234_470
theorem f234_471 : fetch 234 471 = some (.iaload, 1) := vtab tk234_5 13 rfl
theorem e234_471 (L : VL) (st : List Value) (h : VG) (a : Nat) (i : Int32) (ha : rdI h a) (hi : vp_in i (aln h a)) : ev 234 471 L (.int i :: .ref a :: st) h = ev 234 472 L (.int (aI h a i.toNatClampNeg) :: st) h := G_iald' f234_471 ha hi
theorem f234_472 : fetch 234 472 = some (.aload_n 0, 1) := vtab tk234_5 14 rfl
theorem e234_472 (L : VL) (st : List Value) (h : VG) (x : Nat) : ev 234 472 (some (.ref x) :: L) (st) h = ev 234 473 (some (.ref x) :: L) (.ref x :: st) h := G_aload_n f234_472 rfl
theorem f234_473 : fetch 234 473 = some (.iload_n 3, 1) := vtab tk234_5 15 rfl
theorem e234_473 (l0 l1 l2 : Option Value) (L : VL) (st : List Value) (h : VG) (x : Int32) : ev 234 473 (l0 :: l1 :: l2 :: some (.int x) :: L) (st) h = ev 234 474 (l0 :: l1 :: l2 :: some (.int x) :: L) (.int x :: st) h := G_iload_n f234_473 rfl
theorem f234_474 : fetch 234 474 = some (.iconst 3, 1) := vtab tk234_5 16 rfl
theorem e234_474 (L : VL) (st : List Value) (h : VG) : ev 234 474 L (st) h = ev 234 475 L (.int (3 : Int32) :: st) h := G_iconst f234_474 (by decide)
theorem f234_475 : fetch 234 475 = some (.iadd, 1) := vtab tk234_5 17 rfl
theorem e234_475 (L : VL) (st : List Value) (h : VG) (x y : Int32) : ev 234 475 L (.int y :: .int x :: st) h = ev 234 476 L (.int (x + y) :: st) h := G_iadd f234_475
theorem f234_476 : fetch 234 476 = some (.iaload, 1) := vtab tk234_5 18 rfl
theorem e234_476 (L : VL) (st : List Value) (h : VG) (a : Nat) (i : Int32) (ha : rdI h a) (hi : vp_in i (aln h a)) : ev 234 476 L (.int i :: .ref a :: st) h = ev 234 477 L (.int (aI h a i.toNatClampNeg) :: st) h := G_iald' f234_476 ha hi
theorem f234_477 : fetch 234 477 = some (.invokevirtual 55, 3) := vtab tk234_5 19 rfl
theorem e234_477 (L : VL) (st : List Value) (h : VG) (b : Nat) (x0 : Int32) (x1 : Int32) (x2 : Int32) (ho : ob h b 10) (hs : catS st ≤ 8) : ev 234 477 L (.int x2 :: .int x1 :: .int x0 :: .ref b :: st) h = (ev 110 0 [some (.ref b), some (.int x0), some (.int x1), some (.int x2), none] [] h).bind fun q => ev 234 480 L (q.1.toList ++ st) q.2 := G_callv (k := 1) (p := 696) (ars := [.int x0, .int x1, .int x2]) f234_477 lkC_13_55 (by decide) (by decide +kernel) rfl (vcls_ob (ci := 10) (by decide) ho) (Nat.le_of_ble_eq_true rfl) hs rfl
theorem f234_480 : fetch 234 480 = some (.aload_n 2, 1) := vtab tk234_5 20 rfl
theorem e234_480 (l0 l1 : Option Value) (L : VL) (st : List Value) (h : VG) (x : Nat) : ev 234 480 (l0 :: l1 :: some (.ref x) :: L) (st) h = ev 234 481 (l0 :: l1 :: some (.ref x) :: L) (.ref x :: st) h := G_aload_n f234_480 rfl
theorem f234_481 : fetch 234 481 = some (.aload_n 0, 1) := vtab tk234_5 21 rfl
theorem e234_481 (L : VL) (st : List Value) (h : VG) (x : Nat) : ev 234 481 (some (.ref x) :: L) (st) h = ev 234 482 (some (.ref x) :: L) (.ref x :: st) h := G_aload_n f234_481 rfl
theorem f234_482 : fetch 234 482 = some (.iload_n 3, 1) := vtab tk234_5 22 rfl
theorem e234_482 (l0 l1 l2 : Option Value) (L : VL) (st : List Value) (h : VG) (x : Int32) : ev 234 482 (l0 :: l1 :: l2 :: some (.int x) :: L) (st) h = ev 234 483 (l0 :: l1 :: l2 :: some (.int x) :: L) (.int x :: st) h := G_iload_n f234_482 rfl
theorem f234_483 : fetch 234 483 = some (.iconst 1, 1) := vtab tk234_5 23 rfl
theorem e234_483 (L : VL) (st : List Value) (h : VG) : ev 234 483 L (st) h = ev 234 484 L (.int (1 : Int32) :: st) h := G_iconst f234_483 (by decide)
theorem f234_484 : fetch 234 484 = some (.iadd, 1) := vtab tk234_5 24 rfl
theorem e234_484 (L : VL) (st : List Value) (h : VG) (x y : Int32) : ev 234 484 L (.int y :: .int x :: st) h = ev 234 485 L (.int (x + y) :: st) h := G_iadd f234_484
theorem f234_485 : fetch 234 485 = some (.iaload, 1) := vtab tk234_5 25 rfl
theorem e234_485 (L : VL) (st : List Value) (h : VG) (a : Nat) (i : Int32) (ha : rdI h a) (hi : vp_in i (aln h a)) : ev 234 485 L (.int i :: .ref a :: st) h = ev 234 486 L (.int (aI h a i.toNatClampNeg) :: st) h := G_iald' f234_485 ha hi
theorem f234_486 : fetch 234 486 = some (.aload_n 0, 1) := vtab tk234_5 26 rfl
theorem e234_486 (L : VL) (st : List Value) (h : VG) (x : Nat) : ev 234 486 (some (.ref x) :: L) (st) h = ev 234 487 (some (.ref x) :: L) (.ref x :: st) h := G_aload_n f234_486 rfl
theorem f234_487 : fetch 234 487 = some (.iload_n 3, 1) := vtab tk234_5 27 rfl
theorem e234_487 (l0 l1 l2 : Option Value) (L : VL) (st : List Value) (h : VG) (x : Int32) : ev 234 487 (l0 :: l1 :: l2 :: some (.int x) :: L) (st) h = ev 234 488 (l0 :: l1 :: l2 :: some (.int x) :: L) (.int x :: st) h := G_iload_n f234_487 rfl
theorem f234_488 : fetch 234 488 = some (.iconst 2, 1) := vtab tk234_5 28 rfl
theorem e234_488 (L : VL) (st : List Value) (h : VG) : ev 234 488 L (st) h = ev 234 489 L (.int (2 : Int32) :: st) h := G_iconst f234_488 (by decide)
theorem f234_489 : fetch 234 489 = some (.iadd, 1) := vtab tk234_5 29 rfl
theorem e234_489 (L : VL) (st : List Value) (h : VG) (x y : Int32) : ev 234 489 L (.int y :: .int x :: st) h = ev 234 490 L (.int (x + y) :: st) h := G_iadd f234_489
theorem f234_490 : fetch 234 490 = some (.iaload, 1) := vtab tk234_5 30 rfl
theorem e234_490 (L : VL) (st : List Value) (h : VG) (a : Nat) (i : Int32) (ha : rdI h a) (hi : vp_in i (aln h a)) : ev 234 490 L (.int i :: .ref a :: st) h = ev 234 491 L (.int (aI h a i.toNatClampNeg) :: st) h := G_iald' f234_490 ha hi
theorem f234_491 : fetch 234 491 = some (.aload_n 0, 1) := vtab tk234_5 31 rfl
theorem e234_491 (L : VL) (st : List Value) (h : VG) (x : Nat) : ev 234 491 (some (.ref x) :: L) (st) h = ev 234 492 (some (.ref x) :: L) (.ref x :: st) h := G_aload_n f234_491 rfl
theorem f234_492 : fetch 234 492 = some (.iload_n 3, 1) := vtab tk234_5 32 rfl
theorem e234_492 (l0 l1 l2 : Option Value) (L : VL) (st : List Value) (h : VG) (x : Int32) : ev 234 492 (l0 :: l1 :: l2 :: some (.int x) :: L) (st) h = ev 234 493 (l0 :: l1 :: l2 :: some (.int x) :: L) (.int x :: st) h := G_iload_n f234_492 rfl
theorem f234_493 : fetch 234 493 = some (.iconst 3, 1) := vtab tk234_5 33 rfl
theorem e234_493 (L : VL) (st : List Value) (h : VG) : ev 234 493 L (st) h = ev 234 494 L (.int (3 : Int32) :: st) h := G_iconst f234_493 (by decide)
theorem f234_494 : fetch 234 494 = some (.iadd, 1) := vtab tk234_5 34 rfl
theorem e234_494 (L : VL) (st : List Value) (h : VG) (x y : Int32) : ev 234 494 L (.int y :: .int x :: st) h = ev 234 495 L (.int (x + y) :: st) h := G_iadd f234_494
theorem f234_495 : fetch 234 495 = some (.iaload, 1) := vtab tk234_5 35 rfl
theorem e234_495 (L : VL) (st : List Value) (h : VG) (a : Nat) (i : Int32) (ha : rdI h a) (hi : vp_in i (aln h a)) : ev 234 495 L (.int i :: .ref a :: st) h = ev 234 496 L (.int (aI h a i.toNatClampNeg) :: st) h := G_iald' f234_495 ha hi
theorem f234_496 : fetch 234 496 = some (.invokevirtual 59, 3) := vtab tk234_5 36 rfl
theorem e234_496 (L : VL) (st : List Value) (h : VG) (b : Nat) (x0 : Int32) (x1 : Int32) (x2 : Int32) (ho : ob h b 11) (hs : catS st ≤ 8) : ev 234 496 L (.int x2 :: .int x1 :: .int x0 :: .ref b :: st) h = (ev 183 0 [some (.ref b), some (.int x0), some (.int x1), some (.int x2), none] [] h).bind fun q => ev 234 499 L (q.1.toList ++ st) q.2 := G_callv (k := 1) (p := 1355) (ars := [.int x0, .int x1, .int x2]) f234_496 lkC_13_59 (by decide) (by decide +kernel) rfl (vcls_ob (ci := 11) (by decide) ho) (Nat.le_of_ble_eq_true rfl) hs rfl
theorem f234_499 : fetch 234 499 = some (.if_icmp .eq 902, 3) := vtab tk234_5 37 rfl
theorem e234_499 (L : VL) (st : List Value) (h : VG) (x y : Int32) : ev 234 499 L (.int y :: .int x :: st) h = if x = y then ev 234 1401 L st h else ev 234 502 L st h := G_icmp_eq f234_499 (by decide)
theorem f234_502 : fetch 234 502 = some (.iconst 0, 1) := vtab tk234_5 38 rfl
theorem e234_502 (L : VL) (st : List Value) (h : VG) : ev 234 502 L (st) h = ev 234 503 L (.int (0 : Int32) :: st) h := G_iconst f234_502 (by decide)
theorem f234_503 : fetch 234 503 = some (.ireturn, 1) := vtab tk234_5 39 rfl
theorem e234_503 (L : VL) (h : VG) (x : Int32) (hz : x = 0 ∨ x = 1) : ev 234 503 L [.int x] h = some (some (.int x), h) := G_iret f234_503 (ty := .boolean) (by decide) (vbool hz).1
theorem f234_504 : fetch 234 504 = some (.aload_n 1, 1) := vtab tk234_5 40 rfl
theorem e234_504 (l0 : Option Value) (L : VL) (st : List Value) (h : VG) (x : Nat) : ev 234 504 (l0 :: some (.ref x) :: L) (st) h = ev 234 505 (l0 :: some (.ref x) :: L) (.ref x :: st) h := G_aload_n f234_504 rfl
theorem f234_505 : fetch 234 505 = some (.aload_n 0, 1) := vtab tk234_5 41 rfl
theorem e234_505 (L : VL) (st : List Value) (h : VG) (x : Nat) : ev 234 505 (some (.ref x) :: L) (st) h = ev 234 506 (some (.ref x) :: L) (.ref x :: st) h := G_aload_n f234_505 rfl
theorem f234_506 : fetch 234 506 = some (.iload_n 3, 1) := vtab tk234_5 42 rfl
theorem e234_506 (l0 l1 l2 : Option Value) (L : VL) (st : List Value) (h : VG) (x : Int32) : ev 234 506 (l0 :: l1 :: l2 :: some (.int x) :: L) (st) h = ev 234 507 (l0 :: l1 :: l2 :: some (.int x) :: L) (.int x :: st) h := G_iload_n f234_506 rfl
theorem f234_507 : fetch 234 507 = some (.iconst 1, 1) := vtab tk234_5 43 rfl
theorem e234_507 (L : VL) (st : List Value) (h : VG) : ev 234 507 L (st) h = ev 234 508 L (.int (1 : Int32) :: st) h := G_iconst f234_507 (by decide)
theorem f234_508 : fetch 234 508 = some (.iadd, 1) := vtab tk234_5 44 rfl
theorem e234_508 (L : VL) (st : List Value) (h : VG) (x y : Int32) : ev 234 508 L (.int y :: .int x :: st) h = ev 234 509 L (.int (x + y) :: st) h := G_iadd f234_508
theorem f234_509 : fetch 234 509 = some (.iaload, 1) := vtab tk234_5 45 rfl
theorem e234_509 (L : VL) (st : List Value) (h : VG) (a : Nat) (i : Int32) (ha : rdI h a) (hi : vp_in i (aln h a)) : ev 234 509 L (.int i :: .ref a :: st) h = ev 234 510 L (.int (aI h a i.toNatClampNeg) :: st) h := G_iald' f234_509 ha hi
theorem f234_510 : fetch 234 510 = some (.invokevirtual 60, 3) := vtab tk234_5 46 rfl
theorem e234_510 (L : VL) (st : List Value) (h : VG) (b : Nat) (x0 : Int32) (ho : ob h b 10) (hs : catS st ≤ 8) : ev 234 510 L (.int x0 :: .ref b :: st) h = (ev 111 0 [some (.ref b), some (.int x0)] [] h).bind fun q => ev 234 513 L (q.1.toList ++ st) q.2 := G_callv (k := 1) (p := 704) (ars := [.int x0]) f234_510 lkC_13_60 (by decide) (by decide +kernel) rfl (vcls_ob (ci := 10) (by decide) ho) (Nat.le_of_ble_eq_true rfl) hs rfl
theorem f234_513 : fetch 234 513 = some (.aload_n 2, 1) := vtab tk234_5 47 rfl
theorem e234_513 (l0 l1 : Option Value) (L : VL) (st : List Value) (h : VG) (x : Nat) : ev 234 513 (l0 :: l1 :: some (.ref x) :: L) (st) h = ev 234 514 (l0 :: l1 :: some (.ref x) :: L) (.ref x :: st) h := G_aload_n f234_513 rfl
theorem f234_514 : fetch 234 514 = some (.aload_n 0, 1) := vtab tk234_5 48 rfl
theorem e234_514 (L : VL) (st : List Value) (h : VG) (x : Nat) : ev 234 514 (some (.ref x) :: L) (st) h = ev 234 515 (some (.ref x) :: L) (.ref x :: st) h := G_aload_n f234_514 rfl
theorem f234_515 : fetch 234 515 = some (.iload_n 3, 1) := vtab tk234_5 49 rfl
theorem e234_515 (l0 l1 l2 : Option Value) (L : VL) (st : List Value) (h : VG) (x : Int32) : ev 234 515 (l0 :: l1 :: l2 :: some (.int x) :: L) (st) h = ev 234 516 (l0 :: l1 :: l2 :: some (.int x) :: L) (.int x :: st) h := G_iload_n f234_515 rfl
theorem f234_516 : fetch 234 516 = some (.iconst 1, 1) := vtab tk234_6 0 rfl
theorem e234_516 (L : VL) (st : List Value) (h : VG) : ev 234 516 L (st) h = ev 234 517 L (.int (1 : Int32) :: st) h := G_iconst f234_516 (by decide)
theorem f234_517 : fetch 234 517 = some (.iadd, 1) := vtab tk234_6 1 rfl
theorem e234_517 (L : VL) (st : List Value) (h : VG) (x y : Int32) : ev 234 517 L (.int y :: .int x :: st) h = ev 234 518 L (.int (x + y) :: st) h := G_iadd f234_517
theorem f234_518 : fetch 234 518 = some (.iaload, 1) := vtab tk234_6 2 rfl
theorem e234_518 (L : VL) (st : List Value) (h : VG) (a : Nat) (i : Int32) (ha : rdI h a) (hi : vp_in i (aln h a)) : ev 234 518 L (.int i :: .ref a :: st) h = ev 234 519 L (.int (aI h a i.toNatClampNeg) :: st) h := G_iald' f234_518 ha hi
theorem f234_519 : fetch 234 519 = some (.invokevirtual 63, 3) := vtab tk234_6 3 rfl
theorem e234_519 (L : VL) (st : List Value) (h : VG) (b : Nat) (x0 : Int32) (ho : ob h b 11) (hs : catS st ≤ 8) : ev 234 519 L (.int x0 :: .ref b :: st) h = (ev 190 0 [some (.ref b), some (.int x0)] [] h).bind fun q => ev 234 522 L (q.1.toList ++ st) q.2 := G_callv (k := 1) (p := 1362) (ars := [.int x0]) f234_519 lkC_13_63 (by decide) (by decide +kernel) rfl (vcls_ob (ci := 11) (by decide) ho) (Nat.le_of_ble_eq_true rfl) hs rfl
theorem f234_522 : fetch 234 522 = some (.if_icmp .eq 879, 3) := vtab tk234_6 4 rfl
theorem e234_522 (L : VL) (st : List Value) (h : VG) (x y : Int32) : ev 234 522 L (.int y :: .int x :: st) h = if x = y then ev 234 1401 L st h else ev 234 525 L st h := G_icmp_eq f234_522 (by decide)
theorem f234_525 : fetch 234 525 = some (.iconst 0, 1) := vtab tk234_6 5 rfl
theorem e234_525 (L : VL) (st : List Value) (h : VG) : ev 234 525 L (st) h = ev 234 526 L (.int (0 : Int32) :: st) h := G_iconst f234_525 (by decide)
theorem f234_526 : fetch 234 526 = some (.ireturn, 1) := vtab tk234_6 6 rfl
theorem e234_526 (L : VL) (h : VG) (x : Int32) (hz : x = 0 ∨ x = 1) : ev 234 526 L [.int x] h = some (some (.int x), h) := G_iret f234_526 (ty := .boolean) (by decide) (vbool hz).1
theorem f234_527 : fetch 234 527 = some (.aload_n 1, 1) := vtab tk234_6 7 rfl
theorem e234_527 (l0 : Option Value) (L : VL) (st : List Value) (h : VG) (x : Nat) : ev 234 527 (l0 :: some (.ref x) :: L) (st) h = ev 234 528 (l0 :: some (.ref x) :: L) (.ref x :: st) h := G_aload_n f234_527 rfl
theorem f234_528 : fetch 234 528 = some (.aload_n 0, 1) := vtab tk234_6 8 rfl
theorem e234_528 (L : VL) (st : List Value) (h : VG) (x : Nat) : ev 234 528 (some (.ref x) :: L) (st) h = ev 234 529 (some (.ref x) :: L) (.ref x :: st) h := G_aload_n f234_528 rfl
theorem f234_529 : fetch 234 529 = some (.iload_n 3, 1) := vtab tk234_6 9 rfl
theorem e234_529 (l0 l1 l2 : Option Value) (L : VL) (st : List Value) (h : VG) (x : Int32) : ev 234 529 (l0 :: l1 :: l2 :: some (.int x) :: L) (st) h = ev 234 530 (l0 :: l1 :: l2 :: some (.int x) :: L) (.int x :: st) h := G_iload_n f234_529 rfl
theorem f234_530 : fetch 234 530 = some (.iconst 1, 1) := vtab tk234_6 10 rfl
theorem e234_530 (L : VL) (st : List Value) (h : VG) : ev 234 530 L (st) h = ev 234 531 L (.int (1 : Int32) :: st) h := G_iconst f234_530 (by decide)
theorem f234_531 : fetch 234 531 = some (.iadd, 1) := vtab tk234_6 11 rfl
theorem e234_531 (L : VL) (st : List Value) (h : VG) (x y : Int32) : ev 234 531 L (.int y :: .int x :: st) h = ev 234 532 L (.int (x + y) :: st) h := G_iadd f234_531
theorem f234_532 : fetch 234 532 = some (.iaload, 1) := vtab tk234_6 12 rfl
theorem e234_532 (L : VL) (st : List Value) (h : VG) (a : Nat) (i : Int32) (ha : rdI h a) (hi : vp_in i (aln h a)) : ev 234 532 L (.int i :: .ref a :: st) h = ev 234 533 L (.int (aI h a i.toNatClampNeg) :: st) h := G_iald' f234_532 ha hi
theorem f234_533 : fetch 234 533 = some (.aload_n 0, 1) := vtab tk234_6 13 rfl
theorem e234_533 (L : VL) (st : List Value) (h : VG) (x : Nat) : ev 234 533 (some (.ref x) :: L) (st) h = ev 234 534 (some (.ref x) :: L) (.ref x :: st) h := G_aload_n f234_533 rfl
theorem f234_534 : fetch 234 534 = some (.iload_n 3, 1) := vtab tk234_6 14 rfl
theorem e234_534 (l0 l1 l2 : Option Value) (L : VL) (st : List Value) (h : VG) (x : Int32) : ev 234 534 (l0 :: l1 :: l2 :: some (.int x) :: L) (st) h = ev 234 535 (l0 :: l1 :: l2 :: some (.int x) :: L) (.int x :: st) h := G_iload_n f234_534 rfl
theorem f234_535 : fetch 234 535 = some (.iconst 2, 1) := vtab tk234_6 15 rfl
theorem e234_535 (L : VL) (st : List Value) (h : VG) : ev 234 535 L (st) h = ev 234 536 L (.int (2 : Int32) :: st) h := G_iconst f234_535 (by decide)
theorem f234_536 : fetch 234 536 = some (.iadd, 1) := vtab tk234_6 16 rfl
theorem e234_536 (L : VL) (st : List Value) (h : VG) (x y : Int32) : ev 234 536 L (.int y :: .int x :: st) h = ev 234 537 L (.int (x + y) :: st) h := G_iadd f234_536
theorem f234_537 : fetch 234 537 = some (.iaload, 1) := vtab tk234_6 17 rfl
theorem e234_537 (L : VL) (st : List Value) (h : VG) (a : Nat) (i : Int32) (ha : rdI h a) (hi : vp_in i (aln h a)) : ev 234 537 L (.int i :: .ref a :: st) h = ev 234 538 L (.int (aI h a i.toNatClampNeg) :: st) h := G_iald' f234_537 ha hi
theorem f234_538 : fetch 234 538 = some (.aload_n 0, 1) := vtab tk234_6 18 rfl
theorem e234_538 (L : VL) (st : List Value) (h : VG) (x : Nat) : ev 234 538 (some (.ref x) :: L) (st) h = ev 234 539 (some (.ref x) :: L) (.ref x :: st) h := G_aload_n f234_538 rfl
theorem f234_539 : fetch 234 539 = some (.iload_n 3, 1) := vtab tk234_6 19 rfl
theorem e234_539 (l0 l1 l2 : Option Value) (L : VL) (st : List Value) (h : VG) (x : Int32) : ev 234 539 (l0 :: l1 :: l2 :: some (.int x) :: L) (st) h = ev 234 540 (l0 :: l1 :: l2 :: some (.int x) :: L) (.int x :: st) h := G_iload_n f234_539 rfl
theorem f234_540 : fetch 234 540 = some (.iconst 3, 1) := vtab tk234_6 20 rfl
theorem e234_540 (L : VL) (st : List Value) (h : VG) : ev 234 540 L (st) h = ev 234 541 L (.int (3 : Int32) :: st) h := G_iconst f234_540 (by decide)
theorem f234_541 : fetch 234 541 = some (.iadd, 1) := vtab tk234_6 21 rfl
theorem e234_541 (L : VL) (st : List Value) (h : VG) (x y : Int32) : ev 234 541 L (.int y :: .int x :: st) h = ev 234 542 L (.int (x + y) :: st) h := G_iadd f234_541
theorem f234_542 : fetch 234 542 = some (.iaload, 1) := vtab tk234_6 22 rfl
theorem e234_542 (L : VL) (st : List Value) (h : VG) (a : Nat) (i : Int32) (ha : rdI h a) (hi : vp_in i (aln h a)) : ev 234 542 L (.int i :: .ref a :: st) h = ev 234 543 L (.int (aI h a i.toNatClampNeg) :: st) h := G_iald' f234_542 ha hi
theorem f234_543 : fetch 234 543 = some (.invokevirtual 64, 3) := vtab tk234_6 23 rfl
theorem e234_543 (L : VL) (st : List Value) (h : VG) (b : Nat) (x0 : Int32) (x1 : Int32) (x2 : Int32) (ho : ob h b 10) (hs : catS st ≤ 8) : ev 234 543 L (.int x2 :: .int x1 :: .int x0 :: .ref b :: st) h = (ev 112 0 [some (.ref b), some (.int x0), some (.int x1), some (.int x2)] [] h).bind fun q => ev 234 546 L (q.1.toList ++ st) q.2 := G_callv (k := 1) (p := 712) (ars := [.int x0, .int x1, .int x2]) f234_543 lkC_13_64 (by decide) (by decide +kernel) rfl (vcls_ob (ci := 10) (by decide) ho) (Nat.le_of_ble_eq_true rfl) hs rfl
theorem f234_546 : fetch 234 546 = some (.aload_n 2, 1) := vtab tk234_6 24 rfl
theorem e234_546 (l0 l1 : Option Value) (L : VL) (st : List Value) (h : VG) (x : Nat) : ev 234 546 (l0 :: l1 :: some (.ref x) :: L) (st) h = ev 234 547 (l0 :: l1 :: some (.ref x) :: L) (.ref x :: st) h := G_aload_n f234_546 rfl
theorem f234_547 : fetch 234 547 = some (.aload_n 0, 1) := vtab tk234_6 25 rfl
theorem e234_547 (L : VL) (st : List Value) (h : VG) (x : Nat) : ev 234 547 (some (.ref x) :: L) (st) h = ev 234 548 (some (.ref x) :: L) (.ref x :: st) h := G_aload_n f234_547 rfl
theorem f234_548 : fetch 234 548 = some (.iload_n 3, 1) := vtab tk234_6 26 rfl
theorem e234_548 (l0 l1 l2 : Option Value) (L : VL) (st : List Value) (h : VG) (x : Int32) : ev 234 548 (l0 :: l1 :: l2 :: some (.int x) :: L) (st) h = ev 234 549 (l0 :: l1 :: l2 :: some (.int x) :: L) (.int x :: st) h := G_iload_n f234_548 rfl
theorem f234_549 : fetch 234 549 = some (.iconst 1, 1) := vtab tk234_6 27 rfl
theorem e234_549 (L : VL) (st : List Value) (h : VG) : ev 234 549 L (st) h = ev 234 550 L (.int (1 : Int32) :: st) h := G_iconst f234_549 (by decide)
theorem f234_550 : fetch 234 550 = some (.iadd, 1) := vtab tk234_6 28 rfl
theorem e234_550 (L : VL) (st : List Value) (h : VG) (x y : Int32) : ev 234 550 L (.int y :: .int x :: st) h = ev 234 551 L (.int (x + y) :: st) h := G_iadd f234_550
theorem f234_551 : fetch 234 551 = some (.iaload, 1) := vtab tk234_6 29 rfl
theorem e234_551 (L : VL) (st : List Value) (h : VG) (a : Nat) (i : Int32) (ha : rdI h a) (hi : vp_in i (aln h a)) : ev 234 551 L (.int i :: .ref a :: st) h = ev 234 552 L (.int (aI h a i.toNatClampNeg) :: st) h := G_iald' f234_551 ha hi
theorem f234_552 : fetch 234 552 = some (.aload_n 0, 1) := vtab tk234_6 30 rfl
theorem e234_552 (L : VL) (st : List Value) (h : VG) (x : Nat) : ev 234 552 (some (.ref x) :: L) (st) h = ev 234 553 (some (.ref x) :: L) (.ref x :: st) h := G_aload_n f234_552 rfl
theorem f234_553 : fetch 234 553 = some (.iload_n 3, 1) := vtab tk234_6 31 rfl
theorem e234_553 (l0 l1 l2 : Option Value) (L : VL) (st : List Value) (h : VG) (x : Int32) : ev 234 553 (l0 :: l1 :: l2 :: some (.int x) :: L) (st) h = ev 234 554 (l0 :: l1 :: l2 :: some (.int x) :: L) (.int x :: st) h := G_iload_n f234_553 rfl
theorem f234_554 : fetch 234 554 = some (.iconst 2, 1) := vtab tk234_6 32 rfl
theorem e234_554 (L : VL) (st : List Value) (h : VG) : ev 234 554 L (st) h = ev 234 555 L (.int (2 : Int32) :: st) h := G_iconst f234_554 (by decide)
theorem f234_555 : fetch 234 555 = some (.iadd, 1) := vtab tk234_6 33 rfl
theorem e234_555 (L : VL) (st : List Value) (h : VG) (x y : Int32) : ev 234 555 L (.int y :: .int x :: st) h = ev 234 556 L (.int (x + y) :: st) h := G_iadd f234_555
theorem f234_556 : fetch 234 556 = some (.iaload, 1) := vtab tk234_6 34 rfl
theorem e234_556 (L : VL) (st : List Value) (h : VG) (a : Nat) (i : Int32) (ha : rdI h a) (hi : vp_in i (aln h a)) : ev 234 556 L (.int i :: .ref a :: st) h = ev 234 557 L (.int (aI h a i.toNatClampNeg) :: st) h := G_iald' f234_556 ha hi
theorem f234_557 : fetch 234 557 = some (.aload_n 0, 1) := vtab tk234_6 35 rfl
theorem e234_557 (L : VL) (st : List Value) (h : VG) (x : Nat) : ev 234 557 (some (.ref x) :: L) (st) h = ev 234 558 (some (.ref x) :: L) (.ref x :: st) h := G_aload_n f234_557 rfl
theorem f234_558 : fetch 234 558 = some (.iload_n 3, 1) := vtab tk234_6 36 rfl
theorem e234_558 (l0 l1 l2 : Option Value) (L : VL) (st : List Value) (h : VG) (x : Int32) : ev 234 558 (l0 :: l1 :: l2 :: some (.int x) :: L) (st) h = ev 234 559 (l0 :: l1 :: l2 :: some (.int x) :: L) (.int x :: st) h := G_iload_n f234_558 rfl
theorem f234_559 : fetch 234 559 = some (.iconst 3, 1) := vtab tk234_6 37 rfl
theorem e234_559 (L : VL) (st : List Value) (h : VG) : ev 234 559 L (st) h = ev 234 560 L (.int (3 : Int32) :: st) h := G_iconst f234_559 (by decide)
theorem f234_560 : fetch 234 560 = some (.iadd, 1) := vtab tk234_6 38 rfl
theorem e234_560 (L : VL) (st : List Value) (h : VG) (x y : Int32) : ev 234 560 L (.int y :: .int x :: st) h = ev 234 561 L (.int (x + y) :: st) h := G_iadd f234_560
theorem f234_561 : fetch 234 561 = some (.iaload, 1) := vtab tk234_6 39 rfl
theorem e234_561 (L : VL) (st : List Value) (h : VG) (a : Nat) (i : Int32) (ha : rdI h a) (hi : vp_in i (aln h a)) : ev 234 561 L (.int i :: .ref a :: st) h = ev 234 562 L (.int (aI h a i.toNatClampNeg) :: st) h := G_iald' f234_561 ha hi
theorem f234_562 : fetch 234 562 = some (.invokevirtual 68, 3) := vtab tk234_6 40 rfl
theorem e234_562 (L : VL) (st : List Value) (h : VG) (b : Nat) (x0 : Int32) (x1 : Int32) (x2 : Int32) (ho : ob h b 11) (hs : catS st ≤ 8) : ev 234 562 L (.int x2 :: .int x1 :: .int x0 :: .ref b :: st) h = (ev 191 0 [some (.ref b), some (.int x0), some (.int x1), some (.int x2)] [] h).bind fun q => ev 234 565 L (q.1.toList ++ st) q.2 := G_callv (k := 1) (p := 1370) (ars := [.int x0, .int x1, .int x2]) f234_562 lkC_13_68 (by decide) (by decide +kernel) rfl (vcls_ob (ci := 11) (by decide) ho) (Nat.le_of_ble_eq_true rfl) hs rfl
theorem f234_565 : fetch 234 565 = some (.lcmp, 1) := vtab tk234_6 41 rfl
theorem e234_565 (L : VL) (st : List Value) (h : VG) (x y : Int64) : ev 234 565 L (.long y :: .long x :: st) h = ev 234 566 L (.int (lg_cmp x y) :: st) h := G_lcmp f234_565
theorem f234_566 : fetch 234 566 = some (.ifCond .eq 835, 3) := vtab tk234_6 42 rfl
theorem e234_566 (L : VL) (st : List Value) (h : VG) (x : Int32) : ev 234 566 L (.int x :: st) h = if x = 0 then ev 234 1401 L st h else ev 234 569 L st h := G_if_eq f234_566 (by decide)
theorem f234_569 : fetch 234 569 = some (.iconst 0, 1) := vtab tk234_6 43 rfl
theorem e234_569 (L : VL) (st : List Value) (h : VG) : ev 234 569 L (st) h = ev 234 570 L (.int (0 : Int32) :: st) h := G_iconst f234_569 (by decide)
theorem f234_570 : fetch 234 570 = some (.ireturn, 1) := vtab tk234_6 44 rfl
theorem e234_570 (L : VL) (h : VG) (x : Int32) (hz : x = 0 ∨ x = 1) : ev 234 570 L [.int x] h = some (some (.int x), h) := G_iret f234_570 (ty := .boolean) (by decide) (vbool hz).1
theorem f234_571 : fetch 234 571 = some (.aload_n 1, 1) := vtab tk234_6 45 rfl
theorem e234_571 (l0 : Option Value) (L : VL) (st : List Value) (h : VG) (x : Nat) : ev 234 571 (l0 :: some (.ref x) :: L) (st) h = ev 234 572 (l0 :: some (.ref x) :: L) (.ref x :: st) h := G_aload_n f234_571 rfl
theorem f234_572 : fetch 234 572 = some (.aload_n 0, 1) := vtab tk234_6 46 rfl
theorem e234_572 (L : VL) (st : List Value) (h : VG) (x : Nat) : ev 234 572 (some (.ref x) :: L) (st) h = ev 234 573 (some (.ref x) :: L) (.ref x :: st) h := G_aload_n f234_572 rfl
theorem f234_573 : fetch 234 573 = some (.iload_n 3, 1) := vtab tk234_6 47 rfl
theorem e234_573 (l0 l1 l2 : Option Value) (L : VL) (st : List Value) (h : VG) (x : Int32) : ev 234 573 (l0 :: l1 :: l2 :: some (.int x) :: L) (st) h = ev 234 574 (l0 :: l1 :: l2 :: some (.int x) :: L) (.int x :: st) h := G_iload_n f234_573 rfl
theorem f234_574 : fetch 234 574 = some (.iconst 1, 1) := vtab tk234_6 48 rfl
theorem e234_574 (L : VL) (st : List Value) (h : VG) : ev 234 574 L (st) h = ev 234 575 L (.int (1 : Int32) :: st) h := G_iconst f234_574 (by decide)
theorem f234_575 : fetch 234 575 = some (.iadd, 1) := vtab tk234_6 49 rfl
theorem e234_575 (L : VL) (st : List Value) (h : VG) (x y : Int32) : ev 234 575 L (.int y :: .int x :: st) h = ev 234 576 L (.int (x + y) :: st) h := G_iadd f234_575
theorem f234_576 : fetch 234 576 = some (.iaload, 1) := vtab tk234_7 0 rfl
theorem e234_576 (L : VL) (st : List Value) (h : VG) (a : Nat) (i : Int32) (ha : rdI h a) (hi : vp_in i (aln h a)) : ev 234 576 L (.int i :: .ref a :: st) h = ev 234 577 L (.int (aI h a i.toNatClampNeg) :: st) h := G_iald' f234_576 ha hi
theorem f234_577 : fetch 234 577 = some (.aload_n 0, 1) := vtab tk234_7 1 rfl
theorem e234_577 (L : VL) (st : List Value) (h : VG) (x : Nat) : ev 234 577 (some (.ref x) :: L) (st) h = ev 234 578 (some (.ref x) :: L) (.ref x :: st) h := G_aload_n f234_577 rfl
theorem f234_578 : fetch 234 578 = some (.iload_n 3, 1) := vtab tk234_7 2 rfl
theorem e234_578 (l0 l1 l2 : Option Value) (L : VL) (st : List Value) (h : VG) (x : Int32) : ev 234 578 (l0 :: l1 :: l2 :: some (.int x) :: L) (st) h = ev 234 579 (l0 :: l1 :: l2 :: some (.int x) :: L) (.int x :: st) h := G_iload_n f234_578 rfl
theorem f234_579 : fetch 234 579 = some (.iconst 2, 1) := vtab tk234_7 3 rfl
theorem e234_579 (L : VL) (st : List Value) (h : VG) : ev 234 579 L (st) h = ev 234 580 L (.int (2 : Int32) :: st) h := G_iconst f234_579 (by decide)
theorem f234_580 : fetch 234 580 = some (.iadd, 1) := vtab tk234_7 4 rfl
theorem e234_580 (L : VL) (st : List Value) (h : VG) (x y : Int32) : ev 234 580 L (.int y :: .int x :: st) h = ev 234 581 L (.int (x + y) :: st) h := G_iadd f234_580
theorem f234_581 : fetch 234 581 = some (.iaload, 1) := vtab tk234_7 5 rfl
theorem e234_581 (L : VL) (st : List Value) (h : VG) (a : Nat) (i : Int32) (ha : rdI h a) (hi : vp_in i (aln h a)) : ev 234 581 L (.int i :: .ref a :: st) h = ev 234 582 L (.int (aI h a i.toNatClampNeg) :: st) h := G_iald' f234_581 ha hi
theorem f234_582 : fetch 234 582 = some (.aload_n 0, 1) := vtab tk234_7 6 rfl
theorem e234_582 (L : VL) (st : List Value) (h : VG) (x : Nat) : ev 234 582 (some (.ref x) :: L) (st) h = ev 234 583 (some (.ref x) :: L) (.ref x :: st) h := G_aload_n f234_582 rfl
theorem f234_583 : fetch 234 583 = some (.iload_n 3, 1) := vtab tk234_7 7 rfl
theorem e234_583 (l0 l1 l2 : Option Value) (L : VL) (st : List Value) (h : VG) (x : Int32) : ev 234 583 (l0 :: l1 :: l2 :: some (.int x) :: L) (st) h = ev 234 584 (l0 :: l1 :: l2 :: some (.int x) :: L) (.int x :: st) h := G_iload_n f234_583 rfl
theorem f234_584 : fetch 234 584 = some (.iconst 3, 1) := vtab tk234_7 8 rfl
theorem e234_584 (L : VL) (st : List Value) (h : VG) : ev 234 584 L (st) h = ev 234 585 L (.int (3 : Int32) :: st) h := G_iconst f234_584 (by decide)
theorem f234_585 : fetch 234 585 = some (.iadd, 1) := vtab tk234_7 9 rfl
theorem e234_585 (L : VL) (st : List Value) (h : VG) (x y : Int32) : ev 234 585 L (.int y :: .int x :: st) h = ev 234 586 L (.int (x + y) :: st) h := G_iadd f234_585
theorem f234_586 : fetch 234 586 = some (.iaload, 1) := vtab tk234_7 10 rfl
theorem e234_586 (L : VL) (st : List Value) (h : VG) (a : Nat) (i : Int32) (ha : rdI h a) (hi : vp_in i (aln h a)) : ev 234 586 L (.int i :: .ref a :: st) h = ev 234 587 L (.int (aI h a i.toNatClampNeg) :: st) h := G_iald' f234_586 ha hi
theorem f234_587 : fetch 234 587 = some (.aload_n 0, 1) := vtab tk234_7 11 rfl
theorem e234_587 (L : VL) (st : List Value) (h : VG) (x : Nat) : ev 234 587 (some (.ref x) :: L) (st) h = ev 234 588 (some (.ref x) :: L) (.ref x :: st) h := G_aload_n f234_587 rfl
theorem f234_588 : fetch 234 588 = some (.iload_n 3, 1) := vtab tk234_7 12 rfl
theorem e234_588 (l0 l1 l2 : Option Value) (L : VL) (st : List Value) (h : VG) (x : Int32) : ev 234 588 (l0 :: l1 :: l2 :: some (.int x) :: L) (st) h = ev 234 589 (l0 :: l1 :: l2 :: some (.int x) :: L) (.int x :: st) h := G_iload_n f234_588 rfl
theorem f234_589 : fetch 234 589 = some (.iconst 4, 1) := vtab tk234_7 13 rfl
theorem e234_589 (L : VL) (st : List Value) (h : VG) : ev 234 589 L (st) h = ev 234 590 L (.int (4 : Int32) :: st) h := G_iconst f234_589 (by decide)
theorem f234_590 : fetch 234 590 = some (.iadd, 1) := vtab tk234_7 14 rfl
theorem e234_590 (L : VL) (st : List Value) (h : VG) (x y : Int32) : ev 234 590 L (.int y :: .int x :: st) h = ev 234 591 L (.int (x + y) :: st) h := G_iadd f234_590
theorem f234_591 : fetch 234 591 = some (.iaload, 1) := vtab tk234_7 15 rfl
theorem e234_591 (L : VL) (st : List Value) (h : VG) (a : Nat) (i : Int32) (ha : rdI h a) (hi : vp_in i (aln h a)) : ev 234 591 L (.int i :: .ref a :: st) h = ev 234 592 L (.int (aI h a i.toNatClampNeg) :: st) h := G_iald' f234_591 ha hi
theorem f234_592 : fetch 234 592 = some (.i2l, 1) := vtab tk234_7 16 rfl
theorem e234_592 (L : VL) (st : List Value) (h : VG) (x : Int32) : ev 234 592 L (.int x :: st) h = ev 234 593 L (.long x.toInt64 :: st) h := G_i2l f234_592
theorem f234_593 : fetch 234 593 = some (.bipush 32, 2) := vtab tk234_7 17 rfl
theorem e234_593 (L : VL) (st : List Value) (h : VG) : ev 234 593 L (st) h = ev 234 595 L (.int (32 : Int32) :: st) h := G_bipush f234_593 (by decide)
theorem f234_595 : fetch 234 595 = some (.lshl, 1) := vtab tk234_7 18 rfl
theorem e234_595 (L : VL) (st : List Value) (h : VG) (x : Int64) (y : Int32) : ev 234 595 L (.int y :: .long x :: st) h = ev 234 596 L (.long (x <<< (y.toInt64 &&& 63)) :: st) h := G_lshl f234_595
theorem f234_596 : fetch 234 596 = some (.aload_n 0, 1) := vtab tk234_7 19 rfl
theorem e234_596 (L : VL) (st : List Value) (h : VG) (x : Nat) : ev 234 596 (some (.ref x) :: L) (st) h = ev 234 597 (some (.ref x) :: L) (.ref x :: st) h := G_aload_n f234_596 rfl
theorem f234_597 : fetch 234 597 = some (.iload_n 3, 1) := vtab tk234_7 20 rfl
theorem e234_597 (l0 l1 l2 : Option Value) (L : VL) (st : List Value) (h : VG) (x : Int32) : ev 234 597 (l0 :: l1 :: l2 :: some (.int x) :: L) (st) h = ev 234 598 (l0 :: l1 :: l2 :: some (.int x) :: L) (.int x :: st) h := G_iload_n f234_597 rfl
theorem f234_598 : fetch 234 598 = some (.iconst 5, 1) := vtab tk234_7 21 rfl
theorem e234_598 (L : VL) (st : List Value) (h : VG) : ev 234 598 L (st) h = ev 234 599 L (.int (5 : Int32) :: st) h := G_iconst f234_598 (by decide)
theorem f234_599 : fetch 234 599 = some (.iadd, 1) := vtab tk234_7 22 rfl
theorem e234_599 (L : VL) (st : List Value) (h : VG) (x y : Int32) : ev 234 599 L (.int y :: .int x :: st) h = ev 234 600 L (.int (x + y) :: st) h := G_iadd f234_599
theorem f234_600 : fetch 234 600 = some (.iaload, 1) := vtab tk234_7 23 rfl
theorem e234_600 (L : VL) (st : List Value) (h : VG) (a : Nat) (i : Int32) (ha : rdI h a) (hi : vp_in i (aln h a)) : ev 234 600 L (.int i :: .ref a :: st) h = ev 234 601 L (.int (aI h a i.toNatClampNeg) :: st) h := G_iald' f234_600 ha hi
theorem f234_601 : fetch 234 601 = some (.i2l, 1) := vtab tk234_7 24 rfl
theorem e234_601 (L : VL) (st : List Value) (h : VG) (x : Int32) : ev 234 601 L (.int x :: st) h = ev 234 602 L (.long x.toInt64 :: st) h := G_i2l f234_601
theorem f234_602 : fetch 234 602 = some (.ldc2_w 69, 3) := vtab tk234_7 25 rfl
theorem e234_602 (L : VL) (st : List Value) (h : VG) : ev 234 602 L (st) h = ev 234 605 L (.long 4294967295 :: st) h := G_ldc2l (p := 1591) f234_602 lkK_13_69
theorem f234_605 : fetch 234 605 = some (.land, 1) := vtab tk234_7 26 rfl
theorem e234_605 (L : VL) (st : List Value) (h : VG) (x y : Int64) : ev 234 605 L (.long y :: .long x :: st) h = ev 234 606 L (.long (x &&& y) :: st) h := G_land f234_605
theorem f234_606 : fetch 234 606 = some (.lor, 1) := vtab tk234_7 27 rfl
theorem e234_606 (L : VL) (st : List Value) (h : VG) (x y : Int64) : ev 234 606 L (.long y :: .long x :: st) h = ev 234 607 L (.long (x ||| y) :: st) h := G_lor f234_606
theorem f234_607 : fetch 234 607 = some (.invokevirtual 71, 3) := vtab tk234_7 28 rfl
theorem e234_607 (L : VL) (st : List Value) (h : VG) (b : Nat) (x0 : Int32) (x1 : Int32) (x2 : Int32) (x3 : Int64) (ho : ob h b 10) (hs : catS st ≤ 8) : ev 234 607 L (.long x3 :: .int x2 :: .int x1 :: .int x0 :: .ref b :: st) h = (ev 113 0 [some (.ref b), some (.int x0), some (.int x1), some (.int x2), some (.long x3), none] [] h).bind fun q => ev 234 610 L (q.1.toList ++ st) q.2 := G_callv (k := 1) (p := 784) (ars := [.int x0, .int x1, .int x2, .long x3]) f234_607 lkC_13_71 (by decide) (by decide +kernel) rfl (vcls_ob (ci := 10) (by decide) ho) (Nat.le_of_ble_eq_true rfl) hs rfl
theorem f234_610 : fetch 234 610 = some (.aload_n 2, 1) := vtab tk234_7 29 rfl
theorem e234_610 (l0 l1 : Option Value) (L : VL) (st : List Value) (h : VG) (x : Nat) : ev 234 610 (l0 :: l1 :: some (.ref x) :: L) (st) h = ev 234 611 (l0 :: l1 :: some (.ref x) :: L) (.ref x :: st) h := G_aload_n f234_610 rfl
theorem f234_611 : fetch 234 611 = some (.aload_n 0, 1) := vtab tk234_7 30 rfl
theorem e234_611 (L : VL) (st : List Value) (h : VG) (x : Nat) : ev 234 611 (some (.ref x) :: L) (st) h = ev 234 612 (some (.ref x) :: L) (.ref x :: st) h := G_aload_n f234_611 rfl
theorem f234_612 : fetch 234 612 = some (.iload_n 3, 1) := vtab tk234_7 31 rfl
theorem e234_612 (l0 l1 l2 : Option Value) (L : VL) (st : List Value) (h : VG) (x : Int32) : ev 234 612 (l0 :: l1 :: l2 :: some (.int x) :: L) (st) h = ev 234 613 (l0 :: l1 :: l2 :: some (.int x) :: L) (.int x :: st) h := G_iload_n f234_612 rfl
theorem f234_613 : fetch 234 613 = some (.iconst 1, 1) := vtab tk234_7 32 rfl
theorem e234_613 (L : VL) (st : List Value) (h : VG) : ev 234 613 L (st) h = ev 234 614 L (.int (1 : Int32) :: st) h := G_iconst f234_613 (by decide)
theorem f234_614 : fetch 234 614 = some (.iadd, 1) := vtab tk234_7 33 rfl
theorem e234_614 (L : VL) (st : List Value) (h : VG) (x y : Int32) : ev 234 614 L (.int y :: .int x :: st) h = ev 234 615 L (.int (x + y) :: st) h := G_iadd f234_614
theorem f234_615 : fetch 234 615 = some (.iaload, 1) := vtab tk234_7 34 rfl
theorem e234_615 (L : VL) (st : List Value) (h : VG) (a : Nat) (i : Int32) (ha : rdI h a) (hi : vp_in i (aln h a)) : ev 234 615 L (.int i :: .ref a :: st) h = ev 234 616 L (.int (aI h a i.toNatClampNeg) :: st) h := G_iald' f234_615 ha hi
theorem f234_616 : fetch 234 616 = some (.aload_n 0, 1) := vtab tk234_7 35 rfl
theorem e234_616 (L : VL) (st : List Value) (h : VG) (x : Nat) : ev 234 616 (some (.ref x) :: L) (st) h = ev 234 617 (some (.ref x) :: L) (.ref x :: st) h := G_aload_n f234_616 rfl
theorem f234_617 : fetch 234 617 = some (.iload_n 3, 1) := vtab tk234_7 36 rfl
theorem e234_617 (l0 l1 l2 : Option Value) (L : VL) (st : List Value) (h : VG) (x : Int32) : ev 234 617 (l0 :: l1 :: l2 :: some (.int x) :: L) (st) h = ev 234 618 (l0 :: l1 :: l2 :: some (.int x) :: L) (.int x :: st) h := G_iload_n f234_617 rfl
theorem f234_618 : fetch 234 618 = some (.iconst 2, 1) := vtab tk234_7 37 rfl
theorem e234_618 (L : VL) (st : List Value) (h : VG) : ev 234 618 L (st) h = ev 234 619 L (.int (2 : Int32) :: st) h := G_iconst f234_618 (by decide)
theorem f234_619 : fetch 234 619 = some (.iadd, 1) := vtab tk234_7 38 rfl
theorem e234_619 (L : VL) (st : List Value) (h : VG) (x y : Int32) : ev 234 619 L (.int y :: .int x :: st) h = ev 234 620 L (.int (x + y) :: st) h := G_iadd f234_619
theorem f234_620 : fetch 234 620 = some (.iaload, 1) := vtab tk234_7 39 rfl
theorem e234_620 (L : VL) (st : List Value) (h : VG) (a : Nat) (i : Int32) (ha : rdI h a) (hi : vp_in i (aln h a)) : ev 234 620 L (.int i :: .ref a :: st) h = ev 234 621 L (.int (aI h a i.toNatClampNeg) :: st) h := G_iald' f234_620 ha hi
theorem f234_621 : fetch 234 621 = some (.aload_n 0, 1) := vtab tk234_7 40 rfl
theorem e234_621 (L : VL) (st : List Value) (h : VG) (x : Nat) : ev 234 621 (some (.ref x) :: L) (st) h = ev 234 622 (some (.ref x) :: L) (.ref x :: st) h := G_aload_n f234_621 rfl
theorem f234_622 : fetch 234 622 = some (.iload_n 3, 1) := vtab tk234_7 41 rfl
theorem e234_622 (l0 l1 l2 : Option Value) (L : VL) (st : List Value) (h : VG) (x : Int32) : ev 234 622 (l0 :: l1 :: l2 :: some (.int x) :: L) (st) h = ev 234 623 (l0 :: l1 :: l2 :: some (.int x) :: L) (.int x :: st) h := G_iload_n f234_622 rfl
theorem f234_623 : fetch 234 623 = some (.iconst 3, 1) := vtab tk234_7 42 rfl
theorem e234_623 (L : VL) (st : List Value) (h : VG) : ev 234 623 L (st) h = ev 234 624 L (.int (3 : Int32) :: st) h := G_iconst f234_623 (by decide)
theorem f234_624 : fetch 234 624 = some (.iadd, 1) := vtab tk234_7 43 rfl
theorem e234_624 (L : VL) (st : List Value) (h : VG) (x y : Int32) : ev 234 624 L (.int y :: .int x :: st) h = ev 234 625 L (.int (x + y) :: st) h := G_iadd f234_624
theorem f234_625 : fetch 234 625 = some (.iaload, 1) := vtab tk234_7 44 rfl
theorem e234_625 (L : VL) (st : List Value) (h : VG) (a : Nat) (i : Int32) (ha : rdI h a) (hi : vp_in i (aln h a)) : ev 234 625 L (.int i :: .ref a :: st) h = ev 234 626 L (.int (aI h a i.toNatClampNeg) :: st) h := G_iald' f234_625 ha hi
theorem f234_626 : fetch 234 626 = some (.aload_n 0, 1) := vtab tk234_7 45 rfl
theorem e234_626 (L : VL) (st : List Value) (h : VG) (x : Nat) : ev 234 626 (some (.ref x) :: L) (st) h = ev 234 627 (some (.ref x) :: L) (.ref x :: st) h := G_aload_n f234_626 rfl
theorem f234_627 : fetch 234 627 = some (.iload_n 3, 1) := vtab tk234_7 46 rfl
theorem e234_627 (l0 l1 l2 : Option Value) (L : VL) (st : List Value) (h : VG) (x : Int32) : ev 234 627 (l0 :: l1 :: l2 :: some (.int x) :: L) (st) h = ev 234 628 (l0 :: l1 :: l2 :: some (.int x) :: L) (.int x :: st) h := G_iload_n f234_627 rfl
theorem f234_628 : fetch 234 628 = some (.iconst 4, 1) := vtab tk234_7 47 rfl
theorem e234_628 (L : VL) (st : List Value) (h : VG) : ev 234 628 L (st) h = ev 234 629 L (.int (4 : Int32) :: st) h := G_iconst f234_628 (by decide)
theorem f234_629 : fetch 234 629 = some (.iadd, 1) := vtab tk234_7 48 rfl
theorem e234_629 (L : VL) (st : List Value) (h : VG) (x y : Int32) : ev 234 629 L (.int y :: .int x :: st) h = ev 234 630 L (.int (x + y) :: st) h := G_iadd f234_629
theorem f234_630 : fetch 234 630 = some (.iaload, 1) := vtab tk234_7 49 rfl
theorem e234_630 (L : VL) (st : List Value) (h : VG) (a : Nat) (i : Int32) (ha : rdI h a) (hi : vp_in i (aln h a)) : ev 234 630 L (.int i :: .ref a :: st) h = ev 234 631 L (.int (aI h a i.toNatClampNeg) :: st) h := G_iald' f234_630 ha hi
theorem f234_631 : fetch 234 631 = some (.i2l, 1) := vtab tk234_8 0 rfl
theorem e234_631 (L : VL) (st : List Value) (h : VG) (x : Int32) : ev 234 631 L (.int x :: st) h = ev 234 632 L (.long x.toInt64 :: st) h := G_i2l f234_631
theorem f234_632 : fetch 234 632 = some (.bipush 32, 2) := vtab tk234_8 1 rfl
theorem e234_632 (L : VL) (st : List Value) (h : VG) : ev 234 632 L (st) h = ev 234 634 L (.int (32 : Int32) :: st) h := G_bipush f234_632 (by decide)
theorem f234_634 : fetch 234 634 = some (.lshl, 1) := vtab tk234_8 2 rfl
theorem e234_634 (L : VL) (st : List Value) (h : VG) (x : Int64) (y : Int32) : ev 234 634 L (.int y :: .long x :: st) h = ev 234 635 L (.long (x <<< (y.toInt64 &&& 63)) :: st) h := G_lshl f234_634
theorem f234_635 : fetch 234 635 = some (.aload_n 0, 1) := vtab tk234_8 3 rfl
theorem e234_635 (L : VL) (st : List Value) (h : VG) (x : Nat) : ev 234 635 (some (.ref x) :: L) (st) h = ev 234 636 (some (.ref x) :: L) (.ref x :: st) h := G_aload_n f234_635 rfl
theorem f234_636 : fetch 234 636 = some (.iload_n 3, 1) := vtab tk234_8 4 rfl
theorem e234_636 (l0 l1 l2 : Option Value) (L : VL) (st : List Value) (h : VG) (x : Int32) : ev 234 636 (l0 :: l1 :: l2 :: some (.int x) :: L) (st) h = ev 234 637 (l0 :: l1 :: l2 :: some (.int x) :: L) (.int x :: st) h := G_iload_n f234_636 rfl
theorem f234_637 : fetch 234 637 = some (.iconst 5, 1) := vtab tk234_8 5 rfl
theorem e234_637 (L : VL) (st : List Value) (h : VG) : ev 234 637 L (st) h = ev 234 638 L (.int (5 : Int32) :: st) h := G_iconst f234_637 (by decide)
theorem f234_638 : fetch 234 638 = some (.iadd, 1) := vtab tk234_8 6 rfl
theorem e234_638 (L : VL) (st : List Value) (h : VG) (x y : Int32) : ev 234 638 L (.int y :: .int x :: st) h = ev 234 639 L (.int (x + y) :: st) h := G_iadd f234_638
theorem f234_639 : fetch 234 639 = some (.iaload, 1) := vtab tk234_8 7 rfl
theorem e234_639 (L : VL) (st : List Value) (h : VG) (a : Nat) (i : Int32) (ha : rdI h a) (hi : vp_in i (aln h a)) : ev 234 639 L (.int i :: .ref a :: st) h = ev 234 640 L (.int (aI h a i.toNatClampNeg) :: st) h := G_iald' f234_639 ha hi
theorem f234_640 : fetch 234 640 = some (.i2l, 1) := vtab tk234_8 8 rfl
theorem e234_640 (L : VL) (st : List Value) (h : VG) (x : Int32) : ev 234 640 L (.int x :: st) h = ev 234 641 L (.long x.toInt64 :: st) h := G_i2l f234_640
theorem f234_641 : fetch 234 641 = some (.ldc2_w 69, 3) := vtab tk234_8 9 rfl
theorem e234_641 (L : VL) (st : List Value) (h : VG) : ev 234 641 L (st) h = ev 234 644 L (.long 4294967295 :: st) h := G_ldc2l (p := 1591) f234_641 lkK_13_69
theorem f234_644 : fetch 234 644 = some (.land, 1) := vtab tk234_8 10 rfl
theorem e234_644 (L : VL) (st : List Value) (h : VG) (x y : Int64) : ev 234 644 L (.long y :: .long x :: st) h = ev 234 645 L (.long (x &&& y) :: st) h := G_land f234_644
theorem f234_645 : fetch 234 645 = some (.lor, 1) := vtab tk234_8 11 rfl
theorem e234_645 (L : VL) (st : List Value) (h : VG) (x y : Int64) : ev 234 645 L (.long y :: .long x :: st) h = ev 234 646 L (.long (x ||| y) :: st) h := G_lor f234_645
theorem f234_646 : fetch 234 646 = some (.invokevirtual 75, 3) := vtab tk234_8 12 rfl
theorem e234_646 (L : VL) (st : List Value) (h : VG) (b : Nat) (x0 : Int32) (x1 : Int32) (x2 : Int32) (x3 : Int64) (ho : ob h b 11) (hs : catS st ≤ 8) : ev 234 646 L (.long x3 :: .int x2 :: .int x1 :: .int x0 :: .ref b :: st) h = (ev 192 0 [some (.ref b), some (.int x0), some (.int x1), some (.int x2), some (.long x3), none] [] h).bind fun q => ev 234 649 L (q.1.toList ++ st) q.2 := G_callv (k := 1) (p := 1404) (ars := [.int x0, .int x1, .int x2, .long x3]) f234_646 lkC_13_75 (by decide) (by decide +kernel) rfl (vcls_ob (ci := 11) (by decide) ho) (Nat.le_of_ble_eq_true rfl) hs rfl
theorem f234_649 : fetch 234 649 = some (.if_icmp .eq 752, 3) := vtab tk234_8 13 rfl
theorem e234_649 (L : VL) (st : List Value) (h : VG) (x y : Int32) : ev 234 649 L (.int y :: .int x :: st) h = if x = y then ev 234 1401 L st h else ev 234 652 L st h := G_icmp_eq f234_649 (by decide)
theorem f234_652 : fetch 234 652 = some (.iconst 0, 1) := vtab tk234_8 14 rfl
theorem e234_652 (L : VL) (st : List Value) (h : VG) : ev 234 652 L (st) h = ev 234 653 L (.int (0 : Int32) :: st) h := G_iconst f234_652 (by decide)
theorem f234_653 : fetch 234 653 = some (.ireturn, 1) := vtab tk234_8 15 rfl
theorem e234_653 (L : VL) (h : VG) (x : Int32) (hz : x = 0 ∨ x = 1) : ev 234 653 L [.int x] h = some (some (.int x), h) := G_iret f234_653 (ty := .boolean) (by decide) (vbool hz).1
theorem f234_654 : fetch 234 654 = some (.aload_n 1, 1) := vtab tk234_8 16 rfl
theorem e234_654 (l0 : Option Value) (L : VL) (st : List Value) (h : VG) (x : Nat) : ev 234 654 (l0 :: some (.ref x) :: L) (st) h = ev 234 655 (l0 :: some (.ref x) :: L) (.ref x :: st) h := G_aload_n f234_654 rfl
theorem f234_655 : fetch 234 655 = some (.aload_n 0, 1) := vtab tk234_8 17 rfl
theorem e234_655 (L : VL) (st : List Value) (h : VG) (x : Nat) : ev 234 655 (some (.ref x) :: L) (st) h = ev 234 656 (some (.ref x) :: L) (.ref x :: st) h := G_aload_n f234_655 rfl
theorem f234_656 : fetch 234 656 = some (.iload_n 3, 1) := vtab tk234_8 18 rfl
theorem e234_656 (l0 l1 l2 : Option Value) (L : VL) (st : List Value) (h : VG) (x : Int32) : ev 234 656 (l0 :: l1 :: l2 :: some (.int x) :: L) (st) h = ev 234 657 (l0 :: l1 :: l2 :: some (.int x) :: L) (.int x :: st) h := G_iload_n f234_656 rfl
theorem f234_657 : fetch 234 657 = some (.iconst 1, 1) := vtab tk234_8 19 rfl
theorem e234_657 (L : VL) (st : List Value) (h : VG) : ev 234 657 L (st) h = ev 234 658 L (.int (1 : Int32) :: st) h := G_iconst f234_657 (by decide)
theorem f234_658 : fetch 234 658 = some (.iadd, 1) := vtab tk234_8 20 rfl
theorem e234_658 (L : VL) (st : List Value) (h : VG) (x y : Int32) : ev 234 658 L (.int y :: .int x :: st) h = ev 234 659 L (.int (x + y) :: st) h := G_iadd f234_658
theorem f234_659 : fetch 234 659 = some (.iaload, 1) := vtab tk234_8 21 rfl
theorem e234_659 (L : VL) (st : List Value) (h : VG) (a : Nat) (i : Int32) (ha : rdI h a) (hi : vp_in i (aln h a)) : ev 234 659 L (.int i :: .ref a :: st) h = ev 234 660 L (.int (aI h a i.toNatClampNeg) :: st) h := G_iald' f234_659 ha hi
theorem f234_660 : fetch 234 660 = some (.aload_n 0, 1) := vtab tk234_8 22 rfl
theorem e234_660 (L : VL) (st : List Value) (h : VG) (x : Nat) : ev 234 660 (some (.ref x) :: L) (st) h = ev 234 661 (some (.ref x) :: L) (.ref x :: st) h := G_aload_n f234_660 rfl
theorem f234_661 : fetch 234 661 = some (.iload_n 3, 1) := vtab tk234_8 23 rfl
theorem e234_661 (l0 l1 l2 : Option Value) (L : VL) (st : List Value) (h : VG) (x : Int32) : ev 234 661 (l0 :: l1 :: l2 :: some (.int x) :: L) (st) h = ev 234 662 (l0 :: l1 :: l2 :: some (.int x) :: L) (.int x :: st) h := G_iload_n f234_661 rfl
theorem f234_662 : fetch 234 662 = some (.iconst 2, 1) := vtab tk234_8 24 rfl
theorem e234_662 (L : VL) (st : List Value) (h : VG) : ev 234 662 L (st) h = ev 234 663 L (.int (2 : Int32) :: st) h := G_iconst f234_662 (by decide)
theorem f234_663 : fetch 234 663 = some (.iadd, 1) := vtab tk234_8 25 rfl
theorem e234_663 (L : VL) (st : List Value) (h : VG) (x y : Int32) : ev 234 663 L (.int y :: .int x :: st) h = ev 234 664 L (.int (x + y) :: st) h := G_iadd f234_663
theorem f234_664 : fetch 234 664 = some (.iaload, 1) := vtab tk234_8 26 rfl
theorem e234_664 (L : VL) (st : List Value) (h : VG) (a : Nat) (i : Int32) (ha : rdI h a) (hi : vp_in i (aln h a)) : ev 234 664 L (.int i :: .ref a :: st) h = ev 234 665 L (.int (aI h a i.toNatClampNeg) :: st) h := G_iald' f234_664 ha hi
theorem f234_665 : fetch 234 665 = some (.aload_n 0, 1) := vtab tk234_8 27 rfl
theorem e234_665 (L : VL) (st : List Value) (h : VG) (x : Nat) : ev 234 665 (some (.ref x) :: L) (st) h = ev 234 666 (some (.ref x) :: L) (.ref x :: st) h := G_aload_n f234_665 rfl
theorem f234_666 : fetch 234 666 = some (.iload_n 3, 1) := vtab tk234_8 28 rfl
theorem e234_666 (l0 l1 l2 : Option Value) (L : VL) (st : List Value) (h : VG) (x : Int32) : ev 234 666 (l0 :: l1 :: l2 :: some (.int x) :: L) (st) h = ev 234 667 (l0 :: l1 :: l2 :: some (.int x) :: L) (.int x :: st) h := G_iload_n f234_666 rfl
theorem f234_667 : fetch 234 667 = some (.iconst 3, 1) := vtab tk234_8 29 rfl
theorem e234_667 (L : VL) (st : List Value) (h : VG) : ev 234 667 L (st) h = ev 234 668 L (.int (3 : Int32) :: st) h := G_iconst f234_667 (by decide)
theorem f234_668 : fetch 234 668 = some (.iadd, 1) := vtab tk234_8 30 rfl
theorem e234_668 (L : VL) (st : List Value) (h : VG) (x y : Int32) : ev 234 668 L (.int y :: .int x :: st) h = ev 234 669 L (.int (x + y) :: st) h := G_iadd f234_668
theorem f234_669 : fetch 234 669 = some (.iaload, 1) := vtab tk234_8 31 rfl
theorem e234_669 (L : VL) (st : List Value) (h : VG) (a : Nat) (i : Int32) (ha : rdI h a) (hi : vp_in i (aln h a)) : ev 234 669 L (.int i :: .ref a :: st) h = ev 234 670 L (.int (aI h a i.toNatClampNeg) :: st) h := G_iald' f234_669 ha hi
theorem f234_670 : fetch 234 670 = some (.invokevirtual 76, 3) := vtab tk234_8 32 rfl
theorem e234_670 (L : VL) (st : List Value) (h : VG) (b : Nat) (x0 : Int32) (x1 : Int32) (x2 : Int32) (ho : ob h b 10) (hs : catS st ≤ 8) : ev 234 670 L (.int x2 :: .int x1 :: .int x0 :: .ref b :: st) h = (ev 114 0 [some (.ref b), some (.int x0), some (.int x1), some (.int x2)] [] h).bind fun q => ev 234 673 L (q.1.toList ++ st) q.2 := G_callv (k := 1) (p := 799) (ars := [.int x0, .int x1, .int x2]) f234_670 lkC_13_76 (by decide) (by decide +kernel) rfl (vcls_ob (ci := 10) (by decide) ho) (Nat.le_of_ble_eq_true rfl) hs rfl
theorem f234_673 : fetch 234 673 = some (.aload_n 2, 1) := vtab tk234_8 33 rfl
theorem e234_673 (l0 l1 : Option Value) (L : VL) (st : List Value) (h : VG) (x : Nat) : ev 234 673 (l0 :: l1 :: some (.ref x) :: L) (st) h = ev 234 674 (l0 :: l1 :: some (.ref x) :: L) (.ref x :: st) h := G_aload_n f234_673 rfl
theorem f234_674 : fetch 234 674 = some (.aload_n 0, 1) := vtab tk234_8 34 rfl
theorem e234_674 (L : VL) (st : List Value) (h : VG) (x : Nat) : ev 234 674 (some (.ref x) :: L) (st) h = ev 234 675 (some (.ref x) :: L) (.ref x :: st) h := G_aload_n f234_674 rfl
theorem f234_675 : fetch 234 675 = some (.iload_n 3, 1) := vtab tk234_8 35 rfl
theorem e234_675 (l0 l1 l2 : Option Value) (L : VL) (st : List Value) (h : VG) (x : Int32) : ev 234 675 (l0 :: l1 :: l2 :: some (.int x) :: L) (st) h = ev 234 676 (l0 :: l1 :: l2 :: some (.int x) :: L) (.int x :: st) h := G_iload_n f234_675 rfl
theorem f234_676 : fetch 234 676 = some (.iconst 1, 1) := vtab tk234_8 36 rfl
theorem e234_676 (L : VL) (st : List Value) (h : VG) : ev 234 676 L (st) h = ev 234 677 L (.int (1 : Int32) :: st) h := G_iconst f234_676 (by decide)
theorem f234_677 : fetch 234 677 = some (.iadd, 1) := vtab tk234_8 37 rfl
theorem e234_677 (L : VL) (st : List Value) (h : VG) (x y : Int32) : ev 234 677 L (.int y :: .int x :: st) h = ev 234 678 L (.int (x + y) :: st) h := G_iadd f234_677
theorem f234_678 : fetch 234 678 = some (.iaload, 1) := vtab tk234_8 38 rfl
theorem e234_678 (L : VL) (st : List Value) (h : VG) (a : Nat) (i : Int32) (ha : rdI h a) (hi : vp_in i (aln h a)) : ev 234 678 L (.int i :: .ref a :: st) h = ev 234 679 L (.int (aI h a i.toNatClampNeg) :: st) h := G_iald' f234_678 ha hi
theorem f234_679 : fetch 234 679 = some (.aload_n 0, 1) := vtab tk234_8 39 rfl
theorem e234_679 (L : VL) (st : List Value) (h : VG) (x : Nat) : ev 234 679 (some (.ref x) :: L) (st) h = ev 234 680 (some (.ref x) :: L) (.ref x :: st) h := G_aload_n f234_679 rfl
theorem f234_680 : fetch 234 680 = some (.iload_n 3, 1) := vtab tk234_8 40 rfl
theorem e234_680 (l0 l1 l2 : Option Value) (L : VL) (st : List Value) (h : VG) (x : Int32) : ev 234 680 (l0 :: l1 :: l2 :: some (.int x) :: L) (st) h = ev 234 681 (l0 :: l1 :: l2 :: some (.int x) :: L) (.int x :: st) h := G_iload_n f234_680 rfl
theorem f234_681 : fetch 234 681 = some (.iconst 2, 1) := vtab tk234_8 41 rfl
theorem e234_681 (L : VL) (st : List Value) (h : VG) : ev 234 681 L (st) h = ev 234 682 L (.int (2 : Int32) :: st) h := G_iconst f234_681 (by decide)
theorem f234_682 : fetch 234 682 = some (.iadd, 1) := vtab tk234_8 42 rfl
theorem e234_682 (L : VL) (st : List Value) (h : VG) (x y : Int32) : ev 234 682 L (.int y :: .int x :: st) h = ev 234 683 L (.int (x + y) :: st) h := G_iadd f234_682
theorem f234_683 : fetch 234 683 = some (.iaload, 1) := vtab tk234_8 43 rfl
theorem e234_683 (L : VL) (st : List Value) (h : VG) (a : Nat) (i : Int32) (ha : rdI h a) (hi : vp_in i (aln h a)) : ev 234 683 L (.int i :: .ref a :: st) h = ev 234 684 L (.int (aI h a i.toNatClampNeg) :: st) h := G_iald' f234_683 ha hi
theorem f234_684 : fetch 234 684 = some (.aload_n 0, 1) := vtab tk234_8 44 rfl
theorem e234_684 (L : VL) (st : List Value) (h : VG) (x : Nat) : ev 234 684 (some (.ref x) :: L) (st) h = ev 234 685 (some (.ref x) :: L) (.ref x :: st) h := G_aload_n f234_684 rfl
theorem f234_685 : fetch 234 685 = some (.iload_n 3, 1) := vtab tk234_8 45 rfl
theorem e234_685 (l0 l1 l2 : Option Value) (L : VL) (st : List Value) (h : VG) (x : Int32) : ev 234 685 (l0 :: l1 :: l2 :: some (.int x) :: L) (st) h = ev 234 686 (l0 :: l1 :: l2 :: some (.int x) :: L) (.int x :: st) h := G_iload_n f234_685 rfl
theorem f234_686 : fetch 234 686 = some (.iconst 3, 1) := vtab tk234_8 46 rfl
theorem e234_686 (L : VL) (st : List Value) (h : VG) : ev 234 686 L (st) h = ev 234 687 L (.int (3 : Int32) :: st) h := G_iconst f234_686 (by decide)
theorem f234_687 : fetch 234 687 = some (.iadd, 1) := vtab tk234_8 47 rfl
theorem e234_687 (L : VL) (st : List Value) (h : VG) (x y : Int32) : ev 234 687 L (.int y :: .int x :: st) h = ev 234 688 L (.int (x + y) :: st) h := G_iadd f234_687
theorem f234_688 : fetch 234 688 = some (.iaload, 1) := vtab tk234_8 48 rfl
theorem e234_688 (L : VL) (st : List Value) (h : VG) (a : Nat) (i : Int32) (ha : rdI h a) (hi : vp_in i (aln h a)) : ev 234 688 L (.int i :: .ref a :: st) h = ev 234 689 L (.int (aI h a i.toNatClampNeg) :: st) h := G_iald' f234_688 ha hi
theorem f234_689 : fetch 234 689 = some (.invokevirtual 79, 3) := vtab tk234_8 49 rfl
theorem e234_689 (L : VL) (st : List Value) (h : VG) (b : Nat) (x0 : Int32) (x1 : Int32) (x2 : Int32) (ho : ob h b 11) (hs : catS st ≤ 8) : ev 234 689 L (.int x2 :: .int x1 :: .int x0 :: .ref b :: st) h = (ev 193 0 [some (.ref b), some (.int x0), some (.int x1), some (.int x2)] [] h).bind fun q => ev 234 692 L (q.1.toList ++ st) q.2 := G_callv (k := 1) (p := 1421) (ars := [.int x0, .int x1, .int x2]) f234_689 lkC_13_79 (by decide) (by decide +kernel) rfl (vcls_ob (ci := 11) (by decide) ho) (Nat.le_of_ble_eq_true rfl) hs rfl
theorem f234_692 : fetch 234 692 = some (.lcmp, 1) := vtab tk234_9 0 rfl
theorem e234_692 (L : VL) (st : List Value) (h : VG) (x y : Int64) : ev 234 692 L (.long y :: .long x :: st) h = ev 234 693 L (.int (lg_cmp x y) :: st) h := G_lcmp f234_692
theorem f234_693 : fetch 234 693 = some (.ifCond .eq 708, 3) := vtab tk234_9 1 rfl
theorem e234_693 (L : VL) (st : List Value) (h : VG) (x : Int32) : ev 234 693 L (.int x :: st) h = if x = 0 then ev 234 1401 L st h else ev 234 696 L st h := G_if_eq f234_693 (by decide)
theorem f234_696 : fetch 234 696 = some (.iconst 0, 1) := vtab tk234_9 2 rfl
theorem e234_696 (L : VL) (st : List Value) (h : VG) : ev 234 696 L (st) h = ev 234 697 L (.int (0 : Int32) :: st) h := G_iconst f234_696 (by decide)
theorem f234_697 : fetch 234 697 = some (.ireturn, 1) := vtab tk234_9 3 rfl
theorem e234_697 (L : VL) (h : VG) (x : Int32) (hz : x = 0 ∨ x = 1) : ev 234 697 L [.int x] h = some (some (.int x), h) := G_iret f234_697 (ty := .boolean) (by decide) (vbool hz).1
theorem f234_698 : fetch 234 698 = some (.aload_n 1, 1) := vtab tk234_9 4 rfl
theorem e234_698 (l0 : Option Value) (L : VL) (st : List Value) (h : VG) (x : Nat) : ev 234 698 (l0 :: some (.ref x) :: L) (st) h = ev 234 699 (l0 :: some (.ref x) :: L) (.ref x :: st) h := G_aload_n f234_698 rfl
theorem f234_699 : fetch 234 699 = some (.aload_n 0, 1) := vtab tk234_9 5 rfl
theorem e234_699 (L : VL) (st : List Value) (h : VG) (x : Nat) : ev 234 699 (some (.ref x) :: L) (st) h = ev 234 700 (some (.ref x) :: L) (.ref x :: st) h := G_aload_n f234_699 rfl
theorem f234_700 : fetch 234 700 = some (.iload_n 3, 1) := vtab tk234_9 6 rfl
theorem e234_700 (l0 l1 l2 : Option Value) (L : VL) (st : List Value) (h : VG) (x : Int32) : ev 234 700 (l0 :: l1 :: l2 :: some (.int x) :: L) (st) h = ev 234 701 (l0 :: l1 :: l2 :: some (.int x) :: L) (.int x :: st) h := G_iload_n f234_700 rfl
theorem f234_701 : fetch 234 701 = some (.iconst 1, 1) := vtab tk234_9 7 rfl
theorem e234_701 (L : VL) (st : List Value) (h : VG) : ev 234 701 L (st) h = ev 234 702 L (.int (1 : Int32) :: st) h := G_iconst f234_701 (by decide)
theorem f234_702 : fetch 234 702 = some (.iadd, 1) := vtab tk234_9 8 rfl
theorem e234_702 (L : VL) (st : List Value) (h : VG) (x y : Int32) : ev 234 702 L (.int y :: .int x :: st) h = ev 234 703 L (.int (x + y) :: st) h := G_iadd f234_702
theorem f234_703 : fetch 234 703 = some (.iaload, 1) := vtab tk234_9 9 rfl
theorem e234_703 (L : VL) (st : List Value) (h : VG) (a : Nat) (i : Int32) (ha : rdI h a) (hi : vp_in i (aln h a)) : ev 234 703 L (.int i :: .ref a :: st) h = ev 234 704 L (.int (aI h a i.toNatClampNeg) :: st) h := G_iald' f234_703 ha hi
theorem f234_704 : fetch 234 704 = some (.aload_n 0, 1) := vtab tk234_9 10 rfl
theorem e234_704 (L : VL) (st : List Value) (h : VG) (x : Nat) : ev 234 704 (some (.ref x) :: L) (st) h = ev 234 705 (some (.ref x) :: L) (.ref x :: st) h := G_aload_n f234_704 rfl
theorem f234_705 : fetch 234 705 = some (.iload_n 3, 1) := vtab tk234_9 11 rfl
theorem e234_705 (l0 l1 l2 : Option Value) (L : VL) (st : List Value) (h : VG) (x : Int32) : ev 234 705 (l0 :: l1 :: l2 :: some (.int x) :: L) (st) h = ev 234 706 (l0 :: l1 :: l2 :: some (.int x) :: L) (.int x :: st) h := G_iload_n f234_705 rfl
theorem f234_706 : fetch 234 706 = some (.iconst 2, 1) := vtab tk234_9 12 rfl
theorem e234_706 (L : VL) (st : List Value) (h : VG) : ev 234 706 L (st) h = ev 234 707 L (.int (2 : Int32) :: st) h := G_iconst f234_706 (by decide)
theorem f234_707 : fetch 234 707 = some (.iadd, 1) := vtab tk234_9 13 rfl
theorem e234_707 (L : VL) (st : List Value) (h : VG) (x y : Int32) : ev 234 707 L (.int y :: .int x :: st) h = ev 234 708 L (.int (x + y) :: st) h := G_iadd f234_707
theorem f234_708 : fetch 234 708 = some (.iaload, 1) := vtab tk234_9 14 rfl
theorem e234_708 (L : VL) (st : List Value) (h : VG) (a : Nat) (i : Int32) (ha : rdI h a) (hi : vp_in i (aln h a)) : ev 234 708 L (.int i :: .ref a :: st) h = ev 234 709 L (.int (aI h a i.toNatClampNeg) :: st) h := G_iald' f234_708 ha hi
theorem f234_709 : fetch 234 709 = some (.aload_n 0, 1) := vtab tk234_9 15 rfl
theorem e234_709 (L : VL) (st : List Value) (h : VG) (x : Nat) : ev 234 709 (some (.ref x) :: L) (st) h = ev 234 710 (some (.ref x) :: L) (.ref x :: st) h := G_aload_n f234_709 rfl
theorem f234_710 : fetch 234 710 = some (.iload_n 3, 1) := vtab tk234_9 16 rfl
theorem e234_710 (l0 l1 l2 : Option Value) (L : VL) (st : List Value) (h : VG) (x : Int32) : ev 234 710 (l0 :: l1 :: l2 :: some (.int x) :: L) (st) h = ev 234 711 (l0 :: l1 :: l2 :: some (.int x) :: L) (.int x :: st) h := G_iload_n f234_710 rfl
theorem f234_711 : fetch 234 711 = some (.iconst 3, 1) := vtab tk234_9 17 rfl
theorem e234_711 (L : VL) (st : List Value) (h : VG) : ev 234 711 L (st) h = ev 234 712 L (.int (3 : Int32) :: st) h := G_iconst f234_711 (by decide)
theorem f234_712 : fetch 234 712 = some (.iadd, 1) := vtab tk234_9 18 rfl
theorem e234_712 (L : VL) (st : List Value) (h : VG) (x y : Int32) : ev 234 712 L (.int y :: .int x :: st) h = ev 234 713 L (.int (x + y) :: st) h := G_iadd f234_712
theorem f234_713 : fetch 234 713 = some (.iaload, 1) := vtab tk234_9 19 rfl
theorem e234_713 (L : VL) (st : List Value) (h : VG) (a : Nat) (i : Int32) (ha : rdI h a) (hi : vp_in i (aln h a)) : ev 234 713 L (.int i :: .ref a :: st) h = ev 234 714 L (.int (aI h a i.toNatClampNeg) :: st) h := G_iald' f234_713 ha hi
theorem f234_714 : fetch 234 714 = some (.aload_n 0, 1) := vtab tk234_9 20 rfl
theorem e234_714 (L : VL) (st : List Value) (h : VG) (x : Nat) : ev 234 714 (some (.ref x) :: L) (st) h = ev 234 715 (some (.ref x) :: L) (.ref x :: st) h := G_aload_n f234_714 rfl
theorem f234_715 : fetch 234 715 = some (.iload_n 3, 1) := vtab tk234_9 21 rfl
theorem e234_715 (l0 l1 l2 : Option Value) (L : VL) (st : List Value) (h : VG) (x : Int32) : ev 234 715 (l0 :: l1 :: l2 :: some (.int x) :: L) (st) h = ev 234 716 (l0 :: l1 :: l2 :: some (.int x) :: L) (.int x :: st) h := G_iload_n f234_715 rfl
theorem f234_716 : fetch 234 716 = some (.iconst 4, 1) := vtab tk234_9 22 rfl
theorem e234_716 (L : VL) (st : List Value) (h : VG) : ev 234 716 L (st) h = ev 234 717 L (.int (4 : Int32) :: st) h := G_iconst f234_716 (by decide)
theorem f234_717 : fetch 234 717 = some (.iadd, 1) := vtab tk234_9 23 rfl
theorem e234_717 (L : VL) (st : List Value) (h : VG) (x y : Int32) : ev 234 717 L (.int y :: .int x :: st) h = ev 234 718 L (.int (x + y) :: st) h := G_iadd f234_717
theorem f234_718 : fetch 234 718 = some (.iaload, 1) := vtab tk234_9 24 rfl
theorem e234_718 (L : VL) (st : List Value) (h : VG) (a : Nat) (i : Int32) (ha : rdI h a) (hi : vp_in i (aln h a)) : ev 234 718 L (.int i :: .ref a :: st) h = ev 234 719 L (.int (aI h a i.toNatClampNeg) :: st) h := G_iald' f234_718 ha hi
theorem f234_719 : fetch 234 719 = some (.i2l, 1) := vtab tk234_9 25 rfl
theorem e234_719 (L : VL) (st : List Value) (h : VG) (x : Int32) : ev 234 719 L (.int x :: st) h = ev 234 720 L (.long x.toInt64 :: st) h := G_i2l f234_719
theorem f234_720 : fetch 234 720 = some (.bipush 32, 2) := vtab tk234_9 26 rfl
theorem e234_720 (L : VL) (st : List Value) (h : VG) : ev 234 720 L (st) h = ev 234 722 L (.int (32 : Int32) :: st) h := G_bipush f234_720 (by decide)
theorem f234_722 : fetch 234 722 = some (.lshl, 1) := vtab tk234_9 27 rfl
theorem e234_722 (L : VL) (st : List Value) (h : VG) (x : Int64) (y : Int32) : ev 234 722 L (.int y :: .long x :: st) h = ev 234 723 L (.long (x <<< (y.toInt64 &&& 63)) :: st) h := G_lshl f234_722
theorem f234_723 : fetch 234 723 = some (.aload_n 0, 1) := vtab tk234_9 28 rfl
theorem e234_723 (L : VL) (st : List Value) (h : VG) (x : Nat) : ev 234 723 (some (.ref x) :: L) (st) h = ev 234 724 (some (.ref x) :: L) (.ref x :: st) h := G_aload_n f234_723 rfl
theorem f234_724 : fetch 234 724 = some (.iload_n 3, 1) := vtab tk234_9 29 rfl
theorem e234_724 (l0 l1 l2 : Option Value) (L : VL) (st : List Value) (h : VG) (x : Int32) : ev 234 724 (l0 :: l1 :: l2 :: some (.int x) :: L) (st) h = ev 234 725 (l0 :: l1 :: l2 :: some (.int x) :: L) (.int x :: st) h := G_iload_n f234_724 rfl
theorem f234_725 : fetch 234 725 = some (.iconst 5, 1) := vtab tk234_9 30 rfl
theorem e234_725 (L : VL) (st : List Value) (h : VG) : ev 234 725 L (st) h = ev 234 726 L (.int (5 : Int32) :: st) h := G_iconst f234_725 (by decide)
theorem f234_726 : fetch 234 726 = some (.iadd, 1) := vtab tk234_9 31 rfl
theorem e234_726 (L : VL) (st : List Value) (h : VG) (x y : Int32) : ev 234 726 L (.int y :: .int x :: st) h = ev 234 727 L (.int (x + y) :: st) h := G_iadd f234_726
theorem f234_727 : fetch 234 727 = some (.iaload, 1) := vtab tk234_9 32 rfl
theorem e234_727 (L : VL) (st : List Value) (h : VG) (a : Nat) (i : Int32) (ha : rdI h a) (hi : vp_in i (aln h a)) : ev 234 727 L (.int i :: .ref a :: st) h = ev 234 728 L (.int (aI h a i.toNatClampNeg) :: st) h := G_iald' f234_727 ha hi
theorem f234_728 : fetch 234 728 = some (.i2l, 1) := vtab tk234_9 33 rfl
theorem e234_728 (L : VL) (st : List Value) (h : VG) (x : Int32) : ev 234 728 L (.int x :: st) h = ev 234 729 L (.long x.toInt64 :: st) h := G_i2l f234_728
theorem f234_729 : fetch 234 729 = some (.ldc2_w 69, 3) := vtab tk234_9 34 rfl
theorem e234_729 (L : VL) (st : List Value) (h : VG) : ev 234 729 L (st) h = ev 234 732 L (.long 4294967295 :: st) h := G_ldc2l (p := 1591) f234_729 lkK_13_69
theorem f234_732 : fetch 234 732 = some (.land, 1) := vtab tk234_9 35 rfl
theorem e234_732 (L : VL) (st : List Value) (h : VG) (x y : Int64) : ev 234 732 L (.long y :: .long x :: st) h = ev 234 733 L (.long (x &&& y) :: st) h := G_land f234_732
theorem f234_733 : fetch 234 733 = some (.lor, 1) := vtab tk234_9 36 rfl
theorem e234_733 (L : VL) (st : List Value) (h : VG) (x y : Int64) : ev 234 733 L (.long y :: .long x :: st) h = ev 234 734 L (.long (x ||| y) :: st) h := G_lor f234_733
theorem f234_734 : fetch 234 734 = some (.invokevirtual 80, 3) := vtab tk234_9 37 rfl
theorem e234_734 (L : VL) (st : List Value) (h : VG) (b : Nat) (x0 : Int32) (x1 : Int32) (x2 : Int32) (x3 : Int64) (ho : ob h b 10) (hs : catS st ≤ 8) : ev 234 734 L (.long x3 :: .int x2 :: .int x1 :: .int x0 :: .ref b :: st) h = (ev 115 0 [some (.ref b), some (.int x0), some (.int x1), some (.int x2), some (.long x3), none, none] [] h).bind fun q => ev 234 737 L (q.1.toList ++ st) q.2 := G_callv (k := 1) (p := 810) (ars := [.int x0, .int x1, .int x2, .long x3]) f234_734 lkC_13_80 (by decide) (by decide +kernel) rfl (vcls_ob (ci := 10) (by decide) ho) (Nat.le_of_ble_eq_true rfl) hs rfl
theorem f234_737 : fetch 234 737 = some (.aload_n 2, 1) := vtab tk234_9 38 rfl
theorem e234_737 (l0 l1 : Option Value) (L : VL) (st : List Value) (h : VG) (x : Nat) : ev 234 737 (l0 :: l1 :: some (.ref x) :: L) (st) h = ev 234 738 (l0 :: l1 :: some (.ref x) :: L) (.ref x :: st) h := G_aload_n f234_737 rfl
theorem f234_738 : fetch 234 738 = some (.aload_n 0, 1) := vtab tk234_9 39 rfl
theorem e234_738 (L : VL) (st : List Value) (h : VG) (x : Nat) : ev 234 738 (some (.ref x) :: L) (st) h = ev 234 739 (some (.ref x) :: L) (.ref x :: st) h := G_aload_n f234_738 rfl
theorem f234_739 : fetch 234 739 = some (.iload_n 3, 1) := vtab tk234_9 40 rfl
theorem e234_739 (l0 l1 l2 : Option Value) (L : VL) (st : List Value) (h : VG) (x : Int32) : ev 234 739 (l0 :: l1 :: l2 :: some (.int x) :: L) (st) h = ev 234 740 (l0 :: l1 :: l2 :: some (.int x) :: L) (.int x :: st) h := G_iload_n f234_739 rfl
theorem f234_740 : fetch 234 740 = some (.iconst 1, 1) := vtab tk234_9 41 rfl
theorem e234_740 (L : VL) (st : List Value) (h : VG) : ev 234 740 L (st) h = ev 234 741 L (.int (1 : Int32) :: st) h := G_iconst f234_740 (by decide)
theorem f234_741 : fetch 234 741 = some (.iadd, 1) := vtab tk234_9 42 rfl
theorem e234_741 (L : VL) (st : List Value) (h : VG) (x y : Int32) : ev 234 741 L (.int y :: .int x :: st) h = ev 234 742 L (.int (x + y) :: st) h := G_iadd f234_741
theorem f234_742 : fetch 234 742 = some (.iaload, 1) := vtab tk234_9 43 rfl
theorem e234_742 (L : VL) (st : List Value) (h : VG) (a : Nat) (i : Int32) (ha : rdI h a) (hi : vp_in i (aln h a)) : ev 234 742 L (.int i :: .ref a :: st) h = ev 234 743 L (.int (aI h a i.toNatClampNeg) :: st) h := G_iald' f234_742 ha hi
theorem f234_743 : fetch 234 743 = some (.aload_n 0, 1) := vtab tk234_9 44 rfl
theorem e234_743 (L : VL) (st : List Value) (h : VG) (x : Nat) : ev 234 743 (some (.ref x) :: L) (st) h = ev 234 744 (some (.ref x) :: L) (.ref x :: st) h := G_aload_n f234_743 rfl
theorem f234_744 : fetch 234 744 = some (.iload_n 3, 1) := vtab tk234_9 45 rfl
theorem e234_744 (l0 l1 l2 : Option Value) (L : VL) (st : List Value) (h : VG) (x : Int32) : ev 234 744 (l0 :: l1 :: l2 :: some (.int x) :: L) (st) h = ev 234 745 (l0 :: l1 :: l2 :: some (.int x) :: L) (.int x :: st) h := G_iload_n f234_744 rfl
theorem f234_745 : fetch 234 745 = some (.iconst 2, 1) := vtab tk234_9 46 rfl
theorem e234_745 (L : VL) (st : List Value) (h : VG) : ev 234 745 L (st) h = ev 234 746 L (.int (2 : Int32) :: st) h := G_iconst f234_745 (by decide)
theorem f234_746 : fetch 234 746 = some (.iadd, 1) := vtab tk234_9 47 rfl
theorem e234_746 (L : VL) (st : List Value) (h : VG) (x y : Int32) : ev 234 746 L (.int y :: .int x :: st) h = ev 234 747 L (.int (x + y) :: st) h := G_iadd f234_746
theorem f234_747 : fetch 234 747 = some (.iaload, 1) := vtab tk234_9 48 rfl
theorem e234_747 (L : VL) (st : List Value) (h : VG) (a : Nat) (i : Int32) (ha : rdI h a) (hi : vp_in i (aln h a)) : ev 234 747 L (.int i :: .ref a :: st) h = ev 234 748 L (.int (aI h a i.toNatClampNeg) :: st) h := G_iald' f234_747 ha hi
theorem f234_748 : fetch 234 748 = some (.aload_n 0, 1) := vtab tk234_9 49 rfl
theorem e234_748 (L : VL) (st : List Value) (h : VG) (x : Nat) : ev 234 748 (some (.ref x) :: L) (st) h = ev 234 749 (some (.ref x) :: L) (.ref x :: st) h := G_aload_n f234_748 rfl
theorem f234_749 : fetch 234 749 = some (.iload_n 3, 1) := vtab tk234_10 0 rfl
theorem e234_749 (l0 l1 l2 : Option Value) (L : VL) (st : List Value) (h : VG) (x : Int32) : ev 234 749 (l0 :: l1 :: l2 :: some (.int x) :: L) (st) h = ev 234 750 (l0 :: l1 :: l2 :: some (.int x) :: L) (.int x :: st) h := G_iload_n f234_749 rfl
theorem f234_750 : fetch 234 750 = some (.iconst 3, 1) := vtab tk234_10 1 rfl
theorem e234_750 (L : VL) (st : List Value) (h : VG) : ev 234 750 L (st) h = ev 234 751 L (.int (3 : Int32) :: st) h := G_iconst f234_750 (by decide)
theorem f234_751 : fetch 234 751 = some (.iadd, 1) := vtab tk234_10 2 rfl
theorem e234_751 (L : VL) (st : List Value) (h : VG) (x y : Int32) : ev 234 751 L (.int y :: .int x :: st) h = ev 234 752 L (.int (x + y) :: st) h := G_iadd f234_751
theorem f234_752 : fetch 234 752 = some (.iaload, 1) := vtab tk234_10 3 rfl
theorem e234_752 (L : VL) (st : List Value) (h : VG) (a : Nat) (i : Int32) (ha : rdI h a) (hi : vp_in i (aln h a)) : ev 234 752 L (.int i :: .ref a :: st) h = ev 234 753 L (.int (aI h a i.toNatClampNeg) :: st) h := G_iald' f234_752 ha hi
theorem f234_753 : fetch 234 753 = some (.aload_n 0, 1) := vtab tk234_10 4 rfl
theorem e234_753 (L : VL) (st : List Value) (h : VG) (x : Nat) : ev 234 753 (some (.ref x) :: L) (st) h = ev 234 754 (some (.ref x) :: L) (.ref x :: st) h := G_aload_n f234_753 rfl
theorem f234_754 : fetch 234 754 = some (.iload_n 3, 1) := vtab tk234_10 5 rfl
theorem e234_754 (l0 l1 l2 : Option Value) (L : VL) (st : List Value) (h : VG) (x : Int32) : ev 234 754 (l0 :: l1 :: l2 :: some (.int x) :: L) (st) h = ev 234 755 (l0 :: l1 :: l2 :: some (.int x) :: L) (.int x :: st) h := G_iload_n f234_754 rfl
theorem f234_755 : fetch 234 755 = some (.iconst 4, 1) := vtab tk234_10 6 rfl
theorem e234_755 (L : VL) (st : List Value) (h : VG) : ev 234 755 L (st) h = ev 234 756 L (.int (4 : Int32) :: st) h := G_iconst f234_755 (by decide)
theorem f234_756 : fetch 234 756 = some (.iadd, 1) := vtab tk234_10 7 rfl
theorem e234_756 (L : VL) (st : List Value) (h : VG) (x y : Int32) : ev 234 756 L (.int y :: .int x :: st) h = ev 234 757 L (.int (x + y) :: st) h := G_iadd f234_756
theorem f234_757 : fetch 234 757 = some (.iaload, 1) := vtab tk234_10 8 rfl
theorem e234_757 (L : VL) (st : List Value) (h : VG) (a : Nat) (i : Int32) (ha : rdI h a) (hi : vp_in i (aln h a)) : ev 234 757 L (.int i :: .ref a :: st) h = ev 234 758 L (.int (aI h a i.toNatClampNeg) :: st) h := G_iald' f234_757 ha hi
theorem f234_758 : fetch 234 758 = some (.i2l, 1) := vtab tk234_10 9 rfl
theorem e234_758 (L : VL) (st : List Value) (h : VG) (x : Int32) : ev 234 758 L (.int x :: st) h = ev 234 759 L (.long x.toInt64 :: st) h := G_i2l f234_758
theorem f234_759 : fetch 234 759 = some (.bipush 32, 2) := vtab tk234_10 10 rfl
theorem e234_759 (L : VL) (st : List Value) (h : VG) : ev 234 759 L (st) h = ev 234 761 L (.int (32 : Int32) :: st) h := G_bipush f234_759 (by decide)
theorem f234_761 : fetch 234 761 = some (.lshl, 1) := vtab tk234_10 11 rfl
theorem e234_761 (L : VL) (st : List Value) (h : VG) (x : Int64) (y : Int32) : ev 234 761 L (.int y :: .long x :: st) h = ev 234 762 L (.long (x <<< (y.toInt64 &&& 63)) :: st) h := G_lshl f234_761
theorem f234_762 : fetch 234 762 = some (.aload_n 0, 1) := vtab tk234_10 12 rfl
theorem e234_762 (L : VL) (st : List Value) (h : VG) (x : Nat) : ev 234 762 (some (.ref x) :: L) (st) h = ev 234 763 (some (.ref x) :: L) (.ref x :: st) h := G_aload_n f234_762 rfl
theorem f234_763 : fetch 234 763 = some (.iload_n 3, 1) := vtab tk234_10 13 rfl
theorem e234_763 (l0 l1 l2 : Option Value) (L : VL) (st : List Value) (h : VG) (x : Int32) : ev 234 763 (l0 :: l1 :: l2 :: some (.int x) :: L) (st) h = ev 234 764 (l0 :: l1 :: l2 :: some (.int x) :: L) (.int x :: st) h := G_iload_n f234_763 rfl
theorem f234_764 : fetch 234 764 = some (.iconst 5, 1) := vtab tk234_10 14 rfl
theorem e234_764 (L : VL) (st : List Value) (h : VG) : ev 234 764 L (st) h = ev 234 765 L (.int (5 : Int32) :: st) h := G_iconst f234_764 (by decide)
theorem f234_765 : fetch 234 765 = some (.iadd, 1) := vtab tk234_10 15 rfl
theorem e234_765 (L : VL) (st : List Value) (h : VG) (x y : Int32) : ev 234 765 L (.int y :: .int x :: st) h = ev 234 766 L (.int (x + y) :: st) h := G_iadd f234_765
theorem f234_766 : fetch 234 766 = some (.iaload, 1) := vtab tk234_10 16 rfl
theorem e234_766 (L : VL) (st : List Value) (h : VG) (a : Nat) (i : Int32) (ha : rdI h a) (hi : vp_in i (aln h a)) : ev 234 766 L (.int i :: .ref a :: st) h = ev 234 767 L (.int (aI h a i.toNatClampNeg) :: st) h := G_iald' f234_766 ha hi
theorem f234_767 : fetch 234 767 = some (.i2l, 1) := vtab tk234_10 17 rfl
theorem e234_767 (L : VL) (st : List Value) (h : VG) (x : Int32) : ev 234 767 L (.int x :: st) h = ev 234 768 L (.long x.toInt64 :: st) h := G_i2l f234_767
theorem f234_768 : fetch 234 768 = some (.ldc2_w 69, 3) := vtab tk234_10 18 rfl
theorem e234_768 (L : VL) (st : List Value) (h : VG) : ev 234 768 L (st) h = ev 234 771 L (.long 4294967295 :: st) h := G_ldc2l (p := 1591) f234_768 lkK_13_69
theorem f234_771 : fetch 234 771 = some (.land, 1) := vtab tk234_10 19 rfl
theorem e234_771 (L : VL) (st : List Value) (h : VG) (x y : Int64) : ev 234 771 L (.long y :: .long x :: st) h = ev 234 772 L (.long (x &&& y) :: st) h := G_land f234_771
theorem f234_772 : fetch 234 772 = some (.lor, 1) := vtab tk234_10 20 rfl
theorem e234_772 (L : VL) (st : List Value) (h : VG) (x y : Int64) : ev 234 772 L (.long y :: .long x :: st) h = ev 234 773 L (.long (x ||| y) :: st) h := G_lor f234_772
theorem f234_773 : fetch 234 773 = some (.invokevirtual 83, 3) := vtab tk234_10 21 rfl
theorem e234_773 (L : VL) (st : List Value) (h : VG) (b : Nat) (x0 : Int32) (x1 : Int32) (x2 : Int32) (x3 : Int64) (ho : ob h b 11) (hs : catS st ≤ 8) : ev 234 773 L (.long x3 :: .int x2 :: .int x1 :: .int x0 :: .ref b :: st) h = (ev 195 0 [some (.ref b), some (.int x0), some (.int x1), some (.int x2), some (.long x3), none] [] h).bind fun q => ev 234 776 L (q.1.toList ++ st) q.2 := G_callv (k := 1) (p := 1426) (ars := [.int x0, .int x1, .int x2, .long x3]) f234_773 lkC_13_83 (by decide) (by decide +kernel) rfl (vcls_ob (ci := 11) (by decide) ho) (Nat.le_of_ble_eq_true rfl) hs rfl
theorem f234_776 : fetch 234 776 = some (.if_icmp .eq 625, 3) := vtab tk234_10 22 rfl
theorem e234_776 (L : VL) (st : List Value) (h : VG) (x y : Int32) : ev 234 776 L (.int y :: .int x :: st) h = if x = y then ev 234 1401 L st h else ev 234 779 L st h := G_icmp_eq f234_776 (by decide)
theorem f234_779 : fetch 234 779 = some (.iconst 0, 1) := vtab tk234_10 23 rfl
theorem e234_779 (L : VL) (st : List Value) (h : VG) : ev 234 779 L (st) h = ev 234 780 L (.int (0 : Int32) :: st) h := G_iconst f234_779 (by decide)
theorem f234_780 : fetch 234 780 = some (.ireturn, 1) := vtab tk234_10 24 rfl
theorem e234_780 (L : VL) (h : VG) (x : Int32) (hz : x = 0 ∨ x = 1) : ev 234 780 L [.int x] h = some (some (.int x), h) := G_iret f234_780 (ty := .boolean) (by decide) (vbool hz).1
theorem f234_781 : fetch 234 781 = some (.aload_n 1, 1) := vtab tk234_10 25 rfl
theorem e234_781 (l0 : Option Value) (L : VL) (st : List Value) (h : VG) (x : Nat) : ev 234 781 (l0 :: some (.ref x) :: L) (st) h = ev 234 782 (l0 :: some (.ref x) :: L) (.ref x :: st) h := G_aload_n f234_781 rfl
theorem f234_782 : fetch 234 782 = some (.aload_n 0, 1) := vtab tk234_10 26 rfl
theorem e234_782 (L : VL) (st : List Value) (h : VG) (x : Nat) : ev 234 782 (some (.ref x) :: L) (st) h = ev 234 783 (some (.ref x) :: L) (.ref x :: st) h := G_aload_n f234_782 rfl
theorem f234_783 : fetch 234 783 = some (.iload_n 3, 1) := vtab tk234_10 27 rfl
theorem e234_783 (l0 l1 l2 : Option Value) (L : VL) (st : List Value) (h : VG) (x : Int32) : ev 234 783 (l0 :: l1 :: l2 :: some (.int x) :: L) (st) h = ev 234 784 (l0 :: l1 :: l2 :: some (.int x) :: L) (.int x :: st) h := G_iload_n f234_783 rfl
theorem f234_784 : fetch 234 784 = some (.iconst 1, 1) := vtab tk234_10 28 rfl
theorem e234_784 (L : VL) (st : List Value) (h : VG) : ev 234 784 L (st) h = ev 234 785 L (.int (1 : Int32) :: st) h := G_iconst f234_784 (by decide)
theorem f234_785 : fetch 234 785 = some (.iadd, 1) := vtab tk234_10 29 rfl
theorem e234_785 (L : VL) (st : List Value) (h : VG) (x y : Int32) : ev 234 785 L (.int y :: .int x :: st) h = ev 234 786 L (.int (x + y) :: st) h := G_iadd f234_785
theorem f234_786 : fetch 234 786 = some (.iaload, 1) := vtab tk234_10 30 rfl
theorem e234_786 (L : VL) (st : List Value) (h : VG) (a : Nat) (i : Int32) (ha : rdI h a) (hi : vp_in i (aln h a)) : ev 234 786 L (.int i :: .ref a :: st) h = ev 234 787 L (.int (aI h a i.toNatClampNeg) :: st) h := G_iald' f234_786 ha hi
theorem f234_787 : fetch 234 787 = some (.aload_n 0, 1) := vtab tk234_10 31 rfl
theorem e234_787 (L : VL) (st : List Value) (h : VG) (x : Nat) : ev 234 787 (some (.ref x) :: L) (st) h = ev 234 788 (some (.ref x) :: L) (.ref x :: st) h := G_aload_n f234_787 rfl
theorem f234_788 : fetch 234 788 = some (.iload_n 3, 1) := vtab tk234_10 32 rfl
theorem e234_788 (l0 l1 l2 : Option Value) (L : VL) (st : List Value) (h : VG) (x : Int32) : ev 234 788 (l0 :: l1 :: l2 :: some (.int x) :: L) (st) h = ev 234 789 (l0 :: l1 :: l2 :: some (.int x) :: L) (.int x :: st) h := G_iload_n f234_788 rfl
theorem f234_789 : fetch 234 789 = some (.iconst 2, 1) := vtab tk234_10 33 rfl
theorem e234_789 (L : VL) (st : List Value) (h : VG) : ev 234 789 L (st) h = ev 234 790 L (.int (2 : Int32) :: st) h := G_iconst f234_789 (by decide)
theorem f234_790 : fetch 234 790 = some (.iadd, 1) := vtab tk234_10 34 rfl
theorem e234_790 (L : VL) (st : List Value) (h : VG) (x y : Int32) : ev 234 790 L (.int y :: .int x :: st) h = ev 234 791 L (.int (x + y) :: st) h := G_iadd f234_790
theorem f234_791 : fetch 234 791 = some (.iaload, 1) := vtab tk234_10 35 rfl
theorem e234_791 (L : VL) (st : List Value) (h : VG) (a : Nat) (i : Int32) (ha : rdI h a) (hi : vp_in i (aln h a)) : ev 234 791 L (.int i :: .ref a :: st) h = ev 234 792 L (.int (aI h a i.toNatClampNeg) :: st) h := G_iald' f234_791 ha hi
theorem f234_792 : fetch 234 792 = some (.aload_n 0, 1) := vtab tk234_10 36 rfl
theorem e234_792 (L : VL) (st : List Value) (h : VG) (x : Nat) : ev 234 792 (some (.ref x) :: L) (st) h = ev 234 793 (some (.ref x) :: L) (.ref x :: st) h := G_aload_n f234_792 rfl
theorem f234_793 : fetch 234 793 = some (.iload_n 3, 1) := vtab tk234_10 37 rfl
theorem e234_793 (l0 l1 l2 : Option Value) (L : VL) (st : List Value) (h : VG) (x : Int32) : ev 234 793 (l0 :: l1 :: l2 :: some (.int x) :: L) (st) h = ev 234 794 (l0 :: l1 :: l2 :: some (.int x) :: L) (.int x :: st) h := G_iload_n f234_793 rfl
theorem f234_794 : fetch 234 794 = some (.iconst 3, 1) := vtab tk234_10 38 rfl
theorem e234_794 (L : VL) (st : List Value) (h : VG) : ev 234 794 L (st) h = ev 234 795 L (.int (3 : Int32) :: st) h := G_iconst f234_794 (by decide)
theorem f234_795 : fetch 234 795 = some (.iadd, 1) := vtab tk234_10 39 rfl
theorem e234_795 (L : VL) (st : List Value) (h : VG) (x y : Int32) : ev 234 795 L (.int y :: .int x :: st) h = ev 234 796 L (.int (x + y) :: st) h := G_iadd f234_795
theorem f234_796 : fetch 234 796 = some (.iaload, 1) := vtab tk234_10 40 rfl
theorem e234_796 (L : VL) (st : List Value) (h : VG) (a : Nat) (i : Int32) (ha : rdI h a) (hi : vp_in i (aln h a)) : ev 234 796 L (.int i :: .ref a :: st) h = ev 234 797 L (.int (aI h a i.toNatClampNeg) :: st) h := G_iald' f234_796 ha hi
theorem f234_797 : fetch 234 797 = some (.aload_n 0, 1) := vtab tk234_10 41 rfl
theorem e234_797 (L : VL) (st : List Value) (h : VG) (x : Nat) : ev 234 797 (some (.ref x) :: L) (st) h = ev 234 798 (some (.ref x) :: L) (.ref x :: st) h := G_aload_n f234_797 rfl
theorem f234_798 : fetch 234 798 = some (.iload_n 3, 1) := vtab tk234_10 42 rfl
theorem e234_798 (l0 l1 l2 : Option Value) (L : VL) (st : List Value) (h : VG) (x : Int32) : ev 234 798 (l0 :: l1 :: l2 :: some (.int x) :: L) (st) h = ev 234 799 (l0 :: l1 :: l2 :: some (.int x) :: L) (.int x :: st) h := G_iload_n f234_798 rfl
theorem f234_799 : fetch 234 799 = some (.iconst 4, 1) := vtab tk234_10 43 rfl
theorem e234_799 (L : VL) (st : List Value) (h : VG) : ev 234 799 L (st) h = ev 234 800 L (.int (4 : Int32) :: st) h := G_iconst f234_799 (by decide)
theorem f234_800 : fetch 234 800 = some (.iadd, 1) := vtab tk234_10 44 rfl
theorem e234_800 (L : VL) (st : List Value) (h : VG) (x y : Int32) : ev 234 800 L (.int y :: .int x :: st) h = ev 234 801 L (.int (x + y) :: st) h := G_iadd f234_800
theorem f234_801 : fetch 234 801 = some (.iaload, 1) := vtab tk234_10 45 rfl
theorem e234_801 (L : VL) (st : List Value) (h : VG) (a : Nat) (i : Int32) (ha : rdI h a) (hi : vp_in i (aln h a)) : ev 234 801 L (.int i :: .ref a :: st) h = ev 234 802 L (.int (aI h a i.toNatClampNeg) :: st) h := G_iald' f234_801 ha hi
theorem f234_802 : fetch 234 802 = some (.aload_n 0, 1) := vtab tk234_10 46 rfl
theorem e234_802 (L : VL) (st : List Value) (h : VG) (x : Nat) : ev 234 802 (some (.ref x) :: L) (st) h = ev 234 803 (some (.ref x) :: L) (.ref x :: st) h := G_aload_n f234_802 rfl
theorem f234_803 : fetch 234 803 = some (.iload_n 3, 1) := vtab tk234_10 47 rfl
theorem e234_803 (l0 l1 l2 : Option Value) (L : VL) (st : List Value) (h : VG) (x : Int32) : ev 234 803 (l0 :: l1 :: l2 :: some (.int x) :: L) (st) h = ev 234 804 (l0 :: l1 :: l2 :: some (.int x) :: L) (.int x :: st) h := G_iload_n f234_803 rfl
theorem f234_804 : fetch 234 804 = some (.iconst 5, 1) := vtab tk234_10 48 rfl
theorem e234_804 (L : VL) (st : List Value) (h : VG) : ev 234 804 L (st) h = ev 234 805 L (.int (5 : Int32) :: st) h := G_iconst f234_804 (by decide)
theorem f234_805 : fetch 234 805 = some (.iadd, 1) := vtab tk234_10 49 rfl
theorem e234_805 (L : VL) (st : List Value) (h : VG) (x y : Int32) : ev 234 805 L (.int y :: .int x :: st) h = ev 234 806 L (.int (x + y) :: st) h := G_iadd f234_805
theorem f234_806 : fetch 234 806 = some (.iaload, 1) := vtab tk234_11 0 rfl
theorem e234_806 (L : VL) (st : List Value) (h : VG) (a : Nat) (i : Int32) (ha : rdI h a) (hi : vp_in i (aln h a)) : ev 234 806 L (.int i :: .ref a :: st) h = ev 234 807 L (.int (aI h a i.toNatClampNeg) :: st) h := G_iald' f234_806 ha hi
theorem f234_807 : fetch 234 807 = some (.aload_n 0, 1) := vtab tk234_11 1 rfl
theorem e234_807 (L : VL) (st : List Value) (h : VG) (x : Nat) : ev 234 807 (some (.ref x) :: L) (st) h = ev 234 808 (some (.ref x) :: L) (.ref x :: st) h := G_aload_n f234_807 rfl
theorem f234_808 : fetch 234 808 = some (.iload_n 3, 1) := vtab tk234_11 2 rfl
theorem e234_808 (l0 l1 l2 : Option Value) (L : VL) (st : List Value) (h : VG) (x : Int32) : ev 234 808 (l0 :: l1 :: l2 :: some (.int x) :: L) (st) h = ev 234 809 (l0 :: l1 :: l2 :: some (.int x) :: L) (.int x :: st) h := G_iload_n f234_808 rfl
theorem f234_809 : fetch 234 809 = some (.bipush 6, 2) := vtab tk234_11 3 rfl
theorem e234_809 (L : VL) (st : List Value) (h : VG) : ev 234 809 L (st) h = ev 234 811 L (.int (6 : Int32) :: st) h := G_bipush f234_809 (by decide)
theorem f234_811 : fetch 234 811 = some (.iadd, 1) := vtab tk234_11 4 rfl
theorem e234_811 (L : VL) (st : List Value) (h : VG) (x y : Int32) : ev 234 811 L (.int y :: .int x :: st) h = ev 234 812 L (.int (x + y) :: st) h := G_iadd f234_811
theorem f234_812 : fetch 234 812 = some (.iaload, 1) := vtab tk234_11 5 rfl
theorem e234_812 (L : VL) (st : List Value) (h : VG) (a : Nat) (i : Int32) (ha : rdI h a) (hi : vp_in i (aln h a)) : ev 234 812 L (.int i :: .ref a :: st) h = ev 234 813 L (.int (aI h a i.toNatClampNeg) :: st) h := G_iald' f234_812 ha hi
theorem f234_813 : fetch 234 813 = some (.invokevirtual 84, 3) := vtab tk234_11 6 rfl
theorem e234_813 (L : VL) (st : List Value) (h : VG) (b : Nat) (x0 : Int32) (x1 : Int32) (x2 : Int32) (x3 : Int32) (x4 : Int32) (x5 : Int32) (ho : ob h b 10) (hs : catS st ≤ 8) : ev 234 813 L (.int x5 :: .int x4 :: .int x3 :: .int x2 :: .int x1 :: .int x0 :: .ref b :: st) h = (ev 117 0 [some (.ref b), some (.int x0), some (.int x1), some (.int x2), some (.int x3), some (.int x4), some (.int x5), none, none, none, none] [] h).bind fun q => ev 234 816 L (q.1.toList ++ st) q.2 := G_callv (k := 1) (p := 827) (ars := [.int x0, .int x1, .int x2, .int x3, .int x4, .int x5]) f234_813 lkC_13_84 (by decide) (by decide +kernel) rfl (vcls_ob (ci := 10) (by decide) ho) (Nat.le_of_ble_eq_true rfl) hs rfl
theorem f234_816 : fetch 234 816 = some (.aload_n 2, 1) := vtab tk234_11 7 rfl
theorem e234_816 (l0 l1 : Option Value) (L : VL) (st : List Value) (h : VG) (x : Nat) : ev 234 816 (l0 :: l1 :: some (.ref x) :: L) (st) h = ev 234 817 (l0 :: l1 :: some (.ref x) :: L) (.ref x :: st) h := G_aload_n f234_816 rfl
theorem f234_817 : fetch 234 817 = some (.aload_n 0, 1) := vtab tk234_11 8 rfl
theorem e234_817 (L : VL) (st : List Value) (h : VG) (x : Nat) : ev 234 817 (some (.ref x) :: L) (st) h = ev 234 818 (some (.ref x) :: L) (.ref x :: st) h := G_aload_n f234_817 rfl
theorem f234_818 : fetch 234 818 = some (.iload_n 3, 1) := vtab tk234_11 9 rfl
theorem e234_818 (l0 l1 l2 : Option Value) (L : VL) (st : List Value) (h : VG) (x : Int32) : ev 234 818 (l0 :: l1 :: l2 :: some (.int x) :: L) (st) h = ev 234 819 (l0 :: l1 :: l2 :: some (.int x) :: L) (.int x :: st) h := G_iload_n f234_818 rfl
theorem f234_819 : fetch 234 819 = some (.iconst 1, 1) := vtab tk234_11 10 rfl
theorem e234_819 (L : VL) (st : List Value) (h : VG) : ev 234 819 L (st) h = ev 234 820 L (.int (1 : Int32) :: st) h := G_iconst f234_819 (by decide)
theorem f234_820 : fetch 234 820 = some (.iadd, 1) := vtab tk234_11 11 rfl
theorem e234_820 (L : VL) (st : List Value) (h : VG) (x y : Int32) : ev 234 820 L (.int y :: .int x :: st) h = ev 234 821 L (.int (x + y) :: st) h := G_iadd f234_820
theorem f234_821 : fetch 234 821 = some (.iaload, 1) := vtab tk234_11 12 rfl
theorem e234_821 (L : VL) (st : List Value) (h : VG) (a : Nat) (i : Int32) (ha : rdI h a) (hi : vp_in i (aln h a)) : ev 234 821 L (.int i :: .ref a :: st) h = ev 234 822 L (.int (aI h a i.toNatClampNeg) :: st) h := G_iald' f234_821 ha hi
theorem f234_822 : fetch 234 822 = some (.aload_n 0, 1) := vtab tk234_11 13 rfl
theorem e234_822 (L : VL) (st : List Value) (h : VG) (x : Nat) : ev 234 822 (some (.ref x) :: L) (st) h = ev 234 823 (some (.ref x) :: L) (.ref x :: st) h := G_aload_n f234_822 rfl
theorem f234_823 : fetch 234 823 = some (.iload_n 3, 1) := vtab tk234_11 14 rfl
theorem e234_823 (l0 l1 l2 : Option Value) (L : VL) (st : List Value) (h : VG) (x : Int32) : ev 234 823 (l0 :: l1 :: l2 :: some (.int x) :: L) (st) h = ev 234 824 (l0 :: l1 :: l2 :: some (.int x) :: L) (.int x :: st) h := G_iload_n f234_823 rfl
theorem f234_824 : fetch 234 824 = some (.iconst 2, 1) := vtab tk234_11 15 rfl
theorem e234_824 (L : VL) (st : List Value) (h : VG) : ev 234 824 L (st) h = ev 234 825 L (.int (2 : Int32) :: st) h := G_iconst f234_824 (by decide)
theorem f234_825 : fetch 234 825 = some (.iadd, 1) := vtab tk234_11 16 rfl
theorem e234_825 (L : VL) (st : List Value) (h : VG) (x y : Int32) : ev 234 825 L (.int y :: .int x :: st) h = ev 234 826 L (.int (x + y) :: st) h := G_iadd f234_825
theorem f234_826 : fetch 234 826 = some (.iaload, 1) := vtab tk234_11 17 rfl
theorem e234_826 (L : VL) (st : List Value) (h : VG) (a : Nat) (i : Int32) (ha : rdI h a) (hi : vp_in i (aln h a)) : ev 234 826 L (.int i :: .ref a :: st) h = ev 234 827 L (.int (aI h a i.toNatClampNeg) :: st) h := G_iald' f234_826 ha hi
theorem f234_827 : fetch 234 827 = some (.aload_n 0, 1) := vtab tk234_11 18 rfl
theorem e234_827 (L : VL) (st : List Value) (h : VG) (x : Nat) : ev 234 827 (some (.ref x) :: L) (st) h = ev 234 828 (some (.ref x) :: L) (.ref x :: st) h := G_aload_n f234_827 rfl
theorem f234_828 : fetch 234 828 = some (.iload_n 3, 1) := vtab tk234_11 19 rfl
theorem e234_828 (l0 l1 l2 : Option Value) (L : VL) (st : List Value) (h : VG) (x : Int32) : ev 234 828 (l0 :: l1 :: l2 :: some (.int x) :: L) (st) h = ev 234 829 (l0 :: l1 :: l2 :: some (.int x) :: L) (.int x :: st) h := G_iload_n f234_828 rfl
theorem f234_829 : fetch 234 829 = some (.iconst 3, 1) := vtab tk234_11 20 rfl
theorem e234_829 (L : VL) (st : List Value) (h : VG) : ev 234 829 L (st) h = ev 234 830 L (.int (3 : Int32) :: st) h := G_iconst f234_829 (by decide)
theorem f234_830 : fetch 234 830 = some (.iadd, 1) := vtab tk234_11 21 rfl
theorem e234_830 (L : VL) (st : List Value) (h : VG) (x y : Int32) : ev 234 830 L (.int y :: .int x :: st) h = ev 234 831 L (.int (x + y) :: st) h := G_iadd f234_830
theorem f234_831 : fetch 234 831 = some (.iaload, 1) := vtab tk234_11 22 rfl
theorem e234_831 (L : VL) (st : List Value) (h : VG) (a : Nat) (i : Int32) (ha : rdI h a) (hi : vp_in i (aln h a)) : ev 234 831 L (.int i :: .ref a :: st) h = ev 234 832 L (.int (aI h a i.toNatClampNeg) :: st) h := G_iald' f234_831 ha hi
theorem f234_832 : fetch 234 832 = some (.aload_n 0, 1) := vtab tk234_11 23 rfl
theorem e234_832 (L : VL) (st : List Value) (h : VG) (x : Nat) : ev 234 832 (some (.ref x) :: L) (st) h = ev 234 833 (some (.ref x) :: L) (.ref x :: st) h := G_aload_n f234_832 rfl
theorem f234_833 : fetch 234 833 = some (.iload_n 3, 1) := vtab tk234_11 24 rfl
theorem e234_833 (l0 l1 l2 : Option Value) (L : VL) (st : List Value) (h : VG) (x : Int32) : ev 234 833 (l0 :: l1 :: l2 :: some (.int x) :: L) (st) h = ev 234 834 (l0 :: l1 :: l2 :: some (.int x) :: L) (.int x :: st) h := G_iload_n f234_833 rfl
theorem f234_834 : fetch 234 834 = some (.iconst 4, 1) := vtab tk234_11 25 rfl
theorem e234_834 (L : VL) (st : List Value) (h : VG) : ev 234 834 L (st) h = ev 234 835 L (.int (4 : Int32) :: st) h := G_iconst f234_834 (by decide)
theorem f234_835 : fetch 234 835 = some (.iadd, 1) := vtab tk234_11 26 rfl
theorem e234_835 (L : VL) (st : List Value) (h : VG) (x y : Int32) : ev 234 835 L (.int y :: .int x :: st) h = ev 234 836 L (.int (x + y) :: st) h := G_iadd f234_835
theorem f234_836 : fetch 234 836 = some (.iaload, 1) := vtab tk234_11 27 rfl
theorem e234_836 (L : VL) (st : List Value) (h : VG) (a : Nat) (i : Int32) (ha : rdI h a) (hi : vp_in i (aln h a)) : ev 234 836 L (.int i :: .ref a :: st) h = ev 234 837 L (.int (aI h a i.toNatClampNeg) :: st) h := G_iald' f234_836 ha hi
theorem f234_837 : fetch 234 837 = some (.aload_n 0, 1) := vtab tk234_11 28 rfl
theorem e234_837 (L : VL) (st : List Value) (h : VG) (x : Nat) : ev 234 837 (some (.ref x) :: L) (st) h = ev 234 838 (some (.ref x) :: L) (.ref x :: st) h := G_aload_n f234_837 rfl
theorem f234_838 : fetch 234 838 = some (.iload_n 3, 1) := vtab tk234_11 29 rfl
theorem e234_838 (l0 l1 l2 : Option Value) (L : VL) (st : List Value) (h : VG) (x : Int32) : ev 234 838 (l0 :: l1 :: l2 :: some (.int x) :: L) (st) h = ev 234 839 (l0 :: l1 :: l2 :: some (.int x) :: L) (.int x :: st) h := G_iload_n f234_838 rfl
theorem f234_839 : fetch 234 839 = some (.iconst 5, 1) := vtab tk234_11 30 rfl
theorem e234_839 (L : VL) (st : List Value) (h : VG) : ev 234 839 L (st) h = ev 234 840 L (.int (5 : Int32) :: st) h := G_iconst f234_839 (by decide)
theorem f234_840 : fetch 234 840 = some (.iadd, 1) := vtab tk234_11 31 rfl
theorem e234_840 (L : VL) (st : List Value) (h : VG) (x y : Int32) : ev 234 840 L (.int y :: .int x :: st) h = ev 234 841 L (.int (x + y) :: st) h := G_iadd f234_840
theorem f234_841 : fetch 234 841 = some (.iaload, 1) := vtab tk234_11 32 rfl
theorem e234_841 (L : VL) (st : List Value) (h : VG) (a : Nat) (i : Int32) (ha : rdI h a) (hi : vp_in i (aln h a)) : ev 234 841 L (.int i :: .ref a :: st) h = ev 234 842 L (.int (aI h a i.toNatClampNeg) :: st) h := G_iald' f234_841 ha hi
theorem f234_842 : fetch 234 842 = some (.aload_n 0, 1) := vtab tk234_11 33 rfl
theorem e234_842 (L : VL) (st : List Value) (h : VG) (x : Nat) : ev 234 842 (some (.ref x) :: L) (st) h = ev 234 843 (some (.ref x) :: L) (.ref x :: st) h := G_aload_n f234_842 rfl
theorem f234_843 : fetch 234 843 = some (.iload_n 3, 1) := vtab tk234_11 34 rfl
theorem e234_843 (l0 l1 l2 : Option Value) (L : VL) (st : List Value) (h : VG) (x : Int32) : ev 234 843 (l0 :: l1 :: l2 :: some (.int x) :: L) (st) h = ev 234 844 (l0 :: l1 :: l2 :: some (.int x) :: L) (.int x :: st) h := G_iload_n f234_843 rfl
theorem f234_844 : fetch 234 844 = some (.bipush 6, 2) := vtab tk234_11 35 rfl
theorem e234_844 (L : VL) (st : List Value) (h : VG) : ev 234 844 L (st) h = ev 234 846 L (.int (6 : Int32) :: st) h := G_bipush f234_844 (by decide)
theorem f234_846 : fetch 234 846 = some (.iadd, 1) := vtab tk234_11 36 rfl
theorem e234_846 (L : VL) (st : List Value) (h : VG) (x y : Int32) : ev 234 846 L (.int y :: .int x :: st) h = ev 234 847 L (.int (x + y) :: st) h := G_iadd f234_846
theorem f234_847 : fetch 234 847 = some (.iaload, 1) := vtab tk234_11 37 rfl
theorem e234_847 (L : VL) (st : List Value) (h : VG) (a : Nat) (i : Int32) (ha : rdI h a) (hi : vp_in i (aln h a)) : ev 234 847 L (.int i :: .ref a :: st) h = ev 234 848 L (.int (aI h a i.toNatClampNeg) :: st) h := G_iald' f234_847 ha hi
theorem f234_848 : fetch 234 848 = some (.invokevirtual 88, 3) := vtab tk234_11 38 rfl
theorem e234_848 (L : VL) (st : List Value) (h : VG) (b : Nat) (x0 : Int32) (x1 : Int32) (x2 : Int32) (x3 : Int32) (x4 : Int32) (x5 : Int32) (ho : ob h b 11) (hs : catS st ≤ 8) : ev 234 848 L (.int x5 :: .int x4 :: .int x3 :: .int x2 :: .int x1 :: .int x0 :: .ref b :: st) h = (ev 196 0 [some (.ref b), some (.int x0), some (.int x1), some (.int x2), some (.int x3), some (.int x4), some (.int x5), none, none, none, none] [] h).bind fun q => ev 234 851 L (q.1.toList ++ st) q.2 := G_callv (k := 1) (p := 1435) (ars := [.int x0, .int x1, .int x2, .int x3, .int x4, .int x5]) f234_848 lkC_13_88 (by decide) (by decide +kernel) rfl (vcls_ob (ci := 11) (by decide) ho) (Nat.le_of_ble_eq_true rfl) hs rfl
theorem f234_851 : fetch 234 851 = some (.if_icmp .eq 550, 3) := vtab tk234_11 39 rfl
theorem e234_851 (L : VL) (st : List Value) (h : VG) (x y : Int32) : ev 234 851 L (.int y :: .int x :: st) h = if x = y then ev 234 1401 L st h else ev 234 854 L st h := G_icmp_eq f234_851 (by decide)
theorem f234_854 : fetch 234 854 = some (.iconst 0, 1) := vtab tk234_11 40 rfl
theorem e234_854 (L : VL) (st : List Value) (h : VG) : ev 234 854 L (st) h = ev 234 855 L (.int (0 : Int32) :: st) h := G_iconst f234_854 (by decide)
theorem f234_855 : fetch 234 855 = some (.ireturn, 1) := vtab tk234_11 41 rfl
theorem e234_855 (L : VL) (h : VG) (x : Int32) (hz : x = 0 ∨ x = 1) : ev 234 855 L [.int x] h = some (some (.int x), h) := G_iret f234_855 (ty := .boolean) (by decide) (vbool hz).1
theorem f234_856 : fetch 234 856 = some (.aload_n 1, 1) := vtab tk234_11 42 rfl
theorem e234_856 (l0 : Option Value) (L : VL) (st : List Value) (h : VG) (x : Nat) : ev 234 856 (l0 :: some (.ref x) :: L) (st) h = ev 234 857 (l0 :: some (.ref x) :: L) (.ref x :: st) h := G_aload_n f234_856 rfl
theorem f234_857 : fetch 234 857 = some (.aload_n 0, 1) := vtab tk234_11 43 rfl
theorem e234_857 (L : VL) (st : List Value) (h : VG) (x : Nat) : ev 234 857 (some (.ref x) :: L) (st) h = ev 234 858 (some (.ref x) :: L) (.ref x :: st) h := G_aload_n f234_857 rfl
theorem f234_858 : fetch 234 858 = some (.iload_n 3, 1) := vtab tk234_11 44 rfl
theorem e234_858 (l0 l1 l2 : Option Value) (L : VL) (st : List Value) (h : VG) (x : Int32) : ev 234 858 (l0 :: l1 :: l2 :: some (.int x) :: L) (st) h = ev 234 859 (l0 :: l1 :: l2 :: some (.int x) :: L) (.int x :: st) h := G_iload_n f234_858 rfl
theorem f234_859 : fetch 234 859 = some (.iconst 1, 1) := vtab tk234_11 45 rfl
theorem e234_859 (L : VL) (st : List Value) (h : VG) : ev 234 859 L (st) h = ev 234 860 L (.int (1 : Int32) :: st) h := G_iconst f234_859 (by decide)
theorem f234_860 : fetch 234 860 = some (.iadd, 1) := vtab tk234_11 46 rfl
theorem e234_860 (L : VL) (st : List Value) (h : VG) (x y : Int32) : ev 234 860 L (.int y :: .int x :: st) h = ev 234 861 L (.int (x + y) :: st) h := G_iadd f234_860
theorem f234_861 : fetch 234 861 = some (.iaload, 1) := vtab tk234_11 47 rfl
theorem e234_861 (L : VL) (st : List Value) (h : VG) (a : Nat) (i : Int32) (ha : rdI h a) (hi : vp_in i (aln h a)) : ev 234 861 L (.int i :: .ref a :: st) h = ev 234 862 L (.int (aI h a i.toNatClampNeg) :: st) h := G_iald' f234_861 ha hi
theorem f234_862 : fetch 234 862 = some (.aload_n 0, 1) := vtab tk234_11 48 rfl
theorem e234_862 (L : VL) (st : List Value) (h : VG) (x : Nat) : ev 234 862 (some (.ref x) :: L) (st) h = ev 234 863 (some (.ref x) :: L) (.ref x :: st) h := G_aload_n f234_862 rfl
theorem f234_863 : fetch 234 863 = some (.iload_n 3, 1) := vtab tk234_11 49 rfl
theorem e234_863 (l0 l1 l2 : Option Value) (L : VL) (st : List Value) (h : VG) (x : Int32) : ev 234 863 (l0 :: l1 :: l2 :: some (.int x) :: L) (st) h = ev 234 864 (l0 :: l1 :: l2 :: some (.int x) :: L) (.int x :: st) h := G_iload_n f234_863 rfl
theorem f234_864 : fetch 234 864 = some (.iconst 2, 1) := vtab tk234_12 0 rfl
theorem e234_864 (L : VL) (st : List Value) (h : VG) : ev 234 864 L (st) h = ev 234 865 L (.int (2 : Int32) :: st) h := G_iconst f234_864 (by decide)
theorem f234_865 : fetch 234 865 = some (.iadd, 1) := vtab tk234_12 1 rfl
theorem e234_865 (L : VL) (st : List Value) (h : VG) (x y : Int32) : ev 234 865 L (.int y :: .int x :: st) h = ev 234 866 L (.int (x + y) :: st) h := G_iadd f234_865
theorem f234_866 : fetch 234 866 = some (.iaload, 1) := vtab tk234_12 2 rfl
theorem e234_866 (L : VL) (st : List Value) (h : VG) (a : Nat) (i : Int32) (ha : rdI h a) (hi : vp_in i (aln h a)) : ev 234 866 L (.int i :: .ref a :: st) h = ev 234 867 L (.int (aI h a i.toNatClampNeg) :: st) h := G_iald' f234_866 ha hi
theorem f234_867 : fetch 234 867 = some (.aload_n 0, 1) := vtab tk234_12 3 rfl
theorem e234_867 (L : VL) (st : List Value) (h : VG) (x : Nat) : ev 234 867 (some (.ref x) :: L) (st) h = ev 234 868 (some (.ref x) :: L) (.ref x :: st) h := G_aload_n f234_867 rfl
theorem f234_868 : fetch 234 868 = some (.iload_n 3, 1) := vtab tk234_12 4 rfl
theorem e234_868 (l0 l1 l2 : Option Value) (L : VL) (st : List Value) (h : VG) (x : Int32) : ev 234 868 (l0 :: l1 :: l2 :: some (.int x) :: L) (st) h = ev 234 869 (l0 :: l1 :: l2 :: some (.int x) :: L) (.int x :: st) h := G_iload_n f234_868 rfl
theorem f234_869 : fetch 234 869 = some (.iconst 3, 1) := vtab tk234_12 5 rfl
theorem e234_869 (L : VL) (st : List Value) (h : VG) : ev 234 869 L (st) h = ev 234 870 L (.int (3 : Int32) :: st) h := G_iconst f234_869 (by decide)
theorem f234_870 : fetch 234 870 = some (.iadd, 1) := vtab tk234_12 6 rfl
theorem e234_870 (L : VL) (st : List Value) (h : VG) (x y : Int32) : ev 234 870 L (.int y :: .int x :: st) h = ev 234 871 L (.int (x + y) :: st) h := G_iadd f234_870
theorem f234_871 : fetch 234 871 = some (.iaload, 1) := vtab tk234_12 7 rfl
theorem e234_871 (L : VL) (st : List Value) (h : VG) (a : Nat) (i : Int32) (ha : rdI h a) (hi : vp_in i (aln h a)) : ev 234 871 L (.int i :: .ref a :: st) h = ev 234 872 L (.int (aI h a i.toNatClampNeg) :: st) h := G_iald' f234_871 ha hi
theorem f234_872 : fetch 234 872 = some (.aload_n 0, 1) := vtab tk234_12 8 rfl
theorem e234_872 (L : VL) (st : List Value) (h : VG) (x : Nat) : ev 234 872 (some (.ref x) :: L) (st) h = ev 234 873 (some (.ref x) :: L) (.ref x :: st) h := G_aload_n f234_872 rfl
theorem f234_873 : fetch 234 873 = some (.iload_n 3, 1) := vtab tk234_12 9 rfl
theorem e234_873 (l0 l1 l2 : Option Value) (L : VL) (st : List Value) (h : VG) (x : Int32) : ev 234 873 (l0 :: l1 :: l2 :: some (.int x) :: L) (st) h = ev 234 874 (l0 :: l1 :: l2 :: some (.int x) :: L) (.int x :: st) h := G_iload_n f234_873 rfl
theorem f234_874 : fetch 234 874 = some (.iconst 4, 1) := vtab tk234_12 10 rfl
theorem e234_874 (L : VL) (st : List Value) (h : VG) : ev 234 874 L (st) h = ev 234 875 L (.int (4 : Int32) :: st) h := G_iconst f234_874 (by decide)
theorem f234_875 : fetch 234 875 = some (.iadd, 1) := vtab tk234_12 11 rfl
theorem e234_875 (L : VL) (st : List Value) (h : VG) (x y : Int32) : ev 234 875 L (.int y :: .int x :: st) h = ev 234 876 L (.int (x + y) :: st) h := G_iadd f234_875
theorem f234_876 : fetch 234 876 = some (.iaload, 1) := vtab tk234_12 12 rfl
theorem e234_876 (L : VL) (st : List Value) (h : VG) (a : Nat) (i : Int32) (ha : rdI h a) (hi : vp_in i (aln h a)) : ev 234 876 L (.int i :: .ref a :: st) h = ev 234 877 L (.int (aI h a i.toNatClampNeg) :: st) h := G_iald' f234_876 ha hi
theorem f234_877 : fetch 234 877 = some (.aload_n 0, 1) := vtab tk234_12 13 rfl
theorem e234_877 (L : VL) (st : List Value) (h : VG) (x : Nat) : ev 234 877 (some (.ref x) :: L) (st) h = ev 234 878 (some (.ref x) :: L) (.ref x :: st) h := G_aload_n f234_877 rfl
theorem f234_878 : fetch 234 878 = some (.iload_n 3, 1) := vtab tk234_12 14 rfl
theorem e234_878 (l0 l1 l2 : Option Value) (L : VL) (st : List Value) (h : VG) (x : Int32) : ev 234 878 (l0 :: l1 :: l2 :: some (.int x) :: L) (st) h = ev 234 879 (l0 :: l1 :: l2 :: some (.int x) :: L) (.int x :: st) h := G_iload_n f234_878 rfl
theorem f234_879 : fetch 234 879 = some (.iconst 5, 1) := vtab tk234_12 15 rfl
theorem e234_879 (L : VL) (st : List Value) (h : VG) : ev 234 879 L (st) h = ev 234 880 L (.int (5 : Int32) :: st) h := G_iconst f234_879 (by decide)
theorem f234_880 : fetch 234 880 = some (.iadd, 1) := vtab tk234_12 16 rfl
theorem e234_880 (L : VL) (st : List Value) (h : VG) (x y : Int32) : ev 234 880 L (.int y :: .int x :: st) h = ev 234 881 L (.int (x + y) :: st) h := G_iadd f234_880
theorem f234_881 : fetch 234 881 = some (.iaload, 1) := vtab tk234_12 17 rfl
theorem e234_881 (L : VL) (st : List Value) (h : VG) (a : Nat) (i : Int32) (ha : rdI h a) (hi : vp_in i (aln h a)) : ev 234 881 L (.int i :: .ref a :: st) h = ev 234 882 L (.int (aI h a i.toNatClampNeg) :: st) h := G_iald' f234_881 ha hi
theorem f234_882 : fetch 234 882 = some (.invokevirtual 89, 3) := vtab tk234_12 18 rfl
theorem e234_882 (L : VL) (st : List Value) (h : VG) (b : Nat) (x0 : Int32) (x1 : Int32) (x2 : Int32) (x3 : Int32) (x4 : Int32) (ho : ob h b 10) (hs : catS st ≤ 8) : ev 234 882 L (.int x4 :: .int x3 :: .int x2 :: .int x1 :: .int x0 :: .ref b :: st) h = (ev 118 0 [some (.ref b), some (.int x0), some (.int x1), some (.int x2), some (.int x3), some (.int x4), none, none, none] [] h).bind fun q => ev 234 885 L (q.1.toList ++ st) q.2 := G_callv (k := 1) (p := 831) (ars := [.int x0, .int x1, .int x2, .int x3, .int x4]) f234_882 lkC_13_89 (by decide) (by decide +kernel) rfl (vcls_ob (ci := 10) (by decide) ho) (Nat.le_of_ble_eq_true rfl) hs rfl
theorem f234_885 : fetch 234 885 = some (.aload_n 2, 1) := vtab tk234_12 19 rfl
theorem e234_885 (l0 l1 : Option Value) (L : VL) (st : List Value) (h : VG) (x : Nat) : ev 234 885 (l0 :: l1 :: some (.ref x) :: L) (st) h = ev 234 886 (l0 :: l1 :: some (.ref x) :: L) (.ref x :: st) h := G_aload_n f234_885 rfl
theorem f234_886 : fetch 234 886 = some (.aload_n 0, 1) := vtab tk234_12 20 rfl
theorem e234_886 (L : VL) (st : List Value) (h : VG) (x : Nat) : ev 234 886 (some (.ref x) :: L) (st) h = ev 234 887 (some (.ref x) :: L) (.ref x :: st) h := G_aload_n f234_886 rfl
theorem f234_887 : fetch 234 887 = some (.iload_n 3, 1) := vtab tk234_12 21 rfl
theorem e234_887 (l0 l1 l2 : Option Value) (L : VL) (st : List Value) (h : VG) (x : Int32) : ev 234 887 (l0 :: l1 :: l2 :: some (.int x) :: L) (st) h = ev 234 888 (l0 :: l1 :: l2 :: some (.int x) :: L) (.int x :: st) h := G_iload_n f234_887 rfl
theorem f234_888 : fetch 234 888 = some (.iconst 1, 1) := vtab tk234_12 22 rfl
theorem e234_888 (L : VL) (st : List Value) (h : VG) : ev 234 888 L (st) h = ev 234 889 L (.int (1 : Int32) :: st) h := G_iconst f234_888 (by decide)
theorem f234_889 : fetch 234 889 = some (.iadd, 1) := vtab tk234_12 23 rfl
theorem e234_889 (L : VL) (st : List Value) (h : VG) (x y : Int32) : ev 234 889 L (.int y :: .int x :: st) h = ev 234 890 L (.int (x + y) :: st) h := G_iadd f234_889
theorem f234_890 : fetch 234 890 = some (.iaload, 1) := vtab tk234_12 24 rfl
theorem e234_890 (L : VL) (st : List Value) (h : VG) (a : Nat) (i : Int32) (ha : rdI h a) (hi : vp_in i (aln h a)) : ev 234 890 L (.int i :: .ref a :: st) h = ev 234 891 L (.int (aI h a i.toNatClampNeg) :: st) h := G_iald' f234_890 ha hi
theorem f234_891 : fetch 234 891 = some (.aload_n 0, 1) := vtab tk234_12 25 rfl
theorem e234_891 (L : VL) (st : List Value) (h : VG) (x : Nat) : ev 234 891 (some (.ref x) :: L) (st) h = ev 234 892 (some (.ref x) :: L) (.ref x :: st) h := G_aload_n f234_891 rfl
theorem f234_892 : fetch 234 892 = some (.iload_n 3, 1) := vtab tk234_12 26 rfl
theorem e234_892 (l0 l1 l2 : Option Value) (L : VL) (st : List Value) (h : VG) (x : Int32) : ev 234 892 (l0 :: l1 :: l2 :: some (.int x) :: L) (st) h = ev 234 893 (l0 :: l1 :: l2 :: some (.int x) :: L) (.int x :: st) h := G_iload_n f234_892 rfl
theorem f234_893 : fetch 234 893 = some (.iconst 2, 1) := vtab tk234_12 27 rfl
theorem e234_893 (L : VL) (st : List Value) (h : VG) : ev 234 893 L (st) h = ev 234 894 L (.int (2 : Int32) :: st) h := G_iconst f234_893 (by decide)
theorem f234_894 : fetch 234 894 = some (.iadd, 1) := vtab tk234_12 28 rfl
theorem e234_894 (L : VL) (st : List Value) (h : VG) (x y : Int32) : ev 234 894 L (.int y :: .int x :: st) h = ev 234 895 L (.int (x + y) :: st) h := G_iadd f234_894
theorem f234_895 : fetch 234 895 = some (.iaload, 1) := vtab tk234_12 29 rfl
theorem e234_895 (L : VL) (st : List Value) (h : VG) (a : Nat) (i : Int32) (ha : rdI h a) (hi : vp_in i (aln h a)) : ev 234 895 L (.int i :: .ref a :: st) h = ev 234 896 L (.int (aI h a i.toNatClampNeg) :: st) h := G_iald' f234_895 ha hi
theorem f234_896 : fetch 234 896 = some (.aload_n 0, 1) := vtab tk234_12 30 rfl
theorem e234_896 (L : VL) (st : List Value) (h : VG) (x : Nat) : ev 234 896 (some (.ref x) :: L) (st) h = ev 234 897 (some (.ref x) :: L) (.ref x :: st) h := G_aload_n f234_896 rfl
theorem f234_897 : fetch 234 897 = some (.iload_n 3, 1) := vtab tk234_12 31 rfl
theorem e234_897 (l0 l1 l2 : Option Value) (L : VL) (st : List Value) (h : VG) (x : Int32) : ev 234 897 (l0 :: l1 :: l2 :: some (.int x) :: L) (st) h = ev 234 898 (l0 :: l1 :: l2 :: some (.int x) :: L) (.int x :: st) h := G_iload_n f234_897 rfl
theorem f234_898 : fetch 234 898 = some (.iconst 3, 1) := vtab tk234_12 32 rfl
theorem e234_898 (L : VL) (st : List Value) (h : VG) : ev 234 898 L (st) h = ev 234 899 L (.int (3 : Int32) :: st) h := G_iconst f234_898 (by decide)
theorem f234_899 : fetch 234 899 = some (.iadd, 1) := vtab tk234_12 33 rfl
theorem e234_899 (L : VL) (st : List Value) (h : VG) (x y : Int32) : ev 234 899 L (.int y :: .int x :: st) h = ev 234 900 L (.int (x + y) :: st) h := G_iadd f234_899
theorem f234_900 : fetch 234 900 = some (.iaload, 1) := vtab tk234_12 34 rfl
theorem e234_900 (L : VL) (st : List Value) (h : VG) (a : Nat) (i : Int32) (ha : rdI h a) (hi : vp_in i (aln h a)) : ev 234 900 L (.int i :: .ref a :: st) h = ev 234 901 L (.int (aI h a i.toNatClampNeg) :: st) h := G_iald' f234_900 ha hi
theorem f234_901 : fetch 234 901 = some (.aload_n 0, 1) := vtab tk234_12 35 rfl
theorem e234_901 (L : VL) (st : List Value) (h : VG) (x : Nat) : ev 234 901 (some (.ref x) :: L) (st) h = ev 234 902 (some (.ref x) :: L) (.ref x :: st) h := G_aload_n f234_901 rfl
theorem f234_902 : fetch 234 902 = some (.iload_n 3, 1) := vtab tk234_12 36 rfl
theorem e234_902 (l0 l1 l2 : Option Value) (L : VL) (st : List Value) (h : VG) (x : Int32) : ev 234 902 (l0 :: l1 :: l2 :: some (.int x) :: L) (st) h = ev 234 903 (l0 :: l1 :: l2 :: some (.int x) :: L) (.int x :: st) h := G_iload_n f234_902 rfl
theorem f234_903 : fetch 234 903 = some (.iconst 4, 1) := vtab tk234_12 37 rfl
theorem e234_903 (L : VL) (st : List Value) (h : VG) : ev 234 903 L (st) h = ev 234 904 L (.int (4 : Int32) :: st) h := G_iconst f234_903 (by decide)
theorem f234_904 : fetch 234 904 = some (.iadd, 1) := vtab tk234_12 38 rfl
theorem e234_904 (L : VL) (st : List Value) (h : VG) (x y : Int32) : ev 234 904 L (.int y :: .int x :: st) h = ev 234 905 L (.int (x + y) :: st) h := G_iadd f234_904
theorem f234_905 : fetch 234 905 = some (.iaload, 1) := vtab tk234_12 39 rfl
theorem e234_905 (L : VL) (st : List Value) (h : VG) (a : Nat) (i : Int32) (ha : rdI h a) (hi : vp_in i (aln h a)) : ev 234 905 L (.int i :: .ref a :: st) h = ev 234 906 L (.int (aI h a i.toNatClampNeg) :: st) h := G_iald' f234_905 ha hi
theorem f234_906 : fetch 234 906 = some (.aload_n 0, 1) := vtab tk234_12 40 rfl
theorem e234_906 (L : VL) (st : List Value) (h : VG) (x : Nat) : ev 234 906 (some (.ref x) :: L) (st) h = ev 234 907 (some (.ref x) :: L) (.ref x :: st) h := G_aload_n f234_906 rfl
theorem f234_907 : fetch 234 907 = some (.iload_n 3, 1) := vtab tk234_12 41 rfl
theorem e234_907 (l0 l1 l2 : Option Value) (L : VL) (st : List Value) (h : VG) (x : Int32) : ev 234 907 (l0 :: l1 :: l2 :: some (.int x) :: L) (st) h = ev 234 908 (l0 :: l1 :: l2 :: some (.int x) :: L) (.int x :: st) h := G_iload_n f234_907 rfl
theorem f234_908 : fetch 234 908 = some (.iconst 5, 1) := vtab tk234_12 42 rfl
theorem e234_908 (L : VL) (st : List Value) (h : VG) : ev 234 908 L (st) h = ev 234 909 L (.int (5 : Int32) :: st) h := G_iconst f234_908 (by decide)
theorem f234_909 : fetch 234 909 = some (.iadd, 1) := vtab tk234_12 43 rfl
theorem e234_909 (L : VL) (st : List Value) (h : VG) (x y : Int32) : ev 234 909 L (.int y :: .int x :: st) h = ev 234 910 L (.int (x + y) :: st) h := G_iadd f234_909
theorem f234_910 : fetch 234 910 = some (.iaload, 1) := vtab tk234_12 44 rfl
theorem e234_910 (L : VL) (st : List Value) (h : VG) (a : Nat) (i : Int32) (ha : rdI h a) (hi : vp_in i (aln h a)) : ev 234 910 L (.int i :: .ref a :: st) h = ev 234 911 L (.int (aI h a i.toNatClampNeg) :: st) h := G_iald' f234_910 ha hi
theorem f234_911 : fetch 234 911 = some (.invokevirtual 93, 3) := vtab tk234_12 45 rfl
theorem e234_911 (L : VL) (st : List Value) (h : VG) (b : Nat) (x0 : Int32) (x1 : Int32) (x2 : Int32) (x3 : Int32) (x4 : Int32) (ho : ob h b 11) (hs : catS st ≤ 8) : ev 234 911 L (.int x4 :: .int x3 :: .int x2 :: .int x1 :: .int x0 :: .ref b :: st) h = (ev 198 0 [some (.ref b), some (.int x0), some (.int x1), some (.int x2), some (.int x3), some (.int x4)] [] h).bind fun q => ev 234 914 L (q.1.toList ++ st) q.2 := G_callv (k := 1) (p := 1439) (ars := [.int x0, .int x1, .int x2, .int x3, .int x4]) f234_911 lkC_13_93 (by decide) (by decide +kernel) rfl (vcls_ob (ci := 11) (by decide) ho) (Nat.le_of_ble_eq_true rfl) hs rfl
theorem f234_914 : fetch 234 914 = some (.if_icmp .eq 487, 3) := vtab tk234_12 46 rfl
theorem e234_914 (L : VL) (st : List Value) (h : VG) (x y : Int32) : ev 234 914 L (.int y :: .int x :: st) h = if x = y then ev 234 1401 L st h else ev 234 917 L st h := G_icmp_eq f234_914 (by decide)
theorem f234_917 : fetch 234 917 = some (.iconst 0, 1) := vtab tk234_12 47 rfl
theorem e234_917 (L : VL) (st : List Value) (h : VG) : ev 234 917 L (st) h = ev 234 918 L (.int (0 : Int32) :: st) h := G_iconst f234_917 (by decide)
theorem f234_918 : fetch 234 918 = some (.ireturn, 1) := vtab tk234_12 48 rfl
theorem e234_918 (L : VL) (h : VG) (x : Int32) (hz : x = 0 ∨ x = 1) : ev 234 918 L [.int x] h = some (some (.int x), h) := G_iret f234_918 (ty := .boolean) (by decide) (vbool hz).1
theorem f234_919 : fetch 234 919 = some (.aload_n 1, 1) := vtab tk234_12 49 rfl
theorem e234_919 (l0 : Option Value) (L : VL) (st : List Value) (h : VG) (x : Nat) : ev 234 919 (l0 :: some (.ref x) :: L) (st) h = ev 234 920 (l0 :: some (.ref x) :: L) (.ref x :: st) h := G_aload_n f234_919 rfl
theorem f234_920 : fetch 234 920 = some (.aload_n 0, 1) := vtab tk234_13 0 rfl
theorem e234_920 (L : VL) (st : List Value) (h : VG) (x : Nat) : ev 234 920 (some (.ref x) :: L) (st) h = ev 234 921 (some (.ref x) :: L) (.ref x :: st) h := G_aload_n f234_920 rfl
theorem f234_921 : fetch 234 921 = some (.iload_n 3, 1) := vtab tk234_13 1 rfl
theorem e234_921 (l0 l1 l2 : Option Value) (L : VL) (st : List Value) (h : VG) (x : Int32) : ev 234 921 (l0 :: l1 :: l2 :: some (.int x) :: L) (st) h = ev 234 922 (l0 :: l1 :: l2 :: some (.int x) :: L) (.int x :: st) h := G_iload_n f234_921 rfl
theorem f234_922 : fetch 234 922 = some (.iconst 1, 1) := vtab tk234_13 2 rfl
theorem e234_922 (L : VL) (st : List Value) (h : VG) : ev 234 922 L (st) h = ev 234 923 L (.int (1 : Int32) :: st) h := G_iconst f234_922 (by decide)
theorem f234_923 : fetch 234 923 = some (.iadd, 1) := vtab tk234_13 3 rfl
theorem e234_923 (L : VL) (st : List Value) (h : VG) (x y : Int32) : ev 234 923 L (.int y :: .int x :: st) h = ev 234 924 L (.int (x + y) :: st) h := G_iadd f234_923
theorem f234_924 : fetch 234 924 = some (.iaload, 1) := vtab tk234_13 4 rfl
theorem e234_924 (L : VL) (st : List Value) (h : VG) (a : Nat) (i : Int32) (ha : rdI h a) (hi : vp_in i (aln h a)) : ev 234 924 L (.int i :: .ref a :: st) h = ev 234 925 L (.int (aI h a i.toNatClampNeg) :: st) h := G_iald' f234_924 ha hi
theorem f234_925 : fetch 234 925 = some (.aload_n 0, 1) := vtab tk234_13 5 rfl
theorem e234_925 (L : VL) (st : List Value) (h : VG) (x : Nat) : ev 234 925 (some (.ref x) :: L) (st) h = ev 234 926 (some (.ref x) :: L) (.ref x :: st) h := G_aload_n f234_925 rfl
theorem f234_926 : fetch 234 926 = some (.iload_n 3, 1) := vtab tk234_13 6 rfl
theorem e234_926 (l0 l1 l2 : Option Value) (L : VL) (st : List Value) (h : VG) (x : Int32) : ev 234 926 (l0 :: l1 :: l2 :: some (.int x) :: L) (st) h = ev 234 927 (l0 :: l1 :: l2 :: some (.int x) :: L) (.int x :: st) h := G_iload_n f234_926 rfl
theorem f234_927 : fetch 234 927 = some (.iconst 2, 1) := vtab tk234_13 7 rfl
theorem e234_927 (L : VL) (st : List Value) (h : VG) : ev 234 927 L (st) h = ev 234 928 L (.int (2 : Int32) :: st) h := G_iconst f234_927 (by decide)
theorem f234_928 : fetch 234 928 = some (.iadd, 1) := vtab tk234_13 8 rfl
theorem e234_928 (L : VL) (st : List Value) (h : VG) (x y : Int32) : ev 234 928 L (.int y :: .int x :: st) h = ev 234 929 L (.int (x + y) :: st) h := G_iadd f234_928
theorem f234_929 : fetch 234 929 = some (.iaload, 1) := vtab tk234_13 9 rfl
theorem e234_929 (L : VL) (st : List Value) (h : VG) (a : Nat) (i : Int32) (ha : rdI h a) (hi : vp_in i (aln h a)) : ev 234 929 L (.int i :: .ref a :: st) h = ev 234 930 L (.int (aI h a i.toNatClampNeg) :: st) h := G_iald' f234_929 ha hi
theorem f234_930 : fetch 234 930 = some (.invokevirtual 94, 3) := vtab tk234_13 10 rfl
theorem e234_930 (L : VL) (st : List Value) (h : VG) (b : Nat) (x0 : Int32) (x1 : Int32) (ho : ob h b 10) (hs : catS st ≤ 8) : ev 234 930 L (.int x1 :: .int x0 :: .ref b :: st) h = (ev 119 0 [some (.ref b), some (.int x0), some (.int x1), none, none, none, none] [] h).bind fun q => ev 234 933 L (q.1.toList ++ st) q.2 := G_callv (k := 1) (p := 852) (ars := [.int x0, .int x1]) f234_930 lkC_13_94 (by decide) (by decide +kernel) rfl (vcls_ob (ci := 10) (by decide) ho) (Nat.le_of_ble_eq_true rfl) hs rfl
theorem f234_933 : fetch 234 933 = some (.aload_n 2, 1) := vtab tk234_13 11 rfl
theorem e234_933 (l0 l1 : Option Value) (L : VL) (st : List Value) (h : VG) (x : Nat) : ev 234 933 (l0 :: l1 :: some (.ref x) :: L) (st) h = ev 234 934 (l0 :: l1 :: some (.ref x) :: L) (.ref x :: st) h := G_aload_n f234_933 rfl
theorem f234_934 : fetch 234 934 = some (.aload_n 0, 1) := vtab tk234_13 12 rfl
theorem e234_934 (L : VL) (st : List Value) (h : VG) (x : Nat) : ev 234 934 (some (.ref x) :: L) (st) h = ev 234 935 (some (.ref x) :: L) (.ref x :: st) h := G_aload_n f234_934 rfl
theorem f234_935 : fetch 234 935 = some (.iload_n 3, 1) := vtab tk234_13 13 rfl
theorem e234_935 (l0 l1 l2 : Option Value) (L : VL) (st : List Value) (h : VG) (x : Int32) : ev 234 935 (l0 :: l1 :: l2 :: some (.int x) :: L) (st) h = ev 234 936 (l0 :: l1 :: l2 :: some (.int x) :: L) (.int x :: st) h := G_iload_n f234_935 rfl
theorem f234_936 : fetch 234 936 = some (.iconst 1, 1) := vtab tk234_13 14 rfl
theorem e234_936 (L : VL) (st : List Value) (h : VG) : ev 234 936 L (st) h = ev 234 937 L (.int (1 : Int32) :: st) h := G_iconst f234_936 (by decide)
theorem f234_937 : fetch 234 937 = some (.iadd, 1) := vtab tk234_13 15 rfl
theorem e234_937 (L : VL) (st : List Value) (h : VG) (x y : Int32) : ev 234 937 L (.int y :: .int x :: st) h = ev 234 938 L (.int (x + y) :: st) h := G_iadd f234_937
theorem f234_938 : fetch 234 938 = some (.iaload, 1) := vtab tk234_13 16 rfl
theorem e234_938 (L : VL) (st : List Value) (h : VG) (a : Nat) (i : Int32) (ha : rdI h a) (hi : vp_in i (aln h a)) : ev 234 938 L (.int i :: .ref a :: st) h = ev 234 939 L (.int (aI h a i.toNatClampNeg) :: st) h := G_iald' f234_938 ha hi
theorem f234_939 : fetch 234 939 = some (.aload_n 0, 1) := vtab tk234_13 17 rfl
theorem e234_939 (L : VL) (st : List Value) (h : VG) (x : Nat) : ev 234 939 (some (.ref x) :: L) (st) h = ev 234 940 (some (.ref x) :: L) (.ref x :: st) h := G_aload_n f234_939 rfl
theorem f234_940 : fetch 234 940 = some (.iload_n 3, 1) := vtab tk234_13 18 rfl
theorem e234_940 (l0 l1 l2 : Option Value) (L : VL) (st : List Value) (h : VG) (x : Int32) : ev 234 940 (l0 :: l1 :: l2 :: some (.int x) :: L) (st) h = ev 234 941 (l0 :: l1 :: l2 :: some (.int x) :: L) (.int x :: st) h := G_iload_n f234_940 rfl
theorem f234_941 : fetch 234 941 = some (.iconst 2, 1) := vtab tk234_13 19 rfl
theorem e234_941 (L : VL) (st : List Value) (h : VG) : ev 234 941 L (st) h = ev 234 942 L (.int (2 : Int32) :: st) h := G_iconst f234_941 (by decide)
theorem f234_942 : fetch 234 942 = some (.iadd, 1) := vtab tk234_13 20 rfl
theorem e234_942 (L : VL) (st : List Value) (h : VG) (x y : Int32) : ev 234 942 L (.int y :: .int x :: st) h = ev 234 943 L (.int (x + y) :: st) h := G_iadd f234_942
theorem f234_943 : fetch 234 943 = some (.iaload, 1) := vtab tk234_13 21 rfl
theorem e234_943 (L : VL) (st : List Value) (h : VG) (a : Nat) (i : Int32) (ha : rdI h a) (hi : vp_in i (aln h a)) : ev 234 943 L (.int i :: .ref a :: st) h = ev 234 944 L (.int (aI h a i.toNatClampNeg) :: st) h := G_iald' f234_943 ha hi
theorem f234_944 : fetch 234 944 = some (.invokevirtual 98, 3) := vtab tk234_13 22 rfl
theorem e234_944 (L : VL) (st : List Value) (h : VG) (b : Nat) (x0 : Int32) (x1 : Int32) (ho : ob h b 11) (hs : catS st ≤ 8) : ev 234 944 L (.int x1 :: .int x0 :: .ref b :: st) h = (ev 201 0 [some (.ref b), some (.int x0), some (.int x1), none, none, none] [] h).bind fun q => ev 234 947 L (q.1.toList ++ st) q.2 := G_callv (k := 1) (p := 1447) (ars := [.int x0, .int x1]) f234_944 lkC_13_98 (by decide) (by decide +kernel) rfl (vcls_ob (ci := 11) (by decide) ho) (Nat.le_of_ble_eq_true rfl) hs rfl
theorem f234_947 : fetch 234 947 = some (.if_icmp .eq 454, 3) := vtab tk234_13 23 rfl
theorem e234_947 (L : VL) (st : List Value) (h : VG) (x y : Int32) : ev 234 947 L (.int y :: .int x :: st) h = if x = y then ev 234 1401 L st h else ev 234 950 L st h := G_icmp_eq f234_947 (by decide)
theorem f234_950 : fetch 234 950 = some (.iconst 0, 1) := vtab tk234_13 24 rfl
theorem e234_950 (L : VL) (st : List Value) (h : VG) : ev 234 950 L (st) h = ev 234 951 L (.int (0 : Int32) :: st) h := G_iconst f234_950 (by decide)
theorem f234_951 : fetch 234 951 = some (.ireturn, 1) := vtab tk234_13 25 rfl
theorem e234_951 (L : VL) (h : VG) (x : Int32) (hz : x = 0 ∨ x = 1) : ev 234 951 L [.int x] h = some (some (.int x), h) := G_iret f234_951 (ty := .boolean) (by decide) (vbool hz).1
theorem f234_952 : fetch 234 952 = some (.aload_n 1, 1) := vtab tk234_13 26 rfl
theorem e234_952 (l0 : Option Value) (L : VL) (st : List Value) (h : VG) (x : Nat) : ev 234 952 (l0 :: some (.ref x) :: L) (st) h = ev 234 953 (l0 :: some (.ref x) :: L) (.ref x :: st) h := G_aload_n f234_952 rfl
theorem f234_953 : fetch 234 953 = some (.aload_n 0, 1) := vtab tk234_13 27 rfl
theorem e234_953 (L : VL) (st : List Value) (h : VG) (x : Nat) : ev 234 953 (some (.ref x) :: L) (st) h = ev 234 954 (some (.ref x) :: L) (.ref x :: st) h := G_aload_n f234_953 rfl
theorem f234_954 : fetch 234 954 = some (.iload_n 3, 1) := vtab tk234_13 28 rfl
theorem e234_954 (l0 l1 l2 : Option Value) (L : VL) (st : List Value) (h : VG) (x : Int32) : ev 234 954 (l0 :: l1 :: l2 :: some (.int x) :: L) (st) h = ev 234 955 (l0 :: l1 :: l2 :: some (.int x) :: L) (.int x :: st) h := G_iload_n f234_954 rfl
theorem f234_955 : fetch 234 955 = some (.iconst 1, 1) := vtab tk234_13 29 rfl
theorem e234_955 (L : VL) (st : List Value) (h : VG) : ev 234 955 L (st) h = ev 234 956 L (.int (1 : Int32) :: st) h := G_iconst f234_955 (by decide)
theorem f234_956 : fetch 234 956 = some (.iadd, 1) := vtab tk234_13 30 rfl
theorem e234_956 (L : VL) (st : List Value) (h : VG) (x y : Int32) : ev 234 956 L (.int y :: .int x :: st) h = ev 234 957 L (.int (x + y) :: st) h := G_iadd f234_956
theorem f234_957 : fetch 234 957 = some (.iaload, 1) := vtab tk234_13 31 rfl
theorem e234_957 (L : VL) (st : List Value) (h : VG) (a : Nat) (i : Int32) (ha : rdI h a) (hi : vp_in i (aln h a)) : ev 234 957 L (.int i :: .ref a :: st) h = ev 234 958 L (.int (aI h a i.toNatClampNeg) :: st) h := G_iald' f234_957 ha hi
theorem f234_958 : fetch 234 958 = some (.aload_n 0, 1) := vtab tk234_13 32 rfl
theorem e234_958 (L : VL) (st : List Value) (h : VG) (x : Nat) : ev 234 958 (some (.ref x) :: L) (st) h = ev 234 959 (some (.ref x) :: L) (.ref x :: st) h := G_aload_n f234_958 rfl
theorem f234_959 : fetch 234 959 = some (.iload_n 3, 1) := vtab tk234_13 33 rfl
theorem e234_959 (l0 l1 l2 : Option Value) (L : VL) (st : List Value) (h : VG) (x : Int32) : ev 234 959 (l0 :: l1 :: l2 :: some (.int x) :: L) (st) h = ev 234 960 (l0 :: l1 :: l2 :: some (.int x) :: L) (.int x :: st) h := G_iload_n f234_959 rfl
theorem f234_960 : fetch 234 960 = some (.iconst 2, 1) := vtab tk234_13 34 rfl
theorem e234_960 (L : VL) (st : List Value) (h : VG) : ev 234 960 L (st) h = ev 234 961 L (.int (2 : Int32) :: st) h := G_iconst f234_960 (by decide)
theorem f234_961 : fetch 234 961 = some (.iadd, 1) := vtab tk234_13 35 rfl
theorem e234_961 (L : VL) (st : List Value) (h : VG) (x y : Int32) : ev 234 961 L (.int y :: .int x :: st) h = ev 234 962 L (.int (x + y) :: st) h := G_iadd f234_961
theorem f234_962 : fetch 234 962 = some (.iaload, 1) := vtab tk234_13 36 rfl
theorem e234_962 (L : VL) (st : List Value) (h : VG) (a : Nat) (i : Int32) (ha : rdI h a) (hi : vp_in i (aln h a)) : ev 234 962 L (.int i :: .ref a :: st) h = ev 234 963 L (.int (aI h a i.toNatClampNeg) :: st) h := G_iald' f234_962 ha hi
theorem f234_963 : fetch 234 963 = some (.aload_n 0, 1) := vtab tk234_13 37 rfl
theorem e234_963 (L : VL) (st : List Value) (h : VG) (x : Nat) : ev 234 963 (some (.ref x) :: L) (st) h = ev 234 964 (some (.ref x) :: L) (.ref x :: st) h := G_aload_n f234_963 rfl
theorem f234_964 : fetch 234 964 = some (.iload_n 3, 1) := vtab tk234_13 38 rfl
theorem e234_964 (l0 l1 l2 : Option Value) (L : VL) (st : List Value) (h : VG) (x : Int32) : ev 234 964 (l0 :: l1 :: l2 :: some (.int x) :: L) (st) h = ev 234 965 (l0 :: l1 :: l2 :: some (.int x) :: L) (.int x :: st) h := G_iload_n f234_964 rfl
theorem f234_965 : fetch 234 965 = some (.iconst 3, 1) := vtab tk234_13 39 rfl
theorem e234_965 (L : VL) (st : List Value) (h : VG) : ev 234 965 L (st) h = ev 234 966 L (.int (3 : Int32) :: st) h := G_iconst f234_965 (by decide)
theorem f234_966 : fetch 234 966 = some (.iadd, 1) := vtab tk234_13 40 rfl
theorem e234_966 (L : VL) (st : List Value) (h : VG) (x y : Int32) : ev 234 966 L (.int y :: .int x :: st) h = ev 234 967 L (.int (x + y) :: st) h := G_iadd f234_966
theorem f234_967 : fetch 234 967 = some (.iaload, 1) := vtab tk234_13 41 rfl
theorem e234_967 (L : VL) (st : List Value) (h : VG) (a : Nat) (i : Int32) (ha : rdI h a) (hi : vp_in i (aln h a)) : ev 234 967 L (.int i :: .ref a :: st) h = ev 234 968 L (.int (aI h a i.toNatClampNeg) :: st) h := G_iald' f234_967 ha hi
theorem f234_968 : fetch 234 968 = some (.invokevirtual 99, 3) := vtab tk234_13 42 rfl
theorem e234_968 (L : VL) (st : List Value) (h : VG) (b : Nat) (x0 : Int32) (x1 : Int32) (x2 : Int32) (ho : ob h b 10) (hs : catS st ≤ 8) : ev 234 968 L (.int x2 :: .int x1 :: .int x0 :: .ref b :: st) h = (ev 120 0 [some (.ref b), some (.int x0), some (.int x1), some (.int x2), none, none, none, none, none, none] [] h).bind fun q => ev 234 971 L (q.1.toList ++ st) q.2 := G_callv (k := 1) (p := 864) (ars := [.int x0, .int x1, .int x2]) f234_968 lkC_13_99 (by decide) (by decide +kernel) rfl (vcls_ob (ci := 10) (by decide) ho) (Nat.le_of_ble_eq_true rfl) hs rfl
theorem f234_971 : fetch 234 971 = some (.aload_n 2, 1) := vtab tk234_13 43 rfl
theorem e234_971 (l0 l1 : Option Value) (L : VL) (st : List Value) (h : VG) (x : Nat) : ev 234 971 (l0 :: l1 :: some (.ref x) :: L) (st) h = ev 234 972 (l0 :: l1 :: some (.ref x) :: L) (.ref x :: st) h := G_aload_n f234_971 rfl
theorem f234_972 : fetch 234 972 = some (.aload_n 0, 1) := vtab tk234_13 44 rfl
theorem e234_972 (L : VL) (st : List Value) (h : VG) (x : Nat) : ev 234 972 (some (.ref x) :: L) (st) h = ev 234 973 (some (.ref x) :: L) (.ref x :: st) h := G_aload_n f234_972 rfl
theorem f234_973 : fetch 234 973 = some (.iload_n 3, 1) := vtab tk234_13 45 rfl
theorem e234_973 (l0 l1 l2 : Option Value) (L : VL) (st : List Value) (h : VG) (x : Int32) : ev 234 973 (l0 :: l1 :: l2 :: some (.int x) :: L) (st) h = ev 234 974 (l0 :: l1 :: l2 :: some (.int x) :: L) (.int x :: st) h := G_iload_n f234_973 rfl
theorem f234_974 : fetch 234 974 = some (.iconst 1, 1) := vtab tk234_13 46 rfl
theorem e234_974 (L : VL) (st : List Value) (h : VG) : ev 234 974 L (st) h = ev 234 975 L (.int (1 : Int32) :: st) h := G_iconst f234_974 (by decide)
theorem f234_975 : fetch 234 975 = some (.iadd, 1) := vtab tk234_13 47 rfl
theorem e234_975 (L : VL) (st : List Value) (h : VG) (x y : Int32) : ev 234 975 L (.int y :: .int x :: st) h = ev 234 976 L (.int (x + y) :: st) h := G_iadd f234_975
theorem f234_976 : fetch 234 976 = some (.iaload, 1) := vtab tk234_13 48 rfl
theorem e234_976 (L : VL) (st : List Value) (h : VG) (a : Nat) (i : Int32) (ha : rdI h a) (hi : vp_in i (aln h a)) : ev 234 976 L (.int i :: .ref a :: st) h = ev 234 977 L (.int (aI h a i.toNatClampNeg) :: st) h := G_iald' f234_976 ha hi
theorem f234_977 : fetch 234 977 = some (.aload_n 0, 1) := vtab tk234_13 49 rfl
theorem e234_977 (L : VL) (st : List Value) (h : VG) (x : Nat) : ev 234 977 (some (.ref x) :: L) (st) h = ev 234 978 (some (.ref x) :: L) (.ref x :: st) h := G_aload_n f234_977 rfl
theorem f234_978 : fetch 234 978 = some (.iload_n 3, 1) := vtab tk234_14 0 rfl
theorem e234_978 (l0 l1 l2 : Option Value) (L : VL) (st : List Value) (h : VG) (x : Int32) : ev 234 978 (l0 :: l1 :: l2 :: some (.int x) :: L) (st) h = ev 234 979 (l0 :: l1 :: l2 :: some (.int x) :: L) (.int x :: st) h := G_iload_n f234_978 rfl
theorem f234_979 : fetch 234 979 = some (.iconst 2, 1) := vtab tk234_14 1 rfl
theorem e234_979 (L : VL) (st : List Value) (h : VG) : ev 234 979 L (st) h = ev 234 980 L (.int (2 : Int32) :: st) h := G_iconst f234_979 (by decide)
theorem f234_980 : fetch 234 980 = some (.iadd, 1) := vtab tk234_14 2 rfl
theorem e234_980 (L : VL) (st : List Value) (h : VG) (x y : Int32) : ev 234 980 L (.int y :: .int x :: st) h = ev 234 981 L (.int (x + y) :: st) h := G_iadd f234_980
theorem f234_981 : fetch 234 981 = some (.iaload, 1) := vtab tk234_14 3 rfl
theorem e234_981 (L : VL) (st : List Value) (h : VG) (a : Nat) (i : Int32) (ha : rdI h a) (hi : vp_in i (aln h a)) : ev 234 981 L (.int i :: .ref a :: st) h = ev 234 982 L (.int (aI h a i.toNatClampNeg) :: st) h := G_iald' f234_981 ha hi
theorem f234_982 : fetch 234 982 = some (.aload_n 0, 1) := vtab tk234_14 4 rfl
theorem e234_982 (L : VL) (st : List Value) (h : VG) (x : Nat) : ev 234 982 (some (.ref x) :: L) (st) h = ev 234 983 (some (.ref x) :: L) (.ref x :: st) h := G_aload_n f234_982 rfl
theorem f234_983 : fetch 234 983 = some (.iload_n 3, 1) := vtab tk234_14 5 rfl
theorem e234_983 (l0 l1 l2 : Option Value) (L : VL) (st : List Value) (h : VG) (x : Int32) : ev 234 983 (l0 :: l1 :: l2 :: some (.int x) :: L) (st) h = ev 234 984 (l0 :: l1 :: l2 :: some (.int x) :: L) (.int x :: st) h := G_iload_n f234_983 rfl
theorem f234_984 : fetch 234 984 = some (.iconst 3, 1) := vtab tk234_14 6 rfl
theorem e234_984 (L : VL) (st : List Value) (h : VG) : ev 234 984 L (st) h = ev 234 985 L (.int (3 : Int32) :: st) h := G_iconst f234_984 (by decide)
theorem f234_985 : fetch 234 985 = some (.iadd, 1) := vtab tk234_14 7 rfl
theorem e234_985 (L : VL) (st : List Value) (h : VG) (x y : Int32) : ev 234 985 L (.int y :: .int x :: st) h = ev 234 986 L (.int (x + y) :: st) h := G_iadd f234_985
theorem f234_986 : fetch 234 986 = some (.iaload, 1) := vtab tk234_14 8 rfl
theorem e234_986 (L : VL) (st : List Value) (h : VG) (a : Nat) (i : Int32) (ha : rdI h a) (hi : vp_in i (aln h a)) : ev 234 986 L (.int i :: .ref a :: st) h = ev 234 987 L (.int (aI h a i.toNatClampNeg) :: st) h := G_iald' f234_986 ha hi
theorem f234_987 : fetch 234 987 = some (.invokevirtual 102, 3) := vtab tk234_14 9 rfl
theorem e234_987 (L : VL) (st : List Value) (h : VG) (b : Nat) (x0 : Int32) (x1 : Int32) (x2 : Int32) (ho : ob h b 11) (hs : catS st ≤ 8) : ev 234 987 L (.int x2 :: .int x1 :: .int x0 :: .ref b :: st) h = (ev 212 0 [some (.ref b), some (.int x0), some (.int x1), some (.int x2), none, none, none, none] [] h).bind fun q => ev 234 990 L (q.1.toList ++ st) q.2 := G_callv (k := 1) (p := 1459) (ars := [.int x0, .int x1, .int x2]) f234_987 lkC_13_102 (by decide) (by decide +kernel) rfl (vcls_ob (ci := 11) (by decide) ho) (Nat.le_of_ble_eq_true rfl) hs rfl
theorem f234_990 : fetch 234 990 = some (.if_icmp .eq 411, 3) := vtab tk234_14 10 rfl
theorem e234_990 (L : VL) (st : List Value) (h : VG) (x y : Int32) : ev 234 990 L (.int y :: .int x :: st) h = if x = y then ev 234 1401 L st h else ev 234 993 L st h := G_icmp_eq f234_990 (by decide)
theorem f234_993 : fetch 234 993 = some (.iconst 0, 1) := vtab tk234_14 11 rfl
theorem e234_993 (L : VL) (st : List Value) (h : VG) : ev 234 993 L (st) h = ev 234 994 L (.int (0 : Int32) :: st) h := G_iconst f234_993 (by decide)
theorem f234_994 : fetch 234 994 = some (.ireturn, 1) := vtab tk234_14 12 rfl
theorem e234_994 (L : VL) (h : VG) (x : Int32) (hz : x = 0 ∨ x = 1) : ev 234 994 L [.int x] h = some (some (.int x), h) := G_iret f234_994 (ty := .boolean) (by decide) (vbool hz).1
theorem f234_995 : fetch 234 995 = some (.aload_n 1, 1) := vtab tk234_14 13 rfl
theorem e234_995 (l0 : Option Value) (L : VL) (st : List Value) (h : VG) (x : Nat) : ev 234 995 (l0 :: some (.ref x) :: L) (st) h = ev 234 996 (l0 :: some (.ref x) :: L) (.ref x :: st) h := G_aload_n f234_995 rfl
theorem f234_996 : fetch 234 996 = some (.aload_n 0, 1) := vtab tk234_14 14 rfl
theorem e234_996 (L : VL) (st : List Value) (h : VG) (x : Nat) : ev 234 996 (some (.ref x) :: L) (st) h = ev 234 997 (some (.ref x) :: L) (.ref x :: st) h := G_aload_n f234_996 rfl
theorem f234_997 : fetch 234 997 = some (.iload_n 3, 1) := vtab tk234_14 15 rfl
theorem e234_997 (l0 l1 l2 : Option Value) (L : VL) (st : List Value) (h : VG) (x : Int32) : ev 234 997 (l0 :: l1 :: l2 :: some (.int x) :: L) (st) h = ev 234 998 (l0 :: l1 :: l2 :: some (.int x) :: L) (.int x :: st) h := G_iload_n f234_997 rfl
theorem f234_998 : fetch 234 998 = some (.iconst 1, 1) := vtab tk234_14 16 rfl
theorem e234_998 (L : VL) (st : List Value) (h : VG) : ev 234 998 L (st) h = ev 234 999 L (.int (1 : Int32) :: st) h := G_iconst f234_998 (by decide)
theorem f234_999 : fetch 234 999 = some (.iadd, 1) := vtab tk234_14 17 rfl
theorem e234_999 (L : VL) (st : List Value) (h : VG) (x y : Int32) : ev 234 999 L (.int y :: .int x :: st) h = ev 234 1000 L (.int (x + y) :: st) h := G_iadd f234_999
theorem f234_1000 : fetch 234 1000 = some (.iaload, 1) := vtab tk234_14 18 rfl
theorem e234_1000 (L : VL) (st : List Value) (h : VG) (a : Nat) (i : Int32) (ha : rdI h a) (hi : vp_in i (aln h a)) : ev 234 1000 L (.int i :: .ref a :: st) h = ev 234 1001 L (.int (aI h a i.toNatClampNeg) :: st) h := G_iald' f234_1000 ha hi
theorem f234_1001 : fetch 234 1001 = some (.aload_n 0, 1) := vtab tk234_14 19 rfl
theorem e234_1001 (L : VL) (st : List Value) (h : VG) (x : Nat) : ev 234 1001 (some (.ref x) :: L) (st) h = ev 234 1002 (some (.ref x) :: L) (.ref x :: st) h := G_aload_n f234_1001 rfl
theorem f234_1002 : fetch 234 1002 = some (.iload_n 3, 1) := vtab tk234_14 20 rfl
theorem e234_1002 (l0 l1 l2 : Option Value) (L : VL) (st : List Value) (h : VG) (x : Int32) : ev 234 1002 (l0 :: l1 :: l2 :: some (.int x) :: L) (st) h = ev 234 1003 (l0 :: l1 :: l2 :: some (.int x) :: L) (.int x :: st) h := G_iload_n f234_1002 rfl
theorem f234_1003 : fetch 234 1003 = some (.iconst 2, 1) := vtab tk234_14 21 rfl
theorem e234_1003 (L : VL) (st : List Value) (h : VG) : ev 234 1003 L (st) h = ev 234 1004 L (.int (2 : Int32) :: st) h := G_iconst f234_1003 (by decide)
theorem f234_1004 : fetch 234 1004 = some (.iadd, 1) := vtab tk234_14 22 rfl
theorem e234_1004 (L : VL) (st : List Value) (h : VG) (x y : Int32) : ev 234 1004 L (.int y :: .int x :: st) h = ev 234 1005 L (.int (x + y) :: st) h := G_iadd f234_1004
theorem f234_1005 : fetch 234 1005 = some (.iaload, 1) := vtab tk234_14 23 rfl
theorem e234_1005 (L : VL) (st : List Value) (h : VG) (a : Nat) (i : Int32) (ha : rdI h a) (hi : vp_in i (aln h a)) : ev 234 1005 L (.int i :: .ref a :: st) h = ev 234 1006 L (.int (aI h a i.toNatClampNeg) :: st) h := G_iald' f234_1005 ha hi
theorem f234_1006 : fetch 234 1006 = some (.aload_n 0, 1) := vtab tk234_14 24 rfl
theorem e234_1006 (L : VL) (st : List Value) (h : VG) (x : Nat) : ev 234 1006 (some (.ref x) :: L) (st) h = ev 234 1007 (some (.ref x) :: L) (.ref x :: st) h := G_aload_n f234_1006 rfl
theorem f234_1007 : fetch 234 1007 = some (.iload_n 3, 1) := vtab tk234_14 25 rfl
theorem e234_1007 (l0 l1 l2 : Option Value) (L : VL) (st : List Value) (h : VG) (x : Int32) : ev 234 1007 (l0 :: l1 :: l2 :: some (.int x) :: L) (st) h = ev 234 1008 (l0 :: l1 :: l2 :: some (.int x) :: L) (.int x :: st) h := G_iload_n f234_1007 rfl
theorem f234_1008 : fetch 234 1008 = some (.iconst 3, 1) := vtab tk234_14 26 rfl
theorem e234_1008 (L : VL) (st : List Value) (h : VG) : ev 234 1008 L (st) h = ev 234 1009 L (.int (3 : Int32) :: st) h := G_iconst f234_1008 (by decide)
theorem f234_1009 : fetch 234 1009 = some (.iadd, 1) := vtab tk234_14 27 rfl
theorem e234_1009 (L : VL) (st : List Value) (h : VG) (x y : Int32) : ev 234 1009 L (.int y :: .int x :: st) h = ev 234 1010 L (.int (x + y) :: st) h := G_iadd f234_1009
theorem f234_1010 : fetch 234 1010 = some (.iaload, 1) := vtab tk234_14 28 rfl
theorem e234_1010 (L : VL) (st : List Value) (h : VG) (a : Nat) (i : Int32) (ha : rdI h a) (hi : vp_in i (aln h a)) : ev 234 1010 L (.int i :: .ref a :: st) h = ev 234 1011 L (.int (aI h a i.toNatClampNeg) :: st) h := G_iald' f234_1010 ha hi
theorem f234_1011 : fetch 234 1011 = some (.invokevirtual 103, 3) := vtab tk234_14 29 rfl
theorem e234_1011 (L : VL) (st : List Value) (h : VG) (b : Nat) (x0 : Int32) (x1 : Int32) (x2 : Int32) (ho : ob h b 10) (hs : catS st ≤ 8) : ev 234 1011 L (.int x2 :: .int x1 :: .int x0 :: .ref b :: st) h = (ev 122 0 [some (.ref b), some (.int x0), some (.int x1), some (.int x2), none, none, none, none] [] h).bind fun q => ev 234 1014 L (q.1.toList ++ st) q.2 := G_callv (k := 1) (p := 888) (ars := [.int x0, .int x1, .int x2]) f234_1011 lkC_13_103 (by decide) (by decide +kernel) rfl (vcls_ob (ci := 10) (by decide) ho) (Nat.le_of_ble_eq_true rfl) hs rfl
theorem f234_1014 : fetch 234 1014 = some (.aload_n 2, 1) := vtab tk234_14 30 rfl
theorem e234_1014 (l0 l1 : Option Value) (L : VL) (st : List Value) (h : VG) (x : Nat) : ev 234 1014 (l0 :: l1 :: some (.ref x) :: L) (st) h = ev 234 1015 (l0 :: l1 :: some (.ref x) :: L) (.ref x :: st) h := G_aload_n f234_1014 rfl
theorem f234_1015 : fetch 234 1015 = some (.aload_n 0, 1) := vtab tk234_14 31 rfl
theorem e234_1015 (L : VL) (st : List Value) (h : VG) (x : Nat) : ev 234 1015 (some (.ref x) :: L) (st) h = ev 234 1016 (some (.ref x) :: L) (.ref x :: st) h := G_aload_n f234_1015 rfl
theorem f234_1016 : fetch 234 1016 = some (.iload_n 3, 1) := vtab tk234_14 32 rfl
theorem e234_1016 (l0 l1 l2 : Option Value) (L : VL) (st : List Value) (h : VG) (x : Int32) : ev 234 1016 (l0 :: l1 :: l2 :: some (.int x) :: L) (st) h = ev 234 1017 (l0 :: l1 :: l2 :: some (.int x) :: L) (.int x :: st) h := G_iload_n f234_1016 rfl
theorem f234_1017 : fetch 234 1017 = some (.iconst 1, 1) := vtab tk234_14 33 rfl
theorem e234_1017 (L : VL) (st : List Value) (h : VG) : ev 234 1017 L (st) h = ev 234 1018 L (.int (1 : Int32) :: st) h := G_iconst f234_1017 (by decide)
theorem f234_1018 : fetch 234 1018 = some (.iadd, 1) := vtab tk234_14 34 rfl
theorem e234_1018 (L : VL) (st : List Value) (h : VG) (x y : Int32) : ev 234 1018 L (.int y :: .int x :: st) h = ev 234 1019 L (.int (x + y) :: st) h := G_iadd f234_1018
theorem f234_1019 : fetch 234 1019 = some (.iaload, 1) := vtab tk234_14 35 rfl
theorem e234_1019 (L : VL) (st : List Value) (h : VG) (a : Nat) (i : Int32) (ha : rdI h a) (hi : vp_in i (aln h a)) : ev 234 1019 L (.int i :: .ref a :: st) h = ev 234 1020 L (.int (aI h a i.toNatClampNeg) :: st) h := G_iald' f234_1019 ha hi
theorem f234_1020 : fetch 234 1020 = some (.aload_n 0, 1) := vtab tk234_14 36 rfl
theorem e234_1020 (L : VL) (st : List Value) (h : VG) (x : Nat) : ev 234 1020 (some (.ref x) :: L) (st) h = ev 234 1021 (some (.ref x) :: L) (.ref x :: st) h := G_aload_n f234_1020 rfl
theorem f234_1021 : fetch 234 1021 = some (.iload_n 3, 1) := vtab tk234_14 37 rfl
theorem e234_1021 (l0 l1 l2 : Option Value) (L : VL) (st : List Value) (h : VG) (x : Int32) : ev 234 1021 (l0 :: l1 :: l2 :: some (.int x) :: L) (st) h = ev 234 1022 (l0 :: l1 :: l2 :: some (.int x) :: L) (.int x :: st) h := G_iload_n f234_1021 rfl
theorem f234_1022 : fetch 234 1022 = some (.iconst 2, 1) := vtab tk234_14 38 rfl
theorem e234_1022 (L : VL) (st : List Value) (h : VG) : ev 234 1022 L (st) h = ev 234 1023 L (.int (2 : Int32) :: st) h := G_iconst f234_1022 (by decide)
theorem f234_1023 : fetch 234 1023 = some (.iadd, 1) := vtab tk234_14 39 rfl
theorem e234_1023 (L : VL) (st : List Value) (h : VG) (x y : Int32) : ev 234 1023 L (.int y :: .int x :: st) h = ev 234 1024 L (.int (x + y) :: st) h := G_iadd f234_1023
theorem f234_1024 : fetch 234 1024 = some (.iaload, 1) := vtab tk234_14 40 rfl
theorem e234_1024 (L : VL) (st : List Value) (h : VG) (a : Nat) (i : Int32) (ha : rdI h a) (hi : vp_in i (aln h a)) : ev 234 1024 L (.int i :: .ref a :: st) h = ev 234 1025 L (.int (aI h a i.toNatClampNeg) :: st) h := G_iald' f234_1024 ha hi
theorem f234_1025 : fetch 234 1025 = some (.aload_n 0, 1) := vtab tk234_14 41 rfl
theorem e234_1025 (L : VL) (st : List Value) (h : VG) (x : Nat) : ev 234 1025 (some (.ref x) :: L) (st) h = ev 234 1026 (some (.ref x) :: L) (.ref x :: st) h := G_aload_n f234_1025 rfl
theorem f234_1026 : fetch 234 1026 = some (.iload_n 3, 1) := vtab tk234_14 42 rfl
theorem e234_1026 (l0 l1 l2 : Option Value) (L : VL) (st : List Value) (h : VG) (x : Int32) : ev 234 1026 (l0 :: l1 :: l2 :: some (.int x) :: L) (st) h = ev 234 1027 (l0 :: l1 :: l2 :: some (.int x) :: L) (.int x :: st) h := G_iload_n f234_1026 rfl
theorem f234_1027 : fetch 234 1027 = some (.iconst 3, 1) := vtab tk234_14 43 rfl
theorem e234_1027 (L : VL) (st : List Value) (h : VG) : ev 234 1027 L (st) h = ev 234 1028 L (.int (3 : Int32) :: st) h := G_iconst f234_1027 (by decide)
theorem f234_1028 : fetch 234 1028 = some (.iadd, 1) := vtab tk234_14 44 rfl
theorem e234_1028 (L : VL) (st : List Value) (h : VG) (x y : Int32) : ev 234 1028 L (.int y :: .int x :: st) h = ev 234 1029 L (.int (x + y) :: st) h := G_iadd f234_1028
theorem f234_1029 : fetch 234 1029 = some (.iaload, 1) := vtab tk234_14 45 rfl
theorem e234_1029 (L : VL) (st : List Value) (h : VG) (a : Nat) (i : Int32) (ha : rdI h a) (hi : vp_in i (aln h a)) : ev 234 1029 L (.int i :: .ref a :: st) h = ev 234 1030 L (.int (aI h a i.toNatClampNeg) :: st) h := G_iald' f234_1029 ha hi
theorem f234_1030 : fetch 234 1030 = some (.invokevirtual 106, 3) := vtab tk234_14 46 rfl
theorem e234_1030 (L : VL) (st : List Value) (h : VG) (b : Nat) (x0 : Int32) (x1 : Int32) (x2 : Int32) (ho : ob h b 11) (hs : catS st ≤ 8) : ev 234 1030 L (.int x2 :: .int x1 :: .int x0 :: .ref b :: st) h = (ev 216 0 [some (.ref b), some (.int x0), some (.int x1), some (.int x2), none, none, none] [] h).bind fun q => ev 234 1033 L (q.1.toList ++ st) q.2 := G_callv (k := 1) (p := 1492) (ars := [.int x0, .int x1, .int x2]) f234_1030 lkC_13_106 (by decide) (by decide +kernel) rfl (vcls_ob (ci := 11) (by decide) ho) (Nat.le_of_ble_eq_true rfl) hs rfl
theorem f234_1033 : fetch 234 1033 = some (.if_icmp .eq 368, 3) := vtab tk234_14 47 rfl
theorem e234_1033 (L : VL) (st : List Value) (h : VG) (x y : Int32) : ev 234 1033 L (.int y :: .int x :: st) h = if x = y then ev 234 1401 L st h else ev 234 1036 L st h := G_icmp_eq f234_1033 (by decide)
theorem f234_1036 : fetch 234 1036 = some (.iconst 0, 1) := vtab tk234_14 48 rfl
theorem e234_1036 (L : VL) (st : List Value) (h : VG) : ev 234 1036 L (st) h = ev 234 1037 L (.int (0 : Int32) :: st) h := G_iconst f234_1036 (by decide)
theorem f234_1037 : fetch 234 1037 = some (.ireturn, 1) := vtab tk234_14 49 rfl
theorem e234_1037 (L : VL) (h : VG) (x : Int32) (hz : x = 0 ∨ x = 1) : ev 234 1037 L [.int x] h = some (some (.int x), h) := G_iret f234_1037 (ty := .boolean) (by decide) (vbool hz).1
theorem f234_1038 : fetch 234 1038 = some (.aload_n 1, 1) := vtab tk234_15 0 rfl
theorem e234_1038 (l0 : Option Value) (L : VL) (st : List Value) (h : VG) (x : Nat) : ev 234 1038 (l0 :: some (.ref x) :: L) (st) h = ev 234 1039 (l0 :: some (.ref x) :: L) (.ref x :: st) h := G_aload_n f234_1038 rfl
theorem f234_1039 : fetch 234 1039 = some (.aload_n 0, 1) := vtab tk234_15 1 rfl
theorem e234_1039 (L : VL) (st : List Value) (h : VG) (x : Nat) : ev 234 1039 (some (.ref x) :: L) (st) h = ev 234 1040 (some (.ref x) :: L) (.ref x :: st) h := G_aload_n f234_1039 rfl
theorem f234_1040 : fetch 234 1040 = some (.iload_n 3, 1) := vtab tk234_15 2 rfl
theorem e234_1040 (l0 l1 l2 : Option Value) (L : VL) (st : List Value) (h : VG) (x : Int32) : ev 234 1040 (l0 :: l1 :: l2 :: some (.int x) :: L) (st) h = ev 234 1041 (l0 :: l1 :: l2 :: some (.int x) :: L) (.int x :: st) h := G_iload_n f234_1040 rfl
theorem f234_1041 : fetch 234 1041 = some (.iconst 1, 1) := vtab tk234_15 3 rfl
theorem e234_1041 (L : VL) (st : List Value) (h : VG) : ev 234 1041 L (st) h = ev 234 1042 L (.int (1 : Int32) :: st) h := G_iconst f234_1041 (by decide)
theorem f234_1042 : fetch 234 1042 = some (.iadd, 1) := vtab tk234_15 4 rfl
theorem e234_1042 (L : VL) (st : List Value) (h : VG) (x y : Int32) : ev 234 1042 L (.int y :: .int x :: st) h = ev 234 1043 L (.int (x + y) :: st) h := G_iadd f234_1042
theorem f234_1043 : fetch 234 1043 = some (.iaload, 1) := vtab tk234_15 5 rfl
theorem e234_1043 (L : VL) (st : List Value) (h : VG) (a : Nat) (i : Int32) (ha : rdI h a) (hi : vp_in i (aln h a)) : ev 234 1043 L (.int i :: .ref a :: st) h = ev 234 1044 L (.int (aI h a i.toNatClampNeg) :: st) h := G_iald' f234_1043 ha hi
theorem f234_1044 : fetch 234 1044 = some (.aload_n 0, 1) := vtab tk234_15 6 rfl
theorem e234_1044 (L : VL) (st : List Value) (h : VG) (x : Nat) : ev 234 1044 (some (.ref x) :: L) (st) h = ev 234 1045 (some (.ref x) :: L) (.ref x :: st) h := G_aload_n f234_1044 rfl
theorem f234_1045 : fetch 234 1045 = some (.iload_n 3, 1) := vtab tk234_15 7 rfl
theorem e234_1045 (l0 l1 l2 : Option Value) (L : VL) (st : List Value) (h : VG) (x : Int32) : ev 234 1045 (l0 :: l1 :: l2 :: some (.int x) :: L) (st) h = ev 234 1046 (l0 :: l1 :: l2 :: some (.int x) :: L) (.int x :: st) h := G_iload_n f234_1045 rfl
theorem f234_1046 : fetch 234 1046 = some (.iconst 2, 1) := vtab tk234_15 8 rfl
theorem e234_1046 (L : VL) (st : List Value) (h : VG) : ev 234 1046 L (st) h = ev 234 1047 L (.int (2 : Int32) :: st) h := G_iconst f234_1046 (by decide)
theorem f234_1047 : fetch 234 1047 = some (.iadd, 1) := vtab tk234_15 9 rfl
theorem e234_1047 (L : VL) (st : List Value) (h : VG) (x y : Int32) : ev 234 1047 L (.int y :: .int x :: st) h = ev 234 1048 L (.int (x + y) :: st) h := G_iadd f234_1047
theorem f234_1048 : fetch 234 1048 = some (.iaload, 1) := vtab tk234_15 10 rfl
theorem e234_1048 (L : VL) (st : List Value) (h : VG) (a : Nat) (i : Int32) (ha : rdI h a) (hi : vp_in i (aln h a)) : ev 234 1048 L (.int i :: .ref a :: st) h = ev 234 1049 L (.int (aI h a i.toNatClampNeg) :: st) h := G_iald' f234_1048 ha hi
theorem f234_1049 : fetch 234 1049 = some (.aload_n 0, 1) := vtab tk234_15 11 rfl
theorem e234_1049 (L : VL) (st : List Value) (h : VG) (x : Nat) : ev 234 1049 (some (.ref x) :: L) (st) h = ev 234 1050 (some (.ref x) :: L) (.ref x :: st) h := G_aload_n f234_1049 rfl
theorem f234_1050 : fetch 234 1050 = some (.iload_n 3, 1) := vtab tk234_15 12 rfl
theorem e234_1050 (l0 l1 l2 : Option Value) (L : VL) (st : List Value) (h : VG) (x : Int32) : ev 234 1050 (l0 :: l1 :: l2 :: some (.int x) :: L) (st) h = ev 234 1051 (l0 :: l1 :: l2 :: some (.int x) :: L) (.int x :: st) h := G_iload_n f234_1050 rfl
theorem f234_1051 : fetch 234 1051 = some (.iconst 3, 1) := vtab tk234_15 13 rfl
theorem e234_1051 (L : VL) (st : List Value) (h : VG) : ev 234 1051 L (st) h = ev 234 1052 L (.int (3 : Int32) :: st) h := G_iconst f234_1051 (by decide)
theorem f234_1052 : fetch 234 1052 = some (.iadd, 1) := vtab tk234_15 14 rfl
theorem e234_1052 (L : VL) (st : List Value) (h : VG) (x y : Int32) : ev 234 1052 L (.int y :: .int x :: st) h = ev 234 1053 L (.int (x + y) :: st) h := G_iadd f234_1052
theorem f234_1053 : fetch 234 1053 = some (.iaload, 1) := vtab tk234_15 15 rfl
theorem e234_1053 (L : VL) (st : List Value) (h : VG) (a : Nat) (i : Int32) (ha : rdI h a) (hi : vp_in i (aln h a)) : ev 234 1053 L (.int i :: .ref a :: st) h = ev 234 1054 L (.int (aI h a i.toNatClampNeg) :: st) h := G_iald' f234_1053 ha hi
theorem f234_1054 : fetch 234 1054 = some (.aload_n 0, 1) := vtab tk234_15 16 rfl
theorem e234_1054 (L : VL) (st : List Value) (h : VG) (x : Nat) : ev 234 1054 (some (.ref x) :: L) (st) h = ev 234 1055 (some (.ref x) :: L) (.ref x :: st) h := G_aload_n f234_1054 rfl
theorem f234_1055 : fetch 234 1055 = some (.iload_n 3, 1) := vtab tk234_15 17 rfl
theorem e234_1055 (l0 l1 l2 : Option Value) (L : VL) (st : List Value) (h : VG) (x : Int32) : ev 234 1055 (l0 :: l1 :: l2 :: some (.int x) :: L) (st) h = ev 234 1056 (l0 :: l1 :: l2 :: some (.int x) :: L) (.int x :: st) h := G_iload_n f234_1055 rfl
theorem f234_1056 : fetch 234 1056 = some (.iconst 4, 1) := vtab tk234_15 18 rfl
theorem e234_1056 (L : VL) (st : List Value) (h : VG) : ev 234 1056 L (st) h = ev 234 1057 L (.int (4 : Int32) :: st) h := G_iconst f234_1056 (by decide)
theorem f234_1057 : fetch 234 1057 = some (.iadd, 1) := vtab tk234_15 19 rfl
theorem e234_1057 (L : VL) (st : List Value) (h : VG) (x y : Int32) : ev 234 1057 L (.int y :: .int x :: st) h = ev 234 1058 L (.int (x + y) :: st) h := G_iadd f234_1057
theorem f234_1058 : fetch 234 1058 = some (.iaload, 1) := vtab tk234_15 20 rfl
theorem e234_1058 (L : VL) (st : List Value) (h : VG) (a : Nat) (i : Int32) (ha : rdI h a) (hi : vp_in i (aln h a)) : ev 234 1058 L (.int i :: .ref a :: st) h = ev 234 1059 L (.int (aI h a i.toNatClampNeg) :: st) h := G_iald' f234_1058 ha hi
theorem f234_1059 : fetch 234 1059 = some (.ifCond .eq 7, 3) := vtab tk234_15 21 rfl
theorem e234_1059 (L : VL) (st : List Value) (h : VG) (x : Int32) : ev 234 1059 L (.int x :: st) h = if x = 0 then ev 234 1066 L st h else ev 234 1062 L st h := G_if_eq f234_1059 (by decide)
theorem f234_1062 : fetch 234 1062 = some (.iconst 1, 1) := vtab tk234_15 22 rfl
theorem e234_1062 (L : VL) (st : List Value) (h : VG) : ev 234 1062 L (st) h = ev 234 1063 L (.int (1 : Int32) :: st) h := G_iconst f234_1062 (by decide)
theorem f234_1063 : fetch 234 1063 = some (.goto 4, 3) := vtab tk234_15 23 rfl
theorem e234_1063 (L : VL) (st : List Value) (h : VG) : ev 234 1063 L (st) h = ev 234 1067 L (st) h := G_goto f234_1063 (by decide)
theorem f234_1066 : fetch 234 1066 = some (.iconst 0, 1) := vtab tk234_15 24 rfl
theorem e234_1066 (L : VL) (st : List Value) (h : VG) : ev 234 1066 L (st) h = ev 234 1067 L (.int (0 : Int32) :: st) h := G_iconst f234_1066 (by decide)
theorem f234_1067 : fetch 234 1067 = some (.invokevirtual 107, 3) := vtab tk234_15 25 rfl
theorem e234_1067 (L : VL) (st : List Value) (h : VG) (b : Nat) (x0 : Int32) (x1 : Int32) (x2 : Int32) (x3 : Int32) (ho : ob h b 10) (hs : catS st ≤ 8) : ev 234 1067 L (.int x3 :: .int x2 :: .int x1 :: .int x0 :: .ref b :: st) h = (ev 123 0 [some (.ref b), some (.int x0), some (.int x1), some (.int x2), some (.int x3), none, none, none, none] [] h).bind fun q => ev 234 1070 L (q.1.toList ++ st) q.2 := G_callv (k := 1) (p := 907) (ars := [.int x0, .int x1, .int x2, .int x3]) f234_1067 lkC_13_107 (by decide) (by decide +kernel) rfl (vcls_ob (ci := 10) (by decide) ho) (Nat.le_of_ble_eq_true rfl) hs rfl
theorem f234_1070 : fetch 234 1070 = some (.aload_n 2, 1) := vtab tk234_15 26 rfl
theorem e234_1070 (l0 l1 : Option Value) (L : VL) (st : List Value) (h : VG) (x : Nat) : ev 234 1070 (l0 :: l1 :: some (.ref x) :: L) (st) h = ev 234 1071 (l0 :: l1 :: some (.ref x) :: L) (.ref x :: st) h := G_aload_n f234_1070 rfl
theorem f234_1071 : fetch 234 1071 = some (.aload_n 0, 1) := vtab tk234_15 27 rfl
theorem e234_1071 (L : VL) (st : List Value) (h : VG) (x : Nat) : ev 234 1071 (some (.ref x) :: L) (st) h = ev 234 1072 (some (.ref x) :: L) (.ref x :: st) h := G_aload_n f234_1071 rfl
theorem f234_1072 : fetch 234 1072 = some (.iload_n 3, 1) := vtab tk234_15 28 rfl
theorem e234_1072 (l0 l1 l2 : Option Value) (L : VL) (st : List Value) (h : VG) (x : Int32) : ev 234 1072 (l0 :: l1 :: l2 :: some (.int x) :: L) (st) h = ev 234 1073 (l0 :: l1 :: l2 :: some (.int x) :: L) (.int x :: st) h := G_iload_n f234_1072 rfl
theorem f234_1073 : fetch 234 1073 = some (.iconst 1, 1) := vtab tk234_15 29 rfl
theorem e234_1073 (L : VL) (st : List Value) (h : VG) : ev 234 1073 L (st) h = ev 234 1074 L (.int (1 : Int32) :: st) h := G_iconst f234_1073 (by decide)
theorem f234_1074 : fetch 234 1074 = some (.iadd, 1) := vtab tk234_15 30 rfl
theorem e234_1074 (L : VL) (st : List Value) (h : VG) (x y : Int32) : ev 234 1074 L (.int y :: .int x :: st) h = ev 234 1075 L (.int (x + y) :: st) h := G_iadd f234_1074
theorem f234_1075 : fetch 234 1075 = some (.iaload, 1) := vtab tk234_15 31 rfl
theorem e234_1075 (L : VL) (st : List Value) (h : VG) (a : Nat) (i : Int32) (ha : rdI h a) (hi : vp_in i (aln h a)) : ev 234 1075 L (.int i :: .ref a :: st) h = ev 234 1076 L (.int (aI h a i.toNatClampNeg) :: st) h := G_iald' f234_1075 ha hi
theorem f234_1076 : fetch 234 1076 = some (.aload_n 0, 1) := vtab tk234_15 32 rfl
theorem e234_1076 (L : VL) (st : List Value) (h : VG) (x : Nat) : ev 234 1076 (some (.ref x) :: L) (st) h = ev 234 1077 (some (.ref x) :: L) (.ref x :: st) h := G_aload_n f234_1076 rfl
theorem f234_1077 : fetch 234 1077 = some (.iload_n 3, 1) := vtab tk234_15 33 rfl
theorem e234_1077 (l0 l1 l2 : Option Value) (L : VL) (st : List Value) (h : VG) (x : Int32) : ev 234 1077 (l0 :: l1 :: l2 :: some (.int x) :: L) (st) h = ev 234 1078 (l0 :: l1 :: l2 :: some (.int x) :: L) (.int x :: st) h := G_iload_n f234_1077 rfl
theorem f234_1078 : fetch 234 1078 = some (.iconst 2, 1) := vtab tk234_15 34 rfl
theorem e234_1078 (L : VL) (st : List Value) (h : VG) : ev 234 1078 L (st) h = ev 234 1079 L (.int (2 : Int32) :: st) h := G_iconst f234_1078 (by decide)
theorem f234_1079 : fetch 234 1079 = some (.iadd, 1) := vtab tk234_15 35 rfl
theorem e234_1079 (L : VL) (st : List Value) (h : VG) (x y : Int32) : ev 234 1079 L (.int y :: .int x :: st) h = ev 234 1080 L (.int (x + y) :: st) h := G_iadd f234_1079
theorem f234_1080 : fetch 234 1080 = some (.iaload, 1) := vtab tk234_15 36 rfl
theorem e234_1080 (L : VL) (st : List Value) (h : VG) (a : Nat) (i : Int32) (ha : rdI h a) (hi : vp_in i (aln h a)) : ev 234 1080 L (.int i :: .ref a :: st) h = ev 234 1081 L (.int (aI h a i.toNatClampNeg) :: st) h := G_iald' f234_1080 ha hi
theorem f234_1081 : fetch 234 1081 = some (.aload_n 0, 1) := vtab tk234_15 37 rfl
theorem e234_1081 (L : VL) (st : List Value) (h : VG) (x : Nat) : ev 234 1081 (some (.ref x) :: L) (st) h = ev 234 1082 (some (.ref x) :: L) (.ref x :: st) h := G_aload_n f234_1081 rfl
theorem f234_1082 : fetch 234 1082 = some (.iload_n 3, 1) := vtab tk234_15 38 rfl
theorem e234_1082 (l0 l1 l2 : Option Value) (L : VL) (st : List Value) (h : VG) (x : Int32) : ev 234 1082 (l0 :: l1 :: l2 :: some (.int x) :: L) (st) h = ev 234 1083 (l0 :: l1 :: l2 :: some (.int x) :: L) (.int x :: st) h := G_iload_n f234_1082 rfl
theorem f234_1083 : fetch 234 1083 = some (.iconst 3, 1) := vtab tk234_15 39 rfl
theorem e234_1083 (L : VL) (st : List Value) (h : VG) : ev 234 1083 L (st) h = ev 234 1084 L (.int (3 : Int32) :: st) h := G_iconst f234_1083 (by decide)
theorem f234_1084 : fetch 234 1084 = some (.iadd, 1) := vtab tk234_15 40 rfl
theorem e234_1084 (L : VL) (st : List Value) (h : VG) (x y : Int32) : ev 234 1084 L (.int y :: .int x :: st) h = ev 234 1085 L (.int (x + y) :: st) h := G_iadd f234_1084
theorem f234_1085 : fetch 234 1085 = some (.iaload, 1) := vtab tk234_15 41 rfl
theorem e234_1085 (L : VL) (st : List Value) (h : VG) (a : Nat) (i : Int32) (ha : rdI h a) (hi : vp_in i (aln h a)) : ev 234 1085 L (.int i :: .ref a :: st) h = ev 234 1086 L (.int (aI h a i.toNatClampNeg) :: st) h := G_iald' f234_1085 ha hi
theorem f234_1086 : fetch 234 1086 = some (.aload_n 0, 1) := vtab tk234_15 42 rfl
theorem e234_1086 (L : VL) (st : List Value) (h : VG) (x : Nat) : ev 234 1086 (some (.ref x) :: L) (st) h = ev 234 1087 (some (.ref x) :: L) (.ref x :: st) h := G_aload_n f234_1086 rfl
theorem f234_1087 : fetch 234 1087 = some (.iload_n 3, 1) := vtab tk234_15 43 rfl
theorem e234_1087 (l0 l1 l2 : Option Value) (L : VL) (st : List Value) (h : VG) (x : Int32) : ev 234 1087 (l0 :: l1 :: l2 :: some (.int x) :: L) (st) h = ev 234 1088 (l0 :: l1 :: l2 :: some (.int x) :: L) (.int x :: st) h := G_iload_n f234_1087 rfl
theorem f234_1088 : fetch 234 1088 = some (.iconst 4, 1) := vtab tk234_15 44 rfl
theorem e234_1088 (L : VL) (st : List Value) (h : VG) : ev 234 1088 L (st) h = ev 234 1089 L (.int (4 : Int32) :: st) h := G_iconst f234_1088 (by decide)
theorem f234_1089 : fetch 234 1089 = some (.iadd, 1) := vtab tk234_15 45 rfl
theorem e234_1089 (L : VL) (st : List Value) (h : VG) (x y : Int32) : ev 234 1089 L (.int y :: .int x :: st) h = ev 234 1090 L (.int (x + y) :: st) h := G_iadd f234_1089
theorem f234_1090 : fetch 234 1090 = some (.iaload, 1) := vtab tk234_15 46 rfl
theorem e234_1090 (L : VL) (st : List Value) (h : VG) (a : Nat) (i : Int32) (ha : rdI h a) (hi : vp_in i (aln h a)) : ev 234 1090 L (.int i :: .ref a :: st) h = ev 234 1091 L (.int (aI h a i.toNatClampNeg) :: st) h := G_iald' f234_1090 ha hi
theorem f234_1091 : fetch 234 1091 = some (.ifCond .eq 7, 3) := vtab tk234_15 47 rfl
theorem e234_1091 (L : VL) (st : List Value) (h : VG) (x : Int32) : ev 234 1091 L (.int x :: st) h = if x = 0 then ev 234 1098 L st h else ev 234 1094 L st h := G_if_eq f234_1091 (by decide)
theorem f234_1094 : fetch 234 1094 = some (.iconst 1, 1) := vtab tk234_15 48 rfl
theorem e234_1094 (L : VL) (st : List Value) (h : VG) : ev 234 1094 L (st) h = ev 234 1095 L (.int (1 : Int32) :: st) h := G_iconst f234_1094 (by decide)
theorem f234_1095 : fetch 234 1095 = some (.goto 4, 3) := vtab tk234_15 49 rfl
theorem e234_1095 (L : VL) (st : List Value) (h : VG) : ev 234 1095 L (st) h = ev 234 1099 L (st) h := G_goto f234_1095 (by decide)
theorem f234_1098 : fetch 234 1098 = some (.iconst 0, 1) := vtab tk234_16 0 rfl
theorem e234_1098 (L : VL) (st : List Value) (h : VG) : ev 234 1098 L (st) h = ev 234 1099 L (.int (0 : Int32) :: st) h := G_iconst f234_1098 (by decide)
theorem f234_1099 : fetch 234 1099 = some (.invokevirtual 111, 3) := vtab tk234_16 1 rfl
theorem e234_1099 (L : VL) (st : List Value) (h : VG) (b : Nat) (x0 : Int32) (x1 : Int32) (x2 : Int32) (x3 : Int32) (ho : ob h b 11) (hs : catS st ≤ 8) : ev 234 1099 L (.int x3 :: .int x2 :: .int x1 :: .int x0 :: .ref b :: st) h = (ev 217 0 [some (.ref b), some (.int x0), some (.int x1), some (.int x2), some (.int x3), none, none, none, none] [] h).bind fun q => ev 234 1102 L (q.1.toList ++ st) q.2 := G_callv (k := 1) (p := 1523) (ars := [.int x0, .int x1, .int x2, .int x3]) f234_1099 lkC_13_111 (by decide) (by decide +kernel) rfl (vcls_ob (ci := 11) (by decide) ho) (Nat.le_of_ble_eq_true rfl) hs rfl
theorem f234_1102 : fetch 234 1102 = some (.if_icmp .eq 299, 3) := vtab tk234_16 2 rfl
theorem e234_1102 (L : VL) (st : List Value) (h : VG) (x y : Int32) : ev 234 1102 L (.int y :: .int x :: st) h = if x = y then ev 234 1401 L st h else ev 234 1105 L st h := G_icmp_eq f234_1102 (by decide)
theorem f234_1105 : fetch 234 1105 = some (.iconst 0, 1) := vtab tk234_16 3 rfl
theorem e234_1105 (L : VL) (st : List Value) (h : VG) : ev 234 1105 L (st) h = ev 234 1106 L (.int (0 : Int32) :: st) h := G_iconst f234_1105 (by decide)
theorem f234_1106 : fetch 234 1106 = some (.ireturn, 1) := vtab tk234_16 4 rfl
theorem e234_1106 (L : VL) (h : VG) (x : Int32) (hz : x = 0 ∨ x = 1) : ev 234 1106 L [.int x] h = some (some (.int x), h) := G_iret f234_1106 (ty := .boolean) (by decide) (vbool hz).1
theorem f234_1107 : fetch 234 1107 = some (.aload_n 1, 1) := vtab tk234_16 5 rfl
theorem e234_1107 (l0 : Option Value) (L : VL) (st : List Value) (h : VG) (x : Nat) : ev 234 1107 (l0 :: some (.ref x) :: L) (st) h = ev 234 1108 (l0 :: some (.ref x) :: L) (.ref x :: st) h := G_aload_n f234_1107 rfl
theorem f234_1108 : fetch 234 1108 = some (.aload_n 0, 1) := vtab tk234_16 6 rfl
theorem e234_1108 (L : VL) (st : List Value) (h : VG) (x : Nat) : ev 234 1108 (some (.ref x) :: L) (st) h = ev 234 1109 (some (.ref x) :: L) (.ref x :: st) h := G_aload_n f234_1108 rfl
theorem f234_1109 : fetch 234 1109 = some (.iload_n 3, 1) := vtab tk234_16 7 rfl
theorem e234_1109 (l0 l1 l2 : Option Value) (L : VL) (st : List Value) (h : VG) (x : Int32) : ev 234 1109 (l0 :: l1 :: l2 :: some (.int x) :: L) (st) h = ev 234 1110 (l0 :: l1 :: l2 :: some (.int x) :: L) (.int x :: st) h := G_iload_n f234_1109 rfl
theorem f234_1110 : fetch 234 1110 = some (.iconst 1, 1) := vtab tk234_16 8 rfl
theorem e234_1110 (L : VL) (st : List Value) (h : VG) : ev 234 1110 L (st) h = ev 234 1111 L (.int (1 : Int32) :: st) h := G_iconst f234_1110 (by decide)
theorem f234_1111 : fetch 234 1111 = some (.iadd, 1) := vtab tk234_16 9 rfl
theorem e234_1111 (L : VL) (st : List Value) (h : VG) (x y : Int32) : ev 234 1111 L (.int y :: .int x :: st) h = ev 234 1112 L (.int (x + y) :: st) h := G_iadd f234_1111
theorem f234_1112 : fetch 234 1112 = some (.iaload, 1) := vtab tk234_16 10 rfl
theorem e234_1112 (L : VL) (st : List Value) (h : VG) (a : Nat) (i : Int32) (ha : rdI h a) (hi : vp_in i (aln h a)) : ev 234 1112 L (.int i :: .ref a :: st) h = ev 234 1113 L (.int (aI h a i.toNatClampNeg) :: st) h := G_iald' f234_1112 ha hi
theorem f234_1113 : fetch 234 1113 = some (.aload_n 0, 1) := vtab tk234_16 11 rfl
theorem e234_1113 (L : VL) (st : List Value) (h : VG) (x : Nat) : ev 234 1113 (some (.ref x) :: L) (st) h = ev 234 1114 (some (.ref x) :: L) (.ref x :: st) h := G_aload_n f234_1113 rfl
theorem f234_1114 : fetch 234 1114 = some (.iload_n 3, 1) := vtab tk234_16 12 rfl
theorem e234_1114 (l0 l1 l2 : Option Value) (L : VL) (st : List Value) (h : VG) (x : Int32) : ev 234 1114 (l0 :: l1 :: l2 :: some (.int x) :: L) (st) h = ev 234 1115 (l0 :: l1 :: l2 :: some (.int x) :: L) (.int x :: st) h := G_iload_n f234_1114 rfl
theorem f234_1115 : fetch 234 1115 = some (.iconst 2, 1) := vtab tk234_16 13 rfl
theorem e234_1115 (L : VL) (st : List Value) (h : VG) : ev 234 1115 L (st) h = ev 234 1116 L (.int (2 : Int32) :: st) h := G_iconst f234_1115 (by decide)
theorem f234_1116 : fetch 234 1116 = some (.iadd, 1) := vtab tk234_16 14 rfl
theorem e234_1116 (L : VL) (st : List Value) (h : VG) (x y : Int32) : ev 234 1116 L (.int y :: .int x :: st) h = ev 234 1117 L (.int (x + y) :: st) h := G_iadd f234_1116
theorem f234_1117 : fetch 234 1117 = some (.iaload, 1) := vtab tk234_16 15 rfl
theorem e234_1117 (L : VL) (st : List Value) (h : VG) (a : Nat) (i : Int32) (ha : rdI h a) (hi : vp_in i (aln h a)) : ev 234 1117 L (.int i :: .ref a :: st) h = ev 234 1118 L (.int (aI h a i.toNatClampNeg) :: st) h := G_iald' f234_1117 ha hi
theorem f234_1118 : fetch 234 1118 = some (.aload_n 0, 1) := vtab tk234_16 16 rfl
theorem e234_1118 (L : VL) (st : List Value) (h : VG) (x : Nat) : ev 234 1118 (some (.ref x) :: L) (st) h = ev 234 1119 (some (.ref x) :: L) (.ref x :: st) h := G_aload_n f234_1118 rfl
theorem f234_1119 : fetch 234 1119 = some (.iload_n 3, 1) := vtab tk234_16 17 rfl
theorem e234_1119 (l0 l1 l2 : Option Value) (L : VL) (st : List Value) (h : VG) (x : Int32) : ev 234 1119 (l0 :: l1 :: l2 :: some (.int x) :: L) (st) h = ev 234 1120 (l0 :: l1 :: l2 :: some (.int x) :: L) (.int x :: st) h := G_iload_n f234_1119 rfl
theorem f234_1120 : fetch 234 1120 = some (.iconst 3, 1) := vtab tk234_16 18 rfl
theorem e234_1120 (L : VL) (st : List Value) (h : VG) : ev 234 1120 L (st) h = ev 234 1121 L (.int (3 : Int32) :: st) h := G_iconst f234_1120 (by decide)
theorem f234_1121 : fetch 234 1121 = some (.iadd, 1) := vtab tk234_16 19 rfl
theorem e234_1121 (L : VL) (st : List Value) (h : VG) (x y : Int32) : ev 234 1121 L (.int y :: .int x :: st) h = ev 234 1122 L (.int (x + y) :: st) h := G_iadd f234_1121
theorem f234_1122 : fetch 234 1122 = some (.iaload, 1) := vtab tk234_16 20 rfl
theorem e234_1122 (L : VL) (st : List Value) (h : VG) (a : Nat) (i : Int32) (ha : rdI h a) (hi : vp_in i (aln h a)) : ev 234 1122 L (.int i :: .ref a :: st) h = ev 234 1123 L (.int (aI h a i.toNatClampNeg) :: st) h := G_iald' f234_1122 ha hi
theorem f234_1123 : fetch 234 1123 = some (.invokevirtual 112, 3) := vtab tk234_16 21 rfl
theorem e234_1123 (L : VL) (st : List Value) (h : VG) (b : Nat) (x0 : Int32) (x1 : Int32) (x2 : Int32) (ho : ob h b 10) (hs : catS st ≤ 8) : ev 234 1123 L (.int x2 :: .int x1 :: .int x0 :: .ref b :: st) h = (ev 124 0 [some (.ref b), some (.int x0), some (.int x1), some (.int x2)] [] h).bind fun q => ev 234 1126 L (q.1.toList ++ st) q.2 := G_callv (k := 1) (p := 915) (ars := [.int x0, .int x1, .int x2]) f234_1123 lkC_13_112 (by decide) (by decide +kernel) rfl (vcls_ob (ci := 10) (by decide) ho) (Nat.le_of_ble_eq_true rfl) hs rfl
theorem f234_1126 : fetch 234 1126 = some (.aload_n 2, 1) := vtab tk234_16 22 rfl
theorem e234_1126 (l0 l1 : Option Value) (L : VL) (st : List Value) (h : VG) (x : Nat) : ev 234 1126 (l0 :: l1 :: some (.ref x) :: L) (st) h = ev 234 1127 (l0 :: l1 :: some (.ref x) :: L) (.ref x :: st) h := G_aload_n f234_1126 rfl
theorem f234_1127 : fetch 234 1127 = some (.aload_n 0, 1) := vtab tk234_16 23 rfl
theorem e234_1127 (L : VL) (st : List Value) (h : VG) (x : Nat) : ev 234 1127 (some (.ref x) :: L) (st) h = ev 234 1128 (some (.ref x) :: L) (.ref x :: st) h := G_aload_n f234_1127 rfl
theorem f234_1128 : fetch 234 1128 = some (.iload_n 3, 1) := vtab tk234_16 24 rfl
theorem e234_1128 (l0 l1 l2 : Option Value) (L : VL) (st : List Value) (h : VG) (x : Int32) : ev 234 1128 (l0 :: l1 :: l2 :: some (.int x) :: L) (st) h = ev 234 1129 (l0 :: l1 :: l2 :: some (.int x) :: L) (.int x :: st) h := G_iload_n f234_1128 rfl
theorem f234_1129 : fetch 234 1129 = some (.iconst 1, 1) := vtab tk234_16 25 rfl
theorem e234_1129 (L : VL) (st : List Value) (h : VG) : ev 234 1129 L (st) h = ev 234 1130 L (.int (1 : Int32) :: st) h := G_iconst f234_1129 (by decide)
theorem f234_1130 : fetch 234 1130 = some (.iadd, 1) := vtab tk234_16 26 rfl
theorem e234_1130 (L : VL) (st : List Value) (h : VG) (x y : Int32) : ev 234 1130 L (.int y :: .int x :: st) h = ev 234 1131 L (.int (x + y) :: st) h := G_iadd f234_1130
theorem f234_1131 : fetch 234 1131 = some (.iaload, 1) := vtab tk234_16 27 rfl
theorem e234_1131 (L : VL) (st : List Value) (h : VG) (a : Nat) (i : Int32) (ha : rdI h a) (hi : vp_in i (aln h a)) : ev 234 1131 L (.int i :: .ref a :: st) h = ev 234 1132 L (.int (aI h a i.toNatClampNeg) :: st) h := G_iald' f234_1131 ha hi
theorem f234_1132 : fetch 234 1132 = some (.aload_n 0, 1) := vtab tk234_16 28 rfl
theorem e234_1132 (L : VL) (st : List Value) (h : VG) (x : Nat) : ev 234 1132 (some (.ref x) :: L) (st) h = ev 234 1133 (some (.ref x) :: L) (.ref x :: st) h := G_aload_n f234_1132 rfl
theorem f234_1133 : fetch 234 1133 = some (.iload_n 3, 1) := vtab tk234_16 29 rfl
theorem e234_1133 (l0 l1 l2 : Option Value) (L : VL) (st : List Value) (h : VG) (x : Int32) : ev 234 1133 (l0 :: l1 :: l2 :: some (.int x) :: L) (st) h = ev 234 1134 (l0 :: l1 :: l2 :: some (.int x) :: L) (.int x :: st) h := G_iload_n f234_1133 rfl
theorem f234_1134 : fetch 234 1134 = some (.iconst 2, 1) := vtab tk234_16 30 rfl
theorem e234_1134 (L : VL) (st : List Value) (h : VG) : ev 234 1134 L (st) h = ev 234 1135 L (.int (2 : Int32) :: st) h := G_iconst f234_1134 (by decide)
theorem f234_1135 : fetch 234 1135 = some (.iadd, 1) := vtab tk234_16 31 rfl
theorem e234_1135 (L : VL) (st : List Value) (h : VG) (x y : Int32) : ev 234 1135 L (.int y :: .int x :: st) h = ev 234 1136 L (.int (x + y) :: st) h := G_iadd f234_1135
theorem f234_1136 : fetch 234 1136 = some (.iaload, 1) := vtab tk234_16 32 rfl
theorem e234_1136 (L : VL) (st : List Value) (h : VG) (a : Nat) (i : Int32) (ha : rdI h a) (hi : vp_in i (aln h a)) : ev 234 1136 L (.int i :: .ref a :: st) h = ev 234 1137 L (.int (aI h a i.toNatClampNeg) :: st) h := G_iald' f234_1136 ha hi
theorem f234_1137 : fetch 234 1137 = some (.aload_n 0, 1) := vtab tk234_16 33 rfl
theorem e234_1137 (L : VL) (st : List Value) (h : VG) (x : Nat) : ev 234 1137 (some (.ref x) :: L) (st) h = ev 234 1138 (some (.ref x) :: L) (.ref x :: st) h := G_aload_n f234_1137 rfl
theorem f234_1138 : fetch 234 1138 = some (.iload_n 3, 1) := vtab tk234_16 34 rfl
theorem e234_1138 (l0 l1 l2 : Option Value) (L : VL) (st : List Value) (h : VG) (x : Int32) : ev 234 1138 (l0 :: l1 :: l2 :: some (.int x) :: L) (st) h = ev 234 1139 (l0 :: l1 :: l2 :: some (.int x) :: L) (.int x :: st) h := G_iload_n f234_1138 rfl
theorem f234_1139 : fetch 234 1139 = some (.iconst 3, 1) := vtab tk234_16 35 rfl
theorem e234_1139 (L : VL) (st : List Value) (h : VG) : ev 234 1139 L (st) h = ev 234 1140 L (.int (3 : Int32) :: st) h := G_iconst f234_1139 (by decide)
theorem f234_1140 : fetch 234 1140 = some (.iadd, 1) := vtab tk234_16 36 rfl
theorem e234_1140 (L : VL) (st : List Value) (h : VG) (x y : Int32) : ev 234 1140 L (.int y :: .int x :: st) h = ev 234 1141 L (.int (x + y) :: st) h := G_iadd f234_1140
theorem f234_1141 : fetch 234 1141 = some (.iaload, 1) := vtab tk234_16 37 rfl
theorem e234_1141 (L : VL) (st : List Value) (h : VG) (a : Nat) (i : Int32) (ha : rdI h a) (hi : vp_in i (aln h a)) : ev 234 1141 L (.int i :: .ref a :: st) h = ev 234 1142 L (.int (aI h a i.toNatClampNeg) :: st) h := G_iald' f234_1141 ha hi
theorem f234_1142 : fetch 234 1142 = some (.invokevirtual 115, 3) := vtab tk234_16 38 rfl
theorem e234_1142 (L : VL) (st : List Value) (h : VG) (b : Nat) (x0 : Int32) (x1 : Int32) (x2 : Int32) (ho : ob h b 11) (hs : catS st ≤ 8) : ev 234 1142 L (.int x2 :: .int x1 :: .int x0 :: .ref b :: st) h = (ev 220 0 [some (.ref b), some (.int x0), some (.int x1), some (.int x2), none, none, none] [] h).bind fun q => ev 234 1145 L (q.1.toList ++ st) q.2 := G_callv (k := 1) (p := 1531) (ars := [.int x0, .int x1, .int x2]) f234_1142 lkC_13_115 (by decide) (by decide +kernel) rfl (vcls_ob (ci := 11) (by decide) ho) (Nat.le_of_ble_eq_true rfl) hs rfl
theorem f234_1145 : fetch 234 1145 = some (.if_icmp .eq 256, 3) := vtab tk234_16 39 rfl
theorem e234_1145 (L : VL) (st : List Value) (h : VG) (x y : Int32) : ev 234 1145 L (.int y :: .int x :: st) h = if x = y then ev 234 1401 L st h else ev 234 1148 L st h := G_icmp_eq f234_1145 (by decide)
theorem f234_1148 : fetch 234 1148 = some (.iconst 0, 1) := vtab tk234_16 40 rfl
theorem e234_1148 (L : VL) (st : List Value) (h : VG) : ev 234 1148 L (st) h = ev 234 1149 L (.int (0 : Int32) :: st) h := G_iconst f234_1148 (by decide)
theorem f234_1149 : fetch 234 1149 = some (.ireturn, 1) := vtab tk234_16 41 rfl
theorem e234_1149 (L : VL) (h : VG) (x : Int32) (hz : x = 0 ∨ x = 1) : ev 234 1149 L [.int x] h = some (some (.int x), h) := G_iret f234_1149 (ty := .boolean) (by decide) (vbool hz).1
theorem f234_1150 : fetch 234 1150 = some (.aload_n 1, 1) := vtab tk234_16 42 rfl
theorem e234_1150 (l0 : Option Value) (L : VL) (st : List Value) (h : VG) (x : Nat) : ev 234 1150 (l0 :: some (.ref x) :: L) (st) h = ev 234 1151 (l0 :: some (.ref x) :: L) (.ref x :: st) h := G_aload_n f234_1150 rfl
theorem f234_1151 : fetch 234 1151 = some (.aload_n 0, 1) := vtab tk234_16 43 rfl
theorem e234_1151 (L : VL) (st : List Value) (h : VG) (x : Nat) : ev 234 1151 (some (.ref x) :: L) (st) h = ev 234 1152 (some (.ref x) :: L) (.ref x :: st) h := G_aload_n f234_1151 rfl
theorem f234_1152 : fetch 234 1152 = some (.iload_n 3, 1) := vtab tk234_16 44 rfl
theorem e234_1152 (l0 l1 l2 : Option Value) (L : VL) (st : List Value) (h : VG) (x : Int32) : ev 234 1152 (l0 :: l1 :: l2 :: some (.int x) :: L) (st) h = ev 234 1153 (l0 :: l1 :: l2 :: some (.int x) :: L) (.int x :: st) h := G_iload_n f234_1152 rfl
theorem f234_1153 : fetch 234 1153 = some (.iconst 1, 1) := vtab tk234_16 45 rfl
theorem e234_1153 (L : VL) (st : List Value) (h : VG) : ev 234 1153 L (st) h = ev 234 1154 L (.int (1 : Int32) :: st) h := G_iconst f234_1153 (by decide)
theorem f234_1154 : fetch 234 1154 = some (.iadd, 1) := vtab tk234_16 46 rfl
theorem e234_1154 (L : VL) (st : List Value) (h : VG) (x y : Int32) : ev 234 1154 L (.int y :: .int x :: st) h = ev 234 1155 L (.int (x + y) :: st) h := G_iadd f234_1154
theorem f234_1155 : fetch 234 1155 = some (.iaload, 1) := vtab tk234_16 47 rfl
theorem e234_1155 (L : VL) (st : List Value) (h : VG) (a : Nat) (i : Int32) (ha : rdI h a) (hi : vp_in i (aln h a)) : ev 234 1155 L (.int i :: .ref a :: st) h = ev 234 1156 L (.int (aI h a i.toNatClampNeg) :: st) h := G_iald' f234_1155 ha hi
theorem f234_1156 : fetch 234 1156 = some (.aload_n 0, 1) := vtab tk234_16 48 rfl
theorem e234_1156 (L : VL) (st : List Value) (h : VG) (x : Nat) : ev 234 1156 (some (.ref x) :: L) (st) h = ev 234 1157 (some (.ref x) :: L) (.ref x :: st) h := G_aload_n f234_1156 rfl
theorem f234_1157 : fetch 234 1157 = some (.iload_n 3, 1) := vtab tk234_16 49 rfl
theorem e234_1157 (l0 l1 l2 : Option Value) (L : VL) (st : List Value) (h : VG) (x : Int32) : ev 234 1157 (l0 :: l1 :: l2 :: some (.int x) :: L) (st) h = ev 234 1158 (l0 :: l1 :: l2 :: some (.int x) :: L) (.int x :: st) h := G_iload_n f234_1157 rfl
theorem f234_1158 : fetch 234 1158 = some (.iconst 2, 1) := vtab tk234_17 0 rfl
theorem e234_1158 (L : VL) (st : List Value) (h : VG) : ev 234 1158 L (st) h = ev 234 1159 L (.int (2 : Int32) :: st) h := G_iconst f234_1158 (by decide)
theorem f234_1159 : fetch 234 1159 = some (.iadd, 1) := vtab tk234_17 1 rfl
theorem e234_1159 (L : VL) (st : List Value) (h : VG) (x y : Int32) : ev 234 1159 L (.int y :: .int x :: st) h = ev 234 1160 L (.int (x + y) :: st) h := G_iadd f234_1159
theorem f234_1160 : fetch 234 1160 = some (.iaload, 1) := vtab tk234_17 2 rfl
theorem e234_1160 (L : VL) (st : List Value) (h : VG) (a : Nat) (i : Int32) (ha : rdI h a) (hi : vp_in i (aln h a)) : ev 234 1160 L (.int i :: .ref a :: st) h = ev 234 1161 L (.int (aI h a i.toNatClampNeg) :: st) h := G_iald' f234_1160 ha hi
theorem f234_1161 : fetch 234 1161 = some (.aload_n 0, 1) := vtab tk234_17 3 rfl
theorem e234_1161 (L : VL) (st : List Value) (h : VG) (x : Nat) : ev 234 1161 (some (.ref x) :: L) (st) h = ev 234 1162 (some (.ref x) :: L) (.ref x :: st) h := G_aload_n f234_1161 rfl
theorem f234_1162 : fetch 234 1162 = some (.iload_n 3, 1) := vtab tk234_17 4 rfl
theorem e234_1162 (l0 l1 l2 : Option Value) (L : VL) (st : List Value) (h : VG) (x : Int32) : ev 234 1162 (l0 :: l1 :: l2 :: some (.int x) :: L) (st) h = ev 234 1163 (l0 :: l1 :: l2 :: some (.int x) :: L) (.int x :: st) h := G_iload_n f234_1162 rfl
theorem f234_1163 : fetch 234 1163 = some (.iconst 3, 1) := vtab tk234_17 5 rfl
theorem e234_1163 (L : VL) (st : List Value) (h : VG) : ev 234 1163 L (st) h = ev 234 1164 L (.int (3 : Int32) :: st) h := G_iconst f234_1163 (by decide)
theorem f234_1164 : fetch 234 1164 = some (.iadd, 1) := vtab tk234_17 6 rfl
theorem e234_1164 (L : VL) (st : List Value) (h : VG) (x y : Int32) : ev 234 1164 L (.int y :: .int x :: st) h = ev 234 1165 L (.int (x + y) :: st) h := G_iadd f234_1164
theorem f234_1165 : fetch 234 1165 = some (.iaload, 1) := vtab tk234_17 7 rfl
theorem e234_1165 (L : VL) (st : List Value) (h : VG) (a : Nat) (i : Int32) (ha : rdI h a) (hi : vp_in i (aln h a)) : ev 234 1165 L (.int i :: .ref a :: st) h = ev 234 1166 L (.int (aI h a i.toNatClampNeg) :: st) h := G_iald' f234_1165 ha hi
theorem f234_1166 : fetch 234 1166 = some (.aload_n 0, 1) := vtab tk234_17 8 rfl
theorem e234_1166 (L : VL) (st : List Value) (h : VG) (x : Nat) : ev 234 1166 (some (.ref x) :: L) (st) h = ev 234 1167 (some (.ref x) :: L) (.ref x :: st) h := G_aload_n f234_1166 rfl
theorem f234_1167 : fetch 234 1167 = some (.iload_n 3, 1) := vtab tk234_17 9 rfl
theorem e234_1167 (l0 l1 l2 : Option Value) (L : VL) (st : List Value) (h : VG) (x : Int32) : ev 234 1167 (l0 :: l1 :: l2 :: some (.int x) :: L) (st) h = ev 234 1168 (l0 :: l1 :: l2 :: some (.int x) :: L) (.int x :: st) h := G_iload_n f234_1167 rfl
theorem f234_1168 : fetch 234 1168 = some (.iconst 4, 1) := vtab tk234_17 10 rfl
theorem e234_1168 (L : VL) (st : List Value) (h : VG) : ev 234 1168 L (st) h = ev 234 1169 L (.int (4 : Int32) :: st) h := G_iconst f234_1168 (by decide)
theorem f234_1169 : fetch 234 1169 = some (.iadd, 1) := vtab tk234_17 11 rfl
theorem e234_1169 (L : VL) (st : List Value) (h : VG) (x y : Int32) : ev 234 1169 L (.int y :: .int x :: st) h = ev 234 1170 L (.int (x + y) :: st) h := G_iadd f234_1169
theorem f234_1170 : fetch 234 1170 = some (.iaload, 1) := vtab tk234_17 12 rfl
theorem e234_1170 (L : VL) (st : List Value) (h : VG) (a : Nat) (i : Int32) (ha : rdI h a) (hi : vp_in i (aln h a)) : ev 234 1170 L (.int i :: .ref a :: st) h = ev 234 1171 L (.int (aI h a i.toNatClampNeg) :: st) h := G_iald' f234_1170 ha hi
theorem f234_1171 : fetch 234 1171 = some (.ifCond .eq 7, 3) := vtab tk234_17 13 rfl
theorem e234_1171 (L : VL) (st : List Value) (h : VG) (x : Int32) : ev 234 1171 L (.int x :: st) h = if x = 0 then ev 234 1178 L st h else ev 234 1174 L st h := G_if_eq f234_1171 (by decide)
theorem f234_1174 : fetch 234 1174 = some (.iconst 1, 1) := vtab tk234_17 14 rfl
theorem e234_1174 (L : VL) (st : List Value) (h : VG) : ev 234 1174 L (st) h = ev 234 1175 L (.int (1 : Int32) :: st) h := G_iconst f234_1174 (by decide)
theorem f234_1175 : fetch 234 1175 = some (.goto 4, 3) := vtab tk234_17 15 rfl
theorem e234_1175 (L : VL) (st : List Value) (h : VG) : ev 234 1175 L (st) h = ev 234 1179 L (st) h := G_goto f234_1175 (by decide)
theorem f234_1178 : fetch 234 1178 = some (.iconst 0, 1) := vtab tk234_17 16 rfl
theorem e234_1178 (L : VL) (st : List Value) (h : VG) : ev 234 1178 L (st) h = ev 234 1179 L (.int (0 : Int32) :: st) h := G_iconst f234_1178 (by decide)
theorem f234_1179 : fetch 234 1179 = some (.invokevirtual 116, 3) := vtab tk234_17 17 rfl
theorem e234_1179 (L : VL) (st : List Value) (h : VG) (b : Nat) (x0 : Int32) (x1 : Int32) (x2 : Int32) (x3 : Int32) (ho : ob h b 10) (hs : catS st ≤ 8) : ev 234 1179 L (.int x3 :: .int x2 :: .int x1 :: .int x0 :: .ref b :: st) h = (ev 126 0 [some (.ref b), some (.int x0), some (.int x1), some (.int x2), some (.int x3)] [] h).bind fun q => ev 234 1182 L (q.1.toList ++ st) q.2 := G_callv (k := 1) (p := 932) (ars := [.int x0, .int x1, .int x2, .int x3]) f234_1179 lkC_13_116 (by decide) (by decide +kernel) rfl (vcls_ob (ci := 10) (by decide) ho) (Nat.le_of_ble_eq_true rfl) hs rfl
theorem f234_1182 : fetch 234 1182 = some (.aload_n 2, 1) := vtab tk234_17 18 rfl
theorem e234_1182 (l0 l1 : Option Value) (L : VL) (st : List Value) (h : VG) (x : Nat) : ev 234 1182 (l0 :: l1 :: some (.ref x) :: L) (st) h = ev 234 1183 (l0 :: l1 :: some (.ref x) :: L) (.ref x :: st) h := G_aload_n f234_1182 rfl
theorem f234_1183 : fetch 234 1183 = some (.aload_n 0, 1) := vtab tk234_17 19 rfl
theorem e234_1183 (L : VL) (st : List Value) (h : VG) (x : Nat) : ev 234 1183 (some (.ref x) :: L) (st) h = ev 234 1184 (some (.ref x) :: L) (.ref x :: st) h := G_aload_n f234_1183 rfl
theorem f234_1184 : fetch 234 1184 = some (.iload_n 3, 1) := vtab tk234_17 20 rfl
theorem e234_1184 (l0 l1 l2 : Option Value) (L : VL) (st : List Value) (h : VG) (x : Int32) : ev 234 1184 (l0 :: l1 :: l2 :: some (.int x) :: L) (st) h = ev 234 1185 (l0 :: l1 :: l2 :: some (.int x) :: L) (.int x :: st) h := G_iload_n f234_1184 rfl
theorem f234_1185 : fetch 234 1185 = some (.iconst 1, 1) := vtab tk234_17 21 rfl
theorem e234_1185 (L : VL) (st : List Value) (h : VG) : ev 234 1185 L (st) h = ev 234 1186 L (.int (1 : Int32) :: st) h := G_iconst f234_1185 (by decide)
theorem f234_1186 : fetch 234 1186 = some (.iadd, 1) := vtab tk234_17 22 rfl
theorem e234_1186 (L : VL) (st : List Value) (h : VG) (x y : Int32) : ev 234 1186 L (.int y :: .int x :: st) h = ev 234 1187 L (.int (x + y) :: st) h := G_iadd f234_1186
theorem f234_1187 : fetch 234 1187 = some (.iaload, 1) := vtab tk234_17 23 rfl
theorem e234_1187 (L : VL) (st : List Value) (h : VG) (a : Nat) (i : Int32) (ha : rdI h a) (hi : vp_in i (aln h a)) : ev 234 1187 L (.int i :: .ref a :: st) h = ev 234 1188 L (.int (aI h a i.toNatClampNeg) :: st) h := G_iald' f234_1187 ha hi
theorem f234_1188 : fetch 234 1188 = some (.aload_n 0, 1) := vtab tk234_17 24 rfl
theorem e234_1188 (L : VL) (st : List Value) (h : VG) (x : Nat) : ev 234 1188 (some (.ref x) :: L) (st) h = ev 234 1189 (some (.ref x) :: L) (.ref x :: st) h := G_aload_n f234_1188 rfl
theorem f234_1189 : fetch 234 1189 = some (.iload_n 3, 1) := vtab tk234_17 25 rfl
theorem e234_1189 (l0 l1 l2 : Option Value) (L : VL) (st : List Value) (h : VG) (x : Int32) : ev 234 1189 (l0 :: l1 :: l2 :: some (.int x) :: L) (st) h = ev 234 1190 (l0 :: l1 :: l2 :: some (.int x) :: L) (.int x :: st) h := G_iload_n f234_1189 rfl
theorem f234_1190 : fetch 234 1190 = some (.iconst 2, 1) := vtab tk234_17 26 rfl
theorem e234_1190 (L : VL) (st : List Value) (h : VG) : ev 234 1190 L (st) h = ev 234 1191 L (.int (2 : Int32) :: st) h := G_iconst f234_1190 (by decide)
theorem f234_1191 : fetch 234 1191 = some (.iadd, 1) := vtab tk234_17 27 rfl
theorem e234_1191 (L : VL) (st : List Value) (h : VG) (x y : Int32) : ev 234 1191 L (.int y :: .int x :: st) h = ev 234 1192 L (.int (x + y) :: st) h := G_iadd f234_1191
theorem f234_1192 : fetch 234 1192 = some (.iaload, 1) := vtab tk234_17 28 rfl
theorem e234_1192 (L : VL) (st : List Value) (h : VG) (a : Nat) (i : Int32) (ha : rdI h a) (hi : vp_in i (aln h a)) : ev 234 1192 L (.int i :: .ref a :: st) h = ev 234 1193 L (.int (aI h a i.toNatClampNeg) :: st) h := G_iald' f234_1192 ha hi
theorem f234_1193 : fetch 234 1193 = some (.aload_n 0, 1) := vtab tk234_17 29 rfl
theorem e234_1193 (L : VL) (st : List Value) (h : VG) (x : Nat) : ev 234 1193 (some (.ref x) :: L) (st) h = ev 234 1194 (some (.ref x) :: L) (.ref x :: st) h := G_aload_n f234_1193 rfl
theorem f234_1194 : fetch 234 1194 = some (.iload_n 3, 1) := vtab tk234_17 30 rfl
theorem e234_1194 (l0 l1 l2 : Option Value) (L : VL) (st : List Value) (h : VG) (x : Int32) : ev 234 1194 (l0 :: l1 :: l2 :: some (.int x) :: L) (st) h = ev 234 1195 (l0 :: l1 :: l2 :: some (.int x) :: L) (.int x :: st) h := G_iload_n f234_1194 rfl
theorem f234_1195 : fetch 234 1195 = some (.iconst 3, 1) := vtab tk234_17 31 rfl
theorem e234_1195 (L : VL) (st : List Value) (h : VG) : ev 234 1195 L (st) h = ev 234 1196 L (.int (3 : Int32) :: st) h := G_iconst f234_1195 (by decide)
theorem f234_1196 : fetch 234 1196 = some (.iadd, 1) := vtab tk234_17 32 rfl
theorem e234_1196 (L : VL) (st : List Value) (h : VG) (x y : Int32) : ev 234 1196 L (.int y :: .int x :: st) h = ev 234 1197 L (.int (x + y) :: st) h := G_iadd f234_1196
theorem f234_1197 : fetch 234 1197 = some (.iaload, 1) := vtab tk234_17 33 rfl
theorem e234_1197 (L : VL) (st : List Value) (h : VG) (a : Nat) (i : Int32) (ha : rdI h a) (hi : vp_in i (aln h a)) : ev 234 1197 L (.int i :: .ref a :: st) h = ev 234 1198 L (.int (aI h a i.toNatClampNeg) :: st) h := G_iald' f234_1197 ha hi
theorem f234_1198 : fetch 234 1198 = some (.aload_n 0, 1) := vtab tk234_17 34 rfl
theorem e234_1198 (L : VL) (st : List Value) (h : VG) (x : Nat) : ev 234 1198 (some (.ref x) :: L) (st) h = ev 234 1199 (some (.ref x) :: L) (.ref x :: st) h := G_aload_n f234_1198 rfl
theorem f234_1199 : fetch 234 1199 = some (.iload_n 3, 1) := vtab tk234_17 35 rfl
theorem e234_1199 (l0 l1 l2 : Option Value) (L : VL) (st : List Value) (h : VG) (x : Int32) : ev 234 1199 (l0 :: l1 :: l2 :: some (.int x) :: L) (st) h = ev 234 1200 (l0 :: l1 :: l2 :: some (.int x) :: L) (.int x :: st) h := G_iload_n f234_1199 rfl
theorem f234_1200 : fetch 234 1200 = some (.iconst 4, 1) := vtab tk234_17 36 rfl
theorem e234_1200 (L : VL) (st : List Value) (h : VG) : ev 234 1200 L (st) h = ev 234 1201 L (.int (4 : Int32) :: st) h := G_iconst f234_1200 (by decide)
theorem f234_1201 : fetch 234 1201 = some (.iadd, 1) := vtab tk234_17 37 rfl
theorem e234_1201 (L : VL) (st : List Value) (h : VG) (x y : Int32) : ev 234 1201 L (.int y :: .int x :: st) h = ev 234 1202 L (.int (x + y) :: st) h := G_iadd f234_1201
theorem f234_1202 : fetch 234 1202 = some (.iaload, 1) := vtab tk234_17 38 rfl
theorem e234_1202 (L : VL) (st : List Value) (h : VG) (a : Nat) (i : Int32) (ha : rdI h a) (hi : vp_in i (aln h a)) : ev 234 1202 L (.int i :: .ref a :: st) h = ev 234 1203 L (.int (aI h a i.toNatClampNeg) :: st) h := G_iald' f234_1202 ha hi
theorem f234_1203 : fetch 234 1203 = some (.ifCond .eq 7, 3) := vtab tk234_17 39 rfl
theorem e234_1203 (L : VL) (st : List Value) (h : VG) (x : Int32) : ev 234 1203 L (.int x :: st) h = if x = 0 then ev 234 1210 L st h else ev 234 1206 L st h := G_if_eq f234_1203 (by decide)
theorem f234_1206 : fetch 234 1206 = some (.iconst 1, 1) := vtab tk234_17 40 rfl
theorem e234_1206 (L : VL) (st : List Value) (h : VG) : ev 234 1206 L (st) h = ev 234 1207 L (.int (1 : Int32) :: st) h := G_iconst f234_1206 (by decide)
theorem f234_1207 : fetch 234 1207 = some (.goto 4, 3) := vtab tk234_17 41 rfl
theorem e234_1207 (L : VL) (st : List Value) (h : VG) : ev 234 1207 L (st) h = ev 234 1211 L (st) h := G_goto f234_1207 (by decide)
theorem f234_1210 : fetch 234 1210 = some (.iconst 0, 1) := vtab tk234_17 42 rfl
theorem e234_1210 (L : VL) (st : List Value) (h : VG) : ev 234 1210 L (st) h = ev 234 1211 L (.int (0 : Int32) :: st) h := G_iconst f234_1210 (by decide)
theorem f234_1211 : fetch 234 1211 = some (.invokevirtual 119, 3) := vtab tk234_17 43 rfl
theorem e234_1211 (L : VL) (st : List Value) (h : VG) (b : Nat) (x0 : Int32) (x1 : Int32) (x2 : Int32) (x3 : Int32) (ho : ob h b 11) (hs : catS st ≤ 8) : ev 234 1211 L (.int x3 :: .int x2 :: .int x1 :: .int x0 :: .ref b :: st) h = (ev 221 0 [some (.ref b), some (.int x0), some (.int x1), some (.int x2), some (.int x3), none, none, none, none] [] h).bind fun q => ev 234 1214 L (q.1.toList ++ st) q.2 := G_callv (k := 1) (p := 1539) (ars := [.int x0, .int x1, .int x2, .int x3]) f234_1211 lkC_13_119 (by decide) (by decide +kernel) rfl (vcls_ob (ci := 11) (by decide) ho) (Nat.le_of_ble_eq_true rfl) hs rfl
theorem f234_1214 : fetch 234 1214 = some (.if_icmp .eq 187, 3) := vtab tk234_17 44 rfl
theorem e234_1214 (L : VL) (st : List Value) (h : VG) (x y : Int32) : ev 234 1214 L (.int y :: .int x :: st) h = if x = y then ev 234 1401 L st h else ev 234 1217 L st h := G_icmp_eq f234_1214 (by decide)
theorem f234_1217 : fetch 234 1217 = some (.iconst 0, 1) := vtab tk234_17 45 rfl
theorem e234_1217 (L : VL) (st : List Value) (h : VG) : ev 234 1217 L (st) h = ev 234 1218 L (.int (0 : Int32) :: st) h := G_iconst f234_1217 (by decide)
theorem f234_1218 : fetch 234 1218 = some (.ireturn, 1) := vtab tk234_17 46 rfl
theorem e234_1218 (L : VL) (h : VG) (x : Int32) (hz : x = 0 ∨ x = 1) : ev 234 1218 L [.int x] h = some (some (.int x), h) := G_iret f234_1218 (ty := .boolean) (by decide) (vbool hz).1
theorem f234_1219 : fetch 234 1219 = some (.aload_n 1, 1) := vtab tk234_17 47 rfl
theorem e234_1219 (l0 : Option Value) (L : VL) (st : List Value) (h : VG) (x : Nat) : ev 234 1219 (l0 :: some (.ref x) :: L) (st) h = ev 234 1220 (l0 :: some (.ref x) :: L) (.ref x :: st) h := G_aload_n f234_1219 rfl
theorem f234_1220 : fetch 234 1220 = some (.aload_n 0, 1) := vtab tk234_17 48 rfl
theorem e234_1220 (L : VL) (st : List Value) (h : VG) (x : Nat) : ev 234 1220 (some (.ref x) :: L) (st) h = ev 234 1221 (some (.ref x) :: L) (.ref x :: st) h := G_aload_n f234_1220 rfl
theorem f234_1221 : fetch 234 1221 = some (.iload_n 3, 1) := vtab tk234_17 49 rfl
theorem e234_1221 (l0 l1 l2 : Option Value) (L : VL) (st : List Value) (h : VG) (x : Int32) : ev 234 1221 (l0 :: l1 :: l2 :: some (.int x) :: L) (st) h = ev 234 1222 (l0 :: l1 :: l2 :: some (.int x) :: L) (.int x :: st) h := G_iload_n f234_1221 rfl
theorem f234_1222 : fetch 234 1222 = some (.iconst 1, 1) := vtab tk234_18 0 rfl
theorem e234_1222 (L : VL) (st : List Value) (h : VG) : ev 234 1222 L (st) h = ev 234 1223 L (.int (1 : Int32) :: st) h := G_iconst f234_1222 (by decide)
theorem f234_1223 : fetch 234 1223 = some (.iadd, 1) := vtab tk234_18 1 rfl
theorem e234_1223 (L : VL) (st : List Value) (h : VG) (x y : Int32) : ev 234 1223 L (.int y :: .int x :: st) h = ev 234 1224 L (.int (x + y) :: st) h := G_iadd f234_1223
theorem f234_1224 : fetch 234 1224 = some (.iaload, 1) := vtab tk234_18 2 rfl
theorem e234_1224 (L : VL) (st : List Value) (h : VG) (a : Nat) (i : Int32) (ha : rdI h a) (hi : vp_in i (aln h a)) : ev 234 1224 L (.int i :: .ref a :: st) h = ev 234 1225 L (.int (aI h a i.toNatClampNeg) :: st) h := G_iald' f234_1224 ha hi
theorem f234_1225 : fetch 234 1225 = some (.invokevirtual 120, 3) := vtab tk234_18 3 rfl
theorem e234_1225 (L : VL) (st : List Value) (h : VG) (b : Nat) (x0 : Int32) (ho : ob h b 10) (hs : catS st ≤ 8) : ev 234 1225 L (.int x0 :: .ref b :: st) h = (ev 127 0 [some (.ref b), some (.int x0)] [] h).bind fun q => ev 234 1228 L (q.1.toList ++ st) q.2 := G_callv (k := 1) (p := 946) (ars := [.int x0]) f234_1225 lkC_13_120 (by decide) (by decide +kernel) rfl (vcls_ob (ci := 10) (by decide) ho) (Nat.le_of_ble_eq_true rfl) hs rfl
theorem f234_1228 : fetch 234 1228 = some (.aload_n 2, 1) := vtab tk234_18 4 rfl
theorem e234_1228 (l0 l1 : Option Value) (L : VL) (st : List Value) (h : VG) (x : Nat) : ev 234 1228 (l0 :: l1 :: some (.ref x) :: L) (st) h = ev 234 1229 (l0 :: l1 :: some (.ref x) :: L) (.ref x :: st) h := G_aload_n f234_1228 rfl
theorem f234_1229 : fetch 234 1229 = some (.aload_n 0, 1) := vtab tk234_18 5 rfl
theorem e234_1229 (L : VL) (st : List Value) (h : VG) (x : Nat) : ev 234 1229 (some (.ref x) :: L) (st) h = ev 234 1230 (some (.ref x) :: L) (.ref x :: st) h := G_aload_n f234_1229 rfl
theorem f234_1230 : fetch 234 1230 = some (.iload_n 3, 1) := vtab tk234_18 6 rfl
theorem e234_1230 (l0 l1 l2 : Option Value) (L : VL) (st : List Value) (h : VG) (x : Int32) : ev 234 1230 (l0 :: l1 :: l2 :: some (.int x) :: L) (st) h = ev 234 1231 (l0 :: l1 :: l2 :: some (.int x) :: L) (.int x :: st) h := G_iload_n f234_1230 rfl
theorem f234_1231 : fetch 234 1231 = some (.iconst 1, 1) := vtab tk234_18 7 rfl
theorem e234_1231 (L : VL) (st : List Value) (h : VG) : ev 234 1231 L (st) h = ev 234 1232 L (.int (1 : Int32) :: st) h := G_iconst f234_1231 (by decide)
theorem f234_1232 : fetch 234 1232 = some (.iadd, 1) := vtab tk234_18 8 rfl
theorem e234_1232 (L : VL) (st : List Value) (h : VG) (x y : Int32) : ev 234 1232 L (.int y :: .int x :: st) h = ev 234 1233 L (.int (x + y) :: st) h := G_iadd f234_1232
theorem f234_1233 : fetch 234 1233 = some (.iaload, 1) := vtab tk234_18 9 rfl
theorem e234_1233 (L : VL) (st : List Value) (h : VG) (a : Nat) (i : Int32) (ha : rdI h a) (hi : vp_in i (aln h a)) : ev 234 1233 L (.int i :: .ref a :: st) h = ev 234 1234 L (.int (aI h a i.toNatClampNeg) :: st) h := G_iald' f234_1233 ha hi
theorem f234_1234 : fetch 234 1234 = some (.invokevirtual 124, 3) := vtab tk234_18 10 rfl
theorem e234_1234 (L : VL) (st : List Value) (h : VG) (b : Nat) (x0 : Int32) (ho : ob h b 11) (hs : catS st ≤ 8) : ev 234 1234 L (.int x0 :: .ref b :: st) h = (ev 224 0 [some (.ref b), some (.int x0)] [] h).bind fun q => ev 234 1237 L (q.1.toList ++ st) q.2 := G_callv (k := 1) (p := 1551) (ars := [.int x0]) f234_1234 lkC_13_124 (by decide) (by decide +kernel) rfl (vcls_ob (ci := 11) (by decide) ho) (Nat.le_of_ble_eq_true rfl) hs rfl
theorem f234_1237 : fetch 234 1237 = some (.lcmp, 1) := vtab tk234_18 11 rfl
theorem e234_1237 (L : VL) (st : List Value) (h : VG) (x y : Int64) : ev 234 1237 L (.long y :: .long x :: st) h = ev 234 1238 L (.int (lg_cmp x y) :: st) h := G_lcmp f234_1237
theorem f234_1238 : fetch 234 1238 = some (.ifCond .eq 163, 3) := vtab tk234_18 12 rfl
theorem e234_1238 (L : VL) (st : List Value) (h : VG) (x : Int32) : ev 234 1238 L (.int x :: st) h = if x = 0 then ev 234 1401 L st h else ev 234 1241 L st h := G_if_eq f234_1238 (by decide)
theorem f234_1241 : fetch 234 1241 = some (.iconst 0, 1) := vtab tk234_18 13 rfl
theorem e234_1241 (L : VL) (st : List Value) (h : VG) : ev 234 1241 L (st) h = ev 234 1242 L (.int (0 : Int32) :: st) h := G_iconst f234_1241 (by decide)
theorem f234_1242 : fetch 234 1242 = some (.ireturn, 1) := vtab tk234_18 14 rfl
theorem e234_1242 (L : VL) (h : VG) (x : Int32) (hz : x = 0 ∨ x = 1) : ev 234 1242 L [.int x] h = some (some (.int x), h) := G_iret f234_1242 (ty := .boolean) (by decide) (vbool hz).1
theorem f234_1243 : fetch 234 1243 = some (.aload_n 1, 1) := vtab tk234_18 15 rfl
theorem e234_1243 (l0 : Option Value) (L : VL) (st : List Value) (h : VG) (x : Nat) : ev 234 1243 (l0 :: some (.ref x) :: L) (st) h = ev 234 1244 (l0 :: some (.ref x) :: L) (.ref x :: st) h := G_aload_n f234_1243 rfl
theorem f234_1244 : fetch 234 1244 = some (.aload_n 0, 1) := vtab tk234_18 16 rfl
theorem e234_1244 (L : VL) (st : List Value) (h : VG) (x : Nat) : ev 234 1244 (some (.ref x) :: L) (st) h = ev 234 1245 (some (.ref x) :: L) (.ref x :: st) h := G_aload_n f234_1244 rfl
theorem f234_1245 : fetch 234 1245 = some (.iload_n 3, 1) := vtab tk234_18 17 rfl
theorem e234_1245 (l0 l1 l2 : Option Value) (L : VL) (st : List Value) (h : VG) (x : Int32) : ev 234 1245 (l0 :: l1 :: l2 :: some (.int x) :: L) (st) h = ev 234 1246 (l0 :: l1 :: l2 :: some (.int x) :: L) (.int x :: st) h := G_iload_n f234_1245 rfl
theorem f234_1246 : fetch 234 1246 = some (.iconst 1, 1) := vtab tk234_18 18 rfl
theorem e234_1246 (L : VL) (st : List Value) (h : VG) : ev 234 1246 L (st) h = ev 234 1247 L (.int (1 : Int32) :: st) h := G_iconst f234_1246 (by decide)
theorem f234_1247 : fetch 234 1247 = some (.iadd, 1) := vtab tk234_18 19 rfl
theorem e234_1247 (L : VL) (st : List Value) (h : VG) (x y : Int32) : ev 234 1247 L (.int y :: .int x :: st) h = ev 234 1248 L (.int (x + y) :: st) h := G_iadd f234_1247
theorem f234_1248 : fetch 234 1248 = some (.iaload, 1) := vtab tk234_18 20 rfl
theorem e234_1248 (L : VL) (st : List Value) (h : VG) (a : Nat) (i : Int32) (ha : rdI h a) (hi : vp_in i (aln h a)) : ev 234 1248 L (.int i :: .ref a :: st) h = ev 234 1249 L (.int (aI h a i.toNatClampNeg) :: st) h := G_iald' f234_1248 ha hi
theorem f234_1249 : fetch 234 1249 = some (.aload_n 0, 1) := vtab tk234_18 21 rfl
theorem e234_1249 (L : VL) (st : List Value) (h : VG) (x : Nat) : ev 234 1249 (some (.ref x) :: L) (st) h = ev 234 1250 (some (.ref x) :: L) (.ref x :: st) h := G_aload_n f234_1249 rfl
theorem f234_1250 : fetch 234 1250 = some (.iload_n 3, 1) := vtab tk234_18 22 rfl
theorem e234_1250 (l0 l1 l2 : Option Value) (L : VL) (st : List Value) (h : VG) (x : Int32) : ev 234 1250 (l0 :: l1 :: l2 :: some (.int x) :: L) (st) h = ev 234 1251 (l0 :: l1 :: l2 :: some (.int x) :: L) (.int x :: st) h := G_iload_n f234_1250 rfl
theorem f234_1251 : fetch 234 1251 = some (.iconst 2, 1) := vtab tk234_18 23 rfl
theorem e234_1251 (L : VL) (st : List Value) (h : VG) : ev 234 1251 L (st) h = ev 234 1252 L (.int (2 : Int32) :: st) h := G_iconst f234_1251 (by decide)
theorem f234_1252 : fetch 234 1252 = some (.iadd, 1) := vtab tk234_18 24 rfl
theorem e234_1252 (L : VL) (st : List Value) (h : VG) (x y : Int32) : ev 234 1252 L (.int y :: .int x :: st) h = ev 234 1253 L (.int (x + y) :: st) h := G_iadd f234_1252
theorem f234_1253 : fetch 234 1253 = some (.iaload, 1) := vtab tk234_18 25 rfl
theorem e234_1253 (L : VL) (st : List Value) (h : VG) (a : Nat) (i : Int32) (ha : rdI h a) (hi : vp_in i (aln h a)) : ev 234 1253 L (.int i :: .ref a :: st) h = ev 234 1254 L (.int (aI h a i.toNatClampNeg) :: st) h := G_iald' f234_1253 ha hi
theorem f234_1254 : fetch 234 1254 = some (.i2l, 1) := vtab tk234_18 26 rfl
theorem e234_1254 (L : VL) (st : List Value) (h : VG) (x : Int32) : ev 234 1254 L (.int x :: st) h = ev 234 1255 L (.long x.toInt64 :: st) h := G_i2l f234_1254
theorem f234_1255 : fetch 234 1255 = some (.bipush 32, 2) := vtab tk234_18 27 rfl
theorem e234_1255 (L : VL) (st : List Value) (h : VG) : ev 234 1255 L (st) h = ev 234 1257 L (.int (32 : Int32) :: st) h := G_bipush f234_1255 (by decide)
theorem f234_1257 : fetch 234 1257 = some (.lshl, 1) := vtab tk234_18 28 rfl
theorem e234_1257 (L : VL) (st : List Value) (h : VG) (x : Int64) (y : Int32) : ev 234 1257 L (.int y :: .long x :: st) h = ev 234 1258 L (.long (x <<< (y.toInt64 &&& 63)) :: st) h := G_lshl f234_1257
theorem f234_1258 : fetch 234 1258 = some (.aload_n 0, 1) := vtab tk234_18 29 rfl
theorem e234_1258 (L : VL) (st : List Value) (h : VG) (x : Nat) : ev 234 1258 (some (.ref x) :: L) (st) h = ev 234 1259 (some (.ref x) :: L) (.ref x :: st) h := G_aload_n f234_1258 rfl
theorem f234_1259 : fetch 234 1259 = some (.iload_n 3, 1) := vtab tk234_18 30 rfl
theorem e234_1259 (l0 l1 l2 : Option Value) (L : VL) (st : List Value) (h : VG) (x : Int32) : ev 234 1259 (l0 :: l1 :: l2 :: some (.int x) :: L) (st) h = ev 234 1260 (l0 :: l1 :: l2 :: some (.int x) :: L) (.int x :: st) h := G_iload_n f234_1259 rfl
theorem f234_1260 : fetch 234 1260 = some (.iconst 3, 1) := vtab tk234_18 31 rfl
theorem e234_1260 (L : VL) (st : List Value) (h : VG) : ev 234 1260 L (st) h = ev 234 1261 L (.int (3 : Int32) :: st) h := G_iconst f234_1260 (by decide)
theorem f234_1261 : fetch 234 1261 = some (.iadd, 1) := vtab tk234_18 32 rfl
theorem e234_1261 (L : VL) (st : List Value) (h : VG) (x y : Int32) : ev 234 1261 L (.int y :: .int x :: st) h = ev 234 1262 L (.int (x + y) :: st) h := G_iadd f234_1261
theorem f234_1262 : fetch 234 1262 = some (.iaload, 1) := vtab tk234_18 33 rfl
theorem e234_1262 (L : VL) (st : List Value) (h : VG) (a : Nat) (i : Int32) (ha : rdI h a) (hi : vp_in i (aln h a)) : ev 234 1262 L (.int i :: .ref a :: st) h = ev 234 1263 L (.int (aI h a i.toNatClampNeg) :: st) h := G_iald' f234_1262 ha hi
theorem f234_1263 : fetch 234 1263 = some (.i2l, 1) := vtab tk234_18 34 rfl
theorem e234_1263 (L : VL) (st : List Value) (h : VG) (x : Int32) : ev 234 1263 L (.int x :: st) h = ev 234 1264 L (.long x.toInt64 :: st) h := G_i2l f234_1263
theorem f234_1264 : fetch 234 1264 = some (.ldc2_w 69, 3) := vtab tk234_18 35 rfl
theorem e234_1264 (L : VL) (st : List Value) (h : VG) : ev 234 1264 L (st) h = ev 234 1267 L (.long 4294967295 :: st) h := G_ldc2l (p := 1591) f234_1264 lkK_13_69
theorem f234_1267 : fetch 234 1267 = some (.land, 1) := vtab tk234_18 36 rfl
theorem e234_1267 (L : VL) (st : List Value) (h : VG) (x y : Int64) : ev 234 1267 L (.long y :: .long x :: st) h = ev 234 1268 L (.long (x &&& y) :: st) h := G_land f234_1267
theorem f234_1268 : fetch 234 1268 = some (.lor, 1) := vtab tk234_18 37 rfl
theorem e234_1268 (L : VL) (st : List Value) (h : VG) (x y : Int64) : ev 234 1268 L (.long y :: .long x :: st) h = ev 234 1269 L (.long (x ||| y) :: st) h := G_lor f234_1268
theorem f234_1269 : fetch 234 1269 = some (.invokevirtual 125, 3) := vtab tk234_18 38 rfl
theorem e234_1269 (L : VL) (st : List Value) (h : VG) (b : Nat) (x0 : Int32) (x1 : Int64) (ho : ob h b 10) (hs : catS st ≤ 8) : ev 234 1269 L (.long x1 :: .int x0 :: .ref b :: st) h = (ev 128 0 [some (.ref b), some (.int x0), some (.long x1), none] [] h).bind fun q => ev 234 1272 L (q.1.toList ++ st) q.2 := G_callv (k := 1) (p := 950) (ars := [.int x0, .long x1]) f234_1269 lkC_13_125 (by decide) (by decide +kernel) rfl (vcls_ob (ci := 10) (by decide) ho) (Nat.le_of_ble_eq_true rfl) hs rfl
theorem f234_1272 : fetch 234 1272 = some (.aload_n 2, 1) := vtab tk234_18 39 rfl
theorem e234_1272 (l0 l1 : Option Value) (L : VL) (st : List Value) (h : VG) (x : Nat) : ev 234 1272 (l0 :: l1 :: some (.ref x) :: L) (st) h = ev 234 1273 (l0 :: l1 :: some (.ref x) :: L) (.ref x :: st) h := G_aload_n f234_1272 rfl
theorem f234_1273 : fetch 234 1273 = some (.aload_n 0, 1) := vtab tk234_18 40 rfl
theorem e234_1273 (L : VL) (st : List Value) (h : VG) (x : Nat) : ev 234 1273 (some (.ref x) :: L) (st) h = ev 234 1274 (some (.ref x) :: L) (.ref x :: st) h := G_aload_n f234_1273 rfl
theorem f234_1274 : fetch 234 1274 = some (.iload_n 3, 1) := vtab tk234_18 41 rfl
theorem e234_1274 (l0 l1 l2 : Option Value) (L : VL) (st : List Value) (h : VG) (x : Int32) : ev 234 1274 (l0 :: l1 :: l2 :: some (.int x) :: L) (st) h = ev 234 1275 (l0 :: l1 :: l2 :: some (.int x) :: L) (.int x :: st) h := G_iload_n f234_1274 rfl
theorem f234_1275 : fetch 234 1275 = some (.iconst 1, 1) := vtab tk234_18 42 rfl
theorem e234_1275 (L : VL) (st : List Value) (h : VG) : ev 234 1275 L (st) h = ev 234 1276 L (.int (1 : Int32) :: st) h := G_iconst f234_1275 (by decide)
theorem f234_1276 : fetch 234 1276 = some (.iadd, 1) := vtab tk234_18 43 rfl
theorem e234_1276 (L : VL) (st : List Value) (h : VG) (x y : Int32) : ev 234 1276 L (.int y :: .int x :: st) h = ev 234 1277 L (.int (x + y) :: st) h := G_iadd f234_1276
theorem f234_1277 : fetch 234 1277 = some (.iaload, 1) := vtab tk234_18 44 rfl
theorem e234_1277 (L : VL) (st : List Value) (h : VG) (a : Nat) (i : Int32) (ha : rdI h a) (hi : vp_in i (aln h a)) : ev 234 1277 L (.int i :: .ref a :: st) h = ev 234 1278 L (.int (aI h a i.toNatClampNeg) :: st) h := G_iald' f234_1277 ha hi
theorem f234_1278 : fetch 234 1278 = some (.aload_n 0, 1) := vtab tk234_18 45 rfl
theorem e234_1278 (L : VL) (st : List Value) (h : VG) (x : Nat) : ev 234 1278 (some (.ref x) :: L) (st) h = ev 234 1279 (some (.ref x) :: L) (.ref x :: st) h := G_aload_n f234_1278 rfl
theorem f234_1279 : fetch 234 1279 = some (.iload_n 3, 1) := vtab tk234_18 46 rfl
theorem e234_1279 (l0 l1 l2 : Option Value) (L : VL) (st : List Value) (h : VG) (x : Int32) : ev 234 1279 (l0 :: l1 :: l2 :: some (.int x) :: L) (st) h = ev 234 1280 (l0 :: l1 :: l2 :: some (.int x) :: L) (.int x :: st) h := G_iload_n f234_1279 rfl
theorem f234_1280 : fetch 234 1280 = some (.iconst 2, 1) := vtab tk234_18 47 rfl
theorem e234_1280 (L : VL) (st : List Value) (h : VG) : ev 234 1280 L (st) h = ev 234 1281 L (.int (2 : Int32) :: st) h := G_iconst f234_1280 (by decide)
theorem f234_1281 : fetch 234 1281 = some (.iadd, 1) := vtab tk234_18 48 rfl
theorem e234_1281 (L : VL) (st : List Value) (h : VG) (x y : Int32) : ev 234 1281 L (.int y :: .int x :: st) h = ev 234 1282 L (.int (x + y) :: st) h := G_iadd f234_1281
theorem f234_1282 : fetch 234 1282 = some (.iaload, 1) := vtab tk234_18 49 rfl
theorem e234_1282 (L : VL) (st : List Value) (h : VG) (a : Nat) (i : Int32) (ha : rdI h a) (hi : vp_in i (aln h a)) : ev 234 1282 L (.int i :: .ref a :: st) h = ev 234 1283 L (.int (aI h a i.toNatClampNeg) :: st) h := G_iald' f234_1282 ha hi
theorem f234_1283 : fetch 234 1283 = some (.i2l, 1) := vtab tk234_19 0 rfl
theorem e234_1283 (L : VL) (st : List Value) (h : VG) (x : Int32) : ev 234 1283 L (.int x :: st) h = ev 234 1284 L (.long x.toInt64 :: st) h := G_i2l f234_1283
theorem f234_1284 : fetch 234 1284 = some (.bipush 32, 2) := vtab tk234_19 1 rfl
theorem e234_1284 (L : VL) (st : List Value) (h : VG) : ev 234 1284 L (st) h = ev 234 1286 L (.int (32 : Int32) :: st) h := G_bipush f234_1284 (by decide)
theorem f234_1286 : fetch 234 1286 = some (.lshl, 1) := vtab tk234_19 2 rfl
theorem e234_1286 (L : VL) (st : List Value) (h : VG) (x : Int64) (y : Int32) : ev 234 1286 L (.int y :: .long x :: st) h = ev 234 1287 L (.long (x <<< (y.toInt64 &&& 63)) :: st) h := G_lshl f234_1286
theorem f234_1287 : fetch 234 1287 = some (.aload_n 0, 1) := vtab tk234_19 3 rfl
theorem e234_1287 (L : VL) (st : List Value) (h : VG) (x : Nat) : ev 234 1287 (some (.ref x) :: L) (st) h = ev 234 1288 (some (.ref x) :: L) (.ref x :: st) h := G_aload_n f234_1287 rfl
theorem f234_1288 : fetch 234 1288 = some (.iload_n 3, 1) := vtab tk234_19 4 rfl
theorem e234_1288 (l0 l1 l2 : Option Value) (L : VL) (st : List Value) (h : VG) (x : Int32) : ev 234 1288 (l0 :: l1 :: l2 :: some (.int x) :: L) (st) h = ev 234 1289 (l0 :: l1 :: l2 :: some (.int x) :: L) (.int x :: st) h := G_iload_n f234_1288 rfl
theorem f234_1289 : fetch 234 1289 = some (.iconst 3, 1) := vtab tk234_19 5 rfl
theorem e234_1289 (L : VL) (st : List Value) (h : VG) : ev 234 1289 L (st) h = ev 234 1290 L (.int (3 : Int32) :: st) h := G_iconst f234_1289 (by decide)
theorem f234_1290 : fetch 234 1290 = some (.iadd, 1) := vtab tk234_19 6 rfl
theorem e234_1290 (L : VL) (st : List Value) (h : VG) (x y : Int32) : ev 234 1290 L (.int y :: .int x :: st) h = ev 234 1291 L (.int (x + y) :: st) h := G_iadd f234_1290
theorem f234_1291 : fetch 234 1291 = some (.iaload, 1) := vtab tk234_19 7 rfl
theorem e234_1291 (L : VL) (st : List Value) (h : VG) (a : Nat) (i : Int32) (ha : rdI h a) (hi : vp_in i (aln h a)) : ev 234 1291 L (.int i :: .ref a :: st) h = ev 234 1292 L (.int (aI h a i.toNatClampNeg) :: st) h := G_iald' f234_1291 ha hi
theorem f234_1292 : fetch 234 1292 = some (.i2l, 1) := vtab tk234_19 8 rfl
theorem e234_1292 (L : VL) (st : List Value) (h : VG) (x : Int32) : ev 234 1292 L (.int x :: st) h = ev 234 1293 L (.long x.toInt64 :: st) h := G_i2l f234_1292
theorem f234_1293 : fetch 234 1293 = some (.ldc2_w 69, 3) := vtab tk234_19 9 rfl
theorem e234_1293 (L : VL) (st : List Value) (h : VG) : ev 234 1293 L (st) h = ev 234 1296 L (.long 4294967295 :: st) h := G_ldc2l (p := 1591) f234_1293 lkK_13_69
theorem f234_1296 : fetch 234 1296 = some (.land, 1) := vtab tk234_19 10 rfl
theorem e234_1296 (L : VL) (st : List Value) (h : VG) (x y : Int64) : ev 234 1296 L (.long y :: .long x :: st) h = ev 234 1297 L (.long (x &&& y) :: st) h := G_land f234_1296
theorem f234_1297 : fetch 234 1297 = some (.lor, 1) := vtab tk234_19 11 rfl
theorem e234_1297 (L : VL) (st : List Value) (h : VG) (x y : Int64) : ev 234 1297 L (.long y :: .long x :: st) h = ev 234 1298 L (.long (x ||| y) :: st) h := G_lor f234_1297
theorem f234_1298 : fetch 234 1298 = some (.invokevirtual 129, 3) := vtab tk234_19 12 rfl
theorem e234_1298 (L : VL) (st : List Value) (h : VG) (b : Nat) (x0 : Int32) (x1 : Int64) (ho : ob h b 11) (hs : catS st ≤ 8) : ev 234 1298 L (.long x1 :: .int x0 :: .ref b :: st) h = (ev 225 0 [some (.ref b), some (.int x0), some (.long x1), none] [] h).bind fun q => ev 234 1301 L (q.1.toList ++ st) q.2 := G_callv (k := 1) (p := 1555) (ars := [.int x0, .long x1]) f234_1298 lkC_13_129 (by decide) (by decide +kernel) rfl (vcls_ob (ci := 11) (by decide) ho) (Nat.le_of_ble_eq_true rfl) hs rfl
theorem f234_1301 : fetch 234 1301 = some (.if_icmp .eq 100, 3) := vtab tk234_19 13 rfl
theorem e234_1301 (L : VL) (st : List Value) (h : VG) (x y : Int32) : ev 234 1301 L (.int y :: .int x :: st) h = if x = y then ev 234 1401 L st h else ev 234 1304 L st h := G_icmp_eq f234_1301 (by decide)
theorem f234_1304 : fetch 234 1304 = some (.iconst 0, 1) := vtab tk234_19 14 rfl
theorem e234_1304 (L : VL) (st : List Value) (h : VG) : ev 234 1304 L (st) h = ev 234 1305 L (.int (0 : Int32) :: st) h := G_iconst f234_1304 (by decide)
theorem f234_1305 : fetch 234 1305 = some (.ireturn, 1) := vtab tk234_19 15 rfl
theorem e234_1305 (L : VL) (h : VG) (x : Int32) (hz : x = 0 ∨ x = 1) : ev 234 1305 L [.int x] h = some (some (.int x), h) := G_iret f234_1305 (ty := .boolean) (by decide) (vbool hz).1
theorem f234_1306 : fetch 234 1306 = some (.aload_n 1, 1) := vtab tk234_19 16 rfl
theorem e234_1306 (l0 : Option Value) (L : VL) (st : List Value) (h : VG) (x : Nat) : ev 234 1306 (l0 :: some (.ref x) :: L) (st) h = ev 234 1307 (l0 :: some (.ref x) :: L) (.ref x :: st) h := G_aload_n f234_1306 rfl
theorem f234_1307 : fetch 234 1307 = some (.invokevirtual 130, 3) := vtab tk234_19 17 rfl
theorem e234_1307 (L : VL) (st : List Value) (h : VG) (b : Nat)  (ho : ob h b 10) (hs : catS st ≤ 8) : ev 234 1307 L (.ref b :: st) h = (ev 130 0 [some (.ref b), none, none] [] h).bind fun q => ev 234 1310 L (q.1.toList ++ st) q.2 := G_callv (k := 1) (p := 954) (ars := []) f234_1307 lkC_13_130 (by decide) (by decide +kernel) rfl (vcls_ob (ci := 10) (by decide) ho) (Nat.le_of_ble_eq_true rfl) hs rfl
theorem f234_1310 : fetch 234 1310 = some (.aload_n 2, 1) := vtab tk234_19 18 rfl
theorem e234_1310 (l0 l1 : Option Value) (L : VL) (st : List Value) (h : VG) (x : Nat) : ev 234 1310 (l0 :: l1 :: some (.ref x) :: L) (st) h = ev 234 1311 (l0 :: l1 :: some (.ref x) :: L) (.ref x :: st) h := G_aload_n f234_1310 rfl
theorem f234_1311 : fetch 234 1311 = some (.invokevirtual 133, 3) := vtab tk234_19 19 rfl
theorem e234_1311 (L : VL) (st : List Value) (h : VG) (b : Nat)  (ho : ob h b 11) (hs : catS st ≤ 8) : ev 234 1311 L (.ref b :: st) h = (ev 227 0 [some (.ref b), none, none] [] h).bind fun q => ev 234 1314 L (q.1.toList ++ st) q.2 := G_callv (k := 1) (p := 1559) (ars := []) f234_1311 lkC_13_133 (by decide) (by decide +kernel) rfl (vcls_ob (ci := 11) (by decide) ho) (Nat.le_of_ble_eq_true rfl) hs rfl
theorem f234_1314 : fetch 234 1314 = some (.if_icmp .eq 87, 3) := vtab tk234_19 20 rfl
theorem e234_1314 (L : VL) (st : List Value) (h : VG) (x y : Int32) : ev 234 1314 L (.int y :: .int x :: st) h = if x = y then ev 234 1401 L st h else ev 234 1317 L st h := G_icmp_eq f234_1314 (by decide)
theorem f234_1317 : fetch 234 1317 = some (.iconst 0, 1) := vtab tk234_19 21 rfl
theorem e234_1317 (L : VL) (st : List Value) (h : VG) : ev 234 1317 L (st) h = ev 234 1318 L (.int (0 : Int32) :: st) h := G_iconst f234_1317 (by decide)
theorem f234_1318 : fetch 234 1318 = some (.ireturn, 1) := vtab tk234_19 22 rfl
theorem e234_1318 (L : VL) (h : VG) (x : Int32) (hz : x = 0 ∨ x = 1) : ev 234 1318 L [.int x] h = some (some (.int x), h) := G_iret f234_1318 (ty := .boolean) (by decide) (vbool hz).1
theorem f234_1319 : fetch 234 1319 = some (.aload_n 1, 1) := vtab tk234_19 23 rfl
theorem e234_1319 (l0 : Option Value) (L : VL) (st : List Value) (h : VG) (x : Nat) : ev 234 1319 (l0 :: some (.ref x) :: L) (st) h = ev 234 1320 (l0 :: some (.ref x) :: L) (.ref x :: st) h := G_aload_n f234_1319 rfl
theorem f234_1320 : fetch 234 1320 = some (.invokevirtual 134, 3) := vtab tk234_19 24 rfl
theorem e234_1320 (L : VL) (st : List Value) (h : VG) (b : Nat)  (ho : ob h b 10) (hs : catS st ≤ 8) : ev 234 1320 L (.ref b :: st) h = (ev 131 0 [some (.ref b), none, none, none, none] [] h).bind fun q => ev 234 1323 L (q.1.toList ++ st) q.2 := G_callv (k := 1) (p := 964) (ars := []) f234_1320 lkC_13_134 (by decide) (by decide +kernel) rfl (vcls_ob (ci := 10) (by decide) ho) (Nat.le_of_ble_eq_true rfl) hs rfl
theorem f234_1323 : fetch 234 1323 = some (.aload_n 2, 1) := vtab tk234_19 25 rfl
theorem e234_1323 (l0 l1 : Option Value) (L : VL) (st : List Value) (h : VG) (x : Nat) : ev 234 1323 (l0 :: l1 :: some (.ref x) :: L) (st) h = ev 234 1324 (l0 :: l1 :: some (.ref x) :: L) (.ref x :: st) h := G_aload_n f234_1323 rfl
theorem f234_1324 : fetch 234 1324 = some (.invokevirtual 137, 3) := vtab tk234_19 26 rfl
theorem e234_1324 (L : VL) (st : List Value) (h : VG) (b : Nat)  (ho : ob h b 11) (hs : catS st ≤ 8) : ev 234 1324 L (.ref b :: st) h = (ev 228 0 [some (.ref b), none, none] [] h).bind fun q => ev 234 1327 L (q.1.toList ++ st) q.2 := G_callv (k := 1) (p := 1567) (ars := []) f234_1324 lkC_13_137 (by decide) (by decide +kernel) rfl (vcls_ob (ci := 11) (by decide) ho) (Nat.le_of_ble_eq_true rfl) hs rfl
theorem f234_1327 : fetch 234 1327 = some (.if_icmp .eq 74, 3) := vtab tk234_19 27 rfl
theorem e234_1327 (L : VL) (st : List Value) (h : VG) (x y : Int32) : ev 234 1327 L (.int y :: .int x :: st) h = if x = y then ev 234 1401 L st h else ev 234 1330 L st h := G_icmp_eq f234_1327 (by decide)
theorem f234_1330 : fetch 234 1330 = some (.iconst 0, 1) := vtab tk234_19 28 rfl
theorem e234_1330 (L : VL) (st : List Value) (h : VG) : ev 234 1330 L (st) h = ev 234 1331 L (.int (0 : Int32) :: st) h := G_iconst f234_1330 (by decide)
theorem f234_1331 : fetch 234 1331 = some (.ireturn, 1) := vtab tk234_19 29 rfl
theorem e234_1331 (L : VL) (h : VG) (x : Int32) (hz : x = 0 ∨ x = 1) : ev 234 1331 L [.int x] h = some (some (.int x), h) := G_iret f234_1331 (ty := .boolean) (by decide) (vbool hz).1
theorem f234_1332 : fetch 234 1332 = some (.aload_n 1, 1) := vtab tk234_19 30 rfl
theorem e234_1332 (l0 : Option Value) (L : VL) (st : List Value) (h : VG) (x : Nat) : ev 234 1332 (l0 :: some (.ref x) :: L) (st) h = ev 234 1333 (l0 :: some (.ref x) :: L) (.ref x :: st) h := G_aload_n f234_1332 rfl
theorem f234_1333 : fetch 234 1333 = some (.aload_n 0, 1) := vtab tk234_19 31 rfl
theorem e234_1333 (L : VL) (st : List Value) (h : VG) (x : Nat) : ev 234 1333 (some (.ref x) :: L) (st) h = ev 234 1334 (some (.ref x) :: L) (.ref x :: st) h := G_aload_n f234_1333 rfl
theorem f234_1334 : fetch 234 1334 = some (.iload_n 3, 1) := vtab tk234_19 32 rfl
theorem e234_1334 (l0 l1 l2 : Option Value) (L : VL) (st : List Value) (h : VG) (x : Int32) : ev 234 1334 (l0 :: l1 :: l2 :: some (.int x) :: L) (st) h = ev 234 1335 (l0 :: l1 :: l2 :: some (.int x) :: L) (.int x :: st) h := G_iload_n f234_1334 rfl
theorem f234_1335 : fetch 234 1335 = some (.iconst 1, 1) := vtab tk234_19 33 rfl
theorem e234_1335 (L : VL) (st : List Value) (h : VG) : ev 234 1335 L (st) h = ev 234 1336 L (.int (1 : Int32) :: st) h := G_iconst f234_1335 (by decide)
theorem f234_1336 : fetch 234 1336 = some (.iadd, 1) := vtab tk234_19 34 rfl
theorem e234_1336 (L : VL) (st : List Value) (h : VG) (x y : Int32) : ev 234 1336 L (.int y :: .int x :: st) h = ev 234 1337 L (.int (x + y) :: st) h := G_iadd f234_1336
theorem f234_1337 : fetch 234 1337 = some (.iaload, 1) := vtab tk234_19 35 rfl
theorem e234_1337 (L : VL) (st : List Value) (h : VG) (a : Nat) (i : Int32) (ha : rdI h a) (hi : vp_in i (aln h a)) : ev 234 1337 L (.int i :: .ref a :: st) h = ev 234 1338 L (.int (aI h a i.toNatClampNeg) :: st) h := G_iald' f234_1337 ha hi
theorem f234_1338 : fetch 234 1338 = some (.invokevirtual 138, 3) := vtab tk234_19 36 rfl
theorem e234_1338 (L : VL) (st : List Value) (h : VG) (b : Nat) (x0 : Int32) (ho : ob h b 10) (hs : catS st ≤ 8) : ev 234 1338 L (.int x0 :: .ref b :: st) h = (ev 132 0 [some (.ref b), some (.int x0)] [] h).bind fun q => ev 234 1341 L (q.1.toList ++ st) q.2 := G_callv (k := 1) (p := 968) (ars := [.int x0]) f234_1338 lkC_13_138 (by decide) (by decide +kernel) rfl (vcls_ob (ci := 10) (by decide) ho) (Nat.le_of_ble_eq_true rfl) hs rfl
theorem f234_1341 : fetch 234 1341 = some (.aload_n 2, 1) := vtab tk234_19 37 rfl
theorem e234_1341 (l0 l1 : Option Value) (L : VL) (st : List Value) (h : VG) (x : Nat) : ev 234 1341 (l0 :: l1 :: some (.ref x) :: L) (st) h = ev 234 1342 (l0 :: l1 :: some (.ref x) :: L) (.ref x :: st) h := G_aload_n f234_1341 rfl
theorem f234_1342 : fetch 234 1342 = some (.aload_n 0, 1) := vtab tk234_19 38 rfl
theorem e234_1342 (L : VL) (st : List Value) (h : VG) (x : Nat) : ev 234 1342 (some (.ref x) :: L) (st) h = ev 234 1343 (some (.ref x) :: L) (.ref x :: st) h := G_aload_n f234_1342 rfl
theorem f234_1343 : fetch 234 1343 = some (.iload_n 3, 1) := vtab tk234_19 39 rfl
theorem e234_1343 (l0 l1 l2 : Option Value) (L : VL) (st : List Value) (h : VG) (x : Int32) : ev 234 1343 (l0 :: l1 :: l2 :: some (.int x) :: L) (st) h = ev 234 1344 (l0 :: l1 :: l2 :: some (.int x) :: L) (.int x :: st) h := G_iload_n f234_1343 rfl
theorem f234_1344 : fetch 234 1344 = some (.iconst 1, 1) := vtab tk234_19 40 rfl
theorem e234_1344 (L : VL) (st : List Value) (h : VG) : ev 234 1344 L (st) h = ev 234 1345 L (.int (1 : Int32) :: st) h := G_iconst f234_1344 (by decide)
theorem f234_1345 : fetch 234 1345 = some (.iadd, 1) := vtab tk234_19 41 rfl
theorem e234_1345 (L : VL) (st : List Value) (h : VG) (x y : Int32) : ev 234 1345 L (.int y :: .int x :: st) h = ev 234 1346 L (.int (x + y) :: st) h := G_iadd f234_1345
theorem f234_1346 : fetch 234 1346 = some (.iaload, 1) := vtab tk234_19 42 rfl
theorem e234_1346 (L : VL) (st : List Value) (h : VG) (a : Nat) (i : Int32) (ha : rdI h a) (hi : vp_in i (aln h a)) : ev 234 1346 L (.int i :: .ref a :: st) h = ev 234 1347 L (.int (aI h a i.toNatClampNeg) :: st) h := G_iald' f234_1346 ha hi
theorem f234_1347 : fetch 234 1347 = some (.invokevirtual 142, 3) := vtab tk234_19 43 rfl
theorem e234_1347 (L : VL) (st : List Value) (h : VG) (b : Nat) (x0 : Int32) (ho : ob h b 11) (hs : catS st ≤ 8) : ev 234 1347 L (.int x0 :: .ref b :: st) h = (ev 229 0 [some (.ref b), some (.int x0), none] [] h).bind fun q => ev 234 1350 L (q.1.toList ++ st) q.2 := G_callv (k := 1) (p := 1571) (ars := [.int x0]) f234_1347 lkC_13_142 (by decide) (by decide +kernel) rfl (vcls_ob (ci := 11) (by decide) ho) (Nat.le_of_ble_eq_true rfl) hs rfl
theorem f234_1350 : fetch 234 1350 = some (.if_icmp .eq 51, 3) := vtab tk234_19 44 rfl
theorem e234_1350 (L : VL) (st : List Value) (h : VG) (x y : Int32) : ev 234 1350 L (.int y :: .int x :: st) h = if x = y then ev 234 1401 L st h else ev 234 1353 L st h := G_icmp_eq f234_1350 (by decide)
theorem f234_1353 : fetch 234 1353 = some (.iconst 0, 1) := vtab tk234_19 45 rfl
theorem e234_1353 (L : VL) (st : List Value) (h : VG) : ev 234 1353 L (st) h = ev 234 1354 L (.int (0 : Int32) :: st) h := G_iconst f234_1353 (by decide)
theorem f234_1354 : fetch 234 1354 = some (.ireturn, 1) := vtab tk234_19 46 rfl
theorem e234_1354 (L : VL) (h : VG) (x : Int32) (hz : x = 0 ∨ x = 1) : ev 234 1354 L [.int x] h = some (some (.int x), h) := G_iret f234_1354 (ty := .boolean) (by decide) (vbool hz).1
theorem f234_1355 : fetch 234 1355 = some (.aload_n 1, 1) := vtab tk234_19 47 rfl
theorem e234_1355 (l0 : Option Value) (L : VL) (st : List Value) (h : VG) (x : Nat) : ev 234 1355 (l0 :: some (.ref x) :: L) (st) h = ev 234 1356 (l0 :: some (.ref x) :: L) (.ref x :: st) h := G_aload_n f234_1355 rfl
theorem f234_1356 : fetch 234 1356 = some (.aload_n 0, 1) := vtab tk234_19 48 rfl
theorem e234_1356 (L : VL) (st : List Value) (h : VG) (x : Nat) : ev 234 1356 (some (.ref x) :: L) (st) h = ev 234 1357 (some (.ref x) :: L) (.ref x :: st) h := G_aload_n f234_1356 rfl
theorem f234_1357 : fetch 234 1357 = some (.iload_n 3, 1) := vtab tk234_19 49 rfl
theorem e234_1357 (l0 l1 l2 : Option Value) (L : VL) (st : List Value) (h : VG) (x : Int32) : ev 234 1357 (l0 :: l1 :: l2 :: some (.int x) :: L) (st) h = ev 234 1358 (l0 :: l1 :: l2 :: some (.int x) :: L) (.int x :: st) h := G_iload_n f234_1357 rfl
theorem f234_1358 : fetch 234 1358 = some (.iconst 1, 1) := vtab tk234_20 0 rfl
theorem e234_1358 (L : VL) (st : List Value) (h : VG) : ev 234 1358 L (st) h = ev 234 1359 L (.int (1 : Int32) :: st) h := G_iconst f234_1358 (by decide)
theorem f234_1359 : fetch 234 1359 = some (.iadd, 1) := vtab tk234_20 1 rfl
theorem e234_1359 (L : VL) (st : List Value) (h : VG) (x y : Int32) : ev 234 1359 L (.int y :: .int x :: st) h = ev 234 1360 L (.int (x + y) :: st) h := G_iadd f234_1359
theorem f234_1360 : fetch 234 1360 = some (.iaload, 1) := vtab tk234_20 2 rfl
theorem e234_1360 (L : VL) (st : List Value) (h : VG) (a : Nat) (i : Int32) (ha : rdI h a) (hi : vp_in i (aln h a)) : ev 234 1360 L (.int i :: .ref a :: st) h = ev 234 1361 L (.int (aI h a i.toNatClampNeg) :: st) h := G_iald' f234_1360 ha hi
theorem f234_1361 : fetch 234 1361 = some (.invokevirtual 143, 3) := vtab tk234_20 3 rfl
theorem e234_1361 (L : VL) (st : List Value) (h : VG) (b : Nat) (x0 : Int32) (ho : ob h b 10) (hs : catS st ≤ 8) : ev 234 1361 L (.int x0 :: .ref b :: st) h = (ev 133 0 [some (.ref b), some (.int x0)] [] h).bind fun q => ev 234 1364 L (q.1.toList ++ st) q.2 := G_callv (k := 1) (p := 981) (ars := [.int x0]) f234_1361 lkC_13_143 (by decide) (by decide +kernel) rfl (vcls_ob (ci := 10) (by decide) ho) (Nat.le_of_ble_eq_true rfl) hs rfl
theorem f234_1364 : fetch 234 1364 = some (.aload_n 2, 1) := vtab tk234_20 4 rfl
theorem e234_1364 (l0 l1 : Option Value) (L : VL) (st : List Value) (h : VG) (x : Nat) : ev 234 1364 (l0 :: l1 :: some (.ref x) :: L) (st) h = ev 234 1365 (l0 :: l1 :: some (.ref x) :: L) (.ref x :: st) h := G_aload_n f234_1364 rfl
theorem f234_1365 : fetch 234 1365 = some (.aload_n 0, 1) := vtab tk234_20 5 rfl
theorem e234_1365 (L : VL) (st : List Value) (h : VG) (x : Nat) : ev 234 1365 (some (.ref x) :: L) (st) h = ev 234 1366 (some (.ref x) :: L) (.ref x :: st) h := G_aload_n f234_1365 rfl
theorem f234_1366 : fetch 234 1366 = some (.iload_n 3, 1) := vtab tk234_20 6 rfl
theorem e234_1366 (l0 l1 l2 : Option Value) (L : VL) (st : List Value) (h : VG) (x : Int32) : ev 234 1366 (l0 :: l1 :: l2 :: some (.int x) :: L) (st) h = ev 234 1367 (l0 :: l1 :: l2 :: some (.int x) :: L) (.int x :: st) h := G_iload_n f234_1366 rfl
theorem f234_1367 : fetch 234 1367 = some (.iconst 1, 1) := vtab tk234_20 7 rfl
theorem e234_1367 (L : VL) (st : List Value) (h : VG) : ev 234 1367 L (st) h = ev 234 1368 L (.int (1 : Int32) :: st) h := G_iconst f234_1367 (by decide)
theorem f234_1368 : fetch 234 1368 = some (.iadd, 1) := vtab tk234_20 8 rfl
theorem e234_1368 (L : VL) (st : List Value) (h : VG) (x y : Int32) : ev 234 1368 L (.int y :: .int x :: st) h = ev 234 1369 L (.int (x + y) :: st) h := G_iadd f234_1368
theorem f234_1369 : fetch 234 1369 = some (.iaload, 1) := vtab tk234_20 9 rfl
theorem e234_1369 (L : VL) (st : List Value) (h : VG) (a : Nat) (i : Int32) (ha : rdI h a) (hi : vp_in i (aln h a)) : ev 234 1369 L (.int i :: .ref a :: st) h = ev 234 1370 L (.int (aI h a i.toNatClampNeg) :: st) h := G_iald' f234_1369 ha hi
theorem f234_1370 : fetch 234 1370 = some (.invokevirtual 146, 3) := vtab tk234_20 10 rfl
theorem e234_1370 (L : VL) (st : List Value) (h : VG) (b : Nat) (x0 : Int32) (ho : ob h b 11) (hs : catS st ≤ 8) : ev 234 1370 L (.int x0 :: .ref b :: st) h = (ev 230 0 [some (.ref b), some (.int x0), none] [] h).bind fun q => ev 234 1373 L (q.1.toList ++ st) q.2 := G_callv (k := 1) (p := 1575) (ars := [.int x0]) f234_1370 lkC_13_146 (by decide) (by decide +kernel) rfl (vcls_ob (ci := 11) (by decide) ho) (Nat.le_of_ble_eq_true rfl) hs rfl
theorem f234_1373 : fetch 234 1373 = some (.if_icmp .eq 28, 3) := vtab tk234_20 11 rfl
theorem e234_1373 (L : VL) (st : List Value) (h : VG) (x y : Int32) : ev 234 1373 L (.int y :: .int x :: st) h = if x = y then ev 234 1401 L st h else ev 234 1376 L st h := G_icmp_eq f234_1373 (by decide)
theorem f234_1376 : fetch 234 1376 = some (.iconst 0, 1) := vtab tk234_20 12 rfl
theorem e234_1376 (L : VL) (st : List Value) (h : VG) : ev 234 1376 L (st) h = ev 234 1377 L (.int (0 : Int32) :: st) h := G_iconst f234_1376 (by decide)
theorem f234_1377 : fetch 234 1377 = some (.ireturn, 1) := vtab tk234_20 13 rfl
theorem e234_1377 (L : VL) (h : VG) (x : Int32) (hz : x = 0 ∨ x = 1) : ev 234 1377 L [.int x] h = some (some (.int x), h) := G_iret f234_1377 (ty := .boolean) (by decide) (vbool hz).1
theorem f234_1378 : fetch 234 1378 = some (.aload_n 1, 1) := vtab tk234_20 14 rfl
theorem e234_1378 (l0 : Option Value) (L : VL) (st : List Value) (h : VG) (x : Nat) : ev 234 1378 (l0 :: some (.ref x) :: L) (st) h = ev 234 1379 (l0 :: some (.ref x) :: L) (.ref x :: st) h := G_aload_n f234_1378 rfl
theorem f234_1379 : fetch 234 1379 = some (.aload_n 0, 1) := vtab tk234_20 15 rfl
theorem e234_1379 (L : VL) (st : List Value) (h : VG) (x : Nat) : ev 234 1379 (some (.ref x) :: L) (st) h = ev 234 1380 (some (.ref x) :: L) (.ref x :: st) h := G_aload_n f234_1379 rfl
theorem f234_1380 : fetch 234 1380 = some (.iload_n 3, 1) := vtab tk234_20 16 rfl
theorem e234_1380 (l0 l1 l2 : Option Value) (L : VL) (st : List Value) (h : VG) (x : Int32) : ev 234 1380 (l0 :: l1 :: l2 :: some (.int x) :: L) (st) h = ev 234 1381 (l0 :: l1 :: l2 :: some (.int x) :: L) (.int x :: st) h := G_iload_n f234_1380 rfl
theorem f234_1381 : fetch 234 1381 = some (.iconst 1, 1) := vtab tk234_20 17 rfl
theorem e234_1381 (L : VL) (st : List Value) (h : VG) : ev 234 1381 L (st) h = ev 234 1382 L (.int (1 : Int32) :: st) h := G_iconst f234_1381 (by decide)
theorem f234_1382 : fetch 234 1382 = some (.iadd, 1) := vtab tk234_20 18 rfl
theorem e234_1382 (L : VL) (st : List Value) (h : VG) (x y : Int32) : ev 234 1382 L (.int y :: .int x :: st) h = ev 234 1383 L (.int (x + y) :: st) h := G_iadd f234_1382
theorem f234_1383 : fetch 234 1383 = some (.iaload, 1) := vtab tk234_20 19 rfl
theorem e234_1383 (L : VL) (st : List Value) (h : VG) (a : Nat) (i : Int32) (ha : rdI h a) (hi : vp_in i (aln h a)) : ev 234 1383 L (.int i :: .ref a :: st) h = ev 234 1384 L (.int (aI h a i.toNatClampNeg) :: st) h := G_iald' f234_1383 ha hi
theorem f234_1384 : fetch 234 1384 = some (.invokevirtual 147, 3) := vtab tk234_20 20 rfl
theorem e234_1384 (L : VL) (st : List Value) (h : VG) (b : Nat) (x0 : Int32) (ho : ob h b 10) (hs : catS st ≤ 8) : ev 234 1384 L (.int x0 :: .ref b :: st) h = (ev 134 0 [some (.ref b), some (.int x0)] [] h).bind fun q => ev 234 1387 L (q.1.toList ++ st) q.2 := G_callv (k := 1) (p := 985) (ars := [.int x0]) f234_1384 lkC_13_147 (by decide) (by decide +kernel) rfl (vcls_ob (ci := 10) (by decide) ho) (Nat.le_of_ble_eq_true rfl) hs rfl
theorem f234_1387 : fetch 234 1387 = some (.aload_n 2, 1) := vtab tk234_20 21 rfl
theorem e234_1387 (l0 l1 : Option Value) (L : VL) (st : List Value) (h : VG) (x : Nat) : ev 234 1387 (l0 :: l1 :: some (.ref x) :: L) (st) h = ev 234 1388 (l0 :: l1 :: some (.ref x) :: L) (.ref x :: st) h := G_aload_n f234_1387 rfl
theorem f234_1388 : fetch 234 1388 = some (.aload_n 0, 1) := vtab tk234_20 22 rfl
theorem e234_1388 (L : VL) (st : List Value) (h : VG) (x : Nat) : ev 234 1388 (some (.ref x) :: L) (st) h = ev 234 1389 (some (.ref x) :: L) (.ref x :: st) h := G_aload_n f234_1388 rfl
theorem f234_1389 : fetch 234 1389 = some (.iload_n 3, 1) := vtab tk234_20 23 rfl
theorem e234_1389 (l0 l1 l2 : Option Value) (L : VL) (st : List Value) (h : VG) (x : Int32) : ev 234 1389 (l0 :: l1 :: l2 :: some (.int x) :: L) (st) h = ev 234 1390 (l0 :: l1 :: l2 :: some (.int x) :: L) (.int x :: st) h := G_iload_n f234_1389 rfl
theorem f234_1390 : fetch 234 1390 = some (.iconst 1, 1) := vtab tk234_20 24 rfl
theorem e234_1390 (L : VL) (st : List Value) (h : VG) : ev 234 1390 L (st) h = ev 234 1391 L (.int (1 : Int32) :: st) h := G_iconst f234_1390 (by decide)
theorem f234_1391 : fetch 234 1391 = some (.iadd, 1) := vtab tk234_20 25 rfl
theorem e234_1391 (L : VL) (st : List Value) (h : VG) (x y : Int32) : ev 234 1391 L (.int y :: .int x :: st) h = ev 234 1392 L (.int (x + y) :: st) h := G_iadd f234_1391
theorem f234_1392 : fetch 234 1392 = some (.iaload, 1) := vtab tk234_20 26 rfl
theorem e234_1392 (L : VL) (st : List Value) (h : VG) (a : Nat) (i : Int32) (ha : rdI h a) (hi : vp_in i (aln h a)) : ev 234 1392 L (.int i :: .ref a :: st) h = ev 234 1393 L (.int (aI h a i.toNatClampNeg) :: st) h := G_iald' f234_1392 ha hi
theorem f234_1393 : fetch 234 1393 = some (.invokevirtual 150, 3) := vtab tk234_20 27 rfl
theorem e234_1393 (L : VL) (st : List Value) (h : VG) (b : Nat) (x0 : Int32) (ho : ob h b 11) (hs : catS st ≤ 8) : ev 234 1393 L (.int x0 :: .ref b :: st) h = (ev 233 0 [some (.ref b), some (.int x0)] [] h).bind fun q => ev 234 1396 L (q.1.toList ++ st) q.2 := G_callv (k := 1) (p := 1579) (ars := [.int x0]) f234_1393 lkC_13_150 (by decide) (by decide +kernel) rfl (vcls_ob (ci := 11) (by decide) ho) (Nat.le_of_ble_eq_true rfl) hs rfl
theorem f234_1396 : fetch 234 1396 = some (.if_icmp .eq 5, 3) := vtab tk234_20 28 rfl
theorem e234_1396 (L : VL) (st : List Value) (h : VG) (x y : Int32) : ev 234 1396 L (.int y :: .int x :: st) h = if x = y then ev 234 1401 L st h else ev 234 1399 L st h := G_icmp_eq f234_1396 (by decide)
theorem f234_1399 : fetch 234 1399 = some (.iconst 0, 1) := vtab tk234_20 29 rfl
theorem e234_1399 (L : VL) (st : List Value) (h : VG) : ev 234 1399 L (st) h = ev 234 1400 L (.int (0 : Int32) :: st) h := G_iconst f234_1399 (by decide)
theorem f234_1400 : fetch 234 1400 = some (.ireturn, 1) := vtab tk234_20 30 rfl
theorem e234_1400 (L : VL) (h : VG) (x : Int32) (hz : x = 0 ∨ x = 1) : ev 234 1400 L [.int x] h = some (some (.int x), h) := G_iret f234_1400 (ty := .boolean) (by decide) (vbool hz).1
theorem f234_1401 : fetch 234 1401 = some (.iinc 3 7, 3) := vtab tk234_20 31 rfl
theorem e234_1401 (l0 l1 l2 : Option Value) (L : VL) (st : List Value) (h : VG) (x : Int32) : ev 234 1401 (l0 :: l1 :: l2 :: some (.int x) :: L) (st) h = ev 234 1404 (l0 :: l1 :: vkk l2 :: some (.int (x + (7 : Int32))) :: L) (st) h := G_iinc f234_1401 rfl (by decide) (S1_3 l0 l1 l2 (some (.int x)) L _)
theorem f234_1404 : fetch 234 1404 = some (.goto (-1386), 3) := vtab tk234_20 32 rfl
theorem e234_1404 (L : VL) (st : List Value) (h : VG) : ev 234 1404 L (st) h = ev 234 18 L (st) h := G_goto f234_1404 (by decide)
theorem f234_1407 : fetch 234 1407 = some (.iconst 1, 1) := vtab tk234_20 33 rfl
theorem e234_1407 (L : VL) (st : List Value) (h : VG) : ev 234 1407 L (st) h = ev 234 1408 L (.int (1 : Int32) :: st) h := G_iconst f234_1407 (by decide)
theorem f234_1408 : fetch 234 1408 = some (.ireturn, 1) := vtab tk234_20 34 rfl
theorem e234_1408 (L : VL) (h : VG) (x : Int32) (hz : x = 0 ∨ x = 1) : ev 234 1408 L [.int x] h = some (some (.int x), h) := G_iret f234_1408 (ty := .boolean) (by decide) (vbool hz).1
