/-! 48 GuestCalls$Kinds.cutDouble(J)J -/
def tb48 : List (Nat × Instr × Nat) := [(0, .lload_n 0, 1), (1, .bipush 52, 2), (3, .lushr, 1), (4, .l2i, 1), (5, .sipush 2047, 3), (8, .iand, 1), (9, .sipush 1023, 3), (12, .isub, 1), (13, .istore_n 2, 1), (14, .iload_n 2, 1), (15, .ifCond .ge 5, 3), (18, .lconst 0, 1), (19, .lreturn, 1), (20, .iload_n 2, 1), (21, .bipush 63, 2), (23, .if_icmp .lt 19, 3), (26, .lload_n 0, 1), (27, .lconst 0, 1), (28, .lcmp, 1), (29, .ifCond .ge 9, 3), (32, .ldc2_w 53, 3), (35, .goto 6, 3), (38, .ldc2_w 43, 3), (41, .lreturn, 1), (42, .lload_n 0, 1), (43, .ldc2_w 70, 3), (46, .land, 1), (47, .ldc2_w 68, 3), (50, .lor, 1), (51, .lstore_n 3, 1), (52, .bipush 52, 2), (54, .iload_n 2, 1), (55, .isub, 1), (56, .istore 5, 2), (58, .iload 5, 2), (60, .ifCond .le 10, 3), (63, .lload_n 3, 1), (64, .iload 5, 2), (66, .lushr, 1), (67, .goto 8, 3), (70, .lload_n 3, 1), (71, .iload 5, 2), (73, .ineg, 1), (74, .lshl, 1), (75, .lstore 6, 2), (77, .lload_n 0, 1), (78, .lconst 0, 1), (79, .lcmp, 1), (80, .ifCond .ge 9, 3), (83, .lload 6, 2), (85, .lneg, 1), (86, .goto 5, 3), (89, .lload 6, 2), (91, .lreturn, 1)]
theorem tk48 : tb48.all (fun q => decide (fetch 48 q.1 = some q.2)) = true := by decide +kernel
theorem f48_0 : fetch 48 0 = some (.lload_n 0, 1) := vtab tk48 0 rfl
theorem e48_0 (L : VL) (st : List Value) (h : VG) (x : Int64) : ev 48 0 (some (.long x) :: L) (st) h = ev 48 1 (some (.long x) :: L) (.long x :: st) h := G_lload_n f48_0 rfl
theorem f48_1 : fetch 48 1 = some (.bipush 52, 2) := vtab tk48 1 rfl
theorem e48_1 (L : VL) (st : List Value) (h : VG) : ev 48 1 L (st) h = ev 48 3 L (.int (52 : Int32) :: st) h := G_bipush f48_1 (by decide)
theorem f48_3 : fetch 48 3 = some (.lushr, 1) := vtab tk48 2 rfl
theorem e48_3 (L : VL) (st : List Value) (h : VG) (x : Int64) (y : Int32) : ev 48 3 L (.int y :: .long x :: st) h = ev 48 4 L (.long ((x.toUInt64 >>> (y.toInt64.toUInt64 &&& Int64.toUInt64 63)).toInt64) :: st) h := G_lushr f48_3
theorem f48_4 : fetch 48 4 = some (.l2i, 1) := vtab tk48 3 rfl
theorem e48_4 (L : VL) (st : List Value) (h : VG) (x : Int64) : ev 48 4 L (.long x :: st) h = ev 48 5 L (.int x.toInt32 :: st) h := G_l2i f48_4
theorem f48_5 : fetch 48 5 = some (.sipush 2047, 3) := vtab tk48 4 rfl
theorem e48_5 (L : VL) (st : List Value) (h : VG) : ev 48 5 L (st) h = ev 48 8 L (.int (2047 : Int32) :: st) h := G_sipush f48_5 (by decide)
theorem f48_8 : fetch 48 8 = some (.iand, 1) := vtab tk48 5 rfl
theorem e48_8 (L : VL) (st : List Value) (h : VG) (x y : Int32) : ev 48 8 L (.int y :: .int x :: st) h = ev 48 9 L (.int (x &&& y) :: st) h := G_iand f48_8
theorem f48_9 : fetch 48 9 = some (.sipush 1023, 3) := vtab tk48 6 rfl
theorem e48_9 (L : VL) (st : List Value) (h : VG) : ev 48 9 L (st) h = ev 48 12 L (.int (1023 : Int32) :: st) h := G_sipush f48_9 (by decide)
theorem f48_12 : fetch 48 12 = some (.isub, 1) := vtab tk48 7 rfl
theorem e48_12 (L : VL) (st : List Value) (h : VG) (x y : Int32) : ev 48 12 L (.int y :: .int x :: st) h = ev 48 13 L (.int (x - y) :: st) h := G_isub f48_12
theorem f48_13 : fetch 48 13 = some (.istore_n 2, 1) := vtab tk48 8 rfl
theorem e48_13 (l0 l1 l2 : Option Value) (L : VL) (st : List Value) (h : VG) (x : Int32) : ev 48 13 (l0 :: l1 :: l2 :: L) (.int x :: st) h = ev 48 14 (l0 :: vkk l1 :: some (.int x) :: L) (st) h := G_istore_n f48_13 rfl (S1_2 l0 l1 l2 L _)
theorem f48_14 : fetch 48 14 = some (.iload_n 2, 1) := vtab tk48 9 rfl
theorem e48_14 (l0 l1 : Option Value) (L : VL) (st : List Value) (h : VG) (x : Int32) : ev 48 14 (l0 :: l1 :: some (.int x) :: L) (st) h = ev 48 15 (l0 :: l1 :: some (.int x) :: L) (.int x :: st) h := G_iload_n f48_14 rfl
theorem f48_15 : fetch 48 15 = some (.ifCond .ge 5, 3) := vtab tk48 10 rfl
theorem e48_15 (L : VL) (st : List Value) (h : VG) (x : Int32) : ev 48 15 L (.int x :: st) h = if x < 0 then ev 48 18 L st h else ev 48 20 L st h := G_if_ge f48_15 (by decide)
theorem f48_18 : fetch 48 18 = some (.lconst 0, 1) := vtab tk48 11 rfl
theorem e48_18 (L : VL) (st : List Value) (h : VG) : ev 48 18 L (st) h = ev 48 19 L (.long 0 :: st) h := G_lconst f48_18 (by decide)
theorem f48_19 : fetch 48 19 = some (.lreturn, 1) := vtab tk48 12 rfl
theorem e48_19 (L : VL) (h : VG) (x : Int64) : ev 48 19 L [.long x] h = some (some (.long x), h) := G_lret f48_19 (by decide)
theorem f48_20 : fetch 48 20 = some (.iload_n 2, 1) := vtab tk48 13 rfl
theorem e48_20 (l0 l1 : Option Value) (L : VL) (st : List Value) (h : VG) (x : Int32) : ev 48 20 (l0 :: l1 :: some (.int x) :: L) (st) h = ev 48 21 (l0 :: l1 :: some (.int x) :: L) (.int x :: st) h := G_iload_n f48_20 rfl
theorem f48_21 : fetch 48 21 = some (.bipush 63, 2) := vtab tk48 14 rfl
theorem e48_21 (L : VL) (st : List Value) (h : VG) : ev 48 21 L (st) h = ev 48 23 L (.int (63 : Int32) :: st) h := G_bipush f48_21 (by decide)
theorem f48_23 : fetch 48 23 = some (.if_icmp .lt 19, 3) := vtab tk48 15 rfl
theorem e48_23 (L : VL) (st : List Value) (h : VG) (x y : Int32) : ev 48 23 L (.int y :: .int x :: st) h = if x < y then ev 48 42 L st h else ev 48 26 L st h := G_icmp_lt f48_23 (by decide)
theorem f48_26 : fetch 48 26 = some (.lload_n 0, 1) := vtab tk48 16 rfl
theorem e48_26 (L : VL) (st : List Value) (h : VG) (x : Int64) : ev 48 26 (some (.long x) :: L) (st) h = ev 48 27 (some (.long x) :: L) (.long x :: st) h := G_lload_n f48_26 rfl
theorem f48_27 : fetch 48 27 = some (.lconst 0, 1) := vtab tk48 17 rfl
theorem e48_27 (L : VL) (st : List Value) (h : VG) : ev 48 27 L (st) h = ev 48 28 L (.long 0 :: st) h := G_lconst f48_27 (by decide)
theorem f48_28 : fetch 48 28 = some (.lcmp, 1) := vtab tk48 18 rfl
theorem e48_28 (L : VL) (st : List Value) (h : VG) (x y : Int64) : ev 48 28 L (.long y :: .long x :: st) h = ev 48 29 L (.int (lg_cmp x y) :: st) h := G_lcmp f48_28
theorem f48_29 : fetch 48 29 = some (.ifCond .ge 9, 3) := vtab tk48 19 rfl
theorem e48_29 (L : VL) (st : List Value) (h : VG) (x : Int32) : ev 48 29 L (.int x :: st) h = if x < 0 then ev 48 32 L st h else ev 48 38 L st h := G_if_ge f48_29 (by decide)
theorem f48_32 : fetch 48 32 = some (.ldc2_w 53, 3) := vtab tk48 20 rfl
theorem e48_32 (L : VL) (st : List Value) (h : VG) : ev 48 32 L (st) h = ev 48 35 L (.long (-9223372036854775808) :: st) h := G_ldc2l (p := 775) f48_32 lkK_4_53
theorem f48_35 : fetch 48 35 = some (.goto 6, 3) := vtab tk48 21 rfl
theorem e48_35 (L : VL) (st : List Value) (h : VG) : ev 48 35 L (st) h = ev 48 41 L (st) h := G_goto f48_35 (by decide)
theorem f48_38 : fetch 48 38 = some (.ldc2_w 43, 3) := vtab tk48 22 rfl
theorem e48_38 (L : VL) (st : List Value) (h : VG) : ev 48 38 L (st) h = ev 48 41 L (.long 9223372036854775807 :: st) h := G_ldc2l (p := 782) f48_38 lkK_4_43
theorem f48_41 : fetch 48 41 = some (.lreturn, 1) := vtab tk48 23 rfl
theorem e48_41 (L : VL) (h : VG) (x : Int64) : ev 48 41 L [.long x] h = some (some (.long x), h) := G_lret f48_41 (by decide)
theorem f48_42 : fetch 48 42 = some (.lload_n 0, 1) := vtab tk48 24 rfl
theorem e48_42 (L : VL) (st : List Value) (h : VG) (x : Int64) : ev 48 42 (some (.long x) :: L) (st) h = ev 48 43 (some (.long x) :: L) (.long x :: st) h := G_lload_n f48_42 rfl
theorem f48_43 : fetch 48 43 = some (.ldc2_w 70, 3) := vtab tk48 25 rfl
theorem e48_43 (L : VL) (st : List Value) (h : VG) : ev 48 43 L (st) h = ev 48 46 L (.long 4503599627370495 :: st) h := G_ldc2l (p := 783) f48_43 lkK_4_70
theorem f48_46 : fetch 48 46 = some (.land, 1) := vtab tk48 26 rfl
theorem e48_46 (L : VL) (st : List Value) (h : VG) (x y : Int64) : ev 48 46 L (.long y :: .long x :: st) h = ev 48 47 L (.long (x &&& y) :: st) h := G_land f48_46
theorem f48_47 : fetch 48 47 = some (.ldc2_w 68, 3) := vtab tk48 27 rfl
theorem e48_47 (L : VL) (st : List Value) (h : VG) : ev 48 47 L (st) h = ev 48 50 L (.long 4503599627370496 :: st) h := G_ldc2l (p := 771) f48_47 lkK_4_68
theorem f48_50 : fetch 48 50 = some (.lor, 1) := vtab tk48 28 rfl
theorem e48_50 (L : VL) (st : List Value) (h : VG) (x y : Int64) : ev 48 50 L (.long y :: .long x :: st) h = ev 48 51 L (.long (x ||| y) :: st) h := G_lor f48_50
theorem f48_51 : fetch 48 51 = some (.lstore_n 3, 1) := vtab tk48 29 rfl
theorem e48_51 (l0 l1 l2 l3 l4 : Option Value) (L : VL) (st : List Value) (h : VG) (x : Int64) : ev 48 51 (l0 :: l1 :: l2 :: l3 :: l4 :: L) (.long x :: st) h = ev 48 52 (l0 :: l1 :: vkk l2 :: some (.long x) :: none :: L) (st) h := G_lstore_n f48_51 rfl (S2_3 l0 l1 l2 l3 l4 L _)
theorem f48_52 : fetch 48 52 = some (.bipush 52, 2) := vtab tk48 30 rfl
theorem e48_52 (L : VL) (st : List Value) (h : VG) : ev 48 52 L (st) h = ev 48 54 L (.int (52 : Int32) :: st) h := G_bipush f48_52 (by decide)
theorem f48_54 : fetch 48 54 = some (.iload_n 2, 1) := vtab tk48 31 rfl
theorem e48_54 (l0 l1 : Option Value) (L : VL) (st : List Value) (h : VG) (x : Int32) : ev 48 54 (l0 :: l1 :: some (.int x) :: L) (st) h = ev 48 55 (l0 :: l1 :: some (.int x) :: L) (.int x :: st) h := G_iload_n f48_54 rfl
theorem f48_55 : fetch 48 55 = some (.isub, 1) := vtab tk48 32 rfl
theorem e48_55 (L : VL) (st : List Value) (h : VG) (x y : Int32) : ev 48 55 L (.int y :: .int x :: st) h = ev 48 56 L (.int (x - y) :: st) h := G_isub f48_55
theorem f48_56 : fetch 48 56 = some (.istore 5, 2) := vtab tk48 33 rfl
theorem e48_56 (l0 l1 l2 l3 l4 l5 : Option Value) (L : VL) (st : List Value) (h : VG) (x : Int32) : ev 48 56 (l0 :: l1 :: l2 :: l3 :: l4 :: l5 :: L) (.int x :: st) h = ev 48 58 (l0 :: l1 :: l2 :: l3 :: vkk l4 :: some (.int x) :: L) (st) h := G_istore f48_56 rfl (S1_5 l0 l1 l2 l3 l4 l5 L _)
theorem f48_58 : fetch 48 58 = some (.iload 5, 2) := vtab tk48 34 rfl
theorem e48_58 (l0 l1 l2 l3 l4 : Option Value) (L : VL) (st : List Value) (h : VG) (x : Int32) : ev 48 58 (l0 :: l1 :: l2 :: l3 :: l4 :: some (.int x) :: L) (st) h = ev 48 60 (l0 :: l1 :: l2 :: l3 :: l4 :: some (.int x) :: L) (.int x :: st) h := G_iload f48_58 rfl
theorem f48_60 : fetch 48 60 = some (.ifCond .le 10, 3) := vtab tk48 35 rfl
theorem e48_60 (L : VL) (st : List Value) (h : VG) (x : Int32) : ev 48 60 L (.int x :: st) h = if x ≤ 0 then ev 48 70 L st h else ev 48 63 L st h := G_if_le f48_60 (by decide)
theorem f48_63 : fetch 48 63 = some (.lload_n 3, 1) := vtab tk48 36 rfl
theorem e48_63 (l0 l1 l2 : Option Value) (L : VL) (st : List Value) (h : VG) (x : Int64) : ev 48 63 (l0 :: l1 :: l2 :: some (.long x) :: L) (st) h = ev 48 64 (l0 :: l1 :: l2 :: some (.long x) :: L) (.long x :: st) h := G_lload_n f48_63 rfl
theorem f48_64 : fetch 48 64 = some (.iload 5, 2) := vtab tk48 37 rfl
theorem e48_64 (l0 l1 l2 l3 l4 : Option Value) (L : VL) (st : List Value) (h : VG) (x : Int32) : ev 48 64 (l0 :: l1 :: l2 :: l3 :: l4 :: some (.int x) :: L) (st) h = ev 48 66 (l0 :: l1 :: l2 :: l3 :: l4 :: some (.int x) :: L) (.int x :: st) h := G_iload f48_64 rfl
theorem f48_66 : fetch 48 66 = some (.lushr, 1) := vtab tk48 38 rfl
theorem e48_66 (L : VL) (st : List Value) (h : VG) (x : Int64) (y : Int32) : ev 48 66 L (.int y :: .long x :: st) h = ev 48 67 L (.long ((x.toUInt64 >>> (y.toInt64.toUInt64 &&& Int64.toUInt64 63)).toInt64) :: st) h := G_lushr f48_66
theorem f48_67 : fetch 48 67 = some (.goto 8, 3) := vtab tk48 39 rfl
theorem e48_67 (L : VL) (st : List Value) (h : VG) : ev 48 67 L (st) h = ev 48 75 L (st) h := G_goto f48_67 (by decide)
theorem f48_70 : fetch 48 70 = some (.lload_n 3, 1) := vtab tk48 40 rfl
theorem e48_70 (l0 l1 l2 : Option Value) (L : VL) (st : List Value) (h : VG) (x : Int64) : ev 48 70 (l0 :: l1 :: l2 :: some (.long x) :: L) (st) h = ev 48 71 (l0 :: l1 :: l2 :: some (.long x) :: L) (.long x :: st) h := G_lload_n f48_70 rfl
theorem f48_71 : fetch 48 71 = some (.iload 5, 2) := vtab tk48 41 rfl
theorem e48_71 (l0 l1 l2 l3 l4 : Option Value) (L : VL) (st : List Value) (h : VG) (x : Int32) : ev 48 71 (l0 :: l1 :: l2 :: l3 :: l4 :: some (.int x) :: L) (st) h = ev 48 73 (l0 :: l1 :: l2 :: l3 :: l4 :: some (.int x) :: L) (.int x :: st) h := G_iload f48_71 rfl
theorem f48_73 : fetch 48 73 = some (.ineg, 1) := vtab tk48 42 rfl
theorem e48_73 (L : VL) (st : List Value) (h : VG) (x : Int32) : ev 48 73 L (.int x :: st) h = ev 48 74 L (.int (-x) :: st) h := G_ineg f48_73
theorem f48_74 : fetch 48 74 = some (.lshl, 1) := vtab tk48 43 rfl
theorem e48_74 (L : VL) (st : List Value) (h : VG) (x : Int64) (y : Int32) : ev 48 74 L (.int y :: .long x :: st) h = ev 48 75 L (.long (x <<< (y.toInt64 &&& 63)) :: st) h := G_lshl f48_74
theorem f48_75 : fetch 48 75 = some (.lstore 6, 2) := vtab tk48 44 rfl
theorem e48_75 (l0 l1 l2 l3 l4 l5 l6 l7 : Option Value) (L : VL) (st : List Value) (h : VG) (x : Int64) : ev 48 75 (l0 :: l1 :: l2 :: l3 :: l4 :: l5 :: l6 :: l7 :: L) (.long x :: st) h = ev 48 77 (l0 :: l1 :: l2 :: l3 :: l4 :: vkk l5 :: some (.long x) :: none :: L) (st) h := G_lstore f48_75 rfl (S2_6 l0 l1 l2 l3 l4 l5 l6 l7 L _)
theorem f48_77 : fetch 48 77 = some (.lload_n 0, 1) := vtab tk48 45 rfl
theorem e48_77 (L : VL) (st : List Value) (h : VG) (x : Int64) : ev 48 77 (some (.long x) :: L) (st) h = ev 48 78 (some (.long x) :: L) (.long x :: st) h := G_lload_n f48_77 rfl
theorem f48_78 : fetch 48 78 = some (.lconst 0, 1) := vtab tk48 46 rfl
theorem e48_78 (L : VL) (st : List Value) (h : VG) : ev 48 78 L (st) h = ev 48 79 L (.long 0 :: st) h := G_lconst f48_78 (by decide)
theorem f48_79 : fetch 48 79 = some (.lcmp, 1) := vtab tk48 47 rfl
theorem e48_79 (L : VL) (st : List Value) (h : VG) (x y : Int64) : ev 48 79 L (.long y :: .long x :: st) h = ev 48 80 L (.int (lg_cmp x y) :: st) h := G_lcmp f48_79
theorem f48_80 : fetch 48 80 = some (.ifCond .ge 9, 3) := vtab tk48 48 rfl
theorem e48_80 (L : VL) (st : List Value) (h : VG) (x : Int32) : ev 48 80 L (.int x :: st) h = if x < 0 then ev 48 83 L st h else ev 48 89 L st h := G_if_ge f48_80 (by decide)
theorem f48_83 : fetch 48 83 = some (.lload 6, 2) := vtab tk48 49 rfl
theorem e48_83 (l0 l1 l2 l3 l4 l5 : Option Value) (L : VL) (st : List Value) (h : VG) (x : Int64) : ev 48 83 (l0 :: l1 :: l2 :: l3 :: l4 :: l5 :: some (.long x) :: L) (st) h = ev 48 85 (l0 :: l1 :: l2 :: l3 :: l4 :: l5 :: some (.long x) :: L) (.long x :: st) h := G_lload f48_83 rfl
theorem f48_85 : fetch 48 85 = some (.lneg, 1) := vtab tk48 50 rfl
theorem e48_85 (L : VL) (st : List Value) (h : VG) (x : Int64) : ev 48 85 L (.long x :: st) h = ev 48 86 L (.long (-x) :: st) h := G_lneg f48_85
theorem f48_86 : fetch 48 86 = some (.goto 5, 3) := vtab tk48 51 rfl
theorem e48_86 (L : VL) (st : List Value) (h : VG) : ev 48 86 L (st) h = ev 48 91 L (st) h := G_goto f48_86 (by decide)
theorem f48_89 : fetch 48 89 = some (.lload 6, 2) := vtab tk48 52 rfl
theorem e48_89 (l0 l1 l2 l3 l4 l5 : Option Value) (L : VL) (st : List Value) (h : VG) (x : Int64) : ev 48 89 (l0 :: l1 :: l2 :: l3 :: l4 :: l5 :: some (.long x) :: L) (st) h = ev 48 91 (l0 :: l1 :: l2 :: l3 :: l4 :: l5 :: some (.long x) :: L) (.long x :: st) h := G_lload f48_89 rfl
theorem f48_91 : fetch 48 91 = some (.lreturn, 1) := vtab tk48 53 rfl
theorem e48_91 (L : VL) (h : VG) (x : Int64) : ev 48 91 L [.long x] h = some (some (.long x), h) := G_lret f48_91 (by decide)
/-! 49 GuestCalls$Layout.<init>(Z)V -/
def tb49 : List (Nat × Instr × Nat) := [(0, .aload_n 0, 1), (1, .invokespecial 3, 3), (4, .aload_n 0, 1), (5, .bipush 32, 2), (7, .newarray .int, 2), (9, .putfield 9, 3), (12, .aload_n 0, 1), (13, .iload_n 1, 1), (14, .putfield 15, 3), (17, .return_, 1)]
theorem tk49 : tb49.all (fun q => decide (fetch 49 q.1 = some q.2)) = true := by decide +kernel
theorem f49_0 : fetch 49 0 = some (.aload_n 0, 1) := vtab tk49 0 rfl
theorem e49_0 (L : VL) (st : List Value) (h : VG) (x : Nat) : ev 49 0 (some (.ref x) :: L) (st) h = ev 49 1 (some (.ref x) :: L) (.ref x :: st) h := G_aload_n f49_0 rfl
theorem f49_1 : fetch 49 1 = some (.invokespecial 3, 3) := vtab tk49 1 rfl
theorem e49_1 (L : VL) (st : List Value) (h : VG) (a : Nat) (hs : catS st ≤ 8) : ev 49 1 L (.ref a :: st) h = ev 49 4 L (st) h := G_objinit (y := 0) (p := 252) f49_1 lkC_5_3 hs
theorem f49_4 : fetch 49 4 = some (.aload_n 0, 1) := vtab tk49 2 rfl
theorem e49_4 (L : VL) (st : List Value) (h : VG) (x : Nat) : ev 49 4 (some (.ref x) :: L) (st) h = ev 49 5 (some (.ref x) :: L) (.ref x :: st) h := G_aload_n f49_4 rfl
theorem f49_5 : fetch 49 5 = some (.bipush 32, 2) := vtab tk49 3 rfl
theorem e49_5 (L : VL) (st : List Value) (h : VG) : ev 49 5 L (st) h = ev 49 7 L (.int (32 : Int32) :: st) h := G_bipush f49_5 (by decide)
theorem f49_7 : fetch 49 7 = some (.newarray .int, 2) := vtab tk49 4 rfl
theorem e49_7 (L : VL) (st : List Value) (h : VG) (n : Int32) (hn : ¬ n < 0 ∧ n.toNatClampNeg ≤ 4096) : ev 49 7 L (.int n :: st) h = ev 49 9 L (.ref h.2.1 :: st) (hnew h (.inl (0, n.toNatClampNeg, .inl (fun _ => 0))) n.toNatClampNeg) := G_newa f49_7 rfl hn
theorem f49_9 : fetch 49 9 = some (.putfield 9, 3) := vtab tk49 5 rfl
theorem e49_9 (L : VL) (st : List Value) (h : VG) (a : Nat) (x : Nat) (ho : ob h a 4) : ev 49 9 L (.ref x :: .ref a :: st) h = ev 49 12 L (st) (pR h a 1 x) := G_putR (p := 256) f49_9 lkF_5_9 (by decide) (by decide) (by decide +kernel) ⟨rfl, rfl⟩ ho
theorem f49_12 : fetch 49 12 = some (.aload_n 0, 1) := vtab tk49 6 rfl
theorem e49_12 (L : VL) (st : List Value) (h : VG) (x : Nat) : ev 49 12 (some (.ref x) :: L) (st) h = ev 49 13 (some (.ref x) :: L) (.ref x :: st) h := G_aload_n f49_12 rfl
theorem f49_13 : fetch 49 13 = some (.iload_n 1, 1) := vtab tk49 7 rfl
theorem e49_13 (l0 : Option Value) (L : VL) (st : List Value) (h : VG) (x : Int32) : ev 49 13 (l0 :: some (.int x) :: L) (st) h = ev 49 14 (l0 :: some (.int x) :: L) (.int x :: st) h := G_iload_n f49_13 rfl
theorem f49_14 : fetch 49 14 = some (.putfield 15, 3) := vtab tk49 8 rfl
theorem e49_14 (L : VL) (st : List Value) (h : VG) (a : Nat) (x : Int32) (ho : ob h a 4) (hz : x = 0 ∨ x = 1) : ev 49 14 L (.int x :: .ref a :: st) h = ev 49 17 L (st) (pI h a 0 x) := G_putI (ci := 4) (p := 253) f49_14 lkF_5_15 (by decide) (by decide) (by decide +kernel) (vbool hz) ho
theorem f49_17 : fetch 49 17 = some (.return_, 1) := vtab tk49 9 rfl
theorem e49_17 (L : VL) (h : VG) : ev 49 17 L [] h = some (none, h) := G_vret f49_17 (by decide)
/-! 50 GuestCalls$Layout.layCells([II)V -/
def tb50 : List (Nat × Instr × Nat) := [(0, .aload_n 0, 1), (1, .iconst 1, 1), (2, .putfield 19, 3), (5, .iconst 0, 1), (6, .istore_n 3, 1), (7, .iconst 0, 1), (8, .istore 4, 2), (10, .iload 4, 2), (12, .iload_n 2, 1), (13, .if_icmp .ge 68, 3), (16, .aload_n 1, 1), (17, .iload 4, 2), (19, .iaload, 1), (20, .aload_n 0, 1), (21, .getfield 15, 3), (24, .invokestatic 23, 3), (27, .istore 5, 2), (29, .aload_n 0, 1), (30, .getfield 9, 3), (33, .iload 4, 2), (35, .iload_n 3, 1), (36, .iload 5, 2), (38, .invokestatic 29, 3), (41, .iastore, 1), (42, .aload_n 0, 1), (43, .getfield 9, 3), (46, .iload 4, 2), (48, .iaload, 1), (49, .aload_n 1, 1), (50, .iload 4, 2), (52, .iaload, 1), (53, .aload_n 0, 1), (54, .getfield 15, 3), (57, .invokestatic 33, 3), (60, .iadd, 1), (61, .istore_n 3, 1), (62, .aload_n 0, 1), (63, .aload_n 0, 1), (64, .getfield 19, 3), (67, .iload 5, 2), (69, .invokestatic 36, 3), (72, .putfield 19, 3), (75, .iinc 4 1, 3), (78, .goto (-68), 3), (81, .aload_n 0, 1), (82, .iload_n 3, 1), (83, .aload_n 0, 1), (84, .getfield 19, 3), (87, .invokestatic 29, 3), (90, .putfield 41, 3), (93, .return_, 1)]
theorem tk50 : tb50.all (fun q => decide (fetch 50 q.1 = some q.2)) = true := by decide +kernel
theorem f50_0 : fetch 50 0 = some (.aload_n 0, 1) := vtab tk50 0 rfl
theorem e50_0 (L : VL) (st : List Value) (h : VG) (x : Nat) : ev 50 0 (some (.ref x) :: L) (st) h = ev 50 1 (some (.ref x) :: L) (.ref x :: st) h := G_aload_n f50_0 rfl
theorem f50_1 : fetch 50 1 = some (.iconst 1, 1) := vtab tk50 1 rfl
theorem e50_1 (L : VL) (st : List Value) (h : VG) : ev 50 1 L (st) h = ev 50 2 L (.int (1 : Int32) :: st) h := G_iconst f50_1 (by decide)
theorem f50_2 : fetch 50 2 = some (.putfield 19, 3) := vtab tk50 2 rfl
theorem e50_2 (L : VL) (st : List Value) (h : VG) (a : Nat) (x : Int32) (ho : ob h a 4) : ev 50 2 L (.int x :: .ref a :: st) h = ev 50 5 L (st) (pI h a 2 x) := G_putI (p := 259) f50_2 lkF_5_19 (by decide) (by decide) (by decide +kernel) ⟨rfl, rfl⟩ ho
theorem f50_5 : fetch 50 5 = some (.iconst 0, 1) := vtab tk50 3 rfl
theorem e50_5 (L : VL) (st : List Value) (h : VG) : ev 50 5 L (st) h = ev 50 6 L (.int (0 : Int32) :: st) h := G_iconst f50_5 (by decide)
theorem f50_6 : fetch 50 6 = some (.istore_n 3, 1) := vtab tk50 4 rfl
theorem e50_6 (l0 l1 l2 l3 : Option Value) (L : VL) (st : List Value) (h : VG) (x : Int32) : ev 50 6 (l0 :: l1 :: l2 :: l3 :: L) (.int x :: st) h = ev 50 7 (l0 :: l1 :: vkk l2 :: some (.int x) :: L) (st) h := G_istore_n f50_6 rfl (S1_3 l0 l1 l2 l3 L _)
theorem f50_7 : fetch 50 7 = some (.iconst 0, 1) := vtab tk50 5 rfl
theorem e50_7 (L : VL) (st : List Value) (h : VG) : ev 50 7 L (st) h = ev 50 8 L (.int (0 : Int32) :: st) h := G_iconst f50_7 (by decide)
theorem f50_8 : fetch 50 8 = some (.istore 4, 2) := vtab tk50 6 rfl
theorem e50_8 (l0 l1 l2 l3 l4 : Option Value) (L : VL) (st : List Value) (h : VG) (x : Int32) : ev 50 8 (l0 :: l1 :: l2 :: l3 :: l4 :: L) (.int x :: st) h = ev 50 10 (l0 :: l1 :: l2 :: vkk l3 :: some (.int x) :: L) (st) h := G_istore f50_8 rfl (S1_4 l0 l1 l2 l3 l4 L _)
theorem f50_10 : fetch 50 10 = some (.iload 4, 2) := vtab tk50 7 rfl
theorem e50_10 (l0 l1 l2 l3 : Option Value) (L : VL) (st : List Value) (h : VG) (x : Int32) : ev 50 10 (l0 :: l1 :: l2 :: l3 :: some (.int x) :: L) (st) h = ev 50 12 (l0 :: l1 :: l2 :: l3 :: some (.int x) :: L) (.int x :: st) h := G_iload f50_10 rfl
theorem f50_12 : fetch 50 12 = some (.iload_n 2, 1) := vtab tk50 8 rfl
theorem e50_12 (l0 l1 : Option Value) (L : VL) (st : List Value) (h : VG) (x : Int32) : ev 50 12 (l0 :: l1 :: some (.int x) :: L) (st) h = ev 50 13 (l0 :: l1 :: some (.int x) :: L) (.int x :: st) h := G_iload_n f50_12 rfl
theorem f50_13 : fetch 50 13 = some (.if_icmp .ge 68, 3) := vtab tk50 9 rfl
theorem e50_13 (L : VL) (st : List Value) (h : VG) (x y : Int32) : ev 50 13 L (.int y :: .int x :: st) h = if x < y then ev 50 16 L st h else ev 50 81 L st h := G_icmp_ge f50_13 (by decide)
theorem f50_16 : fetch 50 16 = some (.aload_n 1, 1) := vtab tk50 10 rfl
theorem e50_16 (l0 : Option Value) (L : VL) (st : List Value) (h : VG) (x : Nat) : ev 50 16 (l0 :: some (.ref x) :: L) (st) h = ev 50 17 (l0 :: some (.ref x) :: L) (.ref x :: st) h := G_aload_n f50_16 rfl
theorem f50_17 : fetch 50 17 = some (.iload 4, 2) := vtab tk50 11 rfl
theorem e50_17 (l0 l1 l2 l3 : Option Value) (L : VL) (st : List Value) (h : VG) (x : Int32) : ev 50 17 (l0 :: l1 :: l2 :: l3 :: some (.int x) :: L) (st) h = ev 50 19 (l0 :: l1 :: l2 :: l3 :: some (.int x) :: L) (.int x :: st) h := G_iload f50_17 rfl
theorem f50_19 : fetch 50 19 = some (.iaload, 1) := vtab tk50 12 rfl
theorem e50_19 (L : VL) (st : List Value) (h : VG) (a : Nat) (i : Int32) (ha : rdI h a) (hi : vp_in i (aln h a)) : ev 50 19 L (.int i :: .ref a :: st) h = ev 50 20 L (.int (aI h a i.toNatClampNeg) :: st) h := G_iald' f50_19 ha hi
theorem f50_20 : fetch 50 20 = some (.aload_n 0, 1) := vtab tk50 13 rfl
theorem e50_20 (L : VL) (st : List Value) (h : VG) (x : Nat) : ev 50 20 (some (.ref x) :: L) (st) h = ev 50 21 (some (.ref x) :: L) (.ref x :: st) h := G_aload_n f50_20 rfl
theorem f50_21 : fetch 50 21 = some (.getfield 15, 3) := vtab tk50 14 rfl
theorem e50_21 (L : VL) (st : List Value) (h : VG) (a : Nat) (ho : ob h a 4) : ev 50 21 L (.ref a :: st) h = ev 50 24 L (.int (gI h a 0) :: st) h := G_getI (p := 253) f50_21 lkF_5_15 (by decide) (by decide) ho
theorem f50_24 : fetch 50 24 = some (.invokestatic 23, 3) := vtab tk50 15 rfl
theorem e50_24 (L : VL) (st : List Value) (h : VG) (x0 : Int32) (x1 : Int32) (hs : catS st ≤ 8) : ev 50 24 L (.int x1 :: .int x0 :: st) h = (ev 31 0 [some (.int x0), some (.int x1)] [] h).bind fun q => ev 50 27 L (q.1.toList ++ st) q.2 := G_calls (k := 0) (p := 594) (ars := [.int x0, .int x1]) f50_24 lkC_5_23 (by decide) (by decide +kernel) rfl (Nat.le_of_ble_eq_true rfl) hs rfl
theorem f50_27 : fetch 50 27 = some (.istore 5, 2) := vtab tk50 16 rfl
theorem e50_27 (l0 l1 l2 l3 l4 l5 : Option Value) (L : VL) (st : List Value) (h : VG) (x : Int32) : ev 50 27 (l0 :: l1 :: l2 :: l3 :: l4 :: l5 :: L) (.int x :: st) h = ev 50 29 (l0 :: l1 :: l2 :: l3 :: vkk l4 :: some (.int x) :: L) (st) h := G_istore f50_27 rfl (S1_5 l0 l1 l2 l3 l4 l5 L _)
theorem f50_29 : fetch 50 29 = some (.aload_n 0, 1) := vtab tk50 17 rfl
theorem e50_29 (L : VL) (st : List Value) (h : VG) (x : Nat) : ev 50 29 (some (.ref x) :: L) (st) h = ev 50 30 (some (.ref x) :: L) (.ref x :: st) h := G_aload_n f50_29 rfl
theorem f50_30 : fetch 50 30 = some (.getfield 9, 3) := vtab tk50 18 rfl
theorem e50_30 (L : VL) (st : List Value) (h : VG) (a : Nat) (ho : ob h a 4) (hr : isR h a 1) : ev 50 30 L (.ref a :: st) h = ev 50 33 L (.ref (gR h a 1) :: st) h := G_getR (p := 256) f50_30 lkF_5_9 (by decide) (by decide) ho hr
theorem f50_33 : fetch 50 33 = some (.iload 4, 2) := vtab tk50 19 rfl
theorem e50_33 (l0 l1 l2 l3 : Option Value) (L : VL) (st : List Value) (h : VG) (x : Int32) : ev 50 33 (l0 :: l1 :: l2 :: l3 :: some (.int x) :: L) (st) h = ev 50 35 (l0 :: l1 :: l2 :: l3 :: some (.int x) :: L) (.int x :: st) h := G_iload f50_33 rfl
theorem f50_35 : fetch 50 35 = some (.iload_n 3, 1) := vtab tk50 20 rfl
theorem e50_35 (l0 l1 l2 : Option Value) (L : VL) (st : List Value) (h : VG) (x : Int32) : ev 50 35 (l0 :: l1 :: l2 :: some (.int x) :: L) (st) h = ev 50 36 (l0 :: l1 :: l2 :: some (.int x) :: L) (.int x :: st) h := G_iload_n f50_35 rfl
theorem f50_36 : fetch 50 36 = some (.iload 5, 2) := vtab tk50 21 rfl
theorem e50_36 (l0 l1 l2 l3 l4 : Option Value) (L : VL) (st : List Value) (h : VG) (x : Int32) : ev 50 36 (l0 :: l1 :: l2 :: l3 :: l4 :: some (.int x) :: L) (st) h = ev 50 38 (l0 :: l1 :: l2 :: l3 :: l4 :: some (.int x) :: L) (.int x :: st) h := G_iload f50_36 rfl
theorem f50_38 : fetch 50 38 = some (.invokestatic 29, 3) := vtab tk50 22 rfl
theorem e50_38 (L : VL) (st : List Value) (h : VG) (x0 : Int32) (x1 : Int32) (hs : catS st ≤ 8) : ev 50 38 L (.int x1 :: .int x0 :: st) h = (ev 32 0 [some (.int x0), some (.int x1)] [] h).bind fun q => ev 50 41 L (q.1.toList ++ st) q.2 := G_calls (k := 0) (p := 604) (ars := [.int x0, .int x1]) f50_38 lkC_5_29 (by decide) (by decide +kernel) rfl (Nat.le_of_ble_eq_true rfl) hs rfl
theorem f50_41 : fetch 50 41 = some (.iastore, 1) := vtab tk50 23 rfl
theorem e50_41 (L : VL) (st : List Value) (h : VG) (a : Nat) (i : Int32) (x : Int32) (ha : arI h a 0) (hi : vp_in i (aln h a)) : ev 50 41 L (.int x :: .int i :: .ref a :: st) h = ev 50 42 L (st) (wI h a i.toNatClampNeg x) := G_iast f50_41 ha hi
theorem f50_42 : fetch 50 42 = some (.aload_n 0, 1) := vtab tk50 24 rfl
theorem e50_42 (L : VL) (st : List Value) (h : VG) (x : Nat) : ev 50 42 (some (.ref x) :: L) (st) h = ev 50 43 (some (.ref x) :: L) (.ref x :: st) h := G_aload_n f50_42 rfl
theorem f50_43 : fetch 50 43 = some (.getfield 9, 3) := vtab tk50 25 rfl
theorem e50_43 (L : VL) (st : List Value) (h : VG) (a : Nat) (ho : ob h a 4) (hr : isR h a 1) : ev 50 43 L (.ref a :: st) h = ev 50 46 L (.ref (gR h a 1) :: st) h := G_getR (p := 256) f50_43 lkF_5_9 (by decide) (by decide) ho hr
theorem f50_46 : fetch 50 46 = some (.iload 4, 2) := vtab tk50 26 rfl
theorem e50_46 (l0 l1 l2 l3 : Option Value) (L : VL) (st : List Value) (h : VG) (x : Int32) : ev 50 46 (l0 :: l1 :: l2 :: l3 :: some (.int x) :: L) (st) h = ev 50 48 (l0 :: l1 :: l2 :: l3 :: some (.int x) :: L) (.int x :: st) h := G_iload f50_46 rfl
theorem f50_48 : fetch 50 48 = some (.iaload, 1) := vtab tk50 27 rfl
theorem e50_48 (L : VL) (st : List Value) (h : VG) (a : Nat) (i : Int32) (ha : rdI h a) (hi : vp_in i (aln h a)) : ev 50 48 L (.int i :: .ref a :: st) h = ev 50 49 L (.int (aI h a i.toNatClampNeg) :: st) h := G_iald' f50_48 ha hi
theorem f50_49 : fetch 50 49 = some (.aload_n 1, 1) := vtab tk50 28 rfl
theorem e50_49 (l0 : Option Value) (L : VL) (st : List Value) (h : VG) (x : Nat) : ev 50 49 (l0 :: some (.ref x) :: L) (st) h = ev 50 50 (l0 :: some (.ref x) :: L) (.ref x :: st) h := G_aload_n f50_49 rfl
theorem f50_50 : fetch 50 50 = some (.iload 4, 2) := vtab tk50 29 rfl
theorem e50_50 (l0 l1 l2 l3 : Option Value) (L : VL) (st : List Value) (h : VG) (x : Int32) : ev 50 50 (l0 :: l1 :: l2 :: l3 :: some (.int x) :: L) (st) h = ev 50 52 (l0 :: l1 :: l2 :: l3 :: some (.int x) :: L) (.int x :: st) h := G_iload f50_50 rfl
theorem f50_52 : fetch 50 52 = some (.iaload, 1) := vtab tk50 30 rfl
theorem e50_52 (L : VL) (st : List Value) (h : VG) (a : Nat) (i : Int32) (ha : rdI h a) (hi : vp_in i (aln h a)) : ev 50 52 L (.int i :: .ref a :: st) h = ev 50 53 L (.int (aI h a i.toNatClampNeg) :: st) h := G_iald' f50_52 ha hi
theorem f50_53 : fetch 50 53 = some (.aload_n 0, 1) := vtab tk50 31 rfl
theorem e50_53 (L : VL) (st : List Value) (h : VG) (x : Nat) : ev 50 53 (some (.ref x) :: L) (st) h = ev 50 54 (some (.ref x) :: L) (.ref x :: st) h := G_aload_n f50_53 rfl
theorem f50_54 : fetch 50 54 = some (.getfield 15, 3) := vtab tk50 32 rfl
theorem e50_54 (L : VL) (st : List Value) (h : VG) (a : Nat) (ho : ob h a 4) : ev 50 54 L (.ref a :: st) h = ev 50 57 L (.int (gI h a 0) :: st) h := G_getI (p := 253) f50_54 lkF_5_15 (by decide) (by decide) ho
theorem f50_57 : fetch 50 57 = some (.invokestatic 33, 3) := vtab tk50 33 rfl
theorem e50_57 (L : VL) (st : List Value) (h : VG) (x0 : Int32) (x1 : Int32) (hs : catS st ≤ 8) : ev 50 57 L (.int x1 :: .int x0 :: st) h = (ev 30 0 [some (.int x0), some (.int x1)] [] h).bind fun q => ev 50 60 L (q.1.toList ++ st) q.2 := G_calls (k := 0) (p := 607) (ars := [.int x0, .int x1]) f50_57 lkC_5_33 (by decide) (by decide +kernel) rfl (Nat.le_of_ble_eq_true rfl) hs rfl
theorem f50_60 : fetch 50 60 = some (.iadd, 1) := vtab tk50 34 rfl
theorem e50_60 (L : VL) (st : List Value) (h : VG) (x y : Int32) : ev 50 60 L (.int y :: .int x :: st) h = ev 50 61 L (.int (x + y) :: st) h := G_iadd f50_60
theorem f50_61 : fetch 50 61 = some (.istore_n 3, 1) := vtab tk50 35 rfl
theorem e50_61 (l0 l1 l2 l3 : Option Value) (L : VL) (st : List Value) (h : VG) (x : Int32) : ev 50 61 (l0 :: l1 :: l2 :: l3 :: L) (.int x :: st) h = ev 50 62 (l0 :: l1 :: vkk l2 :: some (.int x) :: L) (st) h := G_istore_n f50_61 rfl (S1_3 l0 l1 l2 l3 L _)
theorem f50_62 : fetch 50 62 = some (.aload_n 0, 1) := vtab tk50 36 rfl
theorem e50_62 (L : VL) (st : List Value) (h : VG) (x : Nat) : ev 50 62 (some (.ref x) :: L) (st) h = ev 50 63 (some (.ref x) :: L) (.ref x :: st) h := G_aload_n f50_62 rfl
theorem f50_63 : fetch 50 63 = some (.aload_n 0, 1) := vtab tk50 37 rfl
theorem e50_63 (L : VL) (st : List Value) (h : VG) (x : Nat) : ev 50 63 (some (.ref x) :: L) (st) h = ev 50 64 (some (.ref x) :: L) (.ref x :: st) h := G_aload_n f50_63 rfl
theorem f50_64 : fetch 50 64 = some (.getfield 19, 3) := vtab tk50 38 rfl
theorem e50_64 (L : VL) (st : List Value) (h : VG) (a : Nat) (ho : ob h a 4) : ev 50 64 L (.ref a :: st) h = ev 50 67 L (.int (gI h a 2) :: st) h := G_getI (p := 259) f50_64 lkF_5_19 (by decide) (by decide) ho
theorem f50_67 : fetch 50 67 = some (.iload 5, 2) := vtab tk50 39 rfl
theorem e50_67 (l0 l1 l2 l3 l4 : Option Value) (L : VL) (st : List Value) (h : VG) (x : Int32) : ev 50 67 (l0 :: l1 :: l2 :: l3 :: l4 :: some (.int x) :: L) (st) h = ev 50 69 (l0 :: l1 :: l2 :: l3 :: l4 :: some (.int x) :: L) (.int x :: st) h := G_iload f50_67 rfl
theorem f50_69 : fetch 50 69 = some (.invokestatic 36, 3) := vtab tk50 40 rfl
theorem e50_69 (L : VL) (st : List Value) (h : VG) (x y : Int32) (hs : catS st ≤ 8) : ev 50 69 L (.int y :: .int x :: st) h = ev 50 72 L (.int (if x < y then y else x) :: st) h := G_mmax (q := 0) (p := 610) f50_69 lkC_5_36 hs
theorem f50_72 : fetch 50 72 = some (.putfield 19, 3) := vtab tk50 41 rfl
theorem e50_72 (L : VL) (st : List Value) (h : VG) (a : Nat) (x : Int32) (ho : ob h a 4) : ev 50 72 L (.int x :: .ref a :: st) h = ev 50 75 L (st) (pI h a 2 x) := G_putI (p := 259) f50_72 lkF_5_19 (by decide) (by decide) (by decide +kernel) ⟨rfl, rfl⟩ ho
theorem f50_75 : fetch 50 75 = some (.iinc 4 1, 3) := vtab tk50 42 rfl
theorem e50_75 (l0 l1 l2 l3 : Option Value) (L : VL) (st : List Value) (h : VG) (x : Int32) : ev 50 75 (l0 :: l1 :: l2 :: l3 :: some (.int x) :: L) (st) h = ev 50 78 (l0 :: l1 :: l2 :: vkk l3 :: some (.int (x + (1 : Int32))) :: L) (st) h := G_iinc f50_75 rfl (by decide) (S1_4 l0 l1 l2 l3 (some (.int x)) L _)
theorem f50_78 : fetch 50 78 = some (.goto (-68), 3) := vtab tk50 43 rfl
theorem e50_78 (L : VL) (st : List Value) (h : VG) : ev 50 78 L (st) h = ev 50 10 L (st) h := G_goto f50_78 (by decide)
theorem f50_81 : fetch 50 81 = some (.aload_n 0, 1) := vtab tk50 44 rfl
theorem e50_81 (L : VL) (st : List Value) (h : VG) (x : Nat) : ev 50 81 (some (.ref x) :: L) (st) h = ev 50 82 (some (.ref x) :: L) (.ref x :: st) h := G_aload_n f50_81 rfl
theorem f50_82 : fetch 50 82 = some (.iload_n 3, 1) := vtab tk50 45 rfl
theorem e50_82 (l0 l1 l2 : Option Value) (L : VL) (st : List Value) (h : VG) (x : Int32) : ev 50 82 (l0 :: l1 :: l2 :: some (.int x) :: L) (st) h = ev 50 83 (l0 :: l1 :: l2 :: some (.int x) :: L) (.int x :: st) h := G_iload_n f50_82 rfl
theorem f50_83 : fetch 50 83 = some (.aload_n 0, 1) := vtab tk50 46 rfl
theorem e50_83 (L : VL) (st : List Value) (h : VG) (x : Nat) : ev 50 83 (some (.ref x) :: L) (st) h = ev 50 84 (some (.ref x) :: L) (.ref x :: st) h := G_aload_n f50_83 rfl
theorem f50_84 : fetch 50 84 = some (.getfield 19, 3) := vtab tk50 47 rfl
theorem e50_84 (L : VL) (st : List Value) (h : VG) (a : Nat) (ho : ob h a 4) : ev 50 84 L (.ref a :: st) h = ev 50 87 L (.int (gI h a 2) :: st) h := G_getI (p := 259) f50_84 lkF_5_19 (by decide) (by decide) ho
theorem f50_87 : fetch 50 87 = some (.invokestatic 29, 3) := vtab tk50 48 rfl
theorem e50_87 (L : VL) (st : List Value) (h : VG) (x0 : Int32) (x1 : Int32) (hs : catS st ≤ 8) : ev 50 87 L (.int x1 :: .int x0 :: st) h = (ev 32 0 [some (.int x0), some (.int x1)] [] h).bind fun q => ev 50 90 L (q.1.toList ++ st) q.2 := G_calls (k := 0) (p := 604) (ars := [.int x0, .int x1]) f50_87 lkC_5_29 (by decide) (by decide +kernel) rfl (Nat.le_of_ble_eq_true rfl) hs rfl
theorem f50_90 : fetch 50 90 = some (.putfield 41, 3) := vtab tk50 49 rfl
theorem e50_90 (L : VL) (st : List Value) (h : VG) (a : Nat) (x : Int32) (ho : ob h a 4) : ev 50 90 L (.int x :: .ref a :: st) h = ev 50 93 L (st) (pI h a 3 x) := G_putI (p := 261) f50_90 lkF_5_41 (by decide) (by decide) (by decide +kernel) ⟨rfl, rfl⟩ ho
theorem f50_93 : fetch 50 93 = some (.return_, 1) := vtab tk50 50 rfl
theorem e50_93 (L : VL) (h : VG) : ev 50 93 L [] h = some (none, h) := G_vret f50_93 (by decide)
/-! 51 GuestCalls$Memory.<init>()V -/
def tb51 : List (Nat × Instr × Nat) := [(0, .aload_n 0, 1), (1, .invokespecial 3, 3), (4, .aload_n 0, 1), (5, .sipush 256, 3), (8, .newarray .byte, 2), (10, .putfield 9, 3), (13, .aload_n 0, 1), (14, .sipush 256, 3), (17, .putfield 15, 3), (20, .return_, 1)]
theorem tk51 : tb51.all (fun q => decide (fetch 51 q.1 = some q.2)) = true := by decide +kernel
theorem f51_0 : fetch 51 0 = some (.aload_n 0, 1) := vtab tk51 0 rfl
theorem e51_0 (L : VL) (st : List Value) (h : VG) (x : Nat) : ev 51 0 (some (.ref x) :: L) (st) h = ev 51 1 (some (.ref x) :: L) (.ref x :: st) h := G_aload_n f51_0 rfl
theorem f51_1 : fetch 51 1 = some (.invokespecial 3, 3) := vtab tk51 1 rfl
theorem e51_1 (L : VL) (st : List Value) (h : VG) (a : Nat) (hs : catS st ≤ 8) : ev 51 1 L (.ref a :: st) h = ev 51 4 L (st) h := G_objinit (y := 0) (p := 223) f51_1 lkC_6_3 hs
theorem f51_4 : fetch 51 4 = some (.aload_n 0, 1) := vtab tk51 2 rfl
theorem e51_4 (L : VL) (st : List Value) (h : VG) (x : Nat) : ev 51 4 (some (.ref x) :: L) (st) h = ev 51 5 (some (.ref x) :: L) (.ref x :: st) h := G_aload_n f51_4 rfl
theorem f51_5 : fetch 51 5 = some (.sipush 256, 3) := vtab tk51 3 rfl
theorem e51_5 (L : VL) (st : List Value) (h : VG) : ev 51 5 L (st) h = ev 51 8 L (.int (256 : Int32) :: st) h := G_sipush f51_5 (by decide)
theorem f51_8 : fetch 51 8 = some (.newarray .byte, 2) := vtab tk51 4 rfl
theorem e51_8 (L : VL) (st : List Value) (h : VG) (n : Int32) (hn : ¬ n < 0 ∧ n.toNatClampNeg ≤ 4096) : ev 51 8 L (.int n :: st) h = ev 51 10 L (.ref h.2.1 :: st) (hnew h (.inl (2, n.toNatClampNeg, .inl (fun _ => 0))) n.toNatClampNeg) := G_newa f51_8 rfl hn
theorem f51_10 : fetch 51 10 = some (.putfield 9, 3) := vtab tk51 5 rfl
theorem e51_10 (L : VL) (st : List Value) (h : VG) (a : Nat) (x : Nat) (ho : ob h a 5) : ev 51 10 L (.ref x :: .ref a :: st) h = ev 51 13 L (st) (pR h a 0 x) := G_putR (p := 224) f51_10 lkF_6_9 (by decide) (by decide) (by decide +kernel) ⟨rfl, rfl⟩ ho
theorem f51_13 : fetch 51 13 = some (.aload_n 0, 1) := vtab tk51 6 rfl
theorem e51_13 (L : VL) (st : List Value) (h : VG) (x : Nat) : ev 51 13 (some (.ref x) :: L) (st) h = ev 51 14 (some (.ref x) :: L) (.ref x :: st) h := G_aload_n f51_13 rfl
theorem f51_14 : fetch 51 14 = some (.sipush 256, 3) := vtab tk51 7 rfl
theorem e51_14 (L : VL) (st : List Value) (h : VG) : ev 51 14 L (st) h = ev 51 17 L (.int (256 : Int32) :: st) h := G_sipush f51_14 (by decide)
theorem f51_17 : fetch 51 17 = some (.putfield 15, 3) := vtab tk51 8 rfl
theorem e51_17 (L : VL) (st : List Value) (h : VG) (a : Nat) (x : Int32) (ho : ob h a 5) : ev 51 17 L (.int x :: .ref a :: st) h = ev 51 20 L (st) (pI h a 1 x) := G_putI (p := 227) f51_17 lkF_6_15 (by decide) (by decide) (by decide +kernel) ⟨rfl, rfl⟩ ho
theorem f51_20 : fetch 51 20 = some (.return_, 1) := vtab tk51 9 rfl
theorem e51_20 (L : VL) (h : VG) : ev 51 20 L [] h = some (none, h) := G_vret f51_20 (by decide)
/-! 52 GuestCalls$Memory.begin()V -/
def tb52 : List (Nat × Instr × Nat) := [(0, .aload_n 0, 1), (1, .getfield 9, 3), (4, .iconst 0, 1), (5, .invokestatic 19, 3), (8, .aload_n 0, 1), (9, .sipush 256, 3), (12, .putfield 15, 3), (15, .aload_n 0, 1), (16, .iconst 0, 1), (17, .putfield 25, 3), (20, .return_, 1)]
theorem tk52 : tb52.all (fun q => decide (fetch 52 q.1 = some q.2)) = true := by decide +kernel
theorem f52_0 : fetch 52 0 = some (.aload_n 0, 1) := vtab tk52 0 rfl
theorem e52_0 (L : VL) (st : List Value) (h : VG) (x : Nat) : ev 52 0 (some (.ref x) :: L) (st) h = ev 52 1 (some (.ref x) :: L) (.ref x :: st) h := G_aload_n f52_0 rfl
theorem f52_1 : fetch 52 1 = some (.getfield 9, 3) := vtab tk52 1 rfl
theorem e52_1 (L : VL) (st : List Value) (h : VG) (a : Nat) (ho : ob h a 5) (hr : isR h a 0) : ev 52 1 L (.ref a :: st) h = ev 52 4 L (.ref (gR h a 0) :: st) h := G_getR (p := 224) f52_1 lkF_6_9 (by decide) (by decide) ho hr
theorem f52_4 : fetch 52 4 = some (.iconst 0, 1) := vtab tk52 2 rfl
theorem e52_4 (L : VL) (st : List Value) (h : VG) : ev 52 4 L (st) h = ev 52 5 L (.int (0 : Int32) :: st) h := G_iconst f52_4 (by decide)
theorem f52_5 : fetch 52 5 = some (.invokestatic 19, 3) := vtab tk52 3 rfl
theorem e52_5 (L : VL) (st : List Value) (h : VG) (x0 : Nat) (x1 : Int32) (hs : catS st ≤ 8) : ev 52 5 L (.int x1 :: .ref x0 :: st) h = (ev 239 0 [some (.ref x0), some (.int x1), none, none] [] h).bind fun q => ev 52 8 L (q.1.toList ++ st) q.2 := G_calls (k := 0) (p := 527) (ars := [.ref x0, .int x1]) f52_5 lkC_6_19 (by decide) (by decide +kernel) rfl (Nat.le_of_ble_eq_true rfl) hs rfl
theorem f52_8 : fetch 52 8 = some (.aload_n 0, 1) := vtab tk52 4 rfl
theorem e52_8 (L : VL) (st : List Value) (h : VG) (x : Nat) : ev 52 8 (some (.ref x) :: L) (st) h = ev 52 9 (some (.ref x) :: L) (.ref x :: st) h := G_aload_n f52_8 rfl
theorem f52_9 : fetch 52 9 = some (.sipush 256, 3) := vtab tk52 5 rfl
theorem e52_9 (L : VL) (st : List Value) (h : VG) : ev 52 9 L (st) h = ev 52 12 L (.int (256 : Int32) :: st) h := G_sipush f52_9 (by decide)
theorem f52_12 : fetch 52 12 = some (.putfield 15, 3) := vtab tk52 6 rfl
theorem e52_12 (L : VL) (st : List Value) (h : VG) (a : Nat) (x : Int32) (ho : ob h a 5) : ev 52 12 L (.int x :: .ref a :: st) h = ev 52 15 L (st) (pI h a 1 x) := G_putI (p := 227) f52_12 lkF_6_15 (by decide) (by decide) (by decide +kernel) ⟨rfl, rfl⟩ ho
theorem f52_15 : fetch 52 15 = some (.aload_n 0, 1) := vtab tk52 7 rfl
theorem e52_15 (L : VL) (st : List Value) (h : VG) (x : Nat) : ev 52 15 (some (.ref x) :: L) (st) h = ev 52 16 (some (.ref x) :: L) (.ref x :: st) h := G_aload_n f52_15 rfl
theorem f52_16 : fetch 52 16 = some (.iconst 0, 1) := vtab tk52 8 rfl
theorem e52_16 (L : VL) (st : List Value) (h : VG) : ev 52 16 L (st) h = ev 52 17 L (.int (0 : Int32) :: st) h := G_iconst f52_16 (by decide)
theorem f52_17 : fetch 52 17 = some (.putfield 25, 3) := vtab tk52 9 rfl
theorem e52_17 (L : VL) (st : List Value) (h : VG) (a : Nat) (x : Int32) (ho : ob h a 5) (hz : x = 0 ∨ x = 1) : ev 52 17 L (.int x :: .ref a :: st) h = ev 52 20 L (st) (pI h a 2 x) := G_putI (ci := 5) (p := 230) f52_17 lkF_6_25 (by decide) (by decide) (by decide +kernel) (vbool hz) ho
theorem f52_20 : fetch 52 20 = some (.return_, 1) := vtab tk52 10 rfl
theorem e52_20 (L : VL) (h : VG) : ev 52 20 L [] h = some (none, h) := G_vret f52_20 (by decide)
/-! 53 GuestCalls$Memory.become(LGuestCalls$Memory;)V -/
def tb53 : List (Nat × Instr × Nat) := [(0, .aload_n 1, 1), (1, .getfield 9, 3), (4, .iconst 0, 1), (5, .aload_n 0, 1), (6, .getfield 9, 3), (9, .iconst 0, 1), (10, .sipush 256, 3), (13, .invokestatic 29, 3), (16, .aload_n 0, 1), (17, .aload_n 1, 1), (18, .getfield 15, 3), (21, .putfield 15, 3), (24, .aload_n 0, 1), (25, .aload_n 1, 1), (26, .getfield 25, 3), (29, .putfield 25, 3), (32, .return_, 1)]
theorem tk53 : tb53.all (fun q => decide (fetch 53 q.1 = some q.2)) = true := by decide +kernel
theorem f53_0 : fetch 53 0 = some (.aload_n 1, 1) := vtab tk53 0 rfl
theorem e53_0 (l0 : Option Value) (L : VL) (st : List Value) (h : VG) (x : Nat) : ev 53 0 (l0 :: some (.ref x) :: L) (st) h = ev 53 1 (l0 :: some (.ref x) :: L) (.ref x :: st) h := G_aload_n f53_0 rfl
theorem f53_1 : fetch 53 1 = some (.getfield 9, 3) := vtab tk53 1 rfl
theorem e53_1 (L : VL) (st : List Value) (h : VG) (a : Nat) (ho : ob h a 5) (hr : isR h a 0) : ev 53 1 L (.ref a :: st) h = ev 53 4 L (.ref (gR h a 0) :: st) h := G_getR (p := 224) f53_1 lkF_6_9 (by decide) (by decide) ho hr
theorem f53_4 : fetch 53 4 = some (.iconst 0, 1) := vtab tk53 2 rfl
theorem e53_4 (L : VL) (st : List Value) (h : VG) : ev 53 4 L (st) h = ev 53 5 L (.int (0 : Int32) :: st) h := G_iconst f53_4 (by decide)
theorem f53_5 : fetch 53 5 = some (.aload_n 0, 1) := vtab tk53 3 rfl
theorem e53_5 (L : VL) (st : List Value) (h : VG) (x : Nat) : ev 53 5 (some (.ref x) :: L) (st) h = ev 53 6 (some (.ref x) :: L) (.ref x :: st) h := G_aload_n f53_5 rfl
theorem f53_6 : fetch 53 6 = some (.getfield 9, 3) := vtab tk53 4 rfl
theorem e53_6 (L : VL) (st : List Value) (h : VG) (a : Nat) (ho : ob h a 5) (hr : isR h a 0) : ev 53 6 L (.ref a :: st) h = ev 53 9 L (.ref (gR h a 0) :: st) h := G_getR (p := 224) f53_6 lkF_6_9 (by decide) (by decide) ho hr
theorem f53_9 : fetch 53 9 = some (.iconst 0, 1) := vtab tk53 5 rfl
theorem e53_9 (L : VL) (st : List Value) (h : VG) : ev 53 9 L (st) h = ev 53 10 L (.int (0 : Int32) :: st) h := G_iconst f53_9 (by decide)
theorem f53_10 : fetch 53 10 = some (.sipush 256, 3) := vtab tk53 6 rfl
theorem e53_10 (L : VL) (st : List Value) (h : VG) : ev 53 10 L (st) h = ev 53 13 L (.int (256 : Int32) :: st) h := G_sipush f53_10 (by decide)
theorem f53_13 : fetch 53 13 = some (.invokestatic 29, 3) := vtab tk53 7 rfl
theorem e53_13 (L : VL) (st : List Value) (h : VG) (s d : Nat) (sp dp n : Int32) (h1 : VG) (hs : catS st ≤ 8) (hc : vcopy h s d sp dp n = some h1) : ev 53 13 L (.int n :: .int dp :: .ref d :: .int sp :: .ref s :: st) h = ev 53 16 L (st) h1 := G_copy (q := 0) (p := 639) f53_13 lkC_6_29 hs hc
theorem f53_16 : fetch 53 16 = some (.aload_n 0, 1) := vtab tk53 8 rfl
theorem e53_16 (L : VL) (st : List Value) (h : VG) (x : Nat) : ev 53 16 (some (.ref x) :: L) (st) h = ev 53 17 (some (.ref x) :: L) (.ref x :: st) h := G_aload_n f53_16 rfl
theorem f53_17 : fetch 53 17 = some (.aload_n 1, 1) := vtab tk53 9 rfl
theorem e53_17 (l0 : Option Value) (L : VL) (st : List Value) (h : VG) (x : Nat) : ev 53 17 (l0 :: some (.ref x) :: L) (st) h = ev 53 18 (l0 :: some (.ref x) :: L) (.ref x :: st) h := G_aload_n f53_17 rfl
theorem f53_18 : fetch 53 18 = some (.getfield 15, 3) := vtab tk53 10 rfl
theorem e53_18 (L : VL) (st : List Value) (h : VG) (a : Nat) (ho : ob h a 5) : ev 53 18 L (.ref a :: st) h = ev 53 21 L (.int (gI h a 1) :: st) h := G_getI (p := 227) f53_18 lkF_6_15 (by decide) (by decide) ho
theorem f53_21 : fetch 53 21 = some (.putfield 15, 3) := vtab tk53 11 rfl
theorem e53_21 (L : VL) (st : List Value) (h : VG) (a : Nat) (x : Int32) (ho : ob h a 5) : ev 53 21 L (.int x :: .ref a :: st) h = ev 53 24 L (st) (pI h a 1 x) := G_putI (p := 227) f53_21 lkF_6_15 (by decide) (by decide) (by decide +kernel) ⟨rfl, rfl⟩ ho
theorem f53_24 : fetch 53 24 = some (.aload_n 0, 1) := vtab tk53 12 rfl
theorem e53_24 (L : VL) (st : List Value) (h : VG) (x : Nat) : ev 53 24 (some (.ref x) :: L) (st) h = ev 53 25 (some (.ref x) :: L) (.ref x :: st) h := G_aload_n f53_24 rfl
theorem f53_25 : fetch 53 25 = some (.aload_n 1, 1) := vtab tk53 13 rfl
theorem e53_25 (l0 : Option Value) (L : VL) (st : List Value) (h : VG) (x : Nat) : ev 53 25 (l0 :: some (.ref x) :: L) (st) h = ev 53 26 (l0 :: some (.ref x) :: L) (.ref x :: st) h := G_aload_n f53_25 rfl
theorem f53_26 : fetch 53 26 = some (.getfield 25, 3) := vtab tk53 14 rfl
theorem e53_26 (L : VL) (st : List Value) (h : VG) (a : Nat) (ho : ob h a 5) : ev 53 26 L (.ref a :: st) h = ev 53 29 L (.int (gI h a 2) :: st) h := G_getI (p := 230) f53_26 lkF_6_25 (by decide) (by decide) ho
theorem f53_29 : fetch 53 29 = some (.putfield 25, 3) := vtab tk53 15 rfl
theorem e53_29 (L : VL) (st : List Value) (h : VG) (a : Nat) (x : Int32) (ho : ob h a 5) (hz : x = 0 ∨ x = 1) : ev 53 29 L (.int x :: .ref a :: st) h = ev 53 32 L (st) (pI h a 2 x) := G_putI (ci := 5) (p := 230) f53_29 lkF_6_25 (by decide) (by decide) (by decide +kernel) (vbool hz) ho
theorem f53_32 : fetch 53 32 = some (.return_, 1) := vtab tk53 16 rfl
theorem e53_32 (L : VL) (h : VG) : ev 53 32 L [] h = some (none, h) := G_vret f53_32 (by decide)
/-! 54 GuestCalls$Memory.refusalOf(JI)I -/
def tb54 : List (Nat × Instr × Nat) := [(0, .iload_n 3, 1), (1, .ifCond .eq 22, 3), (4, .lload_n 1, 1), (5, .lconst 0, 1), (6, .lcmp, 1), (7, .ifCond .lt 20, 3), (10, .lload_n 1, 1), (11, .iload_n 3, 1), (12, .i2l, 1), (13, .ladd, 1), (14, .aload_n 0, 1), (15, .getfield 15, 3), (18, .i2l, 1), (19, .lcmp, 1), (20, .ifCond .gt 7, 3), (23, .iconst 0, 1), (24, .goto 4, 3), (27, .iconst 5, 1), (28, .ireturn, 1)]
theorem tk54 : tb54.all (fun q => decide (fetch 54 q.1 = some q.2)) = true := by decide +kernel
theorem f54_0 : fetch 54 0 = some (.iload_n 3, 1) := vtab tk54 0 rfl
theorem e54_0 (l0 l1 l2 : Option Value) (L : VL) (st : List Value) (h : VG) (x : Int32) : ev 54 0 (l0 :: l1 :: l2 :: some (.int x) :: L) (st) h = ev 54 1 (l0 :: l1 :: l2 :: some (.int x) :: L) (.int x :: st) h := G_iload_n f54_0 rfl
theorem f54_1 : fetch 54 1 = some (.ifCond .eq 22, 3) := vtab tk54 1 rfl
theorem e54_1 (L : VL) (st : List Value) (h : VG) (x : Int32) : ev 54 1 L (.int x :: st) h = if x = 0 then ev 54 23 L st h else ev 54 4 L st h := G_if_eq f54_1 (by decide)
theorem f54_4 : fetch 54 4 = some (.lload_n 1, 1) := vtab tk54 2 rfl
theorem e54_4 (l0 : Option Value) (L : VL) (st : List Value) (h : VG) (x : Int64) : ev 54 4 (l0 :: some (.long x) :: L) (st) h = ev 54 5 (l0 :: some (.long x) :: L) (.long x :: st) h := G_lload_n f54_4 rfl
theorem f54_5 : fetch 54 5 = some (.lconst 0, 1) := vtab tk54 3 rfl
theorem e54_5 (L : VL) (st : List Value) (h : VG) : ev 54 5 L (st) h = ev 54 6 L (.long 0 :: st) h := G_lconst f54_5 (by decide)
theorem f54_6 : fetch 54 6 = some (.lcmp, 1) := vtab tk54 4 rfl
theorem e54_6 (L : VL) (st : List Value) (h : VG) (x y : Int64) : ev 54 6 L (.long y :: .long x :: st) h = ev 54 7 L (.int (lg_cmp x y) :: st) h := G_lcmp f54_6
theorem f54_7 : fetch 54 7 = some (.ifCond .lt 20, 3) := vtab tk54 5 rfl
theorem e54_7 (L : VL) (st : List Value) (h : VG) (x : Int32) : ev 54 7 L (.int x :: st) h = if x < 0 then ev 54 27 L st h else ev 54 10 L st h := G_if_lt f54_7 (by decide)
theorem f54_10 : fetch 54 10 = some (.lload_n 1, 1) := vtab tk54 6 rfl
theorem e54_10 (l0 : Option Value) (L : VL) (st : List Value) (h : VG) (x : Int64) : ev 54 10 (l0 :: some (.long x) :: L) (st) h = ev 54 11 (l0 :: some (.long x) :: L) (.long x :: st) h := G_lload_n f54_10 rfl
theorem f54_11 : fetch 54 11 = some (.iload_n 3, 1) := vtab tk54 7 rfl
theorem e54_11 (l0 l1 l2 : Option Value) (L : VL) (st : List Value) (h : VG) (x : Int32) : ev 54 11 (l0 :: l1 :: l2 :: some (.int x) :: L) (st) h = ev 54 12 (l0 :: l1 :: l2 :: some (.int x) :: L) (.int x :: st) h := G_iload_n f54_11 rfl
theorem f54_12 : fetch 54 12 = some (.i2l, 1) := vtab tk54 8 rfl
theorem e54_12 (L : VL) (st : List Value) (h : VG) (x : Int32) : ev 54 12 L (.int x :: st) h = ev 54 13 L (.long x.toInt64 :: st) h := G_i2l f54_12
theorem f54_13 : fetch 54 13 = some (.ladd, 1) := vtab tk54 9 rfl
theorem e54_13 (L : VL) (st : List Value) (h : VG) (x y : Int64) : ev 54 13 L (.long y :: .long x :: st) h = ev 54 14 L (.long (x + y) :: st) h := G_ladd f54_13
theorem f54_14 : fetch 54 14 = some (.aload_n 0, 1) := vtab tk54 10 rfl
theorem e54_14 (L : VL) (st : List Value) (h : VG) (x : Nat) : ev 54 14 (some (.ref x) :: L) (st) h = ev 54 15 (some (.ref x) :: L) (.ref x :: st) h := G_aload_n f54_14 rfl
theorem f54_15 : fetch 54 15 = some (.getfield 15, 3) := vtab tk54 11 rfl
theorem e54_15 (L : VL) (st : List Value) (h : VG) (a : Nat) (ho : ob h a 5) : ev 54 15 L (.ref a :: st) h = ev 54 18 L (.int (gI h a 1) :: st) h := G_getI (p := 227) f54_15 lkF_6_15 (by decide) (by decide) ho
theorem f54_18 : fetch 54 18 = some (.i2l, 1) := vtab tk54 12 rfl
theorem e54_18 (L : VL) (st : List Value) (h : VG) (x : Int32) : ev 54 18 L (.int x :: st) h = ev 54 19 L (.long x.toInt64 :: st) h := G_i2l f54_18
theorem f54_19 : fetch 54 19 = some (.lcmp, 1) := vtab tk54 13 rfl
theorem e54_19 (L : VL) (st : List Value) (h : VG) (x y : Int64) : ev 54 19 L (.long y :: .long x :: st) h = ev 54 20 L (.int (lg_cmp x y) :: st) h := G_lcmp f54_19
theorem f54_20 : fetch 54 20 = some (.ifCond .gt 7, 3) := vtab tk54 14 rfl
theorem e54_20 (L : VL) (st : List Value) (h : VG) (x : Int32) : ev 54 20 L (.int x :: st) h = if x ≤ 0 then ev 54 23 L st h else ev 54 27 L st h := G_if_gt f54_20 (by decide)
theorem f54_23 : fetch 54 23 = some (.iconst 0, 1) := vtab tk54 15 rfl
theorem e54_23 (L : VL) (st : List Value) (h : VG) : ev 54 23 L (st) h = ev 54 24 L (.int (0 : Int32) :: st) h := G_iconst f54_23 (by decide)
theorem f54_24 : fetch 54 24 = some (.goto 4, 3) := vtab tk54 16 rfl
theorem e54_24 (L : VL) (st : List Value) (h : VG) : ev 54 24 L (st) h = ev 54 28 L (st) h := G_goto f54_24 (by decide)
theorem f54_27 : fetch 54 27 = some (.iconst 5, 1) := vtab tk54 17 rfl
theorem e54_27 (L : VL) (st : List Value) (h : VG) : ev 54 27 L (st) h = ev 54 28 L (.int (5 : Int32) :: st) h := G_iconst f54_27 (by decide)
theorem f54_28 : fetch 54 28 = some (.ireturn, 1) := vtab tk54 18 rfl
theorem e54_28 (L : VL) (h : VG) (x : Int32) : ev 54 28 L [.int x] h = some (some (.int x), h) := G_iret f54_28 (ty := .int) (by decide) rfl
/-! 55 GuestCalls$Memory.fitRefusal(IJ)I -/
def tb55 : List (Nat × Instr × Nat) := [(0, .iload_n 1, 1), (1, .iconst 5, 1), (2, .if_icmp .ne 10, 3), (5, .lload_n 2, 1), (6, .invokestatic 35, 3), (9, .ifCond .eq 25, 3), (12, .iload_n 1, 1), (13, .bipush 9, 2), (15, .if_icmp .ne 23, 3), (18, .lload_n 2, 1), (19, .lconst 0, 1), (20, .lcmp, 1), (21, .ifCond .lt 13, 3), (24, .lload_n 2, 1), (25, .aload_n 0, 1), (26, .getfield 15, 3), (29, .i2l, 1), (30, .lcmp, 1), (31, .ifCond .le 7, 3), (34, .iconst 1, 1), (35, .goto 4, 3), (38, .iconst 0, 1), (39, .istore 4, 2), (41, .iload 4, 2), (43, .ifCond .eq 8, 3), (46, .bipush 6, 2), (48, .goto 4, 3), (51, .iconst 0, 1), (52, .ireturn, 1)]
theorem tk55 : tb55.all (fun q => decide (fetch 55 q.1 = some q.2)) = true := by decide +kernel
theorem f55_0 : fetch 55 0 = some (.iload_n 1, 1) := vtab tk55 0 rfl
theorem e55_0 (l0 : Option Value) (L : VL) (st : List Value) (h : VG) (x : Int32) : ev 55 0 (l0 :: some (.int x) :: L) (st) h = ev 55 1 (l0 :: some (.int x) :: L) (.int x :: st) h := G_iload_n f55_0 rfl
theorem f55_1 : fetch 55 1 = some (.iconst 5, 1) := vtab tk55 1 rfl
theorem e55_1 (L : VL) (st : List Value) (h : VG) : ev 55 1 L (st) h = ev 55 2 L (.int (5 : Int32) :: st) h := G_iconst f55_1 (by decide)
theorem f55_2 : fetch 55 2 = some (.if_icmp .ne 10, 3) := vtab tk55 2 rfl
theorem e55_2 (L : VL) (st : List Value) (h : VG) (x y : Int32) : ev 55 2 L (.int y :: .int x :: st) h = if x = y then ev 55 5 L st h else ev 55 12 L st h := G_icmp_ne f55_2 (by decide)
theorem f55_5 : fetch 55 5 = some (.lload_n 2, 1) := vtab tk55 3 rfl
theorem e55_5 (l0 l1 : Option Value) (L : VL) (st : List Value) (h : VG) (x : Int64) : ev 55 5 (l0 :: l1 :: some (.long x) :: L) (st) h = ev 55 6 (l0 :: l1 :: some (.long x) :: L) (.long x :: st) h := G_lload_n f55_5 rfl
theorem f55_6 : fetch 55 6 = some (.invokestatic 35, 3) := vtab tk55 4 rfl
theorem e55_6 (L : VL) (st : List Value) (h : VG) (x0 : Int64) (hs : catS st ≤ 8) : ev 55 6 L (.long x0 :: st) h = (ev 35 0 [some (.long x0), none] [] h).bind fun q => ev 55 9 L (q.1.toList ++ st) q.2 := G_calls (k := 0) (p := 896) (ars := [.long x0]) f55_6 lkC_6_35 (by decide) (by decide +kernel) rfl (Nat.le_of_ble_eq_true rfl) hs rfl
theorem f55_9 : fetch 55 9 = some (.ifCond .eq 25, 3) := vtab tk55 5 rfl
theorem e55_9 (L : VL) (st : List Value) (h : VG) (x : Int32) : ev 55 9 L (.int x :: st) h = if x = 0 then ev 55 34 L st h else ev 55 12 L st h := G_if_eq f55_9 (by decide)
theorem f55_12 : fetch 55 12 = some (.iload_n 1, 1) := vtab tk55 6 rfl
theorem e55_12 (l0 : Option Value) (L : VL) (st : List Value) (h : VG) (x : Int32) : ev 55 12 (l0 :: some (.int x) :: L) (st) h = ev 55 13 (l0 :: some (.int x) :: L) (.int x :: st) h := G_iload_n f55_12 rfl
theorem f55_13 : fetch 55 13 = some (.bipush 9, 2) := vtab tk55 7 rfl
theorem e55_13 (L : VL) (st : List Value) (h : VG) : ev 55 13 L (st) h = ev 55 15 L (.int (9 : Int32) :: st) h := G_bipush f55_13 (by decide)
theorem f55_15 : fetch 55 15 = some (.if_icmp .ne 23, 3) := vtab tk55 8 rfl
theorem e55_15 (L : VL) (st : List Value) (h : VG) (x y : Int32) : ev 55 15 L (.int y :: .int x :: st) h = if x = y then ev 55 18 L st h else ev 55 38 L st h := G_icmp_ne f55_15 (by decide)
theorem f55_18 : fetch 55 18 = some (.lload_n 2, 1) := vtab tk55 9 rfl
theorem e55_18 (l0 l1 : Option Value) (L : VL) (st : List Value) (h : VG) (x : Int64) : ev 55 18 (l0 :: l1 :: some (.long x) :: L) (st) h = ev 55 19 (l0 :: l1 :: some (.long x) :: L) (.long x :: st) h := G_lload_n f55_18 rfl
theorem f55_19 : fetch 55 19 = some (.lconst 0, 1) := vtab tk55 10 rfl
theorem e55_19 (L : VL) (st : List Value) (h : VG) : ev 55 19 L (st) h = ev 55 20 L (.long 0 :: st) h := G_lconst f55_19 (by decide)
theorem f55_20 : fetch 55 20 = some (.lcmp, 1) := vtab tk55 11 rfl
theorem e55_20 (L : VL) (st : List Value) (h : VG) (x y : Int64) : ev 55 20 L (.long y :: .long x :: st) h = ev 55 21 L (.int (lg_cmp x y) :: st) h := G_lcmp f55_20
theorem f55_21 : fetch 55 21 = some (.ifCond .lt 13, 3) := vtab tk55 12 rfl
theorem e55_21 (L : VL) (st : List Value) (h : VG) (x : Int32) : ev 55 21 L (.int x :: st) h = if x < 0 then ev 55 34 L st h else ev 55 24 L st h := G_if_lt f55_21 (by decide)
theorem f55_24 : fetch 55 24 = some (.lload_n 2, 1) := vtab tk55 13 rfl
theorem e55_24 (l0 l1 : Option Value) (L : VL) (st : List Value) (h : VG) (x : Int64) : ev 55 24 (l0 :: l1 :: some (.long x) :: L) (st) h = ev 55 25 (l0 :: l1 :: some (.long x) :: L) (.long x :: st) h := G_lload_n f55_24 rfl
theorem f55_25 : fetch 55 25 = some (.aload_n 0, 1) := vtab tk55 14 rfl
theorem e55_25 (L : VL) (st : List Value) (h : VG) (x : Nat) : ev 55 25 (some (.ref x) :: L) (st) h = ev 55 26 (some (.ref x) :: L) (.ref x :: st) h := G_aload_n f55_25 rfl
theorem f55_26 : fetch 55 26 = some (.getfield 15, 3) := vtab tk55 15 rfl
theorem e55_26 (L : VL) (st : List Value) (h : VG) (a : Nat) (ho : ob h a 5) : ev 55 26 L (.ref a :: st) h = ev 55 29 L (.int (gI h a 1) :: st) h := G_getI (p := 227) f55_26 lkF_6_15 (by decide) (by decide) ho
theorem f55_29 : fetch 55 29 = some (.i2l, 1) := vtab tk55 16 rfl
theorem e55_29 (L : VL) (st : List Value) (h : VG) (x : Int32) : ev 55 29 L (.int x :: st) h = ev 55 30 L (.long x.toInt64 :: st) h := G_i2l f55_29
theorem f55_30 : fetch 55 30 = some (.lcmp, 1) := vtab tk55 17 rfl
theorem e55_30 (L : VL) (st : List Value) (h : VG) (x y : Int64) : ev 55 30 L (.long y :: .long x :: st) h = ev 55 31 L (.int (lg_cmp x y) :: st) h := G_lcmp f55_30
theorem f55_31 : fetch 55 31 = some (.ifCond .le 7, 3) := vtab tk55 18 rfl
theorem e55_31 (L : VL) (st : List Value) (h : VG) (x : Int32) : ev 55 31 L (.int x :: st) h = if x ≤ 0 then ev 55 38 L st h else ev 55 34 L st h := G_if_le f55_31 (by decide)
theorem f55_34 : fetch 55 34 = some (.iconst 1, 1) := vtab tk55 19 rfl
theorem e55_34 (L : VL) (st : List Value) (h : VG) : ev 55 34 L (st) h = ev 55 35 L (.int (1 : Int32) :: st) h := G_iconst f55_34 (by decide)
theorem f55_35 : fetch 55 35 = some (.goto 4, 3) := vtab tk55 20 rfl
theorem e55_35 (L : VL) (st : List Value) (h : VG) : ev 55 35 L (st) h = ev 55 39 L (st) h := G_goto f55_35 (by decide)
theorem f55_38 : fetch 55 38 = some (.iconst 0, 1) := vtab tk55 21 rfl
theorem e55_38 (L : VL) (st : List Value) (h : VG) : ev 55 38 L (st) h = ev 55 39 L (.int (0 : Int32) :: st) h := G_iconst f55_38 (by decide)
theorem f55_39 : fetch 55 39 = some (.istore 4, 2) := vtab tk55 22 rfl
theorem e55_39 (l0 l1 l2 l3 l4 : Option Value) (L : VL) (st : List Value) (h : VG) (x : Int32) : ev 55 39 (l0 :: l1 :: l2 :: l3 :: l4 :: L) (.int x :: st) h = ev 55 41 (l0 :: l1 :: l2 :: vkk l3 :: some (.int x) :: L) (st) h := G_istore f55_39 rfl (S1_4 l0 l1 l2 l3 l4 L _)
theorem f55_41 : fetch 55 41 = some (.iload 4, 2) := vtab tk55 23 rfl
theorem e55_41 (l0 l1 l2 l3 : Option Value) (L : VL) (st : List Value) (h : VG) (x : Int32) : ev 55 41 (l0 :: l1 :: l2 :: l3 :: some (.int x) :: L) (st) h = ev 55 43 (l0 :: l1 :: l2 :: l3 :: some (.int x) :: L) (.int x :: st) h := G_iload f55_41 rfl
theorem f55_43 : fetch 55 43 = some (.ifCond .eq 8, 3) := vtab tk55 24 rfl
theorem e55_43 (L : VL) (st : List Value) (h : VG) (x : Int32) : ev 55 43 L (.int x :: st) h = if x = 0 then ev 55 51 L st h else ev 55 46 L st h := G_if_eq f55_43 (by decide)
theorem f55_46 : fetch 55 46 = some (.bipush 6, 2) := vtab tk55 25 rfl
theorem e55_46 (L : VL) (st : List Value) (h : VG) : ev 55 46 L (st) h = ev 55 48 L (.int (6 : Int32) :: st) h := G_bipush f55_46 (by decide)
theorem f55_48 : fetch 55 48 = some (.goto 4, 3) := vtab tk55 26 rfl
theorem e55_48 (L : VL) (st : List Value) (h : VG) : ev 55 48 L (st) h = ev 55 52 L (st) h := G_goto f55_48 (by decide)
theorem f55_51 : fetch 55 51 = some (.iconst 0, 1) := vtab tk55 27 rfl
theorem e55_51 (L : VL) (st : List Value) (h : VG) : ev 55 51 L (st) h = ev 55 52 L (.int (0 : Int32) :: st) h := G_iconst f55_51 (by decide)
theorem f55_52 : fetch 55 52 = some (.ireturn, 1) := vtab tk55 28 rfl
theorem e55_52 (L : VL) (h : VG) (x : Int32) : ev 55 52 L [.int x] h = some (some (.int x), h) := G_iret f55_52 (ty := .int) (by decide) rfl
/-! 56 GuestCalls$Memory.cellAt(IIZ)J -/
def tb56 : List (Nat × Instr × Nat) := [(0, .iload_n 2, 1), (1, .iload_n 3, 1), (2, .invokestatic 41, 3), (5, .istore 4, 2), (7, .lconst 0, 1), (8, .lstore 5, 2), (10, .iconst 0, 1), (11, .istore 7, 2), (13, .iload 7, 2), (15, .iload 4, 2), (17, .if_icmp .ge 54, 3), (20, .aload_n 0, 1), (21, .getfield 25, 3), (24, .ifCond .eq 10, 3), (27, .iload_n 1, 1), (28, .iload 7, 2), (30, .iadd, 1), (31, .goto 12, 3), (34, .iload_n 1, 1), (35, .iload 4, 2), (37, .iadd, 1), (38, .iconst 1, 1), (39, .isub, 1), (40, .iload 7, 2), (42, .isub, 1), (43, .istore 8, 2), (45, .lload 5, 2), (47, .bipush 8, 2), (49, .lshl, 1), (50, .aload_n 0, 1), (51, .getfield 9, 3), (54, .iload 8, 2), (56, .baload, 1), (57, .sipush 255, 3), (60, .iand, 1), (61, .i2l, 1), (62, .lor, 1), (63, .lstore 5, 2), (65, .iinc 7 1, 3), (68, .goto (-55), 3), (71, .iload_n 2, 1), (72, .lload 5, 2), (74, .iload 4, 2), (76, .invokestatic 45, 3), (79, .lreturn, 1)]
theorem tk56 : tb56.all (fun q => decide (fetch 56 q.1 = some q.2)) = true := by decide +kernel
theorem f56_0 : fetch 56 0 = some (.iload_n 2, 1) := vtab tk56 0 rfl
theorem e56_0 (l0 l1 : Option Value) (L : VL) (st : List Value) (h : VG) (x : Int32) : ev 56 0 (l0 :: l1 :: some (.int x) :: L) (st) h = ev 56 1 (l0 :: l1 :: some (.int x) :: L) (.int x :: st) h := G_iload_n f56_0 rfl
theorem f56_1 : fetch 56 1 = some (.iload_n 3, 1) := vtab tk56 1 rfl
theorem e56_1 (l0 l1 l2 : Option Value) (L : VL) (st : List Value) (h : VG) (x : Int32) : ev 56 1 (l0 :: l1 :: l2 :: some (.int x) :: L) (st) h = ev 56 2 (l0 :: l1 :: l2 :: some (.int x) :: L) (.int x :: st) h := G_iload_n f56_1 rfl
theorem f56_2 : fetch 56 2 = some (.invokestatic 41, 3) := vtab tk56 2 rfl
theorem e56_2 (L : VL) (st : List Value) (h : VG) (x0 : Int32) (x1 : Int32) (hs : catS st ≤ 8) : ev 56 2 L (.int x1 :: .int x0 :: st) h = (ev 30 0 [some (.int x0), some (.int x1)] [] h).bind fun q => ev 56 5 L (q.1.toList ++ st) q.2 := G_calls (k := 0) (p := 872) (ars := [.int x0, .int x1]) f56_2 lkC_6_41 (by decide) (by decide +kernel) rfl (Nat.le_of_ble_eq_true rfl) hs rfl
theorem f56_5 : fetch 56 5 = some (.istore 4, 2) := vtab tk56 3 rfl
theorem e56_5 (l0 l1 l2 l3 l4 : Option Value) (L : VL) (st : List Value) (h : VG) (x : Int32) : ev 56 5 (l0 :: l1 :: l2 :: l3 :: l4 :: L) (.int x :: st) h = ev 56 7 (l0 :: l1 :: l2 :: vkk l3 :: some (.int x) :: L) (st) h := G_istore f56_5 rfl (S1_4 l0 l1 l2 l3 l4 L _)
theorem f56_7 : fetch 56 7 = some (.lconst 0, 1) := vtab tk56 4 rfl
theorem e56_7 (L : VL) (st : List Value) (h : VG) : ev 56 7 L (st) h = ev 56 8 L (.long 0 :: st) h := G_lconst f56_7 (by decide)
theorem f56_8 : fetch 56 8 = some (.lstore 5, 2) := vtab tk56 5 rfl
theorem e56_8 (l0 l1 l2 l3 l4 l5 l6 : Option Value) (L : VL) (st : List Value) (h : VG) (x : Int64) : ev 56 8 (l0 :: l1 :: l2 :: l3 :: l4 :: l5 :: l6 :: L) (.long x :: st) h = ev 56 10 (l0 :: l1 :: l2 :: l3 :: vkk l4 :: some (.long x) :: none :: L) (st) h := G_lstore f56_8 rfl (S2_5 l0 l1 l2 l3 l4 l5 l6 L _)
theorem f56_10 : fetch 56 10 = some (.iconst 0, 1) := vtab tk56 6 rfl
theorem e56_10 (L : VL) (st : List Value) (h : VG) : ev 56 10 L (st) h = ev 56 11 L (.int (0 : Int32) :: st) h := G_iconst f56_10 (by decide)
theorem f56_11 : fetch 56 11 = some (.istore 7, 2) := vtab tk56 7 rfl
theorem e56_11 (l0 l1 l2 l3 l4 l5 l6 l7 : Option Value) (L : VL) (st : List Value) (h : VG) (x : Int32) : ev 56 11 (l0 :: l1 :: l2 :: l3 :: l4 :: l5 :: l6 :: l7 :: L) (.int x :: st) h = ev 56 13 (l0 :: l1 :: l2 :: l3 :: l4 :: l5 :: vkk l6 :: some (.int x) :: L) (st) h := G_istore f56_11 rfl (S1_7 l0 l1 l2 l3 l4 l5 l6 l7 L _)
theorem f56_13 : fetch 56 13 = some (.iload 7, 2) := vtab tk56 8 rfl
theorem e56_13 (l0 l1 l2 l3 l4 l5 l6 : Option Value) (L : VL) (st : List Value) (h : VG) (x : Int32) : ev 56 13 (l0 :: l1 :: l2 :: l3 :: l4 :: l5 :: l6 :: some (.int x) :: L) (st) h = ev 56 15 (l0 :: l1 :: l2 :: l3 :: l4 :: l5 :: l6 :: some (.int x) :: L) (.int x :: st) h := G_iload f56_13 rfl
theorem f56_15 : fetch 56 15 = some (.iload 4, 2) := vtab tk56 9 rfl
theorem e56_15 (l0 l1 l2 l3 : Option Value) (L : VL) (st : List Value) (h : VG) (x : Int32) : ev 56 15 (l0 :: l1 :: l2 :: l3 :: some (.int x) :: L) (st) h = ev 56 17 (l0 :: l1 :: l2 :: l3 :: some (.int x) :: L) (.int x :: st) h := G_iload f56_15 rfl
theorem f56_17 : fetch 56 17 = some (.if_icmp .ge 54, 3) := vtab tk56 10 rfl
theorem e56_17 (L : VL) (st : List Value) (h : VG) (x y : Int32) : ev 56 17 L (.int y :: .int x :: st) h = if x < y then ev 56 20 L st h else ev 56 71 L st h := G_icmp_ge f56_17 (by decide)
theorem f56_20 : fetch 56 20 = some (.aload_n 0, 1) := vtab tk56 11 rfl
theorem e56_20 (L : VL) (st : List Value) (h : VG) (x : Nat) : ev 56 20 (some (.ref x) :: L) (st) h = ev 56 21 (some (.ref x) :: L) (.ref x :: st) h := G_aload_n f56_20 rfl
theorem f56_21 : fetch 56 21 = some (.getfield 25, 3) := vtab tk56 12 rfl
theorem e56_21 (L : VL) (st : List Value) (h : VG) (a : Nat) (ho : ob h a 5) : ev 56 21 L (.ref a :: st) h = ev 56 24 L (.int (gI h a 2) :: st) h := G_getI (p := 230) f56_21 lkF_6_25 (by decide) (by decide) ho
theorem f56_24 : fetch 56 24 = some (.ifCond .eq 10, 3) := vtab tk56 13 rfl
theorem e56_24 (L : VL) (st : List Value) (h : VG) (x : Int32) : ev 56 24 L (.int x :: st) h = if x = 0 then ev 56 34 L st h else ev 56 27 L st h := G_if_eq f56_24 (by decide)
theorem f56_27 : fetch 56 27 = some (.iload_n 1, 1) := vtab tk56 14 rfl
theorem e56_27 (l0 : Option Value) (L : VL) (st : List Value) (h : VG) (x : Int32) : ev 56 27 (l0 :: some (.int x) :: L) (st) h = ev 56 28 (l0 :: some (.int x) :: L) (.int x :: st) h := G_iload_n f56_27 rfl
theorem f56_28 : fetch 56 28 = some (.iload 7, 2) := vtab tk56 15 rfl
theorem e56_28 (l0 l1 l2 l3 l4 l5 l6 : Option Value) (L : VL) (st : List Value) (h : VG) (x : Int32) : ev 56 28 (l0 :: l1 :: l2 :: l3 :: l4 :: l5 :: l6 :: some (.int x) :: L) (st) h = ev 56 30 (l0 :: l1 :: l2 :: l3 :: l4 :: l5 :: l6 :: some (.int x) :: L) (.int x :: st) h := G_iload f56_28 rfl
theorem f56_30 : fetch 56 30 = some (.iadd, 1) := vtab tk56 16 rfl
theorem e56_30 (L : VL) (st : List Value) (h : VG) (x y : Int32) : ev 56 30 L (.int y :: .int x :: st) h = ev 56 31 L (.int (x + y) :: st) h := G_iadd f56_30
theorem f56_31 : fetch 56 31 = some (.goto 12, 3) := vtab tk56 17 rfl
theorem e56_31 (L : VL) (st : List Value) (h : VG) : ev 56 31 L (st) h = ev 56 43 L (st) h := G_goto f56_31 (by decide)
theorem f56_34 : fetch 56 34 = some (.iload_n 1, 1) := vtab tk56 18 rfl
theorem e56_34 (l0 : Option Value) (L : VL) (st : List Value) (h : VG) (x : Int32) : ev 56 34 (l0 :: some (.int x) :: L) (st) h = ev 56 35 (l0 :: some (.int x) :: L) (.int x :: st) h := G_iload_n f56_34 rfl
theorem f56_35 : fetch 56 35 = some (.iload 4, 2) := vtab tk56 19 rfl
theorem e56_35 (l0 l1 l2 l3 : Option Value) (L : VL) (st : List Value) (h : VG) (x : Int32) : ev 56 35 (l0 :: l1 :: l2 :: l3 :: some (.int x) :: L) (st) h = ev 56 37 (l0 :: l1 :: l2 :: l3 :: some (.int x) :: L) (.int x :: st) h := G_iload f56_35 rfl
theorem f56_37 : fetch 56 37 = some (.iadd, 1) := vtab tk56 20 rfl
theorem e56_37 (L : VL) (st : List Value) (h : VG) (x y : Int32) : ev 56 37 L (.int y :: .int x :: st) h = ev 56 38 L (.int (x + y) :: st) h := G_iadd f56_37
theorem f56_38 : fetch 56 38 = some (.iconst 1, 1) := vtab tk56 21 rfl
theorem e56_38 (L : VL) (st : List Value) (h : VG) : ev 56 38 L (st) h = ev 56 39 L (.int (1 : Int32) :: st) h := G_iconst f56_38 (by decide)
theorem f56_39 : fetch 56 39 = some (.isub, 1) := vtab tk56 22 rfl
theorem e56_39 (L : VL) (st : List Value) (h : VG) (x y : Int32) : ev 56 39 L (.int y :: .int x :: st) h = ev 56 40 L (.int (x - y) :: st) h := G_isub f56_39
theorem f56_40 : fetch 56 40 = some (.iload 7, 2) := vtab tk56 23 rfl
theorem e56_40 (l0 l1 l2 l3 l4 l5 l6 : Option Value) (L : VL) (st : List Value) (h : VG) (x : Int32) : ev 56 40 (l0 :: l1 :: l2 :: l3 :: l4 :: l5 :: l6 :: some (.int x) :: L) (st) h = ev 56 42 (l0 :: l1 :: l2 :: l3 :: l4 :: l5 :: l6 :: some (.int x) :: L) (.int x :: st) h := G_iload f56_40 rfl
theorem f56_42 : fetch 56 42 = some (.isub, 1) := vtab tk56 24 rfl
theorem e56_42 (L : VL) (st : List Value) (h : VG) (x y : Int32) : ev 56 42 L (.int y :: .int x :: st) h = ev 56 43 L (.int (x - y) :: st) h := G_isub f56_42
theorem f56_43 : fetch 56 43 = some (.istore 8, 2) := vtab tk56 25 rfl
theorem e56_43 (l0 l1 l2 l3 l4 l5 l6 l7 l8 : Option Value) (L : VL) (st : List Value) (h : VG) (x : Int32) : ev 56 43 (l0 :: l1 :: l2 :: l3 :: l4 :: l5 :: l6 :: l7 :: l8 :: L) (.int x :: st) h = ev 56 45 (l0 :: l1 :: l2 :: l3 :: l4 :: l5 :: l6 :: vkk l7 :: some (.int x) :: L) (st) h := G_istore f56_43 rfl (S1_8 l0 l1 l2 l3 l4 l5 l6 l7 l8 L _)
theorem f56_45 : fetch 56 45 = some (.lload 5, 2) := vtab tk56 26 rfl
theorem e56_45 (l0 l1 l2 l3 l4 : Option Value) (L : VL) (st : List Value) (h : VG) (x : Int64) : ev 56 45 (l0 :: l1 :: l2 :: l3 :: l4 :: some (.long x) :: L) (st) h = ev 56 47 (l0 :: l1 :: l2 :: l3 :: l4 :: some (.long x) :: L) (.long x :: st) h := G_lload f56_45 rfl
theorem f56_47 : fetch 56 47 = some (.bipush 8, 2) := vtab tk56 27 rfl
theorem e56_47 (L : VL) (st : List Value) (h : VG) : ev 56 47 L (st) h = ev 56 49 L (.int (8 : Int32) :: st) h := G_bipush f56_47 (by decide)
theorem f56_49 : fetch 56 49 = some (.lshl, 1) := vtab tk56 28 rfl
theorem e56_49 (L : VL) (st : List Value) (h : VG) (x : Int64) (y : Int32) : ev 56 49 L (.int y :: .long x :: st) h = ev 56 50 L (.long (x <<< (y.toInt64 &&& 63)) :: st) h := G_lshl f56_49
theorem f56_50 : fetch 56 50 = some (.aload_n 0, 1) := vtab tk56 29 rfl
theorem e56_50 (L : VL) (st : List Value) (h : VG) (x : Nat) : ev 56 50 (some (.ref x) :: L) (st) h = ev 56 51 (some (.ref x) :: L) (.ref x :: st) h := G_aload_n f56_50 rfl
theorem f56_51 : fetch 56 51 = some (.getfield 9, 3) := vtab tk56 30 rfl
theorem e56_51 (L : VL) (st : List Value) (h : VG) (a : Nat) (ho : ob h a 5) (hr : isR h a 0) : ev 56 51 L (.ref a :: st) h = ev 56 54 L (.ref (gR h a 0) :: st) h := G_getR (p := 224) f56_51 lkF_6_9 (by decide) (by decide) ho hr
theorem f56_54 : fetch 56 54 = some (.iload 8, 2) := vtab tk56 31 rfl
theorem e56_54 (l0 l1 l2 l3 l4 l5 l6 l7 : Option Value) (L : VL) (st : List Value) (h : VG) (x : Int32) : ev 56 54 (l0 :: l1 :: l2 :: l3 :: l4 :: l5 :: l6 :: l7 :: some (.int x) :: L) (st) h = ev 56 56 (l0 :: l1 :: l2 :: l3 :: l4 :: l5 :: l6 :: l7 :: some (.int x) :: L) (.int x :: st) h := G_iload f56_54 rfl
theorem f56_56 : fetch 56 56 = some (.baload, 1) := vtab tk56 32 rfl
theorem e56_56 (L : VL) (st : List Value) (h : VG) (a : Nat) (i : Int32) (ha : rdB h a) (hi : vp_in i (aln h a)) : ev 56 56 L (.int i :: .ref a :: st) h = ev 56 57 L (.int (aI h a i.toNatClampNeg) :: st) h := G_bald' f56_56 ha hi
theorem f56_57 : fetch 56 57 = some (.sipush 255, 3) := vtab tk56 33 rfl
theorem e56_57 (L : VL) (st : List Value) (h : VG) : ev 56 57 L (st) h = ev 56 60 L (.int (255 : Int32) :: st) h := G_sipush f56_57 (by decide)
theorem f56_60 : fetch 56 60 = some (.iand, 1) := vtab tk56 34 rfl
theorem e56_60 (L : VL) (st : List Value) (h : VG) (x y : Int32) : ev 56 60 L (.int y :: .int x :: st) h = ev 56 61 L (.int (x &&& y) :: st) h := G_iand f56_60
theorem f56_61 : fetch 56 61 = some (.i2l, 1) := vtab tk56 35 rfl
theorem e56_61 (L : VL) (st : List Value) (h : VG) (x : Int32) : ev 56 61 L (.int x :: st) h = ev 56 62 L (.long x.toInt64 :: st) h := G_i2l f56_61
theorem f56_62 : fetch 56 62 = some (.lor, 1) := vtab tk56 36 rfl
theorem e56_62 (L : VL) (st : List Value) (h : VG) (x y : Int64) : ev 56 62 L (.long y :: .long x :: st) h = ev 56 63 L (.long (x ||| y) :: st) h := G_lor f56_62
theorem f56_63 : fetch 56 63 = some (.lstore 5, 2) := vtab tk56 37 rfl
theorem e56_63 (l0 l1 l2 l3 l4 l5 l6 : Option Value) (L : VL) (st : List Value) (h : VG) (x : Int64) : ev 56 63 (l0 :: l1 :: l2 :: l3 :: l4 :: l5 :: l6 :: L) (.long x :: st) h = ev 56 65 (l0 :: l1 :: l2 :: l3 :: vkk l4 :: some (.long x) :: none :: L) (st) h := G_lstore f56_63 rfl (S2_5 l0 l1 l2 l3 l4 l5 l6 L _)
theorem f56_65 : fetch 56 65 = some (.iinc 7 1, 3) := vtab tk56 38 rfl
theorem e56_65 (l0 l1 l2 l3 l4 l5 l6 : Option Value) (L : VL) (st : List Value) (h : VG) (x : Int32) : ev 56 65 (l0 :: l1 :: l2 :: l3 :: l4 :: l5 :: l6 :: some (.int x) :: L) (st) h = ev 56 68 (l0 :: l1 :: l2 :: l3 :: l4 :: l5 :: vkk l6 :: some (.int (x + (1 : Int32))) :: L) (st) h := G_iinc f56_65 rfl (by decide) (S1_7 l0 l1 l2 l3 l4 l5 l6 (some (.int x)) L _)
theorem f56_68 : fetch 56 68 = some (.goto (-55), 3) := vtab tk56 39 rfl
theorem e56_68 (L : VL) (st : List Value) (h : VG) : ev 56 68 L (st) h = ev 56 13 L (st) h := G_goto f56_68 (by decide)
theorem f56_71 : fetch 56 71 = some (.iload_n 2, 1) := vtab tk56 40 rfl
theorem e56_71 (l0 l1 : Option Value) (L : VL) (st : List Value) (h : VG) (x : Int32) : ev 56 71 (l0 :: l1 :: some (.int x) :: L) (st) h = ev 56 72 (l0 :: l1 :: some (.int x) :: L) (.int x :: st) h := G_iload_n f56_71 rfl
theorem f56_72 : fetch 56 72 = some (.lload 5, 2) := vtab tk56 41 rfl
theorem e56_72 (l0 l1 l2 l3 l4 : Option Value) (L : VL) (st : List Value) (h : VG) (x : Int64) : ev 56 72 (l0 :: l1 :: l2 :: l3 :: l4 :: some (.long x) :: L) (st) h = ev 56 74 (l0 :: l1 :: l2 :: l3 :: l4 :: some (.long x) :: L) (.long x :: st) h := G_lload f56_72 rfl
theorem f56_74 : fetch 56 74 = some (.iload 4, 2) := vtab tk56 42 rfl
theorem e56_74 (l0 l1 l2 l3 : Option Value) (L : VL) (st : List Value) (h : VG) (x : Int32) : ev 56 74 (l0 :: l1 :: l2 :: l3 :: some (.int x) :: L) (st) h = ev 56 76 (l0 :: l1 :: l2 :: l3 :: some (.int x) :: L) (.int x :: st) h := G_iload f56_74 rfl
theorem f56_76 : fetch 56 76 = some (.invokestatic 45, 3) := vtab tk56 43 rfl
theorem e56_76 (L : VL) (st : List Value) (h : VG) (x0 : Int32) (x1 : Int64) (x2 : Int32) (hs : catS st ≤ 8) : ev 56 76 L (.int x2 :: .long x1 :: .int x0 :: st) h = (ev 36 0 [some (.int x0), some (.long x1), none, some (.int x2), none] [] h).bind fun q => ev 56 79 L (q.1.toList ++ st) q.2 := G_calls (k := 0) (p := 873) (ars := [.int x0, .long x1, .int x2]) f56_76 lkC_6_45 (by decide) (by decide +kernel) rfl (Nat.le_of_ble_eq_true rfl) hs rfl
theorem f56_79 : fetch 56 79 = some (.lreturn, 1) := vtab tk56 44 rfl
theorem e56_79 (L : VL) (h : VG) (x : Int64) : ev 56 79 L [.long x] h = some (some (.long x), h) := G_lret f56_79 (by decide)
/-! 57 GuestCalls$Memory.lay(IIJ)V -/
def tb57 : List (Nat × Instr × Nat) := [(0, .iconst 0, 1), (1, .istore 5, 2), (3, .iload 5, 2), (5, .iload_n 2, 1), (6, .if_icmp .ge 49, 3), (9, .aload_n 0, 1), (10, .getfield 25, 3), (13, .ifCond .eq 14, 3), (16, .iload_n 1, 1), (17, .iload_n 2, 1), (18, .iadd, 1), (19, .iconst 1, 1), (20, .isub, 1), (21, .iload 5, 2), (23, .isub, 1), (24, .goto 7, 3), (27, .iload_n 1, 1), (28, .iload 5, 2), (30, .iadd, 1), (31, .istore 6, 2), (33, .aload_n 0, 1), (34, .getfield 9, 3), (37, .iload 6, 2), (39, .lload_n 3, 1), (40, .bipush 8, 2), (42, .iload 5, 2), (44, .imul, 1), (45, .lushr, 1), (46, .l2i, 1), (47, .i2b, 1), (48, .bastore, 1), (49, .iinc 5 1, 3), (52, .goto (-49), 3), (55, .return_, 1)]
theorem tk57 : tb57.all (fun q => decide (fetch 57 q.1 = some q.2)) = true := by decide +kernel
theorem f57_0 : fetch 57 0 = some (.iconst 0, 1) := vtab tk57 0 rfl
theorem e57_0 (L : VL) (st : List Value) (h : VG) : ev 57 0 L (st) h = ev 57 1 L (.int (0 : Int32) :: st) h := G_iconst f57_0 (by decide)
theorem f57_1 : fetch 57 1 = some (.istore 5, 2) := vtab tk57 1 rfl
theorem e57_1 (l0 l1 l2 l3 l4 l5 : Option Value) (L : VL) (st : List Value) (h : VG) (x : Int32) : ev 57 1 (l0 :: l1 :: l2 :: l3 :: l4 :: l5 :: L) (.int x :: st) h = ev 57 3 (l0 :: l1 :: l2 :: l3 :: vkk l4 :: some (.int x) :: L) (st) h := G_istore f57_1 rfl (S1_5 l0 l1 l2 l3 l4 l5 L _)
theorem f57_3 : fetch 57 3 = some (.iload 5, 2) := vtab tk57 2 rfl
theorem e57_3 (l0 l1 l2 l3 l4 : Option Value) (L : VL) (st : List Value) (h : VG) (x : Int32) : ev 57 3 (l0 :: l1 :: l2 :: l3 :: l4 :: some (.int x) :: L) (st) h = ev 57 5 (l0 :: l1 :: l2 :: l3 :: l4 :: some (.int x) :: L) (.int x :: st) h := G_iload f57_3 rfl
theorem f57_5 : fetch 57 5 = some (.iload_n 2, 1) := vtab tk57 3 rfl
theorem e57_5 (l0 l1 : Option Value) (L : VL) (st : List Value) (h : VG) (x : Int32) : ev 57 5 (l0 :: l1 :: some (.int x) :: L) (st) h = ev 57 6 (l0 :: l1 :: some (.int x) :: L) (.int x :: st) h := G_iload_n f57_5 rfl
theorem f57_6 : fetch 57 6 = some (.if_icmp .ge 49, 3) := vtab tk57 4 rfl
theorem e57_6 (L : VL) (st : List Value) (h : VG) (x y : Int32) : ev 57 6 L (.int y :: .int x :: st) h = if x < y then ev 57 9 L st h else ev 57 55 L st h := G_icmp_ge f57_6 (by decide)
theorem f57_9 : fetch 57 9 = some (.aload_n 0, 1) := vtab tk57 5 rfl
theorem e57_9 (L : VL) (st : List Value) (h : VG) (x : Nat) : ev 57 9 (some (.ref x) :: L) (st) h = ev 57 10 (some (.ref x) :: L) (.ref x :: st) h := G_aload_n f57_9 rfl
theorem f57_10 : fetch 57 10 = some (.getfield 25, 3) := vtab tk57 6 rfl
theorem e57_10 (L : VL) (st : List Value) (h : VG) (a : Nat) (ho : ob h a 5) : ev 57 10 L (.ref a :: st) h = ev 57 13 L (.int (gI h a 2) :: st) h := G_getI (p := 230) f57_10 lkF_6_25 (by decide) (by decide) ho
theorem f57_13 : fetch 57 13 = some (.ifCond .eq 14, 3) := vtab tk57 7 rfl
theorem e57_13 (L : VL) (st : List Value) (h : VG) (x : Int32) : ev 57 13 L (.int x :: st) h = if x = 0 then ev 57 27 L st h else ev 57 16 L st h := G_if_eq f57_13 (by decide)
theorem f57_16 : fetch 57 16 = some (.iload_n 1, 1) := vtab tk57 8 rfl
theorem e57_16 (l0 : Option Value) (L : VL) (st : List Value) (h : VG) (x : Int32) : ev 57 16 (l0 :: some (.int x) :: L) (st) h = ev 57 17 (l0 :: some (.int x) :: L) (.int x :: st) h := G_iload_n f57_16 rfl
theorem f57_17 : fetch 57 17 = some (.iload_n 2, 1) := vtab tk57 9 rfl
theorem e57_17 (l0 l1 : Option Value) (L : VL) (st : List Value) (h : VG) (x : Int32) : ev 57 17 (l0 :: l1 :: some (.int x) :: L) (st) h = ev 57 18 (l0 :: l1 :: some (.int x) :: L) (.int x :: st) h := G_iload_n f57_17 rfl
theorem f57_18 : fetch 57 18 = some (.iadd, 1) := vtab tk57 10 rfl
theorem e57_18 (L : VL) (st : List Value) (h : VG) (x y : Int32) : ev 57 18 L (.int y :: .int x :: st) h = ev 57 19 L (.int (x + y) :: st) h := G_iadd f57_18
theorem f57_19 : fetch 57 19 = some (.iconst 1, 1) := vtab tk57 11 rfl
theorem e57_19 (L : VL) (st : List Value) (h : VG) : ev 57 19 L (st) h = ev 57 20 L (.int (1 : Int32) :: st) h := G_iconst f57_19 (by decide)
theorem f57_20 : fetch 57 20 = some (.isub, 1) := vtab tk57 12 rfl
theorem e57_20 (L : VL) (st : List Value) (h : VG) (x y : Int32) : ev 57 20 L (.int y :: .int x :: st) h = ev 57 21 L (.int (x - y) :: st) h := G_isub f57_20
theorem f57_21 : fetch 57 21 = some (.iload 5, 2) := vtab tk57 13 rfl
theorem e57_21 (l0 l1 l2 l3 l4 : Option Value) (L : VL) (st : List Value) (h : VG) (x : Int32) : ev 57 21 (l0 :: l1 :: l2 :: l3 :: l4 :: some (.int x) :: L) (st) h = ev 57 23 (l0 :: l1 :: l2 :: l3 :: l4 :: some (.int x) :: L) (.int x :: st) h := G_iload f57_21 rfl
theorem f57_23 : fetch 57 23 = some (.isub, 1) := vtab tk57 14 rfl
theorem e57_23 (L : VL) (st : List Value) (h : VG) (x y : Int32) : ev 57 23 L (.int y :: .int x :: st) h = ev 57 24 L (.int (x - y) :: st) h := G_isub f57_23
theorem f57_24 : fetch 57 24 = some (.goto 7, 3) := vtab tk57 15 rfl
theorem e57_24 (L : VL) (st : List Value) (h : VG) : ev 57 24 L (st) h = ev 57 31 L (st) h := G_goto f57_24 (by decide)
theorem f57_27 : fetch 57 27 = some (.iload_n 1, 1) := vtab tk57 16 rfl
theorem e57_27 (l0 : Option Value) (L : VL) (st : List Value) (h : VG) (x : Int32) : ev 57 27 (l0 :: some (.int x) :: L) (st) h = ev 57 28 (l0 :: some (.int x) :: L) (.int x :: st) h := G_iload_n f57_27 rfl
theorem f57_28 : fetch 57 28 = some (.iload 5, 2) := vtab tk57 17 rfl
theorem e57_28 (l0 l1 l2 l3 l4 : Option Value) (L : VL) (st : List Value) (h : VG) (x : Int32) : ev 57 28 (l0 :: l1 :: l2 :: l3 :: l4 :: some (.int x) :: L) (st) h = ev 57 30 (l0 :: l1 :: l2 :: l3 :: l4 :: some (.int x) :: L) (.int x :: st) h := G_iload f57_28 rfl
theorem f57_30 : fetch 57 30 = some (.iadd, 1) := vtab tk57 18 rfl
theorem e57_30 (L : VL) (st : List Value) (h : VG) (x y : Int32) : ev 57 30 L (.int y :: .int x :: st) h = ev 57 31 L (.int (x + y) :: st) h := G_iadd f57_30
theorem f57_31 : fetch 57 31 = some (.istore 6, 2) := vtab tk57 19 rfl
theorem e57_31 (l0 l1 l2 l3 l4 l5 l6 : Option Value) (L : VL) (st : List Value) (h : VG) (x : Int32) : ev 57 31 (l0 :: l1 :: l2 :: l3 :: l4 :: l5 :: l6 :: L) (.int x :: st) h = ev 57 33 (l0 :: l1 :: l2 :: l3 :: l4 :: vkk l5 :: some (.int x) :: L) (st) h := G_istore f57_31 rfl (S1_6 l0 l1 l2 l3 l4 l5 l6 L _)
theorem f57_33 : fetch 57 33 = some (.aload_n 0, 1) := vtab tk57 20 rfl
theorem e57_33 (L : VL) (st : List Value) (h : VG) (x : Nat) : ev 57 33 (some (.ref x) :: L) (st) h = ev 57 34 (some (.ref x) :: L) (.ref x :: st) h := G_aload_n f57_33 rfl
theorem f57_34 : fetch 57 34 = some (.getfield 9, 3) := vtab tk57 21 rfl
theorem e57_34 (L : VL) (st : List Value) (h : VG) (a : Nat) (ho : ob h a 5) (hr : isR h a 0) : ev 57 34 L (.ref a :: st) h = ev 57 37 L (.ref (gR h a 0) :: st) h := G_getR (p := 224) f57_34 lkF_6_9 (by decide) (by decide) ho hr
theorem f57_37 : fetch 57 37 = some (.iload 6, 2) := vtab tk57 22 rfl
theorem e57_37 (l0 l1 l2 l3 l4 l5 : Option Value) (L : VL) (st : List Value) (h : VG) (x : Int32) : ev 57 37 (l0 :: l1 :: l2 :: l3 :: l4 :: l5 :: some (.int x) :: L) (st) h = ev 57 39 (l0 :: l1 :: l2 :: l3 :: l4 :: l5 :: some (.int x) :: L) (.int x :: st) h := G_iload f57_37 rfl
theorem f57_39 : fetch 57 39 = some (.lload_n 3, 1) := vtab tk57 23 rfl
theorem e57_39 (l0 l1 l2 : Option Value) (L : VL) (st : List Value) (h : VG) (x : Int64) : ev 57 39 (l0 :: l1 :: l2 :: some (.long x) :: L) (st) h = ev 57 40 (l0 :: l1 :: l2 :: some (.long x) :: L) (.long x :: st) h := G_lload_n f57_39 rfl
theorem f57_40 : fetch 57 40 = some (.bipush 8, 2) := vtab tk57 24 rfl
theorem e57_40 (L : VL) (st : List Value) (h : VG) : ev 57 40 L (st) h = ev 57 42 L (.int (8 : Int32) :: st) h := G_bipush f57_40 (by decide)
theorem f57_42 : fetch 57 42 = some (.iload 5, 2) := vtab tk57 25 rfl
theorem e57_42 (l0 l1 l2 l3 l4 : Option Value) (L : VL) (st : List Value) (h : VG) (x : Int32) : ev 57 42 (l0 :: l1 :: l2 :: l3 :: l4 :: some (.int x) :: L) (st) h = ev 57 44 (l0 :: l1 :: l2 :: l3 :: l4 :: some (.int x) :: L) (.int x :: st) h := G_iload f57_42 rfl
theorem f57_44 : fetch 57 44 = some (.imul, 1) := vtab tk57 26 rfl
theorem e57_44 (L : VL) (st : List Value) (h : VG) (x y : Int32) : ev 57 44 L (.int y :: .int x :: st) h = ev 57 45 L (.int (x * y) :: st) h := G_imul f57_44
theorem f57_45 : fetch 57 45 = some (.lushr, 1) := vtab tk57 27 rfl
theorem e57_45 (L : VL) (st : List Value) (h : VG) (x : Int64) (y : Int32) : ev 57 45 L (.int y :: .long x :: st) h = ev 57 46 L (.long ((x.toUInt64 >>> (y.toInt64.toUInt64 &&& Int64.toUInt64 63)).toInt64) :: st) h := G_lushr f57_45
theorem f57_46 : fetch 57 46 = some (.l2i, 1) := vtab tk57 28 rfl
theorem e57_46 (L : VL) (st : List Value) (h : VG) (x : Int64) : ev 57 46 L (.long x :: st) h = ev 57 47 L (.int x.toInt32 :: st) h := G_l2i f57_46
theorem f57_47 : fetch 57 47 = some (.i2b, 1) := vtab tk57 29 rfl
theorem e57_47 (L : VL) (st : List Value) (h : VG) (x : Int32) : ev 57 47 L (.int x :: st) h = ev 57 48 L (.int x.toInt8.toInt32 :: st) h := G_i2b f57_47
theorem f57_48 : fetch 57 48 = some (.bastore, 1) := vtab tk57 30 rfl
theorem e57_48 (L : VL) (st : List Value) (h : VG) (a : Nat) (i : Int32) (x : Int32) (ha : arI h a 2) (hi : vp_in i (aln h a)) : ev 57 48 L (.int x :: .int i :: .ref a :: st) h = ev 57 49 L (st) (wI h a i.toNatClampNeg (vp_nar .byte x)) := G_bast f57_48 ha hi
theorem e57_48z (L : VL) (st : List Value) (h : VG) (a : Nat) (i : Int32) (x : Int32) (ha : arI h a 3) (hi : vp_in i (aln h a)) : ev 57 48 L (.int x :: .int i :: .ref a :: st) h = ev 57 49 L (st) (wI h a i.toNatClampNeg (vp_nar .boolean x)) := G_zast f57_48 ha hi
theorem f57_49 : fetch 57 49 = some (.iinc 5 1, 3) := vtab tk57 31 rfl
theorem e57_49 (l0 l1 l2 l3 l4 : Option Value) (L : VL) (st : List Value) (h : VG) (x : Int32) : ev 57 49 (l0 :: l1 :: l2 :: l3 :: l4 :: some (.int x) :: L) (st) h = ev 57 52 (l0 :: l1 :: l2 :: l3 :: vkk l4 :: some (.int (x + (1 : Int32))) :: L) (st) h := G_iinc f57_49 rfl (by decide) (S1_5 l0 l1 l2 l3 l4 (some (.int x)) L _)
theorem f57_52 : fetch 57 52 = some (.goto (-49), 3) := vtab tk57 32 rfl
theorem e57_52 (L : VL) (st : List Value) (h : VG) : ev 57 52 L (st) h = ev 57 3 L (st) h := G_goto f57_52 (by decide)
theorem f57_55 : fetch 57 55 = some (.return_, 1) := vtab tk57 33 rfl
theorem e57_55 (L : VL) (h : VG) : ev 57 55 L [] h = some (none, h) := G_vret f57_55 (by decide)
/-! 58 GuestCalls$Memory.layCells(LGuestCalls$Form;LGuestCalls$Layout;I[J)V -/
def tb58 : List (Nat × Instr × Nat) := [(0, .iconst 0, 1), (1, .istore 5, 2), (3, .iload 5, 2), (5, .aload_n 1, 1), (6, .getfield 49, 3), (9, .if_icmp .ge 41, 3), (12, .aload_n 0, 1), (13, .iload_n 3, 1), (14, .aload_n 2, 1), (15, .getfield 54, 3), (18, .iload 5, 2), (20, .iaload, 1), (21, .iadd, 1), (22, .aload_n 1, 1), (23, .getfield 60, 3), (26, .iload 5, 2), (28, .iaload, 1), (29, .aload_n 2, 1), (30, .getfield 63, 3), (33, .invokestatic 41, 3), (36, .aload 4, 2), (38, .iload 5, 2), (40, .laload, 1), (41, .invokevirtual 66, 3), (44, .iinc 5 1, 3), (47, .goto (-44), 3), (50, .return_, 1)]
theorem tk58 : tb58.all (fun q => decide (fetch 58 q.1 = some q.2)) = true := by decide +kernel
theorem f58_0 : fetch 58 0 = some (.iconst 0, 1) := vtab tk58 0 rfl
theorem e58_0 (L : VL) (st : List Value) (h : VG) : ev 58 0 L (st) h = ev 58 1 L (.int (0 : Int32) :: st) h := G_iconst f58_0 (by decide)
theorem f58_1 : fetch 58 1 = some (.istore 5, 2) := vtab tk58 1 rfl
theorem e58_1 (l0 l1 l2 l3 l4 l5 : Option Value) (L : VL) (st : List Value) (h : VG) (x : Int32) : ev 58 1 (l0 :: l1 :: l2 :: l3 :: l4 :: l5 :: L) (.int x :: st) h = ev 58 3 (l0 :: l1 :: l2 :: l3 :: vkk l4 :: some (.int x) :: L) (st) h := G_istore f58_1 rfl (S1_5 l0 l1 l2 l3 l4 l5 L _)
theorem f58_3 : fetch 58 3 = some (.iload 5, 2) := vtab tk58 2 rfl
theorem e58_3 (l0 l1 l2 l3 l4 : Option Value) (L : VL) (st : List Value) (h : VG) (x : Int32) : ev 58 3 (l0 :: l1 :: l2 :: l3 :: l4 :: some (.int x) :: L) (st) h = ev 58 5 (l0 :: l1 :: l2 :: l3 :: l4 :: some (.int x) :: L) (.int x :: st) h := G_iload f58_3 rfl
theorem f58_5 : fetch 58 5 = some (.aload_n 1, 1) := vtab tk58 3 rfl
theorem e58_5 (l0 : Option Value) (L : VL) (st : List Value) (h : VG) (x : Nat) : ev 58 5 (l0 :: some (.ref x) :: L) (st) h = ev 58 6 (l0 :: some (.ref x) :: L) (.ref x :: st) h := G_aload_n f58_5 rfl
theorem f58_6 : fetch 58 6 = some (.getfield 49, 3) := vtab tk58 4 rfl
theorem e58_6 (L : VL) (st : List Value) (h : VG) (a : Nat) (ho : ob h a 3) : ev 58 6 L (.ref a :: st) h = ev 58 9 L (.int (gI h a 2) :: st) h := G_getI (p := 296) f58_6 lkF_6_49 (by decide) (by decide) ho
theorem f58_9 : fetch 58 9 = some (.if_icmp .ge 41, 3) := vtab tk58 5 rfl
theorem e58_9 (L : VL) (st : List Value) (h : VG) (x y : Int32) : ev 58 9 L (.int y :: .int x :: st) h = if x < y then ev 58 12 L st h else ev 58 50 L st h := G_icmp_ge f58_9 (by decide)
theorem f58_12 : fetch 58 12 = some (.aload_n 0, 1) := vtab tk58 6 rfl
theorem e58_12 (L : VL) (st : List Value) (h : VG) (x : Nat) : ev 58 12 (some (.ref x) :: L) (st) h = ev 58 13 (some (.ref x) :: L) (.ref x :: st) h := G_aload_n f58_12 rfl
theorem f58_13 : fetch 58 13 = some (.iload_n 3, 1) := vtab tk58 7 rfl
theorem e58_13 (l0 l1 l2 : Option Value) (L : VL) (st : List Value) (h : VG) (x : Int32) : ev 58 13 (l0 :: l1 :: l2 :: some (.int x) :: L) (st) h = ev 58 14 (l0 :: l1 :: l2 :: some (.int x) :: L) (.int x :: st) h := G_iload_n f58_13 rfl
theorem f58_14 : fetch 58 14 = some (.aload_n 2, 1) := vtab tk58 8 rfl
theorem e58_14 (l0 l1 : Option Value) (L : VL) (st : List Value) (h : VG) (x : Nat) : ev 58 14 (l0 :: l1 :: some (.ref x) :: L) (st) h = ev 58 15 (l0 :: l1 :: some (.ref x) :: L) (.ref x :: st) h := G_aload_n f58_14 rfl
theorem f58_15 : fetch 58 15 = some (.getfield 54, 3) := vtab tk58 9 rfl
theorem e58_15 (L : VL) (st : List Value) (h : VG) (a : Nat) (ho : ob h a 4) (hr : isR h a 1) : ev 58 15 L (.ref a :: st) h = ev 58 18 L (.ref (gR h a 1) :: st) h := G_getR (p := 257) f58_15 lkF_6_54 (by decide) (by decide) ho hr
theorem f58_18 : fetch 58 18 = some (.iload 5, 2) := vtab tk58 10 rfl
theorem e58_18 (l0 l1 l2 l3 l4 : Option Value) (L : VL) (st : List Value) (h : VG) (x : Int32) : ev 58 18 (l0 :: l1 :: l2 :: l3 :: l4 :: some (.int x) :: L) (st) h = ev 58 20 (l0 :: l1 :: l2 :: l3 :: l4 :: some (.int x) :: L) (.int x :: st) h := G_iload f58_18 rfl
theorem f58_20 : fetch 58 20 = some (.iaload, 1) := vtab tk58 11 rfl
theorem e58_20 (L : VL) (st : List Value) (h : VG) (a : Nat) (i : Int32) (ha : rdI h a) (hi : vp_in i (aln h a)) : ev 58 20 L (.int i :: .ref a :: st) h = ev 58 21 L (.int (aI h a i.toNatClampNeg) :: st) h := G_iald' f58_20 ha hi
theorem f58_21 : fetch 58 21 = some (.iadd, 1) := vtab tk58 12 rfl
theorem e58_21 (L : VL) (st : List Value) (h : VG) (x y : Int32) : ev 58 21 L (.int y :: .int x :: st) h = ev 58 22 L (.int (x + y) :: st) h := G_iadd f58_21
theorem f58_22 : fetch 58 22 = some (.aload_n 1, 1) := vtab tk58 13 rfl
theorem e58_22 (l0 : Option Value) (L : VL) (st : List Value) (h : VG) (x : Nat) : ev 58 22 (l0 :: some (.ref x) :: L) (st) h = ev 58 23 (l0 :: some (.ref x) :: L) (.ref x :: st) h := G_aload_n f58_22 rfl
theorem f58_23 : fetch 58 23 = some (.getfield 60, 3) := vtab tk58 14 rfl
theorem e58_23 (L : VL) (st : List Value) (h : VG) (a : Nat) (ho : ob h a 3) (hr : isR h a 6) : ev 58 23 L (.ref a :: st) h = ev 58 26 L (.ref (gR h a 6) :: st) h := G_getR (p := 305) f58_23 lkF_6_60 (by decide) (by decide) ho hr
theorem f58_26 : fetch 58 26 = some (.iload 5, 2) := vtab tk58 15 rfl
theorem e58_26 (l0 l1 l2 l3 l4 : Option Value) (L : VL) (st : List Value) (h : VG) (x : Int32) : ev 58 26 (l0 :: l1 :: l2 :: l3 :: l4 :: some (.int x) :: L) (st) h = ev 58 28 (l0 :: l1 :: l2 :: l3 :: l4 :: some (.int x) :: L) (.int x :: st) h := G_iload f58_26 rfl
theorem f58_28 : fetch 58 28 = some (.iaload, 1) := vtab tk58 16 rfl
theorem e58_28 (L : VL) (st : List Value) (h : VG) (a : Nat) (i : Int32) (ha : rdI h a) (hi : vp_in i (aln h a)) : ev 58 28 L (.int i :: .ref a :: st) h = ev 58 29 L (.int (aI h a i.toNatClampNeg) :: st) h := G_iald' f58_28 ha hi
theorem f58_29 : fetch 58 29 = some (.aload_n 2, 1) := vtab tk58 17 rfl
theorem e58_29 (l0 l1 : Option Value) (L : VL) (st : List Value) (h : VG) (x : Nat) : ev 58 29 (l0 :: l1 :: some (.ref x) :: L) (st) h = ev 58 30 (l0 :: l1 :: some (.ref x) :: L) (.ref x :: st) h := G_aload_n f58_29 rfl
theorem f58_30 : fetch 58 30 = some (.getfield 63, 3) := vtab tk58 18 rfl
theorem e58_30 (L : VL) (st : List Value) (h : VG) (a : Nat) (ho : ob h a 4) : ev 58 30 L (.ref a :: st) h = ev 58 33 L (.int (gI h a 0) :: st) h := G_getI (p := 254) f58_30 lkF_6_63 (by decide) (by decide) ho
theorem f58_33 : fetch 58 33 = some (.invokestatic 41, 3) := vtab tk58 19 rfl
theorem e58_33 (L : VL) (st : List Value) (h : VG) (x0 : Int32) (x1 : Int32) (hs : catS st ≤ 8) : ev 58 33 L (.int x1 :: .int x0 :: st) h = (ev 30 0 [some (.int x0), some (.int x1)] [] h).bind fun q => ev 58 36 L (q.1.toList ++ st) q.2 := G_calls (k := 0) (p := 872) (ars := [.int x0, .int x1]) f58_33 lkC_6_41 (by decide) (by decide +kernel) rfl (Nat.le_of_ble_eq_true rfl) hs rfl
theorem f58_36 : fetch 58 36 = some (.aload 4, 2) := vtab tk58 20 rfl
theorem e58_36 (l0 l1 l2 l3 : Option Value) (L : VL) (st : List Value) (h : VG) (x : Nat) : ev 58 36 (l0 :: l1 :: l2 :: l3 :: some (.ref x) :: L) (st) h = ev 58 38 (l0 :: l1 :: l2 :: l3 :: some (.ref x) :: L) (.ref x :: st) h := G_aload f58_36 rfl
theorem f58_38 : fetch 58 38 = some (.iload 5, 2) := vtab tk58 21 rfl
theorem e58_38 (l0 l1 l2 l3 l4 : Option Value) (L : VL) (st : List Value) (h : VG) (x : Int32) : ev 58 38 (l0 :: l1 :: l2 :: l3 :: l4 :: some (.int x) :: L) (st) h = ev 58 40 (l0 :: l1 :: l2 :: l3 :: l4 :: some (.int x) :: L) (.int x :: st) h := G_iload f58_38 rfl
theorem f58_40 : fetch 58 40 = some (.laload, 1) := vtab tk58 22 rfl
theorem e58_40 (L : VL) (st : List Value) (h : VG) (a : Nat) (i : Int32) (ha : arL h a) (hi : vp_in i (aln h a)) : ev 58 40 L (.int i :: .ref a :: st) h = ev 58 41 L (.long (aL h a i.toNatClampNeg) :: st) h := G_lald f58_40 ha hi
theorem f58_41 : fetch 58 41 = some (.invokevirtual 66, 3) := vtab tk58 23 rfl
theorem e58_41 (L : VL) (st : List Value) (h : VG) (b : Nat) (x0 : Int32) (x1 : Int32) (x2 : Int64) (ho : ob h b 5) (hs : catS st ≤ 8) : ev 58 41 L (.long x2 :: .int x1 :: .int x0 :: .ref b :: st) h = (ev 57 0 [some (.ref b), some (.int x0), some (.int x1), some (.long x2), none, none, none] [] h).bind fun q => ev 58 44 L (q.1.toList ++ st) q.2 := G_callv (k := 1) (p := 903) (ars := [.int x0, .int x1, .long x2]) f58_41 lkC_6_66 (by decide) (by decide +kernel) rfl (vcls_ob (ci := 5) (by decide) ho) (Nat.le_of_ble_eq_true rfl) hs rfl
theorem f58_44 : fetch 58 44 = some (.iinc 5 1, 3) := vtab tk58 24 rfl
theorem e58_44 (l0 l1 l2 l3 l4 : Option Value) (L : VL) (st : List Value) (h : VG) (x : Int32) : ev 58 44 (l0 :: l1 :: l2 :: l3 :: l4 :: some (.int x) :: L) (st) h = ev 58 47 (l0 :: l1 :: l2 :: l3 :: vkk l4 :: some (.int (x + (1 : Int32))) :: L) (st) h := G_iinc f58_44 rfl (by decide) (S1_5 l0 l1 l2 l3 l4 (some (.int x)) L _)
theorem f58_47 : fetch 58 47 = some (.goto (-44), 3) := vtab tk58 25 rfl
theorem e58_47 (L : VL) (st : List Value) (h : VG) : ev 58 47 L (st) h = ev 58 3 L (st) h := G_goto f58_47 (by decide)
theorem f58_50 : fetch 58 50 = some (.return_, 1) := vtab tk58 26 rfl
theorem e58_50 (L : VL) (h : VG) : ev 58 50 L [] h = some (none, h) := G_vret f58_50 (by decide)
/-! 59 GuestCalls$Memory.clearBytes(II)V -/
def tb59 : List (Nat × Instr × Nat) := [(0, .iconst 0, 1), (1, .istore_n 3, 1), (2, .iload_n 3, 1), (3, .iload_n 2, 1), (4, .if_icmp .ge 18, 3), (7, .aload_n 0, 1), (8, .getfield 9, 3), (11, .iload_n 1, 1), (12, .iload_n 3, 1), (13, .iadd, 1), (14, .iconst 0, 1), (15, .bastore, 1), (16, .iinc 3 1, 3), (19, .goto (-17), 3), (22, .return_, 1)]
theorem tk59 : tb59.all (fun q => decide (fetch 59 q.1 = some q.2)) = true := by decide +kernel
theorem f59_0 : fetch 59 0 = some (.iconst 0, 1) := vtab tk59 0 rfl
theorem e59_0 (L : VL) (st : List Value) (h : VG) : ev 59 0 L (st) h = ev 59 1 L (.int (0 : Int32) :: st) h := G_iconst f59_0 (by decide)
theorem f59_1 : fetch 59 1 = some (.istore_n 3, 1) := vtab tk59 1 rfl
theorem e59_1 (l0 l1 l2 l3 : Option Value) (L : VL) (st : List Value) (h : VG) (x : Int32) : ev 59 1 (l0 :: l1 :: l2 :: l3 :: L) (.int x :: st) h = ev 59 2 (l0 :: l1 :: vkk l2 :: some (.int x) :: L) (st) h := G_istore_n f59_1 rfl (S1_3 l0 l1 l2 l3 L _)
theorem f59_2 : fetch 59 2 = some (.iload_n 3, 1) := vtab tk59 2 rfl
theorem e59_2 (l0 l1 l2 : Option Value) (L : VL) (st : List Value) (h : VG) (x : Int32) : ev 59 2 (l0 :: l1 :: l2 :: some (.int x) :: L) (st) h = ev 59 3 (l0 :: l1 :: l2 :: some (.int x) :: L) (.int x :: st) h := G_iload_n f59_2 rfl
theorem f59_3 : fetch 59 3 = some (.iload_n 2, 1) := vtab tk59 3 rfl
theorem e59_3 (l0 l1 : Option Value) (L : VL) (st : List Value) (h : VG) (x : Int32) : ev 59 3 (l0 :: l1 :: some (.int x) :: L) (st) h = ev 59 4 (l0 :: l1 :: some (.int x) :: L) (.int x :: st) h := G_iload_n f59_3 rfl
theorem f59_4 : fetch 59 4 = some (.if_icmp .ge 18, 3) := vtab tk59 4 rfl
theorem e59_4 (L : VL) (st : List Value) (h : VG) (x y : Int32) : ev 59 4 L (.int y :: .int x :: st) h = if x < y then ev 59 7 L st h else ev 59 22 L st h := G_icmp_ge f59_4 (by decide)
theorem f59_7 : fetch 59 7 = some (.aload_n 0, 1) := vtab tk59 5 rfl
theorem e59_7 (L : VL) (st : List Value) (h : VG) (x : Nat) : ev 59 7 (some (.ref x) :: L) (st) h = ev 59 8 (some (.ref x) :: L) (.ref x :: st) h := G_aload_n f59_7 rfl
theorem f59_8 : fetch 59 8 = some (.getfield 9, 3) := vtab tk59 6 rfl
theorem e59_8 (L : VL) (st : List Value) (h : VG) (a : Nat) (ho : ob h a 5) (hr : isR h a 0) : ev 59 8 L (.ref a :: st) h = ev 59 11 L (.ref (gR h a 0) :: st) h := G_getR (p := 224) f59_8 lkF_6_9 (by decide) (by decide) ho hr
theorem f59_11 : fetch 59 11 = some (.iload_n 1, 1) := vtab tk59 7 rfl
theorem e59_11 (l0 : Option Value) (L : VL) (st : List Value) (h : VG) (x : Int32) : ev 59 11 (l0 :: some (.int x) :: L) (st) h = ev 59 12 (l0 :: some (.int x) :: L) (.int x :: st) h := G_iload_n f59_11 rfl
theorem f59_12 : fetch 59 12 = some (.iload_n 3, 1) := vtab tk59 8 rfl
theorem e59_12 (l0 l1 l2 : Option Value) (L : VL) (st : List Value) (h : VG) (x : Int32) : ev 59 12 (l0 :: l1 :: l2 :: some (.int x) :: L) (st) h = ev 59 13 (l0 :: l1 :: l2 :: some (.int x) :: L) (.int x :: st) h := G_iload_n f59_12 rfl
theorem f59_13 : fetch 59 13 = some (.iadd, 1) := vtab tk59 9 rfl
theorem e59_13 (L : VL) (st : List Value) (h : VG) (x y : Int32) : ev 59 13 L (.int y :: .int x :: st) h = ev 59 14 L (.int (x + y) :: st) h := G_iadd f59_13
theorem f59_14 : fetch 59 14 = some (.iconst 0, 1) := vtab tk59 10 rfl
theorem e59_14 (L : VL) (st : List Value) (h : VG) : ev 59 14 L (st) h = ev 59 15 L (.int (0 : Int32) :: st) h := G_iconst f59_14 (by decide)
theorem f59_15 : fetch 59 15 = some (.bastore, 1) := vtab tk59 11 rfl
theorem e59_15 (L : VL) (st : List Value) (h : VG) (a : Nat) (i : Int32) (x : Int32) (ha : arI h a 2) (hi : vp_in i (aln h a)) : ev 59 15 L (.int x :: .int i :: .ref a :: st) h = ev 59 16 L (st) (wI h a i.toNatClampNeg (vp_nar .byte x)) := G_bast f59_15 ha hi
theorem e59_15z (L : VL) (st : List Value) (h : VG) (a : Nat) (i : Int32) (x : Int32) (ha : arI h a 3) (hi : vp_in i (aln h a)) : ev 59 15 L (.int x :: .int i :: .ref a :: st) h = ev 59 16 L (st) (wI h a i.toNatClampNeg (vp_nar .boolean x)) := G_zast f59_15 ha hi
theorem f59_16 : fetch 59 16 = some (.iinc 3 1, 3) := vtab tk59 12 rfl
theorem e59_16 (l0 l1 l2 : Option Value) (L : VL) (st : List Value) (h : VG) (x : Int32) : ev 59 16 (l0 :: l1 :: l2 :: some (.int x) :: L) (st) h = ev 59 19 (l0 :: l1 :: vkk l2 :: some (.int (x + (1 : Int32))) :: L) (st) h := G_iinc f59_16 rfl (by decide) (S1_3 l0 l1 l2 (some (.int x)) L _)
theorem f59_19 : fetch 59 19 = some (.goto (-17), 3) := vtab tk59 13 rfl
theorem e59_19 (L : VL) (st : List Value) (h : VG) : ev 59 19 L (st) h = ev 59 2 L (st) h := G_goto f59_19 (by decide)
theorem f59_22 : fetch 59 22 = some (.return_, 1) := vtab tk59 14 rfl
theorem e59_22 (L : VL) (h : VG) : ev 59 22 L [] h = some (none, h) := G_vret f59_22 (by decide)
/-! 60 GuestCalls$Memory.usedBytes()I -/
def tb60 : List (Nat × Instr × Nat) := [(0, .iconst 0, 1), (1, .istore_n 1, 1), (2, .iconst 0, 1), (3, .istore_n 2, 1), (4, .iload_n 2, 1), (5, .sipush 256, 3), (8, .if_icmp .ge 26, 3), (11, .iload_n 1, 1), (12, .aload_n 0, 1), (13, .getfield 9, 3), (16, .iload_n 2, 1), (17, .baload, 1), (18, .ifCond .eq 7, 3), (21, .iconst 1, 1), (22, .goto 4, 3), (25, .iconst 0, 1), (26, .iadd, 1), (27, .istore_n 1, 1), (28, .iinc 2 1, 3), (31, .goto (-27), 3), (34, .iload_n 1, 1), (35, .ireturn, 1)]
theorem tk60 : tb60.all (fun q => decide (fetch 60 q.1 = some q.2)) = true := by decide +kernel
theorem f60_0 : fetch 60 0 = some (.iconst 0, 1) := vtab tk60 0 rfl
theorem e60_0 (L : VL) (st : List Value) (h : VG) : ev 60 0 L (st) h = ev 60 1 L (.int (0 : Int32) :: st) h := G_iconst f60_0 (by decide)
theorem f60_1 : fetch 60 1 = some (.istore_n 1, 1) := vtab tk60 1 rfl
theorem e60_1 (l0 l1 : Option Value) (L : VL) (st : List Value) (h : VG) (x : Int32) : ev 60 1 (l0 :: l1 :: L) (.int x :: st) h = ev 60 2 (vkk l0 :: some (.int x) :: L) (st) h := G_istore_n f60_1 rfl (S1_1 l0 l1 L _)
theorem f60_2 : fetch 60 2 = some (.iconst 0, 1) := vtab tk60 2 rfl
theorem e60_2 (L : VL) (st : List Value) (h : VG) : ev 60 2 L (st) h = ev 60 3 L (.int (0 : Int32) :: st) h := G_iconst f60_2 (by decide)
theorem f60_3 : fetch 60 3 = some (.istore_n 2, 1) := vtab tk60 3 rfl
theorem e60_3 (l0 l1 l2 : Option Value) (L : VL) (st : List Value) (h : VG) (x : Int32) : ev 60 3 (l0 :: l1 :: l2 :: L) (.int x :: st) h = ev 60 4 (l0 :: vkk l1 :: some (.int x) :: L) (st) h := G_istore_n f60_3 rfl (S1_2 l0 l1 l2 L _)
theorem f60_4 : fetch 60 4 = some (.iload_n 2, 1) := vtab tk60 4 rfl
theorem e60_4 (l0 l1 : Option Value) (L : VL) (st : List Value) (h : VG) (x : Int32) : ev 60 4 (l0 :: l1 :: some (.int x) :: L) (st) h = ev 60 5 (l0 :: l1 :: some (.int x) :: L) (.int x :: st) h := G_iload_n f60_4 rfl
theorem f60_5 : fetch 60 5 = some (.sipush 256, 3) := vtab tk60 5 rfl
theorem e60_5 (L : VL) (st : List Value) (h : VG) : ev 60 5 L (st) h = ev 60 8 L (.int (256 : Int32) :: st) h := G_sipush f60_5 (by decide)
theorem f60_8 : fetch 60 8 = some (.if_icmp .ge 26, 3) := vtab tk60 6 rfl
theorem e60_8 (L : VL) (st : List Value) (h : VG) (x y : Int32) : ev 60 8 L (.int y :: .int x :: st) h = if x < y then ev 60 11 L st h else ev 60 34 L st h := G_icmp_ge f60_8 (by decide)
theorem f60_11 : fetch 60 11 = some (.iload_n 1, 1) := vtab tk60 7 rfl
theorem e60_11 (l0 : Option Value) (L : VL) (st : List Value) (h : VG) (x : Int32) : ev 60 11 (l0 :: some (.int x) :: L) (st) h = ev 60 12 (l0 :: some (.int x) :: L) (.int x :: st) h := G_iload_n f60_11 rfl
theorem f60_12 : fetch 60 12 = some (.aload_n 0, 1) := vtab tk60 8 rfl
theorem e60_12 (L : VL) (st : List Value) (h : VG) (x : Nat) : ev 60 12 (some (.ref x) :: L) (st) h = ev 60 13 (some (.ref x) :: L) (.ref x :: st) h := G_aload_n f60_12 rfl
theorem f60_13 : fetch 60 13 = some (.getfield 9, 3) := vtab tk60 9 rfl
theorem e60_13 (L : VL) (st : List Value) (h : VG) (a : Nat) (ho : ob h a 5) (hr : isR h a 0) : ev 60 13 L (.ref a :: st) h = ev 60 16 L (.ref (gR h a 0) :: st) h := G_getR (p := 224) f60_13 lkF_6_9 (by decide) (by decide) ho hr
theorem f60_16 : fetch 60 16 = some (.iload_n 2, 1) := vtab tk60 10 rfl
theorem e60_16 (l0 l1 : Option Value) (L : VL) (st : List Value) (h : VG) (x : Int32) : ev 60 16 (l0 :: l1 :: some (.int x) :: L) (st) h = ev 60 17 (l0 :: l1 :: some (.int x) :: L) (.int x :: st) h := G_iload_n f60_16 rfl
theorem f60_17 : fetch 60 17 = some (.baload, 1) := vtab tk60 11 rfl
theorem e60_17 (L : VL) (st : List Value) (h : VG) (a : Nat) (i : Int32) (ha : rdB h a) (hi : vp_in i (aln h a)) : ev 60 17 L (.int i :: .ref a :: st) h = ev 60 18 L (.int (aI h a i.toNatClampNeg) :: st) h := G_bald' f60_17 ha hi
theorem f60_18 : fetch 60 18 = some (.ifCond .eq 7, 3) := vtab tk60 12 rfl
theorem e60_18 (L : VL) (st : List Value) (h : VG) (x : Int32) : ev 60 18 L (.int x :: st) h = if x = 0 then ev 60 25 L st h else ev 60 21 L st h := G_if_eq f60_18 (by decide)
theorem f60_21 : fetch 60 21 = some (.iconst 1, 1) := vtab tk60 13 rfl
theorem e60_21 (L : VL) (st : List Value) (h : VG) : ev 60 21 L (st) h = ev 60 22 L (.int (1 : Int32) :: st) h := G_iconst f60_21 (by decide)
theorem f60_22 : fetch 60 22 = some (.goto 4, 3) := vtab tk60 14 rfl
theorem e60_22 (L : VL) (st : List Value) (h : VG) : ev 60 22 L (st) h = ev 60 26 L (st) h := G_goto f60_22 (by decide)
theorem f60_25 : fetch 60 25 = some (.iconst 0, 1) := vtab tk60 15 rfl
theorem e60_25 (L : VL) (st : List Value) (h : VG) : ev 60 25 L (st) h = ev 60 26 L (.int (0 : Int32) :: st) h := G_iconst f60_25 (by decide)
theorem f60_26 : fetch 60 26 = some (.iadd, 1) := vtab tk60 16 rfl
theorem e60_26 (L : VL) (st : List Value) (h : VG) (x y : Int32) : ev 60 26 L (.int y :: .int x :: st) h = ev 60 27 L (.int (x + y) :: st) h := G_iadd f60_26
theorem f60_27 : fetch 60 27 = some (.istore_n 1, 1) := vtab tk60 17 rfl
theorem e60_27 (l0 l1 : Option Value) (L : VL) (st : List Value) (h : VG) (x : Int32) : ev 60 27 (l0 :: l1 :: L) (.int x :: st) h = ev 60 28 (vkk l0 :: some (.int x) :: L) (st) h := G_istore_n f60_27 rfl (S1_1 l0 l1 L _)
theorem f60_28 : fetch 60 28 = some (.iinc 2 1, 3) := vtab tk60 18 rfl
theorem e60_28 (l0 l1 : Option Value) (L : VL) (st : List Value) (h : VG) (x : Int32) : ev 60 28 (l0 :: l1 :: some (.int x) :: L) (st) h = ev 60 31 (l0 :: vkk l1 :: some (.int (x + (1 : Int32))) :: L) (st) h := G_iinc f60_28 rfl (by decide) (S1_2 l0 l1 (some (.int x)) L _)
theorem f60_31 : fetch 60 31 = some (.goto (-27), 3) := vtab tk60 19 rfl
theorem e60_31 (L : VL) (st : List Value) (h : VG) : ev 60 31 L (st) h = ev 60 4 L (st) h := G_goto f60_31 (by decide)
theorem f60_34 : fetch 60 34 = some (.iload_n 1, 1) := vtab tk60 20 rfl
theorem e60_34 (l0 : Option Value) (L : VL) (st : List Value) (h : VG) (x : Int32) : ev 60 34 (l0 :: some (.int x) :: L) (st) h = ev 60 35 (l0 :: some (.int x) :: L) (.int x :: st) h := G_iload_n f60_34 rfl
theorem f60_35 : fetch 60 35 = some (.ireturn, 1) := vtab tk60 21 rfl
theorem e60_35 (L : VL) (h : VG) (x : Int32) : ev 60 35 L [.int x] h = some (some (.int x), h) := G_iret f60_35 (ty := .int) (by decide) rfl
/-! 61 GuestCalls$Plan.<init>()V -/
def tb61 : List (Nat × Instr × Nat) := [(0, .aload_n 0, 1), (1, .invokespecial 3, 3), (4, .aload_n 0, 1), (5, .new 9, 3), (8, .dup, 1), (9, .invokespecial 11, 3), (12, .putfield 12, 3), (15, .aload_n 0, 1), (16, .bipush 6, 2), (18, .anewarray 18, 3), (21, .putfield 20, 3), (24, .iconst 0, 1), (25, .istore_n 1, 1), (26, .iload_n 1, 1), (27, .bipush 6, 2), (29, .if_icmp .ge 22, 3), (32, .aload_n 0, 1), (33, .getfield 20, 3), (36, .iload_n 1, 1), (37, .new 18, 3), (40, .dup, 1), (41, .invokespecial 24, 3), (45, .iinc 1 1, 3), (48, .goto (-22), 3), (51, .return_, 1)]
theorem tk61 : tb61.all (fun q => decide (fetch 61 q.1 = some q.2)) = true := by decide +kernel
theorem f61_0 : fetch 61 0 = some (.aload_n 0, 1) := vtab tk61 0 rfl
theorem e61_0 (L : VL) (st : List Value) (h : VG) (x : Nat) : ev 61 0 (some (.ref x) :: L) (st) h = ev 61 1 (some (.ref x) :: L) (.ref x :: st) h := G_aload_n f61_0 rfl
theorem f61_1 : fetch 61 1 = some (.invokespecial 3, 3) := vtab tk61 1 rfl
theorem e61_1 (L : VL) (st : List Value) (h : VG) (a : Nat) (hs : catS st ≤ 8) : ev 61 1 L (.ref a :: st) h = ev 61 4 L (st) h := G_objinit (y := 0) (p := 217) f61_1 lkC_7_3 hs
theorem f61_4 : fetch 61 4 = some (.aload_n 0, 1) := vtab tk61 2 rfl
theorem e61_4 (L : VL) (st : List Value) (h : VG) (x : Nat) : ev 61 4 (some (.ref x) :: L) (st) h = ev 61 5 (some (.ref x) :: L) (.ref x :: st) h := G_aload_n f61_4 rfl
theorem f61_5 : fetch 61 5 = some (.new 9, 3) := vtab tk61 3 rfl
theorem e61_5 (L : VL) (st : List Value) (h : VG) : ev 61 5 L (st) h = ev 61 8 L (.ref h.2.1 :: st) (hnew h (.inr (5, vDef 5)) (vNsl 5)) := G_new (p := 218) f61_5 lkN_7_9
theorem f61_8 : fetch 61 8 = some (.dup, 1) := vtab tk61 4 rfl
theorem e61_8b (L : VL) (st : List Value) (h : VG) (x : Int32) : ev 61 8 L (.int x :: st) h = ev 61 9 L (.int x :: .int x :: st) h := G_dup_int f61_8
theorem e61_8 (L : VL) (st : List Value) (h : VG) (x : Nat) : ev 61 8 L (.ref x :: st) h = ev 61 9 L (.ref x :: .ref x :: st) h := G_dup_ref f61_8
theorem f61_9 : fetch 61 9 = some (.invokespecial 11, 3) := vtab tk61 5 rfl
theorem e61_9 (L : VL) (st : List Value) (h : VG) (b : Nat)  (hs : catS st ≤ 8) : ev 61 9 L (.ref b :: st) h = (ev 51 0 [some (.ref b)] [] h).bind fun q => ev 61 12 L (q.1.toList ++ st) q.2 := G_calli (k := 5) (p := 220) (ars := []) f61_9 lkC_7_11 (by decide) (by decide +kernel) rfl (Nat.le_of_ble_eq_true rfl) hs rfl
theorem f61_12 : fetch 61 12 = some (.putfield 12, 3) := vtab tk61 6 rfl
theorem e61_12 (L : VL) (st : List Value) (h : VG) (a : Nat) (x : Nat) (ho : ob h a 6) : ev 61 12 L (.ref x :: .ref a :: st) h = ev 61 15 L (st) (pR h a 0 x) := G_putR (p := 334) f61_12 lkF_7_12 (by decide) (by decide) (by decide +kernel) ⟨rfl, rfl⟩ ho
theorem f61_15 : fetch 61 15 = some (.aload_n 0, 1) := vtab tk61 7 rfl
theorem e61_15 (L : VL) (st : List Value) (h : VG) (x : Nat) : ev 61 15 (some (.ref x) :: L) (st) h = ev 61 16 (some (.ref x) :: L) (.ref x :: st) h := G_aload_n f61_15 rfl
theorem f61_16 : fetch 61 16 = some (.bipush 6, 2) := vtab tk61 8 rfl
theorem e61_16 (L : VL) (st : List Value) (h : VG) : ev 61 16 L (st) h = ev 61 18 L (.int (6 : Int32) :: st) h := G_bipush f61_16 (by decide)
theorem f61_18 : fetch 61 18 = some (.anewarray 18, 3) := vtab tk61 9 rfl
theorem e61_18 (L : VL) (st : List Value) (h : VG) (n : Int32) (hn : ¬ n < 0 ∧ n.toNatClampNeg ≤ 4096) : ev 61 18 L (.int n :: st) h = ev 61 21 L (.ref h.2.1 :: st) (hnew h (.inl (6, n.toNatClampNeg, .inr (.inr (.inr (.inr (fun _ => none)))))) n.toNatClampNeg) := G_anewa (ci := 3) (p := 240) f61_18 lkN_7_18 ⟨hn.1, hn.2, by decide⟩
theorem f61_21 : fetch 61 21 = some (.putfield 20, 3) := vtab tk61 10 rfl
theorem e61_21 (L : VL) (st : List Value) (h : VG) (a : Nat) (x : Nat) (ho : ob h a 6) : ev 61 21 L (.ref x :: .ref a :: st) h = ev 61 24 L (st) (pR h a 1 x) := G_putR (p := 337) f61_21 lkF_7_20 (by decide) (by decide) (by decide +kernel) ⟨rfl, rfl⟩ ho
theorem f61_24 : fetch 61 24 = some (.iconst 0, 1) := vtab tk61 11 rfl
theorem e61_24 (L : VL) (st : List Value) (h : VG) : ev 61 24 L (st) h = ev 61 25 L (.int (0 : Int32) :: st) h := G_iconst f61_24 (by decide)
theorem f61_25 : fetch 61 25 = some (.istore_n 1, 1) := vtab tk61 12 rfl
theorem e61_25 (l0 l1 : Option Value) (L : VL) (st : List Value) (h : VG) (x : Int32) : ev 61 25 (l0 :: l1 :: L) (.int x :: st) h = ev 61 26 (vkk l0 :: some (.int x) :: L) (st) h := G_istore_n f61_25 rfl (S1_1 l0 l1 L _)
theorem f61_26 : fetch 61 26 = some (.iload_n 1, 1) := vtab tk61 13 rfl
theorem e61_26 (l0 : Option Value) (L : VL) (st : List Value) (h : VG) (x : Int32) : ev 61 26 (l0 :: some (.int x) :: L) (st) h = ev 61 27 (l0 :: some (.int x) :: L) (.int x :: st) h := G_iload_n f61_26 rfl
theorem f61_27 : fetch 61 27 = some (.bipush 6, 2) := vtab tk61 14 rfl
theorem e61_27 (L : VL) (st : List Value) (h : VG) : ev 61 27 L (st) h = ev 61 29 L (.int (6 : Int32) :: st) h := G_bipush f61_27 (by decide)
theorem f61_29 : fetch 61 29 = some (.if_icmp .ge 22, 3) := vtab tk61 15 rfl
theorem e61_29 (L : VL) (st : List Value) (h : VG) (x y : Int32) : ev 61 29 L (.int y :: .int x :: st) h = if x < y then ev 61 32 L st h else ev 61 51 L st h := G_icmp_ge f61_29 (by decide)
theorem f61_32 : fetch 61 32 = some (.aload_n 0, 1) := vtab tk61 16 rfl
theorem e61_32 (L : VL) (st : List Value) (h : VG) (x : Nat) : ev 61 32 (some (.ref x) :: L) (st) h = ev 61 33 (some (.ref x) :: L) (.ref x :: st) h := G_aload_n f61_32 rfl
theorem f61_33 : fetch 61 33 = some (.getfield 20, 3) := vtab tk61 17 rfl
theorem e61_33 (L : VL) (st : List Value) (h : VG) (a : Nat) (ho : ob h a 6) (hr : isR h a 1) : ev 61 33 L (.ref a :: st) h = ev 61 36 L (.ref (gR h a 1) :: st) h := G_getR (p := 337) f61_33 lkF_7_20 (by decide) (by decide) ho hr
theorem f61_36 : fetch 61 36 = some (.iload_n 1, 1) := vtab tk61 18 rfl
theorem e61_36 (l0 : Option Value) (L : VL) (st : List Value) (h : VG) (x : Int32) : ev 61 36 (l0 :: some (.int x) :: L) (st) h = ev 61 37 (l0 :: some (.int x) :: L) (.int x :: st) h := G_iload_n f61_36 rfl
theorem f61_37 : fetch 61 37 = some (.new 18, 3) := vtab tk61 19 rfl
theorem e61_37 (L : VL) (st : List Value) (h : VG) : ev 61 37 L (st) h = ev 61 40 L (.ref h.2.1 :: st) (hnew h (.inr (3, vDef 3)) (vNsl 3)) := G_new (p := 240) f61_37 lkN_7_18
theorem f61_40 : fetch 61 40 = some (.dup, 1) := vtab tk61 20 rfl
theorem e61_40b (L : VL) (st : List Value) (h : VG) (x : Int32) : ev 61 40 L (.int x :: st) h = ev 61 41 L (.int x :: .int x :: st) h := G_dup_int f61_40
theorem e61_40 (L : VL) (st : List Value) (h : VG) (x : Nat) : ev 61 40 L (.ref x :: st) h = ev 61 41 L (.ref x :: .ref x :: st) h := G_dup_ref f61_40
theorem f61_41 : fetch 61 41 = some (.invokespecial 24, 3) := vtab tk61 21 rfl
theorem e61_41 (L : VL) (st : List Value) (h : VG) (b : Nat)  (hs : catS st ≤ 8) : ev 61 41 L (.ref b :: st) h = (ev 26 0 [some (.ref b)] [] h).bind fun q => ev 61 44 L (q.1.toList ++ st) q.2 := G_calli (k := 5) (p := 243) (ars := []) f61_41 lkC_7_24 (by decide) (by decide +kernel) rfl (Nat.le_of_ble_eq_true rfl) hs rfl
theorem f61_45 : fetch 61 45 = some (.iinc 1 1, 3) := vtab tk61 22 rfl
theorem e61_45 (l0 : Option Value) (L : VL) (st : List Value) (h : VG) (x : Int32) : ev 61 45 (l0 :: some (.int x) :: L) (st) h = ev 61 48 (vkk l0 :: some (.int (x + (1 : Int32))) :: L) (st) h := G_iinc f61_45 rfl (by decide) (S1_1 l0 (some (.int x)) L _)
theorem f61_48 : fetch 61 48 = some (.goto (-22), 3) := vtab tk61 23 rfl
theorem e61_48 (L : VL) (st : List Value) (h : VG) : ev 61 48 L (st) h = ev 61 26 L (st) h := G_goto f61_48 (by decide)
theorem f61_51 : fetch 61 51 = some (.return_, 1) := vtab tk61 24 rfl
theorem e61_51 (L : VL) (h : VG) : ev 61 51 L [] h = some (none, h) := G_vret f61_51 (by decide)
/-! 62 GuestCalls$Plan.begin()V -/
def tb62 : List (Nat × Instr × Nat) := [(0, .aload_n 0, 1), (1, .getfield 12, 3), (4, .invokevirtual 25, 3), (7, .aload_n 0, 1), (8, .iconst 0, 1), (9, .putfield 28, 3), (12, .return_, 1)]
theorem tk62 : tb62.all (fun q => decide (fetch 62 q.1 = some q.2)) = true := by decide +kernel
theorem f62_0 : fetch 62 0 = some (.aload_n 0, 1) := vtab tk62 0 rfl
theorem e62_0 (L : VL) (st : List Value) (h : VG) (x : Nat) : ev 62 0 (some (.ref x) :: L) (st) h = ev 62 1 (some (.ref x) :: L) (.ref x :: st) h := G_aload_n f62_0 rfl
theorem f62_1 : fetch 62 1 = some (.getfield 12, 3) := vtab tk62 1 rfl
theorem e62_1 (L : VL) (st : List Value) (h : VG) (a : Nat) (ho : ob h a 6) (hr : isR h a 0) : ev 62 1 L (.ref a :: st) h = ev 62 4 L (.ref (gR h a 0) :: st) h := G_getR (p := 334) f62_1 lkF_7_12 (by decide) (by decide) ho hr
theorem f62_4 : fetch 62 4 = some (.invokevirtual 25, 3) := vtab tk62 2 rfl
theorem e62_4 (L : VL) (st : List Value) (h : VG) (b : Nat)  (ho : ob h b 5) (hs : catS st ≤ 8) : ev 62 4 L (.ref b :: st) h = (ev 52 0 [some (.ref b)] [] h).bind fun q => ev 62 7 L (q.1.toList ++ st) q.2 := G_callv (k := 1) (p := 523) (ars := []) f62_4 lkC_7_25 (by decide) (by decide +kernel) rfl (vcls_ob (ci := 5) (by decide) ho) (Nat.le_of_ble_eq_true rfl) hs rfl
theorem f62_7 : fetch 62 7 = some (.aload_n 0, 1) := vtab tk62 3 rfl
theorem e62_7 (L : VL) (st : List Value) (h : VG) (x : Nat) : ev 62 7 (some (.ref x) :: L) (st) h = ev 62 8 (some (.ref x) :: L) (.ref x :: st) h := G_aload_n f62_7 rfl
theorem f62_8 : fetch 62 8 = some (.iconst 0, 1) := vtab tk62 4 rfl
theorem e62_8 (L : VL) (st : List Value) (h : VG) : ev 62 8 L (st) h = ev 62 9 L (.int (0 : Int32) :: st) h := G_iconst f62_8 (by decide)
theorem f62_9 : fetch 62 9 = some (.putfield 28, 3) := vtab tk62 5 rfl
theorem e62_9 (L : VL) (st : List Value) (h : VG) (a : Nat) (x : Int32) (ho : ob h a 6) : ev 62 9 L (.int x :: .ref a :: st) h = ev 62 12 L (st) (pI h a 2 x) := G_putI (p := 340) f62_9 lkF_7_28 (by decide) (by decide) (by decide +kernel) ⟨rfl, rfl⟩ ho
theorem f62_12 : fetch 62 12 = some (.return_, 1) := vtab tk62 6 rfl
theorem e62_12 (L : VL) (h : VG) : ev 62 12 L [] h = some (none, h) := G_vret f62_12 (by decide)
/-! 63 GuestCalls$Plan.hasName(J)Z -/
def tb63 : List (Nat × Instr × Nat) := [(0, .iconst 0, 1), (1, .istore_n 3, 1), (2, .iload_n 3, 1), (3, .aload_n 0, 1), (4, .getfield 28, 3), (7, .if_icmp .ge 25, 3), (10, .aload_n 0, 1), (11, .getfield 20, 3), (14, .iload_n 3, 1), (15, .aaload, 1), (16, .getfield 32, 3), (19, .lload_n 1, 1), (20, .lcmp, 1), (21, .ifCond .ne 5, 3), (24, .iconst 1, 1), (25, .ireturn, 1), (26, .iinc 3 1, 3), (29, .goto (-27), 3), (32, .iconst 0, 1), (33, .ireturn, 1)]
theorem tk63 : tb63.all (fun q => decide (fetch 63 q.1 = some q.2)) = true := by decide +kernel
theorem f63_0 : fetch 63 0 = some (.iconst 0, 1) := vtab tk63 0 rfl
theorem e63_0 (L : VL) (st : List Value) (h : VG) : ev 63 0 L (st) h = ev 63 1 L (.int (0 : Int32) :: st) h := G_iconst f63_0 (by decide)
theorem f63_1 : fetch 63 1 = some (.istore_n 3, 1) := vtab tk63 1 rfl
theorem e63_1 (l0 l1 l2 l3 : Option Value) (L : VL) (st : List Value) (h : VG) (x : Int32) : ev 63 1 (l0 :: l1 :: l2 :: l3 :: L) (.int x :: st) h = ev 63 2 (l0 :: l1 :: vkk l2 :: some (.int x) :: L) (st) h := G_istore_n f63_1 rfl (S1_3 l0 l1 l2 l3 L _)
theorem f63_2 : fetch 63 2 = some (.iload_n 3, 1) := vtab tk63 2 rfl
theorem e63_2 (l0 l1 l2 : Option Value) (L : VL) (st : List Value) (h : VG) (x : Int32) : ev 63 2 (l0 :: l1 :: l2 :: some (.int x) :: L) (st) h = ev 63 3 (l0 :: l1 :: l2 :: some (.int x) :: L) (.int x :: st) h := G_iload_n f63_2 rfl
theorem f63_3 : fetch 63 3 = some (.aload_n 0, 1) := vtab tk63 3 rfl
theorem e63_3 (L : VL) (st : List Value) (h : VG) (x : Nat) : ev 63 3 (some (.ref x) :: L) (st) h = ev 63 4 (some (.ref x) :: L) (.ref x :: st) h := G_aload_n f63_3 rfl
theorem f63_4 : fetch 63 4 = some (.getfield 28, 3) := vtab tk63 4 rfl
theorem e63_4 (L : VL) (st : List Value) (h : VG) (a : Nat) (ho : ob h a 6) : ev 63 4 L (.ref a :: st) h = ev 63 7 L (.int (gI h a 2) :: st) h := G_getI (p := 340) f63_4 lkF_7_28 (by decide) (by decide) ho
theorem f63_7 : fetch 63 7 = some (.if_icmp .ge 25, 3) := vtab tk63 5 rfl
theorem e63_7 (L : VL) (st : List Value) (h : VG) (x y : Int32) : ev 63 7 L (.int y :: .int x :: st) h = if x < y then ev 63 10 L st h else ev 63 32 L st h := G_icmp_ge f63_7 (by decide)
theorem f63_10 : fetch 63 10 = some (.aload_n 0, 1) := vtab tk63 6 rfl
theorem e63_10 (L : VL) (st : List Value) (h : VG) (x : Nat) : ev 63 10 (some (.ref x) :: L) (st) h = ev 63 11 (some (.ref x) :: L) (.ref x :: st) h := G_aload_n f63_10 rfl
theorem f63_11 : fetch 63 11 = some (.getfield 20, 3) := vtab tk63 7 rfl
theorem e63_11 (L : VL) (st : List Value) (h : VG) (a : Nat) (ho : ob h a 6) (hr : isR h a 1) : ev 63 11 L (.ref a :: st) h = ev 63 14 L (.ref (gR h a 1) :: st) h := G_getR (p := 337) f63_11 lkF_7_20 (by decide) (by decide) ho hr
theorem f63_14 : fetch 63 14 = some (.iload_n 3, 1) := vtab tk63 8 rfl
theorem e63_14 (l0 l1 l2 : Option Value) (L : VL) (st : List Value) (h : VG) (x : Int32) : ev 63 14 (l0 :: l1 :: l2 :: some (.int x) :: L) (st) h = ev 63 15 (l0 :: l1 :: l2 :: some (.int x) :: L) (.int x :: st) h := G_iload_n f63_14 rfl
theorem f63_15 : fetch 63 15 = some (.aaload, 1) := vtab tk63 9 rfl
theorem e63_15 (L : VL) (st : List Value) (h : VG) (a : Nat) (i : Int32) (ha : rdR h a) (hi : vp_in i (aln h a)) : ev 63 15 L (.int i :: .ref a :: st) h = ev 63 16 L (va_rf (aR h a i.toNatClampNeg) :: st) h := G_aald' f63_15 ha hi
theorem f63_16 : fetch 63 16 = some (.getfield 32, 3) := vtab tk63 10 rfl
theorem e63_16 (L : VL) (st : List Value) (h : VG) (a : Nat) (ho : ob h a 3) : ev 63 16 L (.ref a :: st) h = ev 63 19 L (.long (gL h a 0) :: st) h := G_getL (p := 292) f63_16 lkF_7_32 (by decide) (by decide) ho
theorem f63_19 : fetch 63 19 = some (.lload_n 1, 1) := vtab tk63 11 rfl
theorem e63_19 (l0 : Option Value) (L : VL) (st : List Value) (h : VG) (x : Int64) : ev 63 19 (l0 :: some (.long x) :: L) (st) h = ev 63 20 (l0 :: some (.long x) :: L) (.long x :: st) h := G_lload_n f63_19 rfl
theorem f63_20 : fetch 63 20 = some (.lcmp, 1) := vtab tk63 12 rfl
theorem e63_20 (L : VL) (st : List Value) (h : VG) (x y : Int64) : ev 63 20 L (.long y :: .long x :: st) h = ev 63 21 L (.int (lg_cmp x y) :: st) h := G_lcmp f63_20
theorem f63_21 : fetch 63 21 = some (.ifCond .ne 5, 3) := vtab tk63 13 rfl
theorem e63_21 (L : VL) (st : List Value) (h : VG) (x : Int32) : ev 63 21 L (.int x :: st) h = if x = 0 then ev 63 24 L st h else ev 63 26 L st h := G_if_ne f63_21 (by decide)
theorem f63_24 : fetch 63 24 = some (.iconst 1, 1) := vtab tk63 14 rfl
theorem e63_24 (L : VL) (st : List Value) (h : VG) : ev 63 24 L (st) h = ev 63 25 L (.int (1 : Int32) :: st) h := G_iconst f63_24 (by decide)
theorem f63_25 : fetch 63 25 = some (.ireturn, 1) := vtab tk63 15 rfl
theorem e63_25 (L : VL) (h : VG) (x : Int32) (hz : x = 0 ∨ x = 1) : ev 63 25 L [.int x] h = some (some (.int x), h) := G_iret f63_25 (ty := .boolean) (by decide) (vbool hz).1
theorem f63_26 : fetch 63 26 = some (.iinc 3 1, 3) := vtab tk63 16 rfl
theorem e63_26 (l0 l1 l2 : Option Value) (L : VL) (st : List Value) (h : VG) (x : Int32) : ev 63 26 (l0 :: l1 :: l2 :: some (.int x) :: L) (st) h = ev 63 29 (l0 :: l1 :: vkk l2 :: some (.int (x + (1 : Int32))) :: L) (st) h := G_iinc f63_26 rfl (by decide) (S1_3 l0 l1 l2 (some (.int x)) L _)
theorem f63_29 : fetch 63 29 = some (.goto (-27), 3) := vtab tk63 17 rfl
theorem e63_29 (L : VL) (st : List Value) (h : VG) : ev 63 29 L (st) h = ev 63 2 L (st) h := G_goto f63_29 (by decide)
theorem f63_32 : fetch 63 32 = some (.iconst 0, 1) := vtab tk63 18 rfl
theorem e63_32 (L : VL) (st : List Value) (h : VG) : ev 63 32 L (st) h = ev 63 33 L (.int (0 : Int32) :: st) h := G_iconst f63_32 (by decide)
theorem f63_33 : fetch 63 33 = some (.ireturn, 1) := vtab tk63 19 rfl
theorem e63_33 (L : VL) (h : VG) (x : Int32) (hz : x = 0 ∨ x = 1) : ev 63 33 L [.int x] h = some (some (.int x), h) := G_iret f63_33 (ty := .boolean) (by decide) (vbool hz).1
/-! 64 GuestCalls$Reader.<init>()V -/
def tb64 : List (Nat × Instr × Nat) := [(0, .aload_n 0, 1), (1, .invokespecial 3, 3), (4, .aload_n 0, 1), (5, .new 9, 3), (8, .dup, 1), (9, .invokespecial 11, 3), (12, .putfield 12, 3), (15, .return_, 1)]
theorem tk64 : tb64.all (fun q => decide (fetch 64 q.1 = some q.2)) = true := by decide +kernel
theorem f64_0 : fetch 64 0 = some (.aload_n 0, 1) := vtab tk64 0 rfl
theorem e64_0 (L : VL) (st : List Value) (h : VG) (x : Nat) : ev 64 0 (some (.ref x) :: L) (st) h = ev 64 1 (some (.ref x) :: L) (.ref x :: st) h := G_aload_n f64_0 rfl
theorem f64_1 : fetch 64 1 = some (.invokespecial 3, 3) := vtab tk64 1 rfl
theorem e64_1 (L : VL) (st : List Value) (h : VG) (a : Nat) (hs : catS st ≤ 8) : ev 64 1 L (.ref a :: st) h = ev 64 4 L (st) h := G_objinit (y := 0) (p := 114) f64_1 lkC_8_3 hs
theorem f64_4 : fetch 64 4 = some (.aload_n 0, 1) := vtab tk64 2 rfl
theorem e64_4 (L : VL) (st : List Value) (h : VG) (x : Nat) : ev 64 4 (some (.ref x) :: L) (st) h = ev 64 5 (some (.ref x) :: L) (.ref x :: st) h := G_aload_n f64_4 rfl
theorem f64_5 : fetch 64 5 = some (.new 9, 3) := vtab tk64 3 rfl
theorem e64_5 (L : VL) (st : List Value) (h : VG) : ev 64 5 L (st) h = ev 64 8 L (.ref h.2.1 :: st) (hnew h (.inr (9, vDef 9)) (vNsl 9)) := G_new (p := 115) f64_5 lkN_8_9
theorem f64_8 : fetch 64 8 = some (.dup, 1) := vtab tk64 4 rfl
theorem e64_8b (L : VL) (st : List Value) (h : VG) (x : Int32) : ev 64 8 L (.int x :: st) h = ev 64 9 L (.int x :: .int x :: st) h := G_dup_int f64_8
theorem e64_8 (L : VL) (st : List Value) (h : VG) (x : Nat) : ev 64 8 L (.ref x :: st) h = ev 64 9 L (.ref x :: .ref x :: st) h := G_dup_ref f64_8
theorem f64_9 : fetch 64 9 = some (.invokespecial 11, 3) := vtab tk64 5 rfl
theorem e64_9 (L : VL) (st : List Value) (h : VG) (b : Nat)  (hs : catS st ≤ 8) : ev 64 9 L (.ref b :: st) h = (ev 83 0 [some (.ref b), none, none] [] h).bind fun q => ev 64 12 L (q.1.toList ++ st) q.2 := G_calli (k := 2) (p := 117) (ars := []) f64_9 lkC_8_11 (by decide) (by decide +kernel) rfl (Nat.le_of_ble_eq_true rfl) hs rfl
theorem f64_12 : fetch 64 12 = some (.putfield 12, 3) := vtab tk64 6 rfl
theorem e64_12 (L : VL) (st : List Value) (h : VG) (a : Nat) (x : Nat) (ho : ob h a 7) : ev 64 12 L (.ref x :: .ref a :: st) h = ev 64 15 L (st) (pR h a 1 x) := G_putR (p := 194) f64_12 lkF_8_12 (by decide) (by decide) (by decide +kernel) ⟨rfl, rfl⟩ ho
theorem f64_15 : fetch 64 15 = some (.return_, 1) := vtab tk64 7 rfl
theorem e64_15 (L : VL) (h : VG) : ev 64 15 L [] h = some (none, h) := G_vret f64_15 (by decide)
/-! 65 GuestCalls$Reader.faultOf([BILGuestCalls$Plan;)I -/
def tb65 : List (Nat × Instr × Nat) := [(0, .aload_n 0, 1), (1, .getfield 12, 3), (4, .aload_n 1, 1), (5, .iload_n 2, 1), (6, .invokevirtual 18, 3), (9, .aload_n 0, 1), (10, .aload_n 3, 1), (11, .putfield 22, 3), (14, .aload_n 0, 1), (15, .getfield 22, 3), (18, .invokevirtual 26, 3), (21, .aload_n 0, 1), (22, .iconst 0, 1), (23, .putfield 31, 3), (26, .aload_n 0, 1), (27, .iconst 0, 1), (28, .putfield 35, 3), (31, .aload_n 0, 1), (32, .iconst 0, 1), (33, .putfield 38, 3), (36, .iconst 0, 1), (37, .istore 4, 2), (39, .iload 4, 2), (41, .sipush 400, 3), (44, .if_icmp .gt 28, 3), (47, .aload_n 0, 1), (48, .getfield 38, 3), (51, .ifCond .ne 21, 3), (54, .aload_n 0, 1), (55, .iconst 0, 1), (56, .invokevirtual 42, 3), (59, .ifCond .ne 13, 3), (62, .aload_n 0, 1), (63, .invokevirtual 46, 3), (66, .iinc 4 1, 3), (69, .goto (-30), 3), (72, .aload_n 0, 1), (73, .getfield 35, 3), (76, .ireturn, 1)]
theorem tk65 : tb65.all (fun q => decide (fetch 65 q.1 = some q.2)) = true := by decide +kernel
theorem f65_0 : fetch 65 0 = some (.aload_n 0, 1) := vtab tk65 0 rfl
theorem e65_0 (L : VL) (st : List Value) (h : VG) (x : Nat) : ev 65 0 (some (.ref x) :: L) (st) h = ev 65 1 (some (.ref x) :: L) (.ref x :: st) h := G_aload_n f65_0 rfl
theorem f65_1 : fetch 65 1 = some (.getfield 12, 3) := vtab tk65 1 rfl
theorem e65_1 (L : VL) (st : List Value) (h : VG) (a : Nat) (ho : ob h a 7) (hr : isR h a 1) : ev 65 1 L (.ref a :: st) h = ev 65 4 L (.ref (gR h a 1) :: st) h := G_getR (p := 194) f65_1 lkF_8_12 (by decide) (by decide) ho hr
theorem f65_4 : fetch 65 4 = some (.aload_n 1, 1) := vtab tk65 2 rfl
theorem e65_4 (l0 : Option Value) (L : VL) (st : List Value) (h : VG) (x : Nat) : ev 65 4 (l0 :: some (.ref x) :: L) (st) h = ev 65 5 (l0 :: some (.ref x) :: L) (.ref x :: st) h := G_aload_n f65_4 rfl
theorem f65_5 : fetch 65 5 = some (.iload_n 2, 1) := vtab tk65 3 rfl
theorem e65_5 (l0 l1 : Option Value) (L : VL) (st : List Value) (h : VG) (x : Int32) : ev 65 5 (l0 :: l1 :: some (.int x) :: L) (st) h = ev 65 6 (l0 :: l1 :: some (.int x) :: L) (.int x :: st) h := G_iload_n f65_5 rfl
theorem f65_6 : fetch 65 6 = some (.invokevirtual 18, 3) := vtab tk65 4 rfl
theorem e65_6 (L : VL) (st : List Value) (h : VG) (b : Nat) (x0 : Nat) (x1 : Int32) (ho : ob h b 9) (hs : catS st ≤ 8) : ev 65 6 L (.int x1 :: .ref x0 :: .ref b :: st) h = (ev 85 0 [some (.ref b), some (.ref x0), some (.int x1), none, none] [] h).bind fun q => ev 65 9 L (q.1.toList ++ st) q.2 := G_callv (k := 1) (p := 492) (ars := [.ref x0, .int x1]) f65_6 lkC_8_18 (by decide) (by decide +kernel) rfl (vcls_ob (ci := 9) (by decide) ho) (Nat.le_of_ble_eq_true rfl) hs rfl
theorem f65_9 : fetch 65 9 = some (.aload_n 0, 1) := vtab tk65 5 rfl
theorem e65_9 (L : VL) (st : List Value) (h : VG) (x : Nat) : ev 65 9 (some (.ref x) :: L) (st) h = ev 65 10 (some (.ref x) :: L) (.ref x :: st) h := G_aload_n f65_9 rfl
theorem f65_10 : fetch 65 10 = some (.aload_n 3, 1) := vtab tk65 6 rfl
theorem e65_10 (l0 l1 l2 : Option Value) (L : VL) (st : List Value) (h : VG) (x : Nat) : ev 65 10 (l0 :: l1 :: l2 :: some (.ref x) :: L) (st) h = ev 65 11 (l0 :: l1 :: l2 :: some (.ref x) :: L) (.ref x :: st) h := G_aload_n f65_10 rfl
theorem f65_11 : fetch 65 11 = some (.putfield 22, 3) := vtab tk65 7 rfl
theorem e65_11 (L : VL) (st : List Value) (h : VG) (a : Nat) (x : Nat) (ho : ob h a 7) : ev 65 11 L (.ref x :: .ref a :: st) h = ev 65 14 L (st) (pR h a 2 x) := G_putR (p := 195) f65_11 lkF_8_22 (by decide) (by decide) (by decide +kernel) ⟨rfl, rfl⟩ ho
theorem f65_14 : fetch 65 14 = some (.aload_n 0, 1) := vtab tk65 8 rfl
theorem e65_14 (L : VL) (st : List Value) (h : VG) (x : Nat) : ev 65 14 (some (.ref x) :: L) (st) h = ev 65 15 (some (.ref x) :: L) (.ref x :: st) h := G_aload_n f65_14 rfl
theorem f65_15 : fetch 65 15 = some (.getfield 22, 3) := vtab tk65 9 rfl
theorem e65_15 (L : VL) (st : List Value) (h : VG) (a : Nat) (ho : ob h a 7) (hr : isR h a 2) : ev 65 15 L (.ref a :: st) h = ev 65 18 L (.ref (gR h a 2) :: st) h := G_getR (p := 195) f65_15 lkF_8_22 (by decide) (by decide) ho hr
theorem f65_18 : fetch 65 18 = some (.invokevirtual 26, 3) := vtab tk65 10 rfl
theorem e65_18 (L : VL) (st : List Value) (h : VG) (b : Nat)  (ho : ob h b 6) (hs : catS st ≤ 8) : ev 65 18 L (.ref b :: st) h = (ev 62 0 [some (.ref b)] [] h).bind fun q => ev 65 21 L (q.1.toList ++ st) q.2 := G_callv (k := 1) (p := 519) (ars := []) f65_18 lkC_8_26 (by decide) (by decide +kernel) rfl (vcls_ob (ci := 6) (by decide) ho) (Nat.le_of_ble_eq_true rfl) hs rfl
theorem f65_21 : fetch 65 21 = some (.aload_n 0, 1) := vtab tk65 11 rfl
theorem e65_21 (L : VL) (st : List Value) (h : VG) (x : Nat) : ev 65 21 (some (.ref x) :: L) (st) h = ev 65 22 (some (.ref x) :: L) (.ref x :: st) h := G_aload_n f65_21 rfl
theorem f65_22 : fetch 65 22 = some (.iconst 0, 1) := vtab tk65 12 rfl
theorem e65_22 (L : VL) (st : List Value) (h : VG) : ev 65 22 L (st) h = ev 65 23 L (.int (0 : Int32) :: st) h := G_iconst f65_22 (by decide)
theorem f65_23 : fetch 65 23 = some (.putfield 31, 3) := vtab tk65 13 rfl
theorem e65_23 (L : VL) (st : List Value) (h : VG) (a : Nat) (x : Int32) (ho : ob h a 7) : ev 65 23 L (.int x :: .ref a :: st) h = ev 65 26 L (st) (pI h a 3 x) := G_putI (p := 196) f65_23 lkF_8_31 (by decide) (by decide) (by decide +kernel) ⟨rfl, rfl⟩ ho
theorem f65_26 : fetch 65 26 = some (.aload_n 0, 1) := vtab tk65 14 rfl
theorem e65_26 (L : VL) (st : List Value) (h : VG) (x : Nat) : ev 65 26 (some (.ref x) :: L) (st) h = ev 65 27 (some (.ref x) :: L) (.ref x :: st) h := G_aload_n f65_26 rfl
theorem f65_27 : fetch 65 27 = some (.iconst 0, 1) := vtab tk65 15 rfl
theorem e65_27 (L : VL) (st : List Value) (h : VG) : ev 65 27 L (st) h = ev 65 28 L (.int (0 : Int32) :: st) h := G_iconst f65_27 (by decide)
theorem f65_28 : fetch 65 28 = some (.putfield 35, 3) := vtab tk65 16 rfl
theorem e65_28 (L : VL) (st : List Value) (h : VG) (a : Nat) (x : Int32) (ho : ob h a 7) : ev 65 28 L (.int x :: .ref a :: st) h = ev 65 31 L (st) (pI h a 4 x) := G_putI (p := 197) f65_28 lkF_8_35 (by decide) (by decide) (by decide +kernel) ⟨rfl, rfl⟩ ho
theorem f65_31 : fetch 65 31 = some (.aload_n 0, 1) := vtab tk65 17 rfl
theorem e65_31 (L : VL) (st : List Value) (h : VG) (x : Nat) : ev 65 31 (some (.ref x) :: L) (st) h = ev 65 32 (some (.ref x) :: L) (.ref x :: st) h := G_aload_n f65_31 rfl
theorem f65_32 : fetch 65 32 = some (.iconst 0, 1) := vtab tk65 18 rfl
theorem e65_32 (L : VL) (st : List Value) (h : VG) : ev 65 32 L (st) h = ev 65 33 L (.int (0 : Int32) :: st) h := G_iconst f65_32 (by decide)
theorem f65_33 : fetch 65 33 = some (.putfield 38, 3) := vtab tk65 19 rfl
theorem e65_33 (L : VL) (st : List Value) (h : VG) (a : Nat) (x : Int32) (ho : ob h a 7) (hz : x = 0 ∨ x = 1) : ev 65 33 L (.int x :: .ref a :: st) h = ev 65 36 L (st) (pI h a 5 x) := G_putI (ci := 7) (p := 198) f65_33 lkF_8_38 (by decide) (by decide) (by decide +kernel) (vbool hz) ho
theorem f65_36 : fetch 65 36 = some (.iconst 0, 1) := vtab tk65 20 rfl
theorem e65_36 (L : VL) (st : List Value) (h : VG) : ev 65 36 L (st) h = ev 65 37 L (.int (0 : Int32) :: st) h := G_iconst f65_36 (by decide)
theorem f65_37 : fetch 65 37 = some (.istore 4, 2) := vtab tk65 21 rfl
theorem e65_37 (l0 l1 l2 l3 l4 : Option Value) (L : VL) (st : List Value) (h : VG) (x : Int32) : ev 65 37 (l0 :: l1 :: l2 :: l3 :: l4 :: L) (.int x :: st) h = ev 65 39 (l0 :: l1 :: l2 :: vkk l3 :: some (.int x) :: L) (st) h := G_istore f65_37 rfl (S1_4 l0 l1 l2 l3 l4 L _)
theorem f65_39 : fetch 65 39 = some (.iload 4, 2) := vtab tk65 22 rfl
theorem e65_39 (l0 l1 l2 l3 : Option Value) (L : VL) (st : List Value) (h : VG) (x : Int32) : ev 65 39 (l0 :: l1 :: l2 :: l3 :: some (.int x) :: L) (st) h = ev 65 41 (l0 :: l1 :: l2 :: l3 :: some (.int x) :: L) (.int x :: st) h := G_iload f65_39 rfl
theorem f65_41 : fetch 65 41 = some (.sipush 400, 3) := vtab tk65 23 rfl
theorem e65_41 (L : VL) (st : List Value) (h : VG) : ev 65 41 L (st) h = ev 65 44 L (.int (400 : Int32) :: st) h := G_sipush f65_41 (by decide)
theorem f65_44 : fetch 65 44 = some (.if_icmp .gt 28, 3) := vtab tk65 24 rfl
theorem e65_44 (L : VL) (st : List Value) (h : VG) (x y : Int32) : ev 65 44 L (.int y :: .int x :: st) h = if x ≤ y then ev 65 47 L st h else ev 65 72 L st h := G_icmp_gt f65_44 (by decide)
theorem f65_47 : fetch 65 47 = some (.aload_n 0, 1) := vtab tk65 25 rfl
theorem e65_47 (L : VL) (st : List Value) (h : VG) (x : Nat) : ev 65 47 (some (.ref x) :: L) (st) h = ev 65 48 (some (.ref x) :: L) (.ref x :: st) h := G_aload_n f65_47 rfl
theorem f65_48 : fetch 65 48 = some (.getfield 38, 3) := vtab tk65 26 rfl
theorem e65_48 (L : VL) (st : List Value) (h : VG) (a : Nat) (ho : ob h a 7) : ev 65 48 L (.ref a :: st) h = ev 65 51 L (.int (gI h a 5) :: st) h := G_getI (p := 198) f65_48 lkF_8_38 (by decide) (by decide) ho
theorem f65_51 : fetch 65 51 = some (.ifCond .ne 21, 3) := vtab tk65 27 rfl
theorem e65_51 (L : VL) (st : List Value) (h : VG) (x : Int32) : ev 65 51 L (.int x :: st) h = if x = 0 then ev 65 54 L st h else ev 65 72 L st h := G_if_ne f65_51 (by decide)
theorem f65_54 : fetch 65 54 = some (.aload_n 0, 1) := vtab tk65 28 rfl
theorem e65_54 (L : VL) (st : List Value) (h : VG) (x : Nat) : ev 65 54 (some (.ref x) :: L) (st) h = ev 65 55 (some (.ref x) :: L) (.ref x :: st) h := G_aload_n f65_54 rfl
theorem f65_55 : fetch 65 55 = some (.iconst 0, 1) := vtab tk65 29 rfl
theorem e65_55 (L : VL) (st : List Value) (h : VG) : ev 65 55 L (st) h = ev 65 56 L (.int (0 : Int32) :: st) h := G_iconst f65_55 (by decide)
theorem f65_56 : fetch 65 56 = some (.invokevirtual 42, 3) := vtab tk65 30 rfl
theorem e65_56 (L : VL) (st : List Value) (h : VG) (b : Nat) (x0 : Int32) (ho : ob h b 7) (hs : catS st ≤ 8) : ev 65 56 L (.int x0 :: .ref b :: st) h = (ev 67 0 [some (.ref b), some (.int x0)] [] h).bind fun q => ev 65 59 L (q.1.toList ++ st) q.2 := G_callv (k := 1) (p := 530) (ars := [.int x0]) f65_56 lkC_8_42 (by decide) (by decide +kernel) rfl (vcls_ob (ci := 7) (by decide) ho) (Nat.le_of_ble_eq_true rfl) hs rfl
theorem f65_59 : fetch 65 59 = some (.ifCond .ne 13, 3) := vtab tk65 31 rfl
theorem e65_59 (L : VL) (st : List Value) (h : VG) (x : Int32) : ev 65 59 L (.int x :: st) h = if x = 0 then ev 65 62 L st h else ev 65 72 L st h := G_if_ne f65_59 (by decide)
theorem f65_62 : fetch 65 62 = some (.aload_n 0, 1) := vtab tk65 32 rfl
theorem e65_62 (L : VL) (st : List Value) (h : VG) (x : Nat) : ev 65 62 (some (.ref x) :: L) (st) h = ev 65 63 (some (.ref x) :: L) (.ref x :: st) h := G_aload_n f65_62 rfl
theorem f65_63 : fetch 65 63 = some (.invokevirtual 46, 3) := vtab tk65 33 rfl
theorem e65_63 (L : VL) (st : List Value) (h : VG) (b : Nat)  (ho : ob h b 7) (hs : catS st ≤ 8) : ev 65 63 L (.ref b :: st) h = (ev 66 0 [some (.ref b)] [] h).bind fun q => ev 65 66 L (q.1.toList ++ st) q.2 := G_callv (k := 1) (p := 534) (ars := []) f65_63 lkC_8_46 (by decide) (by decide +kernel) rfl (vcls_ob (ci := 7) (by decide) ho) (Nat.le_of_ble_eq_true rfl) hs rfl
theorem f65_66 : fetch 65 66 = some (.iinc 4 1, 3) := vtab tk65 34 rfl
theorem e65_66 (l0 l1 l2 l3 : Option Value) (L : VL) (st : List Value) (h : VG) (x : Int32) : ev 65 66 (l0 :: l1 :: l2 :: l3 :: some (.int x) :: L) (st) h = ev 65 69 (l0 :: l1 :: l2 :: vkk l3 :: some (.int (x + (1 : Int32))) :: L) (st) h := G_iinc f65_66 rfl (by decide) (S1_4 l0 l1 l2 l3 (some (.int x)) L _)
theorem f65_69 : fetch 65 69 = some (.goto (-30), 3) := vtab tk65 35 rfl
theorem e65_69 (L : VL) (st : List Value) (h : VG) : ev 65 69 L (st) h = ev 65 39 L (st) h := G_goto f65_69 (by decide)
theorem f65_72 : fetch 65 72 = some (.aload_n 0, 1) := vtab tk65 36 rfl
theorem e65_72 (L : VL) (st : List Value) (h : VG) (x : Nat) : ev 65 72 (some (.ref x) :: L) (st) h = ev 65 73 (some (.ref x) :: L) (.ref x :: st) h := G_aload_n f65_72 rfl
theorem f65_73 : fetch 65 73 = some (.getfield 35, 3) := vtab tk65 37 rfl
theorem e65_73 (L : VL) (st : List Value) (h : VG) (a : Nat) (ho : ob h a 7) : ev 65 73 L (.ref a :: st) h = ev 65 76 L (.int (gI h a 4) :: st) h := G_getI (p := 197) f65_73 lkF_8_35 (by decide) (by decide) ho
theorem f65_76 : fetch 65 76 = some (.ireturn, 1) := vtab tk65 38 rfl
theorem e65_76 (L : VL) (h : VG) (x : Int32) : ev 65 76 L [.int x] h = some (some (.int x), h) := G_iret f65_76 (ty := .int) (by decide) rfl
/-! 66 GuestCalls$Reader.readTell()V -/
def tb66 : List (Nat × Instr × Nat) := [(0, .aload_n 0, 1), (1, .getfield 12, 3), (4, .getfield 49, 3), (7, .aload_n 0, 1), (8, .getfield 31, 3), (11, .iaload, 1), (12, .tableswitch 60 6 9 #[32, 39, 46, 53], 32), (44, .aload_n 0, 1), (45, .invokevirtual 53, 3), (48, .goto 30, 3), (51, .aload_n 0, 1), (52, .invokevirtual 56, 3), (55, .goto 23, 3), (58, .aload_n 0, 1), (59, .invokevirtual 59, 3), (62, .goto 16, 3), (65, .aload_n 0, 1), (66, .invokevirtual 62, 3), (69, .goto 9, 3), (72, .aload_n 0, 1), (73, .iconst 1, 1), (74, .invokevirtual 65, 3), (77, .pop, 1), (78, .return_, 1)]
theorem tk66 : tb66.all (fun q => decide (fetch 66 q.1 = some q.2)) = true := by decide +kernel
theorem f66_0 : fetch 66 0 = some (.aload_n 0, 1) := vtab tk66 0 rfl
theorem e66_0 (L : VL) (st : List Value) (h : VG) (x : Nat) : ev 66 0 (some (.ref x) :: L) (st) h = ev 66 1 (some (.ref x) :: L) (.ref x :: st) h := G_aload_n f66_0 rfl
theorem f66_1 : fetch 66 1 = some (.getfield 12, 3) := vtab tk66 1 rfl
theorem e66_1 (L : VL) (st : List Value) (h : VG) (a : Nat) (ho : ob h a 7) (hr : isR h a 1) : ev 66 1 L (.ref a :: st) h = ev 66 4 L (.ref (gR h a 1) :: st) h := G_getR (p := 194) f66_1 lkF_8_12 (by decide) (by decide) ho hr
theorem f66_4 : fetch 66 4 = some (.getfield 49, 3) := vtab tk66 2 rfl
theorem e66_4 (L : VL) (st : List Value) (h : VG) (a : Nat) (ho : ob h a 9) (hr : isR h a 0) : ev 66 4 L (.ref a :: st) h = ev 66 7 L (.ref (gR h a 0) :: st) h := G_getR (p := 174) f66_4 lkF_8_49 (by decide) (by decide) ho hr
theorem f66_7 : fetch 66 7 = some (.aload_n 0, 1) := vtab tk66 3 rfl
theorem e66_7 (L : VL) (st : List Value) (h : VG) (x : Nat) : ev 66 7 (some (.ref x) :: L) (st) h = ev 66 8 (some (.ref x) :: L) (.ref x :: st) h := G_aload_n f66_7 rfl
theorem f66_8 : fetch 66 8 = some (.getfield 31, 3) := vtab tk66 4 rfl
theorem e66_8 (L : VL) (st : List Value) (h : VG) (a : Nat) (ho : ob h a 7) : ev 66 8 L (.ref a :: st) h = ev 66 11 L (.int (gI h a 3) :: st) h := G_getI (p := 196) f66_8 lkF_8_31 (by decide) (by decide) ho
theorem f66_11 : fetch 66 11 = some (.iaload, 1) := vtab tk66 5 rfl
theorem e66_11 (L : VL) (st : List Value) (h : VG) (a : Nat) (i : Int32) (ha : rdI h a) (hi : vp_in i (aln h a)) : ev 66 11 L (.int i :: .ref a :: st) h = ev 66 12 L (.int (aI h a i.toNatClampNeg) :: st) h := G_iald' f66_11 ha hi
theorem f66_12 : fetch 66 12 = some (.tableswitch 60 6 9 #[32, 39, 46, 53], 32) := vtab tk66 6 rfl
theorem e66_12 (L : VL) (st : List Value) (h : VG) (x : Int32) : ev 66 12 L (.int x :: st) h = if x = (6 : Int32) then ev 66 44 L st h else (if x = (7 : Int32) then ev 66 51 L st h else (if x = (8 : Int32) then ev 66 58 L st h else (if x = (9 : Int32) then ev 66 65 L st h else (ev 66 72 L st h)))) := (G_tsw f66_12 (by decide) (by decide) (by decide)).trans rfl
theorem f66_44 : fetch 66 44 = some (.aload_n 0, 1) := vtab tk66 7 rfl
theorem e66_44 (L : VL) (st : List Value) (h : VG) (x : Nat) : ev 66 44 (some (.ref x) :: L) (st) h = ev 66 45 (some (.ref x) :: L) (.ref x :: st) h := G_aload_n f66_44 rfl
theorem f66_45 : fetch 66 45 = some (.invokevirtual 53, 3) := vtab tk66 8 rfl
theorem e66_45 (L : VL) (st : List Value) (h : VG) (b : Nat)  (ho : ob h b 7) (hs : catS st ≤ 8) : ev 66 45 L (.ref b :: st) h = (ev 72 0 [some (.ref b)] [] h).bind fun q => ev 66 48 L (q.1.toList ++ st) q.2 := G_callv (k := 1) (p := 538) (ars := []) f66_45 lkC_8_53 (by decide) (by decide +kernel) rfl (vcls_ob (ci := 7) (by decide) ho) (Nat.le_of_ble_eq_true rfl) hs rfl
theorem f66_48 : fetch 66 48 = some (.goto 30, 3) := vtab tk66 9 rfl
theorem e66_48 (L : VL) (st : List Value) (h : VG) : ev 66 48 L (st) h = ev 66 78 L (st) h := G_goto f66_48 (by decide)
theorem f66_51 : fetch 66 51 = some (.aload_n 0, 1) := vtab tk66 10 rfl
theorem e66_51 (L : VL) (st : List Value) (h : VG) (x : Nat) : ev 66 51 (some (.ref x) :: L) (st) h = ev 66 52 (some (.ref x) :: L) (.ref x :: st) h := G_aload_n f66_51 rfl
theorem f66_52 : fetch 66 52 = some (.invokevirtual 56, 3) := vtab tk66 11 rfl
theorem e66_52 (L : VL) (st : List Value) (h : VG) (b : Nat)  (ho : ob h b 7) (hs : catS st ≤ 8) : ev 66 52 L (.ref b :: st) h = (ev 73 0 [some (.ref b), none] [] h).bind fun q => ev 66 55 L (q.1.toList ++ st) q.2 := G_callv (k := 1) (p := 550) (ars := []) f66_52 lkC_8_56 (by decide) (by decide +kernel) rfl (vcls_ob (ci := 7) (by decide) ho) (Nat.le_of_ble_eq_true rfl) hs rfl
theorem f66_55 : fetch 66 55 = some (.goto 23, 3) := vtab tk66 12 rfl
theorem e66_55 (L : VL) (st : List Value) (h : VG) : ev 66 55 L (st) h = ev 66 78 L (st) h := G_goto f66_55 (by decide)
theorem f66_58 : fetch 66 58 = some (.aload_n 0, 1) := vtab tk66 13 rfl
theorem e66_58 (L : VL) (st : List Value) (h : VG) (x : Nat) : ev 66 58 (some (.ref x) :: L) (st) h = ev 66 59 (some (.ref x) :: L) (.ref x :: st) h := G_aload_n f66_58 rfl
theorem f66_59 : fetch 66 59 = some (.invokevirtual 59, 3) := vtab tk66 14 rfl
theorem e66_59 (L : VL) (st : List Value) (h : VG) (b : Nat)  (ho : ob h b 7) (hs : catS st ≤ 8) : ev 66 59 L (.ref b :: st) h = (ev 74 0 [some (.ref b), none, none, none] [] h).bind fun q => ev 66 62 L (q.1.toList ++ st) q.2 := G_callv (k := 1) (p := 562) (ars := []) f66_59 lkC_8_59 (by decide) (by decide +kernel) rfl (vcls_ob (ci := 7) (by decide) ho) (Nat.le_of_ble_eq_true rfl) hs rfl
theorem f66_62 : fetch 66 62 = some (.goto 16, 3) := vtab tk66 15 rfl
theorem e66_62 (L : VL) (st : List Value) (h : VG) : ev 66 62 L (st) h = ev 66 78 L (st) h := G_goto f66_62 (by decide)
theorem f66_65 : fetch 66 65 = some (.aload_n 0, 1) := vtab tk66 16 rfl
theorem e66_65 (L : VL) (st : List Value) (h : VG) (x : Nat) : ev 66 65 (some (.ref x) :: L) (st) h = ev 66 66 (some (.ref x) :: L) (.ref x :: st) h := G_aload_n f66_65 rfl
theorem f66_66 : fetch 66 66 = some (.invokevirtual 62, 3) := vtab tk66 17 rfl
theorem e66_66 (L : VL) (st : List Value) (h : VG) (b : Nat)  (ho : ob h b 7) (hs : catS st ≤ 8) : ev 66 66 L (.ref b :: st) h = (ev 77 0 [some (.ref b), none, none] [] h).bind fun q => ev 66 69 L (q.1.toList ++ st) q.2 := G_callv (k := 1) (p := 619) (ars := []) f66_66 lkC_8_62 (by decide) (by decide +kernel) rfl (vcls_ob (ci := 7) (by decide) ho) (Nat.le_of_ble_eq_true rfl) hs rfl
theorem f66_69 : fetch 66 69 = some (.goto 9, 3) := vtab tk66 18 rfl
theorem e66_69 (L : VL) (st : List Value) (h : VG) : ev 66 69 L (st) h = ev 66 78 L (st) h := G_goto f66_69 (by decide)
theorem f66_72 : fetch 66 72 = some (.aload_n 0, 1) := vtab tk66 19 rfl
theorem e66_72 (L : VL) (st : List Value) (h : VG) (x : Nat) : ev 66 72 (some (.ref x) :: L) (st) h = ev 66 73 (some (.ref x) :: L) (.ref x :: st) h := G_aload_n f66_72 rfl
theorem f66_73 : fetch 66 73 = some (.iconst 1, 1) := vtab tk66 20 rfl
theorem e66_73 (L : VL) (st : List Value) (h : VG) : ev 66 73 L (st) h = ev 66 74 L (.int (1 : Int32) :: st) h := G_iconst f66_73 (by decide)
theorem f66_74 : fetch 66 74 = some (.invokevirtual 65, 3) := vtab tk66 21 rfl
theorem e66_74 (L : VL) (st : List Value) (h : VG) (b : Nat) (x0 : Int32) (ho : ob h b 7) (hs : catS st ≤ 8) : ev 66 74 L (.int x0 :: .ref b :: st) h = (ev 70 0 [some (.ref b), some (.int x0)] [] h).bind fun q => ev 66 77 L (q.1.toList ++ st) q.2 := G_callv (k := 1) (p := 546) (ars := [.int x0]) f66_74 lkC_8_65 (by decide) (by decide +kernel) rfl (vcls_ob (ci := 7) (by decide) ho) (Nat.le_of_ble_eq_true rfl) hs rfl
theorem f66_77 : fetch 66 77 = some (.pop, 1) := vtab tk66 22 rfl
theorem e66_77 (L : VL) (st : List Value) (h : VG) (x : Int32) : ev 66 77 L (.int x :: st) h = ev 66 78 L (st) h := G_pop_int f66_77
theorem e66_77b (L : VL) (st : List Value) (h : VG) (x : Nat) : ev 66 77 L (.ref x :: st) h = ev 66 78 L (st) h := G_pop_ref f66_77
theorem f66_78 : fetch 66 78 = some (.return_, 1) := vtab tk66 23 rfl
theorem e66_78 (L : VL) (h : VG) : ev 66 78 L [] h = some (none, h) := G_vret f66_78 (by decide)
/-! 67 GuestCalls$Reader.isNext(I)Z -/
def tb67 : List (Nat × Instr × Nat) := [(0, .aload_n 0, 1), (1, .getfield 12, 3), (4, .getfield 49, 3), (7, .aload_n 0, 1), (8, .getfield 31, 3), (11, .iaload, 1), (12, .iload_n 1, 1), (13, .if_icmp .ne 7, 3), (16, .iconst 1, 1), (17, .goto 4, 3), (20, .iconst 0, 1), (21, .ireturn, 1)]
theorem tk67 : tb67.all (fun q => decide (fetch 67 q.1 = some q.2)) = true := by decide +kernel
theorem f67_0 : fetch 67 0 = some (.aload_n 0, 1) := vtab tk67 0 rfl
theorem e67_0 (L : VL) (st : List Value) (h : VG) (x : Nat) : ev 67 0 (some (.ref x) :: L) (st) h = ev 67 1 (some (.ref x) :: L) (.ref x :: st) h := G_aload_n f67_0 rfl
theorem f67_1 : fetch 67 1 = some (.getfield 12, 3) := vtab tk67 1 rfl
theorem e67_1 (L : VL) (st : List Value) (h : VG) (a : Nat) (ho : ob h a 7) (hr : isR h a 1) : ev 67 1 L (.ref a :: st) h = ev 67 4 L (.ref (gR h a 1) :: st) h := G_getR (p := 194) f67_1 lkF_8_12 (by decide) (by decide) ho hr
theorem f67_4 : fetch 67 4 = some (.getfield 49, 3) := vtab tk67 2 rfl
theorem e67_4 (L : VL) (st : List Value) (h : VG) (a : Nat) (ho : ob h a 9) (hr : isR h a 0) : ev 67 4 L (.ref a :: st) h = ev 67 7 L (.ref (gR h a 0) :: st) h := G_getR (p := 174) f67_4 lkF_8_49 (by decide) (by decide) ho hr
theorem f67_7 : fetch 67 7 = some (.aload_n 0, 1) := vtab tk67 3 rfl
theorem e67_7 (L : VL) (st : List Value) (h : VG) (x : Nat) : ev 67 7 (some (.ref x) :: L) (st) h = ev 67 8 (some (.ref x) :: L) (.ref x :: st) h := G_aload_n f67_7 rfl
theorem f67_8 : fetch 67 8 = some (.getfield 31, 3) := vtab tk67 4 rfl
theorem e67_8 (L : VL) (st : List Value) (h : VG) (a : Nat) (ho : ob h a 7) : ev 67 8 L (.ref a :: st) h = ev 67 11 L (.int (gI h a 3) :: st) h := G_getI (p := 196) f67_8 lkF_8_31 (by decide) (by decide) ho
theorem f67_11 : fetch 67 11 = some (.iaload, 1) := vtab tk67 5 rfl
theorem e67_11 (L : VL) (st : List Value) (h : VG) (a : Nat) (i : Int32) (ha : rdI h a) (hi : vp_in i (aln h a)) : ev 67 11 L (.int i :: .ref a :: st) h = ev 67 12 L (.int (aI h a i.toNatClampNeg) :: st) h := G_iald' f67_11 ha hi
theorem f67_12 : fetch 67 12 = some (.iload_n 1, 1) := vtab tk67 6 rfl
theorem e67_12 (l0 : Option Value) (L : VL) (st : List Value) (h : VG) (x : Int32) : ev 67 12 (l0 :: some (.int x) :: L) (st) h = ev 67 13 (l0 :: some (.int x) :: L) (.int x :: st) h := G_iload_n f67_12 rfl
theorem f67_13 : fetch 67 13 = some (.if_icmp .ne 7, 3) := vtab tk67 7 rfl
theorem e67_13 (L : VL) (st : List Value) (h : VG) (x y : Int32) : ev 67 13 L (.int y :: .int x :: st) h = if x = y then ev 67 16 L st h else ev 67 20 L st h := G_icmp_ne f67_13 (by decide)
theorem f67_16 : fetch 67 16 = some (.iconst 1, 1) := vtab tk67 8 rfl
theorem e67_16 (L : VL) (st : List Value) (h : VG) : ev 67 16 L (st) h = ev 67 17 L (.int (1 : Int32) :: st) h := G_iconst f67_16 (by decide)
theorem f67_17 : fetch 67 17 = some (.goto 4, 3) := vtab tk67 9 rfl
theorem e67_17 (L : VL) (st : List Value) (h : VG) : ev 67 17 L (st) h = ev 67 21 L (st) h := G_goto f67_17 (by decide)
theorem f67_20 : fetch 67 20 = some (.iconst 0, 1) := vtab tk67 10 rfl
theorem e67_20 (L : VL) (st : List Value) (h : VG) : ev 67 20 L (st) h = ev 67 21 L (.int (0 : Int32) :: st) h := G_iconst f67_20 (by decide)
theorem f67_21 : fetch 67 21 = some (.ireturn, 1) := vtab tk67 11 rfl
theorem e67_21 (L : VL) (h : VG) (x : Int32) (hz : x = 0 ∨ x = 1) : ev 67 21 L [.int x] h = some (some (.int x), h) := G_iret f67_21 (ty := .boolean) (by decide) (vbool hz).1
/-! 68 GuestCalls$Reader.pass(I)Z -/
def tb68 : List (Nat × Instr × Nat) := [(0, .aload_n 0, 1), (1, .iload_n 1, 1), (2, .invokevirtual 42, 3), (5, .ifCond .ne 9, 3), (8, .aload_n 0, 1), (9, .iconst 1, 1), (10, .invokevirtual 65, 3), (13, .ireturn, 1), (14, .aload_n 0, 1), (15, .getfield 31, 3), (18, .sipush 400, 3), (21, .if_icmp .ne 9, 3), (24, .aload_n 0, 1), (25, .iconst 2, 1), (26, .invokevirtual 65, 3), (29, .ireturn, 1), (30, .aload_n 0, 1), (31, .dup, 1), (32, .getfield 31, 3), (35, .iconst 1, 1), (36, .iadd, 1), (37, .putfield 31, 3), (40, .iconst 1, 1), (41, .ireturn, 1)]
theorem tk68 : tb68.all (fun q => decide (fetch 68 q.1 = some q.2)) = true := by decide +kernel
theorem f68_0 : fetch 68 0 = some (.aload_n 0, 1) := vtab tk68 0 rfl
theorem e68_0 (L : VL) (st : List Value) (h : VG) (x : Nat) : ev 68 0 (some (.ref x) :: L) (st) h = ev 68 1 (some (.ref x) :: L) (.ref x :: st) h := G_aload_n f68_0 rfl
theorem f68_1 : fetch 68 1 = some (.iload_n 1, 1) := vtab tk68 1 rfl
theorem e68_1 (l0 : Option Value) (L : VL) (st : List Value) (h : VG) (x : Int32) : ev 68 1 (l0 :: some (.int x) :: L) (st) h = ev 68 2 (l0 :: some (.int x) :: L) (.int x :: st) h := G_iload_n f68_1 rfl
theorem f68_2 : fetch 68 2 = some (.invokevirtual 42, 3) := vtab tk68 2 rfl
theorem e68_2 (L : VL) (st : List Value) (h : VG) (b : Nat) (x0 : Int32) (ho : ob h b 7) (hs : catS st ≤ 8) : ev 68 2 L (.int x0 :: .ref b :: st) h = (ev 67 0 [some (.ref b), some (.int x0)] [] h).bind fun q => ev 68 5 L (q.1.toList ++ st) q.2 := G_callv (k := 1) (p := 530) (ars := [.int x0]) f68_2 lkC_8_42 (by decide) (by decide +kernel) rfl (vcls_ob (ci := 7) (by decide) ho) (Nat.le_of_ble_eq_true rfl) hs rfl
theorem f68_5 : fetch 68 5 = some (.ifCond .ne 9, 3) := vtab tk68 3 rfl
theorem e68_5 (L : VL) (st : List Value) (h : VG) (x : Int32) : ev 68 5 L (.int x :: st) h = if x = 0 then ev 68 8 L st h else ev 68 14 L st h := G_if_ne f68_5 (by decide)
theorem f68_8 : fetch 68 8 = some (.aload_n 0, 1) := vtab tk68 4 rfl
theorem e68_8 (L : VL) (st : List Value) (h : VG) (x : Nat) : ev 68 8 (some (.ref x) :: L) (st) h = ev 68 9 (some (.ref x) :: L) (.ref x :: st) h := G_aload_n f68_8 rfl
theorem f68_9 : fetch 68 9 = some (.iconst 1, 1) := vtab tk68 5 rfl
theorem e68_9 (L : VL) (st : List Value) (h : VG) : ev 68 9 L (st) h = ev 68 10 L (.int (1 : Int32) :: st) h := G_iconst f68_9 (by decide)
theorem f68_10 : fetch 68 10 = some (.invokevirtual 65, 3) := vtab tk68 6 rfl
theorem e68_10 (L : VL) (st : List Value) (h : VG) (b : Nat) (x0 : Int32) (ho : ob h b 7) (hs : catS st ≤ 8) : ev 68 10 L (.int x0 :: .ref b :: st) h = (ev 70 0 [some (.ref b), some (.int x0)] [] h).bind fun q => ev 68 13 L (q.1.toList ++ st) q.2 := G_callv (k := 1) (p := 546) (ars := [.int x0]) f68_10 lkC_8_65 (by decide) (by decide +kernel) rfl (vcls_ob (ci := 7) (by decide) ho) (Nat.le_of_ble_eq_true rfl) hs rfl
theorem f68_13 : fetch 68 13 = some (.ireturn, 1) := vtab tk68 7 rfl
theorem e68_13 (L : VL) (h : VG) (x : Int32) (hz : x = 0 ∨ x = 1) : ev 68 13 L [.int x] h = some (some (.int x), h) := G_iret f68_13 (ty := .boolean) (by decide) (vbool hz).1
theorem f68_14 : fetch 68 14 = some (.aload_n 0, 1) := vtab tk68 8 rfl
theorem e68_14 (L : VL) (st : List Value) (h : VG) (x : Nat) : ev 68 14 (some (.ref x) :: L) (st) h = ev 68 15 (some (.ref x) :: L) (.ref x :: st) h := G_aload_n f68_14 rfl
theorem f68_15 : fetch 68 15 = some (.getfield 31, 3) := vtab tk68 9 rfl
theorem e68_15 (L : VL) (st : List Value) (h : VG) (a : Nat) (ho : ob h a 7) : ev 68 15 L (.ref a :: st) h = ev 68 18 L (.int (gI h a 3) :: st) h := G_getI (p := 196) f68_15 lkF_8_31 (by decide) (by decide) ho
theorem f68_18 : fetch 68 18 = some (.sipush 400, 3) := vtab tk68 10 rfl
theorem e68_18 (L : VL) (st : List Value) (h : VG) : ev 68 18 L (st) h = ev 68 21 L (.int (400 : Int32) :: st) h := G_sipush f68_18 (by decide)
theorem f68_21 : fetch 68 21 = some (.if_icmp .ne 9, 3) := vtab tk68 11 rfl
theorem e68_21 (L : VL) (st : List Value) (h : VG) (x y : Int32) : ev 68 21 L (.int y :: .int x :: st) h = if x = y then ev 68 24 L st h else ev 68 30 L st h := G_icmp_ne f68_21 (by decide)
theorem f68_24 : fetch 68 24 = some (.aload_n 0, 1) := vtab tk68 12 rfl
theorem e68_24 (L : VL) (st : List Value) (h : VG) (x : Nat) : ev 68 24 (some (.ref x) :: L) (st) h = ev 68 25 (some (.ref x) :: L) (.ref x :: st) h := G_aload_n f68_24 rfl
theorem f68_25 : fetch 68 25 = some (.iconst 2, 1) := vtab tk68 13 rfl
theorem e68_25 (L : VL) (st : List Value) (h : VG) : ev 68 25 L (st) h = ev 68 26 L (.int (2 : Int32) :: st) h := G_iconst f68_25 (by decide)
theorem f68_26 : fetch 68 26 = some (.invokevirtual 65, 3) := vtab tk68 14 rfl
theorem e68_26 (L : VL) (st : List Value) (h : VG) (b : Nat) (x0 : Int32) (ho : ob h b 7) (hs : catS st ≤ 8) : ev 68 26 L (.int x0 :: .ref b :: st) h = (ev 70 0 [some (.ref b), some (.int x0)] [] h).bind fun q => ev 68 29 L (q.1.toList ++ st) q.2 := G_callv (k := 1) (p := 546) (ars := [.int x0]) f68_26 lkC_8_65 (by decide) (by decide +kernel) rfl (vcls_ob (ci := 7) (by decide) ho) (Nat.le_of_ble_eq_true rfl) hs rfl
theorem f68_29 : fetch 68 29 = some (.ireturn, 1) := vtab tk68 15 rfl
theorem e68_29 (L : VL) (h : VG) (x : Int32) (hz : x = 0 ∨ x = 1) : ev 68 29 L [.int x] h = some (some (.int x), h) := G_iret f68_29 (ty := .boolean) (by decide) (vbool hz).1
theorem f68_30 : fetch 68 30 = some (.aload_n 0, 1) := vtab tk68 16 rfl
theorem e68_30 (L : VL) (st : List Value) (h : VG) (x : Nat) : ev 68 30 (some (.ref x) :: L) (st) h = ev 68 31 (some (.ref x) :: L) (.ref x :: st) h := G_aload_n f68_30 rfl
theorem f68_31 : fetch 68 31 = some (.dup, 1) := vtab tk68 17 rfl
theorem e68_31b (L : VL) (st : List Value) (h : VG) (x : Int32) : ev 68 31 L (.int x :: st) h = ev 68 32 L (.int x :: .int x :: st) h := G_dup_int f68_31
theorem e68_31 (L : VL) (st : List Value) (h : VG) (x : Nat) : ev 68 31 L (.ref x :: st) h = ev 68 32 L (.ref x :: .ref x :: st) h := G_dup_ref f68_31
theorem f68_32 : fetch 68 32 = some (.getfield 31, 3) := vtab tk68 18 rfl
theorem e68_32 (L : VL) (st : List Value) (h : VG) (a : Nat) (ho : ob h a 7) : ev 68 32 L (.ref a :: st) h = ev 68 35 L (.int (gI h a 3) :: st) h := G_getI (p := 196) f68_32 lkF_8_31 (by decide) (by decide) ho
theorem f68_35 : fetch 68 35 = some (.iconst 1, 1) := vtab tk68 19 rfl
theorem e68_35 (L : VL) (st : List Value) (h : VG) : ev 68 35 L (st) h = ev 68 36 L (.int (1 : Int32) :: st) h := G_iconst f68_35 (by decide)
theorem f68_36 : fetch 68 36 = some (.iadd, 1) := vtab tk68 20 rfl
theorem e68_36 (L : VL) (st : List Value) (h : VG) (x y : Int32) : ev 68 36 L (.int y :: .int x :: st) h = ev 68 37 L (.int (x + y) :: st) h := G_iadd f68_36
theorem f68_37 : fetch 68 37 = some (.putfield 31, 3) := vtab tk68 21 rfl
theorem e68_37 (L : VL) (st : List Value) (h : VG) (a : Nat) (x : Int32) (ho : ob h a 7) : ev 68 37 L (.int x :: .ref a :: st) h = ev 68 40 L (st) (pI h a 3 x) := G_putI (p := 196) f68_37 lkF_8_31 (by decide) (by decide) (by decide +kernel) ⟨rfl, rfl⟩ ho
theorem f68_40 : fetch 68 40 = some (.iconst 1, 1) := vtab tk68 22 rfl
theorem e68_40 (L : VL) (st : List Value) (h : VG) : ev 68 40 L (st) h = ev 68 41 L (.int (1 : Int32) :: st) h := G_iconst f68_40 (by decide)
theorem f68_41 : fetch 68 41 = some (.ireturn, 1) := vtab tk68 23 rfl
theorem e68_41 (L : VL) (h : VG) (x : Int32) (hz : x = 0 ∨ x = 1) : ev 68 41 L [.int x] h = some (some (.int x), h) := G_iret f68_41 (ty := .boolean) (by decide) (vbool hz).1
/-! 69 GuestCalls$Reader.passed()I -/
def tb69 : List (Nat × Instr × Nat) := [(0, .aload_n 0, 1), (1, .getfield 12, 3), (4, .getfield 68, 3), (7, .aload_n 0, 1), (8, .getfield 31, 3), (11, .iconst 1, 1), (12, .isub, 1), (13, .laload, 1), (14, .l2i, 1), (15, .ireturn, 1)]
theorem tk69 : tb69.all (fun q => decide (fetch 69 q.1 = some q.2)) = true := by decide +kernel
theorem f69_0 : fetch 69 0 = some (.aload_n 0, 1) := vtab tk69 0 rfl
theorem e69_0 (L : VL) (st : List Value) (h : VG) (x : Nat) : ev 69 0 (some (.ref x) :: L) (st) h = ev 69 1 (some (.ref x) :: L) (.ref x :: st) h := G_aload_n f69_0 rfl
theorem f69_1 : fetch 69 1 = some (.getfield 12, 3) := vtab tk69 1 rfl
theorem e69_1 (L : VL) (st : List Value) (h : VG) (a : Nat) (ho : ob h a 7) (hr : isR h a 1) : ev 69 1 L (.ref a :: st) h = ev 69 4 L (.ref (gR h a 1) :: st) h := G_getR (p := 194) f69_1 lkF_8_12 (by decide) (by decide) ho hr
theorem f69_4 : fetch 69 4 = some (.getfield 68, 3) := vtab tk69 2 rfl
theorem e69_4 (L : VL) (st : List Value) (h : VG) (a : Nat) (ho : ob h a 9) (hr : isR h a 2) : ev 69 4 L (.ref a :: st) h = ev 69 7 L (.ref (gR h a 2) :: st) h := G_getR (p := 178) f69_4 lkF_8_68 (by decide) (by decide) ho hr
theorem f69_7 : fetch 69 7 = some (.aload_n 0, 1) := vtab tk69 3 rfl
theorem e69_7 (L : VL) (st : List Value) (h : VG) (x : Nat) : ev 69 7 (some (.ref x) :: L) (st) h = ev 69 8 (some (.ref x) :: L) (.ref x :: st) h := G_aload_n f69_7 rfl
theorem f69_8 : fetch 69 8 = some (.getfield 31, 3) := vtab tk69 4 rfl
theorem e69_8 (L : VL) (st : List Value) (h : VG) (a : Nat) (ho : ob h a 7) : ev 69 8 L (.ref a :: st) h = ev 69 11 L (.int (gI h a 3) :: st) h := G_getI (p := 196) f69_8 lkF_8_31 (by decide) (by decide) ho
theorem f69_11 : fetch 69 11 = some (.iconst 1, 1) := vtab tk69 5 rfl
theorem e69_11 (L : VL) (st : List Value) (h : VG) : ev 69 11 L (st) h = ev 69 12 L (.int (1 : Int32) :: st) h := G_iconst f69_11 (by decide)
theorem f69_12 : fetch 69 12 = some (.isub, 1) := vtab tk69 6 rfl
theorem e69_12 (L : VL) (st : List Value) (h : VG) (x y : Int32) : ev 69 12 L (.int y :: .int x :: st) h = ev 69 13 L (.int (x - y) :: st) h := G_isub f69_12
theorem f69_13 : fetch 69 13 = some (.laload, 1) := vtab tk69 7 rfl
theorem e69_13 (L : VL) (st : List Value) (h : VG) (a : Nat) (i : Int32) (ha : arL h a) (hi : vp_in i (aln h a)) : ev 69 13 L (.int i :: .ref a :: st) h = ev 69 14 L (.long (aL h a i.toNatClampNeg) :: st) h := G_lald f69_13 ha hi
theorem f69_14 : fetch 69 14 = some (.l2i, 1) := vtab tk69 8 rfl
theorem e69_14 (L : VL) (st : List Value) (h : VG) (x : Int64) : ev 69 14 L (.long x :: st) h = ev 69 15 L (.int x.toInt32 :: st) h := G_l2i f69_14
theorem f69_15 : fetch 69 15 = some (.ireturn, 1) := vtab tk69 9 rfl
theorem e69_15 (L : VL) (h : VG) (x : Int32) : ev 69 15 L [.int x] h = some (some (.int x), h) := G_iret f69_15 (ty := .int) (by decide) rfl
/-! 70 GuestCalls$Reader.stop(I)Z -/
def tb70 : List (Nat × Instr × Nat) := [(0, .aload_n 0, 1), (1, .iload_n 1, 1), (2, .putfield 35, 3), (5, .aload_n 0, 1), (6, .aload_n 0, 1), (7, .getfield 12, 3), (10, .getfield 72, 3), (13, .aload_n 0, 1), (14, .getfield 31, 3), (17, .iaload, 1), (18, .putfield 75, 3), (21, .aload_n 0, 1), (22, .iconst 1, 1), (23, .putfield 38, 3), (26, .iconst 0, 1), (27, .ireturn, 1)]
theorem tk70 : tb70.all (fun q => decide (fetch 70 q.1 = some q.2)) = true := by decide +kernel
theorem f70_0 : fetch 70 0 = some (.aload_n 0, 1) := vtab tk70 0 rfl
theorem e70_0 (L : VL) (st : List Value) (h : VG) (x : Nat) : ev 70 0 (some (.ref x) :: L) (st) h = ev 70 1 (some (.ref x) :: L) (.ref x :: st) h := G_aload_n f70_0 rfl
theorem f70_1 : fetch 70 1 = some (.iload_n 1, 1) := vtab tk70 1 rfl
theorem e70_1 (l0 : Option Value) (L : VL) (st : List Value) (h : VG) (x : Int32) : ev 70 1 (l0 :: some (.int x) :: L) (st) h = ev 70 2 (l0 :: some (.int x) :: L) (.int x :: st) h := G_iload_n f70_1 rfl
theorem f70_2 : fetch 70 2 = some (.putfield 35, 3) := vtab tk70 2 rfl
theorem e70_2 (L : VL) (st : List Value) (h : VG) (a : Nat) (x : Int32) (ho : ob h a 7) : ev 70 2 L (.int x :: .ref a :: st) h = ev 70 5 L (st) (pI h a 4 x) := G_putI (p := 197) f70_2 lkF_8_35 (by decide) (by decide) (by decide +kernel) ⟨rfl, rfl⟩ ho
theorem f70_5 : fetch 70 5 = some (.aload_n 0, 1) := vtab tk70 3 rfl
theorem e70_5 (L : VL) (st : List Value) (h : VG) (x : Nat) : ev 70 5 (some (.ref x) :: L) (st) h = ev 70 6 (some (.ref x) :: L) (.ref x :: st) h := G_aload_n f70_5 rfl
theorem f70_6 : fetch 70 6 = some (.aload_n 0, 1) := vtab tk70 4 rfl
theorem e70_6 (L : VL) (st : List Value) (h : VG) (x : Nat) : ev 70 6 (some (.ref x) :: L) (st) h = ev 70 7 (some (.ref x) :: L) (.ref x :: st) h := G_aload_n f70_6 rfl
theorem f70_7 : fetch 70 7 = some (.getfield 12, 3) := vtab tk70 5 rfl
theorem e70_7 (L : VL) (st : List Value) (h : VG) (a : Nat) (ho : ob h a 7) (hr : isR h a 1) : ev 70 7 L (.ref a :: st) h = ev 70 10 L (.ref (gR h a 1) :: st) h := G_getR (p := 194) f70_7 lkF_8_12 (by decide) (by decide) ho hr
theorem f70_10 : fetch 70 10 = some (.getfield 72, 3) := vtab tk70 6 rfl
theorem e70_10 (L : VL) (st : List Value) (h : VG) (a : Nat) (ho : ob h a 9) (hr : isR h a 1) : ev 70 10 L (.ref a :: st) h = ev 70 13 L (.ref (gR h a 1) :: st) h := G_getR (p := 176) f70_10 lkF_8_72 (by decide) (by decide) ho hr
theorem f70_13 : fetch 70 13 = some (.aload_n 0, 1) := vtab tk70 7 rfl
theorem e70_13 (L : VL) (st : List Value) (h : VG) (x : Nat) : ev 70 13 (some (.ref x) :: L) (st) h = ev 70 14 (some (.ref x) :: L) (.ref x :: st) h := G_aload_n f70_13 rfl
theorem f70_14 : fetch 70 14 = some (.getfield 31, 3) := vtab tk70 8 rfl
theorem e70_14 (L : VL) (st : List Value) (h : VG) (a : Nat) (ho : ob h a 7) : ev 70 14 L (.ref a :: st) h = ev 70 17 L (.int (gI h a 3) :: st) h := G_getI (p := 196) f70_14 lkF_8_31 (by decide) (by decide) ho
theorem f70_17 : fetch 70 17 = some (.iaload, 1) := vtab tk70 9 rfl
theorem e70_17 (L : VL) (st : List Value) (h : VG) (a : Nat) (i : Int32) (ha : rdI h a) (hi : vp_in i (aln h a)) : ev 70 17 L (.int i :: .ref a :: st) h = ev 70 18 L (.int (aI h a i.toNatClampNeg) :: st) h := G_iald' f70_17 ha hi
theorem f70_18 : fetch 70 18 = some (.putfield 75, 3) := vtab tk70 10 rfl
theorem e70_18 (L : VL) (st : List Value) (h : VG) (a : Nat) (x : Int32) (ho : ob h a 7) : ev 70 18 L (.int x :: .ref a :: st) h = ev 70 21 L (st) (pI h a 0 x) := G_putI (p := 193) f70_18 lkF_8_75 (by decide) (by decide) (by decide +kernel) ⟨rfl, rfl⟩ ho
theorem f70_21 : fetch 70 21 = some (.aload_n 0, 1) := vtab tk70 11 rfl
theorem e70_21 (L : VL) (st : List Value) (h : VG) (x : Nat) : ev 70 21 (some (.ref x) :: L) (st) h = ev 70 22 (some (.ref x) :: L) (.ref x :: st) h := G_aload_n f70_21 rfl
theorem f70_22 : fetch 70 22 = some (.iconst 1, 1) := vtab tk70 12 rfl
theorem e70_22 (L : VL) (st : List Value) (h : VG) : ev 70 22 L (st) h = ev 70 23 L (.int (1 : Int32) :: st) h := G_iconst f70_22 (by decide)
theorem f70_23 : fetch 70 23 = some (.putfield 38, 3) := vtab tk70 13 rfl
theorem e70_23 (L : VL) (st : List Value) (h : VG) (a : Nat) (x : Int32) (ho : ob h a 7) (hz : x = 0 ∨ x = 1) : ev 70 23 L (.int x :: .ref a :: st) h = ev 70 26 L (st) (pI h a 5 x) := G_putI (ci := 7) (p := 198) f70_23 lkF_8_38 (by decide) (by decide) (by decide +kernel) (vbool hz) ho
theorem f70_26 : fetch 70 26 = some (.iconst 0, 1) := vtab tk70 14 rfl
theorem e70_26 (L : VL) (st : List Value) (h : VG) : ev 70 26 L (st) h = ev 70 27 L (.int (0 : Int32) :: st) h := G_iconst f70_26 (by decide)
theorem f70_27 : fetch 70 27 = some (.ireturn, 1) := vtab tk70 15 rfl
theorem e70_27 (L : VL) (h : VG) (x : Int32) (hz : x = 0 ∨ x = 1) : ev 70 27 L [.int x] h = some (some (.int x), h) := G_iret f70_27 (ty := .boolean) (by decide) (vbool hz).1
/-! 71 GuestCalls$Reader.note(I)V -/
def tb71 : List (Nat × Instr × Nat) := [(0, .aload_n 0, 1), (1, .getfield 35, 3), (4, .ifCond .ne 26, 3), (7, .aload_n 0, 1), (8, .iload_n 1, 1), (9, .putfield 35, 3), (12, .aload_n 0, 1), (13, .aload_n 0, 1), (14, .getfield 12, 3), (17, .getfield 72, 3), (20, .aload_n 0, 1), (21, .getfield 31, 3), (24, .iconst 1, 1), (25, .isub, 1), (26, .iaload, 1), (27, .putfield 75, 3), (30, .return_, 1)]
theorem tk71 : tb71.all (fun q => decide (fetch 71 q.1 = some q.2)) = true := by decide +kernel
theorem f71_0 : fetch 71 0 = some (.aload_n 0, 1) := vtab tk71 0 rfl
theorem e71_0 (L : VL) (st : List Value) (h : VG) (x : Nat) : ev 71 0 (some (.ref x) :: L) (st) h = ev 71 1 (some (.ref x) :: L) (.ref x :: st) h := G_aload_n f71_0 rfl
theorem f71_1 : fetch 71 1 = some (.getfield 35, 3) := vtab tk71 1 rfl
theorem e71_1 (L : VL) (st : List Value) (h : VG) (a : Nat) (ho : ob h a 7) : ev 71 1 L (.ref a :: st) h = ev 71 4 L (.int (gI h a 4) :: st) h := G_getI (p := 197) f71_1 lkF_8_35 (by decide) (by decide) ho
theorem f71_4 : fetch 71 4 = some (.ifCond .ne 26, 3) := vtab tk71 2 rfl
theorem e71_4 (L : VL) (st : List Value) (h : VG) (x : Int32) : ev 71 4 L (.int x :: st) h = if x = 0 then ev 71 7 L st h else ev 71 30 L st h := G_if_ne f71_4 (by decide)
theorem f71_7 : fetch 71 7 = some (.aload_n 0, 1) := vtab tk71 3 rfl
theorem e71_7 (L : VL) (st : List Value) (h : VG) (x : Nat) : ev 71 7 (some (.ref x) :: L) (st) h = ev 71 8 (some (.ref x) :: L) (.ref x :: st) h := G_aload_n f71_7 rfl
theorem f71_8 : fetch 71 8 = some (.iload_n 1, 1) := vtab tk71 4 rfl
theorem e71_8 (l0 : Option Value) (L : VL) (st : List Value) (h : VG) (x : Int32) : ev 71 8 (l0 :: some (.int x) :: L) (st) h = ev 71 9 (l0 :: some (.int x) :: L) (.int x :: st) h := G_iload_n f71_8 rfl
theorem f71_9 : fetch 71 9 = some (.putfield 35, 3) := vtab tk71 5 rfl
theorem e71_9 (L : VL) (st : List Value) (h : VG) (a : Nat) (x : Int32) (ho : ob h a 7) : ev 71 9 L (.int x :: .ref a :: st) h = ev 71 12 L (st) (pI h a 4 x) := G_putI (p := 197) f71_9 lkF_8_35 (by decide) (by decide) (by decide +kernel) ⟨rfl, rfl⟩ ho
theorem f71_12 : fetch 71 12 = some (.aload_n 0, 1) := vtab tk71 6 rfl
theorem e71_12 (L : VL) (st : List Value) (h : VG) (x : Nat) : ev 71 12 (some (.ref x) :: L) (st) h = ev 71 13 (some (.ref x) :: L) (.ref x :: st) h := G_aload_n f71_12 rfl
theorem f71_13 : fetch 71 13 = some (.aload_n 0, 1) := vtab tk71 7 rfl
theorem e71_13 (L : VL) (st : List Value) (h : VG) (x : Nat) : ev 71 13 (some (.ref x) :: L) (st) h = ev 71 14 (some (.ref x) :: L) (.ref x :: st) h := G_aload_n f71_13 rfl
theorem f71_14 : fetch 71 14 = some (.getfield 12, 3) := vtab tk71 8 rfl
theorem e71_14 (L : VL) (st : List Value) (h : VG) (a : Nat) (ho : ob h a 7) (hr : isR h a 1) : ev 71 14 L (.ref a :: st) h = ev 71 17 L (.ref (gR h a 1) :: st) h := G_getR (p := 194) f71_14 lkF_8_12 (by decide) (by decide) ho hr
theorem f71_17 : fetch 71 17 = some (.getfield 72, 3) := vtab tk71 9 rfl
theorem e71_17 (L : VL) (st : List Value) (h : VG) (a : Nat) (ho : ob h a 9) (hr : isR h a 1) : ev 71 17 L (.ref a :: st) h = ev 71 20 L (.ref (gR h a 1) :: st) h := G_getR (p := 176) f71_17 lkF_8_72 (by decide) (by decide) ho hr
theorem f71_20 : fetch 71 20 = some (.aload_n 0, 1) := vtab tk71 10 rfl
theorem e71_20 (L : VL) (st : List Value) (h : VG) (x : Nat) : ev 71 20 (some (.ref x) :: L) (st) h = ev 71 21 (some (.ref x) :: L) (.ref x :: st) h := G_aload_n f71_20 rfl
theorem f71_21 : fetch 71 21 = some (.getfield 31, 3) := vtab tk71 11 rfl
theorem e71_21 (L : VL) (st : List Value) (h : VG) (a : Nat) (ho : ob h a 7) : ev 71 21 L (.ref a :: st) h = ev 71 24 L (.int (gI h a 3) :: st) h := G_getI (p := 196) f71_21 lkF_8_31 (by decide) (by decide) ho
theorem f71_24 : fetch 71 24 = some (.iconst 1, 1) := vtab tk71 12 rfl
theorem e71_24 (L : VL) (st : List Value) (h : VG) : ev 71 24 L (st) h = ev 71 25 L (.int (1 : Int32) :: st) h := G_iconst f71_24 (by decide)
theorem f71_25 : fetch 71 25 = some (.isub, 1) := vtab tk71 13 rfl
theorem e71_25 (L : VL) (st : List Value) (h : VG) (x y : Int32) : ev 71 25 L (.int y :: .int x :: st) h = ev 71 26 L (.int (x - y) :: st) h := G_isub f71_25
theorem f71_26 : fetch 71 26 = some (.iaload, 1) := vtab tk71 14 rfl
theorem e71_26 (L : VL) (st : List Value) (h : VG) (a : Nat) (i : Int32) (ha : rdI h a) (hi : vp_in i (aln h a)) : ev 71 26 L (.int i :: .ref a :: st) h = ev 71 27 L (.int (aI h a i.toNatClampNeg) :: st) h := G_iald' f71_26 ha hi
theorem f71_27 : fetch 71 27 = some (.putfield 75, 3) := vtab tk71 15 rfl
theorem e71_27 (L : VL) (st : List Value) (h : VG) (a : Nat) (x : Int32) (ho : ob h a 7) : ev 71 27 L (.int x :: .ref a :: st) h = ev 71 30 L (st) (pI h a 0 x) := G_putI (p := 193) f71_27 lkF_8_75 (by decide) (by decide) (by decide +kernel) ⟨rfl, rfl⟩ ho
theorem f71_30 : fetch 71 30 = some (.return_, 1) := vtab tk71 16 rfl
theorem e71_30 (L : VL) (h : VG) : ev 71 30 L [] h = some (none, h) := G_vret f71_30 (by decide)
/-! 72 GuestCalls$Reader.readBig()V -/
def tb72 : List (Nat × Instr × Nat) := [(0, .aload_n 0, 1), (1, .bipush 6, 2), (3, .invokevirtual 78, 3), (6, .ifCond .eq 22, 3), (9, .aload_n 0, 1), (10, .iconst 4, 1), (11, .invokevirtual 78, 3), (14, .ifCond .eq 14, 3), (17, .aload_n 0, 1), (18, .getfield 22, 3), (21, .getfield 81, 3), (24, .iconst 1, 1), (25, .putfield 85, 3), (28, .return_, 1)]
theorem tk72 : tb72.all (fun q => decide (fetch 72 q.1 = some q.2)) = true := by decide +kernel
theorem f72_0 : fetch 72 0 = some (.aload_n 0, 1) := vtab tk72 0 rfl
theorem e72_0 (L : VL) (st : List Value) (h : VG) (x : Nat) : ev 72 0 (some (.ref x) :: L) (st) h = ev 72 1 (some (.ref x) :: L) (.ref x :: st) h := G_aload_n f72_0 rfl
theorem f72_1 : fetch 72 1 = some (.bipush 6, 2) := vtab tk72 1 rfl
theorem e72_1 (L : VL) (st : List Value) (h : VG) : ev 72 1 L (st) h = ev 72 3 L (.int (6 : Int32) :: st) h := G_bipush f72_1 (by decide)
theorem f72_3 : fetch 72 3 = some (.invokevirtual 78, 3) := vtab tk72 2 rfl
theorem e72_3 (L : VL) (st : List Value) (h : VG) (b : Nat) (x0 : Int32) (ho : ob h b 7) (hs : catS st ≤ 8) : ev 72 3 L (.int x0 :: .ref b :: st) h = (ev 68 0 [some (.ref b), some (.int x0)] [] h).bind fun q => ev 72 6 L (q.1.toList ++ st) q.2 := G_callv (k := 1) (p := 542) (ars := [.int x0]) f72_3 lkC_8_78 (by decide) (by decide +kernel) rfl (vcls_ob (ci := 7) (by decide) ho) (Nat.le_of_ble_eq_true rfl) hs rfl
theorem f72_6 : fetch 72 6 = some (.ifCond .eq 22, 3) := vtab tk72 3 rfl
theorem e72_6 (L : VL) (st : List Value) (h : VG) (x : Int32) : ev 72 6 L (.int x :: st) h = if x = 0 then ev 72 28 L st h else ev 72 9 L st h := G_if_eq f72_6 (by decide)
theorem f72_9 : fetch 72 9 = some (.aload_n 0, 1) := vtab tk72 4 rfl
theorem e72_9 (L : VL) (st : List Value) (h : VG) (x : Nat) : ev 72 9 (some (.ref x) :: L) (st) h = ev 72 10 (some (.ref x) :: L) (.ref x :: st) h := G_aload_n f72_9 rfl
theorem f72_10 : fetch 72 10 = some (.iconst 4, 1) := vtab tk72 5 rfl
theorem e72_10 (L : VL) (st : List Value) (h : VG) : ev 72 10 L (st) h = ev 72 11 L (.int (4 : Int32) :: st) h := G_iconst f72_10 (by decide)
theorem f72_11 : fetch 72 11 = some (.invokevirtual 78, 3) := vtab tk72 6 rfl
theorem e72_11 (L : VL) (st : List Value) (h : VG) (b : Nat) (x0 : Int32) (ho : ob h b 7) (hs : catS st ≤ 8) : ev 72 11 L (.int x0 :: .ref b :: st) h = (ev 68 0 [some (.ref b), some (.int x0)] [] h).bind fun q => ev 72 14 L (q.1.toList ++ st) q.2 := G_callv (k := 1) (p := 542) (ars := [.int x0]) f72_11 lkC_8_78 (by decide) (by decide +kernel) rfl (vcls_ob (ci := 7) (by decide) ho) (Nat.le_of_ble_eq_true rfl) hs rfl
theorem f72_14 : fetch 72 14 = some (.ifCond .eq 14, 3) := vtab tk72 7 rfl
theorem e72_14 (L : VL) (st : List Value) (h : VG) (x : Int32) : ev 72 14 L (.int x :: st) h = if x = 0 then ev 72 28 L st h else ev 72 17 L st h := G_if_eq f72_14 (by decide)
theorem f72_17 : fetch 72 17 = some (.aload_n 0, 1) := vtab tk72 8 rfl
theorem e72_17 (L : VL) (st : List Value) (h : VG) (x : Nat) : ev 72 17 (some (.ref x) :: L) (st) h = ev 72 18 (some (.ref x) :: L) (.ref x :: st) h := G_aload_n f72_17 rfl
theorem f72_18 : fetch 72 18 = some (.getfield 22, 3) := vtab tk72 9 rfl
theorem e72_18 (L : VL) (st : List Value) (h : VG) (a : Nat) (ho : ob h a 7) (hr : isR h a 2) : ev 72 18 L (.ref a :: st) h = ev 72 21 L (.ref (gR h a 2) :: st) h := G_getR (p := 195) f72_18 lkF_8_22 (by decide) (by decide) ho hr
theorem f72_21 : fetch 72 21 = some (.getfield 81, 3) := vtab tk72 10 rfl
theorem e72_21 (L : VL) (st : List Value) (h : VG) (a : Nat) (ho : ob h a 6) (hr : isR h a 0) : ev 72 21 L (.ref a :: st) h = ev 72 24 L (.ref (gR h a 0) :: st) h := G_getR (p := 336) f72_21 lkF_8_81 (by decide) (by decide) ho hr
theorem f72_24 : fetch 72 24 = some (.iconst 1, 1) := vtab tk72 11 rfl
theorem e72_24 (L : VL) (st : List Value) (h : VG) : ev 72 24 L (st) h = ev 72 25 L (.int (1 : Int32) :: st) h := G_iconst f72_24 (by decide)
theorem f72_25 : fetch 72 25 = some (.putfield 85, 3) := vtab tk72 12 rfl
theorem e72_25 (L : VL) (st : List Value) (h : VG) (a : Nat) (x : Int32) (ho : ob h a 5) (hz : x = 0 ∨ x = 1) : ev 72 25 L (.int x :: .ref a :: st) h = ev 72 28 L (st) (pI h a 2 x) := G_putI (ci := 5) (p := 231) f72_25 lkF_8_85 (by decide) (by decide) (by decide +kernel) (vbool hz) ho
theorem f72_28 : fetch 72 28 = some (.return_, 1) := vtab tk72 13 rfl
theorem e72_28 (L : VL) (h : VG) : ev 72 28 L [] h = some (none, h) := G_vret f72_28 (by decide)
/-! 73 GuestCalls$Reader.readLine()V -/
def tb73 : List (Nat × Instr × Nat) := [(0, .aload_n 0, 1), (1, .bipush 7, 2), (3, .invokevirtual 78, 3), (6, .ifCond .eq 11, 3), (9, .aload_n 0, 1), (10, .iconst 3, 1), (11, .invokevirtual 78, 3), (14, .ifCond .ne 4, 3), (17, .return_, 1), (18, .aload_n 0, 1), (19, .invokevirtual 90, 3), (22, .istore_n 1, 1), (23, .iload_n 1, 1), (24, .iconst 1, 1), (25, .if_icmp .lt 10, 3), (28, .iload_n 1, 1), (29, .sipush 256, 3), (32, .if_icmp .le 11, 3), (35, .aload_n 0, 1), (36, .iconst 5, 1), (37, .invokevirtual 94, 3), (40, .goto 14, 3), (43, .aload_n 0, 1), (44, .getfield 22, 3), (47, .getfield 81, 3), (50, .iload_n 1, 1), (51, .putfield 98, 3), (54, .aload_n 0, 1), (55, .iconst 4, 1), (56, .invokevirtual 78, 3), (59, .pop, 1), (60, .return_, 1)]
theorem tk73 : tb73.all (fun q => decide (fetch 73 q.1 = some q.2)) = true := by decide +kernel
theorem f73_0 : fetch 73 0 = some (.aload_n 0, 1) := vtab tk73 0 rfl
theorem e73_0 (L : VL) (st : List Value) (h : VG) (x : Nat) : ev 73 0 (some (.ref x) :: L) (st) h = ev 73 1 (some (.ref x) :: L) (.ref x :: st) h := G_aload_n f73_0 rfl
theorem f73_1 : fetch 73 1 = some (.bipush 7, 2) := vtab tk73 1 rfl
theorem e73_1 (L : VL) (st : List Value) (h : VG) : ev 73 1 L (st) h = ev 73 3 L (.int (7 : Int32) :: st) h := G_bipush f73_1 (by decide)
theorem f73_3 : fetch 73 3 = some (.invokevirtual 78, 3) := vtab tk73 2 rfl
theorem e73_3 (L : VL) (st : List Value) (h : VG) (b : Nat) (x0 : Int32) (ho : ob h b 7) (hs : catS st ≤ 8) : ev 73 3 L (.int x0 :: .ref b :: st) h = (ev 68 0 [some (.ref b), some (.int x0)] [] h).bind fun q => ev 73 6 L (q.1.toList ++ st) q.2 := G_callv (k := 1) (p := 542) (ars := [.int x0]) f73_3 lkC_8_78 (by decide) (by decide +kernel) rfl (vcls_ob (ci := 7) (by decide) ho) (Nat.le_of_ble_eq_true rfl) hs rfl
theorem f73_6 : fetch 73 6 = some (.ifCond .eq 11, 3) := vtab tk73 3 rfl
theorem e73_6 (L : VL) (st : List Value) (h : VG) (x : Int32) : ev 73 6 L (.int x :: st) h = if x = 0 then ev 73 17 L st h else ev 73 9 L st h := G_if_eq f73_6 (by decide)
theorem f73_9 : fetch 73 9 = some (.aload_n 0, 1) := vtab tk73 4 rfl
theorem e73_9 (L : VL) (st : List Value) (h : VG) (x : Nat) : ev 73 9 (some (.ref x) :: L) (st) h = ev 73 10 (some (.ref x) :: L) (.ref x :: st) h := G_aload_n f73_9 rfl
theorem f73_10 : fetch 73 10 = some (.iconst 3, 1) := vtab tk73 5 rfl
theorem e73_10 (L : VL) (st : List Value) (h : VG) : ev 73 10 L (st) h = ev 73 11 L (.int (3 : Int32) :: st) h := G_iconst f73_10 (by decide)
theorem f73_11 : fetch 73 11 = some (.invokevirtual 78, 3) := vtab tk73 6 rfl
theorem e73_11 (L : VL) (st : List Value) (h : VG) (b : Nat) (x0 : Int32) (ho : ob h b 7) (hs : catS st ≤ 8) : ev 73 11 L (.int x0 :: .ref b :: st) h = (ev 68 0 [some (.ref b), some (.int x0)] [] h).bind fun q => ev 73 14 L (q.1.toList ++ st) q.2 := G_callv (k := 1) (p := 542) (ars := [.int x0]) f73_11 lkC_8_78 (by decide) (by decide +kernel) rfl (vcls_ob (ci := 7) (by decide) ho) (Nat.le_of_ble_eq_true rfl) hs rfl
theorem f73_14 : fetch 73 14 = some (.ifCond .ne 4, 3) := vtab tk73 7 rfl
theorem e73_14 (L : VL) (st : List Value) (h : VG) (x : Int32) : ev 73 14 L (.int x :: st) h = if x = 0 then ev 73 17 L st h else ev 73 18 L st h := G_if_ne f73_14 (by decide)
theorem f73_17 : fetch 73 17 = some (.return_, 1) := vtab tk73 8 rfl
theorem e73_17 (L : VL) (h : VG) : ev 73 17 L [] h = some (none, h) := G_vret f73_17 (by decide)
theorem f73_18 : fetch 73 18 = some (.aload_n 0, 1) := vtab tk73 9 rfl
theorem e73_18 (L : VL) (st : List Value) (h : VG) (x : Nat) : ev 73 18 (some (.ref x) :: L) (st) h = ev 73 19 (some (.ref x) :: L) (.ref x :: st) h := G_aload_n f73_18 rfl
theorem f73_19 : fetch 73 19 = some (.invokevirtual 90, 3) := vtab tk73 10 rfl
theorem e73_19 (L : VL) (st : List Value) (h : VG) (b : Nat)  (ho : ob h b 7) (hs : catS st ≤ 8) : ev 73 19 L (.ref b :: st) h = (ev 69 0 [some (.ref b)] [] h).bind fun q => ev 73 22 L (q.1.toList ++ st) q.2 := G_callv (k := 1) (p := 554) (ars := []) f73_19 lkC_8_90 (by decide) (by decide +kernel) rfl (vcls_ob (ci := 7) (by decide) ho) (Nat.le_of_ble_eq_true rfl) hs rfl
theorem f73_22 : fetch 73 22 = some (.istore_n 1, 1) := vtab tk73 11 rfl
theorem e73_22 (l0 l1 : Option Value) (L : VL) (st : List Value) (h : VG) (x : Int32) : ev 73 22 (l0 :: l1 :: L) (.int x :: st) h = ev 73 23 (vkk l0 :: some (.int x) :: L) (st) h := G_istore_n f73_22 rfl (S1_1 l0 l1 L _)
theorem f73_23 : fetch 73 23 = some (.iload_n 1, 1) := vtab tk73 12 rfl
theorem e73_23 (l0 : Option Value) (L : VL) (st : List Value) (h : VG) (x : Int32) : ev 73 23 (l0 :: some (.int x) :: L) (st) h = ev 73 24 (l0 :: some (.int x) :: L) (.int x :: st) h := G_iload_n f73_23 rfl
theorem f73_24 : fetch 73 24 = some (.iconst 1, 1) := vtab tk73 13 rfl
theorem e73_24 (L : VL) (st : List Value) (h : VG) : ev 73 24 L (st) h = ev 73 25 L (.int (1 : Int32) :: st) h := G_iconst f73_24 (by decide)
theorem f73_25 : fetch 73 25 = some (.if_icmp .lt 10, 3) := vtab tk73 14 rfl
theorem e73_25 (L : VL) (st : List Value) (h : VG) (x y : Int32) : ev 73 25 L (.int y :: .int x :: st) h = if x < y then ev 73 35 L st h else ev 73 28 L st h := G_icmp_lt f73_25 (by decide)
theorem f73_28 : fetch 73 28 = some (.iload_n 1, 1) := vtab tk73 15 rfl
theorem e73_28 (l0 : Option Value) (L : VL) (st : List Value) (h : VG) (x : Int32) : ev 73 28 (l0 :: some (.int x) :: L) (st) h = ev 73 29 (l0 :: some (.int x) :: L) (.int x :: st) h := G_iload_n f73_28 rfl
theorem f73_29 : fetch 73 29 = some (.sipush 256, 3) := vtab tk73 16 rfl
theorem e73_29 (L : VL) (st : List Value) (h : VG) : ev 73 29 L (st) h = ev 73 32 L (.int (256 : Int32) :: st) h := G_sipush f73_29 (by decide)
theorem f73_32 : fetch 73 32 = some (.if_icmp .le 11, 3) := vtab tk73 17 rfl
theorem e73_32 (L : VL) (st : List Value) (h : VG) (x y : Int32) : ev 73 32 L (.int y :: .int x :: st) h = if x ≤ y then ev 73 43 L st h else ev 73 35 L st h := G_icmp_le f73_32 (by decide)
theorem f73_35 : fetch 73 35 = some (.aload_n 0, 1) := vtab tk73 18 rfl
theorem e73_35 (L : VL) (st : List Value) (h : VG) (x : Nat) : ev 73 35 (some (.ref x) :: L) (st) h = ev 73 36 (some (.ref x) :: L) (.ref x :: st) h := G_aload_n f73_35 rfl
theorem f73_36 : fetch 73 36 = some (.iconst 5, 1) := vtab tk73 19 rfl
theorem e73_36 (L : VL) (st : List Value) (h : VG) : ev 73 36 L (st) h = ev 73 37 L (.int (5 : Int32) :: st) h := G_iconst f73_36 (by decide)
theorem f73_37 : fetch 73 37 = some (.invokevirtual 94, 3) := vtab tk73 20 rfl
theorem e73_37 (L : VL) (st : List Value) (h : VG) (b : Nat) (x0 : Int32) (ho : ob h b 7) (hs : catS st ≤ 8) : ev 73 37 L (.int x0 :: .ref b :: st) h = (ev 71 0 [some (.ref b), some (.int x0)] [] h).bind fun q => ev 73 40 L (q.1.toList ++ st) q.2 := G_callv (k := 1) (p := 558) (ars := [.int x0]) f73_37 lkC_8_94 (by decide) (by decide +kernel) rfl (vcls_ob (ci := 7) (by decide) ho) (Nat.le_of_ble_eq_true rfl) hs rfl
theorem f73_40 : fetch 73 40 = some (.goto 14, 3) := vtab tk73 21 rfl
theorem e73_40 (L : VL) (st : List Value) (h : VG) : ev 73 40 L (st) h = ev 73 54 L (st) h := G_goto f73_40 (by decide)
theorem f73_43 : fetch 73 43 = some (.aload_n 0, 1) := vtab tk73 22 rfl
theorem e73_43 (L : VL) (st : List Value) (h : VG) (x : Nat) : ev 73 43 (some (.ref x) :: L) (st) h = ev 73 44 (some (.ref x) :: L) (.ref x :: st) h := G_aload_n f73_43 rfl
theorem f73_44 : fetch 73 44 = some (.getfield 22, 3) := vtab tk73 23 rfl
theorem e73_44 (L : VL) (st : List Value) (h : VG) (a : Nat) (ho : ob h a 7) (hr : isR h a 2) : ev 73 44 L (.ref a :: st) h = ev 73 47 L (.ref (gR h a 2) :: st) h := G_getR (p := 195) f73_44 lkF_8_22 (by decide) (by decide) ho hr
theorem f73_47 : fetch 73 47 = some (.getfield 81, 3) := vtab tk73 24 rfl
theorem e73_47 (L : VL) (st : List Value) (h : VG) (a : Nat) (ho : ob h a 6) (hr : isR h a 0) : ev 73 47 L (.ref a :: st) h = ev 73 50 L (.ref (gR h a 0) :: st) h := G_getR (p := 336) f73_47 lkF_8_81 (by decide) (by decide) ho hr
theorem f73_50 : fetch 73 50 = some (.iload_n 1, 1) := vtab tk73 25 rfl
theorem e73_50 (l0 : Option Value) (L : VL) (st : List Value) (h : VG) (x : Int32) : ev 73 50 (l0 :: some (.int x) :: L) (st) h = ev 73 51 (l0 :: some (.int x) :: L) (.int x :: st) h := G_iload_n f73_50 rfl
theorem f73_51 : fetch 73 51 = some (.putfield 98, 3) := vtab tk73 26 rfl
theorem e73_51 (L : VL) (st : List Value) (h : VG) (a : Nat) (x : Int32) (ho : ob h a 5) : ev 73 51 L (.int x :: .ref a :: st) h = ev 73 54 L (st) (pI h a 1 x) := G_putI (p := 228) f73_51 lkF_8_98 (by decide) (by decide) (by decide +kernel) ⟨rfl, rfl⟩ ho
theorem f73_54 : fetch 73 54 = some (.aload_n 0, 1) := vtab tk73 27 rfl
theorem e73_54 (L : VL) (st : List Value) (h : VG) (x : Nat) : ev 73 54 (some (.ref x) :: L) (st) h = ev 73 55 (some (.ref x) :: L) (.ref x :: st) h := G_aload_n f73_54 rfl
theorem f73_55 : fetch 73 55 = some (.iconst 4, 1) := vtab tk73 28 rfl
theorem e73_55 (L : VL) (st : List Value) (h : VG) : ev 73 55 L (st) h = ev 73 56 L (.int (4 : Int32) :: st) h := G_iconst f73_55 (by decide)
theorem f73_56 : fetch 73 56 = some (.invokevirtual 78, 3) := vtab tk73 29 rfl
theorem e73_56 (L : VL) (st : List Value) (h : VG) (b : Nat) (x0 : Int32) (ho : ob h b 7) (hs : catS st ≤ 8) : ev 73 56 L (.int x0 :: .ref b :: st) h = (ev 68 0 [some (.ref b), some (.int x0)] [] h).bind fun q => ev 73 59 L (q.1.toList ++ st) q.2 := G_callv (k := 1) (p := 542) (ars := [.int x0]) f73_56 lkC_8_78 (by decide) (by decide +kernel) rfl (vcls_ob (ci := 7) (by decide) ho) (Nat.le_of_ble_eq_true rfl) hs rfl
theorem f73_59 : fetch 73 59 = some (.pop, 1) := vtab tk73 30 rfl
theorem e73_59 (L : VL) (st : List Value) (h : VG) (x : Int32) : ev 73 59 L (.int x :: st) h = ev 73 60 L (st) h := G_pop_int f73_59
theorem e73_59b (L : VL) (st : List Value) (h : VG) (x : Nat) : ev 73 59 L (.ref x :: st) h = ev 73 60 L (st) h := G_pop_ref f73_59
theorem f73_60 : fetch 73 60 = some (.return_, 1) := vtab tk73 31 rfl
theorem e73_60 (L : VL) (h : VG) : ev 73 60 L [] h = some (none, h) := G_vret f73_60 (by decide)
/-! 74 GuestCalls$Reader.readForm()V -/
def tb74 : List (Nat × Instr × Nat) := [(0, .aload_n 0, 1), (1, .getfield 22, 3), (4, .getfield 101, 3), (7, .bipush 6, 2), (9, .if_icmp .ne 10, 3), (12, .aload_n 0, 1), (13, .iconst 2, 1), (14, .invokevirtual 65, 3), (17, .pop, 1), (18, .return_, 1), (19, .aload_n 0, 1), (20, .bipush 8, 2), (22, .invokevirtual 78, 3), (25, .ifCond .eq 11, 3), (28, .aload_n 0, 1), (29, .iconst 2, 1), (30, .invokevirtual 78, 3), (33, .ifCond .ne 4, 3), (36, .return_, 1), (37, .aload_n 0, 1), (38, .getfield 12, 3), (41, .getfield 68, 3), (44, .aload_n 0, 1), (45, .getfield 31, 3), (48, .iconst 1, 1), (49, .isub, 1), (50, .laload, 1), (51, .lstore_n 1, 1), (52, .aload_n 0, 1), (53, .getfield 22, 3), (56, .lload_n 1, 1), (57, .invokevirtual 104, 3), (60, .ifCond .eq 8, 3), (63, .aload_n 0, 1), (64, .iconst 3, 1), (65, .invokevirtual 94, 3), (68, .aload_n 0, 1), (69, .getfield 22, 3), (72, .getfield 108, 3), (75, .aload_n 0, 1), (76, .getfield 22, 3), (79, .getfield 101, 3), (82, .aaload, 1), (83, .astore_n 3, 1), (84, .aload_n 3, 1), (85, .lload_n 1, 1), (86, .invokevirtual 112, 3), (89, .aload_n 0, 1), (90, .aload_n 3, 1), (91, .invokevirtual 117, 3), (94, .ifCond .eq 28, 3), (97, .aload_n 0, 1), (98, .iconst 4, 1), (99, .invokevirtual 78, 3), (102, .ifCond .eq 20, 3), (105, .aload_n 3, 1), (106, .invokevirtual 121, 3), (109, .aload_n 0, 1), (110, .getfield 22, 3), (113, .dup, 1), (114, .getfield 101, 3), (117, .iconst 1, 1), (118, .iadd, 1), (119, .putfield 101, 3), (122, .return_, 1)]
theorem tk74 : tb74.all (fun q => decide (fetch 74 q.1 = some q.2)) = true := by decide +kernel
theorem f74_0 : fetch 74 0 = some (.aload_n 0, 1) := vtab tk74 0 rfl
theorem e74_0 (L : VL) (st : List Value) (h : VG) (x : Nat) : ev 74 0 (some (.ref x) :: L) (st) h = ev 74 1 (some (.ref x) :: L) (.ref x :: st) h := G_aload_n f74_0 rfl
theorem f74_1 : fetch 74 1 = some (.getfield 22, 3) := vtab tk74 1 rfl
theorem e74_1 (L : VL) (st : List Value) (h : VG) (a : Nat) (ho : ob h a 7) (hr : isR h a 2) : ev 74 1 L (.ref a :: st) h = ev 74 4 L (.ref (gR h a 2) :: st) h := G_getR (p := 195) f74_1 lkF_8_22 (by decide) (by decide) ho hr
theorem f74_4 : fetch 74 4 = some (.getfield 101, 3) := vtab tk74 2 rfl
theorem e74_4 (L : VL) (st : List Value) (h : VG) (a : Nat) (ho : ob h a 6) : ev 74 4 L (.ref a :: st) h = ev 74 7 L (.int (gI h a 2) :: st) h := G_getI (p := 342) f74_4 lkF_8_101 (by decide) (by decide) ho
theorem f74_7 : fetch 74 7 = some (.bipush 6, 2) := vtab tk74 3 rfl
theorem e74_7 (L : VL) (st : List Value) (h : VG) : ev 74 7 L (st) h = ev 74 9 L (.int (6 : Int32) :: st) h := G_bipush f74_7 (by decide)
theorem f74_9 : fetch 74 9 = some (.if_icmp .ne 10, 3) := vtab tk74 4 rfl
theorem e74_9 (L : VL) (st : List Value) (h : VG) (x y : Int32) : ev 74 9 L (.int y :: .int x :: st) h = if x = y then ev 74 12 L st h else ev 74 19 L st h := G_icmp_ne f74_9 (by decide)
theorem f74_12 : fetch 74 12 = some (.aload_n 0, 1) := vtab tk74 5 rfl
theorem e74_12 (L : VL) (st : List Value) (h : VG) (x : Nat) : ev 74 12 (some (.ref x) :: L) (st) h = ev 74 13 (some (.ref x) :: L) (.ref x :: st) h := G_aload_n f74_12 rfl
theorem f74_13 : fetch 74 13 = some (.iconst 2, 1) := vtab tk74 6 rfl
theorem e74_13 (L : VL) (st : List Value) (h : VG) : ev 74 13 L (st) h = ev 74 14 L (.int (2 : Int32) :: st) h := G_iconst f74_13 (by decide)
theorem f74_14 : fetch 74 14 = some (.invokevirtual 65, 3) := vtab tk74 7 rfl
theorem e74_14 (L : VL) (st : List Value) (h : VG) (b : Nat) (x0 : Int32) (ho : ob h b 7) (hs : catS st ≤ 8) : ev 74 14 L (.int x0 :: .ref b :: st) h = (ev 70 0 [some (.ref b), some (.int x0)] [] h).bind fun q => ev 74 17 L (q.1.toList ++ st) q.2 := G_callv (k := 1) (p := 546) (ars := [.int x0]) f74_14 lkC_8_65 (by decide) (by decide +kernel) rfl (vcls_ob (ci := 7) (by decide) ho) (Nat.le_of_ble_eq_true rfl) hs rfl
theorem f74_17 : fetch 74 17 = some (.pop, 1) := vtab tk74 8 rfl
theorem e74_17 (L : VL) (st : List Value) (h : VG) (x : Int32) : ev 74 17 L (.int x :: st) h = ev 74 18 L (st) h := G_pop_int f74_17
theorem e74_17b (L : VL) (st : List Value) (h : VG) (x : Nat) : ev 74 17 L (.ref x :: st) h = ev 74 18 L (st) h := G_pop_ref f74_17
theorem f74_18 : fetch 74 18 = some (.return_, 1) := vtab tk74 9 rfl
theorem e74_18 (L : VL) (h : VG) : ev 74 18 L [] h = some (none, h) := G_vret f74_18 (by decide)
theorem f74_19 : fetch 74 19 = some (.aload_n 0, 1) := vtab tk74 10 rfl
theorem e74_19 (L : VL) (st : List Value) (h : VG) (x : Nat) : ev 74 19 (some (.ref x) :: L) (st) h = ev 74 20 (some (.ref x) :: L) (.ref x :: st) h := G_aload_n f74_19 rfl
theorem f74_20 : fetch 74 20 = some (.bipush 8, 2) := vtab tk74 11 rfl
theorem e74_20 (L : VL) (st : List Value) (h : VG) : ev 74 20 L (st) h = ev 74 22 L (.int (8 : Int32) :: st) h := G_bipush f74_20 (by decide)
theorem f74_22 : fetch 74 22 = some (.invokevirtual 78, 3) := vtab tk74 12 rfl
theorem e74_22 (L : VL) (st : List Value) (h : VG) (b : Nat) (x0 : Int32) (ho : ob h b 7) (hs : catS st ≤ 8) : ev 74 22 L (.int x0 :: .ref b :: st) h = (ev 68 0 [some (.ref b), some (.int x0)] [] h).bind fun q => ev 74 25 L (q.1.toList ++ st) q.2 := G_callv (k := 1) (p := 542) (ars := [.int x0]) f74_22 lkC_8_78 (by decide) (by decide +kernel) rfl (vcls_ob (ci := 7) (by decide) ho) (Nat.le_of_ble_eq_true rfl) hs rfl
theorem f74_25 : fetch 74 25 = some (.ifCond .eq 11, 3) := vtab tk74 13 rfl
theorem e74_25 (L : VL) (st : List Value) (h : VG) (x : Int32) : ev 74 25 L (.int x :: st) h = if x = 0 then ev 74 36 L st h else ev 74 28 L st h := G_if_eq f74_25 (by decide)
theorem f74_28 : fetch 74 28 = some (.aload_n 0, 1) := vtab tk74 14 rfl
theorem e74_28 (L : VL) (st : List Value) (h : VG) (x : Nat) : ev 74 28 (some (.ref x) :: L) (st) h = ev 74 29 (some (.ref x) :: L) (.ref x :: st) h := G_aload_n f74_28 rfl
theorem f74_29 : fetch 74 29 = some (.iconst 2, 1) := vtab tk74 15 rfl
theorem e74_29 (L : VL) (st : List Value) (h : VG) : ev 74 29 L (st) h = ev 74 30 L (.int (2 : Int32) :: st) h := G_iconst f74_29 (by decide)
theorem f74_30 : fetch 74 30 = some (.invokevirtual 78, 3) := vtab tk74 16 rfl
theorem e74_30 (L : VL) (st : List Value) (h : VG) (b : Nat) (x0 : Int32) (ho : ob h b 7) (hs : catS st ≤ 8) : ev 74 30 L (.int x0 :: .ref b :: st) h = (ev 68 0 [some (.ref b), some (.int x0)] [] h).bind fun q => ev 74 33 L (q.1.toList ++ st) q.2 := G_callv (k := 1) (p := 542) (ars := [.int x0]) f74_30 lkC_8_78 (by decide) (by decide +kernel) rfl (vcls_ob (ci := 7) (by decide) ho) (Nat.le_of_ble_eq_true rfl) hs rfl
theorem f74_33 : fetch 74 33 = some (.ifCond .ne 4, 3) := vtab tk74 17 rfl
theorem e74_33 (L : VL) (st : List Value) (h : VG) (x : Int32) : ev 74 33 L (.int x :: st) h = if x = 0 then ev 74 36 L st h else ev 74 37 L st h := G_if_ne f74_33 (by decide)
theorem f74_36 : fetch 74 36 = some (.return_, 1) := vtab tk74 18 rfl
theorem e74_36 (L : VL) (h : VG) : ev 74 36 L [] h = some (none, h) := G_vret f74_36 (by decide)
theorem f74_37 : fetch 74 37 = some (.aload_n 0, 1) := vtab tk74 19 rfl
theorem e74_37 (L : VL) (st : List Value) (h : VG) (x : Nat) : ev 74 37 (some (.ref x) :: L) (st) h = ev 74 38 (some (.ref x) :: L) (.ref x :: st) h := G_aload_n f74_37 rfl
theorem f74_38 : fetch 74 38 = some (.getfield 12, 3) := vtab tk74 20 rfl
theorem e74_38 (L : VL) (st : List Value) (h : VG) (a : Nat) (ho : ob h a 7) (hr : isR h a 1) : ev 74 38 L (.ref a :: st) h = ev 74 41 L (.ref (gR h a 1) :: st) h := G_getR (p := 194) f74_38 lkF_8_12 (by decide) (by decide) ho hr
theorem f74_41 : fetch 74 41 = some (.getfield 68, 3) := vtab tk74 21 rfl
theorem e74_41 (L : VL) (st : List Value) (h : VG) (a : Nat) (ho : ob h a 9) (hr : isR h a 2) : ev 74 41 L (.ref a :: st) h = ev 74 44 L (.ref (gR h a 2) :: st) h := G_getR (p := 178) f74_41 lkF_8_68 (by decide) (by decide) ho hr
theorem f74_44 : fetch 74 44 = some (.aload_n 0, 1) := vtab tk74 22 rfl
theorem e74_44 (L : VL) (st : List Value) (h : VG) (x : Nat) : ev 74 44 (some (.ref x) :: L) (st) h = ev 74 45 (some (.ref x) :: L) (.ref x :: st) h := G_aload_n f74_44 rfl
theorem f74_45 : fetch 74 45 = some (.getfield 31, 3) := vtab tk74 23 rfl
theorem e74_45 (L : VL) (st : List Value) (h : VG) (a : Nat) (ho : ob h a 7) : ev 74 45 L (.ref a :: st) h = ev 74 48 L (.int (gI h a 3) :: st) h := G_getI (p := 196) f74_45 lkF_8_31 (by decide) (by decide) ho
theorem f74_48 : fetch 74 48 = some (.iconst 1, 1) := vtab tk74 24 rfl
theorem e74_48 (L : VL) (st : List Value) (h : VG) : ev 74 48 L (st) h = ev 74 49 L (.int (1 : Int32) :: st) h := G_iconst f74_48 (by decide)
theorem f74_49 : fetch 74 49 = some (.isub, 1) := vtab tk74 25 rfl
theorem e74_49 (L : VL) (st : List Value) (h : VG) (x y : Int32) : ev 74 49 L (.int y :: .int x :: st) h = ev 74 50 L (.int (x - y) :: st) h := G_isub f74_49
theorem f74_50 : fetch 74 50 = some (.laload, 1) := vtab tk74 26 rfl
theorem e74_50 (L : VL) (st : List Value) (h : VG) (a : Nat) (i : Int32) (ha : arL h a) (hi : vp_in i (aln h a)) : ev 74 50 L (.int i :: .ref a :: st) h = ev 74 51 L (.long (aL h a i.toNatClampNeg) :: st) h := G_lald f74_50 ha hi
theorem f74_51 : fetch 74 51 = some (.lstore_n 1, 1) := vtab tk74 27 rfl
theorem e74_51 (l0 l1 l2 : Option Value) (L : VL) (st : List Value) (h : VG) (x : Int64) : ev 74 51 (l0 :: l1 :: l2 :: L) (.long x :: st) h = ev 74 52 (vkk l0 :: some (.long x) :: none :: L) (st) h := G_lstore_n f74_51 rfl (S2_1 l0 l1 l2 L _)
theorem f74_52 : fetch 74 52 = some (.aload_n 0, 1) := vtab tk74 28 rfl
theorem e74_52 (L : VL) (st : List Value) (h : VG) (x : Nat) : ev 74 52 (some (.ref x) :: L) (st) h = ev 74 53 (some (.ref x) :: L) (.ref x :: st) h := G_aload_n f74_52 rfl
theorem f74_53 : fetch 74 53 = some (.getfield 22, 3) := vtab tk74 29 rfl
theorem e74_53 (L : VL) (st : List Value) (h : VG) (a : Nat) (ho : ob h a 7) (hr : isR h a 2) : ev 74 53 L (.ref a :: st) h = ev 74 56 L (.ref (gR h a 2) :: st) h := G_getR (p := 195) f74_53 lkF_8_22 (by decide) (by decide) ho hr
theorem f74_56 : fetch 74 56 = some (.lload_n 1, 1) := vtab tk74 30 rfl
theorem e74_56 (l0 : Option Value) (L : VL) (st : List Value) (h : VG) (x : Int64) : ev 74 56 (l0 :: some (.long x) :: L) (st) h = ev 74 57 (l0 :: some (.long x) :: L) (.long x :: st) h := G_lload_n f74_56 rfl
theorem f74_57 : fetch 74 57 = some (.invokevirtual 104, 3) := vtab tk74 31 rfl
theorem e74_57 (L : VL) (st : List Value) (h : VG) (b : Nat) (x0 : Int64) (ho : ob h b 6) (hs : catS st ≤ 8) : ev 74 57 L (.long x0 :: .ref b :: st) h = (ev 63 0 [some (.ref b), some (.long x0), none, none] [] h).bind fun q => ev 74 60 L (q.1.toList ++ st) q.2 := G_callv (k := 1) (p := 566) (ars := [.long x0]) f74_57 lkC_8_104 (by decide) (by decide +kernel) rfl (vcls_ob (ci := 6) (by decide) ho) (Nat.le_of_ble_eq_true rfl) hs rfl
theorem f74_60 : fetch 74 60 = some (.ifCond .eq 8, 3) := vtab tk74 32 rfl
theorem e74_60 (L : VL) (st : List Value) (h : VG) (x : Int32) : ev 74 60 L (.int x :: st) h = if x = 0 then ev 74 68 L st h else ev 74 63 L st h := G_if_eq f74_60 (by decide)
theorem f74_63 : fetch 74 63 = some (.aload_n 0, 1) := vtab tk74 33 rfl
theorem e74_63 (L : VL) (st : List Value) (h : VG) (x : Nat) : ev 74 63 (some (.ref x) :: L) (st) h = ev 74 64 (some (.ref x) :: L) (.ref x :: st) h := G_aload_n f74_63 rfl
theorem f74_64 : fetch 74 64 = some (.iconst 3, 1) := vtab tk74 34 rfl
theorem e74_64 (L : VL) (st : List Value) (h : VG) : ev 74 64 L (st) h = ev 74 65 L (.int (3 : Int32) :: st) h := G_iconst f74_64 (by decide)
theorem f74_65 : fetch 74 65 = some (.invokevirtual 94, 3) := vtab tk74 35 rfl
theorem e74_65 (L : VL) (st : List Value) (h : VG) (b : Nat) (x0 : Int32) (ho : ob h b 7) (hs : catS st ≤ 8) : ev 74 65 L (.int x0 :: .ref b :: st) h = (ev 71 0 [some (.ref b), some (.int x0)] [] h).bind fun q => ev 74 68 L (q.1.toList ++ st) q.2 := G_callv (k := 1) (p := 558) (ars := [.int x0]) f74_65 lkC_8_94 (by decide) (by decide +kernel) rfl (vcls_ob (ci := 7) (by decide) ho) (Nat.le_of_ble_eq_true rfl) hs rfl
theorem f74_68 : fetch 74 68 = some (.aload_n 0, 1) := vtab tk74 36 rfl
theorem e74_68 (L : VL) (st : List Value) (h : VG) (x : Nat) : ev 74 68 (some (.ref x) :: L) (st) h = ev 74 69 (some (.ref x) :: L) (.ref x :: st) h := G_aload_n f74_68 rfl
theorem f74_69 : fetch 74 69 = some (.getfield 22, 3) := vtab tk74 37 rfl
theorem e74_69 (L : VL) (st : List Value) (h : VG) (a : Nat) (ho : ob h a 7) (hr : isR h a 2) : ev 74 69 L (.ref a :: st) h = ev 74 72 L (.ref (gR h a 2) :: st) h := G_getR (p := 195) f74_69 lkF_8_22 (by decide) (by decide) ho hr
theorem f74_72 : fetch 74 72 = some (.getfield 108, 3) := vtab tk74 38 rfl
theorem e74_72 (L : VL) (st : List Value) (h : VG) (a : Nat) (ho : ob h a 6) (hr : isR h a 1) : ev 74 72 L (.ref a :: st) h = ev 74 75 L (.ref (gR h a 1) :: st) h := G_getR (p := 338) f74_72 lkF_8_108 (by decide) (by decide) ho hr
theorem f74_75 : fetch 74 75 = some (.aload_n 0, 1) := vtab tk74 39 rfl
theorem e74_75 (L : VL) (st : List Value) (h : VG) (x : Nat) : ev 74 75 (some (.ref x) :: L) (st) h = ev 74 76 (some (.ref x) :: L) (.ref x :: st) h := G_aload_n f74_75 rfl
theorem f74_76 : fetch 74 76 = some (.getfield 22, 3) := vtab tk74 40 rfl
theorem e74_76 (L : VL) (st : List Value) (h : VG) (a : Nat) (ho : ob h a 7) (hr : isR h a 2) : ev 74 76 L (.ref a :: st) h = ev 74 79 L (.ref (gR h a 2) :: st) h := G_getR (p := 195) f74_76 lkF_8_22 (by decide) (by decide) ho hr
theorem f74_79 : fetch 74 79 = some (.getfield 101, 3) := vtab tk74 41 rfl
theorem e74_79 (L : VL) (st : List Value) (h : VG) (a : Nat) (ho : ob h a 6) : ev 74 79 L (.ref a :: st) h = ev 74 82 L (.int (gI h a 2) :: st) h := G_getI (p := 342) f74_79 lkF_8_101 (by decide) (by decide) ho
theorem f74_82 : fetch 74 82 = some (.aaload, 1) := vtab tk74 42 rfl
theorem e74_82 (L : VL) (st : List Value) (h : VG) (a : Nat) (i : Int32) (ha : rdR h a) (hi : vp_in i (aln h a)) : ev 74 82 L (.int i :: .ref a :: st) h = ev 74 83 L (va_rf (aR h a i.toNatClampNeg) :: st) h := G_aald' f74_82 ha hi
theorem f74_83 : fetch 74 83 = some (.astore_n 3, 1) := vtab tk74 43 rfl
theorem e74_83 (l0 l1 l2 l3 : Option Value) (L : VL) (st : List Value) (h : VG) (x : Nat) : ev 74 83 (l0 :: l1 :: l2 :: l3 :: L) (.ref x :: st) h = ev 74 84 (l0 :: l1 :: vkk l2 :: some (.ref x) :: L) (st) h := G_astore_n f74_83 rfl (S1_3 l0 l1 l2 l3 L _)
theorem f74_84 : fetch 74 84 = some (.aload_n 3, 1) := vtab tk74 44 rfl
theorem e74_84 (l0 l1 l2 : Option Value) (L : VL) (st : List Value) (h : VG) (x : Nat) : ev 74 84 (l0 :: l1 :: l2 :: some (.ref x) :: L) (st) h = ev 74 85 (l0 :: l1 :: l2 :: some (.ref x) :: L) (.ref x :: st) h := G_aload_n f74_84 rfl
theorem f74_85 : fetch 74 85 = some (.lload_n 1, 1) := vtab tk74 45 rfl
theorem e74_85 (l0 : Option Value) (L : VL) (st : List Value) (h : VG) (x : Int64) : ev 74 85 (l0 :: some (.long x) :: L) (st) h = ev 74 86 (l0 :: some (.long x) :: L) (.long x :: st) h := G_lload_n f74_85 rfl
theorem f74_86 : fetch 74 86 = some (.invokevirtual 112, 3) := vtab tk74 46 rfl
theorem e74_86 (L : VL) (st : List Value) (h : VG) (b : Nat) (x0 : Int64) (ho : ob h b 3) (hs : catS st ≤ 8) : ev 74 86 L (.long x0 :: .ref b :: st) h = (ev 27 0 [some (.ref b), some (.long x0), none] [] h).bind fun q => ev 74 89 L (q.1.toList ++ st) q.2 := G_callv (k := 1) (p := 570) (ars := [.long x0]) f74_86 lkC_8_112 (by decide) (by decide +kernel) rfl (vcls_ob (ci := 3) (by decide) ho) (Nat.le_of_ble_eq_true rfl) hs rfl
theorem f74_89 : fetch 74 89 = some (.aload_n 0, 1) := vtab tk74 47 rfl
theorem e74_89 (L : VL) (st : List Value) (h : VG) (x : Nat) : ev 74 89 (some (.ref x) :: L) (st) h = ev 74 90 (some (.ref x) :: L) (.ref x :: st) h := G_aload_n f74_89 rfl
theorem f74_90 : fetch 74 90 = some (.aload_n 3, 1) := vtab tk74 48 rfl
theorem e74_90 (l0 l1 l2 : Option Value) (L : VL) (st : List Value) (h : VG) (x : Nat) : ev 74 90 (l0 :: l1 :: l2 :: some (.ref x) :: L) (st) h = ev 74 91 (l0 :: l1 :: l2 :: some (.ref x) :: L) (.ref x :: st) h := G_aload_n f74_90 rfl
theorem f74_91 : fetch 74 91 = some (.invokevirtual 117, 3) := vtab tk74 49 rfl
theorem e74_91 (L : VL) (st : List Value) (h : VG) (b : Nat) (x0 : Nat) (ho : ob h b 7) (hs : catS st ≤ 8) : ev 74 91 L (.ref x0 :: .ref b :: st) h = (ev 75 0 [some (.ref b), some (.ref x0), none, none] [] h).bind fun q => ev 74 94 L (q.1.toList ++ st) q.2 := G_callv (k := 1) (p := 574) (ars := [.ref x0]) f74_91 lkC_8_117 (by decide) (by decide +kernel) rfl (vcls_ob (ci := 7) (by decide) ho) (Nat.le_of_ble_eq_true rfl) hs rfl
theorem f74_94 : fetch 74 94 = some (.ifCond .eq 28, 3) := vtab tk74 50 rfl
theorem e74_94 (L : VL) (st : List Value) (h : VG) (x : Int32) : ev 74 94 L (.int x :: st) h = if x = 0 then ev 74 122 L st h else ev 74 97 L st h := G_if_eq f74_94 (by decide)
theorem f74_97 : fetch 74 97 = some (.aload_n 0, 1) := vtab tk74 51 rfl
theorem e74_97 (L : VL) (st : List Value) (h : VG) (x : Nat) : ev 74 97 (some (.ref x) :: L) (st) h = ev 74 98 (some (.ref x) :: L) (.ref x :: st) h := G_aload_n f74_97 rfl
theorem f74_98 : fetch 74 98 = some (.iconst 4, 1) := vtab tk74 52 rfl
theorem e74_98 (L : VL) (st : List Value) (h : VG) : ev 74 98 L (st) h = ev 74 99 L (.int (4 : Int32) :: st) h := G_iconst f74_98 (by decide)
theorem f74_99 : fetch 74 99 = some (.invokevirtual 78, 3) := vtab tk74 53 rfl
theorem e74_99 (L : VL) (st : List Value) (h : VG) (b : Nat) (x0 : Int32) (ho : ob h b 7) (hs : catS st ≤ 8) : ev 74 99 L (.int x0 :: .ref b :: st) h = (ev 68 0 [some (.ref b), some (.int x0)] [] h).bind fun q => ev 74 102 L (q.1.toList ++ st) q.2 := G_callv (k := 1) (p := 542) (ars := [.int x0]) f74_99 lkC_8_78 (by decide) (by decide +kernel) rfl (vcls_ob (ci := 7) (by decide) ho) (Nat.le_of_ble_eq_true rfl) hs rfl
theorem f74_102 : fetch 74 102 = some (.ifCond .eq 20, 3) := vtab tk74 54 rfl
theorem e74_102 (L : VL) (st : List Value) (h : VG) (x : Int32) : ev 74 102 L (.int x :: st) h = if x = 0 then ev 74 122 L st h else ev 74 105 L st h := G_if_eq f74_102 (by decide)
theorem f74_105 : fetch 74 105 = some (.aload_n 3, 1) := vtab tk74 55 rfl
theorem e74_105 (l0 l1 l2 : Option Value) (L : VL) (st : List Value) (h : VG) (x : Nat) : ev 74 105 (l0 :: l1 :: l2 :: some (.ref x) :: L) (st) h = ev 74 106 (l0 :: l1 :: l2 :: some (.ref x) :: L) (.ref x :: st) h := G_aload_n f74_105 rfl
theorem f74_106 : fetch 74 106 = some (.invokevirtual 121, 3) := vtab tk74 56 rfl
theorem e74_106 (L : VL) (st : List Value) (h : VG) (b : Nat)  (ho : ob h b 3) (hs : catS st ≤ 8) : ev 74 106 L (.ref b :: st) h = (ev 29 0 [some (.ref b)] [] h).bind fun q => ev 74 109 L (q.1.toList ++ st) q.2 := G_callv (k := 1) (p := 586) (ars := []) f74_106 lkC_8_121 (by decide) (by decide +kernel) rfl (vcls_ob (ci := 3) (by decide) ho) (Nat.le_of_ble_eq_true rfl) hs rfl
theorem f74_109 : fetch 74 109 = some (.aload_n 0, 1) := vtab tk74 57 rfl
theorem e74_109 (L : VL) (st : List Value) (h : VG) (x : Nat) : ev 74 109 (some (.ref x) :: L) (st) h = ev 74 110 (some (.ref x) :: L) (.ref x :: st) h := G_aload_n f74_109 rfl
theorem f74_110 : fetch 74 110 = some (.getfield 22, 3) := vtab tk74 58 rfl
theorem e74_110 (L : VL) (st : List Value) (h : VG) (a : Nat) (ho : ob h a 7) (hr : isR h a 2) : ev 74 110 L (.ref a :: st) h = ev 74 113 L (.ref (gR h a 2) :: st) h := G_getR (p := 195) f74_110 lkF_8_22 (by decide) (by decide) ho hr
theorem f74_113 : fetch 74 113 = some (.dup, 1) := vtab tk74 59 rfl
theorem e74_113b (L : VL) (st : List Value) (h : VG) (x : Int32) : ev 74 113 L (.int x :: st) h = ev 74 114 L (.int x :: .int x :: st) h := G_dup_int f74_113
theorem e74_113 (L : VL) (st : List Value) (h : VG) (x : Nat) : ev 74 113 L (.ref x :: st) h = ev 74 114 L (.ref x :: .ref x :: st) h := G_dup_ref f74_113
theorem f74_114 : fetch 74 114 = some (.getfield 101, 3) := vtab tk74 60 rfl
theorem e74_114 (L : VL) (st : List Value) (h : VG) (a : Nat) (ho : ob h a 6) : ev 74 114 L (.ref a :: st) h = ev 74 117 L (.int (gI h a 2) :: st) h := G_getI (p := 342) f74_114 lkF_8_101 (by decide) (by decide) ho
theorem f74_117 : fetch 74 117 = some (.iconst 1, 1) := vtab tk74 61 rfl
theorem e74_117 (L : VL) (st : List Value) (h : VG) : ev 74 117 L (st) h = ev 74 118 L (.int (1 : Int32) :: st) h := G_iconst f74_117 (by decide)
theorem f74_118 : fetch 74 118 = some (.iadd, 1) := vtab tk74 62 rfl
theorem e74_118 (L : VL) (st : List Value) (h : VG) (x y : Int32) : ev 74 118 L (.int y :: .int x :: st) h = ev 74 119 L (.int (x + y) :: st) h := G_iadd f74_118
theorem f74_119 : fetch 74 119 = some (.putfield 101, 3) := vtab tk74 63 rfl
theorem e74_119 (L : VL) (st : List Value) (h : VG) (a : Nat) (x : Int32) (ho : ob h a 6) : ev 74 119 L (.int x :: .ref a :: st) h = ev 74 122 L (st) (pI h a 2 x) := G_putI (p := 342) f74_119 lkF_8_101 (by decide) (by decide) (by decide +kernel) ⟨rfl, rfl⟩ ho
theorem f74_122 : fetch 74 122 = some (.return_, 1) := vtab tk74 64 rfl
theorem e74_122 (L : VL) (h : VG) : ev 74 122 L [] h = some (none, h) := G_vret f74_122 (by decide)
/-! 75 GuestCalls$Reader.readMembers(LGuestCalls$Form;)Z -/
def tb75 : List (Nat × Instr × Nat) := [(0, .iconst 0, 1), (1, .istore_n 2, 1), (2, .iload_n 2, 1), (3, .ifCond .eq 11, 3), (6, .aload_n 0, 1), (7, .iconst 5, 1), (8, .invokevirtual 42, 3), (11, .ifCond .eq 63, 3), (14, .iload_n 2, 1), (15, .bipush 8, 2), (17, .if_icmp .ne 9, 3), (20, .aload_n 0, 1), (21, .iconst 2, 1), (22, .invokevirtual 65, 3), (25, .ireturn, 1), (26, .aload_n 0, 1), (27, .iconst 5, 1), (28, .invokevirtual 78, 3), (31, .ifCond .ne 5, 3), (34, .iconst 0, 1), (35, .ireturn, 1), (36, .aload_n 0, 1), (37, .invokevirtual 90, 3), (40, .istore_n 3, 1), (41, .aload_n 0, 1), (42, .iconst 3, 1), (43, .invokevirtual 42, 3), (46, .ifCond .eq 13, 3), (49, .aload_n 0, 1), (50, .iconst 3, 1), (51, .invokevirtual 78, 3), (54, .ifCond .ne 5, 3), (57, .iconst 0, 1), (58, .ireturn, 1), (59, .aload_n 1, 1), (60, .iload_n 3, 1), (61, .aload_n 0, 1), (62, .invokevirtual 124, 3), (65, .invokevirtual 127, 3), (68, .iinc 2 1, 3), (71, .goto (-69), 3), (74, .iconst 1, 1), (75, .ireturn, 1)]
theorem tk75 : tb75.all (fun q => decide (fetch 75 q.1 = some q.2)) = true := by decide +kernel
theorem f75_0 : fetch 75 0 = some (.iconst 0, 1) := vtab tk75 0 rfl
theorem e75_0 (L : VL) (st : List Value) (h : VG) : ev 75 0 L (st) h = ev 75 1 L (.int (0 : Int32) :: st) h := G_iconst f75_0 (by decide)
theorem f75_1 : fetch 75 1 = some (.istore_n 2, 1) := vtab tk75 1 rfl
theorem e75_1 (l0 l1 l2 : Option Value) (L : VL) (st : List Value) (h : VG) (x : Int32) : ev 75 1 (l0 :: l1 :: l2 :: L) (.int x :: st) h = ev 75 2 (l0 :: vkk l1 :: some (.int x) :: L) (st) h := G_istore_n f75_1 rfl (S1_2 l0 l1 l2 L _)
theorem f75_2 : fetch 75 2 = some (.iload_n 2, 1) := vtab tk75 2 rfl
theorem e75_2 (l0 l1 : Option Value) (L : VL) (st : List Value) (h : VG) (x : Int32) : ev 75 2 (l0 :: l1 :: some (.int x) :: L) (st) h = ev 75 3 (l0 :: l1 :: some (.int x) :: L) (.int x :: st) h := G_iload_n f75_2 rfl
theorem f75_3 : fetch 75 3 = some (.ifCond .eq 11, 3) := vtab tk75 3 rfl
theorem e75_3 (L : VL) (st : List Value) (h : VG) (x : Int32) : ev 75 3 L (.int x :: st) h = if x = 0 then ev 75 14 L st h else ev 75 6 L st h := G_if_eq f75_3 (by decide)
theorem f75_6 : fetch 75 6 = some (.aload_n 0, 1) := vtab tk75 4 rfl
theorem e75_6 (L : VL) (st : List Value) (h : VG) (x : Nat) : ev 75 6 (some (.ref x) :: L) (st) h = ev 75 7 (some (.ref x) :: L) (.ref x :: st) h := G_aload_n f75_6 rfl
theorem f75_7 : fetch 75 7 = some (.iconst 5, 1) := vtab tk75 5 rfl
theorem e75_7 (L : VL) (st : List Value) (h : VG) : ev 75 7 L (st) h = ev 75 8 L (.int (5 : Int32) :: st) h := G_iconst f75_7 (by decide)
theorem f75_8 : fetch 75 8 = some (.invokevirtual 42, 3) := vtab tk75 6 rfl
theorem e75_8 (L : VL) (st : List Value) (h : VG) (b : Nat) (x0 : Int32) (ho : ob h b 7) (hs : catS st ≤ 8) : ev 75 8 L (.int x0 :: .ref b :: st) h = (ev 67 0 [some (.ref b), some (.int x0)] [] h).bind fun q => ev 75 11 L (q.1.toList ++ st) q.2 := G_callv (k := 1) (p := 530) (ars := [.int x0]) f75_8 lkC_8_42 (by decide) (by decide +kernel) rfl (vcls_ob (ci := 7) (by decide) ho) (Nat.le_of_ble_eq_true rfl) hs rfl
theorem f75_11 : fetch 75 11 = some (.ifCond .eq 63, 3) := vtab tk75 7 rfl
theorem e75_11 (L : VL) (st : List Value) (h : VG) (x : Int32) : ev 75 11 L (.int x :: st) h = if x = 0 then ev 75 74 L st h else ev 75 14 L st h := G_if_eq f75_11 (by decide)
theorem f75_14 : fetch 75 14 = some (.iload_n 2, 1) := vtab tk75 8 rfl
theorem e75_14 (l0 l1 : Option Value) (L : VL) (st : List Value) (h : VG) (x : Int32) : ev 75 14 (l0 :: l1 :: some (.int x) :: L) (st) h = ev 75 15 (l0 :: l1 :: some (.int x) :: L) (.int x :: st) h := G_iload_n f75_14 rfl
theorem f75_15 : fetch 75 15 = some (.bipush 8, 2) := vtab tk75 9 rfl
theorem e75_15 (L : VL) (st : List Value) (h : VG) : ev 75 15 L (st) h = ev 75 17 L (.int (8 : Int32) :: st) h := G_bipush f75_15 (by decide)
theorem f75_17 : fetch 75 17 = some (.if_icmp .ne 9, 3) := vtab tk75 10 rfl
theorem e75_17 (L : VL) (st : List Value) (h : VG) (x y : Int32) : ev 75 17 L (.int y :: .int x :: st) h = if x = y then ev 75 20 L st h else ev 75 26 L st h := G_icmp_ne f75_17 (by decide)
theorem f75_20 : fetch 75 20 = some (.aload_n 0, 1) := vtab tk75 11 rfl
theorem e75_20 (L : VL) (st : List Value) (h : VG) (x : Nat) : ev 75 20 (some (.ref x) :: L) (st) h = ev 75 21 (some (.ref x) :: L) (.ref x :: st) h := G_aload_n f75_20 rfl
theorem f75_21 : fetch 75 21 = some (.iconst 2, 1) := vtab tk75 12 rfl
theorem e75_21 (L : VL) (st : List Value) (h : VG) : ev 75 21 L (st) h = ev 75 22 L (.int (2 : Int32) :: st) h := G_iconst f75_21 (by decide)
theorem f75_22 : fetch 75 22 = some (.invokevirtual 65, 3) := vtab tk75 13 rfl
theorem e75_22 (L : VL) (st : List Value) (h : VG) (b : Nat) (x0 : Int32) (ho : ob h b 7) (hs : catS st ≤ 8) : ev 75 22 L (.int x0 :: .ref b :: st) h = (ev 70 0 [some (.ref b), some (.int x0)] [] h).bind fun q => ev 75 25 L (q.1.toList ++ st) q.2 := G_callv (k := 1) (p := 546) (ars := [.int x0]) f75_22 lkC_8_65 (by decide) (by decide +kernel) rfl (vcls_ob (ci := 7) (by decide) ho) (Nat.le_of_ble_eq_true rfl) hs rfl
theorem f75_25 : fetch 75 25 = some (.ireturn, 1) := vtab tk75 14 rfl
theorem e75_25 (L : VL) (h : VG) (x : Int32) (hz : x = 0 ∨ x = 1) : ev 75 25 L [.int x] h = some (some (.int x), h) := G_iret f75_25 (ty := .boolean) (by decide) (vbool hz).1
theorem f75_26 : fetch 75 26 = some (.aload_n 0, 1) := vtab tk75 15 rfl
theorem e75_26 (L : VL) (st : List Value) (h : VG) (x : Nat) : ev 75 26 (some (.ref x) :: L) (st) h = ev 75 27 (some (.ref x) :: L) (.ref x :: st) h := G_aload_n f75_26 rfl
theorem f75_27 : fetch 75 27 = some (.iconst 5, 1) := vtab tk75 16 rfl
theorem e75_27 (L : VL) (st : List Value) (h : VG) : ev 75 27 L (st) h = ev 75 28 L (.int (5 : Int32) :: st) h := G_iconst f75_27 (by decide)
theorem f75_28 : fetch 75 28 = some (.invokevirtual 78, 3) := vtab tk75 17 rfl
theorem e75_28 (L : VL) (st : List Value) (h : VG) (b : Nat) (x0 : Int32) (ho : ob h b 7) (hs : catS st ≤ 8) : ev 75 28 L (.int x0 :: .ref b :: st) h = (ev 68 0 [some (.ref b), some (.int x0)] [] h).bind fun q => ev 75 31 L (q.1.toList ++ st) q.2 := G_callv (k := 1) (p := 542) (ars := [.int x0]) f75_28 lkC_8_78 (by decide) (by decide +kernel) rfl (vcls_ob (ci := 7) (by decide) ho) (Nat.le_of_ble_eq_true rfl) hs rfl
theorem f75_31 : fetch 75 31 = some (.ifCond .ne 5, 3) := vtab tk75 18 rfl
theorem e75_31 (L : VL) (st : List Value) (h : VG) (x : Int32) : ev 75 31 L (.int x :: st) h = if x = 0 then ev 75 34 L st h else ev 75 36 L st h := G_if_ne f75_31 (by decide)
theorem f75_34 : fetch 75 34 = some (.iconst 0, 1) := vtab tk75 19 rfl
theorem e75_34 (L : VL) (st : List Value) (h : VG) : ev 75 34 L (st) h = ev 75 35 L (.int (0 : Int32) :: st) h := G_iconst f75_34 (by decide)
theorem f75_35 : fetch 75 35 = some (.ireturn, 1) := vtab tk75 20 rfl
theorem e75_35 (L : VL) (h : VG) (x : Int32) (hz : x = 0 ∨ x = 1) : ev 75 35 L [.int x] h = some (some (.int x), h) := G_iret f75_35 (ty := .boolean) (by decide) (vbool hz).1
theorem f75_36 : fetch 75 36 = some (.aload_n 0, 1) := vtab tk75 21 rfl
theorem e75_36 (L : VL) (st : List Value) (h : VG) (x : Nat) : ev 75 36 (some (.ref x) :: L) (st) h = ev 75 37 (some (.ref x) :: L) (.ref x :: st) h := G_aload_n f75_36 rfl
theorem f75_37 : fetch 75 37 = some (.invokevirtual 90, 3) := vtab tk75 22 rfl
theorem e75_37 (L : VL) (st : List Value) (h : VG) (b : Nat)  (ho : ob h b 7) (hs : catS st ≤ 8) : ev 75 37 L (.ref b :: st) h = (ev 69 0 [some (.ref b)] [] h).bind fun q => ev 75 40 L (q.1.toList ++ st) q.2 := G_callv (k := 1) (p := 554) (ars := []) f75_37 lkC_8_90 (by decide) (by decide +kernel) rfl (vcls_ob (ci := 7) (by decide) ho) (Nat.le_of_ble_eq_true rfl) hs rfl
theorem f75_40 : fetch 75 40 = some (.istore_n 3, 1) := vtab tk75 23 rfl
theorem e75_40 (l0 l1 l2 l3 : Option Value) (L : VL) (st : List Value) (h : VG) (x : Int32) : ev 75 40 (l0 :: l1 :: l2 :: l3 :: L) (.int x :: st) h = ev 75 41 (l0 :: l1 :: vkk l2 :: some (.int x) :: L) (st) h := G_istore_n f75_40 rfl (S1_3 l0 l1 l2 l3 L _)
theorem f75_41 : fetch 75 41 = some (.aload_n 0, 1) := vtab tk75 24 rfl
theorem e75_41 (L : VL) (st : List Value) (h : VG) (x : Nat) : ev 75 41 (some (.ref x) :: L) (st) h = ev 75 42 (some (.ref x) :: L) (.ref x :: st) h := G_aload_n f75_41 rfl
theorem f75_42 : fetch 75 42 = some (.iconst 3, 1) := vtab tk75 25 rfl
theorem e75_42 (L : VL) (st : List Value) (h : VG) : ev 75 42 L (st) h = ev 75 43 L (.int (3 : Int32) :: st) h := G_iconst f75_42 (by decide)
theorem f75_43 : fetch 75 43 = some (.invokevirtual 42, 3) := vtab tk75 26 rfl
theorem e75_43 (L : VL) (st : List Value) (h : VG) (b : Nat) (x0 : Int32) (ho : ob h b 7) (hs : catS st ≤ 8) : ev 75 43 L (.int x0 :: .ref b :: st) h = (ev 67 0 [some (.ref b), some (.int x0)] [] h).bind fun q => ev 75 46 L (q.1.toList ++ st) q.2 := G_callv (k := 1) (p := 530) (ars := [.int x0]) f75_43 lkC_8_42 (by decide) (by decide +kernel) rfl (vcls_ob (ci := 7) (by decide) ho) (Nat.le_of_ble_eq_true rfl) hs rfl
theorem f75_46 : fetch 75 46 = some (.ifCond .eq 13, 3) := vtab tk75 27 rfl
theorem e75_46 (L : VL) (st : List Value) (h : VG) (x : Int32) : ev 75 46 L (.int x :: st) h = if x = 0 then ev 75 59 L st h else ev 75 49 L st h := G_if_eq f75_46 (by decide)
theorem f75_49 : fetch 75 49 = some (.aload_n 0, 1) := vtab tk75 28 rfl
theorem e75_49 (L : VL) (st : List Value) (h : VG) (x : Nat) : ev 75 49 (some (.ref x) :: L) (st) h = ev 75 50 (some (.ref x) :: L) (.ref x :: st) h := G_aload_n f75_49 rfl
theorem f75_50 : fetch 75 50 = some (.iconst 3, 1) := vtab tk75 29 rfl
theorem e75_50 (L : VL) (st : List Value) (h : VG) : ev 75 50 L (st) h = ev 75 51 L (.int (3 : Int32) :: st) h := G_iconst f75_50 (by decide)
theorem f75_51 : fetch 75 51 = some (.invokevirtual 78, 3) := vtab tk75 30 rfl
theorem e75_51 (L : VL) (st : List Value) (h : VG) (b : Nat) (x0 : Int32) (ho : ob h b 7) (hs : catS st ≤ 8) : ev 75 51 L (.int x0 :: .ref b :: st) h = (ev 68 0 [some (.ref b), some (.int x0)] [] h).bind fun q => ev 75 54 L (q.1.toList ++ st) q.2 := G_callv (k := 1) (p := 542) (ars := [.int x0]) f75_51 lkC_8_78 (by decide) (by decide +kernel) rfl (vcls_ob (ci := 7) (by decide) ho) (Nat.le_of_ble_eq_true rfl) hs rfl
theorem f75_54 : fetch 75 54 = some (.ifCond .ne 5, 3) := vtab tk75 31 rfl
theorem e75_54 (L : VL) (st : List Value) (h : VG) (x : Int32) : ev 75 54 L (.int x :: st) h = if x = 0 then ev 75 57 L st h else ev 75 59 L st h := G_if_ne f75_54 (by decide)
theorem f75_57 : fetch 75 57 = some (.iconst 0, 1) := vtab tk75 32 rfl
theorem e75_57 (L : VL) (st : List Value) (h : VG) : ev 75 57 L (st) h = ev 75 58 L (.int (0 : Int32) :: st) h := G_iconst f75_57 (by decide)
theorem f75_58 : fetch 75 58 = some (.ireturn, 1) := vtab tk75 33 rfl
theorem e75_58 (L : VL) (h : VG) (x : Int32) (hz : x = 0 ∨ x = 1) : ev 75 58 L [.int x] h = some (some (.int x), h) := G_iret f75_58 (ty := .boolean) (by decide) (vbool hz).1
theorem f75_59 : fetch 75 59 = some (.aload_n 1, 1) := vtab tk75 34 rfl
theorem e75_59 (l0 : Option Value) (L : VL) (st : List Value) (h : VG) (x : Nat) : ev 75 59 (l0 :: some (.ref x) :: L) (st) h = ev 75 60 (l0 :: some (.ref x) :: L) (.ref x :: st) h := G_aload_n f75_59 rfl
theorem f75_60 : fetch 75 60 = some (.iload_n 3, 1) := vtab tk75 35 rfl
theorem e75_60 (l0 l1 l2 : Option Value) (L : VL) (st : List Value) (h : VG) (x : Int32) : ev 75 60 (l0 :: l1 :: l2 :: some (.int x) :: L) (st) h = ev 75 61 (l0 :: l1 :: l2 :: some (.int x) :: L) (.int x :: st) h := G_iload_n f75_60 rfl
theorem f75_61 : fetch 75 61 = some (.aload_n 0, 1) := vtab tk75 36 rfl
theorem e75_61 (L : VL) (st : List Value) (h : VG) (x : Nat) : ev 75 61 (some (.ref x) :: L) (st) h = ev 75 62 (some (.ref x) :: L) (.ref x :: st) h := G_aload_n f75_61 rfl
theorem f75_62 : fetch 75 62 = some (.invokevirtual 124, 3) := vtab tk75 37 rfl
theorem e75_62 (L : VL) (st : List Value) (h : VG) (b : Nat)  (ho : ob h b 7) (hs : catS st ≤ 8) : ev 75 62 L (.ref b :: st) h = (ev 76 0 [some (.ref b), none] [] h).bind fun q => ev 75 65 L (q.1.toList ++ st) q.2 := G_callv (k := 1) (p := 578) (ars := []) f75_62 lkC_8_124 (by decide) (by decide +kernel) rfl (vcls_ob (ci := 7) (by decide) ho) (Nat.le_of_ble_eq_true rfl) hs rfl
theorem f75_65 : fetch 75 65 = some (.invokevirtual 127, 3) := vtab tk75 38 rfl
theorem e75_65 (L : VL) (st : List Value) (h : VG) (b : Nat) (x0 : Int32) (x1 : Int32) (ho : ob h b 3) (hs : catS st ≤ 8) : ev 75 65 L (.int x1 :: .int x0 :: .ref b :: st) h = (ev 28 0 [some (.ref b), some (.int x0), some (.int x1), none] [] h).bind fun q => ev 75 68 L (q.1.toList ++ st) q.2 := G_callv (k := 1) (p := 582) (ars := [.int x0, .int x1]) f75_65 lkC_8_127 (by decide) (by decide +kernel) rfl (vcls_ob (ci := 3) (by decide) ho) (Nat.le_of_ble_eq_true rfl) hs rfl
theorem f75_68 : fetch 75 68 = some (.iinc 2 1, 3) := vtab tk75 39 rfl
theorem e75_68 (l0 l1 : Option Value) (L : VL) (st : List Value) (h : VG) (x : Int32) : ev 75 68 (l0 :: l1 :: some (.int x) :: L) (st) h = ev 75 71 (l0 :: vkk l1 :: some (.int (x + (1 : Int32))) :: L) (st) h := G_iinc f75_68 rfl (by decide) (S1_2 l0 l1 (some (.int x)) L _)
theorem f75_71 : fetch 75 71 = some (.goto (-69), 3) := vtab tk75 40 rfl
theorem e75_71 (L : VL) (st : List Value) (h : VG) : ev 75 71 L (st) h = ev 75 2 L (st) h := G_goto f75_71 (by decide)
theorem f75_74 : fetch 75 74 = some (.iconst 1, 1) := vtab tk75 41 rfl
theorem e75_74 (L : VL) (st : List Value) (h : VG) : ev 75 74 L (st) h = ev 75 75 L (.int (1 : Int32) :: st) h := G_iconst f75_74 (by decide)
theorem f75_75 : fetch 75 75 = some (.ireturn, 1) := vtab tk75 42 rfl
theorem e75_75 (L : VL) (h : VG) (x : Int32) (hz : x = 0 ∨ x = 1) : ev 75 75 L [.int x] h = some (some (.int x), h) := G_iret f75_75 (ty := .boolean) (by decide) (vbool hz).1
/-! 76 GuestCalls$Reader.repeatsPassed()I -/
def tb76 : List (Nat × Instr × Nat) := [(0, .aload_n 0, 1), (1, .getfield 12, 3), (4, .getfield 49, 3), (7, .aload_n 0, 1), (8, .getfield 31, 3), (11, .iconst 1, 1), (12, .isub, 1), (13, .iaload, 1), (14, .iconst 3, 1), (15, .if_icmp .eq 5, 3), (18, .iconst 1, 1), (19, .ireturn, 1), (20, .aload_n 0, 1), (21, .invokevirtual 90, 3), (24, .istore_n 1, 1), (25, .iload_n 1, 1), (26, .iconst 1, 1), (27, .if_icmp .lt 8, 3), (30, .iload_n 1, 1), (31, .iconst 4, 1), (32, .if_icmp .le 10, 3), (35, .aload_n 0, 1), (36, .iconst 5, 1), (37, .invokevirtual 94, 3), (40, .iconst 1, 1), (41, .ireturn, 1), (42, .iload_n 1, 1), (43, .ireturn, 1)]
theorem tk76 : tb76.all (fun q => decide (fetch 76 q.1 = some q.2)) = true := by decide +kernel
theorem f76_0 : fetch 76 0 = some (.aload_n 0, 1) := vtab tk76 0 rfl
theorem e76_0 (L : VL) (st : List Value) (h : VG) (x : Nat) : ev 76 0 (some (.ref x) :: L) (st) h = ev 76 1 (some (.ref x) :: L) (.ref x :: st) h := G_aload_n f76_0 rfl
theorem f76_1 : fetch 76 1 = some (.getfield 12, 3) := vtab tk76 1 rfl
theorem e76_1 (L : VL) (st : List Value) (h : VG) (a : Nat) (ho : ob h a 7) (hr : isR h a 1) : ev 76 1 L (.ref a :: st) h = ev 76 4 L (.ref (gR h a 1) :: st) h := G_getR (p := 194) f76_1 lkF_8_12 (by decide) (by decide) ho hr
theorem f76_4 : fetch 76 4 = some (.getfield 49, 3) := vtab tk76 2 rfl
theorem e76_4 (L : VL) (st : List Value) (h : VG) (a : Nat) (ho : ob h a 9) (hr : isR h a 0) : ev 76 4 L (.ref a :: st) h = ev 76 7 L (.ref (gR h a 0) :: st) h := G_getR (p := 174) f76_4 lkF_8_49 (by decide) (by decide) ho hr
theorem f76_7 : fetch 76 7 = some (.aload_n 0, 1) := vtab tk76 3 rfl
theorem e76_7 (L : VL) (st : List Value) (h : VG) (x : Nat) : ev 76 7 (some (.ref x) :: L) (st) h = ev 76 8 (some (.ref x) :: L) (.ref x :: st) h := G_aload_n f76_7 rfl
theorem f76_8 : fetch 76 8 = some (.getfield 31, 3) := vtab tk76 4 rfl
theorem e76_8 (L : VL) (st : List Value) (h : VG) (a : Nat) (ho : ob h a 7) : ev 76 8 L (.ref a :: st) h = ev 76 11 L (.int (gI h a 3) :: st) h := G_getI (p := 196) f76_8 lkF_8_31 (by decide) (by decide) ho
theorem f76_11 : fetch 76 11 = some (.iconst 1, 1) := vtab tk76 5 rfl
theorem e76_11 (L : VL) (st : List Value) (h : VG) : ev 76 11 L (st) h = ev 76 12 L (.int (1 : Int32) :: st) h := G_iconst f76_11 (by decide)
theorem f76_12 : fetch 76 12 = some (.isub, 1) := vtab tk76 6 rfl
theorem e76_12 (L : VL) (st : List Value) (h : VG) (x y : Int32) : ev 76 12 L (.int y :: .int x :: st) h = ev 76 13 L (.int (x - y) :: st) h := G_isub f76_12
theorem f76_13 : fetch 76 13 = some (.iaload, 1) := vtab tk76 7 rfl
theorem e76_13 (L : VL) (st : List Value) (h : VG) (a : Nat) (i : Int32) (ha : rdI h a) (hi : vp_in i (aln h a)) : ev 76 13 L (.int i :: .ref a :: st) h = ev 76 14 L (.int (aI h a i.toNatClampNeg) :: st) h := G_iald' f76_13 ha hi
theorem f76_14 : fetch 76 14 = some (.iconst 3, 1) := vtab tk76 8 rfl
theorem e76_14 (L : VL) (st : List Value) (h : VG) : ev 76 14 L (st) h = ev 76 15 L (.int (3 : Int32) :: st) h := G_iconst f76_14 (by decide)
theorem f76_15 : fetch 76 15 = some (.if_icmp .eq 5, 3) := vtab tk76 9 rfl
theorem e76_15 (L : VL) (st : List Value) (h : VG) (x y : Int32) : ev 76 15 L (.int y :: .int x :: st) h = if x = y then ev 76 20 L st h else ev 76 18 L st h := G_icmp_eq f76_15 (by decide)
theorem f76_18 : fetch 76 18 = some (.iconst 1, 1) := vtab tk76 10 rfl
theorem e76_18 (L : VL) (st : List Value) (h : VG) : ev 76 18 L (st) h = ev 76 19 L (.int (1 : Int32) :: st) h := G_iconst f76_18 (by decide)
theorem f76_19 : fetch 76 19 = some (.ireturn, 1) := vtab tk76 11 rfl
theorem e76_19 (L : VL) (h : VG) (x : Int32) : ev 76 19 L [.int x] h = some (some (.int x), h) := G_iret f76_19 (ty := .int) (by decide) rfl
theorem f76_20 : fetch 76 20 = some (.aload_n 0, 1) := vtab tk76 12 rfl
theorem e76_20 (L : VL) (st : List Value) (h : VG) (x : Nat) : ev 76 20 (some (.ref x) :: L) (st) h = ev 76 21 (some (.ref x) :: L) (.ref x :: st) h := G_aload_n f76_20 rfl
theorem f76_21 : fetch 76 21 = some (.invokevirtual 90, 3) := vtab tk76 13 rfl
theorem e76_21 (L : VL) (st : List Value) (h : VG) (b : Nat)  (ho : ob h b 7) (hs : catS st ≤ 8) : ev 76 21 L (.ref b :: st) h = (ev 69 0 [some (.ref b)] [] h).bind fun q => ev 76 24 L (q.1.toList ++ st) q.2 := G_callv (k := 1) (p := 554) (ars := []) f76_21 lkC_8_90 (by decide) (by decide +kernel) rfl (vcls_ob (ci := 7) (by decide) ho) (Nat.le_of_ble_eq_true rfl) hs rfl
theorem f76_24 : fetch 76 24 = some (.istore_n 1, 1) := vtab tk76 14 rfl
theorem e76_24 (l0 l1 : Option Value) (L : VL) (st : List Value) (h : VG) (x : Int32) : ev 76 24 (l0 :: l1 :: L) (.int x :: st) h = ev 76 25 (vkk l0 :: some (.int x) :: L) (st) h := G_istore_n f76_24 rfl (S1_1 l0 l1 L _)
theorem f76_25 : fetch 76 25 = some (.iload_n 1, 1) := vtab tk76 15 rfl
theorem e76_25 (l0 : Option Value) (L : VL) (st : List Value) (h : VG) (x : Int32) : ev 76 25 (l0 :: some (.int x) :: L) (st) h = ev 76 26 (l0 :: some (.int x) :: L) (.int x :: st) h := G_iload_n f76_25 rfl
theorem f76_26 : fetch 76 26 = some (.iconst 1, 1) := vtab tk76 16 rfl
theorem e76_26 (L : VL) (st : List Value) (h : VG) : ev 76 26 L (st) h = ev 76 27 L (.int (1 : Int32) :: st) h := G_iconst f76_26 (by decide)
theorem f76_27 : fetch 76 27 = some (.if_icmp .lt 8, 3) := vtab tk76 17 rfl
theorem e76_27 (L : VL) (st : List Value) (h : VG) (x y : Int32) : ev 76 27 L (.int y :: .int x :: st) h = if x < y then ev 76 35 L st h else ev 76 30 L st h := G_icmp_lt f76_27 (by decide)
theorem f76_30 : fetch 76 30 = some (.iload_n 1, 1) := vtab tk76 18 rfl
theorem e76_30 (l0 : Option Value) (L : VL) (st : List Value) (h : VG) (x : Int32) : ev 76 30 (l0 :: some (.int x) :: L) (st) h = ev 76 31 (l0 :: some (.int x) :: L) (.int x :: st) h := G_iload_n f76_30 rfl
theorem f76_31 : fetch 76 31 = some (.iconst 4, 1) := vtab tk76 19 rfl
theorem e76_31 (L : VL) (st : List Value) (h : VG) : ev 76 31 L (st) h = ev 76 32 L (.int (4 : Int32) :: st) h := G_iconst f76_31 (by decide)
theorem f76_32 : fetch 76 32 = some (.if_icmp .le 10, 3) := vtab tk76 20 rfl
theorem e76_32 (L : VL) (st : List Value) (h : VG) (x y : Int32) : ev 76 32 L (.int y :: .int x :: st) h = if x ≤ y then ev 76 42 L st h else ev 76 35 L st h := G_icmp_le f76_32 (by decide)
theorem f76_35 : fetch 76 35 = some (.aload_n 0, 1) := vtab tk76 21 rfl
theorem e76_35 (L : VL) (st : List Value) (h : VG) (x : Nat) : ev 76 35 (some (.ref x) :: L) (st) h = ev 76 36 (some (.ref x) :: L) (.ref x :: st) h := G_aload_n f76_35 rfl
theorem f76_36 : fetch 76 36 = some (.iconst 5, 1) := vtab tk76 22 rfl
theorem e76_36 (L : VL) (st : List Value) (h : VG) : ev 76 36 L (st) h = ev 76 37 L (.int (5 : Int32) :: st) h := G_iconst f76_36 (by decide)
theorem f76_37 : fetch 76 37 = some (.invokevirtual 94, 3) := vtab tk76 23 rfl
theorem e76_37 (L : VL) (st : List Value) (h : VG) (b : Nat) (x0 : Int32) (ho : ob h b 7) (hs : catS st ≤ 8) : ev 76 37 L (.int x0 :: .ref b :: st) h = (ev 71 0 [some (.ref b), some (.int x0)] [] h).bind fun q => ev 76 40 L (q.1.toList ++ st) q.2 := G_callv (k := 1) (p := 558) (ars := [.int x0]) f76_37 lkC_8_94 (by decide) (by decide +kernel) rfl (vcls_ob (ci := 7) (by decide) ho) (Nat.le_of_ble_eq_true rfl) hs rfl
theorem f76_40 : fetch 76 40 = some (.iconst 1, 1) := vtab tk76 24 rfl
theorem e76_40 (L : VL) (st : List Value) (h : VG) : ev 76 40 L (st) h = ev 76 41 L (.int (1 : Int32) :: st) h := G_iconst f76_40 (by decide)
theorem f76_41 : fetch 76 41 = some (.ireturn, 1) := vtab tk76 25 rfl
theorem e76_41 (L : VL) (h : VG) (x : Int32) : ev 76 41 L [.int x] h = some (some (.int x), h) := G_iret f76_41 (ty := .int) (by decide) rfl
theorem f76_42 : fetch 76 42 = some (.iload_n 1, 1) := vtab tk76 26 rfl
theorem e76_42 (l0 : Option Value) (L : VL) (st : List Value) (h : VG) (x : Int32) : ev 76 42 (l0 :: some (.int x) :: L) (st) h = ev 76 43 (l0 :: some (.int x) :: L) (.int x :: st) h := G_iload_n f76_42 rfl
theorem f76_43 : fetch 76 43 = some (.ireturn, 1) := vtab tk76 27 rfl
theorem e76_43 (L : VL) (h : VG) (x : Int32) : ev 76 43 L [.int x] h = some (some (.int x), h) := G_iret f76_43 (ty := .int) (by decide) rfl
/-! 77 GuestCalls$Reader.readFill()V -/
def tb77 : List (Nat × Instr × Nat) := [(0, .aload_n 0, 1), (1, .bipush 9, 2), (3, .invokevirtual 78, 3), (6, .ifCond .eq 11, 3), (9, .aload_n 0, 1), (10, .iconst 3, 1), (11, .invokevirtual 78, 3), (14, .ifCond .ne 4, 3), (17, .return_, 1), (18, .aload_n 0, 1), (19, .invokevirtual 90, 3), (22, .istore_n 1, 1), (23, .iload_n 1, 1), (24, .sipush 256, 3), (27, .if_icmp .lt 8, 3), (30, .aload_n 0, 1), (31, .iconst 5, 1), (32, .invokevirtual 94, 3), (35, .iconst 0, 1), (36, .istore_n 2, 1), (37, .iload_n 2, 1), (38, .ifCond .eq 11, 3), (41, .aload_n 0, 1), (42, .iconst 3, 1), (43, .invokevirtual 42, 3), (46, .ifCond .eq 42, 3), (49, .iload_n 2, 1), (50, .bipush 16, 2), (52, .if_icmp .ne 10, 3), (55, .aload_n 0, 1), (56, .iconst 2, 1), (57, .invokevirtual 65, 3), (60, .pop, 1), (61, .return_, 1), (62, .aload_n 0, 1), (63, .iconst 3, 1), (64, .invokevirtual 78, 3), (67, .ifCond .ne 4, 3), (70, .return_, 1), (71, .aload_n 0, 1), (72, .iload_n 1, 1), (73, .iload_n 2, 1), (74, .iadd, 1), (75, .aload_n 0, 1), (76, .invokevirtual 90, 3), (79, .invokevirtual 131, 3), (82, .iinc 2 1, 3), (85, .goto (-48), 3), (88, .aload_n 0, 1), (89, .iconst 4, 1), (90, .invokevirtual 78, 3), (93, .pop, 1), (94, .return_, 1)]
theorem tk77 : tb77.all (fun q => decide (fetch 77 q.1 = some q.2)) = true := by decide +kernel
theorem f77_0 : fetch 77 0 = some (.aload_n 0, 1) := vtab tk77 0 rfl
theorem e77_0 (L : VL) (st : List Value) (h : VG) (x : Nat) : ev 77 0 (some (.ref x) :: L) (st) h = ev 77 1 (some (.ref x) :: L) (.ref x :: st) h := G_aload_n f77_0 rfl
theorem f77_1 : fetch 77 1 = some (.bipush 9, 2) := vtab tk77 1 rfl
theorem e77_1 (L : VL) (st : List Value) (h : VG) : ev 77 1 L (st) h = ev 77 3 L (.int (9 : Int32) :: st) h := G_bipush f77_1 (by decide)
theorem f77_3 : fetch 77 3 = some (.invokevirtual 78, 3) := vtab tk77 2 rfl
theorem e77_3 (L : VL) (st : List Value) (h : VG) (b : Nat) (x0 : Int32) (ho : ob h b 7) (hs : catS st ≤ 8) : ev 77 3 L (.int x0 :: .ref b :: st) h = (ev 68 0 [some (.ref b), some (.int x0)] [] h).bind fun q => ev 77 6 L (q.1.toList ++ st) q.2 := G_callv (k := 1) (p := 542) (ars := [.int x0]) f77_3 lkC_8_78 (by decide) (by decide +kernel) rfl (vcls_ob (ci := 7) (by decide) ho) (Nat.le_of_ble_eq_true rfl) hs rfl
theorem f77_6 : fetch 77 6 = some (.ifCond .eq 11, 3) := vtab tk77 3 rfl
theorem e77_6 (L : VL) (st : List Value) (h : VG) (x : Int32) : ev 77 6 L (.int x :: st) h = if x = 0 then ev 77 17 L st h else ev 77 9 L st h := G_if_eq f77_6 (by decide)
theorem f77_9 : fetch 77 9 = some (.aload_n 0, 1) := vtab tk77 4 rfl
theorem e77_9 (L : VL) (st : List Value) (h : VG) (x : Nat) : ev 77 9 (some (.ref x) :: L) (st) h = ev 77 10 (some (.ref x) :: L) (.ref x :: st) h := G_aload_n f77_9 rfl
theorem f77_10 : fetch 77 10 = some (.iconst 3, 1) := vtab tk77 5 rfl
theorem e77_10 (L : VL) (st : List Value) (h : VG) : ev 77 10 L (st) h = ev 77 11 L (.int (3 : Int32) :: st) h := G_iconst f77_10 (by decide)
theorem f77_11 : fetch 77 11 = some (.invokevirtual 78, 3) := vtab tk77 6 rfl
theorem e77_11 (L : VL) (st : List Value) (h : VG) (b : Nat) (x0 : Int32) (ho : ob h b 7) (hs : catS st ≤ 8) : ev 77 11 L (.int x0 :: .ref b :: st) h = (ev 68 0 [some (.ref b), some (.int x0)] [] h).bind fun q => ev 77 14 L (q.1.toList ++ st) q.2 := G_callv (k := 1) (p := 542) (ars := [.int x0]) f77_11 lkC_8_78 (by decide) (by decide +kernel) rfl (vcls_ob (ci := 7) (by decide) ho) (Nat.le_of_ble_eq_true rfl) hs rfl
theorem f77_14 : fetch 77 14 = some (.ifCond .ne 4, 3) := vtab tk77 7 rfl
theorem e77_14 (L : VL) (st : List Value) (h : VG) (x : Int32) : ev 77 14 L (.int x :: st) h = if x = 0 then ev 77 17 L st h else ev 77 18 L st h := G_if_ne f77_14 (by decide)
theorem f77_17 : fetch 77 17 = some (.return_, 1) := vtab tk77 8 rfl
theorem e77_17 (L : VL) (h : VG) : ev 77 17 L [] h = some (none, h) := G_vret f77_17 (by decide)
theorem f77_18 : fetch 77 18 = some (.aload_n 0, 1) := vtab tk77 9 rfl
theorem e77_18 (L : VL) (st : List Value) (h : VG) (x : Nat) : ev 77 18 (some (.ref x) :: L) (st) h = ev 77 19 (some (.ref x) :: L) (.ref x :: st) h := G_aload_n f77_18 rfl
theorem f77_19 : fetch 77 19 = some (.invokevirtual 90, 3) := vtab tk77 10 rfl
theorem e77_19 (L : VL) (st : List Value) (h : VG) (b : Nat)  (ho : ob h b 7) (hs : catS st ≤ 8) : ev 77 19 L (.ref b :: st) h = (ev 69 0 [some (.ref b)] [] h).bind fun q => ev 77 22 L (q.1.toList ++ st) q.2 := G_callv (k := 1) (p := 554) (ars := []) f77_19 lkC_8_90 (by decide) (by decide +kernel) rfl (vcls_ob (ci := 7) (by decide) ho) (Nat.le_of_ble_eq_true rfl) hs rfl
theorem f77_22 : fetch 77 22 = some (.istore_n 1, 1) := vtab tk77 11 rfl
theorem e77_22 (l0 l1 : Option Value) (L : VL) (st : List Value) (h : VG) (x : Int32) : ev 77 22 (l0 :: l1 :: L) (.int x :: st) h = ev 77 23 (vkk l0 :: some (.int x) :: L) (st) h := G_istore_n f77_22 rfl (S1_1 l0 l1 L _)
theorem f77_23 : fetch 77 23 = some (.iload_n 1, 1) := vtab tk77 12 rfl
theorem e77_23 (l0 : Option Value) (L : VL) (st : List Value) (h : VG) (x : Int32) : ev 77 23 (l0 :: some (.int x) :: L) (st) h = ev 77 24 (l0 :: some (.int x) :: L) (.int x :: st) h := G_iload_n f77_23 rfl
theorem f77_24 : fetch 77 24 = some (.sipush 256, 3) := vtab tk77 13 rfl
theorem e77_24 (L : VL) (st : List Value) (h : VG) : ev 77 24 L (st) h = ev 77 27 L (.int (256 : Int32) :: st) h := G_sipush f77_24 (by decide)
theorem f77_27 : fetch 77 27 = some (.if_icmp .lt 8, 3) := vtab tk77 14 rfl
theorem e77_27 (L : VL) (st : List Value) (h : VG) (x y : Int32) : ev 77 27 L (.int y :: .int x :: st) h = if x < y then ev 77 35 L st h else ev 77 30 L st h := G_icmp_lt f77_27 (by decide)
theorem f77_30 : fetch 77 30 = some (.aload_n 0, 1) := vtab tk77 15 rfl
theorem e77_30 (L : VL) (st : List Value) (h : VG) (x : Nat) : ev 77 30 (some (.ref x) :: L) (st) h = ev 77 31 (some (.ref x) :: L) (.ref x :: st) h := G_aload_n f77_30 rfl
theorem f77_31 : fetch 77 31 = some (.iconst 5, 1) := vtab tk77 16 rfl
theorem e77_31 (L : VL) (st : List Value) (h : VG) : ev 77 31 L (st) h = ev 77 32 L (.int (5 : Int32) :: st) h := G_iconst f77_31 (by decide)
theorem f77_32 : fetch 77 32 = some (.invokevirtual 94, 3) := vtab tk77 17 rfl
theorem e77_32 (L : VL) (st : List Value) (h : VG) (b : Nat) (x0 : Int32) (ho : ob h b 7) (hs : catS st ≤ 8) : ev 77 32 L (.int x0 :: .ref b :: st) h = (ev 71 0 [some (.ref b), some (.int x0)] [] h).bind fun q => ev 77 35 L (q.1.toList ++ st) q.2 := G_callv (k := 1) (p := 558) (ars := [.int x0]) f77_32 lkC_8_94 (by decide) (by decide +kernel) rfl (vcls_ob (ci := 7) (by decide) ho) (Nat.le_of_ble_eq_true rfl) hs rfl
theorem f77_35 : fetch 77 35 = some (.iconst 0, 1) := vtab tk77 18 rfl
theorem e77_35 (L : VL) (st : List Value) (h : VG) : ev 77 35 L (st) h = ev 77 36 L (.int (0 : Int32) :: st) h := G_iconst f77_35 (by decide)
theorem f77_36 : fetch 77 36 = some (.istore_n 2, 1) := vtab tk77 19 rfl
theorem e77_36 (l0 l1 l2 : Option Value) (L : VL) (st : List Value) (h : VG) (x : Int32) : ev 77 36 (l0 :: l1 :: l2 :: L) (.int x :: st) h = ev 77 37 (l0 :: vkk l1 :: some (.int x) :: L) (st) h := G_istore_n f77_36 rfl (S1_2 l0 l1 l2 L _)
theorem f77_37 : fetch 77 37 = some (.iload_n 2, 1) := vtab tk77 20 rfl
theorem e77_37 (l0 l1 : Option Value) (L : VL) (st : List Value) (h : VG) (x : Int32) : ev 77 37 (l0 :: l1 :: some (.int x) :: L) (st) h = ev 77 38 (l0 :: l1 :: some (.int x) :: L) (.int x :: st) h := G_iload_n f77_37 rfl
theorem f77_38 : fetch 77 38 = some (.ifCond .eq 11, 3) := vtab tk77 21 rfl
theorem e77_38 (L : VL) (st : List Value) (h : VG) (x : Int32) : ev 77 38 L (.int x :: st) h = if x = 0 then ev 77 49 L st h else ev 77 41 L st h := G_if_eq f77_38 (by decide)
theorem f77_41 : fetch 77 41 = some (.aload_n 0, 1) := vtab tk77 22 rfl
theorem e77_41 (L : VL) (st : List Value) (h : VG) (x : Nat) : ev 77 41 (some (.ref x) :: L) (st) h = ev 77 42 (some (.ref x) :: L) (.ref x :: st) h := G_aload_n f77_41 rfl
theorem f77_42 : fetch 77 42 = some (.iconst 3, 1) := vtab tk77 23 rfl
theorem e77_42 (L : VL) (st : List Value) (h : VG) : ev 77 42 L (st) h = ev 77 43 L (.int (3 : Int32) :: st) h := G_iconst f77_42 (by decide)
theorem f77_43 : fetch 77 43 = some (.invokevirtual 42, 3) := vtab tk77 24 rfl
theorem e77_43 (L : VL) (st : List Value) (h : VG) (b : Nat) (x0 : Int32) (ho : ob h b 7) (hs : catS st ≤ 8) : ev 77 43 L (.int x0 :: .ref b :: st) h = (ev 67 0 [some (.ref b), some (.int x0)] [] h).bind fun q => ev 77 46 L (q.1.toList ++ st) q.2 := G_callv (k := 1) (p := 530) (ars := [.int x0]) f77_43 lkC_8_42 (by decide) (by decide +kernel) rfl (vcls_ob (ci := 7) (by decide) ho) (Nat.le_of_ble_eq_true rfl) hs rfl
theorem f77_46 : fetch 77 46 = some (.ifCond .eq 42, 3) := vtab tk77 25 rfl
theorem e77_46 (L : VL) (st : List Value) (h : VG) (x : Int32) : ev 77 46 L (.int x :: st) h = if x = 0 then ev 77 88 L st h else ev 77 49 L st h := G_if_eq f77_46 (by decide)
theorem f77_49 : fetch 77 49 = some (.iload_n 2, 1) := vtab tk77 26 rfl
theorem e77_49 (l0 l1 : Option Value) (L : VL) (st : List Value) (h : VG) (x : Int32) : ev 77 49 (l0 :: l1 :: some (.int x) :: L) (st) h = ev 77 50 (l0 :: l1 :: some (.int x) :: L) (.int x :: st) h := G_iload_n f77_49 rfl
theorem f77_50 : fetch 77 50 = some (.bipush 16, 2) := vtab tk77 27 rfl
theorem e77_50 (L : VL) (st : List Value) (h : VG) : ev 77 50 L (st) h = ev 77 52 L (.int (16 : Int32) :: st) h := G_bipush f77_50 (by decide)
theorem f77_52 : fetch 77 52 = some (.if_icmp .ne 10, 3) := vtab tk77 28 rfl
theorem e77_52 (L : VL) (st : List Value) (h : VG) (x y : Int32) : ev 77 52 L (.int y :: .int x :: st) h = if x = y then ev 77 55 L st h else ev 77 62 L st h := G_icmp_ne f77_52 (by decide)
theorem f77_55 : fetch 77 55 = some (.aload_n 0, 1) := vtab tk77 29 rfl
theorem e77_55 (L : VL) (st : List Value) (h : VG) (x : Nat) : ev 77 55 (some (.ref x) :: L) (st) h = ev 77 56 (some (.ref x) :: L) (.ref x :: st) h := G_aload_n f77_55 rfl
theorem f77_56 : fetch 77 56 = some (.iconst 2, 1) := vtab tk77 30 rfl
theorem e77_56 (L : VL) (st : List Value) (h : VG) : ev 77 56 L (st) h = ev 77 57 L (.int (2 : Int32) :: st) h := G_iconst f77_56 (by decide)
theorem f77_57 : fetch 77 57 = some (.invokevirtual 65, 3) := vtab tk77 31 rfl
theorem e77_57 (L : VL) (st : List Value) (h : VG) (b : Nat) (x0 : Int32) (ho : ob h b 7) (hs : catS st ≤ 8) : ev 77 57 L (.int x0 :: .ref b :: st) h = (ev 70 0 [some (.ref b), some (.int x0)] [] h).bind fun q => ev 77 60 L (q.1.toList ++ st) q.2 := G_callv (k := 1) (p := 546) (ars := [.int x0]) f77_57 lkC_8_65 (by decide) (by decide +kernel) rfl (vcls_ob (ci := 7) (by decide) ho) (Nat.le_of_ble_eq_true rfl) hs rfl
theorem f77_60 : fetch 77 60 = some (.pop, 1) := vtab tk77 32 rfl
theorem e77_60 (L : VL) (st : List Value) (h : VG) (x : Int32) : ev 77 60 L (.int x :: st) h = ev 77 61 L (st) h := G_pop_int f77_60
theorem e77_60b (L : VL) (st : List Value) (h : VG) (x : Nat) : ev 77 60 L (.ref x :: st) h = ev 77 61 L (st) h := G_pop_ref f77_60
theorem f77_61 : fetch 77 61 = some (.return_, 1) := vtab tk77 33 rfl
theorem e77_61 (L : VL) (h : VG) : ev 77 61 L [] h = some (none, h) := G_vret f77_61 (by decide)
theorem f77_62 : fetch 77 62 = some (.aload_n 0, 1) := vtab tk77 34 rfl
theorem e77_62 (L : VL) (st : List Value) (h : VG) (x : Nat) : ev 77 62 (some (.ref x) :: L) (st) h = ev 77 63 (some (.ref x) :: L) (.ref x :: st) h := G_aload_n f77_62 rfl
theorem f77_63 : fetch 77 63 = some (.iconst 3, 1) := vtab tk77 35 rfl
theorem e77_63 (L : VL) (st : List Value) (h : VG) : ev 77 63 L (st) h = ev 77 64 L (.int (3 : Int32) :: st) h := G_iconst f77_63 (by decide)
theorem f77_64 : fetch 77 64 = some (.invokevirtual 78, 3) := vtab tk77 36 rfl
theorem e77_64 (L : VL) (st : List Value) (h : VG) (b : Nat) (x0 : Int32) (ho : ob h b 7) (hs : catS st ≤ 8) : ev 77 64 L (.int x0 :: .ref b :: st) h = (ev 68 0 [some (.ref b), some (.int x0)] [] h).bind fun q => ev 77 67 L (q.1.toList ++ st) q.2 := G_callv (k := 1) (p := 542) (ars := [.int x0]) f77_64 lkC_8_78 (by decide) (by decide +kernel) rfl (vcls_ob (ci := 7) (by decide) ho) (Nat.le_of_ble_eq_true rfl) hs rfl
theorem f77_67 : fetch 77 67 = some (.ifCond .ne 4, 3) := vtab tk77 37 rfl
theorem e77_67 (L : VL) (st : List Value) (h : VG) (x : Int32) : ev 77 67 L (.int x :: st) h = if x = 0 then ev 77 70 L st h else ev 77 71 L st h := G_if_ne f77_67 (by decide)
theorem f77_70 : fetch 77 70 = some (.return_, 1) := vtab tk77 38 rfl
theorem e77_70 (L : VL) (h : VG) : ev 77 70 L [] h = some (none, h) := G_vret f77_70 (by decide)
theorem f77_71 : fetch 77 71 = some (.aload_n 0, 1) := vtab tk77 39 rfl
theorem e77_71 (L : VL) (st : List Value) (h : VG) (x : Nat) : ev 77 71 (some (.ref x) :: L) (st) h = ev 77 72 (some (.ref x) :: L) (.ref x :: st) h := G_aload_n f77_71 rfl
theorem f77_72 : fetch 77 72 = some (.iload_n 1, 1) := vtab tk77 40 rfl
theorem e77_72 (l0 : Option Value) (L : VL) (st : List Value) (h : VG) (x : Int32) : ev 77 72 (l0 :: some (.int x) :: L) (st) h = ev 77 73 (l0 :: some (.int x) :: L) (.int x :: st) h := G_iload_n f77_72 rfl
theorem f77_73 : fetch 77 73 = some (.iload_n 2, 1) := vtab tk77 41 rfl
theorem e77_73 (l0 l1 : Option Value) (L : VL) (st : List Value) (h : VG) (x : Int32) : ev 77 73 (l0 :: l1 :: some (.int x) :: L) (st) h = ev 77 74 (l0 :: l1 :: some (.int x) :: L) (.int x :: st) h := G_iload_n f77_73 rfl
theorem f77_74 : fetch 77 74 = some (.iadd, 1) := vtab tk77 42 rfl
theorem e77_74 (L : VL) (st : List Value) (h : VG) (x y : Int32) : ev 77 74 L (.int y :: .int x :: st) h = ev 77 75 L (.int (x + y) :: st) h := G_iadd f77_74
theorem f77_75 : fetch 77 75 = some (.aload_n 0, 1) := vtab tk77 43 rfl
theorem e77_75 (L : VL) (st : List Value) (h : VG) (x : Nat) : ev 77 75 (some (.ref x) :: L) (st) h = ev 77 76 (some (.ref x) :: L) (.ref x :: st) h := G_aload_n f77_75 rfl
theorem f77_76 : fetch 77 76 = some (.invokevirtual 90, 3) := vtab tk77 44 rfl
theorem e77_76 (L : VL) (st : List Value) (h : VG) (b : Nat)  (ho : ob h b 7) (hs : catS st ≤ 8) : ev 77 76 L (.ref b :: st) h = (ev 69 0 [some (.ref b)] [] h).bind fun q => ev 77 79 L (q.1.toList ++ st) q.2 := G_callv (k := 1) (p := 554) (ars := []) f77_76 lkC_8_90 (by decide) (by decide +kernel) rfl (vcls_ob (ci := 7) (by decide) ho) (Nat.le_of_ble_eq_true rfl) hs rfl
theorem f77_79 : fetch 77 79 = some (.invokevirtual 131, 3) := vtab tk77 45 rfl
theorem e77_79 (L : VL) (st : List Value) (h : VG) (b : Nat) (x0 : Int32) (x1 : Int32) (ho : ob h b 7) (hs : catS st ≤ 8) : ev 77 79 L (.int x1 :: .int x0 :: .ref b :: st) h = (ev 78 0 [some (.ref b), some (.int x0), some (.int x1)] [] h).bind fun q => ev 77 82 L (q.1.toList ++ st) q.2 := G_callv (k := 1) (p := 623) (ars := [.int x0, .int x1]) f77_79 lkC_8_131 (by decide) (by decide +kernel) rfl (vcls_ob (ci := 7) (by decide) ho) (Nat.le_of_ble_eq_true rfl) hs rfl
theorem f77_82 : fetch 77 82 = some (.iinc 2 1, 3) := vtab tk77 46 rfl
theorem e77_82 (l0 l1 : Option Value) (L : VL) (st : List Value) (h : VG) (x : Int32) : ev 77 82 (l0 :: l1 :: some (.int x) :: L) (st) h = ev 77 85 (l0 :: vkk l1 :: some (.int (x + (1 : Int32))) :: L) (st) h := G_iinc f77_82 rfl (by decide) (S1_2 l0 l1 (some (.int x)) L _)
theorem f77_85 : fetch 77 85 = some (.goto (-48), 3) := vtab tk77 47 rfl
theorem e77_85 (L : VL) (st : List Value) (h : VG) : ev 77 85 L (st) h = ev 77 37 L (st) h := G_goto f77_85 (by decide)
theorem f77_88 : fetch 77 88 = some (.aload_n 0, 1) := vtab tk77 48 rfl
theorem e77_88 (L : VL) (st : List Value) (h : VG) (x : Nat) : ev 77 88 (some (.ref x) :: L) (st) h = ev 77 89 (some (.ref x) :: L) (.ref x :: st) h := G_aload_n f77_88 rfl
theorem f77_89 : fetch 77 89 = some (.iconst 4, 1) := vtab tk77 49 rfl
theorem e77_89 (L : VL) (st : List Value) (h : VG) : ev 77 89 L (st) h = ev 77 90 L (.int (4 : Int32) :: st) h := G_iconst f77_89 (by decide)
theorem f77_90 : fetch 77 90 = some (.invokevirtual 78, 3) := vtab tk77 50 rfl
theorem e77_90 (L : VL) (st : List Value) (h : VG) (b : Nat) (x0 : Int32) (ho : ob h b 7) (hs : catS st ≤ 8) : ev 77 90 L (.int x0 :: .ref b :: st) h = (ev 68 0 [some (.ref b), some (.int x0)] [] h).bind fun q => ev 77 93 L (q.1.toList ++ st) q.2 := G_callv (k := 1) (p := 542) (ars := [.int x0]) f77_90 lkC_8_78 (by decide) (by decide +kernel) rfl (vcls_ob (ci := 7) (by decide) ho) (Nat.le_of_ble_eq_true rfl) hs rfl
theorem f77_93 : fetch 77 93 = some (.pop, 1) := vtab tk77 51 rfl
theorem e77_93 (L : VL) (st : List Value) (h : VG) (x : Int32) : ev 77 93 L (.int x :: st) h = ev 77 94 L (st) h := G_pop_int f77_93
theorem e77_93b (L : VL) (st : List Value) (h : VG) (x : Nat) : ev 77 93 L (.ref x :: st) h = ev 77 94 L (st) h := G_pop_ref f77_93
theorem f77_94 : fetch 77 94 = some (.return_, 1) := vtab tk77 52 rfl
theorem e77_94 (L : VL) (h : VG) : ev 77 94 L [] h = some (none, h) := G_vret f77_94 (by decide)
/-! 78 GuestCalls$Reader.fillByte(II)V -/
def tb78 : List (Nat × Instr × Nat) := [(0, .iload_n 2, 1), (1, .sipush 255, 3), (4, .if_icmp .gt 10, 3), (7, .iload_n 1, 1), (8, .sipush 256, 3), (11, .if_icmp .lt 11, 3), (14, .aload_n 0, 1), (15, .iconst 5, 1), (16, .invokevirtual 94, 3), (19, .goto 17, 3), (22, .aload_n 0, 1), (23, .getfield 22, 3), (26, .getfield 81, 3), (29, .getfield 134, 3), (32, .iload_n 1, 1), (33, .iload_n 2, 1), (34, .i2b, 1), (35, .bastore, 1), (36, .return_, 1)]
theorem tk78 : tb78.all (fun q => decide (fetch 78 q.1 = some q.2)) = true := by decide +kernel
theorem f78_0 : fetch 78 0 = some (.iload_n 2, 1) := vtab tk78 0 rfl
theorem e78_0 (l0 l1 : Option Value) (L : VL) (st : List Value) (h : VG) (x : Int32) : ev 78 0 (l0 :: l1 :: some (.int x) :: L) (st) h = ev 78 1 (l0 :: l1 :: some (.int x) :: L) (.int x :: st) h := G_iload_n f78_0 rfl
theorem f78_1 : fetch 78 1 = some (.sipush 255, 3) := vtab tk78 1 rfl
theorem e78_1 (L : VL) (st : List Value) (h : VG) : ev 78 1 L (st) h = ev 78 4 L (.int (255 : Int32) :: st) h := G_sipush f78_1 (by decide)
theorem f78_4 : fetch 78 4 = some (.if_icmp .gt 10, 3) := vtab tk78 2 rfl
theorem e78_4 (L : VL) (st : List Value) (h : VG) (x y : Int32) : ev 78 4 L (.int y :: .int x :: st) h = if x ≤ y then ev 78 7 L st h else ev 78 14 L st h := G_icmp_gt f78_4 (by decide)
theorem f78_7 : fetch 78 7 = some (.iload_n 1, 1) := vtab tk78 3 rfl
theorem e78_7 (l0 : Option Value) (L : VL) (st : List Value) (h : VG) (x : Int32) : ev 78 7 (l0 :: some (.int x) :: L) (st) h = ev 78 8 (l0 :: some (.int x) :: L) (.int x :: st) h := G_iload_n f78_7 rfl
theorem f78_8 : fetch 78 8 = some (.sipush 256, 3) := vtab tk78 4 rfl
theorem e78_8 (L : VL) (st : List Value) (h : VG) : ev 78 8 L (st) h = ev 78 11 L (.int (256 : Int32) :: st) h := G_sipush f78_8 (by decide)
theorem f78_11 : fetch 78 11 = some (.if_icmp .lt 11, 3) := vtab tk78 5 rfl
theorem e78_11 (L : VL) (st : List Value) (h : VG) (x y : Int32) : ev 78 11 L (.int y :: .int x :: st) h = if x < y then ev 78 22 L st h else ev 78 14 L st h := G_icmp_lt f78_11 (by decide)
theorem f78_14 : fetch 78 14 = some (.aload_n 0, 1) := vtab tk78 6 rfl
theorem e78_14 (L : VL) (st : List Value) (h : VG) (x : Nat) : ev 78 14 (some (.ref x) :: L) (st) h = ev 78 15 (some (.ref x) :: L) (.ref x :: st) h := G_aload_n f78_14 rfl
theorem f78_15 : fetch 78 15 = some (.iconst 5, 1) := vtab tk78 7 rfl
theorem e78_15 (L : VL) (st : List Value) (h : VG) : ev 78 15 L (st) h = ev 78 16 L (.int (5 : Int32) :: st) h := G_iconst f78_15 (by decide)
theorem f78_16 : fetch 78 16 = some (.invokevirtual 94, 3) := vtab tk78 8 rfl
theorem e78_16 (L : VL) (st : List Value) (h : VG) (b : Nat) (x0 : Int32) (ho : ob h b 7) (hs : catS st ≤ 8) : ev 78 16 L (.int x0 :: .ref b :: st) h = (ev 71 0 [some (.ref b), some (.int x0)] [] h).bind fun q => ev 78 19 L (q.1.toList ++ st) q.2 := G_callv (k := 1) (p := 558) (ars := [.int x0]) f78_16 lkC_8_94 (by decide) (by decide +kernel) rfl (vcls_ob (ci := 7) (by decide) ho) (Nat.le_of_ble_eq_true rfl) hs rfl
theorem f78_19 : fetch 78 19 = some (.goto 17, 3) := vtab tk78 9 rfl
theorem e78_19 (L : VL) (st : List Value) (h : VG) : ev 78 19 L (st) h = ev 78 36 L (st) h := G_goto f78_19 (by decide)
theorem f78_22 : fetch 78 22 = some (.aload_n 0, 1) := vtab tk78 10 rfl
theorem e78_22 (L : VL) (st : List Value) (h : VG) (x : Nat) : ev 78 22 (some (.ref x) :: L) (st) h = ev 78 23 (some (.ref x) :: L) (.ref x :: st) h := G_aload_n f78_22 rfl
theorem f78_23 : fetch 78 23 = some (.getfield 22, 3) := vtab tk78 11 rfl
theorem e78_23 (L : VL) (st : List Value) (h : VG) (a : Nat) (ho : ob h a 7) (hr : isR h a 2) : ev 78 23 L (.ref a :: st) h = ev 78 26 L (.ref (gR h a 2) :: st) h := G_getR (p := 195) f78_23 lkF_8_22 (by decide) (by decide) ho hr
theorem f78_26 : fetch 78 26 = some (.getfield 81, 3) := vtab tk78 12 rfl
theorem e78_26 (L : VL) (st : List Value) (h : VG) (a : Nat) (ho : ob h a 6) (hr : isR h a 0) : ev 78 26 L (.ref a :: st) h = ev 78 29 L (.ref (gR h a 0) :: st) h := G_getR (p := 336) f78_26 lkF_8_81 (by decide) (by decide) ho hr
theorem f78_29 : fetch 78 29 = some (.getfield 134, 3) := vtab tk78 13 rfl
theorem e78_29 (L : VL) (st : List Value) (h : VG) (a : Nat) (ho : ob h a 5) (hr : isR h a 0) : ev 78 29 L (.ref a :: st) h = ev 78 32 L (.ref (gR h a 0) :: st) h := G_getR (p := 225) f78_29 lkF_8_134 (by decide) (by decide) ho hr
theorem f78_32 : fetch 78 32 = some (.iload_n 1, 1) := vtab tk78 14 rfl
theorem e78_32 (l0 : Option Value) (L : VL) (st : List Value) (h : VG) (x : Int32) : ev 78 32 (l0 :: some (.int x) :: L) (st) h = ev 78 33 (l0 :: some (.int x) :: L) (.int x :: st) h := G_iload_n f78_32 rfl
theorem f78_33 : fetch 78 33 = some (.iload_n 2, 1) := vtab tk78 15 rfl
theorem e78_33 (l0 l1 : Option Value) (L : VL) (st : List Value) (h : VG) (x : Int32) : ev 78 33 (l0 :: l1 :: some (.int x) :: L) (st) h = ev 78 34 (l0 :: l1 :: some (.int x) :: L) (.int x :: st) h := G_iload_n f78_33 rfl
theorem f78_34 : fetch 78 34 = some (.i2b, 1) := vtab tk78 16 rfl
theorem e78_34 (L : VL) (st : List Value) (h : VG) (x : Int32) : ev 78 34 L (.int x :: st) h = ev 78 35 L (.int x.toInt8.toInt32 :: st) h := G_i2b f78_34
theorem f78_35 : fetch 78 35 = some (.bastore, 1) := vtab tk78 17 rfl
theorem e78_35 (L : VL) (st : List Value) (h : VG) (a : Nat) (i : Int32) (x : Int32) (ha : arI h a 2) (hi : vp_in i (aln h a)) : ev 78 35 L (.int x :: .int i :: .ref a :: st) h = ev 78 36 L (st) (wI h a i.toNatClampNeg (vp_nar .byte x)) := G_bast f78_35 ha hi
theorem e78_35z (L : VL) (st : List Value) (h : VG) (a : Nat) (i : Int32) (x : Int32) (ha : arI h a 3) (hi : vp_in i (aln h a)) : ev 78 35 L (.int x :: .int i :: .ref a :: st) h = ev 78 36 L (st) (wI h a i.toNatClampNeg (vp_nar .boolean x)) := G_zast f78_35 ha hi
theorem f78_36 : fetch 78 36 = some (.return_, 1) := vtab tk78 18 rfl
theorem e78_36 (L : VL) (h : VG) : ev 78 36 L [] h = some (none, h) := G_vret f78_36 (by decide)
/-! 79 GuestCalls$State.<init>()V -/
def tb79 : List (Nat × Instr × Nat) := [(0, .aload_n 0, 1), (1, .invokespecial 3, 3), (4, .aload_n 0, 1), (5, .new 9, 3), (8, .dup, 1), (9, .invokespecial 11, 3), (12, .putfield 12, 3), (15, .aload_n 0, 1), (16, .bipush 8, 2), (18, .anewarray 18, 3), (21, .putfield 20, 3), (24, .aload_n 0, 1), (25, .bipush 8, 2), (27, .newarray .long, 2), (29, .putfield 24, 3), (32, .iconst 0, 1), (33, .istore_n 1, 1), (34, .iload_n 1, 1), (35, .bipush 8, 2), (37, .if_icmp .ge 22, 3), (40, .aload_n 0, 1), (41, .getfield 20, 3), (44, .iload_n 1, 1), (45, .new 18, 3), (48, .dup, 1), (49, .invokespecial 28, 3), (53, .iinc 1 1, 3), (56, .goto (-22), 3), (59, .return_, 1)]
theorem tk79 : tb79.all (fun q => decide (fetch 79 q.1 = some q.2)) = true := by decide +kernel
theorem f79_0 : fetch 79 0 = some (.aload_n 0, 1) := vtab tk79 0 rfl
theorem e79_0 (L : VL) (st : List Value) (h : VG) (x : Nat) : ev 79 0 (some (.ref x) :: L) (st) h = ev 79 1 (some (.ref x) :: L) (.ref x :: st) h := G_aload_n f79_0 rfl
theorem f79_1 : fetch 79 1 = some (.invokespecial 3, 3) := vtab tk79 1 rfl
theorem e79_1 (L : VL) (st : List Value) (h : VG) (a : Nat) (hs : catS st ≤ 8) : ev 79 1 L (.ref a :: st) h = ev 79 4 L (st) h := G_objinit (y := 0) (p := 355) f79_1 lkC_9_3 hs
theorem f79_4 : fetch 79 4 = some (.aload_n 0, 1) := vtab tk79 2 rfl
theorem e79_4 (L : VL) (st : List Value) (h : VG) (x : Nat) : ev 79 4 (some (.ref x) :: L) (st) h = ev 79 5 (some (.ref x) :: L) (.ref x :: st) h := G_aload_n f79_4 rfl
theorem f79_5 : fetch 79 5 = some (.new 9, 3) := vtab tk79 3 rfl
theorem e79_5 (L : VL) (st : List Value) (h : VG) : ev 79 5 L (st) h = ev 79 8 L (.ref h.2.1 :: st) (hnew h (.inr (5, vDef 5)) (vNsl 5)) := G_new (p := 356) f79_5 lkN_9_9
theorem f79_8 : fetch 79 8 = some (.dup, 1) := vtab tk79 4 rfl
theorem e79_8b (L : VL) (st : List Value) (h : VG) (x : Int32) : ev 79 8 L (.int x :: st) h = ev 79 9 L (.int x :: .int x :: st) h := G_dup_int f79_8
theorem e79_8 (L : VL) (st : List Value) (h : VG) (x : Nat) : ev 79 8 L (.ref x :: st) h = ev 79 9 L (.ref x :: .ref x :: st) h := G_dup_ref f79_8
theorem f79_9 : fetch 79 9 = some (.invokespecial 11, 3) := vtab tk79 5 rfl
theorem e79_9 (L : VL) (st : List Value) (h : VG) (b : Nat)  (hs : catS st ≤ 8) : ev 79 9 L (.ref b :: st) h = (ev 51 0 [some (.ref b)] [] h).bind fun q => ev 79 12 L (q.1.toList ++ st) q.2 := G_calli (k := 5) (p := 357) (ars := []) f79_9 lkC_9_11 (by decide) (by decide +kernel) rfl (Nat.le_of_ble_eq_true rfl) hs rfl
theorem f79_12 : fetch 79 12 = some (.putfield 12, 3) := vtab tk79 6 rfl
theorem e79_12 (L : VL) (st : List Value) (h : VG) (a : Nat) (x : Nat) (ho : ob h a 8) : ev 79 12 L (.ref x :: .ref a :: st) h = ev 79 15 L (st) (pR h a 0 x) := G_putR (p := 382) f79_12 lkF_9_12 (by decide) (by decide) (by decide +kernel) ⟨rfl, rfl⟩ ho
theorem f79_15 : fetch 79 15 = some (.aload_n 0, 1) := vtab tk79 7 rfl
theorem e79_15 (L : VL) (st : List Value) (h : VG) (x : Nat) : ev 79 15 (some (.ref x) :: L) (st) h = ev 79 16 (some (.ref x) :: L) (.ref x :: st) h := G_aload_n f79_15 rfl
theorem f79_16 : fetch 79 16 = some (.bipush 8, 2) := vtab tk79 8 rfl
theorem e79_16 (L : VL) (st : List Value) (h : VG) : ev 79 16 L (st) h = ev 79 18 L (.int (8 : Int32) :: st) h := G_bipush f79_16 (by decide)
theorem f79_18 : fetch 79 18 = some (.anewarray 18, 3) := vtab tk79 9 rfl
theorem e79_18 (L : VL) (st : List Value) (h : VG) (n : Int32) (hn : ¬ n < 0 ∧ n.toNatClampNeg ≤ 4096) : ev 79 18 L (.int n :: st) h = ev 79 21 L (.ref h.2.1 :: st) (hnew h (.inl (5, n.toNatClampNeg, .inr (.inr (.inr (.inr (fun _ => none)))))) n.toNatClampNeg) := G_anewa (ci := 1) (p := 358) f79_18 lkN_9_18 ⟨hn.1, hn.2, by decide⟩
theorem f79_21 : fetch 79 21 = some (.putfield 20, 3) := vtab tk79 10 rfl
theorem e79_21 (L : VL) (st : List Value) (h : VG) (a : Nat) (x : Nat) (ho : ob h a 8) : ev 79 21 L (.ref x :: .ref a :: st) h = ev 79 24 L (st) (pR h a 1 x) := G_putR (p := 384) f79_21 lkF_9_20 (by decide) (by decide) (by decide +kernel) ⟨rfl, rfl⟩ ho
theorem f79_24 : fetch 79 24 = some (.aload_n 0, 1) := vtab tk79 11 rfl
theorem e79_24 (L : VL) (st : List Value) (h : VG) (x : Nat) : ev 79 24 (some (.ref x) :: L) (st) h = ev 79 25 (some (.ref x) :: L) (.ref x :: st) h := G_aload_n f79_24 rfl
theorem f79_25 : fetch 79 25 = some (.bipush 8, 2) := vtab tk79 12 rfl
theorem e79_25 (L : VL) (st : List Value) (h : VG) : ev 79 25 L (st) h = ev 79 27 L (.int (8 : Int32) :: st) h := G_bipush f79_25 (by decide)
theorem f79_27 : fetch 79 27 = some (.newarray .long, 2) := vtab tk79 13 rfl
theorem e79_27 (L : VL) (st : List Value) (h : VG) (n : Int32) (hn : ¬ n < 0 ∧ n.toNatClampNeg ≤ 4096) : ev 79 27 L (.int n :: st) h = ev 79 29 L (.ref h.2.1 :: st) (hnew h (.inl (1, n.toNatClampNeg, .inr (.inl (fun _ => 0)))) n.toNatClampNeg) := G_newa f79_27 rfl hn
theorem f79_29 : fetch 79 29 = some (.putfield 24, 3) := vtab tk79 14 rfl
theorem e79_29 (L : VL) (st : List Value) (h : VG) (a : Nat) (x : Nat) (ho : ob h a 8) : ev 79 29 L (.ref x :: .ref a :: st) h = ev 79 32 L (st) (pR h a 2 x) := G_putR (p := 386) f79_29 lkF_9_24 (by decide) (by decide) (by decide +kernel) ⟨rfl, rfl⟩ ho
theorem f79_32 : fetch 79 32 = some (.iconst 0, 1) := vtab tk79 15 rfl
theorem e79_32 (L : VL) (st : List Value) (h : VG) : ev 79 32 L (st) h = ev 79 33 L (.int (0 : Int32) :: st) h := G_iconst f79_32 (by decide)
theorem f79_33 : fetch 79 33 = some (.istore_n 1, 1) := vtab tk79 16 rfl
theorem e79_33 (l0 l1 : Option Value) (L : VL) (st : List Value) (h : VG) (x : Int32) : ev 79 33 (l0 :: l1 :: L) (.int x :: st) h = ev 79 34 (vkk l0 :: some (.int x) :: L) (st) h := G_istore_n f79_33 rfl (S1_1 l0 l1 L _)
theorem f79_34 : fetch 79 34 = some (.iload_n 1, 1) := vtab tk79 17 rfl
theorem e79_34 (l0 : Option Value) (L : VL) (st : List Value) (h : VG) (x : Int32) : ev 79 34 (l0 :: some (.int x) :: L) (st) h = ev 79 35 (l0 :: some (.int x) :: L) (.int x :: st) h := G_iload_n f79_34 rfl
theorem f79_35 : fetch 79 35 = some (.bipush 8, 2) := vtab tk79 18 rfl
theorem e79_35 (L : VL) (st : List Value) (h : VG) : ev 79 35 L (st) h = ev 79 37 L (.int (8 : Int32) :: st) h := G_bipush f79_35 (by decide)
theorem f79_37 : fetch 79 37 = some (.if_icmp .ge 22, 3) := vtab tk79 19 rfl
theorem e79_37 (L : VL) (st : List Value) (h : VG) (x y : Int32) : ev 79 37 L (.int y :: .int x :: st) h = if x < y then ev 79 40 L st h else ev 79 59 L st h := G_icmp_ge f79_37 (by decide)
theorem f79_40 : fetch 79 40 = some (.aload_n 0, 1) := vtab tk79 20 rfl
theorem e79_40 (L : VL) (st : List Value) (h : VG) (x : Nat) : ev 79 40 (some (.ref x) :: L) (st) h = ev 79 41 (some (.ref x) :: L) (.ref x :: st) h := G_aload_n f79_40 rfl
theorem f79_41 : fetch 79 41 = some (.getfield 20, 3) := vtab tk79 21 rfl
theorem e79_41 (L : VL) (st : List Value) (h : VG) (a : Nat) (ho : ob h a 8) (hr : isR h a 1) : ev 79 41 L (.ref a :: st) h = ev 79 44 L (.ref (gR h a 1) :: st) h := G_getR (p := 384) f79_41 lkF_9_20 (by decide) (by decide) ho hr
theorem f79_44 : fetch 79 44 = some (.iload_n 1, 1) := vtab tk79 22 rfl
theorem e79_44 (l0 : Option Value) (L : VL) (st : List Value) (h : VG) (x : Int32) : ev 79 44 (l0 :: some (.int x) :: L) (st) h = ev 79 45 (l0 :: some (.int x) :: L) (.int x :: st) h := G_iload_n f79_44 rfl
theorem f79_45 : fetch 79 45 = some (.new 18, 3) := vtab tk79 23 rfl
theorem e79_45 (L : VL) (st : List Value) (h : VG) : ev 79 45 L (st) h = ev 79 48 L (.ref h.2.1 :: st) (hnew h (.inr (1, vDef 1)) (vNsl 1)) := G_new (p := 358) f79_45 lkN_9_18
theorem f79_48 : fetch 79 48 = some (.dup, 1) := vtab tk79 24 rfl
theorem e79_48b (L : VL) (st : List Value) (h : VG) (x : Int32) : ev 79 48 L (.int x :: st) h = ev 79 49 L (.int x :: .int x :: st) h := G_dup_int f79_48
theorem e79_48 (L : VL) (st : List Value) (h : VG) (x : Nat) : ev 79 48 L (.ref x :: st) h = ev 79 49 L (.ref x :: .ref x :: st) h := G_dup_ref f79_48
theorem f79_49 : fetch 79 49 = some (.invokespecial 28, 3) := vtab tk79 25 rfl
theorem e79_49 (L : VL) (st : List Value) (h : VG) (b : Nat)  (hs : catS st ≤ 8) : ev 79 49 L (.ref b :: st) h = (ev 2 0 [some (.ref b)] [] h).bind fun q => ev 79 52 L (q.1.toList ++ st) q.2 := G_calli (k := 5) (p := 361) (ars := []) f79_49 lkC_9_28 (by decide) (by decide +kernel) rfl (Nat.le_of_ble_eq_true rfl) hs rfl
theorem f79_53 : fetch 79 53 = some (.iinc 1 1, 3) := vtab tk79 26 rfl
theorem e79_53 (l0 : Option Value) (L : VL) (st : List Value) (h : VG) (x : Int32) : ev 79 53 (l0 :: some (.int x) :: L) (st) h = ev 79 56 (vkk l0 :: some (.int (x + (1 : Int32))) :: L) (st) h := G_iinc f79_53 rfl (by decide) (S1_1 l0 (some (.int x)) L _)
theorem f79_56 : fetch 79 56 = some (.goto (-22), 3) := vtab tk79 27 rfl
theorem e79_56 (L : VL) (st : List Value) (h : VG) : ev 79 56 L (st) h = ev 79 34 L (st) h := G_goto f79_56 (by decide)
theorem f79_59 : fetch 79 59 = some (.return_, 1) := vtab tk79 28 rfl
theorem e79_59 (L : VL) (h : VG) : ev 79 59 L [] h = some (none, h) := G_vret f79_59 (by decide)
/-! 80 GuestCalls$State.begin(LGuestCalls$Memory;)V -/
def tb80 : List (Nat × Instr × Nat) := [(0, .aload_n 0, 1), (1, .getfield 12, 3), (4, .aload_n 1, 1), (5, .invokevirtual 29, 3), (8, .iconst 0, 1), (9, .istore_n 2, 1), (10, .iload_n 2, 1), (11, .bipush 8, 2), (13, .if_icmp .ge 21, 3), (16, .aload_n 0, 1), (17, .getfield 20, 3), (20, .iload_n 2, 1), (21, .aaload, 1), (22, .bipush 11, 2), (24, .iconst 0, 1), (25, .invokevirtual 33, 3), (28, .iinc 2 1, 3), (31, .goto (-21), 3), (34, .aload_n 0, 1), (35, .getfield 24, 3), (38, .lconst 0, 1), (39, .invokestatic 37, 3), (42, .aload_n 0, 1), (43, .iconst 0, 1), (44, .putfield 43, 3), (47, .return_, 1)]
theorem tk80 : tb80.all (fun q => decide (fetch 80 q.1 = some q.2)) = true := by decide +kernel
theorem f80_0 : fetch 80 0 = some (.aload_n 0, 1) := vtab tk80 0 rfl
theorem e80_0 (L : VL) (st : List Value) (h : VG) (x : Nat) : ev 80 0 (some (.ref x) :: L) (st) h = ev 80 1 (some (.ref x) :: L) (.ref x :: st) h := G_aload_n f80_0 rfl
theorem f80_1 : fetch 80 1 = some (.getfield 12, 3) := vtab tk80 1 rfl
theorem e80_1 (L : VL) (st : List Value) (h : VG) (a : Nat) (ho : ob h a 8) (hr : isR h a 0) : ev 80 1 L (.ref a :: st) h = ev 80 4 L (.ref (gR h a 0) :: st) h := G_getR (p := 382) f80_1 lkF_9_12 (by decide) (by decide) ho hr
theorem f80_4 : fetch 80 4 = some (.aload_n 1, 1) := vtab tk80 2 rfl
theorem e80_4 (l0 : Option Value) (L : VL) (st : List Value) (h : VG) (x : Nat) : ev 80 4 (l0 :: some (.ref x) :: L) (st) h = ev 80 5 (l0 :: some (.ref x) :: L) (.ref x :: st) h := G_aload_n f80_4 rfl
theorem f80_5 : fetch 80 5 = some (.invokevirtual 29, 3) := vtab tk80 3 rfl
theorem e80_5 (L : VL) (st : List Value) (h : VG) (b : Nat) (x0 : Nat) (ho : ob h b 5) (hs : catS st ≤ 8) : ev 80 5 L (.ref x0 :: .ref b :: st) h = (ev 53 0 [some (.ref b), some (.ref x0)] [] h).bind fun q => ev 80 8 L (q.1.toList ++ st) q.2 := G_callv (k := 1) (p := 635) (ars := [.ref x0]) f80_5 lkC_9_29 (by decide) (by decide +kernel) rfl (vcls_ob (ci := 5) (by decide) ho) (Nat.le_of_ble_eq_true rfl) hs rfl
theorem f80_8 : fetch 80 8 = some (.iconst 0, 1) := vtab tk80 4 rfl
theorem e80_8 (L : VL) (st : List Value) (h : VG) : ev 80 8 L (st) h = ev 80 9 L (.int (0 : Int32) :: st) h := G_iconst f80_8 (by decide)
theorem f80_9 : fetch 80 9 = some (.istore_n 2, 1) := vtab tk80 5 rfl
theorem e80_9 (l0 l1 l2 : Option Value) (L : VL) (st : List Value) (h : VG) (x : Int32) : ev 80 9 (l0 :: l1 :: l2 :: L) (.int x :: st) h = ev 80 10 (l0 :: vkk l1 :: some (.int x) :: L) (st) h := G_istore_n f80_9 rfl (S1_2 l0 l1 l2 L _)
theorem f80_10 : fetch 80 10 = some (.iload_n 2, 1) := vtab tk80 6 rfl
theorem e80_10 (l0 l1 : Option Value) (L : VL) (st : List Value) (h : VG) (x : Int32) : ev 80 10 (l0 :: l1 :: some (.int x) :: L) (st) h = ev 80 11 (l0 :: l1 :: some (.int x) :: L) (.int x :: st) h := G_iload_n f80_10 rfl
theorem f80_11 : fetch 80 11 = some (.bipush 8, 2) := vtab tk80 7 rfl
theorem e80_11 (L : VL) (st : List Value) (h : VG) : ev 80 11 L (st) h = ev 80 13 L (.int (8 : Int32) :: st) h := G_bipush f80_11 (by decide)
theorem f80_13 : fetch 80 13 = some (.if_icmp .ge 21, 3) := vtab tk80 8 rfl
theorem e80_13 (L : VL) (st : List Value) (h : VG) (x y : Int32) : ev 80 13 L (.int y :: .int x :: st) h = if x < y then ev 80 16 L st h else ev 80 34 L st h := G_icmp_ge f80_13 (by decide)
theorem f80_16 : fetch 80 16 = some (.aload_n 0, 1) := vtab tk80 9 rfl
theorem e80_16 (L : VL) (st : List Value) (h : VG) (x : Nat) : ev 80 16 (some (.ref x) :: L) (st) h = ev 80 17 (some (.ref x) :: L) (.ref x :: st) h := G_aload_n f80_16 rfl
theorem f80_17 : fetch 80 17 = some (.getfield 20, 3) := vtab tk80 10 rfl
theorem e80_17 (L : VL) (st : List Value) (h : VG) (a : Nat) (ho : ob h a 8) (hr : isR h a 1) : ev 80 17 L (.ref a :: st) h = ev 80 20 L (.ref (gR h a 1) :: st) h := G_getR (p := 384) f80_17 lkF_9_20 (by decide) (by decide) ho hr
theorem f80_20 : fetch 80 20 = some (.iload_n 2, 1) := vtab tk80 11 rfl
theorem e80_20 (l0 l1 : Option Value) (L : VL) (st : List Value) (h : VG) (x : Int32) : ev 80 20 (l0 :: l1 :: some (.int x) :: L) (st) h = ev 80 21 (l0 :: l1 :: some (.int x) :: L) (.int x :: st) h := G_iload_n f80_20 rfl
theorem f80_21 : fetch 80 21 = some (.aaload, 1) := vtab tk80 12 rfl
theorem e80_21 (L : VL) (st : List Value) (h : VG) (a : Nat) (i : Int32) (ha : rdR h a) (hi : vp_in i (aln h a)) : ev 80 21 L (.int i :: .ref a :: st) h = ev 80 22 L (va_rf (aR h a i.toNatClampNeg) :: st) h := G_aald' f80_21 ha hi
theorem f80_22 : fetch 80 22 = some (.bipush 11, 2) := vtab tk80 13 rfl
theorem e80_22 (L : VL) (st : List Value) (h : VG) : ev 80 22 L (st) h = ev 80 24 L (.int (11 : Int32) :: st) h := G_bipush f80_22 (by decide)
theorem f80_24 : fetch 80 24 = some (.iconst 0, 1) := vtab tk80 14 rfl
theorem e80_24 (L : VL) (st : List Value) (h : VG) : ev 80 24 L (st) h = ev 80 25 L (.int (0 : Int32) :: st) h := G_iconst f80_24 (by decide)
theorem f80_25 : fetch 80 25 = some (.invokevirtual 33, 3) := vtab tk80 15 rfl
theorem e80_25 (L : VL) (st : List Value) (h : VG) (b : Nat) (x0 : Int32) (x1 : Int32) (ho : ob h b 1) (hs : catS st ≤ 8) : ev 80 25 L (.int x1 :: .int x0 :: .ref b :: st) h = (ev 3 0 [some (.ref b), some (.int x0), some (.int x1)] [] h).bind fun q => ev 80 28 L (q.1.toList ++ st) q.2 := G_callv (k := 1) (p := 642) (ars := [.int x0, .int x1]) f80_25 lkC_9_33 (by decide) (by decide +kernel) rfl (vcls_ob (ci := 1) (by decide) ho) (Nat.le_of_ble_eq_true rfl) hs rfl
theorem f80_28 : fetch 80 28 = some (.iinc 2 1, 3) := vtab tk80 16 rfl
theorem e80_28 (l0 l1 : Option Value) (L : VL) (st : List Value) (h : VG) (x : Int32) : ev 80 28 (l0 :: l1 :: some (.int x) :: L) (st) h = ev 80 31 (l0 :: vkk l1 :: some (.int (x + (1 : Int32))) :: L) (st) h := G_iinc f80_28 rfl (by decide) (S1_2 l0 l1 (some (.int x)) L _)
theorem f80_31 : fetch 80 31 = some (.goto (-21), 3) := vtab tk80 17 rfl
theorem e80_31 (L : VL) (st : List Value) (h : VG) : ev 80 31 L (st) h = ev 80 10 L (st) h := G_goto f80_31 (by decide)
theorem f80_34 : fetch 80 34 = some (.aload_n 0, 1) := vtab tk80 18 rfl
theorem e80_34 (L : VL) (st : List Value) (h : VG) (x : Nat) : ev 80 34 (some (.ref x) :: L) (st) h = ev 80 35 (some (.ref x) :: L) (.ref x :: st) h := G_aload_n f80_34 rfl
theorem f80_35 : fetch 80 35 = some (.getfield 24, 3) := vtab tk80 19 rfl
theorem e80_35 (L : VL) (st : List Value) (h : VG) (a : Nat) (ho : ob h a 8) (hr : isR h a 2) : ev 80 35 L (.ref a :: st) h = ev 80 38 L (.ref (gR h a 2) :: st) h := G_getR (p := 386) f80_35 lkF_9_24 (by decide) (by decide) ho hr
theorem f80_38 : fetch 80 38 = some (.lconst 0, 1) := vtab tk80 20 rfl
theorem e80_38 (L : VL) (st : List Value) (h : VG) : ev 80 38 L (st) h = ev 80 39 L (.long 0 :: st) h := G_lconst f80_38 (by decide)
theorem f80_39 : fetch 80 39 = some (.invokestatic 37, 3) := vtab tk80 21 rfl
theorem e80_39 (L : VL) (st : List Value) (h : VG) (x0 : Nat) (x1 : Int64) (hs : catS st ≤ 8) : ev 80 39 L (.long x1 :: .ref x0 :: st) h = (ev 237 0 [some (.ref x0), some (.long x1), none, none, none] [] h).bind fun q => ev 80 42 L (q.1.toList ++ st) q.2 := G_calls (k := 0) (p := 652) (ars := [.ref x0, .long x1]) f80_39 lkC_9_37 (by decide) (by decide +kernel) rfl (Nat.le_of_ble_eq_true rfl) hs rfl
theorem f80_42 : fetch 80 42 = some (.aload_n 0, 1) := vtab tk80 22 rfl
theorem e80_42 (L : VL) (st : List Value) (h : VG) (x : Nat) : ev 80 42 (some (.ref x) :: L) (st) h = ev 80 43 (some (.ref x) :: L) (.ref x :: st) h := G_aload_n f80_42 rfl
theorem f80_43 : fetch 80 43 = some (.iconst 0, 1) := vtab tk80 23 rfl
theorem e80_43 (L : VL) (st : List Value) (h : VG) : ev 80 43 L (st) h = ev 80 44 L (.int (0 : Int32) :: st) h := G_iconst f80_43 (by decide)
theorem f80_44 : fetch 80 44 = some (.putfield 43, 3) := vtab tk80 24 rfl
theorem e80_44 (L : VL) (st : List Value) (h : VG) (a : Nat) (x : Int32) (ho : ob h a 8) : ev 80 44 L (.int x :: .ref a :: st) h = ev 80 47 L (st) (pI h a 3 x) := G_putI (p := 388) f80_44 lkF_9_43 (by decide) (by decide) (by decide +kernel) ⟨rfl, rfl⟩ ho
theorem f80_47 : fetch 80 47 = some (.return_, 1) := vtab tk80 25 rfl
theorem e80_47 (L : VL) (h : VG) : ev 80 47 L [] h = some (none, h) := G_vret f80_47 (by decide)
/-! 81 GuestCalls$State.become(LGuestCalls$State;)V -/
def tb81 : List (Nat × Instr × Nat) := [(0, .aload_n 0, 1), (1, .getfield 12, 3), (4, .aload_n 1, 1), (5, .getfield 12, 3), (8, .invokevirtual 29, 3), (11, .iconst 0, 1), (12, .istore_n 2, 1), (13, .iload_n 2, 1), (14, .bipush 8, 2), (16, .if_icmp .ge 24, 3), (19, .aload_n 0, 1), (20, .getfield 20, 3), (23, .iload_n 2, 1), (24, .aaload, 1), (25, .aload_n 1, 1), (26, .getfield 20, 3), (29, .iload_n 2, 1), (30, .aaload, 1), (31, .invokevirtual 47, 3), (34, .iinc 2 1, 3), (37, .goto (-24), 3), (40, .aload_n 1, 1), (41, .getfield 24, 3), (44, .iconst 0, 1), (45, .aload_n 0, 1), (46, .getfield 24, 3), (49, .iconst 0, 1), (50, .bipush 8, 2), (52, .invokestatic 50, 3), (55, .aload_n 0, 1), (56, .aload_n 1, 1), (57, .getfield 43, 3), (60, .putfield 43, 3), (63, .return_, 1)]
theorem tk81 : tb81.all (fun q => decide (fetch 81 q.1 = some q.2)) = true := by decide +kernel
theorem f81_0 : fetch 81 0 = some (.aload_n 0, 1) := vtab tk81 0 rfl
theorem e81_0 (L : VL) (st : List Value) (h : VG) (x : Nat) : ev 81 0 (some (.ref x) :: L) (st) h = ev 81 1 (some (.ref x) :: L) (.ref x :: st) h := G_aload_n f81_0 rfl
theorem f81_1 : fetch 81 1 = some (.getfield 12, 3) := vtab tk81 1 rfl
theorem e81_1 (L : VL) (st : List Value) (h : VG) (a : Nat) (ho : ob h a 8) (hr : isR h a 0) : ev 81 1 L (.ref a :: st) h = ev 81 4 L (.ref (gR h a 0) :: st) h := G_getR (p := 382) f81_1 lkF_9_12 (by decide) (by decide) ho hr
theorem f81_4 : fetch 81 4 = some (.aload_n 1, 1) := vtab tk81 2 rfl
theorem e81_4 (l0 : Option Value) (L : VL) (st : List Value) (h : VG) (x : Nat) : ev 81 4 (l0 :: some (.ref x) :: L) (st) h = ev 81 5 (l0 :: some (.ref x) :: L) (.ref x :: st) h := G_aload_n f81_4 rfl
theorem f81_5 : fetch 81 5 = some (.getfield 12, 3) := vtab tk81 3 rfl
theorem e81_5 (L : VL) (st : List Value) (h : VG) (a : Nat) (ho : ob h a 8) (hr : isR h a 0) : ev 81 5 L (.ref a :: st) h = ev 81 8 L (.ref (gR h a 0) :: st) h := G_getR (p := 382) f81_5 lkF_9_12 (by decide) (by decide) ho hr
theorem f81_8 : fetch 81 8 = some (.invokevirtual 29, 3) := vtab tk81 4 rfl
theorem e81_8 (L : VL) (st : List Value) (h : VG) (b : Nat) (x0 : Nat) (ho : ob h b 5) (hs : catS st ≤ 8) : ev 81 8 L (.ref x0 :: .ref b :: st) h = (ev 53 0 [some (.ref b), some (.ref x0)] [] h).bind fun q => ev 81 11 L (q.1.toList ++ st) q.2 := G_callv (k := 1) (p := 635) (ars := [.ref x0]) f81_8 lkC_9_29 (by decide) (by decide +kernel) rfl (vcls_ob (ci := 5) (by decide) ho) (Nat.le_of_ble_eq_true rfl) hs rfl
theorem f81_11 : fetch 81 11 = some (.iconst 0, 1) := vtab tk81 5 rfl
theorem e81_11 (L : VL) (st : List Value) (h : VG) : ev 81 11 L (st) h = ev 81 12 L (.int (0 : Int32) :: st) h := G_iconst f81_11 (by decide)
theorem f81_12 : fetch 81 12 = some (.istore_n 2, 1) := vtab tk81 6 rfl
theorem e81_12 (l0 l1 l2 : Option Value) (L : VL) (st : List Value) (h : VG) (x : Int32) : ev 81 12 (l0 :: l1 :: l2 :: L) (.int x :: st) h = ev 81 13 (l0 :: vkk l1 :: some (.int x) :: L) (st) h := G_istore_n f81_12 rfl (S1_2 l0 l1 l2 L _)
theorem f81_13 : fetch 81 13 = some (.iload_n 2, 1) := vtab tk81 7 rfl
theorem e81_13 (l0 l1 : Option Value) (L : VL) (st : List Value) (h : VG) (x : Int32) : ev 81 13 (l0 :: l1 :: some (.int x) :: L) (st) h = ev 81 14 (l0 :: l1 :: some (.int x) :: L) (.int x :: st) h := G_iload_n f81_13 rfl
theorem f81_14 : fetch 81 14 = some (.bipush 8, 2) := vtab tk81 8 rfl
theorem e81_14 (L : VL) (st : List Value) (h : VG) : ev 81 14 L (st) h = ev 81 16 L (.int (8 : Int32) :: st) h := G_bipush f81_14 (by decide)
theorem f81_16 : fetch 81 16 = some (.if_icmp .ge 24, 3) := vtab tk81 9 rfl
theorem e81_16 (L : VL) (st : List Value) (h : VG) (x y : Int32) : ev 81 16 L (.int y :: .int x :: st) h = if x < y then ev 81 19 L st h else ev 81 40 L st h := G_icmp_ge f81_16 (by decide)
theorem f81_19 : fetch 81 19 = some (.aload_n 0, 1) := vtab tk81 10 rfl
theorem e81_19 (L : VL) (st : List Value) (h : VG) (x : Nat) : ev 81 19 (some (.ref x) :: L) (st) h = ev 81 20 (some (.ref x) :: L) (.ref x :: st) h := G_aload_n f81_19 rfl
theorem f81_20 : fetch 81 20 = some (.getfield 20, 3) := vtab tk81 11 rfl
theorem e81_20 (L : VL) (st : List Value) (h : VG) (a : Nat) (ho : ob h a 8) (hr : isR h a 1) : ev 81 20 L (.ref a :: st) h = ev 81 23 L (.ref (gR h a 1) :: st) h := G_getR (p := 384) f81_20 lkF_9_20 (by decide) (by decide) ho hr
theorem f81_23 : fetch 81 23 = some (.iload_n 2, 1) := vtab tk81 12 rfl
theorem e81_23 (l0 l1 : Option Value) (L : VL) (st : List Value) (h : VG) (x : Int32) : ev 81 23 (l0 :: l1 :: some (.int x) :: L) (st) h = ev 81 24 (l0 :: l1 :: some (.int x) :: L) (.int x :: st) h := G_iload_n f81_23 rfl
theorem f81_24 : fetch 81 24 = some (.aaload, 1) := vtab tk81 13 rfl
theorem e81_24 (L : VL) (st : List Value) (h : VG) (a : Nat) (i : Int32) (ha : rdR h a) (hi : vp_in i (aln h a)) : ev 81 24 L (.int i :: .ref a :: st) h = ev 81 25 L (va_rf (aR h a i.toNatClampNeg) :: st) h := G_aald' f81_24 ha hi
theorem f81_25 : fetch 81 25 = some (.aload_n 1, 1) := vtab tk81 14 rfl
theorem e81_25 (l0 : Option Value) (L : VL) (st : List Value) (h : VG) (x : Nat) : ev 81 25 (l0 :: some (.ref x) :: L) (st) h = ev 81 26 (l0 :: some (.ref x) :: L) (.ref x :: st) h := G_aload_n f81_25 rfl
theorem f81_26 : fetch 81 26 = some (.getfield 20, 3) := vtab tk81 15 rfl
theorem e81_26 (L : VL) (st : List Value) (h : VG) (a : Nat) (ho : ob h a 8) (hr : isR h a 1) : ev 81 26 L (.ref a :: st) h = ev 81 29 L (.ref (gR h a 1) :: st) h := G_getR (p := 384) f81_26 lkF_9_20 (by decide) (by decide) ho hr
theorem f81_29 : fetch 81 29 = some (.iload_n 2, 1) := vtab tk81 16 rfl
theorem e81_29 (l0 l1 : Option Value) (L : VL) (st : List Value) (h : VG) (x : Int32) : ev 81 29 (l0 :: l1 :: some (.int x) :: L) (st) h = ev 81 30 (l0 :: l1 :: some (.int x) :: L) (.int x :: st) h := G_iload_n f81_29 rfl
theorem f81_30 : fetch 81 30 = some (.aaload, 1) := vtab tk81 17 rfl
theorem e81_30 (L : VL) (st : List Value) (h : VG) (a : Nat) (i : Int32) (ha : rdR h a) (hi : vp_in i (aln h a)) : ev 81 30 L (.int i :: .ref a :: st) h = ev 81 31 L (va_rf (aR h a i.toNatClampNeg) :: st) h := G_aald' f81_30 ha hi
theorem f81_31 : fetch 81 31 = some (.invokevirtual 47, 3) := vtab tk81 18 rfl
theorem e81_31 (L : VL) (st : List Value) (h : VG) (b : Nat) (x0 : Nat) (ho : ob h b 1) (hs : catS st ≤ 8) : ev 81 31 L (.ref x0 :: .ref b :: st) h = (ev 4 0 [some (.ref b), some (.ref x0)] [] h).bind fun q => ev 81 34 L (q.1.toList ++ st) q.2 := G_callv (k := 1) (p := 976) (ars := [.ref x0]) f81_31 lkC_9_47 (by decide) (by decide +kernel) rfl (vcls_ob (ci := 1) (by decide) ho) (Nat.le_of_ble_eq_true rfl) hs rfl
theorem f81_34 : fetch 81 34 = some (.iinc 2 1, 3) := vtab tk81 19 rfl
theorem e81_34 (l0 l1 : Option Value) (L : VL) (st : List Value) (h : VG) (x : Int32) : ev 81 34 (l0 :: l1 :: some (.int x) :: L) (st) h = ev 81 37 (l0 :: vkk l1 :: some (.int (x + (1 : Int32))) :: L) (st) h := G_iinc f81_34 rfl (by decide) (S1_2 l0 l1 (some (.int x)) L _)
theorem f81_37 : fetch 81 37 = some (.goto (-24), 3) := vtab tk81 20 rfl
theorem e81_37 (L : VL) (st : List Value) (h : VG) : ev 81 37 L (st) h = ev 81 13 L (st) h := G_goto f81_37 (by decide)
theorem f81_40 : fetch 81 40 = some (.aload_n 1, 1) := vtab tk81 21 rfl
theorem e81_40 (l0 : Option Value) (L : VL) (st : List Value) (h : VG) (x : Nat) : ev 81 40 (l0 :: some (.ref x) :: L) (st) h = ev 81 41 (l0 :: some (.ref x) :: L) (.ref x :: st) h := G_aload_n f81_40 rfl
theorem f81_41 : fetch 81 41 = some (.getfield 24, 3) := vtab tk81 22 rfl
theorem e81_41 (L : VL) (st : List Value) (h : VG) (a : Nat) (ho : ob h a 8) (hr : isR h a 2) : ev 81 41 L (.ref a :: st) h = ev 81 44 L (.ref (gR h a 2) :: st) h := G_getR (p := 386) f81_41 lkF_9_24 (by decide) (by decide) ho hr
theorem f81_44 : fetch 81 44 = some (.iconst 0, 1) := vtab tk81 23 rfl
theorem e81_44 (L : VL) (st : List Value) (h : VG) : ev 81 44 L (st) h = ev 81 45 L (.int (0 : Int32) :: st) h := G_iconst f81_44 (by decide)
theorem f81_45 : fetch 81 45 = some (.aload_n 0, 1) := vtab tk81 24 rfl
theorem e81_45 (L : VL) (st : List Value) (h : VG) (x : Nat) : ev 81 45 (some (.ref x) :: L) (st) h = ev 81 46 (some (.ref x) :: L) (.ref x :: st) h := G_aload_n f81_45 rfl
theorem f81_46 : fetch 81 46 = some (.getfield 24, 3) := vtab tk81 25 rfl
theorem e81_46 (L : VL) (st : List Value) (h : VG) (a : Nat) (ho : ob h a 8) (hr : isR h a 2) : ev 81 46 L (.ref a :: st) h = ev 81 49 L (.ref (gR h a 2) :: st) h := G_getR (p := 386) f81_46 lkF_9_24 (by decide) (by decide) ho hr
theorem f81_49 : fetch 81 49 = some (.iconst 0, 1) := vtab tk81 26 rfl
theorem e81_49 (L : VL) (st : List Value) (h : VG) : ev 81 49 L (st) h = ev 81 50 L (.int (0 : Int32) :: st) h := G_iconst f81_49 (by decide)
theorem f81_50 : fetch 81 50 = some (.bipush 8, 2) := vtab tk81 27 rfl
theorem e81_50 (L : VL) (st : List Value) (h : VG) : ev 81 50 L (st) h = ev 81 52 L (.int (8 : Int32) :: st) h := G_bipush f81_50 (by decide)
theorem f81_52 : fetch 81 52 = some (.invokestatic 50, 3) := vtab tk81 28 rfl
theorem e81_52 (L : VL) (st : List Value) (h : VG) (s d : Nat) (sp dp n : Int32) (h1 : VG) (hs : catS st ≤ 8) (hc : vcopy h s d sp dp n = some h1) : ev 81 52 L (.int n :: .int dp :: .ref d :: .int sp :: .ref s :: st) h = ev 81 55 L (st) h1 := G_copy (q := 0) (p := 980) f81_52 lkC_9_50 hs hc
theorem f81_55 : fetch 81 55 = some (.aload_n 0, 1) := vtab tk81 29 rfl
theorem e81_55 (L : VL) (st : List Value) (h : VG) (x : Nat) : ev 81 55 (some (.ref x) :: L) (st) h = ev 81 56 (some (.ref x) :: L) (.ref x :: st) h := G_aload_n f81_55 rfl
theorem f81_56 : fetch 81 56 = some (.aload_n 1, 1) := vtab tk81 30 rfl
theorem e81_56 (l0 : Option Value) (L : VL) (st : List Value) (h : VG) (x : Nat) : ev 81 56 (l0 :: some (.ref x) :: L) (st) h = ev 81 57 (l0 :: some (.ref x) :: L) (.ref x :: st) h := G_aload_n f81_56 rfl
theorem f81_57 : fetch 81 57 = some (.getfield 43, 3) := vtab tk81 31 rfl
theorem e81_57 (L : VL) (st : List Value) (h : VG) (a : Nat) (ho : ob h a 8) : ev 81 57 L (.ref a :: st) h = ev 81 60 L (.int (gI h a 3) :: st) h := G_getI (p := 388) f81_57 lkF_9_43 (by decide) (by decide) ho
theorem f81_60 : fetch 81 60 = some (.putfield 43, 3) := vtab tk81 32 rfl
theorem e81_60 (L : VL) (st : List Value) (h : VG) (a : Nat) (x : Int32) (ho : ob h a 8) : ev 81 60 L (.int x :: .ref a :: st) h = ev 81 63 L (st) (pI h a 3 x) := G_putI (p := 388) f81_60 lkF_9_43 (by decide) (by decide) (by decide +kernel) ⟨rfl, rfl⟩ ho
theorem f81_63 : fetch 81 63 = some (.return_, 1) := vtab tk81 33 rfl
theorem e81_63 (L : VL) (h : VG) : ev 81 63 L [] h = some (none, h) := G_vret f81_63 (by decide)
/-! 82 GuestCalls$State.usedBins()I -/
def tb82 : List (Nat × Instr × Nat) := [(0, .iconst 0, 1), (1, .istore_n 1, 1), (2, .iconst 0, 1), (3, .istore_n 2, 1), (4, .iload_n 2, 1), (5, .bipush 8, 2), (7, .if_icmp .ge 33, 3), (10, .iload_n 1, 1), (11, .aload_n 0, 1), (12, .getfield 20, 3), (15, .iload_n 2, 1), (16, .aaload, 1), (17, .getfield 56, 3), (20, .bipush 11, 2), (22, .if_icmp .eq 9, 3), (25, .iconst 1, 1), (26, .iload_n 2, 1), (27, .ishl, 1), (28, .goto 4, 3), (31, .iconst 0, 1), (32, .ior, 1), (33, .istore_n 1, 1), (34, .iinc 2 1, 3), (37, .goto (-33), 3), (40, .iload_n 1, 1), (41, .ireturn, 1)]
theorem tk82 : tb82.all (fun q => decide (fetch 82 q.1 = some q.2)) = true := by decide +kernel
theorem f82_0 : fetch 82 0 = some (.iconst 0, 1) := vtab tk82 0 rfl
theorem e82_0 (L : VL) (st : List Value) (h : VG) : ev 82 0 L (st) h = ev 82 1 L (.int (0 : Int32) :: st) h := G_iconst f82_0 (by decide)
theorem f82_1 : fetch 82 1 = some (.istore_n 1, 1) := vtab tk82 1 rfl
theorem e82_1 (l0 l1 : Option Value) (L : VL) (st : List Value) (h : VG) (x : Int32) : ev 82 1 (l0 :: l1 :: L) (.int x :: st) h = ev 82 2 (vkk l0 :: some (.int x) :: L) (st) h := G_istore_n f82_1 rfl (S1_1 l0 l1 L _)
theorem f82_2 : fetch 82 2 = some (.iconst 0, 1) := vtab tk82 2 rfl
theorem e82_2 (L : VL) (st : List Value) (h : VG) : ev 82 2 L (st) h = ev 82 3 L (.int (0 : Int32) :: st) h := G_iconst f82_2 (by decide)
theorem f82_3 : fetch 82 3 = some (.istore_n 2, 1) := vtab tk82 3 rfl
theorem e82_3 (l0 l1 l2 : Option Value) (L : VL) (st : List Value) (h : VG) (x : Int32) : ev 82 3 (l0 :: l1 :: l2 :: L) (.int x :: st) h = ev 82 4 (l0 :: vkk l1 :: some (.int x) :: L) (st) h := G_istore_n f82_3 rfl (S1_2 l0 l1 l2 L _)
theorem f82_4 : fetch 82 4 = some (.iload_n 2, 1) := vtab tk82 4 rfl
theorem e82_4 (l0 l1 : Option Value) (L : VL) (st : List Value) (h : VG) (x : Int32) : ev 82 4 (l0 :: l1 :: some (.int x) :: L) (st) h = ev 82 5 (l0 :: l1 :: some (.int x) :: L) (.int x :: st) h := G_iload_n f82_4 rfl
theorem f82_5 : fetch 82 5 = some (.bipush 8, 2) := vtab tk82 5 rfl
theorem e82_5 (L : VL) (st : List Value) (h : VG) : ev 82 5 L (st) h = ev 82 7 L (.int (8 : Int32) :: st) h := G_bipush f82_5 (by decide)
theorem f82_7 : fetch 82 7 = some (.if_icmp .ge 33, 3) := vtab tk82 6 rfl
theorem e82_7 (L : VL) (st : List Value) (h : VG) (x y : Int32) : ev 82 7 L (.int y :: .int x :: st) h = if x < y then ev 82 10 L st h else ev 82 40 L st h := G_icmp_ge f82_7 (by decide)
theorem f82_10 : fetch 82 10 = some (.iload_n 1, 1) := vtab tk82 7 rfl
theorem e82_10 (l0 : Option Value) (L : VL) (st : List Value) (h : VG) (x : Int32) : ev 82 10 (l0 :: some (.int x) :: L) (st) h = ev 82 11 (l0 :: some (.int x) :: L) (.int x :: st) h := G_iload_n f82_10 rfl
theorem f82_11 : fetch 82 11 = some (.aload_n 0, 1) := vtab tk82 8 rfl
theorem e82_11 (L : VL) (st : List Value) (h : VG) (x : Nat) : ev 82 11 (some (.ref x) :: L) (st) h = ev 82 12 (some (.ref x) :: L) (.ref x :: st) h := G_aload_n f82_11 rfl
theorem f82_12 : fetch 82 12 = some (.getfield 20, 3) := vtab tk82 9 rfl
theorem e82_12 (L : VL) (st : List Value) (h : VG) (a : Nat) (ho : ob h a 8) (hr : isR h a 1) : ev 82 12 L (.ref a :: st) h = ev 82 15 L (.ref (gR h a 1) :: st) h := G_getR (p := 384) f82_12 lkF_9_20 (by decide) (by decide) ho hr
theorem f82_15 : fetch 82 15 = some (.iload_n 2, 1) := vtab tk82 10 rfl
theorem e82_15 (l0 l1 : Option Value) (L : VL) (st : List Value) (h : VG) (x : Int32) : ev 82 15 (l0 :: l1 :: some (.int x) :: L) (st) h = ev 82 16 (l0 :: l1 :: some (.int x) :: L) (.int x :: st) h := G_iload_n f82_15 rfl
theorem f82_16 : fetch 82 16 = some (.aaload, 1) := vtab tk82 11 rfl
theorem e82_16 (L : VL) (st : List Value) (h : VG) (a : Nat) (i : Int32) (ha : rdR h a) (hi : vp_in i (aln h a)) : ev 82 16 L (.int i :: .ref a :: st) h = ev 82 17 L (va_rf (aR h a i.toNatClampNeg) :: st) h := G_aald' f82_16 ha hi
theorem f82_17 : fetch 82 17 = some (.getfield 56, 3) := vtab tk82 12 rfl
theorem e82_17 (L : VL) (st : List Value) (h : VG) (a : Nat) (ho : ob h a 1) : ev 82 17 L (.ref a :: st) h = ev 82 20 L (.int (gI h a 0) :: st) h := G_getI (p := 366) f82_17 lkF_9_56 (by decide) (by decide) ho
theorem f82_20 : fetch 82 20 = some (.bipush 11, 2) := vtab tk82 13 rfl
theorem e82_20 (L : VL) (st : List Value) (h : VG) : ev 82 20 L (st) h = ev 82 22 L (.int (11 : Int32) :: st) h := G_bipush f82_20 (by decide)
theorem f82_22 : fetch 82 22 = some (.if_icmp .eq 9, 3) := vtab tk82 14 rfl
theorem e82_22 (L : VL) (st : List Value) (h : VG) (x y : Int32) : ev 82 22 L (.int y :: .int x :: st) h = if x = y then ev 82 31 L st h else ev 82 25 L st h := G_icmp_eq f82_22 (by decide)
theorem f82_25 : fetch 82 25 = some (.iconst 1, 1) := vtab tk82 15 rfl
theorem e82_25 (L : VL) (st : List Value) (h : VG) : ev 82 25 L (st) h = ev 82 26 L (.int (1 : Int32) :: st) h := G_iconst f82_25 (by decide)
theorem f82_26 : fetch 82 26 = some (.iload_n 2, 1) := vtab tk82 16 rfl
theorem e82_26 (l0 l1 : Option Value) (L : VL) (st : List Value) (h : VG) (x : Int32) : ev 82 26 (l0 :: l1 :: some (.int x) :: L) (st) h = ev 82 27 (l0 :: l1 :: some (.int x) :: L) (.int x :: st) h := G_iload_n f82_26 rfl
theorem f82_27 : fetch 82 27 = some (.ishl, 1) := vtab tk82 17 rfl
theorem e82_27 (L : VL) (st : List Value) (h : VG) (x y : Int32) : ev 82 27 L (.int y :: .int x :: st) h = ev 82 28 L (.int (x <<< (y &&& 31)) :: st) h := G_ishl f82_27
theorem f82_28 : fetch 82 28 = some (.goto 4, 3) := vtab tk82 18 rfl
theorem e82_28 (L : VL) (st : List Value) (h : VG) : ev 82 28 L (st) h = ev 82 32 L (st) h := G_goto f82_28 (by decide)
theorem f82_31 : fetch 82 31 = some (.iconst 0, 1) := vtab tk82 19 rfl
theorem e82_31 (L : VL) (st : List Value) (h : VG) : ev 82 31 L (st) h = ev 82 32 L (.int (0 : Int32) :: st) h := G_iconst f82_31 (by decide)
theorem f82_32 : fetch 82 32 = some (.ior, 1) := vtab tk82 20 rfl
theorem e82_32 (L : VL) (st : List Value) (h : VG) (x y : Int32) : ev 82 32 L (.int y :: .int x :: st) h = ev 82 33 L (.int (x ||| y) :: st) h := G_ior f82_32
theorem f82_33 : fetch 82 33 = some (.istore_n 1, 1) := vtab tk82 21 rfl
theorem e82_33 (l0 l1 : Option Value) (L : VL) (st : List Value) (h : VG) (x : Int32) : ev 82 33 (l0 :: l1 :: L) (.int x :: st) h = ev 82 34 (vkk l0 :: some (.int x) :: L) (st) h := G_istore_n f82_33 rfl (S1_1 l0 l1 L _)
theorem f82_34 : fetch 82 34 = some (.iinc 2 1, 3) := vtab tk82 22 rfl
theorem e82_34 (l0 l1 : Option Value) (L : VL) (st : List Value) (h : VG) (x : Int32) : ev 82 34 (l0 :: l1 :: some (.int x) :: L) (st) h = ev 82 37 (l0 :: vkk l1 :: some (.int (x + (1 : Int32))) :: L) (st) h := G_iinc f82_34 rfl (by decide) (S1_2 l0 l1 (some (.int x)) L _)
theorem f82_37 : fetch 82 37 = some (.goto (-33), 3) := vtab tk82 23 rfl
theorem e82_37 (L : VL) (st : List Value) (h : VG) : ev 82 37 L (st) h = ev 82 4 L (st) h := G_goto f82_37 (by decide)
theorem f82_40 : fetch 82 40 = some (.iload_n 1, 1) := vtab tk82 24 rfl
theorem e82_40 (l0 : Option Value) (L : VL) (st : List Value) (h : VG) (x : Int32) : ev 82 40 (l0 :: some (.int x) :: L) (st) h = ev 82 41 (l0 :: some (.int x) :: L) (.int x :: st) h := G_iload_n f82_40 rfl
theorem f82_41 : fetch 82 41 = some (.ireturn, 1) := vtab tk82 25 rfl
theorem e82_41 (L : VL) (h : VG) (x : Int32) : ev 82 41 L [.int x] h = some (some (.int x), h) := G_iret f82_41 (ty := .int) (by decide) rfl
/-! 83 GuestCalls$Tokens.<init>()V -/
def tb83 : List (Nat × Instr × Nat) := [(0, .aload_n 0, 1), (1, .invokespecial 3, 3), (4, .aload_n 0, 1), (5, .sipush 401, 3), (8, .newarray .int, 2), (10, .putfield 9, 3), (13, .aload_n 0, 1), (14, .sipush 401, 3), (17, .newarray .int, 2), (19, .putfield 15, 3), (22, .aload_n 0, 1), (23, .sipush 401, 3), (26, .newarray .long, 2), (28, .putfield 18, 3), (31, .aload_n 0, 1), (32, .bipush 14, 2), (34, .newarray .long, 2), (36, .putfield 22, 3), (39, .iconst 0, 1), (40, .istore_n 1, 1), (41, .iconst 0, 1), (42, .istore_n 2, 1), (43, .iload_n 2, 1), (44, .ldc 25, 2), (46, .invokevirtual 27, 3), (49, .if_icmp .ge 53, 3), (52, .iload_n 1, 1), (53, .bipush 14, 2), (55, .if_icmp .ge 47, 3), (58, .ldc 25, 2), (60, .iload_n 2, 1), (61, .invokevirtual 33, 3), (64, .bipush 32, 2), (66, .if_icmp .ne 9, 3), (69, .iinc 1 1, 3), (72, .goto 24, 3), (75, .aload_n 0, 1), (76, .getfield 22, 3), (79, .iload_n 1, 1), (80, .aload_n 0, 1), (81, .getfield 22, 3), (84, .iload_n 1, 1), (85, .laload, 1), (86, .ldc 25, 2), (88, .iload_n 2, 1), (89, .invokevirtual 33, 3), (92, .invokestatic 37, 3), (95, .lastore, 1), (96, .iinc 2 1, 3), (99, .goto (-56), 3), (102, .return_, 1)]
theorem tk83 : tb83.all (fun q => decide (fetch 83 q.1 = some q.2)) = true := by decide +kernel
theorem f83_0 : fetch 83 0 = some (.aload_n 0, 1) := vtab tk83 0 rfl
theorem e83_0 (L : VL) (st : List Value) (h : VG) (x : Nat) : ev 83 0 (some (.ref x) :: L) (st) h = ev 83 1 (some (.ref x) :: L) (.ref x :: st) h := G_aload_n f83_0 rfl
theorem f83_1 : fetch 83 1 = some (.invokespecial 3, 3) := vtab tk83 1 rfl
theorem e83_1 (L : VL) (st : List Value) (h : VG) (a : Nat) (hs : catS st ≤ 8) : ev 83 1 L (.ref a :: st) h = ev 83 4 L (st) h := G_objinit (y := 0) (p := 120) f83_1 lkC_10_3 hs
theorem f83_4 : fetch 83 4 = some (.aload_n 0, 1) := vtab tk83 2 rfl
theorem e83_4 (L : VL) (st : List Value) (h : VG) (x : Nat) : ev 83 4 (some (.ref x) :: L) (st) h = ev 83 5 (some (.ref x) :: L) (.ref x :: st) h := G_aload_n f83_4 rfl
theorem f83_5 : fetch 83 5 = some (.sipush 401, 3) := vtab tk83 3 rfl
theorem e83_5 (L : VL) (st : List Value) (h : VG) : ev 83 5 L (st) h = ev 83 8 L (.int (401 : Int32) :: st) h := G_sipush f83_5 (by decide)
theorem f83_8 : fetch 83 8 = some (.newarray .int, 2) := vtab tk83 4 rfl
theorem e83_8 (L : VL) (st : List Value) (h : VG) (n : Int32) (hn : ¬ n < 0 ∧ n.toNatClampNeg ≤ 4096) : ev 83 8 L (.int n :: st) h = ev 83 10 L (.ref h.2.1 :: st) (hnew h (.inl (0, n.toNatClampNeg, .inl (fun _ => 0))) n.toNatClampNeg) := G_newa f83_8 rfl hn
theorem f83_10 : fetch 83 10 = some (.putfield 9, 3) := vtab tk83 5 rfl
theorem e83_10 (L : VL) (st : List Value) (h : VG) (a : Nat) (x : Nat) (ho : ob h a 9) : ev 83 10 L (.ref x :: .ref a :: st) h = ev 83 13 L (st) (pR h a 0 x) := G_putR (p := 173) f83_10 lkF_10_9 (by decide) (by decide) (by decide +kernel) ⟨rfl, rfl⟩ ho
theorem f83_13 : fetch 83 13 = some (.aload_n 0, 1) := vtab tk83 6 rfl
theorem e83_13 (L : VL) (st : List Value) (h : VG) (x : Nat) : ev 83 13 (some (.ref x) :: L) (st) h = ev 83 14 (some (.ref x) :: L) (.ref x :: st) h := G_aload_n f83_13 rfl
theorem f83_14 : fetch 83 14 = some (.sipush 401, 3) := vtab tk83 7 rfl
theorem e83_14 (L : VL) (st : List Value) (h : VG) : ev 83 14 L (st) h = ev 83 17 L (.int (401 : Int32) :: st) h := G_sipush f83_14 (by decide)
theorem f83_17 : fetch 83 17 = some (.newarray .int, 2) := vtab tk83 8 rfl
theorem e83_17 (L : VL) (st : List Value) (h : VG) (n : Int32) (hn : ¬ n < 0 ∧ n.toNatClampNeg ≤ 4096) : ev 83 17 L (.int n :: st) h = ev 83 19 L (.ref h.2.1 :: st) (hnew h (.inl (0, n.toNatClampNeg, .inl (fun _ => 0))) n.toNatClampNeg) := G_newa f83_17 rfl hn
theorem f83_19 : fetch 83 19 = some (.putfield 15, 3) := vtab tk83 9 rfl
theorem e83_19 (L : VL) (st : List Value) (h : VG) (a : Nat) (x : Nat) (ho : ob h a 9) : ev 83 19 L (.ref x :: .ref a :: st) h = ev 83 22 L (st) (pR h a 1 x) := G_putR (p := 175) f83_19 lkF_10_15 (by decide) (by decide) (by decide +kernel) ⟨rfl, rfl⟩ ho
theorem f83_22 : fetch 83 22 = some (.aload_n 0, 1) := vtab tk83 10 rfl
theorem e83_22 (L : VL) (st : List Value) (h : VG) (x : Nat) : ev 83 22 (some (.ref x) :: L) (st) h = ev 83 23 (some (.ref x) :: L) (.ref x :: st) h := G_aload_n f83_22 rfl
theorem f83_23 : fetch 83 23 = some (.sipush 401, 3) := vtab tk83 11 rfl
theorem e83_23 (L : VL) (st : List Value) (h : VG) : ev 83 23 L (st) h = ev 83 26 L (.int (401 : Int32) :: st) h := G_sipush f83_23 (by decide)
theorem f83_26 : fetch 83 26 = some (.newarray .long, 2) := vtab tk83 12 rfl
theorem e83_26 (L : VL) (st : List Value) (h : VG) (n : Int32) (hn : ¬ n < 0 ∧ n.toNatClampNeg ≤ 4096) : ev 83 26 L (.int n :: st) h = ev 83 28 L (.ref h.2.1 :: st) (hnew h (.inl (1, n.toNatClampNeg, .inr (.inl (fun _ => 0)))) n.toNatClampNeg) := G_newa f83_26 rfl hn
theorem f83_28 : fetch 83 28 = some (.putfield 18, 3) := vtab tk83 13 rfl
theorem e83_28 (L : VL) (st : List Value) (h : VG) (a : Nat) (x : Nat) (ho : ob h a 9) : ev 83 28 L (.ref x :: .ref a :: st) h = ev 83 31 L (st) (pR h a 2 x) := G_putR (p := 177) f83_28 lkF_10_18 (by decide) (by decide) (by decide +kernel) ⟨rfl, rfl⟩ ho
theorem f83_31 : fetch 83 31 = some (.aload_n 0, 1) := vtab tk83 14 rfl
theorem e83_31 (L : VL) (st : List Value) (h : VG) (x : Nat) : ev 83 31 (some (.ref x) :: L) (st) h = ev 83 32 (some (.ref x) :: L) (.ref x :: st) h := G_aload_n f83_31 rfl
theorem f83_32 : fetch 83 32 = some (.bipush 14, 2) := vtab tk83 15 rfl
theorem e83_32 (L : VL) (st : List Value) (h : VG) : ev 83 32 L (st) h = ev 83 34 L (.int (14 : Int32) :: st) h := G_bipush f83_32 (by decide)
theorem f83_34 : fetch 83 34 = some (.newarray .long, 2) := vtab tk83 16 rfl
theorem e83_34 (L : VL) (st : List Value) (h : VG) (n : Int32) (hn : ¬ n < 0 ∧ n.toNatClampNeg ≤ 4096) : ev 83 34 L (.int n :: st) h = ev 83 36 L (.ref h.2.1 :: st) (hnew h (.inl (1, n.toNatClampNeg, .inr (.inl (fun _ => 0)))) n.toNatClampNeg) := G_newa f83_34 rfl hn
theorem f83_36 : fetch 83 36 = some (.putfield 22, 3) := vtab tk83 17 rfl
theorem e83_36 (L : VL) (st : List Value) (h : VG) (a : Nat) (x : Nat) (ho : ob h a 9) : ev 83 36 L (.ref x :: .ref a :: st) h = ev 83 39 L (st) (pR h a 3 x) := G_putR (p := 179) f83_36 lkF_10_22 (by decide) (by decide) (by decide +kernel) ⟨rfl, rfl⟩ ho
theorem f83_39 : fetch 83 39 = some (.iconst 0, 1) := vtab tk83 18 rfl
theorem e83_39 (L : VL) (st : List Value) (h : VG) : ev 83 39 L (st) h = ev 83 40 L (.int (0 : Int32) :: st) h := G_iconst f83_39 (by decide)
theorem f83_40 : fetch 83 40 = some (.istore_n 1, 1) := vtab tk83 19 rfl
theorem e83_40 (l0 l1 : Option Value) (L : VL) (st : List Value) (h : VG) (x : Int32) : ev 83 40 (l0 :: l1 :: L) (.int x :: st) h = ev 83 41 (vkk l0 :: some (.int x) :: L) (st) h := G_istore_n f83_40 rfl (S1_1 l0 l1 L _)
theorem f83_41 : fetch 83 41 = some (.iconst 0, 1) := vtab tk83 20 rfl
theorem e83_41 (L : VL) (st : List Value) (h : VG) : ev 83 41 L (st) h = ev 83 42 L (.int (0 : Int32) :: st) h := G_iconst f83_41 (by decide)
theorem f83_42 : fetch 83 42 = some (.istore_n 2, 1) := vtab tk83 21 rfl
theorem e83_42 (l0 l1 l2 : Option Value) (L : VL) (st : List Value) (h : VG) (x : Int32) : ev 83 42 (l0 :: l1 :: l2 :: L) (.int x :: st) h = ev 83 43 (l0 :: vkk l1 :: some (.int x) :: L) (st) h := G_istore_n f83_42 rfl (S1_2 l0 l1 l2 L _)
theorem f83_43 : fetch 83 43 = some (.iload_n 2, 1) := vtab tk83 22 rfl
theorem e83_43 (l0 l1 : Option Value) (L : VL) (st : List Value) (h : VG) (x : Int32) : ev 83 43 (l0 :: l1 :: some (.int x) :: L) (st) h = ev 83 44 (l0 :: l1 :: some (.int x) :: L) (.int x :: st) h := G_iload_n f83_43 rfl
theorem f83_44 : fetch 83 44 = some (.ldc 25, 2) := vtab tk83 23 rfl
theorem e83_44 (L : VL) (st : List Value) (h : VG) : ev 83 44 L (st) h = ev 83 46 L (h.2.2.2 4 :: st) h := G_ldcs f83_44 (by decide)
theorem f83_46 : fetch 83 46 = some (.invokevirtual 27, 3) := vtab tk83 24 rfl
theorem e83_46 (L : VL) (st : List Value) (h : VG) (b : Nat)  (hb : vcls h b 12 = true) (hs : catS st ≤ 8) : ev 83 46 L (.ref b :: st) h = (ev 240 0 [some (.ref b)] [] h).bind fun q => ev 83 49 L (q.1.toList ++ st) q.2 := G_callv (k := 1) (p := 122) (ars := []) f83_46 lkC_10_27 (by decide) (by decide +kernel) rfl hb (Nat.le_of_ble_eq_true rfl) hs rfl
theorem f83_49 : fetch 83 49 = some (.if_icmp .ge 53, 3) := vtab tk83 25 rfl
theorem e83_49 (L : VL) (st : List Value) (h : VG) (x y : Int32) : ev 83 49 L (.int y :: .int x :: st) h = if x < y then ev 83 52 L st h else ev 83 102 L st h := G_icmp_ge f83_49 (by decide)
theorem f83_52 : fetch 83 52 = some (.iload_n 1, 1) := vtab tk83 26 rfl
theorem e83_52 (l0 : Option Value) (L : VL) (st : List Value) (h : VG) (x : Int32) : ev 83 52 (l0 :: some (.int x) :: L) (st) h = ev 83 53 (l0 :: some (.int x) :: L) (.int x :: st) h := G_iload_n f83_52 rfl
theorem f83_53 : fetch 83 53 = some (.bipush 14, 2) := vtab tk83 27 rfl
theorem e83_53 (L : VL) (st : List Value) (h : VG) : ev 83 53 L (st) h = ev 83 55 L (.int (14 : Int32) :: st) h := G_bipush f83_53 (by decide)
theorem f83_55 : fetch 83 55 = some (.if_icmp .ge 47, 3) := vtab tk83 28 rfl
theorem e83_55 (L : VL) (st : List Value) (h : VG) (x y : Int32) : ev 83 55 L (.int y :: .int x :: st) h = if x < y then ev 83 58 L st h else ev 83 102 L st h := G_icmp_ge f83_55 (by decide)
theorem f83_58 : fetch 83 58 = some (.ldc 25, 2) := vtab tk83 29 rfl
theorem e83_58 (L : VL) (st : List Value) (h : VG) : ev 83 58 L (st) h = ev 83 60 L (h.2.2.2 4 :: st) h := G_ldcs f83_58 (by decide)
theorem f83_60 : fetch 83 60 = some (.iload_n 2, 1) := vtab tk83 30 rfl
theorem e83_60 (l0 l1 : Option Value) (L : VL) (st : List Value) (h : VG) (x : Int32) : ev 83 60 (l0 :: l1 :: some (.int x) :: L) (st) h = ev 83 61 (l0 :: l1 :: some (.int x) :: L) (.int x :: st) h := G_iload_n f83_60 rfl
theorem f83_61 : fetch 83 61 = some (.invokevirtual 33, 3) := vtab tk83 31 rfl
theorem e83_61 (L : VL) (st : List Value) (h : VG) (b : Nat) (x0 : Int32) (hb : vcls h b 12 = true) (hs : catS st ≤ 8) : ev 83 61 L (.int x0 :: .ref b :: st) h = (ev 241 0 [some (.ref b), some (.int x0)] [] h).bind fun q => ev 83 64 L (q.1.toList ++ st) q.2 := G_callv (k := 1) (p := 132) (ars := [.int x0]) f83_61 lkC_10_33 (by decide) (by decide +kernel) rfl hb (Nat.le_of_ble_eq_true rfl) hs rfl
theorem f83_64 : fetch 83 64 = some (.bipush 32, 2) := vtab tk83 32 rfl
theorem e83_64 (L : VL) (st : List Value) (h : VG) : ev 83 64 L (st) h = ev 83 66 L (.int (32 : Int32) :: st) h := G_bipush f83_64 (by decide)
theorem f83_66 : fetch 83 66 = some (.if_icmp .ne 9, 3) := vtab tk83 33 rfl
theorem e83_66 (L : VL) (st : List Value) (h : VG) (x y : Int32) : ev 83 66 L (.int y :: .int x :: st) h = if x = y then ev 83 69 L st h else ev 83 75 L st h := G_icmp_ne f83_66 (by decide)
theorem f83_69 : fetch 83 69 = some (.iinc 1 1, 3) := vtab tk83 34 rfl
theorem e83_69 (l0 : Option Value) (L : VL) (st : List Value) (h : VG) (x : Int32) : ev 83 69 (l0 :: some (.int x) :: L) (st) h = ev 83 72 (vkk l0 :: some (.int (x + (1 : Int32))) :: L) (st) h := G_iinc f83_69 rfl (by decide) (S1_1 l0 (some (.int x)) L _)
theorem f83_72 : fetch 83 72 = some (.goto 24, 3) := vtab tk83 35 rfl
theorem e83_72 (L : VL) (st : List Value) (h : VG) : ev 83 72 L (st) h = ev 83 96 L (st) h := G_goto f83_72 (by decide)
theorem f83_75 : fetch 83 75 = some (.aload_n 0, 1) := vtab tk83 36 rfl
theorem e83_75 (L : VL) (st : List Value) (h : VG) (x : Nat) : ev 83 75 (some (.ref x) :: L) (st) h = ev 83 76 (some (.ref x) :: L) (.ref x :: st) h := G_aload_n f83_75 rfl
theorem f83_76 : fetch 83 76 = some (.getfield 22, 3) := vtab tk83 37 rfl
theorem e83_76 (L : VL) (st : List Value) (h : VG) (a : Nat) (ho : ob h a 9) (hr : isR h a 3) : ev 83 76 L (.ref a :: st) h = ev 83 79 L (.ref (gR h a 3) :: st) h := G_getR (p := 179) f83_76 lkF_10_22 (by decide) (by decide) ho hr
theorem f83_79 : fetch 83 79 = some (.iload_n 1, 1) := vtab tk83 38 rfl
theorem e83_79 (l0 : Option Value) (L : VL) (st : List Value) (h : VG) (x : Int32) : ev 83 79 (l0 :: some (.int x) :: L) (st) h = ev 83 80 (l0 :: some (.int x) :: L) (.int x :: st) h := G_iload_n f83_79 rfl
theorem f83_80 : fetch 83 80 = some (.aload_n 0, 1) := vtab tk83 39 rfl
theorem e83_80 (L : VL) (st : List Value) (h : VG) (x : Nat) : ev 83 80 (some (.ref x) :: L) (st) h = ev 83 81 (some (.ref x) :: L) (.ref x :: st) h := G_aload_n f83_80 rfl
theorem f83_81 : fetch 83 81 = some (.getfield 22, 3) := vtab tk83 40 rfl
theorem e83_81 (L : VL) (st : List Value) (h : VG) (a : Nat) (ho : ob h a 9) (hr : isR h a 3) : ev 83 81 L (.ref a :: st) h = ev 83 84 L (.ref (gR h a 3) :: st) h := G_getR (p := 179) f83_81 lkF_10_22 (by decide) (by decide) ho hr
theorem f83_84 : fetch 83 84 = some (.iload_n 1, 1) := vtab tk83 41 rfl
theorem e83_84 (l0 : Option Value) (L : VL) (st : List Value) (h : VG) (x : Int32) : ev 83 84 (l0 :: some (.int x) :: L) (st) h = ev 83 85 (l0 :: some (.int x) :: L) (.int x :: st) h := G_iload_n f83_84 rfl
theorem f83_85 : fetch 83 85 = some (.laload, 1) := vtab tk83 42 rfl
theorem e83_85 (L : VL) (st : List Value) (h : VG) (a : Nat) (i : Int32) (ha : arL h a) (hi : vp_in i (aln h a)) : ev 83 85 L (.int i :: .ref a :: st) h = ev 83 86 L (.long (aL h a i.toNatClampNeg) :: st) h := G_lald f83_85 ha hi
theorem f83_86 : fetch 83 86 = some (.ldc 25, 2) := vtab tk83 43 rfl
theorem e83_86 (L : VL) (st : List Value) (h : VG) : ev 83 86 L (st) h = ev 83 88 L (h.2.2.2 4 :: st) h := G_ldcs f83_86 (by decide)
theorem f83_88 : fetch 83 88 = some (.iload_n 2, 1) := vtab tk83 44 rfl
theorem e83_88 (l0 l1 : Option Value) (L : VL) (st : List Value) (h : VG) (x : Int32) : ev 83 88 (l0 :: l1 :: some (.int x) :: L) (st) h = ev 83 89 (l0 :: l1 :: some (.int x) :: L) (.int x :: st) h := G_iload_n f83_88 rfl
theorem f83_89 : fetch 83 89 = some (.invokevirtual 33, 3) := vtab tk83 45 rfl
theorem e83_89 (L : VL) (st : List Value) (h : VG) (b : Nat) (x0 : Int32) (hb : vcls h b 12 = true) (hs : catS st ≤ 8) : ev 83 89 L (.int x0 :: .ref b :: st) h = (ev 241 0 [some (.ref b), some (.int x0)] [] h).bind fun q => ev 83 92 L (q.1.toList ++ st) q.2 := G_callv (k := 1) (p := 132) (ars := [.int x0]) f83_89 lkC_10_33 (by decide) (by decide +kernel) rfl hb (Nat.le_of_ble_eq_true rfl) hs rfl
theorem f83_92 : fetch 83 92 = some (.invokestatic 37, 3) := vtab tk83 46 rfl
theorem e83_92 (L : VL) (st : List Value) (h : VG) (x0 : Int64) (x1 : Int32) (hs : catS st ≤ 8) : ev 83 92 L (.int x1 :: .long x0 :: st) h = (ev 84 0 [some (.long x0), none, some (.int x1)] [] h).bind fun q => ev 83 95 L (q.1.toList ++ st) q.2 := G_calls (k := 0) (p := 170) (ars := [.long x0, .int x1]) f83_92 lkC_10_37 (by decide) (by decide +kernel) rfl (Nat.le_of_ble_eq_true rfl) hs rfl
theorem f83_95 : fetch 83 95 = some (.lastore, 1) := vtab tk83 47 rfl
theorem e83_95 (L : VL) (st : List Value) (h : VG) (a : Nat) (i : Int32) (x : Int64) (ha : arL h a) (hi : vp_in i (aln h a)) : ev 83 95 L (.long x :: .int i :: .ref a :: st) h = ev 83 96 L (st) (wL h a i.toNatClampNeg x) := G_last f83_95 ha hi
theorem f83_96 : fetch 83 96 = some (.iinc 2 1, 3) := vtab tk83 48 rfl
theorem e83_96 (l0 l1 : Option Value) (L : VL) (st : List Value) (h : VG) (x : Int32) : ev 83 96 (l0 :: l1 :: some (.int x) :: L) (st) h = ev 83 99 (l0 :: vkk l1 :: some (.int (x + (1 : Int32))) :: L) (st) h := G_iinc f83_96 rfl (by decide) (S1_2 l0 l1 (some (.int x)) L _)
theorem f83_99 : fetch 83 99 = some (.goto (-56), 3) := vtab tk83 49 rfl
theorem e83_99 (L : VL) (st : List Value) (h : VG) : ev 83 99 L (st) h = ev 83 43 L (st) h := G_goto f83_99 (by decide)
theorem f83_102 : fetch 83 102 = some (.return_, 1) := vtab tk83 50 rfl
theorem e83_102 (L : VL) (h : VG) : ev 83 102 L [] h = some (none, h) := G_vret f83_102 (by decide)
/-! 84 GuestCalls$Tokens.spelled(JI)J -/
def tb84 : List (Nat × Instr × Nat) := [(0, .lload_n 0, 1), (1, .iconst 5, 1), (2, .lshl, 1), (3, .iload_n 2, 1), (4, .bipush 97, 2), (6, .isub, 1), (7, .iconst 1, 1), (8, .iadd, 1), (9, .i2l, 1), (10, .lor, 1), (11, .lreturn, 1)]
theorem tk84 : tb84.all (fun q => decide (fetch 84 q.1 = some q.2)) = true := by decide +kernel
theorem f84_0 : fetch 84 0 = some (.lload_n 0, 1) := vtab tk84 0 rfl
theorem e84_0 (L : VL) (st : List Value) (h : VG) (x : Int64) : ev 84 0 (some (.long x) :: L) (st) h = ev 84 1 (some (.long x) :: L) (.long x :: st) h := G_lload_n f84_0 rfl
theorem f84_1 : fetch 84 1 = some (.iconst 5, 1) := vtab tk84 1 rfl
theorem e84_1 (L : VL) (st : List Value) (h : VG) : ev 84 1 L (st) h = ev 84 2 L (.int (5 : Int32) :: st) h := G_iconst f84_1 (by decide)
theorem f84_2 : fetch 84 2 = some (.lshl, 1) := vtab tk84 2 rfl
theorem e84_2 (L : VL) (st : List Value) (h : VG) (x : Int64) (y : Int32) : ev 84 2 L (.int y :: .long x :: st) h = ev 84 3 L (.long (x <<< (y.toInt64 &&& 63)) :: st) h := G_lshl f84_2
theorem f84_3 : fetch 84 3 = some (.iload_n 2, 1) := vtab tk84 3 rfl
theorem e84_3 (l0 l1 : Option Value) (L : VL) (st : List Value) (h : VG) (x : Int32) : ev 84 3 (l0 :: l1 :: some (.int x) :: L) (st) h = ev 84 4 (l0 :: l1 :: some (.int x) :: L) (.int x :: st) h := G_iload_n f84_3 rfl
theorem f84_4 : fetch 84 4 = some (.bipush 97, 2) := vtab tk84 4 rfl
theorem e84_4 (L : VL) (st : List Value) (h : VG) : ev 84 4 L (st) h = ev 84 6 L (.int (97 : Int32) :: st) h := G_bipush f84_4 (by decide)
theorem f84_6 : fetch 84 6 = some (.isub, 1) := vtab tk84 5 rfl
theorem e84_6 (L : VL) (st : List Value) (h : VG) (x y : Int32) : ev 84 6 L (.int y :: .int x :: st) h = ev 84 7 L (.int (x - y) :: st) h := G_isub f84_6
theorem f84_7 : fetch 84 7 = some (.iconst 1, 1) := vtab tk84 6 rfl
theorem e84_7 (L : VL) (st : List Value) (h : VG) : ev 84 7 L (st) h = ev 84 8 L (.int (1 : Int32) :: st) h := G_iconst f84_7 (by decide)
theorem f84_8 : fetch 84 8 = some (.iadd, 1) := vtab tk84 7 rfl
theorem e84_8 (L : VL) (st : List Value) (h : VG) (x y : Int32) : ev 84 8 L (.int y :: .int x :: st) h = ev 84 9 L (.int (x + y) :: st) h := G_iadd f84_8
theorem f84_9 : fetch 84 9 = some (.i2l, 1) := vtab tk84 8 rfl
theorem e84_9 (L : VL) (st : List Value) (h : VG) (x : Int32) : ev 84 9 L (.int x :: st) h = ev 84 10 L (.long x.toInt64 :: st) h := G_i2l f84_9
theorem f84_10 : fetch 84 10 = some (.lor, 1) := vtab tk84 9 rfl
theorem e84_10 (L : VL) (st : List Value) (h : VG) (x y : Int64) : ev 84 10 L (.long y :: .long x :: st) h = ev 84 11 L (.long (x ||| y) :: st) h := G_lor f84_10
theorem f84_11 : fetch 84 11 = some (.lreturn, 1) := vtab tk84 10 rfl
theorem e84_11 (L : VL) (h : VG) (x : Int64) : ev 84 11 L [.long x] h = some (some (.long x), h) := G_lret f84_11 (by decide)
/-! 85 GuestCalls$Tokens.scan([BI)V -/
def tb85 : List (Nat × Instr × Nat) := [(0, .iconst 0, 1), (1, .istore_n 3, 1), (2, .iconst 0, 1), (3, .istore 4, 2), (5, .iload 4, 2), (7, .sipush 400, 3), (10, .if_icmp .gt 69, 3), (13, .iload_n 3, 1), (14, .iload_n 2, 1), (15, .if_icmp .ge 18, 3), (18, .aload_n 1, 1), (19, .iload_n 3, 1), (20, .baload, 1), (21, .invokestatic 41, 3), (24, .ifCond .eq 9, 3), (27, .iinc 3 1, 3), (30, .goto (-17), 3), (33, .aload_n 0, 1), (34, .getfield 15, 3), (37, .iload 4, 2), (39, .iload_n 3, 1), (40, .iastore, 1), (41, .aload_n 0, 1), (42, .aload_n 1, 1), (43, .iload_n 2, 1), (44, .iload_n 3, 1), (45, .iload 4, 2), (47, .invokevirtual 45, 3), (50, .istore_n 3, 1), (51, .aload_n 0, 1), (52, .getfield 9, 3), (55, .iload 4, 2), (57, .iaload, 1), (58, .ifCond .eq 14, 3), (61, .aload_n 0, 1), (62, .getfield 9, 3), (65, .iload 4, 2), (67, .iaload, 1), (68, .iconst 1, 1), (69, .if_icmp .ne 4, 3), (72, .return_, 1), (73, .iinc 4 1, 3), (76, .goto (-71), 3), (79, .return_, 1)]
theorem tk85 : tb85.all (fun q => decide (fetch 85 q.1 = some q.2)) = true := by decide +kernel
theorem f85_0 : fetch 85 0 = some (.iconst 0, 1) := vtab tk85 0 rfl
theorem e85_0 (L : VL) (st : List Value) (h : VG) : ev 85 0 L (st) h = ev 85 1 L (.int (0 : Int32) :: st) h := G_iconst f85_0 (by decide)
theorem f85_1 : fetch 85 1 = some (.istore_n 3, 1) := vtab tk85 1 rfl
theorem e85_1 (l0 l1 l2 l3 : Option Value) (L : VL) (st : List Value) (h : VG) (x : Int32) : ev 85 1 (l0 :: l1 :: l2 :: l3 :: L) (.int x :: st) h = ev 85 2 (l0 :: l1 :: vkk l2 :: some (.int x) :: L) (st) h := G_istore_n f85_1 rfl (S1_3 l0 l1 l2 l3 L _)
theorem f85_2 : fetch 85 2 = some (.iconst 0, 1) := vtab tk85 2 rfl
theorem e85_2 (L : VL) (st : List Value) (h : VG) : ev 85 2 L (st) h = ev 85 3 L (.int (0 : Int32) :: st) h := G_iconst f85_2 (by decide)
theorem f85_3 : fetch 85 3 = some (.istore 4, 2) := vtab tk85 3 rfl
theorem e85_3 (l0 l1 l2 l3 l4 : Option Value) (L : VL) (st : List Value) (h : VG) (x : Int32) : ev 85 3 (l0 :: l1 :: l2 :: l3 :: l4 :: L) (.int x :: st) h = ev 85 5 (l0 :: l1 :: l2 :: vkk l3 :: some (.int x) :: L) (st) h := G_istore f85_3 rfl (S1_4 l0 l1 l2 l3 l4 L _)
theorem f85_5 : fetch 85 5 = some (.iload 4, 2) := vtab tk85 4 rfl
theorem e85_5 (l0 l1 l2 l3 : Option Value) (L : VL) (st : List Value) (h : VG) (x : Int32) : ev 85 5 (l0 :: l1 :: l2 :: l3 :: some (.int x) :: L) (st) h = ev 85 7 (l0 :: l1 :: l2 :: l3 :: some (.int x) :: L) (.int x :: st) h := G_iload f85_5 rfl
theorem f85_7 : fetch 85 7 = some (.sipush 400, 3) := vtab tk85 5 rfl
theorem e85_7 (L : VL) (st : List Value) (h : VG) : ev 85 7 L (st) h = ev 85 10 L (.int (400 : Int32) :: st) h := G_sipush f85_7 (by decide)
theorem f85_10 : fetch 85 10 = some (.if_icmp .gt 69, 3) := vtab tk85 6 rfl
theorem e85_10 (L : VL) (st : List Value) (h : VG) (x y : Int32) : ev 85 10 L (.int y :: .int x :: st) h = if x ≤ y then ev 85 13 L st h else ev 85 79 L st h := G_icmp_gt f85_10 (by decide)
theorem f85_13 : fetch 85 13 = some (.iload_n 3, 1) := vtab tk85 7 rfl
theorem e85_13 (l0 l1 l2 : Option Value) (L : VL) (st : List Value) (h : VG) (x : Int32) : ev 85 13 (l0 :: l1 :: l2 :: some (.int x) :: L) (st) h = ev 85 14 (l0 :: l1 :: l2 :: some (.int x) :: L) (.int x :: st) h := G_iload_n f85_13 rfl
theorem f85_14 : fetch 85 14 = some (.iload_n 2, 1) := vtab tk85 8 rfl
theorem e85_14 (l0 l1 : Option Value) (L : VL) (st : List Value) (h : VG) (x : Int32) : ev 85 14 (l0 :: l1 :: some (.int x) :: L) (st) h = ev 85 15 (l0 :: l1 :: some (.int x) :: L) (.int x :: st) h := G_iload_n f85_14 rfl
theorem f85_15 : fetch 85 15 = some (.if_icmp .ge 18, 3) := vtab tk85 9 rfl
theorem e85_15 (L : VL) (st : List Value) (h : VG) (x y : Int32) : ev 85 15 L (.int y :: .int x :: st) h = if x < y then ev 85 18 L st h else ev 85 33 L st h := G_icmp_ge f85_15 (by decide)
theorem f85_18 : fetch 85 18 = some (.aload_n 1, 1) := vtab tk85 10 rfl
theorem e85_18 (l0 : Option Value) (L : VL) (st : List Value) (h : VG) (x : Nat) : ev 85 18 (l0 :: some (.ref x) :: L) (st) h = ev 85 19 (l0 :: some (.ref x) :: L) (.ref x :: st) h := G_aload_n f85_18 rfl
theorem f85_19 : fetch 85 19 = some (.iload_n 3, 1) := vtab tk85 11 rfl
theorem e85_19 (l0 l1 l2 : Option Value) (L : VL) (st : List Value) (h : VG) (x : Int32) : ev 85 19 (l0 :: l1 :: l2 :: some (.int x) :: L) (st) h = ev 85 20 (l0 :: l1 :: l2 :: some (.int x) :: L) (.int x :: st) h := G_iload_n f85_19 rfl
theorem f85_20 : fetch 85 20 = some (.baload, 1) := vtab tk85 12 rfl
theorem e85_20 (L : VL) (st : List Value) (h : VG) (a : Nat) (i : Int32) (ha : rdB h a) (hi : vp_in i (aln h a)) : ev 85 20 L (.int i :: .ref a :: st) h = ev 85 21 L (.int (aI h a i.toNatClampNeg) :: st) h := G_bald' f85_20 ha hi
theorem f85_21 : fetch 85 21 = some (.invokestatic 41, 3) := vtab tk85 13 rfl
theorem e85_21 (L : VL) (st : List Value) (h : VG) (x0 : Int32) (hs : catS st ≤ 8) : ev 85 21 L (.int x0 :: st) h = (ev 89 0 [some (.int x0)] [] h).bind fun q => ev 85 24 L (q.1.toList ++ st) q.2 := G_calls (k := 0) (p := 496) (ars := [.int x0]) f85_21 lkC_10_41 (by decide) (by decide +kernel) rfl (Nat.le_of_ble_eq_true rfl) hs rfl
theorem f85_24 : fetch 85 24 = some (.ifCond .eq 9, 3) := vtab tk85 14 rfl
theorem e85_24 (L : VL) (st : List Value) (h : VG) (x : Int32) : ev 85 24 L (.int x :: st) h = if x = 0 then ev 85 33 L st h else ev 85 27 L st h := G_if_eq f85_24 (by decide)
theorem f85_27 : fetch 85 27 = some (.iinc 3 1, 3) := vtab tk85 15 rfl
theorem e85_27 (l0 l1 l2 : Option Value) (L : VL) (st : List Value) (h : VG) (x : Int32) : ev 85 27 (l0 :: l1 :: l2 :: some (.int x) :: L) (st) h = ev 85 30 (l0 :: l1 :: vkk l2 :: some (.int (x + (1 : Int32))) :: L) (st) h := G_iinc f85_27 rfl (by decide) (S1_3 l0 l1 l2 (some (.int x)) L _)
theorem f85_30 : fetch 85 30 = some (.goto (-17), 3) := vtab tk85 16 rfl
theorem e85_30 (L : VL) (st : List Value) (h : VG) : ev 85 30 L (st) h = ev 85 13 L (st) h := G_goto f85_30 (by decide)
theorem f85_33 : fetch 85 33 = some (.aload_n 0, 1) := vtab tk85 17 rfl
theorem e85_33 (L : VL) (st : List Value) (h : VG) (x : Nat) : ev 85 33 (some (.ref x) :: L) (st) h = ev 85 34 (some (.ref x) :: L) (.ref x :: st) h := G_aload_n f85_33 rfl
theorem f85_34 : fetch 85 34 = some (.getfield 15, 3) := vtab tk85 18 rfl
theorem e85_34 (L : VL) (st : List Value) (h : VG) (a : Nat) (ho : ob h a 9) (hr : isR h a 1) : ev 85 34 L (.ref a :: st) h = ev 85 37 L (.ref (gR h a 1) :: st) h := G_getR (p := 175) f85_34 lkF_10_15 (by decide) (by decide) ho hr
theorem f85_37 : fetch 85 37 = some (.iload 4, 2) := vtab tk85 19 rfl
theorem e85_37 (l0 l1 l2 l3 : Option Value) (L : VL) (st : List Value) (h : VG) (x : Int32) : ev 85 37 (l0 :: l1 :: l2 :: l3 :: some (.int x) :: L) (st) h = ev 85 39 (l0 :: l1 :: l2 :: l3 :: some (.int x) :: L) (.int x :: st) h := G_iload f85_37 rfl
theorem f85_39 : fetch 85 39 = some (.iload_n 3, 1) := vtab tk85 20 rfl
theorem e85_39 (l0 l1 l2 : Option Value) (L : VL) (st : List Value) (h : VG) (x : Int32) : ev 85 39 (l0 :: l1 :: l2 :: some (.int x) :: L) (st) h = ev 85 40 (l0 :: l1 :: l2 :: some (.int x) :: L) (.int x :: st) h := G_iload_n f85_39 rfl
theorem f85_40 : fetch 85 40 = some (.iastore, 1) := vtab tk85 21 rfl
theorem e85_40 (L : VL) (st : List Value) (h : VG) (a : Nat) (i : Int32) (x : Int32) (ha : arI h a 0) (hi : vp_in i (aln h a)) : ev 85 40 L (.int x :: .int i :: .ref a :: st) h = ev 85 41 L (st) (wI h a i.toNatClampNeg x) := G_iast f85_40 ha hi
theorem f85_41 : fetch 85 41 = some (.aload_n 0, 1) := vtab tk85 22 rfl
theorem e85_41 (L : VL) (st : List Value) (h : VG) (x : Nat) : ev 85 41 (some (.ref x) :: L) (st) h = ev 85 42 (some (.ref x) :: L) (.ref x :: st) h := G_aload_n f85_41 rfl
theorem f85_42 : fetch 85 42 = some (.aload_n 1, 1) := vtab tk85 23 rfl
theorem e85_42 (l0 : Option Value) (L : VL) (st : List Value) (h : VG) (x : Nat) : ev 85 42 (l0 :: some (.ref x) :: L) (st) h = ev 85 43 (l0 :: some (.ref x) :: L) (.ref x :: st) h := G_aload_n f85_42 rfl
theorem f85_43 : fetch 85 43 = some (.iload_n 2, 1) := vtab tk85 24 rfl
theorem e85_43 (l0 l1 : Option Value) (L : VL) (st : List Value) (h : VG) (x : Int32) : ev 85 43 (l0 :: l1 :: some (.int x) :: L) (st) h = ev 85 44 (l0 :: l1 :: some (.int x) :: L) (.int x :: st) h := G_iload_n f85_43 rfl
theorem f85_44 : fetch 85 44 = some (.iload_n 3, 1) := vtab tk85 25 rfl
theorem e85_44 (l0 l1 l2 : Option Value) (L : VL) (st : List Value) (h : VG) (x : Int32) : ev 85 44 (l0 :: l1 :: l2 :: some (.int x) :: L) (st) h = ev 85 45 (l0 :: l1 :: l2 :: some (.int x) :: L) (.int x :: st) h := G_iload_n f85_44 rfl
theorem f85_45 : fetch 85 45 = some (.iload 4, 2) := vtab tk85 26 rfl
theorem e85_45 (l0 l1 l2 l3 : Option Value) (L : VL) (st : List Value) (h : VG) (x : Int32) : ev 85 45 (l0 :: l1 :: l2 :: l3 :: some (.int x) :: L) (st) h = ev 85 47 (l0 :: l1 :: l2 :: l3 :: some (.int x) :: L) (.int x :: st) h := G_iload f85_45 rfl
theorem f85_47 : fetch 85 47 = some (.invokevirtual 45, 3) := vtab tk85 27 rfl
theorem e85_47 (L : VL) (st : List Value) (h : VG) (b : Nat) (x0 : Nat) (x1 : Int32) (x2 : Int32) (x3 : Int32) (ho : ob h b 9) (hs : catS st ≤ 8) : ev 85 47 L (.int x3 :: .int x2 :: .int x1 :: .ref x0 :: .ref b :: st) h = (ev 86 0 [some (.ref b), some (.ref x0), some (.int x1), some (.int x2), some (.int x3)] [] h).bind fun q => ev 85 50 L (q.1.toList ++ st) q.2 := G_callv (k := 1) (p := 499) (ars := [.ref x0, .int x1, .int x2, .int x3]) f85_47 lkC_10_45 (by decide) (by decide +kernel) rfl (vcls_ob (ci := 9) (by decide) ho) (Nat.le_of_ble_eq_true rfl) hs rfl
theorem f85_50 : fetch 85 50 = some (.istore_n 3, 1) := vtab tk85 28 rfl
theorem e85_50 (l0 l1 l2 l3 : Option Value) (L : VL) (st : List Value) (h : VG) (x : Int32) : ev 85 50 (l0 :: l1 :: l2 :: l3 :: L) (.int x :: st) h = ev 85 51 (l0 :: l1 :: vkk l2 :: some (.int x) :: L) (st) h := G_istore_n f85_50 rfl (S1_3 l0 l1 l2 l3 L _)
theorem f85_51 : fetch 85 51 = some (.aload_n 0, 1) := vtab tk85 29 rfl
theorem e85_51 (L : VL) (st : List Value) (h : VG) (x : Nat) : ev 85 51 (some (.ref x) :: L) (st) h = ev 85 52 (some (.ref x) :: L) (.ref x :: st) h := G_aload_n f85_51 rfl
theorem f85_52 : fetch 85 52 = some (.getfield 9, 3) := vtab tk85 30 rfl
theorem e85_52 (L : VL) (st : List Value) (h : VG) (a : Nat) (ho : ob h a 9) (hr : isR h a 0) : ev 85 52 L (.ref a :: st) h = ev 85 55 L (.ref (gR h a 0) :: st) h := G_getR (p := 173) f85_52 lkF_10_9 (by decide) (by decide) ho hr
theorem f85_55 : fetch 85 55 = some (.iload 4, 2) := vtab tk85 31 rfl
theorem e85_55 (l0 l1 l2 l3 : Option Value) (L : VL) (st : List Value) (h : VG) (x : Int32) : ev 85 55 (l0 :: l1 :: l2 :: l3 :: some (.int x) :: L) (st) h = ev 85 57 (l0 :: l1 :: l2 :: l3 :: some (.int x) :: L) (.int x :: st) h := G_iload f85_55 rfl
theorem f85_57 : fetch 85 57 = some (.iaload, 1) := vtab tk85 32 rfl
theorem e85_57 (L : VL) (st : List Value) (h : VG) (a : Nat) (i : Int32) (ha : rdI h a) (hi : vp_in i (aln h a)) : ev 85 57 L (.int i :: .ref a :: st) h = ev 85 58 L (.int (aI h a i.toNatClampNeg) :: st) h := G_iald' f85_57 ha hi
theorem f85_58 : fetch 85 58 = some (.ifCond .eq 14, 3) := vtab tk85 33 rfl
theorem e85_58 (L : VL) (st : List Value) (h : VG) (x : Int32) : ev 85 58 L (.int x :: st) h = if x = 0 then ev 85 72 L st h else ev 85 61 L st h := G_if_eq f85_58 (by decide)
theorem f85_61 : fetch 85 61 = some (.aload_n 0, 1) := vtab tk85 34 rfl
theorem e85_61 (L : VL) (st : List Value) (h : VG) (x : Nat) : ev 85 61 (some (.ref x) :: L) (st) h = ev 85 62 (some (.ref x) :: L) (.ref x :: st) h := G_aload_n f85_61 rfl
theorem f85_62 : fetch 85 62 = some (.getfield 9, 3) := vtab tk85 35 rfl
theorem e85_62 (L : VL) (st : List Value) (h : VG) (a : Nat) (ho : ob h a 9) (hr : isR h a 0) : ev 85 62 L (.ref a :: st) h = ev 85 65 L (.ref (gR h a 0) :: st) h := G_getR (p := 173) f85_62 lkF_10_9 (by decide) (by decide) ho hr
theorem f85_65 : fetch 85 65 = some (.iload 4, 2) := vtab tk85 36 rfl
theorem e85_65 (l0 l1 l2 l3 : Option Value) (L : VL) (st : List Value) (h : VG) (x : Int32) : ev 85 65 (l0 :: l1 :: l2 :: l3 :: some (.int x) :: L) (st) h = ev 85 67 (l0 :: l1 :: l2 :: l3 :: some (.int x) :: L) (.int x :: st) h := G_iload f85_65 rfl
theorem f85_67 : fetch 85 67 = some (.iaload, 1) := vtab tk85 37 rfl
theorem e85_67 (L : VL) (st : List Value) (h : VG) (a : Nat) (i : Int32) (ha : rdI h a) (hi : vp_in i (aln h a)) : ev 85 67 L (.int i :: .ref a :: st) h = ev 85 68 L (.int (aI h a i.toNatClampNeg) :: st) h := G_iald' f85_67 ha hi
theorem f85_68 : fetch 85 68 = some (.iconst 1, 1) := vtab tk85 38 rfl
theorem e85_68 (L : VL) (st : List Value) (h : VG) : ev 85 68 L (st) h = ev 85 69 L (.int (1 : Int32) :: st) h := G_iconst f85_68 (by decide)
theorem f85_69 : fetch 85 69 = some (.if_icmp .ne 4, 3) := vtab tk85 39 rfl
theorem e85_69 (L : VL) (st : List Value) (h : VG) (x y : Int32) : ev 85 69 L (.int y :: .int x :: st) h = if x = y then ev 85 72 L st h else ev 85 73 L st h := G_icmp_ne f85_69 (by decide)
theorem f85_72 : fetch 85 72 = some (.return_, 1) := vtab tk85 40 rfl
theorem e85_72 (L : VL) (h : VG) : ev 85 72 L [] h = some (none, h) := G_vret f85_72 (by decide)
theorem f85_73 : fetch 85 73 = some (.iinc 4 1, 3) := vtab tk85 41 rfl
theorem e85_73 (l0 l1 l2 l3 : Option Value) (L : VL) (st : List Value) (h : VG) (x : Int32) : ev 85 73 (l0 :: l1 :: l2 :: l3 :: some (.int x) :: L) (st) h = ev 85 76 (l0 :: l1 :: l2 :: vkk l3 :: some (.int (x + (1 : Int32))) :: L) (st) h := G_iinc f85_73 rfl (by decide) (S1_4 l0 l1 l2 l3 (some (.int x)) L _)
theorem f85_76 : fetch 85 76 = some (.goto (-71), 3) := vtab tk85 42 rfl
theorem e85_76 (L : VL) (st : List Value) (h : VG) : ev 85 76 L (st) h = ev 85 5 L (st) h := G_goto f85_76 (by decide)
theorem f85_79 : fetch 85 79 = some (.return_, 1) := vtab tk85 43 rfl
theorem e85_79 (L : VL) (h : VG) : ev 85 79 L [] h = some (none, h) := G_vret f85_79 (by decide)
/-! 86 GuestCalls$Tokens.scanToken([BIII)I -/
def tb86 : List (Nat × Instr × Nat) := [(0, .aload_n 0, 1), (1, .getfield 18, 3), (4, .iload 4, 2), (6, .lconst 0, 1), (7, .lastore, 1), (8, .iload_n 3, 1), (9, .iload_n 2, 1), (10, .if_icmp .lt 13, 3), (13, .aload_n 0, 1), (14, .getfield 9, 3), (17, .iload 4, 2), (19, .iconst 0, 1), (20, .iastore, 1), (21, .iload_n 3, 1), (22, .ireturn, 1), (23, .aload_n 1, 1), (24, .iload_n 3, 1), (25, .baload, 1), (26, .invokestatic 49, 3), (29, .ifCond .eq 13, 3), (32, .aload_n 0, 1), (33, .aload_n 1, 1), (34, .iload_n 2, 1), (35, .iload_n 3, 1), (36, .iload 4, 2), (38, .invokevirtual 52, 3), (41, .ireturn, 1), (42, .aload_n 1, 1), (43, .iload_n 3, 1), (44, .baload, 1), (45, .invokestatic 55, 3), (48, .ifCond .eq 13, 3), (51, .aload_n 0, 1), (52, .aload_n 1, 1), (53, .iload_n 2, 1), (54, .iload_n 3, 1), (55, .iload 4, 2), (57, .invokevirtual 58, 3), (60, .ireturn, 1), (61, .aload_n 0, 1), (62, .getfield 9, 3), (65, .iload 4, 2), (67, .aload_n 1, 1), (68, .iload_n 3, 1), (69, .baload, 1), (70, .bipush 59, 2), (72, .if_icmp .ne 7, 3), (75, .iconst 4, 1), (76, .goto 4, 3), (79, .iconst 1, 1), (80, .iastore, 1), (81, .iload_n 3, 1), (82, .iconst 1, 1), (83, .iadd, 1), (84, .ireturn, 1)]
theorem tk86 : tb86.all (fun q => decide (fetch 86 q.1 = some q.2)) = true := by decide +kernel
theorem f86_0 : fetch 86 0 = some (.aload_n 0, 1) := vtab tk86 0 rfl
theorem e86_0 (L : VL) (st : List Value) (h : VG) (x : Nat) : ev 86 0 (some (.ref x) :: L) (st) h = ev 86 1 (some (.ref x) :: L) (.ref x :: st) h := G_aload_n f86_0 rfl
theorem f86_1 : fetch 86 1 = some (.getfield 18, 3) := vtab tk86 1 rfl
theorem e86_1 (L : VL) (st : List Value) (h : VG) (a : Nat) (ho : ob h a 9) (hr : isR h a 2) : ev 86 1 L (.ref a :: st) h = ev 86 4 L (.ref (gR h a 2) :: st) h := G_getR (p := 177) f86_1 lkF_10_18 (by decide) (by decide) ho hr
theorem f86_4 : fetch 86 4 = some (.iload 4, 2) := vtab tk86 2 rfl
theorem e86_4 (l0 l1 l2 l3 : Option Value) (L : VL) (st : List Value) (h : VG) (x : Int32) : ev 86 4 (l0 :: l1 :: l2 :: l3 :: some (.int x) :: L) (st) h = ev 86 6 (l0 :: l1 :: l2 :: l3 :: some (.int x) :: L) (.int x :: st) h := G_iload f86_4 rfl
theorem f86_6 : fetch 86 6 = some (.lconst 0, 1) := vtab tk86 3 rfl
theorem e86_6 (L : VL) (st : List Value) (h : VG) : ev 86 6 L (st) h = ev 86 7 L (.long 0 :: st) h := G_lconst f86_6 (by decide)
theorem f86_7 : fetch 86 7 = some (.lastore, 1) := vtab tk86 4 rfl
theorem e86_7 (L : VL) (st : List Value) (h : VG) (a : Nat) (i : Int32) (x : Int64) (ha : arL h a) (hi : vp_in i (aln h a)) : ev 86 7 L (.long x :: .int i :: .ref a :: st) h = ev 86 8 L (st) (wL h a i.toNatClampNeg x) := G_last f86_7 ha hi
theorem f86_8 : fetch 86 8 = some (.iload_n 3, 1) := vtab tk86 5 rfl
theorem e86_8 (l0 l1 l2 : Option Value) (L : VL) (st : List Value) (h : VG) (x : Int32) : ev 86 8 (l0 :: l1 :: l2 :: some (.int x) :: L) (st) h = ev 86 9 (l0 :: l1 :: l2 :: some (.int x) :: L) (.int x :: st) h := G_iload_n f86_8 rfl
theorem f86_9 : fetch 86 9 = some (.iload_n 2, 1) := vtab tk86 6 rfl
theorem e86_9 (l0 l1 : Option Value) (L : VL) (st : List Value) (h : VG) (x : Int32) : ev 86 9 (l0 :: l1 :: some (.int x) :: L) (st) h = ev 86 10 (l0 :: l1 :: some (.int x) :: L) (.int x :: st) h := G_iload_n f86_9 rfl
theorem f86_10 : fetch 86 10 = some (.if_icmp .lt 13, 3) := vtab tk86 7 rfl
theorem e86_10 (L : VL) (st : List Value) (h : VG) (x y : Int32) : ev 86 10 L (.int y :: .int x :: st) h = if x < y then ev 86 23 L st h else ev 86 13 L st h := G_icmp_lt f86_10 (by decide)
theorem f86_13 : fetch 86 13 = some (.aload_n 0, 1) := vtab tk86 8 rfl
theorem e86_13 (L : VL) (st : List Value) (h : VG) (x : Nat) : ev 86 13 (some (.ref x) :: L) (st) h = ev 86 14 (some (.ref x) :: L) (.ref x :: st) h := G_aload_n f86_13 rfl
theorem f86_14 : fetch 86 14 = some (.getfield 9, 3) := vtab tk86 9 rfl
theorem e86_14 (L : VL) (st : List Value) (h : VG) (a : Nat) (ho : ob h a 9) (hr : isR h a 0) : ev 86 14 L (.ref a :: st) h = ev 86 17 L (.ref (gR h a 0) :: st) h := G_getR (p := 173) f86_14 lkF_10_9 (by decide) (by decide) ho hr
theorem f86_17 : fetch 86 17 = some (.iload 4, 2) := vtab tk86 10 rfl
theorem e86_17 (l0 l1 l2 l3 : Option Value) (L : VL) (st : List Value) (h : VG) (x : Int32) : ev 86 17 (l0 :: l1 :: l2 :: l3 :: some (.int x) :: L) (st) h = ev 86 19 (l0 :: l1 :: l2 :: l3 :: some (.int x) :: L) (.int x :: st) h := G_iload f86_17 rfl
theorem f86_19 : fetch 86 19 = some (.iconst 0, 1) := vtab tk86 11 rfl
theorem e86_19 (L : VL) (st : List Value) (h : VG) : ev 86 19 L (st) h = ev 86 20 L (.int (0 : Int32) :: st) h := G_iconst f86_19 (by decide)
theorem f86_20 : fetch 86 20 = some (.iastore, 1) := vtab tk86 12 rfl
theorem e86_20 (L : VL) (st : List Value) (h : VG) (a : Nat) (i : Int32) (x : Int32) (ha : arI h a 0) (hi : vp_in i (aln h a)) : ev 86 20 L (.int x :: .int i :: .ref a :: st) h = ev 86 21 L (st) (wI h a i.toNatClampNeg x) := G_iast f86_20 ha hi
theorem f86_21 : fetch 86 21 = some (.iload_n 3, 1) := vtab tk86 13 rfl
theorem e86_21 (l0 l1 l2 : Option Value) (L : VL) (st : List Value) (h : VG) (x : Int32) : ev 86 21 (l0 :: l1 :: l2 :: some (.int x) :: L) (st) h = ev 86 22 (l0 :: l1 :: l2 :: some (.int x) :: L) (.int x :: st) h := G_iload_n f86_21 rfl
theorem f86_22 : fetch 86 22 = some (.ireturn, 1) := vtab tk86 14 rfl
theorem e86_22 (L : VL) (h : VG) (x : Int32) : ev 86 22 L [.int x] h = some (some (.int x), h) := G_iret f86_22 (ty := .int) (by decide) rfl
theorem f86_23 : fetch 86 23 = some (.aload_n 1, 1) := vtab tk86 15 rfl
theorem e86_23 (l0 : Option Value) (L : VL) (st : List Value) (h : VG) (x : Nat) : ev 86 23 (l0 :: some (.ref x) :: L) (st) h = ev 86 24 (l0 :: some (.ref x) :: L) (.ref x :: st) h := G_aload_n f86_23 rfl
theorem f86_24 : fetch 86 24 = some (.iload_n 3, 1) := vtab tk86 16 rfl
theorem e86_24 (l0 l1 l2 : Option Value) (L : VL) (st : List Value) (h : VG) (x : Int32) : ev 86 24 (l0 :: l1 :: l2 :: some (.int x) :: L) (st) h = ev 86 25 (l0 :: l1 :: l2 :: some (.int x) :: L) (.int x :: st) h := G_iload_n f86_24 rfl
theorem f86_25 : fetch 86 25 = some (.baload, 1) := vtab tk86 17 rfl
theorem e86_25 (L : VL) (st : List Value) (h : VG) (a : Nat) (i : Int32) (ha : rdB h a) (hi : vp_in i (aln h a)) : ev 86 25 L (.int i :: .ref a :: st) h = ev 86 26 L (.int (aI h a i.toNatClampNeg) :: st) h := G_bald' f86_25 ha hi
theorem f86_26 : fetch 86 26 = some (.invokestatic 49, 3) := vtab tk86 18 rfl
theorem e86_26 (L : VL) (st : List Value) (h : VG) (x0 : Int32) (hs : catS st ≤ 8) : ev 86 26 L (.int x0 :: st) h = (ev 90 0 [some (.int x0)] [] h).bind fun q => ev 86 29 L (q.1.toList ++ st) q.2 := G_calls (k := 0) (p := 503) (ars := [.int x0]) f86_26 lkC_10_49 (by decide) (by decide +kernel) rfl (Nat.le_of_ble_eq_true rfl) hs rfl
theorem f86_29 : fetch 86 29 = some (.ifCond .eq 13, 3) := vtab tk86 19 rfl
theorem e86_29 (L : VL) (st : List Value) (h : VG) (x : Int32) : ev 86 29 L (.int x :: st) h = if x = 0 then ev 86 42 L st h else ev 86 32 L st h := G_if_eq f86_29 (by decide)
theorem f86_32 : fetch 86 32 = some (.aload_n 0, 1) := vtab tk86 20 rfl
theorem e86_32 (L : VL) (st : List Value) (h : VG) (x : Nat) : ev 86 32 (some (.ref x) :: L) (st) h = ev 86 33 (some (.ref x) :: L) (.ref x :: st) h := G_aload_n f86_32 rfl
theorem f86_33 : fetch 86 33 = some (.aload_n 1, 1) := vtab tk86 21 rfl
theorem e86_33 (l0 : Option Value) (L : VL) (st : List Value) (h : VG) (x : Nat) : ev 86 33 (l0 :: some (.ref x) :: L) (st) h = ev 86 34 (l0 :: some (.ref x) :: L) (.ref x :: st) h := G_aload_n f86_33 rfl
theorem f86_34 : fetch 86 34 = some (.iload_n 2, 1) := vtab tk86 22 rfl
theorem e86_34 (l0 l1 : Option Value) (L : VL) (st : List Value) (h : VG) (x : Int32) : ev 86 34 (l0 :: l1 :: some (.int x) :: L) (st) h = ev 86 35 (l0 :: l1 :: some (.int x) :: L) (.int x :: st) h := G_iload_n f86_34 rfl
theorem f86_35 : fetch 86 35 = some (.iload_n 3, 1) := vtab tk86 23 rfl
theorem e86_35 (l0 l1 l2 : Option Value) (L : VL) (st : List Value) (h : VG) (x : Int32) : ev 86 35 (l0 :: l1 :: l2 :: some (.int x) :: L) (st) h = ev 86 36 (l0 :: l1 :: l2 :: some (.int x) :: L) (.int x :: st) h := G_iload_n f86_35 rfl
theorem f86_36 : fetch 86 36 = some (.iload 4, 2) := vtab tk86 24 rfl
theorem e86_36 (l0 l1 l2 l3 : Option Value) (L : VL) (st : List Value) (h : VG) (x : Int32) : ev 86 36 (l0 :: l1 :: l2 :: l3 :: some (.int x) :: L) (st) h = ev 86 38 (l0 :: l1 :: l2 :: l3 :: some (.int x) :: L) (.int x :: st) h := G_iload f86_36 rfl
theorem f86_38 : fetch 86 38 = some (.invokevirtual 52, 3) := vtab tk86 25 rfl
theorem e86_38 (L : VL) (st : List Value) (h : VG) (b : Nat) (x0 : Nat) (x1 : Int32) (x2 : Int32) (x3 : Int32) (ho : ob h b 9) (hs : catS st ≤ 8) : ev 86 38 L (.int x3 :: .int x2 :: .int x1 :: .ref x0 :: .ref b :: st) h = (ev 87 0 [some (.ref b), some (.ref x0), some (.int x1), some (.int x2), some (.int x3), none, none] [] h).bind fun q => ev 86 41 L (q.1.toList ++ st) q.2 := G_callv (k := 1) (p := 506) (ars := [.ref x0, .int x1, .int x2, .int x3]) f86_38 lkC_10_52 (by decide) (by decide +kernel) rfl (vcls_ob (ci := 9) (by decide) ho) (Nat.le_of_ble_eq_true rfl) hs rfl
theorem f86_41 : fetch 86 41 = some (.ireturn, 1) := vtab tk86 26 rfl
theorem e86_41 (L : VL) (h : VG) (x : Int32) : ev 86 41 L [.int x] h = some (some (.int x), h) := G_iret f86_41 (ty := .int) (by decide) rfl
theorem f86_42 : fetch 86 42 = some (.aload_n 1, 1) := vtab tk86 27 rfl
theorem e86_42 (l0 : Option Value) (L : VL) (st : List Value) (h : VG) (x : Nat) : ev 86 42 (l0 :: some (.ref x) :: L) (st) h = ev 86 43 (l0 :: some (.ref x) :: L) (.ref x :: st) h := G_aload_n f86_42 rfl
theorem f86_43 : fetch 86 43 = some (.iload_n 3, 1) := vtab tk86 28 rfl
theorem e86_43 (l0 l1 l2 : Option Value) (L : VL) (st : List Value) (h : VG) (x : Int32) : ev 86 43 (l0 :: l1 :: l2 :: some (.int x) :: L) (st) h = ev 86 44 (l0 :: l1 :: l2 :: some (.int x) :: L) (.int x :: st) h := G_iload_n f86_43 rfl
theorem f86_44 : fetch 86 44 = some (.baload, 1) := vtab tk86 29 rfl
theorem e86_44 (L : VL) (st : List Value) (h : VG) (a : Nat) (i : Int32) (ha : rdB h a) (hi : vp_in i (aln h a)) : ev 86 44 L (.int i :: .ref a :: st) h = ev 86 45 L (.int (aI h a i.toNatClampNeg) :: st) h := G_bald' f86_44 ha hi
theorem f86_45 : fetch 86 45 = some (.invokestatic 55, 3) := vtab tk86 30 rfl
theorem e86_45 (L : VL) (st : List Value) (h : VG) (x0 : Int32) (hs : catS st ≤ 8) : ev 86 45 L (.int x0 :: st) h = (ev 91 0 [some (.int x0)] [] h).bind fun q => ev 86 48 L (q.1.toList ++ st) q.2 := G_calls (k := 0) (p := 510) (ars := [.int x0]) f86_45 lkC_10_55 (by decide) (by decide +kernel) rfl (Nat.le_of_ble_eq_true rfl) hs rfl
theorem f86_48 : fetch 86 48 = some (.ifCond .eq 13, 3) := vtab tk86 31 rfl
theorem e86_48 (L : VL) (st : List Value) (h : VG) (x : Int32) : ev 86 48 L (.int x :: st) h = if x = 0 then ev 86 61 L st h else ev 86 51 L st h := G_if_eq f86_48 (by decide)
theorem f86_51 : fetch 86 51 = some (.aload_n 0, 1) := vtab tk86 32 rfl
theorem e86_51 (L : VL) (st : List Value) (h : VG) (x : Nat) : ev 86 51 (some (.ref x) :: L) (st) h = ev 86 52 (some (.ref x) :: L) (.ref x :: st) h := G_aload_n f86_51 rfl
theorem f86_52 : fetch 86 52 = some (.aload_n 1, 1) := vtab tk86 33 rfl
theorem e86_52 (l0 : Option Value) (L : VL) (st : List Value) (h : VG) (x : Nat) : ev 86 52 (l0 :: some (.ref x) :: L) (st) h = ev 86 53 (l0 :: some (.ref x) :: L) (.ref x :: st) h := G_aload_n f86_52 rfl
theorem f86_53 : fetch 86 53 = some (.iload_n 2, 1) := vtab tk86 34 rfl
theorem e86_53 (l0 l1 : Option Value) (L : VL) (st : List Value) (h : VG) (x : Int32) : ev 86 53 (l0 :: l1 :: some (.int x) :: L) (st) h = ev 86 54 (l0 :: l1 :: some (.int x) :: L) (.int x :: st) h := G_iload_n f86_53 rfl
theorem f86_54 : fetch 86 54 = some (.iload_n 3, 1) := vtab tk86 35 rfl
theorem e86_54 (l0 l1 l2 : Option Value) (L : VL) (st : List Value) (h : VG) (x : Int32) : ev 86 54 (l0 :: l1 :: l2 :: some (.int x) :: L) (st) h = ev 86 55 (l0 :: l1 :: l2 :: some (.int x) :: L) (.int x :: st) h := G_iload_n f86_54 rfl
theorem f86_55 : fetch 86 55 = some (.iload 4, 2) := vtab tk86 36 rfl
theorem e86_55 (l0 l1 l2 l3 : Option Value) (L : VL) (st : List Value) (h : VG) (x : Int32) : ev 86 55 (l0 :: l1 :: l2 :: l3 :: some (.int x) :: L) (st) h = ev 86 57 (l0 :: l1 :: l2 :: l3 :: some (.int x) :: L) (.int x :: st) h := G_iload f86_55 rfl
theorem f86_57 : fetch 86 57 = some (.invokevirtual 58, 3) := vtab tk86 37 rfl
theorem e86_57 (L : VL) (st : List Value) (h : VG) (b : Nat) (x0 : Nat) (x1 : Int32) (x2 : Int32) (x3 : Int32) (ho : ob h b 9) (hs : catS st ≤ 8) : ev 86 57 L (.int x3 :: .int x2 :: .int x1 :: .ref x0 :: .ref b :: st) h = (ev 88 0 [some (.ref b), some (.ref x0), some (.int x1), some (.int x2), some (.int x3), none] [] h).bind fun q => ev 86 60 L (q.1.toList ++ st) q.2 := G_callv (k := 1) (p := 513) (ars := [.ref x0, .int x1, .int x2, .int x3]) f86_57 lkC_10_58 (by decide) (by decide +kernel) rfl (vcls_ob (ci := 9) (by decide) ho) (Nat.le_of_ble_eq_true rfl) hs rfl
theorem f86_60 : fetch 86 60 = some (.ireturn, 1) := vtab tk86 38 rfl
theorem e86_60 (L : VL) (h : VG) (x : Int32) : ev 86 60 L [.int x] h = some (some (.int x), h) := G_iret f86_60 (ty := .int) (by decide) rfl
theorem f86_61 : fetch 86 61 = some (.aload_n 0, 1) := vtab tk86 39 rfl
theorem e86_61 (L : VL) (st : List Value) (h : VG) (x : Nat) : ev 86 61 (some (.ref x) :: L) (st) h = ev 86 62 (some (.ref x) :: L) (.ref x :: st) h := G_aload_n f86_61 rfl
theorem f86_62 : fetch 86 62 = some (.getfield 9, 3) := vtab tk86 40 rfl
theorem e86_62 (L : VL) (st : List Value) (h : VG) (a : Nat) (ho : ob h a 9) (hr : isR h a 0) : ev 86 62 L (.ref a :: st) h = ev 86 65 L (.ref (gR h a 0) :: st) h := G_getR (p := 173) f86_62 lkF_10_9 (by decide) (by decide) ho hr
theorem f86_65 : fetch 86 65 = some (.iload 4, 2) := vtab tk86 41 rfl
theorem e86_65 (l0 l1 l2 l3 : Option Value) (L : VL) (st : List Value) (h : VG) (x : Int32) : ev 86 65 (l0 :: l1 :: l2 :: l3 :: some (.int x) :: L) (st) h = ev 86 67 (l0 :: l1 :: l2 :: l3 :: some (.int x) :: L) (.int x :: st) h := G_iload f86_65 rfl
theorem f86_67 : fetch 86 67 = some (.aload_n 1, 1) := vtab tk86 42 rfl
theorem e86_67 (l0 : Option Value) (L : VL) (st : List Value) (h : VG) (x : Nat) : ev 86 67 (l0 :: some (.ref x) :: L) (st) h = ev 86 68 (l0 :: some (.ref x) :: L) (.ref x :: st) h := G_aload_n f86_67 rfl
theorem f86_68 : fetch 86 68 = some (.iload_n 3, 1) := vtab tk86 43 rfl
theorem e86_68 (l0 l1 l2 : Option Value) (L : VL) (st : List Value) (h : VG) (x : Int32) : ev 86 68 (l0 :: l1 :: l2 :: some (.int x) :: L) (st) h = ev 86 69 (l0 :: l1 :: l2 :: some (.int x) :: L) (.int x :: st) h := G_iload_n f86_68 rfl
theorem f86_69 : fetch 86 69 = some (.baload, 1) := vtab tk86 44 rfl
theorem e86_69 (L : VL) (st : List Value) (h : VG) (a : Nat) (i : Int32) (ha : rdB h a) (hi : vp_in i (aln h a)) : ev 86 69 L (.int i :: .ref a :: st) h = ev 86 70 L (.int (aI h a i.toNatClampNeg) :: st) h := G_bald' f86_69 ha hi
theorem f86_70 : fetch 86 70 = some (.bipush 59, 2) := vtab tk86 45 rfl
theorem e86_70 (L : VL) (st : List Value) (h : VG) : ev 86 70 L (st) h = ev 86 72 L (.int (59 : Int32) :: st) h := G_bipush f86_70 (by decide)
theorem f86_72 : fetch 86 72 = some (.if_icmp .ne 7, 3) := vtab tk86 46 rfl
theorem e86_72 (L : VL) (st : List Value) (h : VG) (x y : Int32) : ev 86 72 L (.int y :: .int x :: st) h = if x = y then ev 86 75 L st h else ev 86 79 L st h := G_icmp_ne f86_72 (by decide)
theorem f86_75 : fetch 86 75 = some (.iconst 4, 1) := vtab tk86 47 rfl
theorem e86_75 (L : VL) (st : List Value) (h : VG) : ev 86 75 L (st) h = ev 86 76 L (.int (4 : Int32) :: st) h := G_iconst f86_75 (by decide)
theorem f86_76 : fetch 86 76 = some (.goto 4, 3) := vtab tk86 48 rfl
theorem e86_76 (L : VL) (st : List Value) (h : VG) : ev 86 76 L (st) h = ev 86 80 L (st) h := G_goto f86_76 (by decide)
theorem f86_79 : fetch 86 79 = some (.iconst 1, 1) := vtab tk86 49 rfl
theorem e86_79 (L : VL) (st : List Value) (h : VG) : ev 86 79 L (st) h = ev 86 80 L (.int (1 : Int32) :: st) h := G_iconst f86_79 (by decide)
theorem f86_80 : fetch 86 80 = some (.iastore, 1) := vtab tk86 50 rfl
theorem e86_80 (L : VL) (st : List Value) (h : VG) (a : Nat) (i : Int32) (x : Int32) (ha : arI h a 0) (hi : vp_in i (aln h a)) : ev 86 80 L (.int x :: .int i :: .ref a :: st) h = ev 86 81 L (st) (wI h a i.toNatClampNeg x) := G_iast f86_80 ha hi
theorem f86_81 : fetch 86 81 = some (.iload_n 3, 1) := vtab tk86 51 rfl
theorem e86_81 (l0 l1 l2 : Option Value) (L : VL) (st : List Value) (h : VG) (x : Int32) : ev 86 81 (l0 :: l1 :: l2 :: some (.int x) :: L) (st) h = ev 86 82 (l0 :: l1 :: l2 :: some (.int x) :: L) (.int x :: st) h := G_iload_n f86_81 rfl
theorem f86_82 : fetch 86 82 = some (.iconst 1, 1) := vtab tk86 52 rfl
theorem e86_82 (L : VL) (st : List Value) (h : VG) : ev 86 82 L (st) h = ev 86 83 L (.int (1 : Int32) :: st) h := G_iconst f86_82 (by decide)
theorem f86_83 : fetch 86 83 = some (.iadd, 1) := vtab tk86 53 rfl
theorem e86_83 (L : VL) (st : List Value) (h : VG) (x y : Int32) : ev 86 83 L (.int y :: .int x :: st) h = ev 86 84 L (.int (x + y) :: st) h := G_iadd f86_83
theorem f86_84 : fetch 86 84 = some (.ireturn, 1) := vtab tk86 54 rfl
theorem e86_84 (L : VL) (h : VG) (x : Int32) : ev 86 84 L [.int x] h = some (some (.int x), h) := G_iret f86_84 (ty := .int) (by decide) rfl
/-! 87 GuestCalls$Tokens.scanWord([BIII)I -/
def tb87 : List (Nat × Instr × Nat) := [(0, .iload_n 3, 1), (1, .istore 5, 2), (3, .iload 5, 2), (5, .iload_n 2, 1), (6, .if_icmp .ge 40, 3), (9, .aload_n 1, 1), (10, .iload 5, 2), (12, .baload, 1), (13, .invokestatic 49, 3), (16, .ifCond .eq 30, 3), (19, .aload_n 0, 1), (20, .getfield 18, 3), (23, .iload 4, 2), (25, .aload_n 0, 1), (26, .getfield 18, 3), (29, .iload 4, 2), (31, .laload, 1), (32, .aload_n 1, 1), (33, .iload 5, 2), (35, .baload, 1), (36, .invokestatic 37, 3), (39, .lastore, 1), (40, .iinc 5 1, 3), (43, .goto (-40), 3), (46, .aload_n 0, 1), (47, .getfield 9, 3), (50, .iload 4, 2), (52, .iload 5, 2), (54, .iload_n 3, 1), (55, .isub, 1), (56, .bipush 8, 2), (58, .if_icmp .le 7, 3), (61, .iconst 1, 1), (62, .goto 4, 3), (65, .iconst 2, 1), (66, .iastore, 1), (67, .iconst 0, 1), (68, .istore 6, 2), (70, .iload 6, 2), (72, .bipush 14, 2), (74, .if_icmp .ge 74, 3), (77, .aload_n 0, 1), (78, .getfield 9, 3), (81, .iload 4, 2), (83, .iaload, 1), (84, .iconst 2, 1), (85, .if_icmp .ne 63, 3), (88, .aload_n 0, 1), (89, .getfield 22, 3), (92, .iload 6, 2), (94, .laload, 1), (95, .aload_n 0, 1), (96, .getfield 18, 3), (99, .iload 4, 2), (101, .laload, 1), (102, .lcmp, 1), (103, .ifCond .ne 39, 3), (106, .aload_n 0, 1), (107, .getfield 9, 3), (110, .iload 4, 2), (112, .iload 6, 2), (114, .bipush 10, 2), (116, .if_icmp .ge 7, 3), (119, .iconst 5, 1), (120, .goto 11, 3), (123, .bipush 6, 2), (125, .iload 6, 2), (127, .iadd, 1), (128, .bipush 10, 2), (130, .isub, 1), (131, .iastore, 1), (132, .aload_n 0, 1), (133, .getfield 18, 3), (136, .iload 4, 2), (138, .iload 6, 2), (140, .i2l, 1), (141, .lastore, 1), (142, .iinc 6 1, 3), (145, .goto (-75), 3), (148, .iload 5, 2), (150, .ireturn, 1)]
theorem tk87 : tb87.all (fun q => decide (fetch 87 q.1 = some q.2)) = true := by decide +kernel
theorem f87_0 : fetch 87 0 = some (.iload_n 3, 1) := vtab tk87 0 rfl
theorem e87_0 (l0 l1 l2 : Option Value) (L : VL) (st : List Value) (h : VG) (x : Int32) : ev 87 0 (l0 :: l1 :: l2 :: some (.int x) :: L) (st) h = ev 87 1 (l0 :: l1 :: l2 :: some (.int x) :: L) (.int x :: st) h := G_iload_n f87_0 rfl
theorem f87_1 : fetch 87 1 = some (.istore 5, 2) := vtab tk87 1 rfl
theorem e87_1 (l0 l1 l2 l3 l4 l5 : Option Value) (L : VL) (st : List Value) (h : VG) (x : Int32) : ev 87 1 (l0 :: l1 :: l2 :: l3 :: l4 :: l5 :: L) (.int x :: st) h = ev 87 3 (l0 :: l1 :: l2 :: l3 :: vkk l4 :: some (.int x) :: L) (st) h := G_istore f87_1 rfl (S1_5 l0 l1 l2 l3 l4 l5 L _)
theorem f87_3 : fetch 87 3 = some (.iload 5, 2) := vtab tk87 2 rfl
theorem e87_3 (l0 l1 l2 l3 l4 : Option Value) (L : VL) (st : List Value) (h : VG) (x : Int32) : ev 87 3 (l0 :: l1 :: l2 :: l3 :: l4 :: some (.int x) :: L) (st) h = ev 87 5 (l0 :: l1 :: l2 :: l3 :: l4 :: some (.int x) :: L) (.int x :: st) h := G_iload f87_3 rfl
theorem f87_5 : fetch 87 5 = some (.iload_n 2, 1) := vtab tk87 3 rfl
theorem e87_5 (l0 l1 : Option Value) (L : VL) (st : List Value) (h : VG) (x : Int32) : ev 87 5 (l0 :: l1 :: some (.int x) :: L) (st) h = ev 87 6 (l0 :: l1 :: some (.int x) :: L) (.int x :: st) h := G_iload_n f87_5 rfl
theorem f87_6 : fetch 87 6 = some (.if_icmp .ge 40, 3) := vtab tk87 4 rfl
theorem e87_6 (L : VL) (st : List Value) (h : VG) (x y : Int32) : ev 87 6 L (.int y :: .int x :: st) h = if x < y then ev 87 9 L st h else ev 87 46 L st h := G_icmp_ge f87_6 (by decide)
theorem f87_9 : fetch 87 9 = some (.aload_n 1, 1) := vtab tk87 5 rfl
theorem e87_9 (l0 : Option Value) (L : VL) (st : List Value) (h : VG) (x : Nat) : ev 87 9 (l0 :: some (.ref x) :: L) (st) h = ev 87 10 (l0 :: some (.ref x) :: L) (.ref x :: st) h := G_aload_n f87_9 rfl
theorem f87_10 : fetch 87 10 = some (.iload 5, 2) := vtab tk87 6 rfl
theorem e87_10 (l0 l1 l2 l3 l4 : Option Value) (L : VL) (st : List Value) (h : VG) (x : Int32) : ev 87 10 (l0 :: l1 :: l2 :: l3 :: l4 :: some (.int x) :: L) (st) h = ev 87 12 (l0 :: l1 :: l2 :: l3 :: l4 :: some (.int x) :: L) (.int x :: st) h := G_iload f87_10 rfl
theorem f87_12 : fetch 87 12 = some (.baload, 1) := vtab tk87 7 rfl
theorem e87_12 (L : VL) (st : List Value) (h : VG) (a : Nat) (i : Int32) (ha : rdB h a) (hi : vp_in i (aln h a)) : ev 87 12 L (.int i :: .ref a :: st) h = ev 87 13 L (.int (aI h a i.toNatClampNeg) :: st) h := G_bald' f87_12 ha hi
theorem f87_13 : fetch 87 13 = some (.invokestatic 49, 3) := vtab tk87 8 rfl
theorem e87_13 (L : VL) (st : List Value) (h : VG) (x0 : Int32) (hs : catS st ≤ 8) : ev 87 13 L (.int x0 :: st) h = (ev 90 0 [some (.int x0)] [] h).bind fun q => ev 87 16 L (q.1.toList ++ st) q.2 := G_calls (k := 0) (p := 503) (ars := [.int x0]) f87_13 lkC_10_49 (by decide) (by decide +kernel) rfl (Nat.le_of_ble_eq_true rfl) hs rfl
theorem f87_16 : fetch 87 16 = some (.ifCond .eq 30, 3) := vtab tk87 9 rfl
theorem e87_16 (L : VL) (st : List Value) (h : VG) (x : Int32) : ev 87 16 L (.int x :: st) h = if x = 0 then ev 87 46 L st h else ev 87 19 L st h := G_if_eq f87_16 (by decide)
theorem f87_19 : fetch 87 19 = some (.aload_n 0, 1) := vtab tk87 10 rfl
theorem e87_19 (L : VL) (st : List Value) (h : VG) (x : Nat) : ev 87 19 (some (.ref x) :: L) (st) h = ev 87 20 (some (.ref x) :: L) (.ref x :: st) h := G_aload_n f87_19 rfl
theorem f87_20 : fetch 87 20 = some (.getfield 18, 3) := vtab tk87 11 rfl
theorem e87_20 (L : VL) (st : List Value) (h : VG) (a : Nat) (ho : ob h a 9) (hr : isR h a 2) : ev 87 20 L (.ref a :: st) h = ev 87 23 L (.ref (gR h a 2) :: st) h := G_getR (p := 177) f87_20 lkF_10_18 (by decide) (by decide) ho hr
theorem f87_23 : fetch 87 23 = some (.iload 4, 2) := vtab tk87 12 rfl
theorem e87_23 (l0 l1 l2 l3 : Option Value) (L : VL) (st : List Value) (h : VG) (x : Int32) : ev 87 23 (l0 :: l1 :: l2 :: l3 :: some (.int x) :: L) (st) h = ev 87 25 (l0 :: l1 :: l2 :: l3 :: some (.int x) :: L) (.int x :: st) h := G_iload f87_23 rfl
theorem f87_25 : fetch 87 25 = some (.aload_n 0, 1) := vtab tk87 13 rfl
theorem e87_25 (L : VL) (st : List Value) (h : VG) (x : Nat) : ev 87 25 (some (.ref x) :: L) (st) h = ev 87 26 (some (.ref x) :: L) (.ref x :: st) h := G_aload_n f87_25 rfl
theorem f87_26 : fetch 87 26 = some (.getfield 18, 3) := vtab tk87 14 rfl
theorem e87_26 (L : VL) (st : List Value) (h : VG) (a : Nat) (ho : ob h a 9) (hr : isR h a 2) : ev 87 26 L (.ref a :: st) h = ev 87 29 L (.ref (gR h a 2) :: st) h := G_getR (p := 177) f87_26 lkF_10_18 (by decide) (by decide) ho hr
theorem f87_29 : fetch 87 29 = some (.iload 4, 2) := vtab tk87 15 rfl
theorem e87_29 (l0 l1 l2 l3 : Option Value) (L : VL) (st : List Value) (h : VG) (x : Int32) : ev 87 29 (l0 :: l1 :: l2 :: l3 :: some (.int x) :: L) (st) h = ev 87 31 (l0 :: l1 :: l2 :: l3 :: some (.int x) :: L) (.int x :: st) h := G_iload f87_29 rfl
theorem f87_31 : fetch 87 31 = some (.laload, 1) := vtab tk87 16 rfl
theorem e87_31 (L : VL) (st : List Value) (h : VG) (a : Nat) (i : Int32) (ha : arL h a) (hi : vp_in i (aln h a)) : ev 87 31 L (.int i :: .ref a :: st) h = ev 87 32 L (.long (aL h a i.toNatClampNeg) :: st) h := G_lald f87_31 ha hi
theorem f87_32 : fetch 87 32 = some (.aload_n 1, 1) := vtab tk87 17 rfl
theorem e87_32 (l0 : Option Value) (L : VL) (st : List Value) (h : VG) (x : Nat) : ev 87 32 (l0 :: some (.ref x) :: L) (st) h = ev 87 33 (l0 :: some (.ref x) :: L) (.ref x :: st) h := G_aload_n f87_32 rfl
theorem f87_33 : fetch 87 33 = some (.iload 5, 2) := vtab tk87 18 rfl
theorem e87_33 (l0 l1 l2 l3 l4 : Option Value) (L : VL) (st : List Value) (h : VG) (x : Int32) : ev 87 33 (l0 :: l1 :: l2 :: l3 :: l4 :: some (.int x) :: L) (st) h = ev 87 35 (l0 :: l1 :: l2 :: l3 :: l4 :: some (.int x) :: L) (.int x :: st) h := G_iload f87_33 rfl
theorem f87_35 : fetch 87 35 = some (.baload, 1) := vtab tk87 19 rfl
theorem e87_35 (L : VL) (st : List Value) (h : VG) (a : Nat) (i : Int32) (ha : rdB h a) (hi : vp_in i (aln h a)) : ev 87 35 L (.int i :: .ref a :: st) h = ev 87 36 L (.int (aI h a i.toNatClampNeg) :: st) h := G_bald' f87_35 ha hi
theorem f87_36 : fetch 87 36 = some (.invokestatic 37, 3) := vtab tk87 20 rfl
theorem e87_36 (L : VL) (st : List Value) (h : VG) (x0 : Int64) (x1 : Int32) (hs : catS st ≤ 8) : ev 87 36 L (.int x1 :: .long x0 :: st) h = (ev 84 0 [some (.long x0), none, some (.int x1)] [] h).bind fun q => ev 87 39 L (q.1.toList ++ st) q.2 := G_calls (k := 0) (p := 170) (ars := [.long x0, .int x1]) f87_36 lkC_10_37 (by decide) (by decide +kernel) rfl (Nat.le_of_ble_eq_true rfl) hs rfl
theorem f87_39 : fetch 87 39 = some (.lastore, 1) := vtab tk87 21 rfl
theorem e87_39 (L : VL) (st : List Value) (h : VG) (a : Nat) (i : Int32) (x : Int64) (ha : arL h a) (hi : vp_in i (aln h a)) : ev 87 39 L (.long x :: .int i :: .ref a :: st) h = ev 87 40 L (st) (wL h a i.toNatClampNeg x) := G_last f87_39 ha hi
theorem f87_40 : fetch 87 40 = some (.iinc 5 1, 3) := vtab tk87 22 rfl
theorem e87_40 (l0 l1 l2 l3 l4 : Option Value) (L : VL) (st : List Value) (h : VG) (x : Int32) : ev 87 40 (l0 :: l1 :: l2 :: l3 :: l4 :: some (.int x) :: L) (st) h = ev 87 43 (l0 :: l1 :: l2 :: l3 :: vkk l4 :: some (.int (x + (1 : Int32))) :: L) (st) h := G_iinc f87_40 rfl (by decide) (S1_5 l0 l1 l2 l3 l4 (some (.int x)) L _)
theorem f87_43 : fetch 87 43 = some (.goto (-40), 3) := vtab tk87 23 rfl
theorem e87_43 (L : VL) (st : List Value) (h : VG) : ev 87 43 L (st) h = ev 87 3 L (st) h := G_goto f87_43 (by decide)
theorem f87_46 : fetch 87 46 = some (.aload_n 0, 1) := vtab tk87 24 rfl
theorem e87_46 (L : VL) (st : List Value) (h : VG) (x : Nat) : ev 87 46 (some (.ref x) :: L) (st) h = ev 87 47 (some (.ref x) :: L) (.ref x :: st) h := G_aload_n f87_46 rfl
theorem f87_47 : fetch 87 47 = some (.getfield 9, 3) := vtab tk87 25 rfl
theorem e87_47 (L : VL) (st : List Value) (h : VG) (a : Nat) (ho : ob h a 9) (hr : isR h a 0) : ev 87 47 L (.ref a :: st) h = ev 87 50 L (.ref (gR h a 0) :: st) h := G_getR (p := 173) f87_47 lkF_10_9 (by decide) (by decide) ho hr
theorem f87_50 : fetch 87 50 = some (.iload 4, 2) := vtab tk87 26 rfl
theorem e87_50 (l0 l1 l2 l3 : Option Value) (L : VL) (st : List Value) (h : VG) (x : Int32) : ev 87 50 (l0 :: l1 :: l2 :: l3 :: some (.int x) :: L) (st) h = ev 87 52 (l0 :: l1 :: l2 :: l3 :: some (.int x) :: L) (.int x :: st) h := G_iload f87_50 rfl
theorem f87_52 : fetch 87 52 = some (.iload 5, 2) := vtab tk87 27 rfl
theorem e87_52 (l0 l1 l2 l3 l4 : Option Value) (L : VL) (st : List Value) (h : VG) (x : Int32) : ev 87 52 (l0 :: l1 :: l2 :: l3 :: l4 :: some (.int x) :: L) (st) h = ev 87 54 (l0 :: l1 :: l2 :: l3 :: l4 :: some (.int x) :: L) (.int x :: st) h := G_iload f87_52 rfl
theorem f87_54 : fetch 87 54 = some (.iload_n 3, 1) := vtab tk87 28 rfl
theorem e87_54 (l0 l1 l2 : Option Value) (L : VL) (st : List Value) (h : VG) (x : Int32) : ev 87 54 (l0 :: l1 :: l2 :: some (.int x) :: L) (st) h = ev 87 55 (l0 :: l1 :: l2 :: some (.int x) :: L) (.int x :: st) h := G_iload_n f87_54 rfl
theorem f87_55 : fetch 87 55 = some (.isub, 1) := vtab tk87 29 rfl
theorem e87_55 (L : VL) (st : List Value) (h : VG) (x y : Int32) : ev 87 55 L (.int y :: .int x :: st) h = ev 87 56 L (.int (x - y) :: st) h := G_isub f87_55
theorem f87_56 : fetch 87 56 = some (.bipush 8, 2) := vtab tk87 30 rfl
theorem e87_56 (L : VL) (st : List Value) (h : VG) : ev 87 56 L (st) h = ev 87 58 L (.int (8 : Int32) :: st) h := G_bipush f87_56 (by decide)
theorem f87_58 : fetch 87 58 = some (.if_icmp .le 7, 3) := vtab tk87 31 rfl
theorem e87_58 (L : VL) (st : List Value) (h : VG) (x y : Int32) : ev 87 58 L (.int y :: .int x :: st) h = if x ≤ y then ev 87 65 L st h else ev 87 61 L st h := G_icmp_le f87_58 (by decide)
theorem f87_61 : fetch 87 61 = some (.iconst 1, 1) := vtab tk87 32 rfl
theorem e87_61 (L : VL) (st : List Value) (h : VG) : ev 87 61 L (st) h = ev 87 62 L (.int (1 : Int32) :: st) h := G_iconst f87_61 (by decide)
theorem f87_62 : fetch 87 62 = some (.goto 4, 3) := vtab tk87 33 rfl
theorem e87_62 (L : VL) (st : List Value) (h : VG) : ev 87 62 L (st) h = ev 87 66 L (st) h := G_goto f87_62 (by decide)
theorem f87_65 : fetch 87 65 = some (.iconst 2, 1) := vtab tk87 34 rfl
theorem e87_65 (L : VL) (st : List Value) (h : VG) : ev 87 65 L (st) h = ev 87 66 L (.int (2 : Int32) :: st) h := G_iconst f87_65 (by decide)
theorem f87_66 : fetch 87 66 = some (.iastore, 1) := vtab tk87 35 rfl
theorem e87_66 (L : VL) (st : List Value) (h : VG) (a : Nat) (i : Int32) (x : Int32) (ha : arI h a 0) (hi : vp_in i (aln h a)) : ev 87 66 L (.int x :: .int i :: .ref a :: st) h = ev 87 67 L (st) (wI h a i.toNatClampNeg x) := G_iast f87_66 ha hi
theorem f87_67 : fetch 87 67 = some (.iconst 0, 1) := vtab tk87 36 rfl
theorem e87_67 (L : VL) (st : List Value) (h : VG) : ev 87 67 L (st) h = ev 87 68 L (.int (0 : Int32) :: st) h := G_iconst f87_67 (by decide)
theorem f87_68 : fetch 87 68 = some (.istore 6, 2) := vtab tk87 37 rfl
theorem e87_68 (l0 l1 l2 l3 l4 l5 l6 : Option Value) (L : VL) (st : List Value) (h : VG) (x : Int32) : ev 87 68 (l0 :: l1 :: l2 :: l3 :: l4 :: l5 :: l6 :: L) (.int x :: st) h = ev 87 70 (l0 :: l1 :: l2 :: l3 :: l4 :: vkk l5 :: some (.int x) :: L) (st) h := G_istore f87_68 rfl (S1_6 l0 l1 l2 l3 l4 l5 l6 L _)
theorem f87_70 : fetch 87 70 = some (.iload 6, 2) := vtab tk87 38 rfl
theorem e87_70 (l0 l1 l2 l3 l4 l5 : Option Value) (L : VL) (st : List Value) (h : VG) (x : Int32) : ev 87 70 (l0 :: l1 :: l2 :: l3 :: l4 :: l5 :: some (.int x) :: L) (st) h = ev 87 72 (l0 :: l1 :: l2 :: l3 :: l4 :: l5 :: some (.int x) :: L) (.int x :: st) h := G_iload f87_70 rfl
theorem f87_72 : fetch 87 72 = some (.bipush 14, 2) := vtab tk87 39 rfl
theorem e87_72 (L : VL) (st : List Value) (h : VG) : ev 87 72 L (st) h = ev 87 74 L (.int (14 : Int32) :: st) h := G_bipush f87_72 (by decide)
theorem f87_74 : fetch 87 74 = some (.if_icmp .ge 74, 3) := vtab tk87 40 rfl
theorem e87_74 (L : VL) (st : List Value) (h : VG) (x y : Int32) : ev 87 74 L (.int y :: .int x :: st) h = if x < y then ev 87 77 L st h else ev 87 148 L st h := G_icmp_ge f87_74 (by decide)
theorem f87_77 : fetch 87 77 = some (.aload_n 0, 1) := vtab tk87 41 rfl
theorem e87_77 (L : VL) (st : List Value) (h : VG) (x : Nat) : ev 87 77 (some (.ref x) :: L) (st) h = ev 87 78 (some (.ref x) :: L) (.ref x :: st) h := G_aload_n f87_77 rfl
theorem f87_78 : fetch 87 78 = some (.getfield 9, 3) := vtab tk87 42 rfl
theorem e87_78 (L : VL) (st : List Value) (h : VG) (a : Nat) (ho : ob h a 9) (hr : isR h a 0) : ev 87 78 L (.ref a :: st) h = ev 87 81 L (.ref (gR h a 0) :: st) h := G_getR (p := 173) f87_78 lkF_10_9 (by decide) (by decide) ho hr
theorem f87_81 : fetch 87 81 = some (.iload 4, 2) := vtab tk87 43 rfl
theorem e87_81 (l0 l1 l2 l3 : Option Value) (L : VL) (st : List Value) (h : VG) (x : Int32) : ev 87 81 (l0 :: l1 :: l2 :: l3 :: some (.int x) :: L) (st) h = ev 87 83 (l0 :: l1 :: l2 :: l3 :: some (.int x) :: L) (.int x :: st) h := G_iload f87_81 rfl
theorem f87_83 : fetch 87 83 = some (.iaload, 1) := vtab tk87 44 rfl
theorem e87_83 (L : VL) (st : List Value) (h : VG) (a : Nat) (i : Int32) (ha : rdI h a) (hi : vp_in i (aln h a)) : ev 87 83 L (.int i :: .ref a :: st) h = ev 87 84 L (.int (aI h a i.toNatClampNeg) :: st) h := G_iald' f87_83 ha hi
theorem f87_84 : fetch 87 84 = some (.iconst 2, 1) := vtab tk87 45 rfl
theorem e87_84 (L : VL) (st : List Value) (h : VG) : ev 87 84 L (st) h = ev 87 85 L (.int (2 : Int32) :: st) h := G_iconst f87_84 (by decide)
theorem f87_85 : fetch 87 85 = some (.if_icmp .ne 63, 3) := vtab tk87 46 rfl
theorem e87_85 (L : VL) (st : List Value) (h : VG) (x y : Int32) : ev 87 85 L (.int y :: .int x :: st) h = if x = y then ev 87 88 L st h else ev 87 148 L st h := G_icmp_ne f87_85 (by decide)
theorem f87_88 : fetch 87 88 = some (.aload_n 0, 1) := vtab tk87 47 rfl
theorem e87_88 (L : VL) (st : List Value) (h : VG) (x : Nat) : ev 87 88 (some (.ref x) :: L) (st) h = ev 87 89 (some (.ref x) :: L) (.ref x :: st) h := G_aload_n f87_88 rfl
theorem f87_89 : fetch 87 89 = some (.getfield 22, 3) := vtab tk87 48 rfl
theorem e87_89 (L : VL) (st : List Value) (h : VG) (a : Nat) (ho : ob h a 9) (hr : isR h a 3) : ev 87 89 L (.ref a :: st) h = ev 87 92 L (.ref (gR h a 3) :: st) h := G_getR (p := 179) f87_89 lkF_10_22 (by decide) (by decide) ho hr
theorem f87_92 : fetch 87 92 = some (.iload 6, 2) := vtab tk87 49 rfl
theorem e87_92 (l0 l1 l2 l3 l4 l5 : Option Value) (L : VL) (st : List Value) (h : VG) (x : Int32) : ev 87 92 (l0 :: l1 :: l2 :: l3 :: l4 :: l5 :: some (.int x) :: L) (st) h = ev 87 94 (l0 :: l1 :: l2 :: l3 :: l4 :: l5 :: some (.int x) :: L) (.int x :: st) h := G_iload f87_92 rfl
theorem f87_94 : fetch 87 94 = some (.laload, 1) := vtab tk87 50 rfl
theorem e87_94 (L : VL) (st : List Value) (h : VG) (a : Nat) (i : Int32) (ha : arL h a) (hi : vp_in i (aln h a)) : ev 87 94 L (.int i :: .ref a :: st) h = ev 87 95 L (.long (aL h a i.toNatClampNeg) :: st) h := G_lald f87_94 ha hi
theorem f87_95 : fetch 87 95 = some (.aload_n 0, 1) := vtab tk87 51 rfl
theorem e87_95 (L : VL) (st : List Value) (h : VG) (x : Nat) : ev 87 95 (some (.ref x) :: L) (st) h = ev 87 96 (some (.ref x) :: L) (.ref x :: st) h := G_aload_n f87_95 rfl
theorem f87_96 : fetch 87 96 = some (.getfield 18, 3) := vtab tk87 52 rfl
theorem e87_96 (L : VL) (st : List Value) (h : VG) (a : Nat) (ho : ob h a 9) (hr : isR h a 2) : ev 87 96 L (.ref a :: st) h = ev 87 99 L (.ref (gR h a 2) :: st) h := G_getR (p := 177) f87_96 lkF_10_18 (by decide) (by decide) ho hr
theorem f87_99 : fetch 87 99 = some (.iload 4, 2) := vtab tk87 53 rfl
theorem e87_99 (l0 l1 l2 l3 : Option Value) (L : VL) (st : List Value) (h : VG) (x : Int32) : ev 87 99 (l0 :: l1 :: l2 :: l3 :: some (.int x) :: L) (st) h = ev 87 101 (l0 :: l1 :: l2 :: l3 :: some (.int x) :: L) (.int x :: st) h := G_iload f87_99 rfl
theorem f87_101 : fetch 87 101 = some (.laload, 1) := vtab tk87 54 rfl
theorem e87_101 (L : VL) (st : List Value) (h : VG) (a : Nat) (i : Int32) (ha : arL h a) (hi : vp_in i (aln h a)) : ev 87 101 L (.int i :: .ref a :: st) h = ev 87 102 L (.long (aL h a i.toNatClampNeg) :: st) h := G_lald f87_101 ha hi
theorem f87_102 : fetch 87 102 = some (.lcmp, 1) := vtab tk87 55 rfl
theorem e87_102 (L : VL) (st : List Value) (h : VG) (x y : Int64) : ev 87 102 L (.long y :: .long x :: st) h = ev 87 103 L (.int (lg_cmp x y) :: st) h := G_lcmp f87_102
theorem f87_103 : fetch 87 103 = some (.ifCond .ne 39, 3) := vtab tk87 56 rfl
theorem e87_103 (L : VL) (st : List Value) (h : VG) (x : Int32) : ev 87 103 L (.int x :: st) h = if x = 0 then ev 87 106 L st h else ev 87 142 L st h := G_if_ne f87_103 (by decide)
theorem f87_106 : fetch 87 106 = some (.aload_n 0, 1) := vtab tk87 57 rfl
theorem e87_106 (L : VL) (st : List Value) (h : VG) (x : Nat) : ev 87 106 (some (.ref x) :: L) (st) h = ev 87 107 (some (.ref x) :: L) (.ref x :: st) h := G_aload_n f87_106 rfl
theorem f87_107 : fetch 87 107 = some (.getfield 9, 3) := vtab tk87 58 rfl
theorem e87_107 (L : VL) (st : List Value) (h : VG) (a : Nat) (ho : ob h a 9) (hr : isR h a 0) : ev 87 107 L (.ref a :: st) h = ev 87 110 L (.ref (gR h a 0) :: st) h := G_getR (p := 173) f87_107 lkF_10_9 (by decide) (by decide) ho hr
theorem f87_110 : fetch 87 110 = some (.iload 4, 2) := vtab tk87 59 rfl
theorem e87_110 (l0 l1 l2 l3 : Option Value) (L : VL) (st : List Value) (h : VG) (x : Int32) : ev 87 110 (l0 :: l1 :: l2 :: l3 :: some (.int x) :: L) (st) h = ev 87 112 (l0 :: l1 :: l2 :: l3 :: some (.int x) :: L) (.int x :: st) h := G_iload f87_110 rfl
theorem f87_112 : fetch 87 112 = some (.iload 6, 2) := vtab tk87 60 rfl
theorem e87_112 (l0 l1 l2 l3 l4 l5 : Option Value) (L : VL) (st : List Value) (h : VG) (x : Int32) : ev 87 112 (l0 :: l1 :: l2 :: l3 :: l4 :: l5 :: some (.int x) :: L) (st) h = ev 87 114 (l0 :: l1 :: l2 :: l3 :: l4 :: l5 :: some (.int x) :: L) (.int x :: st) h := G_iload f87_112 rfl
theorem f87_114 : fetch 87 114 = some (.bipush 10, 2) := vtab tk87 61 rfl
theorem e87_114 (L : VL) (st : List Value) (h : VG) : ev 87 114 L (st) h = ev 87 116 L (.int (10 : Int32) :: st) h := G_bipush f87_114 (by decide)
theorem f87_116 : fetch 87 116 = some (.if_icmp .ge 7, 3) := vtab tk87 62 rfl
theorem e87_116 (L : VL) (st : List Value) (h : VG) (x y : Int32) : ev 87 116 L (.int y :: .int x :: st) h = if x < y then ev 87 119 L st h else ev 87 123 L st h := G_icmp_ge f87_116 (by decide)
theorem f87_119 : fetch 87 119 = some (.iconst 5, 1) := vtab tk87 63 rfl
theorem e87_119 (L : VL) (st : List Value) (h : VG) : ev 87 119 L (st) h = ev 87 120 L (.int (5 : Int32) :: st) h := G_iconst f87_119 (by decide)
theorem f87_120 : fetch 87 120 = some (.goto 11, 3) := vtab tk87 64 rfl
theorem e87_120 (L : VL) (st : List Value) (h : VG) : ev 87 120 L (st) h = ev 87 131 L (st) h := G_goto f87_120 (by decide)
theorem f87_123 : fetch 87 123 = some (.bipush 6, 2) := vtab tk87 65 rfl
theorem e87_123 (L : VL) (st : List Value) (h : VG) : ev 87 123 L (st) h = ev 87 125 L (.int (6 : Int32) :: st) h := G_bipush f87_123 (by decide)
theorem f87_125 : fetch 87 125 = some (.iload 6, 2) := vtab tk87 66 rfl
theorem e87_125 (l0 l1 l2 l3 l4 l5 : Option Value) (L : VL) (st : List Value) (h : VG) (x : Int32) : ev 87 125 (l0 :: l1 :: l2 :: l3 :: l4 :: l5 :: some (.int x) :: L) (st) h = ev 87 127 (l0 :: l1 :: l2 :: l3 :: l4 :: l5 :: some (.int x) :: L) (.int x :: st) h := G_iload f87_125 rfl
theorem f87_127 : fetch 87 127 = some (.iadd, 1) := vtab tk87 67 rfl
theorem e87_127 (L : VL) (st : List Value) (h : VG) (x y : Int32) : ev 87 127 L (.int y :: .int x :: st) h = ev 87 128 L (.int (x + y) :: st) h := G_iadd f87_127
theorem f87_128 : fetch 87 128 = some (.bipush 10, 2) := vtab tk87 68 rfl
theorem e87_128 (L : VL) (st : List Value) (h : VG) : ev 87 128 L (st) h = ev 87 130 L (.int (10 : Int32) :: st) h := G_bipush f87_128 (by decide)
theorem f87_130 : fetch 87 130 = some (.isub, 1) := vtab tk87 69 rfl
theorem e87_130 (L : VL) (st : List Value) (h : VG) (x y : Int32) : ev 87 130 L (.int y :: .int x :: st) h = ev 87 131 L (.int (x - y) :: st) h := G_isub f87_130
theorem f87_131 : fetch 87 131 = some (.iastore, 1) := vtab tk87 70 rfl
theorem e87_131 (L : VL) (st : List Value) (h : VG) (a : Nat) (i : Int32) (x : Int32) (ha : arI h a 0) (hi : vp_in i (aln h a)) : ev 87 131 L (.int x :: .int i :: .ref a :: st) h = ev 87 132 L (st) (wI h a i.toNatClampNeg x) := G_iast f87_131 ha hi
theorem f87_132 : fetch 87 132 = some (.aload_n 0, 1) := vtab tk87 71 rfl
theorem e87_132 (L : VL) (st : List Value) (h : VG) (x : Nat) : ev 87 132 (some (.ref x) :: L) (st) h = ev 87 133 (some (.ref x) :: L) (.ref x :: st) h := G_aload_n f87_132 rfl
theorem f87_133 : fetch 87 133 = some (.getfield 18, 3) := vtab tk87 72 rfl
theorem e87_133 (L : VL) (st : List Value) (h : VG) (a : Nat) (ho : ob h a 9) (hr : isR h a 2) : ev 87 133 L (.ref a :: st) h = ev 87 136 L (.ref (gR h a 2) :: st) h := G_getR (p := 177) f87_133 lkF_10_18 (by decide) (by decide) ho hr
theorem f87_136 : fetch 87 136 = some (.iload 4, 2) := vtab tk87 73 rfl
theorem e87_136 (l0 l1 l2 l3 : Option Value) (L : VL) (st : List Value) (h : VG) (x : Int32) : ev 87 136 (l0 :: l1 :: l2 :: l3 :: some (.int x) :: L) (st) h = ev 87 138 (l0 :: l1 :: l2 :: l3 :: some (.int x) :: L) (.int x :: st) h := G_iload f87_136 rfl
theorem f87_138 : fetch 87 138 = some (.iload 6, 2) := vtab tk87 74 rfl
theorem e87_138 (l0 l1 l2 l3 l4 l5 : Option Value) (L : VL) (st : List Value) (h : VG) (x : Int32) : ev 87 138 (l0 :: l1 :: l2 :: l3 :: l4 :: l5 :: some (.int x) :: L) (st) h = ev 87 140 (l0 :: l1 :: l2 :: l3 :: l4 :: l5 :: some (.int x) :: L) (.int x :: st) h := G_iload f87_138 rfl
theorem f87_140 : fetch 87 140 = some (.i2l, 1) := vtab tk87 75 rfl
theorem e87_140 (L : VL) (st : List Value) (h : VG) (x : Int32) : ev 87 140 L (.int x :: st) h = ev 87 141 L (.long x.toInt64 :: st) h := G_i2l f87_140
theorem f87_141 : fetch 87 141 = some (.lastore, 1) := vtab tk87 76 rfl
theorem e87_141 (L : VL) (st : List Value) (h : VG) (a : Nat) (i : Int32) (x : Int64) (ha : arL h a) (hi : vp_in i (aln h a)) : ev 87 141 L (.long x :: .int i :: .ref a :: st) h = ev 87 142 L (st) (wL h a i.toNatClampNeg x) := G_last f87_141 ha hi
theorem f87_142 : fetch 87 142 = some (.iinc 6 1, 3) := vtab tk87 77 rfl
theorem e87_142 (l0 l1 l2 l3 l4 l5 : Option Value) (L : VL) (st : List Value) (h : VG) (x : Int32) : ev 87 142 (l0 :: l1 :: l2 :: l3 :: l4 :: l5 :: some (.int x) :: L) (st) h = ev 87 145 (l0 :: l1 :: l2 :: l3 :: l4 :: vkk l5 :: some (.int (x + (1 : Int32))) :: L) (st) h := G_iinc f87_142 rfl (by decide) (S1_6 l0 l1 l2 l3 l4 l5 (some (.int x)) L _)
theorem f87_145 : fetch 87 145 = some (.goto (-75), 3) := vtab tk87 78 rfl
theorem e87_145 (L : VL) (st : List Value) (h : VG) : ev 87 145 L (st) h = ev 87 70 L (st) h := G_goto f87_145 (by decide)
theorem f87_148 : fetch 87 148 = some (.iload 5, 2) := vtab tk87 79 rfl
theorem e87_148 (l0 l1 l2 l3 l4 : Option Value) (L : VL) (st : List Value) (h : VG) (x : Int32) : ev 87 148 (l0 :: l1 :: l2 :: l3 :: l4 :: some (.int x) :: L) (st) h = ev 87 150 (l0 :: l1 :: l2 :: l3 :: l4 :: some (.int x) :: L) (.int x :: st) h := G_iload f87_148 rfl
theorem f87_150 : fetch 87 150 = some (.ireturn, 1) := vtab tk87 80 rfl
theorem e87_150 (L : VL) (h : VG) (x : Int32) : ev 87 150 L [.int x] h = some (some (.int x), h) := G_iret f87_150 (ty := .int) (by decide) rfl
