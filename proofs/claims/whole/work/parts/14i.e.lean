/-! 235 java/lang/Integer.numberOfLeadingZeros(I)I -/
def tb235 : List (Nat × Instr × Nat) := [(0, .iload_n 0, 1), (1, .ifCond .gt 14, 3), (4, .iload_n 0, 1), (5, .ifCond .ne 8, 3), (8, .bipush 32, 2), (10, .goto 4, 3), (13, .iconst 0, 1), (14, .ireturn, 1), (15, .bipush 31, 2), (17, .istore_n 1, 1), (18, .iload_n 0, 1), (19, .ldc_w 264, 3), (22, .if_icmp .lt 11, 3), (25, .iinc 1 (-16), 3), (28, .iload_n 0, 1), (29, .bipush 16, 2), (31, .iushr, 1), (32, .istore_n 0, 1), (33, .iload_n 0, 1), (34, .sipush 256, 3), (37, .if_icmp .lt 11, 3), (40, .iinc 1 (-8), 3), (43, .iload_n 0, 1), (44, .bipush 8, 2), (46, .iushr, 1), (47, .istore_n 0, 1), (48, .iload_n 0, 1), (49, .bipush 16, 2), (51, .if_icmp .lt 10, 3), (54, .iinc 1 (-4), 3), (57, .iload_n 0, 1), (58, .iconst 4, 1), (59, .iushr, 1), (60, .istore_n 0, 1), (61, .iload_n 0, 1), (62, .iconst 4, 1), (63, .if_icmp .lt 10, 3), (66, .iinc 1 (-2), 3), (69, .iload_n 0, 1), (70, .iconst 2, 1), (71, .iushr, 1), (72, .istore_n 0, 1), (73, .iload_n 1, 1), (74, .iload_n 0, 1), (75, .iconst 1, 1), (76, .iushr, 1), (77, .isub, 1), (78, .ireturn, 1)]
theorem tk235 : tb235.all (fun q => decide (fetch 235 q.1 = some q.2)) = true := by decide +kernel
theorem f235_0 : fetch 235 0 = some (.iload_n 0, 1) := vtab tk235 0 rfl
theorem e235_0 (L : VL) (st : List Value) (h : VG) (x : Int32) : ev 235 0 (some (.int x) :: L) (st) h = ev 235 1 (some (.int x) :: L) (.int x :: st) h := G_iload_n f235_0 rfl
theorem f235_1 : fetch 235 1 = some (.ifCond .gt 14, 3) := vtab tk235 1 rfl
theorem e235_1 (L : VL) (st : List Value) (h : VG) (x : Int32) : ev 235 1 L (.int x :: st) h = if x ≤ 0 then ev 235 4 L st h else ev 235 15 L st h := G_if_gt f235_1 (by decide)
theorem f235_4 : fetch 235 4 = some (.iload_n 0, 1) := vtab tk235 2 rfl
theorem e235_4 (L : VL) (st : List Value) (h : VG) (x : Int32) : ev 235 4 (some (.int x) :: L) (st) h = ev 235 5 (some (.int x) :: L) (.int x :: st) h := G_iload_n f235_4 rfl
theorem f235_5 : fetch 235 5 = some (.ifCond .ne 8, 3) := vtab tk235 3 rfl
theorem e235_5 (L : VL) (st : List Value) (h : VG) (x : Int32) : ev 235 5 L (.int x :: st) h = if x = 0 then ev 235 8 L st h else ev 235 13 L st h := G_if_ne f235_5 (by decide)
theorem f235_8 : fetch 235 8 = some (.bipush 32, 2) := vtab tk235 4 rfl
theorem e235_8 (L : VL) (st : List Value) (h : VG) : ev 235 8 L (st) h = ev 235 10 L (.int (32 : Int32) :: st) h := G_bipush f235_8 (by decide)
theorem f235_10 : fetch 235 10 = some (.goto 4, 3) := vtab tk235 5 rfl
theorem e235_10 (L : VL) (st : List Value) (h : VG) : ev 235 10 L (st) h = ev 235 14 L (st) h := G_goto f235_10 (by decide)
theorem f235_13 : fetch 235 13 = some (.iconst 0, 1) := vtab tk235 6 rfl
theorem e235_13 (L : VL) (st : List Value) (h : VG) : ev 235 13 L (st) h = ev 235 14 L (.int (0 : Int32) :: st) h := G_iconst f235_13 (by decide)
theorem f235_14 : fetch 235 14 = some (.ireturn, 1) := vtab tk235 7 rfl
theorem e235_14 (L : VL) (h : VG) (x : Int32) : ev 235 14 L [.int x] h = some (some (.int x), h) := G_iret f235_14 (ty := .int) (by decide) rfl
theorem f235_15 : fetch 235 15 = some (.bipush 31, 2) := vtab tk235 8 rfl
theorem e235_15 (L : VL) (st : List Value) (h : VG) : ev 235 15 L (st) h = ev 235 17 L (.int (31 : Int32) :: st) h := G_bipush f235_15 (by decide)
theorem f235_17 : fetch 235 17 = some (.istore_n 1, 1) := vtab tk235 9 rfl
theorem e235_17 (l0 l1 : Option Value) (L : VL) (st : List Value) (h : VG) (x : Int32) : ev 235 17 (l0 :: l1 :: L) (.int x :: st) h = ev 235 18 (vkk l0 :: some (.int x) :: L) (st) h := G_istore_n f235_17 rfl (S1_1 l0 l1 L _)
theorem f235_18 : fetch 235 18 = some (.iload_n 0, 1) := vtab tk235 10 rfl
theorem e235_18 (L : VL) (st : List Value) (h : VG) (x : Int32) : ev 235 18 (some (.int x) :: L) (st) h = ev 235 19 (some (.int x) :: L) (.int x :: st) h := G_iload_n f235_18 rfl
theorem f235_19 : fetch 235 19 = some (.ldc_w 264, 3) := vtab tk235 11 rfl
theorem e235_19 (L : VL) (st : List Value) (h : VG) : ev 235 19 L (st) h = ev 235 22 L (.int 65536 :: st) h := G_ldcw (p := 759) f235_19 lkK_14_264
theorem f235_22 : fetch 235 22 = some (.if_icmp .lt 11, 3) := vtab tk235 12 rfl
theorem e235_22 (L : VL) (st : List Value) (h : VG) (x y : Int32) : ev 235 22 L (.int y :: .int x :: st) h = if x < y then ev 235 33 L st h else ev 235 25 L st h := G_icmp_lt f235_22 (by decide)
theorem f235_25 : fetch 235 25 = some (.iinc 1 (-16), 3) := vtab tk235 13 rfl
theorem e235_25 (l0 : Option Value) (L : VL) (st : List Value) (h : VG) (x : Int32) : ev 235 25 (l0 :: some (.int x) :: L) (st) h = ev 235 28 (vkk l0 :: some (.int (x + (-16 : Int32))) :: L) (st) h := G_iinc f235_25 rfl (by decide) (S1_1 l0 (some (.int x)) L _)
theorem f235_28 : fetch 235 28 = some (.iload_n 0, 1) := vtab tk235 14 rfl
theorem e235_28 (L : VL) (st : List Value) (h : VG) (x : Int32) : ev 235 28 (some (.int x) :: L) (st) h = ev 235 29 (some (.int x) :: L) (.int x :: st) h := G_iload_n f235_28 rfl
theorem f235_29 : fetch 235 29 = some (.bipush 16, 2) := vtab tk235 15 rfl
theorem e235_29 (L : VL) (st : List Value) (h : VG) : ev 235 29 L (st) h = ev 235 31 L (.int (16 : Int32) :: st) h := G_bipush f235_29 (by decide)
theorem f235_31 : fetch 235 31 = some (.iushr, 1) := vtab tk235 16 rfl
theorem e235_31 (L : VL) (st : List Value) (h : VG) (x y : Int32) : ev 235 31 L (.int y :: .int x :: st) h = ev 235 32 L (.int ((x.toUInt32 >>> (y.toUInt32 &&& Int32.toUInt32 31)).toInt32) :: st) h := G_iushr f235_31
theorem f235_32 : fetch 235 32 = some (.istore_n 0, 1) := vtab tk235 17 rfl
theorem e235_32 (l0 : Option Value) (L : VL) (st : List Value) (h : VG) (x : Int32) : ev 235 32 (l0 :: L) (.int x :: st) h = ev 235 33 (some (.int x) :: L) (st) h := G_istore_n f235_32 rfl (S1_0 l0 L _)
theorem f235_33 : fetch 235 33 = some (.iload_n 0, 1) := vtab tk235 18 rfl
theorem e235_33 (L : VL) (st : List Value) (h : VG) (x : Int32) : ev 235 33 (some (.int x) :: L) (st) h = ev 235 34 (some (.int x) :: L) (.int x :: st) h := G_iload_n f235_33 rfl
theorem f235_34 : fetch 235 34 = some (.sipush 256, 3) := vtab tk235 19 rfl
theorem e235_34 (L : VL) (st : List Value) (h : VG) : ev 235 34 L (st) h = ev 235 37 L (.int (256 : Int32) :: st) h := G_sipush f235_34 (by decide)
theorem f235_37 : fetch 235 37 = some (.if_icmp .lt 11, 3) := vtab tk235 20 rfl
theorem e235_37 (L : VL) (st : List Value) (h : VG) (x y : Int32) : ev 235 37 L (.int y :: .int x :: st) h = if x < y then ev 235 48 L st h else ev 235 40 L st h := G_icmp_lt f235_37 (by decide)
theorem f235_40 : fetch 235 40 = some (.iinc 1 (-8), 3) := vtab tk235 21 rfl
theorem e235_40 (l0 : Option Value) (L : VL) (st : List Value) (h : VG) (x : Int32) : ev 235 40 (l0 :: some (.int x) :: L) (st) h = ev 235 43 (vkk l0 :: some (.int (x + (-8 : Int32))) :: L) (st) h := G_iinc f235_40 rfl (by decide) (S1_1 l0 (some (.int x)) L _)
theorem f235_43 : fetch 235 43 = some (.iload_n 0, 1) := vtab tk235 22 rfl
theorem e235_43 (L : VL) (st : List Value) (h : VG) (x : Int32) : ev 235 43 (some (.int x) :: L) (st) h = ev 235 44 (some (.int x) :: L) (.int x :: st) h := G_iload_n f235_43 rfl
theorem f235_44 : fetch 235 44 = some (.bipush 8, 2) := vtab tk235 23 rfl
theorem e235_44 (L : VL) (st : List Value) (h : VG) : ev 235 44 L (st) h = ev 235 46 L (.int (8 : Int32) :: st) h := G_bipush f235_44 (by decide)
theorem f235_46 : fetch 235 46 = some (.iushr, 1) := vtab tk235 24 rfl
theorem e235_46 (L : VL) (st : List Value) (h : VG) (x y : Int32) : ev 235 46 L (.int y :: .int x :: st) h = ev 235 47 L (.int ((x.toUInt32 >>> (y.toUInt32 &&& Int32.toUInt32 31)).toInt32) :: st) h := G_iushr f235_46
theorem f235_47 : fetch 235 47 = some (.istore_n 0, 1) := vtab tk235 25 rfl
theorem e235_47 (l0 : Option Value) (L : VL) (st : List Value) (h : VG) (x : Int32) : ev 235 47 (l0 :: L) (.int x :: st) h = ev 235 48 (some (.int x) :: L) (st) h := G_istore_n f235_47 rfl (S1_0 l0 L _)
theorem f235_48 : fetch 235 48 = some (.iload_n 0, 1) := vtab tk235 26 rfl
theorem e235_48 (L : VL) (st : List Value) (h : VG) (x : Int32) : ev 235 48 (some (.int x) :: L) (st) h = ev 235 49 (some (.int x) :: L) (.int x :: st) h := G_iload_n f235_48 rfl
theorem f235_49 : fetch 235 49 = some (.bipush 16, 2) := vtab tk235 27 rfl
theorem e235_49 (L : VL) (st : List Value) (h : VG) : ev 235 49 L (st) h = ev 235 51 L (.int (16 : Int32) :: st) h := G_bipush f235_49 (by decide)
theorem f235_51 : fetch 235 51 = some (.if_icmp .lt 10, 3) := vtab tk235 28 rfl
theorem e235_51 (L : VL) (st : List Value) (h : VG) (x y : Int32) : ev 235 51 L (.int y :: .int x :: st) h = if x < y then ev 235 61 L st h else ev 235 54 L st h := G_icmp_lt f235_51 (by decide)
theorem f235_54 : fetch 235 54 = some (.iinc 1 (-4), 3) := vtab tk235 29 rfl
theorem e235_54 (l0 : Option Value) (L : VL) (st : List Value) (h : VG) (x : Int32) : ev 235 54 (l0 :: some (.int x) :: L) (st) h = ev 235 57 (vkk l0 :: some (.int (x + (-4 : Int32))) :: L) (st) h := G_iinc f235_54 rfl (by decide) (S1_1 l0 (some (.int x)) L _)
theorem f235_57 : fetch 235 57 = some (.iload_n 0, 1) := vtab tk235 30 rfl
theorem e235_57 (L : VL) (st : List Value) (h : VG) (x : Int32) : ev 235 57 (some (.int x) :: L) (st) h = ev 235 58 (some (.int x) :: L) (.int x :: st) h := G_iload_n f235_57 rfl
theorem f235_58 : fetch 235 58 = some (.iconst 4, 1) := vtab tk235 31 rfl
theorem e235_58 (L : VL) (st : List Value) (h : VG) : ev 235 58 L (st) h = ev 235 59 L (.int (4 : Int32) :: st) h := G_iconst f235_58 (by decide)
theorem f235_59 : fetch 235 59 = some (.iushr, 1) := vtab tk235 32 rfl
theorem e235_59 (L : VL) (st : List Value) (h : VG) (x y : Int32) : ev 235 59 L (.int y :: .int x :: st) h = ev 235 60 L (.int ((x.toUInt32 >>> (y.toUInt32 &&& Int32.toUInt32 31)).toInt32) :: st) h := G_iushr f235_59
theorem f235_60 : fetch 235 60 = some (.istore_n 0, 1) := vtab tk235 33 rfl
theorem e235_60 (l0 : Option Value) (L : VL) (st : List Value) (h : VG) (x : Int32) : ev 235 60 (l0 :: L) (.int x :: st) h = ev 235 61 (some (.int x) :: L) (st) h := G_istore_n f235_60 rfl (S1_0 l0 L _)
theorem f235_61 : fetch 235 61 = some (.iload_n 0, 1) := vtab tk235 34 rfl
theorem e235_61 (L : VL) (st : List Value) (h : VG) (x : Int32) : ev 235 61 (some (.int x) :: L) (st) h = ev 235 62 (some (.int x) :: L) (.int x :: st) h := G_iload_n f235_61 rfl
theorem f235_62 : fetch 235 62 = some (.iconst 4, 1) := vtab tk235 35 rfl
theorem e235_62 (L : VL) (st : List Value) (h : VG) : ev 235 62 L (st) h = ev 235 63 L (.int (4 : Int32) :: st) h := G_iconst f235_62 (by decide)
theorem f235_63 : fetch 235 63 = some (.if_icmp .lt 10, 3) := vtab tk235 36 rfl
theorem e235_63 (L : VL) (st : List Value) (h : VG) (x y : Int32) : ev 235 63 L (.int y :: .int x :: st) h = if x < y then ev 235 73 L st h else ev 235 66 L st h := G_icmp_lt f235_63 (by decide)
theorem f235_66 : fetch 235 66 = some (.iinc 1 (-2), 3) := vtab tk235 37 rfl
theorem e235_66 (l0 : Option Value) (L : VL) (st : List Value) (h : VG) (x : Int32) : ev 235 66 (l0 :: some (.int x) :: L) (st) h = ev 235 69 (vkk l0 :: some (.int (x + (-2 : Int32))) :: L) (st) h := G_iinc f235_66 rfl (by decide) (S1_1 l0 (some (.int x)) L _)
theorem f235_69 : fetch 235 69 = some (.iload_n 0, 1) := vtab tk235 38 rfl
theorem e235_69 (L : VL) (st : List Value) (h : VG) (x : Int32) : ev 235 69 (some (.int x) :: L) (st) h = ev 235 70 (some (.int x) :: L) (.int x :: st) h := G_iload_n f235_69 rfl
theorem f235_70 : fetch 235 70 = some (.iconst 2, 1) := vtab tk235 39 rfl
theorem e235_70 (L : VL) (st : List Value) (h : VG) : ev 235 70 L (st) h = ev 235 71 L (.int (2 : Int32) :: st) h := G_iconst f235_70 (by decide)
theorem f235_71 : fetch 235 71 = some (.iushr, 1) := vtab tk235 40 rfl
theorem e235_71 (L : VL) (st : List Value) (h : VG) (x y : Int32) : ev 235 71 L (.int y :: .int x :: st) h = ev 235 72 L (.int ((x.toUInt32 >>> (y.toUInt32 &&& Int32.toUInt32 31)).toInt32) :: st) h := G_iushr f235_71
theorem f235_72 : fetch 235 72 = some (.istore_n 0, 1) := vtab tk235 41 rfl
theorem e235_72 (l0 : Option Value) (L : VL) (st : List Value) (h : VG) (x : Int32) : ev 235 72 (l0 :: L) (.int x :: st) h = ev 235 73 (some (.int x) :: L) (st) h := G_istore_n f235_72 rfl (S1_0 l0 L _)
theorem f235_73 : fetch 235 73 = some (.iload_n 1, 1) := vtab tk235 42 rfl
theorem e235_73 (l0 : Option Value) (L : VL) (st : List Value) (h : VG) (x : Int32) : ev 235 73 (l0 :: some (.int x) :: L) (st) h = ev 235 74 (l0 :: some (.int x) :: L) (.int x :: st) h := G_iload_n f235_73 rfl
theorem f235_74 : fetch 235 74 = some (.iload_n 0, 1) := vtab tk235 43 rfl
theorem e235_74 (L : VL) (st : List Value) (h : VG) (x : Int32) : ev 235 74 (some (.int x) :: L) (st) h = ev 235 75 (some (.int x) :: L) (.int x :: st) h := G_iload_n f235_74 rfl
theorem f235_75 : fetch 235 75 = some (.iconst 1, 1) := vtab tk235 44 rfl
theorem e235_75 (L : VL) (st : List Value) (h : VG) : ev 235 75 L (st) h = ev 235 76 L (.int (1 : Int32) :: st) h := G_iconst f235_75 (by decide)
theorem f235_76 : fetch 235 76 = some (.iushr, 1) := vtab tk235 45 rfl
theorem e235_76 (L : VL) (st : List Value) (h : VG) (x y : Int32) : ev 235 76 L (.int y :: .int x :: st) h = ev 235 77 L (.int ((x.toUInt32 >>> (y.toUInt32 &&& Int32.toUInt32 31)).toInt32) :: st) h := G_iushr f235_76
theorem f235_77 : fetch 235 77 = some (.isub, 1) := vtab tk235 46 rfl
theorem e235_77 (L : VL) (st : List Value) (h : VG) (x y : Int32) : ev 235 77 L (.int y :: .int x :: st) h = ev 235 78 L (.int (x - y) :: st) h := G_isub f235_77
theorem f235_78 : fetch 235 78 = some (.ireturn, 1) := vtab tk235 47 rfl
theorem e235_78 (L : VL) (h : VG) (x : Int32) : ev 235 78 L [.int x] h = some (some (.int x), h) := G_iret f235_78 (ty := .int) (by decide) rfl
/-! 236 java/lang/Long.numberOfLeadingZeros(J)I -/
def tb236 : List (Nat × Instr × Nat) := [(0, .lload_n 0, 1), (1, .bipush 32, 2), (3, .lushr, 1), (4, .l2i, 1), (5, .istore_n 2, 1), (6, .iload_n 2, 1), (7, .ifCond .ne 14, 3), (10, .bipush 32, 2), (12, .lload_n 0, 1), (13, .l2i, 1), (14, .invokestatic 308, 3), (17, .iadd, 1), (18, .goto 7, 3), (21, .iload_n 2, 1), (22, .invokestatic 308, 3), (25, .ireturn, 1)]
theorem tk236 : tb236.all (fun q => decide (fetch 236 q.1 = some q.2)) = true := by decide +kernel
theorem f236_0 : fetch 236 0 = some (.lload_n 0, 1) := vtab tk236 0 rfl
theorem e236_0 (L : VL) (st : List Value) (h : VG) (x : Int64) : ev 236 0 (some (.long x) :: L) (st) h = ev 236 1 (some (.long x) :: L) (.long x :: st) h := G_lload_n f236_0 rfl
theorem f236_1 : fetch 236 1 = some (.bipush 32, 2) := vtab tk236 1 rfl
theorem e236_1 (L : VL) (st : List Value) (h : VG) : ev 236 1 L (st) h = ev 236 3 L (.int (32 : Int32) :: st) h := G_bipush f236_1 (by decide)
theorem f236_3 : fetch 236 3 = some (.lushr, 1) := vtab tk236 2 rfl
theorem e236_3 (L : VL) (st : List Value) (h : VG) (x : Int64) (y : Int32) : ev 236 3 L (.int y :: .long x :: st) h = ev 236 4 L (.long ((x.toUInt64 >>> (y.toInt64.toUInt64 &&& Int64.toUInt64 63)).toInt64) :: st) h := G_lushr f236_3
theorem f236_4 : fetch 236 4 = some (.l2i, 1) := vtab tk236 3 rfl
theorem e236_4 (L : VL) (st : List Value) (h : VG) (x : Int64) : ev 236 4 L (.long x :: st) h = ev 236 5 L (.int x.toInt32 :: st) h := G_l2i f236_4
theorem f236_5 : fetch 236 5 = some (.istore_n 2, 1) := vtab tk236 4 rfl
theorem e236_5 (l0 l1 l2 : Option Value) (L : VL) (st : List Value) (h : VG) (x : Int32) : ev 236 5 (l0 :: l1 :: l2 :: L) (.int x :: st) h = ev 236 6 (l0 :: vkk l1 :: some (.int x) :: L) (st) h := G_istore_n f236_5 rfl (S1_2 l0 l1 l2 L _)
theorem f236_6 : fetch 236 6 = some (.iload_n 2, 1) := vtab tk236 5 rfl
theorem e236_6 (l0 l1 : Option Value) (L : VL) (st : List Value) (h : VG) (x : Int32) : ev 236 6 (l0 :: l1 :: some (.int x) :: L) (st) h = ev 236 7 (l0 :: l1 :: some (.int x) :: L) (.int x :: st) h := G_iload_n f236_6 rfl
theorem f236_7 : fetch 236 7 = some (.ifCond .ne 14, 3) := vtab tk236 6 rfl
theorem e236_7 (L : VL) (st : List Value) (h : VG) (x : Int32) : ev 236 7 L (.int x :: st) h = if x = 0 then ev 236 10 L st h else ev 236 21 L st h := G_if_ne f236_7 (by decide)
theorem f236_10 : fetch 236 10 = some (.bipush 32, 2) := vtab tk236 7 rfl
theorem e236_10 (L : VL) (st : List Value) (h : VG) : ev 236 10 L (st) h = ev 236 12 L (.int (32 : Int32) :: st) h := G_bipush f236_10 (by decide)
theorem f236_12 : fetch 236 12 = some (.lload_n 0, 1) := vtab tk236 8 rfl
theorem e236_12 (L : VL) (st : List Value) (h : VG) (x : Int64) : ev 236 12 (some (.long x) :: L) (st) h = ev 236 13 (some (.long x) :: L) (.long x :: st) h := G_lload_n f236_12 rfl
theorem f236_13 : fetch 236 13 = some (.l2i, 1) := vtab tk236 9 rfl
theorem e236_13 (L : VL) (st : List Value) (h : VG) (x : Int64) : ev 236 13 L (.long x :: st) h = ev 236 14 L (.int x.toInt32 :: st) h := G_l2i f236_13
theorem f236_14 : fetch 236 14 = some (.invokestatic 308, 3) := vtab tk236 10 rfl
theorem e236_14 (L : VL) (st : List Value) (h : VG) (x0 : Int32) (hs : catS st ≤ 8) : ev 236 14 L (.int x0 :: st) h = (ev 235 0 [some (.int x0), none] [] h).bind fun q => ev 236 17 L (q.1.toList ++ st) q.2 := G_calls (k := 0) (p := 756) (ars := [.int x0]) f236_14 lkC_15_308 (by decide) (by decide +kernel) rfl (Nat.le_of_ble_eq_true rfl) hs rfl
theorem f236_17 : fetch 236 17 = some (.iadd, 1) := vtab tk236 11 rfl
theorem e236_17 (L : VL) (st : List Value) (h : VG) (x y : Int32) : ev 236 17 L (.int y :: .int x :: st) h = ev 236 18 L (.int (x + y) :: st) h := G_iadd f236_17
theorem f236_18 : fetch 236 18 = some (.goto 7, 3) := vtab tk236 12 rfl
theorem e236_18 (L : VL) (st : List Value) (h : VG) : ev 236 18 L (st) h = ev 236 25 L (st) h := G_goto f236_18 (by decide)
theorem f236_21 : fetch 236 21 = some (.iload_n 2, 1) := vtab tk236 13 rfl
theorem e236_21 (l0 l1 : Option Value) (L : VL) (st : List Value) (h : VG) (x : Int32) : ev 236 21 (l0 :: l1 :: some (.int x) :: L) (st) h = ev 236 22 (l0 :: l1 :: some (.int x) :: L) (.int x :: st) h := G_iload_n f236_21 rfl
theorem f236_22 : fetch 236 22 = some (.invokestatic 308, 3) := vtab tk236 14 rfl
theorem e236_22 (L : VL) (st : List Value) (h : VG) (x0 : Int32) (hs : catS st ≤ 8) : ev 236 22 L (.int x0 :: st) h = (ev 235 0 [some (.int x0), none] [] h).bind fun q => ev 236 25 L (q.1.toList ++ st) q.2 := G_calls (k := 0) (p := 756) (ars := [.int x0]) f236_22 lkC_15_308 (by decide) (by decide +kernel) rfl (Nat.le_of_ble_eq_true rfl) hs rfl
theorem f236_25 : fetch 236 25 = some (.ireturn, 1) := vtab tk236 15 rfl
theorem e236_25 (L : VL) (h : VG) (x : Int32) : ev 236 25 L [.int x] h = some (some (.int x), h) := G_iret f236_25 (ty := .int) (by decide) rfl
/-! 237 java/util/Arrays.fill([JJ)V -/
def tb237 : List (Nat × Instr × Nat) := [(0, .iconst 0, 1), (1, .istore_n 3, 1), (2, .aload_n 0, 1), (3, .arraylength, 1), (4, .istore 4, 2), (6, .iload_n 3, 1), (7, .iload 4, 2), (9, .if_icmp .ge 13, 3), (12, .aload_n 0, 1), (13, .iload_n 3, 1), (14, .lload_n 1, 1), (15, .lastore, 1), (16, .iinc 3 1, 3), (19, .goto (-13), 3), (22, .return_, 1)]
theorem tk237 : tb237.all (fun q => decide (fetch 237 q.1 = some q.2)) = true := by decide +kernel
theorem f237_0 : fetch 237 0 = some (.iconst 0, 1) := vtab tk237 0 rfl
theorem e237_0 (L : VL) (st : List Value) (h : VG) : ev 237 0 L (st) h = ev 237 1 L (.int (0 : Int32) :: st) h := G_iconst f237_0 (by decide)
theorem f237_1 : fetch 237 1 = some (.istore_n 3, 1) := vtab tk237 1 rfl
theorem e237_1 (l0 l1 l2 l3 : Option Value) (L : VL) (st : List Value) (h : VG) (x : Int32) : ev 237 1 (l0 :: l1 :: l2 :: l3 :: L) (.int x :: st) h = ev 237 2 (l0 :: l1 :: vkk l2 :: some (.int x) :: L) (st) h := G_istore_n f237_1 rfl (S1_3 l0 l1 l2 l3 L _)
theorem f237_2 : fetch 237 2 = some (.aload_n 0, 1) := vtab tk237 2 rfl
theorem e237_2 (L : VL) (st : List Value) (h : VG) (x : Nat) : ev 237 2 (some (.ref x) :: L) (st) h = ev 237 3 (some (.ref x) :: L) (.ref x :: st) h := G_aload_n f237_2 rfl
theorem f237_3 : fetch 237 3 = some (.arraylength, 1) := vtab tk237 3 rfl
theorem e237_3 (L : VL) (st : List Value) (h : VG) (a : Nat) (ha : ∃ t n f, h.1 a = .inl (t, n, f) ∧ (t < 8 ∨ t = 20 ∨ t = 21)) : ev 237 3 L (.ref a :: st) h = ev 237 4 L (.int (Int32.ofNat (aln h a)) :: st) h := G_alen f237_3 ha
theorem f237_4 : fetch 237 4 = some (.istore 4, 2) := vtab tk237 4 rfl
theorem e237_4 (l0 l1 l2 l3 l4 : Option Value) (L : VL) (st : List Value) (h : VG) (x : Int32) : ev 237 4 (l0 :: l1 :: l2 :: l3 :: l4 :: L) (.int x :: st) h = ev 237 6 (l0 :: l1 :: l2 :: vkk l3 :: some (.int x) :: L) (st) h := G_istore f237_4 rfl (S1_4 l0 l1 l2 l3 l4 L _)
theorem f237_6 : fetch 237 6 = some (.iload_n 3, 1) := vtab tk237 5 rfl
theorem e237_6 (l0 l1 l2 : Option Value) (L : VL) (st : List Value) (h : VG) (x : Int32) : ev 237 6 (l0 :: l1 :: l2 :: some (.int x) :: L) (st) h = ev 237 7 (l0 :: l1 :: l2 :: some (.int x) :: L) (.int x :: st) h := G_iload_n f237_6 rfl
theorem f237_7 : fetch 237 7 = some (.iload 4, 2) := vtab tk237 6 rfl
theorem e237_7 (l0 l1 l2 l3 : Option Value) (L : VL) (st : List Value) (h : VG) (x : Int32) : ev 237 7 (l0 :: l1 :: l2 :: l3 :: some (.int x) :: L) (st) h = ev 237 9 (l0 :: l1 :: l2 :: l3 :: some (.int x) :: L) (.int x :: st) h := G_iload f237_7 rfl
theorem f237_9 : fetch 237 9 = some (.if_icmp .ge 13, 3) := vtab tk237 7 rfl
theorem e237_9 (L : VL) (st : List Value) (h : VG) (x y : Int32) : ev 237 9 L (.int y :: .int x :: st) h = if x < y then ev 237 12 L st h else ev 237 22 L st h := G_icmp_ge f237_9 (by decide)
theorem f237_12 : fetch 237 12 = some (.aload_n 0, 1) := vtab tk237 8 rfl
theorem e237_12 (L : VL) (st : List Value) (h : VG) (x : Nat) : ev 237 12 (some (.ref x) :: L) (st) h = ev 237 13 (some (.ref x) :: L) (.ref x :: st) h := G_aload_n f237_12 rfl
theorem f237_13 : fetch 237 13 = some (.iload_n 3, 1) := vtab tk237 9 rfl
theorem e237_13 (l0 l1 l2 : Option Value) (L : VL) (st : List Value) (h : VG) (x : Int32) : ev 237 13 (l0 :: l1 :: l2 :: some (.int x) :: L) (st) h = ev 237 14 (l0 :: l1 :: l2 :: some (.int x) :: L) (.int x :: st) h := G_iload_n f237_13 rfl
theorem f237_14 : fetch 237 14 = some (.lload_n 1, 1) := vtab tk237 10 rfl
theorem e237_14 (l0 : Option Value) (L : VL) (st : List Value) (h : VG) (x : Int64) : ev 237 14 (l0 :: some (.long x) :: L) (st) h = ev 237 15 (l0 :: some (.long x) :: L) (.long x :: st) h := G_lload_n f237_14 rfl
theorem f237_15 : fetch 237 15 = some (.lastore, 1) := vtab tk237 11 rfl
theorem e237_15 (L : VL) (st : List Value) (h : VG) (a : Nat) (i : Int32) (x : Int64) (ha : arL h a) (hi : vp_in i (aln h a)) : ev 237 15 L (.long x :: .int i :: .ref a :: st) h = ev 237 16 L (st) (wL h a i.toNatClampNeg x) := G_last f237_15 ha hi
theorem f237_16 : fetch 237 16 = some (.iinc 3 1, 3) := vtab tk237 12 rfl
theorem e237_16 (l0 l1 l2 : Option Value) (L : VL) (st : List Value) (h : VG) (x : Int32) : ev 237 16 (l0 :: l1 :: l2 :: some (.int x) :: L) (st) h = ev 237 19 (l0 :: l1 :: vkk l2 :: some (.int (x + (1 : Int32))) :: L) (st) h := G_iinc f237_16 rfl (by decide) (S1_3 l0 l1 l2 (some (.int x)) L _)
theorem f237_19 : fetch 237 19 = some (.goto (-13), 3) := vtab tk237 13 rfl
theorem e237_19 (L : VL) (st : List Value) (h : VG) : ev 237 19 L (st) h = ev 237 6 L (st) h := G_goto f237_19 (by decide)
theorem f237_22 : fetch 237 22 = some (.return_, 1) := vtab tk237 14 rfl
theorem e237_22 (L : VL) (h : VG) : ev 237 22 L [] h = some (none, h) := G_vret f237_22 (by decide)
/-! 238 java/util/Arrays.fill([II)V -/
def tb238 : List (Nat × Instr × Nat) := [(0, .iconst 0, 1), (1, .istore_n 2, 1), (2, .aload_n 0, 1), (3, .arraylength, 1), (4, .istore_n 3, 1), (5, .iload_n 2, 1), (6, .iload_n 3, 1), (7, .if_icmp .ge 13, 3), (10, .aload_n 0, 1), (11, .iload_n 2, 1), (12, .iload_n 1, 1), (13, .iastore, 1), (14, .iinc 2 1, 3), (17, .goto (-12), 3), (20, .return_, 1)]
theorem tk238 : tb238.all (fun q => decide (fetch 238 q.1 = some q.2)) = true := by decide +kernel
theorem f238_0 : fetch 238 0 = some (.iconst 0, 1) := vtab tk238 0 rfl
theorem e238_0 (L : VL) (st : List Value) (h : VG) : ev 238 0 L (st) h = ev 238 1 L (.int (0 : Int32) :: st) h := G_iconst f238_0 (by decide)
theorem f238_1 : fetch 238 1 = some (.istore_n 2, 1) := vtab tk238 1 rfl
theorem e238_1 (l0 l1 l2 : Option Value) (L : VL) (st : List Value) (h : VG) (x : Int32) : ev 238 1 (l0 :: l1 :: l2 :: L) (.int x :: st) h = ev 238 2 (l0 :: vkk l1 :: some (.int x) :: L) (st) h := G_istore_n f238_1 rfl (S1_2 l0 l1 l2 L _)
theorem f238_2 : fetch 238 2 = some (.aload_n 0, 1) := vtab tk238 2 rfl
theorem e238_2 (L : VL) (st : List Value) (h : VG) (x : Nat) : ev 238 2 (some (.ref x) :: L) (st) h = ev 238 3 (some (.ref x) :: L) (.ref x :: st) h := G_aload_n f238_2 rfl
theorem f238_3 : fetch 238 3 = some (.arraylength, 1) := vtab tk238 3 rfl
theorem e238_3 (L : VL) (st : List Value) (h : VG) (a : Nat) (ha : ∃ t n f, h.1 a = .inl (t, n, f) ∧ (t < 8 ∨ t = 20 ∨ t = 21)) : ev 238 3 L (.ref a :: st) h = ev 238 4 L (.int (Int32.ofNat (aln h a)) :: st) h := G_alen f238_3 ha
theorem f238_4 : fetch 238 4 = some (.istore_n 3, 1) := vtab tk238 4 rfl
theorem e238_4 (l0 l1 l2 l3 : Option Value) (L : VL) (st : List Value) (h : VG) (x : Int32) : ev 238 4 (l0 :: l1 :: l2 :: l3 :: L) (.int x :: st) h = ev 238 5 (l0 :: l1 :: vkk l2 :: some (.int x) :: L) (st) h := G_istore_n f238_4 rfl (S1_3 l0 l1 l2 l3 L _)
theorem f238_5 : fetch 238 5 = some (.iload_n 2, 1) := vtab tk238 5 rfl
theorem e238_5 (l0 l1 : Option Value) (L : VL) (st : List Value) (h : VG) (x : Int32) : ev 238 5 (l0 :: l1 :: some (.int x) :: L) (st) h = ev 238 6 (l0 :: l1 :: some (.int x) :: L) (.int x :: st) h := G_iload_n f238_5 rfl
theorem f238_6 : fetch 238 6 = some (.iload_n 3, 1) := vtab tk238 6 rfl
theorem e238_6 (l0 l1 l2 : Option Value) (L : VL) (st : List Value) (h : VG) (x : Int32) : ev 238 6 (l0 :: l1 :: l2 :: some (.int x) :: L) (st) h = ev 238 7 (l0 :: l1 :: l2 :: some (.int x) :: L) (.int x :: st) h := G_iload_n f238_6 rfl
theorem f238_7 : fetch 238 7 = some (.if_icmp .ge 13, 3) := vtab tk238 7 rfl
theorem e238_7 (L : VL) (st : List Value) (h : VG) (x y : Int32) : ev 238 7 L (.int y :: .int x :: st) h = if x < y then ev 238 10 L st h else ev 238 20 L st h := G_icmp_ge f238_7 (by decide)
theorem f238_10 : fetch 238 10 = some (.aload_n 0, 1) := vtab tk238 8 rfl
theorem e238_10 (L : VL) (st : List Value) (h : VG) (x : Nat) : ev 238 10 (some (.ref x) :: L) (st) h = ev 238 11 (some (.ref x) :: L) (.ref x :: st) h := G_aload_n f238_10 rfl
theorem f238_11 : fetch 238 11 = some (.iload_n 2, 1) := vtab tk238 9 rfl
theorem e238_11 (l0 l1 : Option Value) (L : VL) (st : List Value) (h : VG) (x : Int32) : ev 238 11 (l0 :: l1 :: some (.int x) :: L) (st) h = ev 238 12 (l0 :: l1 :: some (.int x) :: L) (.int x :: st) h := G_iload_n f238_11 rfl
theorem f238_12 : fetch 238 12 = some (.iload_n 1, 1) := vtab tk238 10 rfl
theorem e238_12 (l0 : Option Value) (L : VL) (st : List Value) (h : VG) (x : Int32) : ev 238 12 (l0 :: some (.int x) :: L) (st) h = ev 238 13 (l0 :: some (.int x) :: L) (.int x :: st) h := G_iload_n f238_12 rfl
theorem f238_13 : fetch 238 13 = some (.iastore, 1) := vtab tk238 11 rfl
theorem e238_13 (L : VL) (st : List Value) (h : VG) (a : Nat) (i : Int32) (x : Int32) (ha : arI h a 0) (hi : vp_in i (aln h a)) : ev 238 13 L (.int x :: .int i :: .ref a :: st) h = ev 238 14 L (st) (wI h a i.toNatClampNeg x) := G_iast f238_13 ha hi
theorem f238_14 : fetch 238 14 = some (.iinc 2 1, 3) := vtab tk238 12 rfl
theorem e238_14 (l0 l1 : Option Value) (L : VL) (st : List Value) (h : VG) (x : Int32) : ev 238 14 (l0 :: l1 :: some (.int x) :: L) (st) h = ev 238 17 (l0 :: vkk l1 :: some (.int (x + (1 : Int32))) :: L) (st) h := G_iinc f238_14 rfl (by decide) (S1_2 l0 l1 (some (.int x)) L _)
theorem f238_17 : fetch 238 17 = some (.goto (-12), 3) := vtab tk238 13 rfl
theorem e238_17 (L : VL) (st : List Value) (h : VG) : ev 238 17 L (st) h = ev 238 5 L (st) h := G_goto f238_17 (by decide)
theorem f238_20 : fetch 238 20 = some (.return_, 1) := vtab tk238 14 rfl
theorem e238_20 (L : VL) (h : VG) : ev 238 20 L [] h = some (none, h) := G_vret f238_20 (by decide)
/-! 239 java/util/Arrays.fill([BB)V -/
def tb239 : List (Nat × Instr × Nat) := [(0, .iconst 0, 1), (1, .istore_n 2, 1), (2, .aload_n 0, 1), (3, .arraylength, 1), (4, .istore_n 3, 1), (5, .iload_n 2, 1), (6, .iload_n 3, 1), (7, .if_icmp .ge 13, 3), (10, .aload_n 0, 1), (11, .iload_n 2, 1), (12, .iload_n 1, 1), (13, .bastore, 1), (14, .iinc 2 1, 3), (17, .goto (-12), 3), (20, .return_, 1)]
theorem tk239 : tb239.all (fun q => decide (fetch 239 q.1 = some q.2)) = true := by decide +kernel
theorem f239_0 : fetch 239 0 = some (.iconst 0, 1) := vtab tk239 0 rfl
theorem e239_0 (L : VL) (st : List Value) (h : VG) : ev 239 0 L (st) h = ev 239 1 L (.int (0 : Int32) :: st) h := G_iconst f239_0 (by decide)
theorem f239_1 : fetch 239 1 = some (.istore_n 2, 1) := vtab tk239 1 rfl
theorem e239_1 (l0 l1 l2 : Option Value) (L : VL) (st : List Value) (h : VG) (x : Int32) : ev 239 1 (l0 :: l1 :: l2 :: L) (.int x :: st) h = ev 239 2 (l0 :: vkk l1 :: some (.int x) :: L) (st) h := G_istore_n f239_1 rfl (S1_2 l0 l1 l2 L _)
theorem f239_2 : fetch 239 2 = some (.aload_n 0, 1) := vtab tk239 2 rfl
theorem e239_2 (L : VL) (st : List Value) (h : VG) (x : Nat) : ev 239 2 (some (.ref x) :: L) (st) h = ev 239 3 (some (.ref x) :: L) (.ref x :: st) h := G_aload_n f239_2 rfl
theorem f239_3 : fetch 239 3 = some (.arraylength, 1) := vtab tk239 3 rfl
theorem e239_3 (L : VL) (st : List Value) (h : VG) (a : Nat) (ha : ∃ t n f, h.1 a = .inl (t, n, f) ∧ (t < 8 ∨ t = 20 ∨ t = 21)) : ev 239 3 L (.ref a :: st) h = ev 239 4 L (.int (Int32.ofNat (aln h a)) :: st) h := G_alen f239_3 ha
theorem f239_4 : fetch 239 4 = some (.istore_n 3, 1) := vtab tk239 4 rfl
theorem e239_4 (l0 l1 l2 l3 : Option Value) (L : VL) (st : List Value) (h : VG) (x : Int32) : ev 239 4 (l0 :: l1 :: l2 :: l3 :: L) (.int x :: st) h = ev 239 5 (l0 :: l1 :: vkk l2 :: some (.int x) :: L) (st) h := G_istore_n f239_4 rfl (S1_3 l0 l1 l2 l3 L _)
theorem f239_5 : fetch 239 5 = some (.iload_n 2, 1) := vtab tk239 5 rfl
theorem e239_5 (l0 l1 : Option Value) (L : VL) (st : List Value) (h : VG) (x : Int32) : ev 239 5 (l0 :: l1 :: some (.int x) :: L) (st) h = ev 239 6 (l0 :: l1 :: some (.int x) :: L) (.int x :: st) h := G_iload_n f239_5 rfl
theorem f239_6 : fetch 239 6 = some (.iload_n 3, 1) := vtab tk239 6 rfl
theorem e239_6 (l0 l1 l2 : Option Value) (L : VL) (st : List Value) (h : VG) (x : Int32) : ev 239 6 (l0 :: l1 :: l2 :: some (.int x) :: L) (st) h = ev 239 7 (l0 :: l1 :: l2 :: some (.int x) :: L) (.int x :: st) h := G_iload_n f239_6 rfl
theorem f239_7 : fetch 239 7 = some (.if_icmp .ge 13, 3) := vtab tk239 7 rfl
theorem e239_7 (L : VL) (st : List Value) (h : VG) (x y : Int32) : ev 239 7 L (.int y :: .int x :: st) h = if x < y then ev 239 10 L st h else ev 239 20 L st h := G_icmp_ge f239_7 (by decide)
theorem f239_10 : fetch 239 10 = some (.aload_n 0, 1) := vtab tk239 8 rfl
theorem e239_10 (L : VL) (st : List Value) (h : VG) (x : Nat) : ev 239 10 (some (.ref x) :: L) (st) h = ev 239 11 (some (.ref x) :: L) (.ref x :: st) h := G_aload_n f239_10 rfl
theorem f239_11 : fetch 239 11 = some (.iload_n 2, 1) := vtab tk239 9 rfl
theorem e239_11 (l0 l1 : Option Value) (L : VL) (st : List Value) (h : VG) (x : Int32) : ev 239 11 (l0 :: l1 :: some (.int x) :: L) (st) h = ev 239 12 (l0 :: l1 :: some (.int x) :: L) (.int x :: st) h := G_iload_n f239_11 rfl
theorem f239_12 : fetch 239 12 = some (.iload_n 1, 1) := vtab tk239 10 rfl
theorem e239_12 (l0 : Option Value) (L : VL) (st : List Value) (h : VG) (x : Int32) : ev 239 12 (l0 :: some (.int x) :: L) (st) h = ev 239 13 (l0 :: some (.int x) :: L) (.int x :: st) h := G_iload_n f239_12 rfl
theorem f239_13 : fetch 239 13 = some (.bastore, 1) := vtab tk239 11 rfl
theorem e239_13 (L : VL) (st : List Value) (h : VG) (a : Nat) (i : Int32) (x : Int32) (ha : arI h a 2) (hi : vp_in i (aln h a)) : ev 239 13 L (.int x :: .int i :: .ref a :: st) h = ev 239 14 L (st) (wI h a i.toNatClampNeg (vp_nar .byte x)) := G_bast f239_13 ha hi
theorem e239_13z (L : VL) (st : List Value) (h : VG) (a : Nat) (i : Int32) (x : Int32) (ha : arI h a 3) (hi : vp_in i (aln h a)) : ev 239 13 L (.int x :: .int i :: .ref a :: st) h = ev 239 14 L (st) (wI h a i.toNatClampNeg (vp_nar .boolean x)) := G_zast f239_13 ha hi
theorem f239_14 : fetch 239 14 = some (.iinc 2 1, 3) := vtab tk239 12 rfl
theorem e239_14 (l0 l1 : Option Value) (L : VL) (st : List Value) (h : VG) (x : Int32) : ev 239 14 (l0 :: l1 :: some (.int x) :: L) (st) h = ev 239 17 (l0 :: vkk l1 :: some (.int (x + (1 : Int32))) :: L) (st) h := G_iinc f239_14 rfl (by decide) (S1_2 l0 l1 (some (.int x)) L _)
theorem f239_17 : fetch 239 17 = some (.goto (-12), 3) := vtab tk239 13 rfl
theorem e239_17 (L : VL) (st : List Value) (h : VG) : ev 239 17 L (st) h = ev 239 5 L (st) h := G_goto f239_17 (by decide)
theorem f239_20 : fetch 239 20 = some (.return_, 1) := vtab tk239 14 rfl
theorem e239_20 (L : VL) (h : VG) : ev 239 20 L [] h = some (none, h) := G_vret f239_20 (by decide)
/-! 240 java/lang/String.length()I -/
def tb240 : List (Nat × Instr × Nat) := [(0, .aload_n 0, 1), (4, .arraylength, 1), (5, .aload_n 0, 1), (6, .invokevirtual 335, 3), (9, .ishr, 1), (10, .ireturn, 1)]
theorem tk240 : tb240.all (fun q => decide (fetch 240 q.1 = some q.2)) = true := by decide +kernel
theorem f240_0 : fetch 240 0 = some (.aload_n 0, 1) := vtab tk240 0 rfl
theorem e240_0 (L : VL) (st : List Value) (h : VG) (x : Nat) : ev 240 0 (some (.ref x) :: L) (st) h = ev 240 1 (some (.ref x) :: L) (.ref x :: st) h := G_aload_n f240_0 rfl
theorem f240_4 : fetch 240 4 = some (.arraylength, 1) := vtab tk240 1 rfl
theorem e240_4 (L : VL) (st : List Value) (h : VG) (a : Nat) (ha : ∃ t n f, h.1 a = .inl (t, n, f) ∧ (t < 8 ∨ t = 20 ∨ t = 21)) : ev 240 4 L (.ref a :: st) h = ev 240 5 L (.int (Int32.ofNat (aln h a)) :: st) h := G_alen f240_4 ha
theorem f240_5 : fetch 240 5 = some (.aload_n 0, 1) := vtab tk240 2 rfl
theorem e240_5 (L : VL) (st : List Value) (h : VG) (x : Nat) : ev 240 5 (some (.ref x) :: L) (st) h = ev 240 6 (some (.ref x) :: L) (.ref x :: st) h := G_aload_n f240_5 rfl
theorem f240_6 : fetch 240 6 = some (.invokevirtual 335, 3) := vtab tk240 3 rfl
theorem e240_6 (L : VL) (st : List Value) (h : VG) (b : Nat)  (hb : vcls h b 12 = true) (hs : catS st ≤ 8) : ev 240 6 L (.ref b :: st) h = (ev 242 0 [some (.ref b)] [] h).bind fun q => ev 240 9 L (q.1.toList ++ st) q.2 := G_callv (k := 1) (p := 126) (ars := []) f240_6 lkC_17_335 (by decide) (by decide +kernel) rfl hb (Nat.le_of_ble_eq_true rfl) hs rfl
theorem f240_9 : fetch 240 9 = some (.ishr, 1) := vtab tk240 4 rfl
theorem e240_9 (L : VL) (st : List Value) (h : VG) (x y : Int32) : ev 240 9 L (.int y :: .int x :: st) h = ev 240 10 L (.int (x >>> (y &&& 31)) :: st) h := G_ishr f240_9
theorem f240_10 : fetch 240 10 = some (.ireturn, 1) := vtab tk240 5 rfl
theorem e240_10 (L : VL) (h : VG) (x : Int32) : ev 240 10 L [.int x] h = some (some (.int x), h) := G_iret f240_10 (ty := .int) (by decide) rfl
/-! 241 java/lang/String.charAt(I)C -/
def tb241 : List (Nat × Instr × Nat) := [(0, .aload_n 0, 1), (1, .invokevirtual 492, 3), (4, .ifCond .eq 12, 3), (7, .aload_n 0, 1), (11, .iload_n 1, 1), (12, .invokestatic 495, 3), (15, .ireturn, 1), (16, .aload_n 0, 1), (20, .iload_n 1, 1), (24, .ireturn, 1)]
theorem tk241 : tb241.all (fun q => decide (fetch 241 q.1 = some q.2)) = true := by decide +kernel
theorem f241_0 : fetch 241 0 = some (.aload_n 0, 1) := vtab tk241 0 rfl
theorem e241_0 (L : VL) (st : List Value) (h : VG) (x : Nat) : ev 241 0 (some (.ref x) :: L) (st) h = ev 241 1 (some (.ref x) :: L) (.ref x :: st) h := G_aload_n f241_0 rfl
theorem f241_1 : fetch 241 1 = some (.invokevirtual 492, 3) := vtab tk241 1 rfl
theorem e241_1 (L : VL) (st : List Value) (h : VG) (b : Nat)  (hb : vcls h b 12 = true) (hs : catS st ≤ 8) : ev 241 1 L (.ref b :: st) h = (ev 243 0 [some (.ref b)] [] h).bind fun q => ev 241 4 L (q.1.toList ++ st) q.2 := G_callv (k := 1) (p := 136) (ars := []) f241_1 lkC_17_492 (by decide) (by decide +kernel) rfl hb (Nat.le_of_ble_eq_true rfl) hs rfl
theorem f241_4 : fetch 241 4 = some (.ifCond .eq 12, 3) := vtab tk241 2 rfl
theorem e241_4 (L : VL) (st : List Value) (h : VG) (x : Int32) : ev 241 4 L (.int x :: st) h = if x = 0 then ev 241 16 L st h else ev 241 7 L st h := G_if_eq f241_4 (by decide)
theorem f241_7 : fetch 241 7 = some (.aload_n 0, 1) := vtab tk241 3 rfl
theorem e241_7 (L : VL) (st : List Value) (h : VG) (x : Nat) : ev 241 7 (some (.ref x) :: L) (st) h = ev 241 8 (some (.ref x) :: L) (.ref x :: st) h := G_aload_n f241_7 rfl
theorem f241_11 : fetch 241 11 = some (.iload_n 1, 1) := vtab tk241 4 rfl
theorem e241_11 (l0 : Option Value) (L : VL) (st : List Value) (h : VG) (x : Int32) : ev 241 11 (l0 :: some (.int x) :: L) (st) h = ev 241 12 (l0 :: some (.int x) :: L) (.int x :: st) h := G_iload_n f241_11 rfl
theorem f241_12 : fetch 241 12 = some (.invokestatic 495, 3) := vtab tk241 5 rfl
theorem e241_12 (L : VL) (st : List Value) (h : VG) (x0 : Nat) (x1 : Int32) (hs : catS st ≤ 8) : ev 241 12 L (.int x1 :: .ref x0 :: st) h = (ev 245 0 [some (.ref x0), some (.int x1)] [] h).bind fun q => ev 241 15 L (q.1.toList ++ st) q.2 := G_calls (k := 0) (p := 140) (ars := [.ref x0, .int x1]) f241_12 lkC_17_495 (by decide) (by decide +kernel) rfl (Nat.le_of_ble_eq_true rfl) hs rfl
theorem f241_15 : fetch 241 15 = some (.ireturn, 1) := vtab tk241 6 rfl
theorem e241_15 (L : VL) (h : VG) (x : Int32) (hn : narrow .char (.int x) = .int x) : ev 241 15 L [.int x] h = some (some (.int x), h) := G_iret f241_15 (ty := .char) (by decide) hn
theorem f241_16 : fetch 241 16 = some (.aload_n 0, 1) := vtab tk241 7 rfl
theorem e241_16 (L : VL) (st : List Value) (h : VG) (x : Nat) : ev 241 16 (some (.ref x) :: L) (st) h = ev 241 17 (some (.ref x) :: L) (.ref x :: st) h := G_aload_n f241_16 rfl
theorem f241_20 : fetch 241 20 = some (.iload_n 1, 1) := vtab tk241 8 rfl
theorem e241_20 (l0 : Option Value) (L : VL) (st : List Value) (h : VG) (x : Int32) : ev 241 20 (l0 :: some (.int x) :: L) (st) h = ev 241 21 (l0 :: some (.int x) :: L) (.int x :: st) h := G_iload_n f241_20 rfl
theorem f241_24 : fetch 241 24 = some (.ireturn, 1) := vtab tk241 9 rfl
theorem e241_24 (L : VL) (h : VG) (x : Int32) (hn : narrow .char (.int x) = .int x) : ev 241 24 L [.int x] h = some (some (.int x), h) := G_iret f241_24 (ty := .char) (by decide) hn
/-! 242 java/lang/String.coder()B -/
def tb242 : List (Nat × Instr × Nat) := [(0, .getstatic 38, 3), (3, .ifCond .eq 10, 3), (6, .aload_n 0, 1), (10, .goto 4, 3), (13, .iconst 1, 1), (14, .ireturn, 1)]
theorem tk242 : tb242.all (fun q => decide (fetch 242 q.1 = some q.2)) = true := by decide +kernel
theorem f242_0 : fetch 242 0 = some (.getstatic 38, 3) := vtab tk242 0 rfl
theorem e242_0 (L : VL) (st : List Value) (h : VG) : ev 242 0 L (st) h = ev 242 3 L (h.2.2.2 2 :: st) h := G_gets (p := 130) f242_0 lkS_17_38
theorem f242_3 : fetch 242 3 = some (.ifCond .eq 10, 3) := vtab tk242 1 rfl
theorem e242_3 (L : VL) (st : List Value) (h : VG) (x : Int32) : ev 242 3 L (.int x :: st) h = if x = 0 then ev 242 13 L st h else ev 242 6 L st h := G_if_eq f242_3 (by decide)
theorem f242_6 : fetch 242 6 = some (.aload_n 0, 1) := vtab tk242 2 rfl
theorem e242_6 (L : VL) (st : List Value) (h : VG) (x : Nat) : ev 242 6 (some (.ref x) :: L) (st) h = ev 242 7 (some (.ref x) :: L) (.ref x :: st) h := G_aload_n f242_6 rfl
theorem f242_10 : fetch 242 10 = some (.goto 4, 3) := vtab tk242 3 rfl
theorem e242_10 (L : VL) (st : List Value) (h : VG) : ev 242 10 L (st) h = ev 242 14 L (st) h := G_goto f242_10 (by decide)
theorem f242_13 : fetch 242 13 = some (.iconst 1, 1) := vtab tk242 4 rfl
theorem e242_13 (L : VL) (st : List Value) (h : VG) : ev 242 13 L (st) h = ev 242 14 L (.int (1 : Int32) :: st) h := G_iconst f242_13 (by decide)
theorem f242_14 : fetch 242 14 = some (.ireturn, 1) := vtab tk242 5 rfl
theorem e242_14 (L : VL) (h : VG) (x : Int32) (hn : narrow .byte (.int x) = .int x) : ev 242 14 L [.int x] h = some (some (.int x), h) := G_iret f242_14 (ty := .byte) (by decide) hn
/-! 243 java/lang/String.isLatin1()Z -/
def tb243 : List (Nat × Instr × Nat) := [(0, .getstatic 38, 3), (3, .ifCond .eq 14, 3), (6, .aload_n 0, 1), (10, .ifCond .ne 7, 3), (13, .iconst 1, 1), (14, .goto 4, 3), (17, .iconst 0, 1), (18, .ireturn, 1)]
theorem tk243 : tb243.all (fun q => decide (fetch 243 q.1 = some q.2)) = true := by decide +kernel
theorem f243_0 : fetch 243 0 = some (.getstatic 38, 3) := vtab tk243 0 rfl
theorem e243_0 (L : VL) (st : List Value) (h : VG) : ev 243 0 L (st) h = ev 243 3 L (h.2.2.2 2 :: st) h := G_gets (p := 130) f243_0 lkS_17_38
theorem f243_3 : fetch 243 3 = some (.ifCond .eq 14, 3) := vtab tk243 1 rfl
theorem e243_3 (L : VL) (st : List Value) (h : VG) (x : Int32) : ev 243 3 L (.int x :: st) h = if x = 0 then ev 243 17 L st h else ev 243 6 L st h := G_if_eq f243_3 (by decide)
theorem f243_6 : fetch 243 6 = some (.aload_n 0, 1) := vtab tk243 2 rfl
theorem e243_6 (L : VL) (st : List Value) (h : VG) (x : Nat) : ev 243 6 (some (.ref x) :: L) (st) h = ev 243 7 (some (.ref x) :: L) (.ref x :: st) h := G_aload_n f243_6 rfl
theorem f243_10 : fetch 243 10 = some (.ifCond .ne 7, 3) := vtab tk243 3 rfl
theorem e243_10 (L : VL) (st : List Value) (h : VG) (x : Int32) : ev 243 10 L (.int x :: st) h = if x = 0 then ev 243 13 L st h else ev 243 17 L st h := G_if_ne f243_10 (by decide)
theorem f243_13 : fetch 243 13 = some (.iconst 1, 1) := vtab tk243 4 rfl
theorem e243_13 (L : VL) (st : List Value) (h : VG) : ev 243 13 L (st) h = ev 243 14 L (.int (1 : Int32) :: st) h := G_iconst f243_13 (by decide)
theorem f243_14 : fetch 243 14 = some (.goto 4, 3) := vtab tk243 5 rfl
theorem e243_14 (L : VL) (st : List Value) (h : VG) : ev 243 14 L (st) h = ev 243 18 L (st) h := G_goto f243_14 (by decide)
theorem f243_17 : fetch 243 17 = some (.iconst 0, 1) := vtab tk243 6 rfl
theorem e243_17 (L : VL) (st : List Value) (h : VG) : ev 243 17 L (st) h = ev 243 18 L (.int (0 : Int32) :: st) h := G_iconst f243_17 (by decide)
theorem f243_18 : fetch 243 18 = some (.ireturn, 1) := vtab tk243 7 rfl
theorem e243_18 (L : VL) (h : VG) (x : Int32) (hz : x = 0 ∨ x = 1) : ev 243 18 L [.int x] h = some (some (.int x), h) := G_iret f243_18 (ty := .boolean) (by decide) (vbool hz).1
/-! 244 java/lang/String.checkIndex(II)V -/
def tb244 : List (Nat × Instr × Nat) := [(0, .iload_n 0, 1), (1, .iload_n 1, 1), (2, .getstatic 1053, 3), (8, .pop, 1), (9, .return_, 1)]
theorem tk244 : tb244.all (fun q => decide (fetch 244 q.1 = some q.2)) = true := by decide +kernel
theorem f244_0 : fetch 244 0 = some (.iload_n 0, 1) := vtab tk244 0 rfl
theorem e244_0 (L : VL) (st : List Value) (h : VG) (x : Int32) : ev 244 0 (some (.int x) :: L) (st) h = ev 244 1 (some (.int x) :: L) (.int x :: st) h := G_iload_n f244_0 rfl
theorem f244_1 : fetch 244 1 = some (.iload_n 1, 1) := vtab tk244 1 rfl
theorem e244_1 (l0 : Option Value) (L : VL) (st : List Value) (h : VG) (x : Int32) : ev 244 1 (l0 :: some (.int x) :: L) (st) h = ev 244 2 (l0 :: some (.int x) :: L) (.int x :: st) h := G_iload_n f244_1 rfl
theorem f244_2 : fetch 244 2 = some (.getstatic 1053, 3) := vtab tk244 2 rfl
theorem e244_2 (L : VL) (st : List Value) (h : VG) : ev 244 2 L (st) h = ev 244 5 L (h.2.2.2 3 :: st) h := G_gets (p := 146) f244_2 lkS_17_1053
theorem f244_8 : fetch 244 8 = some (.pop, 1) := vtab tk244 3 rfl
theorem e244_8 (L : VL) (st : List Value) (h : VG) (x : Int32) : ev 244 8 L (.int x :: st) h = ev 244 9 L (st) h := G_pop_int f244_8
theorem e244_8b (L : VL) (st : List Value) (h : VG) (x : Nat) : ev 244 8 L (.ref x :: st) h = ev 244 9 L (st) h := G_pop_ref f244_8
theorem f244_9 : fetch 244 9 = some (.return_, 1) := vtab tk244 4 rfl
theorem e244_9 (L : VL) (h : VG) : ev 244 9 L [] h = some (none, h) := G_vret f244_9 (by decide)
/-! 245 java/lang/StringLatin1.charAt([BI)C -/
def tb245 : List (Nat × Instr × Nat) := [(0, .iload_n 1, 1), (1, .aload_n 0, 1), (2, .arraylength, 1), (3, .invokestatic 9, 3), (6, .aload_n 0, 1), (7, .iload_n 1, 1), (8, .baload, 1), (9, .sipush 255, 3), (12, .iand, 1), (13, .i2c, 1), (14, .ireturn, 1)]
theorem tk245 : tb245.all (fun q => decide (fetch 245 q.1 = some q.2)) = true := by decide +kernel
theorem f245_0 : fetch 245 0 = some (.iload_n 1, 1) := vtab tk245 0 rfl
theorem e245_0 (l0 : Option Value) (L : VL) (st : List Value) (h : VG) (x : Int32) : ev 245 0 (l0 :: some (.int x) :: L) (st) h = ev 245 1 (l0 :: some (.int x) :: L) (.int x :: st) h := G_iload_n f245_0 rfl
theorem f245_1 : fetch 245 1 = some (.aload_n 0, 1) := vtab tk245 1 rfl
theorem e245_1 (L : VL) (st : List Value) (h : VG) (x : Nat) : ev 245 1 (some (.ref x) :: L) (st) h = ev 245 2 (some (.ref x) :: L) (.ref x :: st) h := G_aload_n f245_1 rfl
theorem f245_2 : fetch 245 2 = some (.arraylength, 1) := vtab tk245 2 rfl
theorem e245_2 (L : VL) (st : List Value) (h : VG) (a : Nat) (ha : ∃ t n f, h.1 a = .inl (t, n, f) ∧ (t < 8 ∨ t = 20 ∨ t = 21)) : ev 245 2 L (.ref a :: st) h = ev 245 3 L (.int (Int32.ofNat (aln h a)) :: st) h := G_alen f245_2 ha
theorem f245_3 : fetch 245 3 = some (.invokestatic 9, 3) := vtab tk245 3 rfl
theorem e245_3 (L : VL) (st : List Value) (h : VG) (x0 : Int32) (x1 : Int32) (hs : catS st ≤ 8) : ev 245 3 L (.int x1 :: .int x0 :: st) h = (ev 244 0 [some (.int x0), some (.int x1)] [] h).bind fun q => ev 245 6 L (q.1.toList ++ st) q.2 := G_calls (k := 0) (p := 143) (ars := [.int x0, .int x1]) f245_3 lkC_18_9 (by decide) (by decide +kernel) rfl (Nat.le_of_ble_eq_true rfl) hs rfl
theorem f245_6 : fetch 245 6 = some (.aload_n 0, 1) := vtab tk245 4 rfl
theorem e245_6 (L : VL) (st : List Value) (h : VG) (x : Nat) : ev 245 6 (some (.ref x) :: L) (st) h = ev 245 7 (some (.ref x) :: L) (.ref x :: st) h := G_aload_n f245_6 rfl
theorem f245_7 : fetch 245 7 = some (.iload_n 1, 1) := vtab tk245 5 rfl
theorem e245_7 (l0 : Option Value) (L : VL) (st : List Value) (h : VG) (x : Int32) : ev 245 7 (l0 :: some (.int x) :: L) (st) h = ev 245 8 (l0 :: some (.int x) :: L) (.int x :: st) h := G_iload_n f245_7 rfl
theorem f245_8 : fetch 245 8 = some (.baload, 1) := vtab tk245 6 rfl
theorem e245_8 (L : VL) (st : List Value) (h : VG) (a : Nat) (i : Int32) (ha : rdB h a) (hi : vp_in i (aln h a)) : ev 245 8 L (.int i :: .ref a :: st) h = ev 245 9 L (.int (aI h a i.toNatClampNeg) :: st) h := G_bald' f245_8 ha hi
theorem f245_9 : fetch 245 9 = some (.sipush 255, 3) := vtab tk245 7 rfl
theorem e245_9 (L : VL) (st : List Value) (h : VG) : ev 245 9 L (st) h = ev 245 12 L (.int (255 : Int32) :: st) h := G_sipush f245_9 (by decide)
theorem f245_12 : fetch 245 12 = some (.iand, 1) := vtab tk245 8 rfl
theorem e245_12 (L : VL) (st : List Value) (h : VG) (x y : Int32) : ev 245 12 L (.int y :: .int x :: st) h = ev 245 13 L (.int (x &&& y) :: st) h := G_iand f245_12
theorem f245_13 : fetch 245 13 = some (.i2c, 1) := vtab tk245 9 rfl
theorem e245_13 (L : VL) (st : List Value) (h : VG) (x : Int32) : ev 245 13 L (.int x :: st) h = ev 245 14 L (.int (x.toUInt32 % 65536).toInt32 :: st) h := G_i2c f245_13
theorem f245_14 : fetch 245 14 = some (.ireturn, 1) := vtab tk245 10 rfl
theorem e245_14 (L : VL) (h : VG) (x : Int32) (hn : narrow .char (.int x) = .int x) : ev 245 14 L [.int x] h = some (some (.int x), h) := G_iret f245_14 (ty := .char) (by decide) hn
/-! 246 jdk/internal/util/Preconditions.checkIndex(IILjava/util/function/BiFunction;)I -/
def tb246 : List (Nat × Instr × Nat) := [(0, .iload_n 0, 1), (1, .ifCond .lt 8, 3), (4, .iload_n 0, 1), (5, .iload_n 1, 1), (6, .if_icmp .lt 10, 3), (9, .aload_n 2, 1), (10, .iload_n 0, 1), (11, .iload_n 1, 1), (16, .iload_n 0, 1), (17, .ireturn, 1)]
theorem tk246 : tb246.all (fun q => decide (fetch 246 q.1 = some q.2)) = true := by decide +kernel
theorem f246_0 : fetch 246 0 = some (.iload_n 0, 1) := vtab tk246 0 rfl
theorem e246_0 (L : VL) (st : List Value) (h : VG) (x : Int32) : ev 246 0 (some (.int x) :: L) (st) h = ev 246 1 (some (.int x) :: L) (.int x :: st) h := G_iload_n f246_0 rfl
theorem f246_1 : fetch 246 1 = some (.ifCond .lt 8, 3) := vtab tk246 1 rfl
theorem e246_1 (L : VL) (st : List Value) (h : VG) (x : Int32) : ev 246 1 L (.int x :: st) h = if x < 0 then ev 246 9 L st h else ev 246 4 L st h := G_if_lt f246_1 (by decide)
theorem f246_4 : fetch 246 4 = some (.iload_n 0, 1) := vtab tk246 2 rfl
theorem e246_4 (L : VL) (st : List Value) (h : VG) (x : Int32) : ev 246 4 (some (.int x) :: L) (st) h = ev 246 5 (some (.int x) :: L) (.int x :: st) h := G_iload_n f246_4 rfl
theorem f246_5 : fetch 246 5 = some (.iload_n 1, 1) := vtab tk246 3 rfl
theorem e246_5 (l0 : Option Value) (L : VL) (st : List Value) (h : VG) (x : Int32) : ev 246 5 (l0 :: some (.int x) :: L) (st) h = ev 246 6 (l0 :: some (.int x) :: L) (.int x :: st) h := G_iload_n f246_5 rfl
theorem f246_6 : fetch 246 6 = some (.if_icmp .lt 10, 3) := vtab tk246 4 rfl
theorem e246_6 (L : VL) (st : List Value) (h : VG) (x y : Int32) : ev 246 6 L (.int y :: .int x :: st) h = if x < y then ev 246 16 L st h else ev 246 9 L st h := G_icmp_lt f246_6 (by decide)
theorem f246_9 : fetch 246 9 = some (.aload_n 2, 1) := vtab tk246 5 rfl
theorem e246_9 (l0 l1 : Option Value) (L : VL) (st : List Value) (h : VG) (x : Nat) : ev 246 9 (l0 :: l1 :: some (.ref x) :: L) (st) h = ev 246 10 (l0 :: l1 :: some (.ref x) :: L) (.ref x :: st) h := G_aload_n f246_9 rfl
theorem f246_10 : fetch 246 10 = some (.iload_n 0, 1) := vtab tk246 6 rfl
theorem e246_10 (L : VL) (st : List Value) (h : VG) (x : Int32) : ev 246 10 (some (.int x) :: L) (st) h = ev 246 11 (some (.int x) :: L) (.int x :: st) h := G_iload_n f246_10 rfl
theorem f246_11 : fetch 246 11 = some (.iload_n 1, 1) := vtab tk246 7 rfl
theorem e246_11 (l0 : Option Value) (L : VL) (st : List Value) (h : VG) (x : Int32) : ev 246 11 (l0 :: some (.int x) :: L) (st) h = ev 246 12 (l0 :: some (.int x) :: L) (.int x :: st) h := G_iload_n f246_11 rfl
theorem f246_16 : fetch 246 16 = some (.iload_n 0, 1) := vtab tk246 8 rfl
theorem e246_16 (L : VL) (st : List Value) (h : VG) (x : Int32) : ev 246 16 (some (.int x) :: L) (st) h = ev 246 17 (some (.int x) :: L) (.int x :: st) h := G_iload_n f246_16 rfl
theorem f246_17 : fetch 246 17 = some (.ireturn, 1) := vtab tk246 9 rfl
theorem e246_17 (L : VL) (h : VG) (x : Int32) : ev 246 17 L [.int x] h = some (some (.int x), h) := G_iret f246_17 (ty := .int) (by decide) rfl
