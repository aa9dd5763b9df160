/-! 88 GuestCalls$Tokens.scanDigits([BIII)I -/
def tb88 : List (Nat × Instr × Nat) := [(0, .iload_n 3, 1), (1, .istore 5, 2), (3, .iload 5, 2), (5, .iload_n 2, 1), (6, .if_icmp .ge 47, 3), (9, .aload_n 1, 1), (10, .iload 5, 2), (12, .baload, 1), (13, .invokestatic 55, 3), (16, .ifCond .eq 37, 3), (19, .aload_n 0, 1), (20, .getfield 18, 3), (23, .iload 4, 2), (25, .aload_n 0, 1), (26, .getfield 18, 3), (29, .iload 4, 2), (31, .laload, 1), (32, .ldc2_w 61, 3), (35, .lmul, 1), (36, .aload_n 1, 1), (37, .iload 5, 2), (39, .baload, 1), (40, .i2l, 1), (41, .ladd, 1), (42, .ldc2_w 63, 3), (45, .lsub, 1), (46, .lastore, 1), (47, .iinc 5 1, 3), (50, .goto (-47), 3), (53, .aload_n 0, 1), (54, .getfield 9, 3), (57, .iload 4, 2), (59, .iload 5, 2), (61, .iload_n 3, 1), (62, .isub, 1), (63, .iconst 4, 1), (64, .if_icmp .le 7, 3), (67, .iconst 1, 1), (68, .goto 4, 3), (71, .iconst 3, 1), (72, .iastore, 1), (73, .iload 5, 2), (75, .ireturn, 1)]
theorem tk88 : tb88.all (fun q => decide (fetch 88 q.1 = some q.2)) = true := by decide +kernel
theorem f88_0 : fetch 88 0 = some (.iload_n 3, 1) := vtab tk88 0 rfl
theorem e88_0 (l0 l1 l2 : Option Value) (L : VL) (st : List Value) (h : VG) (x : Int32) : ev 88 0 (l0 :: l1 :: l2 :: some (.int x) :: L) (st) h = ev 88 1 (l0 :: l1 :: l2 :: some (.int x) :: L) (.int x :: st) h := G_iload_n f88_0 rfl
theorem f88_1 : fetch 88 1 = some (.istore 5, 2) := vtab tk88 1 rfl
theorem e88_1 (l0 l1 l2 l3 l4 l5 : Option Value) (L : VL) (st : List Value) (h : VG) (x : Int32) : ev 88 1 (l0 :: l1 :: l2 :: l3 :: l4 :: l5 :: L) (.int x :: st) h = ev 88 3 (l0 :: l1 :: l2 :: l3 :: vkk l4 :: some (.int x) :: L) (st) h := G_istore f88_1 rfl (S1_5 l0 l1 l2 l3 l4 l5 L _)
theorem f88_3 : fetch 88 3 = some (.iload 5, 2) := vtab tk88 2 rfl
theorem e88_3 (l0 l1 l2 l3 l4 : Option Value) (L : VL) (st : List Value) (h : VG) (x : Int32) : ev 88 3 (l0 :: l1 :: l2 :: l3 :: l4 :: some (.int x) :: L) (st) h = ev 88 5 (l0 :: l1 :: l2 :: l3 :: l4 :: some (.int x) :: L) (.int x :: st) h := G_iload f88_3 rfl
theorem f88_5 : fetch 88 5 = some (.iload_n 2, 1) := vtab tk88 3 rfl
theorem e88_5 (l0 l1 : Option Value) (L : VL) (st : List Value) (h : VG) (x : Int32) : ev 88 5 (l0 :: l1 :: some (.int x) :: L) (st) h = ev 88 6 (l0 :: l1 :: some (.int x) :: L) (.int x :: st) h := G_iload_n f88_5 rfl
theorem f88_6 : fetch 88 6 = some (.if_icmp .ge 47, 3) := vtab tk88 4 rfl
theorem e88_6 (L : VL) (st : List Value) (h : VG) (x y : Int32) : ev 88 6 L (.int y :: .int x :: st) h = if x < y then ev 88 9 L st h else ev 88 53 L st h := G_icmp_ge f88_6 (by decide)
theorem f88_9 : fetch 88 9 = some (.aload_n 1, 1) := vtab tk88 5 rfl
theorem e88_9 (l0 : Option Value) (L : VL) (st : List Value) (h : VG) (x : Nat) : ev 88 9 (l0 :: some (.ref x) :: L) (st) h = ev 88 10 (l0 :: some (.ref x) :: L) (.ref x :: st) h := G_aload_n f88_9 rfl
theorem f88_10 : fetch 88 10 = some (.iload 5, 2) := vtab tk88 6 rfl
theorem e88_10 (l0 l1 l2 l3 l4 : Option Value) (L : VL) (st : List Value) (h : VG) (x : Int32) : ev 88 10 (l0 :: l1 :: l2 :: l3 :: l4 :: some (.int x) :: L) (st) h = ev 88 12 (l0 :: l1 :: l2 :: l3 :: l4 :: some (.int x) :: L) (.int x :: st) h := G_iload f88_10 rfl
theorem f88_12 : fetch 88 12 = some (.baload, 1) := vtab tk88 7 rfl
theorem e88_12 (L : VL) (st : List Value) (h : VG) (a : Nat) (i : Int32) (ha : rdB h a) (hi : vp_in i (aln h a)) : ev 88 12 L (.int i :: .ref a :: st) h = ev 88 13 L (.int (aI h a i.toNatClampNeg) :: st) h := G_bald' f88_12 ha hi
theorem f88_13 : fetch 88 13 = some (.invokestatic 55, 3) := vtab tk88 8 rfl
theorem e88_13 (L : VL) (st : List Value) (h : VG) (x0 : Int32) (hs : catS st ≤ 8) : ev 88 13 L (.int x0 :: st) h = (ev 91 0 [some (.int x0)] [] h).bind fun q => ev 88 16 L (q.1.toList ++ st) q.2 := G_calls (k := 0) (p := 510) (ars := [.int x0]) f88_13 lkC_10_55 (by decide) (by decide +kernel) rfl (Nat.le_of_ble_eq_true rfl) hs rfl
theorem f88_16 : fetch 88 16 = some (.ifCond .eq 37, 3) := vtab tk88 9 rfl
theorem e88_16 (L : VL) (st : List Value) (h : VG) (x : Int32) : ev 88 16 L (.int x :: st) h = if x = 0 then ev 88 53 L st h else ev 88 19 L st h := G_if_eq f88_16 (by decide)
theorem f88_19 : fetch 88 19 = some (.aload_n 0, 1) := vtab tk88 10 rfl
theorem e88_19 (L : VL) (st : List Value) (h : VG) (x : Nat) : ev 88 19 (some (.ref x) :: L) (st) h = ev 88 20 (some (.ref x) :: L) (.ref x :: st) h := G_aload_n f88_19 rfl
theorem f88_20 : fetch 88 20 = some (.getfield 18, 3) := vtab tk88 11 rfl
theorem e88_20 (L : VL) (st : List Value) (h : VG) (a : Nat) (ho : ob h a 9) (hr : isR h a 2) : ev 88 20 L (.ref a :: st) h = ev 88 23 L (.ref (gR h a 2) :: st) h := G_getR (p := 177) f88_20 lkF_10_18 (by decide) (by decide) ho hr
theorem f88_23 : fetch 88 23 = some (.iload 4, 2) := vtab tk88 12 rfl
theorem e88_23 (l0 l1 l2 l3 : Option Value) (L : VL) (st : List Value) (h : VG) (x : Int32) : ev 88 23 (l0 :: l1 :: l2 :: l3 :: some (.int x) :: L) (st) h = ev 88 25 (l0 :: l1 :: l2 :: l3 :: some (.int x) :: L) (.int x :: st) h := G_iload f88_23 rfl
theorem f88_25 : fetch 88 25 = some (.aload_n 0, 1) := vtab tk88 13 rfl
theorem e88_25 (L : VL) (st : List Value) (h : VG) (x : Nat) : ev 88 25 (some (.ref x) :: L) (st) h = ev 88 26 (some (.ref x) :: L) (.ref x :: st) h := G_aload_n f88_25 rfl
theorem f88_26 : fetch 88 26 = some (.getfield 18, 3) := vtab tk88 14 rfl
theorem e88_26 (L : VL) (st : List Value) (h : VG) (a : Nat) (ho : ob h a 9) (hr : isR h a 2) : ev 88 26 L (.ref a :: st) h = ev 88 29 L (.ref (gR h a 2) :: st) h := G_getR (p := 177) f88_26 lkF_10_18 (by decide) (by decide) ho hr
theorem f88_29 : fetch 88 29 = some (.iload 4, 2) := vtab tk88 15 rfl
theorem e88_29 (l0 l1 l2 l3 : Option Value) (L : VL) (st : List Value) (h : VG) (x : Int32) : ev 88 29 (l0 :: l1 :: l2 :: l3 :: some (.int x) :: L) (st) h = ev 88 31 (l0 :: l1 :: l2 :: l3 :: some (.int x) :: L) (.int x :: st) h := G_iload f88_29 rfl
theorem f88_31 : fetch 88 31 = some (.laload, 1) := vtab tk88 16 rfl
theorem e88_31 (L : VL) (st : List Value) (h : VG) (a : Nat) (i : Int32) (ha : arL h a) (hi : vp_in i (aln h a)) : ev 88 31 L (.int i :: .ref a :: st) h = ev 88 32 L (.long (aL h a i.toNatClampNeg) :: st) h := G_lald f88_31 ha hi
theorem f88_32 : fetch 88 32 = some (.ldc2_w 61, 3) := vtab tk88 17 rfl
theorem e88_32 (L : VL) (st : List Value) (h : VG) : ev 88 32 L (st) h = ev 88 35 L (.long 10 :: st) h := G_ldc2l (p := 517) f88_32 lkK_10_61
theorem f88_35 : fetch 88 35 = some (.lmul, 1) := vtab tk88 18 rfl
theorem e88_35 (L : VL) (st : List Value) (h : VG) (x y : Int64) : ev 88 35 L (.long y :: .long x :: st) h = ev 88 36 L (.long (x * y) :: st) h := G_lmul f88_35
theorem f88_36 : fetch 88 36 = some (.aload_n 1, 1) := vtab tk88 19 rfl
theorem e88_36 (l0 : Option Value) (L : VL) (st : List Value) (h : VG) (x : Nat) : ev 88 36 (l0 :: some (.ref x) :: L) (st) h = ev 88 37 (l0 :: some (.ref x) :: L) (.ref x :: st) h := G_aload_n f88_36 rfl
theorem f88_37 : fetch 88 37 = some (.iload 5, 2) := vtab tk88 20 rfl
theorem e88_37 (l0 l1 l2 l3 l4 : Option Value) (L : VL) (st : List Value) (h : VG) (x : Int32) : ev 88 37 (l0 :: l1 :: l2 :: l3 :: l4 :: some (.int x) :: L) (st) h = ev 88 39 (l0 :: l1 :: l2 :: l3 :: l4 :: some (.int x) :: L) (.int x :: st) h := G_iload f88_37 rfl
theorem f88_39 : fetch 88 39 = some (.baload, 1) := vtab tk88 21 rfl
theorem e88_39 (L : VL) (st : List Value) (h : VG) (a : Nat) (i : Int32) (ha : rdB h a) (hi : vp_in i (aln h a)) : ev 88 39 L (.int i :: .ref a :: st) h = ev 88 40 L (.int (aI h a i.toNatClampNeg) :: st) h := G_bald' f88_39 ha hi
theorem f88_40 : fetch 88 40 = some (.i2l, 1) := vtab tk88 22 rfl
theorem e88_40 (L : VL) (st : List Value) (h : VG) (x : Int32) : ev 88 40 L (.int x :: st) h = ev 88 41 L (.long x.toInt64 :: st) h := G_i2l f88_40
theorem f88_41 : fetch 88 41 = some (.ladd, 1) := vtab tk88 23 rfl
theorem e88_41 (L : VL) (st : List Value) (h : VG) (x y : Int64) : ev 88 41 L (.long y :: .long x :: st) h = ev 88 42 L (.long (x + y) :: st) h := G_ladd f88_41
theorem f88_42 : fetch 88 42 = some (.ldc2_w 63, 3) := vtab tk88 24 rfl
theorem e88_42 (L : VL) (st : List Value) (h : VG) : ev 88 42 L (st) h = ev 88 45 L (.long 48 :: st) h := G_ldc2l (p := 518) f88_42 lkK_10_63
theorem f88_45 : fetch 88 45 = some (.lsub, 1) := vtab tk88 25 rfl
theorem e88_45 (L : VL) (st : List Value) (h : VG) (x y : Int64) : ev 88 45 L (.long y :: .long x :: st) h = ev 88 46 L (.long (x - y) :: st) h := G_lsub f88_45
theorem f88_46 : fetch 88 46 = some (.lastore, 1) := vtab tk88 26 rfl
theorem e88_46 (L : VL) (st : List Value) (h : VG) (a : Nat) (i : Int32) (x : Int64) (ha : arL h a) (hi : vp_in i (aln h a)) : ev 88 46 L (.long x :: .int i :: .ref a :: st) h = ev 88 47 L (st) (wL h a i.toNatClampNeg x) := G_last f88_46 ha hi
theorem f88_47 : fetch 88 47 = some (.iinc 5 1, 3) := vtab tk88 27 rfl
theorem e88_47 (l0 l1 l2 l3 l4 : Option Value) (L : VL) (st : List Value) (h : VG) (x : Int32) : ev 88 47 (l0 :: l1 :: l2 :: l3 :: l4 :: some (.int x) :: L) (st) h = ev 88 50 (l0 :: l1 :: l2 :: l3 :: vkk l4 :: some (.int (x + (1 : Int32))) :: L) (st) h := G_iinc f88_47 rfl (by decide) (S1_5 l0 l1 l2 l3 l4 (some (.int x)) L _)
theorem f88_50 : fetch 88 50 = some (.goto (-47), 3) := vtab tk88 28 rfl
theorem e88_50 (L : VL) (st : List Value) (h : VG) : ev 88 50 L (st) h = ev 88 3 L (st) h := G_goto f88_50 (by decide)
theorem f88_53 : fetch 88 53 = some (.aload_n 0, 1) := vtab tk88 29 rfl
theorem e88_53 (L : VL) (st : List Value) (h : VG) (x : Nat) : ev 88 53 (some (.ref x) :: L) (st) h = ev 88 54 (some (.ref x) :: L) (.ref x :: st) h := G_aload_n f88_53 rfl
theorem f88_54 : fetch 88 54 = some (.getfield 9, 3) := vtab tk88 30 rfl
theorem e88_54 (L : VL) (st : List Value) (h : VG) (a : Nat) (ho : ob h a 9) (hr : isR h a 0) : ev 88 54 L (.ref a :: st) h = ev 88 57 L (.ref (gR h a 0) :: st) h := G_getR (p := 173) f88_54 lkF_10_9 (by decide) (by decide) ho hr
theorem f88_57 : fetch 88 57 = some (.iload 4, 2) := vtab tk88 31 rfl
theorem e88_57 (l0 l1 l2 l3 : Option Value) (L : VL) (st : List Value) (h : VG) (x : Int32) : ev 88 57 (l0 :: l1 :: l2 :: l3 :: some (.int x) :: L) (st) h = ev 88 59 (l0 :: l1 :: l2 :: l3 :: some (.int x) :: L) (.int x :: st) h := G_iload f88_57 rfl
theorem f88_59 : fetch 88 59 = some (.iload 5, 2) := vtab tk88 32 rfl
theorem e88_59 (l0 l1 l2 l3 l4 : Option Value) (L : VL) (st : List Value) (h : VG) (x : Int32) : ev 88 59 (l0 :: l1 :: l2 :: l3 :: l4 :: some (.int x) :: L) (st) h = ev 88 61 (l0 :: l1 :: l2 :: l3 :: l4 :: some (.int x) :: L) (.int x :: st) h := G_iload f88_59 rfl
theorem f88_61 : fetch 88 61 = some (.iload_n 3, 1) := vtab tk88 33 rfl
theorem e88_61 (l0 l1 l2 : Option Value) (L : VL) (st : List Value) (h : VG) (x : Int32) : ev 88 61 (l0 :: l1 :: l2 :: some (.int x) :: L) (st) h = ev 88 62 (l0 :: l1 :: l2 :: some (.int x) :: L) (.int x :: st) h := G_iload_n f88_61 rfl
theorem f88_62 : fetch 88 62 = some (.isub, 1) := vtab tk88 34 rfl
theorem e88_62 (L : VL) (st : List Value) (h : VG) (x y : Int32) : ev 88 62 L (.int y :: .int x :: st) h = ev 88 63 L (.int (x - y) :: st) h := G_isub f88_62
theorem f88_63 : fetch 88 63 = some (.iconst 4, 1) := vtab tk88 35 rfl
theorem e88_63 (L : VL) (st : List Value) (h : VG) : ev 88 63 L (st) h = ev 88 64 L (.int (4 : Int32) :: st) h := G_iconst f88_63 (by decide)
theorem f88_64 : fetch 88 64 = some (.if_icmp .le 7, 3) := vtab tk88 36 rfl
theorem e88_64 (L : VL) (st : List Value) (h : VG) (x y : Int32) : ev 88 64 L (.int y :: .int x :: st) h = if x ≤ y then ev 88 71 L st h else ev 88 67 L st h := G_icmp_le f88_64 (by decide)
theorem f88_67 : fetch 88 67 = some (.iconst 1, 1) := vtab tk88 37 rfl
theorem e88_67 (L : VL) (st : List Value) (h : VG) : ev 88 67 L (st) h = ev 88 68 L (.int (1 : Int32) :: st) h := G_iconst f88_67 (by decide)
theorem f88_68 : fetch 88 68 = some (.goto 4, 3) := vtab tk88 38 rfl
theorem e88_68 (L : VL) (st : List Value) (h : VG) : ev 88 68 L (st) h = ev 88 72 L (st) h := G_goto f88_68 (by decide)
theorem f88_71 : fetch 88 71 = some (.iconst 3, 1) := vtab tk88 39 rfl
theorem e88_71 (L : VL) (st : List Value) (h : VG) : ev 88 71 L (st) h = ev 88 72 L (.int (3 : Int32) :: st) h := G_iconst f88_71 (by decide)
theorem f88_72 : fetch 88 72 = some (.iastore, 1) := vtab tk88 40 rfl
theorem e88_72 (L : VL) (st : List Value) (h : VG) (a : Nat) (i : Int32) (x : Int32) (ha : arI h a 0) (hi : vp_in i (aln h a)) : ev 88 72 L (.int x :: .int i :: .ref a :: st) h = ev 88 73 L (st) (wI h a i.toNatClampNeg x) := G_iast f88_72 ha hi
theorem f88_73 : fetch 88 73 = some (.iload 5, 2) := vtab tk88 41 rfl
theorem e88_73 (l0 l1 l2 l3 l4 : Option Value) (L : VL) (st : List Value) (h : VG) (x : Int32) : ev 88 73 (l0 :: l1 :: l2 :: l3 :: l4 :: some (.int x) :: L) (st) h = ev 88 75 (l0 :: l1 :: l2 :: l3 :: l4 :: some (.int x) :: L) (.int x :: st) h := G_iload f88_73 rfl
theorem f88_75 : fetch 88 75 = some (.ireturn, 1) := vtab tk88 42 rfl
theorem e88_75 (L : VL) (h : VG) (x : Int32) : ev 88 75 L [.int x] h = some (some (.int x), h) := G_iret f88_75 (ty := .int) (by decide) rfl
/-! 89 GuestCalls$Tokens.isBlank(I)Z -/
def tb89 : List (Nat × Instr × Nat) := [(0, .iload_n 0, 1), (1, .bipush 9, 2), (3, .if_icmp .eq 21, 3), (6, .iload_n 0, 1), (7, .bipush 10, 2), (9, .if_icmp .eq 15, 3), (12, .iload_n 0, 1), (13, .bipush 13, 2), (15, .if_icmp .eq 9, 3), (18, .iload_n 0, 1), (19, .bipush 32, 2), (21, .if_icmp .ne 7, 3), (24, .iconst 1, 1), (25, .goto 4, 3), (28, .iconst 0, 1), (29, .ireturn, 1)]
theorem tk89 : tb89.all (fun q => decide (fetch 89 q.1 = some q.2)) = true := by decide +kernel
theorem f89_0 : fetch 89 0 = some (.iload_n 0, 1) := vtab tk89 0 rfl
theorem e89_0 (L : VL) (st : List Value) (h : VG) (x : Int32) : ev 89 0 (some (.int x) :: L) (st) h = ev 89 1 (some (.int x) :: L) (.int x :: st) h := G_iload_n f89_0 rfl
theorem f89_1 : fetch 89 1 = some (.bipush 9, 2) := vtab tk89 1 rfl
theorem e89_1 (L : VL) (st : List Value) (h : VG) : ev 89 1 L (st) h = ev 89 3 L (.int (9 : Int32) :: st) h := G_bipush f89_1 (by decide)
theorem f89_3 : fetch 89 3 = some (.if_icmp .eq 21, 3) := vtab tk89 2 rfl
theorem e89_3 (L : VL) (st : List Value) (h : VG) (x y : Int32) : ev 89 3 L (.int y :: .int x :: st) h = if x = y then ev 89 24 L st h else ev 89 6 L st h := G_icmp_eq f89_3 (by decide)
theorem f89_6 : fetch 89 6 = some (.iload_n 0, 1) := vtab tk89 3 rfl
theorem e89_6 (L : VL) (st : List Value) (h : VG) (x : Int32) : ev 89 6 (some (.int x) :: L) (st) h = ev 89 7 (some (.int x) :: L) (.int x :: st) h := G_iload_n f89_6 rfl
theorem f89_7 : fetch 89 7 = some (.bipush 10, 2) := vtab tk89 4 rfl
theorem e89_7 (L : VL) (st : List Value) (h : VG) : ev 89 7 L (st) h = ev 89 9 L (.int (10 : Int32) :: st) h := G_bipush f89_7 (by decide)
theorem f89_9 : fetch 89 9 = some (.if_icmp .eq 15, 3) := vtab tk89 5 rfl
theorem e89_9 (L : VL) (st : List Value) (h : VG) (x y : Int32) : ev 89 9 L (.int y :: .int x :: st) h = if x = y then ev 89 24 L st h else ev 89 12 L st h := G_icmp_eq f89_9 (by decide)
theorem f89_12 : fetch 89 12 = some (.iload_n 0, 1) := vtab tk89 6 rfl
theorem e89_12 (L : VL) (st : List Value) (h : VG) (x : Int32) : ev 89 12 (some (.int x) :: L) (st) h = ev 89 13 (some (.int x) :: L) (.int x :: st) h := G_iload_n f89_12 rfl
theorem f89_13 : fetch 89 13 = some (.bipush 13, 2) := vtab tk89 7 rfl
theorem e89_13 (L : VL) (st : List Value) (h : VG) : ev 89 13 L (st) h = ev 89 15 L (.int (13 : Int32) :: st) h := G_bipush f89_13 (by decide)
theorem f89_15 : fetch 89 15 = some (.if_icmp .eq 9, 3) := vtab tk89 8 rfl
theorem e89_15 (L : VL) (st : List Value) (h : VG) (x y : Int32) : ev 89 15 L (.int y :: .int x :: st) h = if x = y then ev 89 24 L st h else ev 89 18 L st h := G_icmp_eq f89_15 (by decide)
theorem f89_18 : fetch 89 18 = some (.iload_n 0, 1) := vtab tk89 9 rfl
theorem e89_18 (L : VL) (st : List Value) (h : VG) (x : Int32) : ev 89 18 (some (.int x) :: L) (st) h = ev 89 19 (some (.int x) :: L) (.int x :: st) h := G_iload_n f89_18 rfl
theorem f89_19 : fetch 89 19 = some (.bipush 32, 2) := vtab tk89 10 rfl
theorem e89_19 (L : VL) (st : List Value) (h : VG) : ev 89 19 L (st) h = ev 89 21 L (.int (32 : Int32) :: st) h := G_bipush f89_19 (by decide)
theorem f89_21 : fetch 89 21 = some (.if_icmp .ne 7, 3) := vtab tk89 11 rfl
theorem e89_21 (L : VL) (st : List Value) (h : VG) (x y : Int32) : ev 89 21 L (.int y :: .int x :: st) h = if x = y then ev 89 24 L st h else ev 89 28 L st h := G_icmp_ne f89_21 (by decide)
theorem f89_24 : fetch 89 24 = some (.iconst 1, 1) := vtab tk89 12 rfl
theorem e89_24 (L : VL) (st : List Value) (h : VG) : ev 89 24 L (st) h = ev 89 25 L (.int (1 : Int32) :: st) h := G_iconst f89_24 (by decide)
theorem f89_25 : fetch 89 25 = some (.goto 4, 3) := vtab tk89 13 rfl
theorem e89_25 (L : VL) (st : List Value) (h : VG) : ev 89 25 L (st) h = ev 89 29 L (st) h := G_goto f89_25 (by decide)
theorem f89_28 : fetch 89 28 = some (.iconst 0, 1) := vtab tk89 14 rfl
theorem e89_28 (L : VL) (st : List Value) (h : VG) : ev 89 28 L (st) h = ev 89 29 L (.int (0 : Int32) :: st) h := G_iconst f89_28 (by decide)
theorem f89_29 : fetch 89 29 = some (.ireturn, 1) := vtab tk89 15 rfl
theorem e89_29 (L : VL) (h : VG) (x : Int32) (hz : x = 0 ∨ x = 1) : ev 89 29 L [.int x] h = some (some (.int x), h) := G_iret f89_29 (ty := .boolean) (by decide) (vbool hz).1
/-! 90 GuestCalls$Tokens.isLetter(I)Z -/
def tb90 : List (Nat × Instr × Nat) := [(0, .iload_n 0, 1), (1, .bipush 97, 2), (3, .if_icmp .lt 13, 3), (6, .iload_n 0, 1), (7, .bipush 122, 2), (9, .if_icmp .gt 7, 3), (12, .iconst 1, 1), (13, .goto 4, 3), (16, .iconst 0, 1), (17, .ireturn, 1)]
theorem tk90 : tb90.all (fun q => decide (fetch 90 q.1 = some q.2)) = true := by decide +kernel
theorem f90_0 : fetch 90 0 = some (.iload_n 0, 1) := vtab tk90 0 rfl
theorem e90_0 (L : VL) (st : List Value) (h : VG) (x : Int32) : ev 90 0 (some (.int x) :: L) (st) h = ev 90 1 (some (.int x) :: L) (.int x :: st) h := G_iload_n f90_0 rfl
theorem f90_1 : fetch 90 1 = some (.bipush 97, 2) := vtab tk90 1 rfl
theorem e90_1 (L : VL) (st : List Value) (h : VG) : ev 90 1 L (st) h = ev 90 3 L (.int (97 : Int32) :: st) h := G_bipush f90_1 (by decide)
theorem f90_3 : fetch 90 3 = some (.if_icmp .lt 13, 3) := vtab tk90 2 rfl
theorem e90_3 (L : VL) (st : List Value) (h : VG) (x y : Int32) : ev 90 3 L (.int y :: .int x :: st) h = if x < y then ev 90 16 L st h else ev 90 6 L st h := G_icmp_lt f90_3 (by decide)
theorem f90_6 : fetch 90 6 = some (.iload_n 0, 1) := vtab tk90 3 rfl
theorem e90_6 (L : VL) (st : List Value) (h : VG) (x : Int32) : ev 90 6 (some (.int x) :: L) (st) h = ev 90 7 (some (.int x) :: L) (.int x :: st) h := G_iload_n f90_6 rfl
theorem f90_7 : fetch 90 7 = some (.bipush 122, 2) := vtab tk90 4 rfl
theorem e90_7 (L : VL) (st : List Value) (h : VG) : ev 90 7 L (st) h = ev 90 9 L (.int (122 : Int32) :: st) h := G_bipush f90_7 (by decide)
theorem f90_9 : fetch 90 9 = some (.if_icmp .gt 7, 3) := vtab tk90 5 rfl
theorem e90_9 (L : VL) (st : List Value) (h : VG) (x y : Int32) : ev 90 9 L (.int y :: .int x :: st) h = if x ≤ y then ev 90 12 L st h else ev 90 16 L st h := G_icmp_gt f90_9 (by decide)
theorem f90_12 : fetch 90 12 = some (.iconst 1, 1) := vtab tk90 6 rfl
theorem e90_12 (L : VL) (st : List Value) (h : VG) : ev 90 12 L (st) h = ev 90 13 L (.int (1 : Int32) :: st) h := G_iconst f90_12 (by decide)
theorem f90_13 : fetch 90 13 = some (.goto 4, 3) := vtab tk90 7 rfl
theorem e90_13 (L : VL) (st : List Value) (h : VG) : ev 90 13 L (st) h = ev 90 17 L (st) h := G_goto f90_13 (by decide)
theorem f90_16 : fetch 90 16 = some (.iconst 0, 1) := vtab tk90 8 rfl
theorem e90_16 (L : VL) (st : List Value) (h : VG) : ev 90 16 L (st) h = ev 90 17 L (.int (0 : Int32) :: st) h := G_iconst f90_16 (by decide)
theorem f90_17 : fetch 90 17 = some (.ireturn, 1) := vtab tk90 9 rfl
theorem e90_17 (L : VL) (h : VG) (x : Int32) (hz : x = 0 ∨ x = 1) : ev 90 17 L [.int x] h = some (some (.int x), h) := G_iret f90_17 (ty := .boolean) (by decide) (vbool hz).1
/-! 91 GuestCalls$Tokens.isDigit(I)Z -/
def tb91 : List (Nat × Instr × Nat) := [(0, .iload_n 0, 1), (1, .bipush 48, 2), (3, .if_icmp .lt 13, 3), (6, .iload_n 0, 1), (7, .bipush 57, 2), (9, .if_icmp .gt 7, 3), (12, .iconst 1, 1), (13, .goto 4, 3), (16, .iconst 0, 1), (17, .ireturn, 1)]
theorem tk91 : tb91.all (fun q => decide (fetch 91 q.1 = some q.2)) = true := by decide +kernel
theorem f91_0 : fetch 91 0 = some (.iload_n 0, 1) := vtab tk91 0 rfl
theorem e91_0 (L : VL) (st : List Value) (h : VG) (x : Int32) : ev 91 0 (some (.int x) :: L) (st) h = ev 91 1 (some (.int x) :: L) (.int x :: st) h := G_iload_n f91_0 rfl
theorem f91_1 : fetch 91 1 = some (.bipush 48, 2) := vtab tk91 1 rfl
theorem e91_1 (L : VL) (st : List Value) (h : VG) : ev 91 1 L (st) h = ev 91 3 L (.int (48 : Int32) :: st) h := G_bipush f91_1 (by decide)
theorem f91_3 : fetch 91 3 = some (.if_icmp .lt 13, 3) := vtab tk91 2 rfl
theorem e91_3 (L : VL) (st : List Value) (h : VG) (x y : Int32) : ev 91 3 L (.int y :: .int x :: st) h = if x < y then ev 91 16 L st h else ev 91 6 L st h := G_icmp_lt f91_3 (by decide)
theorem f91_6 : fetch 91 6 = some (.iload_n 0, 1) := vtab tk91 3 rfl
theorem e91_6 (L : VL) (st : List Value) (h : VG) (x : Int32) : ev 91 6 (some (.int x) :: L) (st) h = ev 91 7 (some (.int x) :: L) (.int x :: st) h := G_iload_n f91_6 rfl
theorem f91_7 : fetch 91 7 = some (.bipush 57, 2) := vtab tk91 4 rfl
theorem e91_7 (L : VL) (st : List Value) (h : VG) : ev 91 7 L (st) h = ev 91 9 L (.int (57 : Int32) :: st) h := G_bipush f91_7 (by decide)
theorem f91_9 : fetch 91 9 = some (.if_icmp .gt 7, 3) := vtab tk91 5 rfl
theorem e91_9 (L : VL) (st : List Value) (h : VG) (x y : Int32) : ev 91 9 L (.int y :: .int x :: st) h = if x ≤ y then ev 91 12 L st h else ev 91 16 L st h := G_icmp_gt f91_9 (by decide)
theorem f91_12 : fetch 91 12 = some (.iconst 1, 1) := vtab tk91 6 rfl
theorem e91_12 (L : VL) (st : List Value) (h : VG) : ev 91 12 L (st) h = ev 91 13 L (.int (1 : Int32) :: st) h := G_iconst f91_12 (by decide)
theorem f91_13 : fetch 91 13 = some (.goto 4, 3) := vtab tk91 7 rfl
theorem e91_13 (L : VL) (st : List Value) (h : VG) : ev 91 13 L (st) h = ev 91 17 L (st) h := G_goto f91_13 (by decide)
theorem f91_16 : fetch 91 16 = some (.iconst 0, 1) := vtab tk91 8 rfl
theorem e91_16 (L : VL) (st : List Value) (h : VG) : ev 91 16 L (st) h = ev 91 17 L (.int (0 : Int32) :: st) h := G_iconst f91_16 (by decide)
theorem f91_17 : fetch 91 17 = some (.ireturn, 1) := vtab tk91 9 rfl
theorem e91_17 (L : VL) (h : VG) (x : Int32) (hz : x = 0 ∨ x = 1) : ev 91 17 L [.int x] h = some (some (.int x), h) := G_iret f91_17 (ty := .boolean) (by decide) (vbool hz).1
/-! 92 GuestCalls.<init>()V -/
def tb92 : List (Nat × Instr × Nat) := [(0, .aload_n 0, 1), (1, .invokespecial 3, 3), (4, .aload_n 0, 1), (5, .sipush 2000, 3), (8, .newarray .byte, 2), (10, .putfield 9, 3), (13, .aload_n 0, 1), (14, .new 13, 3), (17, .dup, 1), (18, .invokespecial 15, 3), (21, .putfield 16, 3), (24, .aload_n 0, 1), (25, .new 20, 3), (28, .dup, 1), (29, .invokespecial 22, 3), (32, .putfield 23, 3), (35, .aload_n 0, 1), (36, .new 20, 3), (39, .dup, 1), (40, .invokespecial 22, 3), (43, .putfield 27, 3), (46, .aload_n 0, 1), (47, .iconst (-1), 1), (48, .putfield 30, 3), (51, .aload_n 0, 1), (52, .new 34, 3), (55, .dup, 1), (56, .invokespecial 36, 3), (59, .putfield 37, 3), (62, .aload_n 0, 1), (63, .iconst 2, 1), (64, .anewarray 34, 3), (67, .dup, 1), (68, .iconst 0, 1), (69, .new 34, 3), (72, .dup, 1), (73, .invokespecial 36, 3), (77, .dup, 1), (78, .iconst 1, 1), (79, .new 34, 3), (82, .dup, 1), (83, .invokespecial 36, 3), (87, .putfield 41, 3), (90, .aload_n 0, 1), (91, .iconst 2, 1), (92, .newarray .boolean, 2), (94, .putfield 45, 3), (97, .aload_n 0, 1), (98, .bipush 32, 2), (100, .newarray .long, 2), (102, .putfield 49, 3), (105, .aload_n 0, 1), (106, .new 53, 3), (109, .dup, 1), (110, .invokespecial 55, 3), (113, .putfield 56, 3), (116, .aload_n 0, 1), (117, .sipush 256, 3), (120, .newarray .byte, 2), (122, .putfield 60, 3), (125, .return_, 1)]
theorem tk92 : tb92.all (fun q => decide (fetch 92 q.1 = some q.2)) = true := by decide +kernel
theorem f92_0 : fetch 92 0 = some (.aload_n 0, 1) := vtab tk92 0 rfl
theorem e92_0 (L : VL) (st : List Value) (h : VG) (x : Nat) : ev 92 0 (some (.ref x) :: L) (st) h = ev 92 1 (some (.ref x) :: L) (.ref x :: st) h := G_aload_n f92_0 rfl
theorem f92_1 : fetch 92 1 = some (.invokespecial 3, 3) := vtab tk92 1 rfl
theorem e92_1 (L : VL) (st : List Value) (h : VG) (a : Nat) (hs : catS st ≤ 8) : ev 92 1 L (.ref a :: st) h = ev 92 4 L (st) h := G_objinit (y := 0) (p := 106) f92_1 lkC_11_3 hs
theorem f92_4 : fetch 92 4 = some (.aload_n 0, 1) := vtab tk92 2 rfl
theorem e92_4 (L : VL) (st : List Value) (h : VG) (x : Nat) : ev 92 4 (some (.ref x) :: L) (st) h = ev 92 5 (some (.ref x) :: L) (.ref x :: st) h := G_aload_n f92_4 rfl
theorem f92_5 : fetch 92 5 = some (.sipush 2000, 3) := vtab tk92 3 rfl
theorem e92_5 (L : VL) (st : List Value) (h : VG) : ev 92 5 L (st) h = ev 92 8 L (.int (2000 : Int32) :: st) h := G_sipush f92_5 (by decide)
theorem f92_8 : fetch 92 8 = some (.newarray .byte, 2) := vtab tk92 4 rfl
theorem e92_8 (L : VL) (st : List Value) (h : VG) (n : Int32) (hn : ¬ n < 0 ∧ n.toNatClampNeg ≤ 4096) : ev 92 8 L (.int n :: st) h = ev 92 10 L (.ref h.2.1 :: st) (hnew h (.inl (2, n.toNatClampNeg, .inl (fun _ => 0))) n.toNatClampNeg) := G_newa f92_8 rfl hn
theorem f92_10 : fetch 92 10 = some (.putfield 9, 3) := vtab tk92 5 rfl
theorem e92_10 (L : VL) (st : List Value) (h : VG) (a : Nat) (x : Nat) (ho : ob h a 10) : ev 92 10 L (.ref x :: .ref a :: st) h = ev 92 13 L (st) (pR h a 0 x) := G_putR (p := 429) f92_10 lkF_11_9 (by decide) (by decide) (by decide +kernel) ⟨rfl, rfl⟩ ho
theorem f92_13 : fetch 92 13 = some (.aload_n 0, 1) := vtab tk92 6 rfl
theorem e92_13 (L : VL) (st : List Value) (h : VG) (x : Nat) : ev 92 13 (some (.ref x) :: L) (st) h = ev 92 14 (some (.ref x) :: L) (.ref x :: st) h := G_aload_n f92_13 rfl
theorem f92_14 : fetch 92 14 = some (.new 13, 3) := vtab tk92 7 rfl
theorem e92_14 (L : VL) (st : List Value) (h : VG) : ev 92 14 L (st) h = ev 92 17 L (.ref h.2.1 :: st) (hnew h (.inr (7, vDef 7)) (vNsl 7)) := G_new (p := 109) f92_14 lkN_11_13
theorem f92_17 : fetch 92 17 = some (.dup, 1) := vtab tk92 8 rfl
theorem e92_17b (L : VL) (st : List Value) (h : VG) (x : Int32) : ev 92 17 L (.int x :: st) h = ev 92 18 L (.int x :: .int x :: st) h := G_dup_int f92_17
theorem e92_17 (L : VL) (st : List Value) (h : VG) (x : Nat) : ev 92 17 L (.ref x :: st) h = ev 92 18 L (.ref x :: .ref x :: st) h := G_dup_ref f92_17
theorem f92_18 : fetch 92 18 = some (.invokespecial 15, 3) := vtab tk92 9 rfl
theorem e92_18 (L : VL) (st : List Value) (h : VG) (b : Nat)  (hs : catS st ≤ 8) : ev 92 18 L (.ref b :: st) h = (ev 64 0 [some (.ref b)] [] h).bind fun q => ev 92 21 L (q.1.toList ++ st) q.2 := G_calli (k := 5) (p := 111) (ars := []) f92_18 lkC_11_15 (by decide) (by decide +kernel) rfl (Nat.le_of_ble_eq_true rfl) hs rfl
theorem f92_21 : fetch 92 21 = some (.putfield 16, 3) := vtab tk92 10 rfl
theorem e92_21 (L : VL) (st : List Value) (h : VG) (a : Nat) (x : Nat) (ho : ob h a 10) : ev 92 21 L (.ref x :: .ref a :: st) h = ev 92 24 L (st) (pR h a 2 x) := G_putR (p := 431) f92_21 lkF_11_16 (by decide) (by decide) (by decide +kernel) ⟨rfl, rfl⟩ ho
theorem f92_24 : fetch 92 24 = some (.aload_n 0, 1) := vtab tk92 11 rfl
theorem e92_24 (L : VL) (st : List Value) (h : VG) (x : Nat) : ev 92 24 (some (.ref x) :: L) (st) h = ev 92 25 (some (.ref x) :: L) (.ref x :: st) h := G_aload_n f92_24 rfl
theorem f92_25 : fetch 92 25 = some (.new 20, 3) := vtab tk92 12 rfl
theorem e92_25 (L : VL) (st : List Value) (h : VG) : ev 92 25 L (st) h = ev 92 28 L (.ref h.2.1 :: st) (hnew h (.inr (6, vDef 6)) (vNsl 6)) := G_new (p := 212) f92_25 lkN_11_20
theorem f92_28 : fetch 92 28 = some (.dup, 1) := vtab tk92 13 rfl
theorem e92_28b (L : VL) (st : List Value) (h : VG) (x : Int32) : ev 92 28 L (.int x :: st) h = ev 92 29 L (.int x :: .int x :: st) h := G_dup_int f92_28
theorem e92_28 (L : VL) (st : List Value) (h : VG) (x : Nat) : ev 92 28 L (.ref x :: st) h = ev 92 29 L (.ref x :: .ref x :: st) h := G_dup_ref f92_28
theorem f92_29 : fetch 92 29 = some (.invokespecial 22, 3) := vtab tk92 14 rfl
theorem e92_29 (L : VL) (st : List Value) (h : VG) (b : Nat)  (hs : catS st ≤ 8) : ev 92 29 L (.ref b :: st) h = (ev 61 0 [some (.ref b), none] [] h).bind fun q => ev 92 32 L (q.1.toList ++ st) q.2 := G_calli (k := 2) (p := 214) (ars := []) f92_29 lkC_11_22 (by decide) (by decide +kernel) rfl (Nat.le_of_ble_eq_true rfl) hs rfl
theorem f92_32 : fetch 92 32 = some (.putfield 23, 3) := vtab tk92 15 rfl
theorem e92_32 (L : VL) (st : List Value) (h : VG) (a : Nat) (x : Nat) (ho : ob h a 10) : ev 92 32 L (.ref x :: .ref a :: st) h = ev 92 35 L (st) (pR h a 3 x) := G_putR (p := 432) f92_32 lkF_11_23 (by decide) (by decide) (by decide +kernel) ⟨rfl, rfl⟩ ho
theorem f92_35 : fetch 92 35 = some (.aload_n 0, 1) := vtab tk92 16 rfl
theorem e92_35 (L : VL) (st : List Value) (h : VG) (x : Nat) : ev 92 35 (some (.ref x) :: L) (st) h = ev 92 36 (some (.ref x) :: L) (.ref x :: st) h := G_aload_n f92_35 rfl
theorem f92_36 : fetch 92 36 = some (.new 20, 3) := vtab tk92 17 rfl
theorem e92_36 (L : VL) (st : List Value) (h : VG) : ev 92 36 L (st) h = ev 92 39 L (.ref h.2.1 :: st) (hnew h (.inr (6, vDef 6)) (vNsl 6)) := G_new (p := 212) f92_36 lkN_11_20
theorem f92_39 : fetch 92 39 = some (.dup, 1) := vtab tk92 18 rfl
theorem e92_39b (L : VL) (st : List Value) (h : VG) (x : Int32) : ev 92 39 L (.int x :: st) h = ev 92 40 L (.int x :: .int x :: st) h := G_dup_int f92_39
theorem e92_39 (L : VL) (st : List Value) (h : VG) (x : Nat) : ev 92 39 L (.ref x :: st) h = ev 92 40 L (.ref x :: .ref x :: st) h := G_dup_ref f92_39
theorem f92_40 : fetch 92 40 = some (.invokespecial 22, 3) := vtab tk92 19 rfl
theorem e92_40 (L : VL) (st : List Value) (h : VG) (b : Nat)  (hs : catS st ≤ 8) : ev 92 40 L (.ref b :: st) h = (ev 61 0 [some (.ref b), none] [] h).bind fun q => ev 92 43 L (q.1.toList ++ st) q.2 := G_calli (k := 2) (p := 214) (ars := []) f92_40 lkC_11_22 (by decide) (by decide +kernel) rfl (Nat.le_of_ble_eq_true rfl) hs rfl
theorem f92_43 : fetch 92 43 = some (.putfield 27, 3) := vtab tk92 20 rfl
theorem e92_43 (L : VL) (st : List Value) (h : VG) (a : Nat) (x : Nat) (ho : ob h a 10) : ev 92 43 L (.ref x :: .ref a :: st) h = ev 92 46 L (st) (pR h a 4 x) := G_putR (p := 433) f92_43 lkF_11_27 (by decide) (by decide) (by decide +kernel) ⟨rfl, rfl⟩ ho
theorem f92_46 : fetch 92 46 = some (.aload_n 0, 1) := vtab tk92 21 rfl
theorem e92_46 (L : VL) (st : List Value) (h : VG) (x : Nat) : ev 92 46 (some (.ref x) :: L) (st) h = ev 92 47 (some (.ref x) :: L) (.ref x :: st) h := G_aload_n f92_46 rfl
theorem f92_47 : fetch 92 47 = some (.iconst (-1), 1) := vtab tk92 22 rfl
theorem e92_47 (L : VL) (st : List Value) (h : VG) : ev 92 47 L (st) h = ev 92 48 L (.int (-1 : Int32) :: st) h := G_iconst f92_47 (by decide)
theorem f92_48 : fetch 92 48 = some (.putfield 30, 3) := vtab tk92 23 rfl
theorem e92_48 (L : VL) (st : List Value) (h : VG) (a : Nat) (x : Int32) (ho : ob h a 10) : ev 92 48 L (.int x :: .ref a :: st) h = ev 92 51 L (st) (pI h a 5 x) := G_putI (p := 434) f92_48 lkF_11_30 (by decide) (by decide) (by decide +kernel) ⟨rfl, rfl⟩ ho
theorem f92_51 : fetch 92 51 = some (.aload_n 0, 1) := vtab tk92 24 rfl
theorem e92_51 (L : VL) (st : List Value) (h : VG) (x : Nat) : ev 92 51 (some (.ref x) :: L) (st) h = ev 92 52 (some (.ref x) :: L) (.ref x :: st) h := G_aload_n f92_51 rfl
theorem f92_52 : fetch 92 52 = some (.new 34, 3) := vtab tk92 25 rfl
theorem e92_52 (L : VL) (st : List Value) (h : VG) : ev 92 52 L (st) h = ev 92 55 L (.ref h.2.1 :: st) (hnew h (.inr (8, vDef 8)) (vNsl 8)) := G_new (p := 350) f92_52 lkN_11_34
theorem f92_55 : fetch 92 55 = some (.dup, 1) := vtab tk92 26 rfl
theorem e92_55b (L : VL) (st : List Value) (h : VG) (x : Int32) : ev 92 55 L (.int x :: st) h = ev 92 56 L (.int x :: .int x :: st) h := G_dup_int f92_55
theorem e92_55 (L : VL) (st : List Value) (h : VG) (x : Nat) : ev 92 55 L (.ref x :: st) h = ev 92 56 L (.ref x :: .ref x :: st) h := G_dup_ref f92_55
theorem f92_56 : fetch 92 56 = some (.invokespecial 36, 3) := vtab tk92 27 rfl
theorem e92_56 (L : VL) (st : List Value) (h : VG) (b : Nat)  (hs : catS st ≤ 8) : ev 92 56 L (.ref b :: st) h = (ev 79 0 [some (.ref b), none] [] h).bind fun q => ev 92 59 L (q.1.toList ++ st) q.2 := G_calli (k := 2) (p := 352) (ars := []) f92_56 lkC_11_36 (by decide) (by decide +kernel) rfl (Nat.le_of_ble_eq_true rfl) hs rfl
theorem f92_59 : fetch 92 59 = some (.putfield 37, 3) := vtab tk92 28 rfl
theorem e92_59 (L : VL) (st : List Value) (h : VG) (a : Nat) (x : Nat) (ho : ob h a 10) : ev 92 59 L (.ref x :: .ref a :: st) h = ev 92 62 L (st) (pR h a 6 x) := G_putR (p := 435) f92_59 lkF_11_37 (by decide) (by decide) (by decide +kernel) ⟨rfl, rfl⟩ ho
theorem f92_62 : fetch 92 62 = some (.aload_n 0, 1) := vtab tk92 29 rfl
theorem e92_62 (L : VL) (st : List Value) (h : VG) (x : Nat) : ev 92 62 (some (.ref x) :: L) (st) h = ev 92 63 (some (.ref x) :: L) (.ref x :: st) h := G_aload_n f92_62 rfl
theorem f92_63 : fetch 92 63 = some (.iconst 2, 1) := vtab tk92 30 rfl
theorem e92_63 (L : VL) (st : List Value) (h : VG) : ev 92 63 L (st) h = ev 92 64 L (.int (2 : Int32) :: st) h := G_iconst f92_63 (by decide)
theorem f92_64 : fetch 92 64 = some (.anewarray 34, 3) := vtab tk92 31 rfl
theorem e92_64 (L : VL) (st : List Value) (h : VG) (n : Int32) (hn : ¬ n < 0 ∧ n.toNatClampNeg ≤ 4096) : ev 92 64 L (.int n :: st) h = ev 92 67 L (.ref h.2.1 :: st) (hnew h (.inl (7, n.toNatClampNeg, .inr (.inr (.inr (.inr (fun _ => none)))))) n.toNatClampNeg) := G_anewa (ci := 8) (p := 350) f92_64 lkN_11_34 ⟨hn.1, hn.2, by decide⟩
theorem f92_67 : fetch 92 67 = some (.dup, 1) := vtab tk92 32 rfl
theorem e92_67b (L : VL) (st : List Value) (h : VG) (x : Int32) : ev 92 67 L (.int x :: st) h = ev 92 68 L (.int x :: .int x :: st) h := G_dup_int f92_67
theorem e92_67 (L : VL) (st : List Value) (h : VG) (x : Nat) : ev 92 67 L (.ref x :: st) h = ev 92 68 L (.ref x :: .ref x :: st) h := G_dup_ref f92_67
theorem f92_68 : fetch 92 68 = some (.iconst 0, 1) := vtab tk92 33 rfl
theorem e92_68 (L : VL) (st : List Value) (h : VG) : ev 92 68 L (st) h = ev 92 69 L (.int (0 : Int32) :: st) h := G_iconst f92_68 (by decide)
theorem f92_69 : fetch 92 69 = some (.new 34, 3) := vtab tk92 34 rfl
theorem e92_69 (L : VL) (st : List Value) (h : VG) : ev 92 69 L (st) h = ev 92 72 L (.ref h.2.1 :: st) (hnew h (.inr (8, vDef 8)) (vNsl 8)) := G_new (p := 350) f92_69 lkN_11_34
theorem f92_72 : fetch 92 72 = some (.dup, 1) := vtab tk92 35 rfl
theorem e92_72b (L : VL) (st : List Value) (h : VG) (x : Int32) : ev 92 72 L (.int x :: st) h = ev 92 73 L (.int x :: .int x :: st) h := G_dup_int f92_72
theorem e92_72 (L : VL) (st : List Value) (h : VG) (x : Nat) : ev 92 72 L (.ref x :: st) h = ev 92 73 L (.ref x :: .ref x :: st) h := G_dup_ref f92_72
theorem f92_73 : fetch 92 73 = some (.invokespecial 36, 3) := vtab tk92 36 rfl
theorem e92_73 (L : VL) (st : List Value) (h : VG) (b : Nat)  (hs : catS st ≤ 8) : ev 92 73 L (.ref b :: st) h = (ev 79 0 [some (.ref b), none] [] h).bind fun q => ev 92 76 L (q.1.toList ++ st) q.2 := G_calli (k := 2) (p := 352) (ars := []) f92_73 lkC_11_36 (by decide) (by decide +kernel) rfl (Nat.le_of_ble_eq_true rfl) hs rfl
theorem f92_77 : fetch 92 77 = some (.dup, 1) := vtab tk92 37 rfl
theorem e92_77b (L : VL) (st : List Value) (h : VG) (x : Int32) : ev 92 77 L (.int x :: st) h = ev 92 78 L (.int x :: .int x :: st) h := G_dup_int f92_77
theorem e92_77 (L : VL) (st : List Value) (h : VG) (x : Nat) : ev 92 77 L (.ref x :: st) h = ev 92 78 L (.ref x :: .ref x :: st) h := G_dup_ref f92_77
theorem f92_78 : fetch 92 78 = some (.iconst 1, 1) := vtab tk92 38 rfl
theorem e92_78 (L : VL) (st : List Value) (h : VG) : ev 92 78 L (st) h = ev 92 79 L (.int (1 : Int32) :: st) h := G_iconst f92_78 (by decide)
theorem f92_79 : fetch 92 79 = some (.new 34, 3) := vtab tk92 39 rfl
theorem e92_79 (L : VL) (st : List Value) (h : VG) : ev 92 79 L (st) h = ev 92 82 L (.ref h.2.1 :: st) (hnew h (.inr (8, vDef 8)) (vNsl 8)) := G_new (p := 350) f92_79 lkN_11_34
theorem f92_82 : fetch 92 82 = some (.dup, 1) := vtab tk92 40 rfl
theorem e92_82b (L : VL) (st : List Value) (h : VG) (x : Int32) : ev 92 82 L (.int x :: st) h = ev 92 83 L (.int x :: .int x :: st) h := G_dup_int f92_82
theorem e92_82 (L : VL) (st : List Value) (h : VG) (x : Nat) : ev 92 82 L (.ref x :: st) h = ev 92 83 L (.ref x :: .ref x :: st) h := G_dup_ref f92_82
theorem f92_83 : fetch 92 83 = some (.invokespecial 36, 3) := vtab tk92 41 rfl
theorem e92_83 (L : VL) (st : List Value) (h : VG) (b : Nat)  (hs : catS st ≤ 8) : ev 92 83 L (.ref b :: st) h = (ev 79 0 [some (.ref b), none] [] h).bind fun q => ev 92 86 L (q.1.toList ++ st) q.2 := G_calli (k := 2) (p := 352) (ars := []) f92_83 lkC_11_36 (by decide) (by decide +kernel) rfl (Nat.le_of_ble_eq_true rfl) hs rfl
theorem f92_87 : fetch 92 87 = some (.putfield 41, 3) := vtab tk92 42 rfl
theorem e92_87 (L : VL) (st : List Value) (h : VG) (a : Nat) (x : Nat) (ho : ob h a 10) : ev 92 87 L (.ref x :: .ref a :: st) h = ev 92 90 L (st) (pR h a 7 x) := G_putR (p := 436) f92_87 lkF_11_41 (by decide) (by decide) (by decide +kernel) ⟨rfl, rfl⟩ ho
theorem f92_90 : fetch 92 90 = some (.aload_n 0, 1) := vtab tk92 43 rfl
theorem e92_90 (L : VL) (st : List Value) (h : VG) (x : Nat) : ev 92 90 (some (.ref x) :: L) (st) h = ev 92 91 (some (.ref x) :: L) (.ref x :: st) h := G_aload_n f92_90 rfl
theorem f92_91 : fetch 92 91 = some (.iconst 2, 1) := vtab tk92 44 rfl
theorem e92_91 (L : VL) (st : List Value) (h : VG) : ev 92 91 L (st) h = ev 92 92 L (.int (2 : Int32) :: st) h := G_iconst f92_91 (by decide)
theorem f92_92 : fetch 92 92 = some (.newarray .boolean, 2) := vtab tk92 45 rfl
theorem e92_92 (L : VL) (st : List Value) (h : VG) (n : Int32) (hn : ¬ n < 0 ∧ n.toNatClampNeg ≤ 4096) : ev 92 92 L (.int n :: st) h = ev 92 94 L (.ref h.2.1 :: st) (hnew h (.inl (3, n.toNatClampNeg, .inl (fun _ => 0))) n.toNatClampNeg) := G_newa f92_92 rfl hn
theorem f92_94 : fetch 92 94 = some (.putfield 45, 3) := vtab tk92 46 rfl
theorem e92_94 (L : VL) (st : List Value) (h : VG) (a : Nat) (x : Nat) (ho : ob h a 10) : ev 92 94 L (.ref x :: .ref a :: st) h = ev 92 97 L (st) (pR h a 8 x) := G_putR (p := 437) f92_94 lkF_11_45 (by decide) (by decide) (by decide +kernel) ⟨rfl, rfl⟩ ho
theorem f92_97 : fetch 92 97 = some (.aload_n 0, 1) := vtab tk92 47 rfl
theorem e92_97 (L : VL) (st : List Value) (h : VG) (x : Nat) : ev 92 97 (some (.ref x) :: L) (st) h = ev 92 98 (some (.ref x) :: L) (.ref x :: st) h := G_aload_n f92_97 rfl
theorem f92_98 : fetch 92 98 = some (.bipush 32, 2) := vtab tk92 48 rfl
theorem e92_98 (L : VL) (st : List Value) (h : VG) : ev 92 98 L (st) h = ev 92 100 L (.int (32 : Int32) :: st) h := G_bipush f92_98 (by decide)
theorem f92_100 : fetch 92 100 = some (.newarray .long, 2) := vtab tk92 49 rfl
theorem e92_100 (L : VL) (st : List Value) (h : VG) (n : Int32) (hn : ¬ n < 0 ∧ n.toNatClampNeg ≤ 4096) : ev 92 100 L (.int n :: st) h = ev 92 102 L (.ref h.2.1 :: st) (hnew h (.inl (1, n.toNatClampNeg, .inr (.inl (fun _ => 0)))) n.toNatClampNeg) := G_newa f92_100 rfl hn
theorem f92_102 : fetch 92 102 = some (.putfield 49, 3) := vtab tk92 50 rfl
theorem e92_102 (L : VL) (st : List Value) (h : VG) (a : Nat) (x : Nat) (ho : ob h a 10) : ev 92 102 L (.ref x :: .ref a :: st) h = ev 92 105 L (st) (pR h a 11 x) := G_putR (p := 440) f92_102 lkF_11_49 (by decide) (by decide) (by decide +kernel) ⟨rfl, rfl⟩ ho
theorem f92_105 : fetch 92 105 = some (.aload_n 0, 1) := vtab tk92 51 rfl
theorem e92_105 (L : VL) (st : List Value) (h : VG) (x : Nat) : ev 92 105 (some (.ref x) :: L) (st) h = ev 92 106 (some (.ref x) :: L) (.ref x :: st) h := G_aload_n f92_105 rfl
theorem f92_106 : fetch 92 106 = some (.new 53, 3) := vtab tk92 52 rfl
theorem e92_106 (L : VL) (st : List Value) (h : VG) : ev 92 106 L (st) h = ev 92 109 L (.ref h.2.1 :: st) (hnew h (.inr (2, vDef 2)) (vNsl 2)) := G_new (p := 400) f92_106 lkN_11_53
theorem f92_109 : fetch 92 109 = some (.dup, 1) := vtab tk92 53 rfl
theorem e92_109b (L : VL) (st : List Value) (h : VG) (x : Int32) : ev 92 109 L (.int x :: st) h = ev 92 110 L (.int x :: .int x :: st) h := G_dup_int f92_109
theorem e92_109 (L : VL) (st : List Value) (h : VG) (x : Nat) : ev 92 109 L (.ref x :: st) h = ev 92 110 L (.ref x :: .ref x :: st) h := G_dup_ref f92_109
theorem f92_110 : fetch 92 110 = some (.invokespecial 55, 3) := vtab tk92 54 rfl
theorem e92_110 (L : VL) (st : List Value) (h : VG) (b : Nat)  (hs : catS st ≤ 8) : ev 92 110 L (.ref b :: st) h = (ev 21 0 [some (.ref b)] [] h).bind fun q => ev 92 113 L (q.1.toList ++ st) q.2 := G_calli (k := 5) (p := 402) (ars := []) f92_110 lkC_11_55 (by decide) (by decide +kernel) rfl (Nat.le_of_ble_eq_true rfl) hs rfl
theorem f92_113 : fetch 92 113 = some (.putfield 56, 3) := vtab tk92 55 rfl
theorem e92_113 (L : VL) (st : List Value) (h : VG) (a : Nat) (x : Nat) (ho : ob h a 10) : ev 92 113 L (.ref x :: .ref a :: st) h = ev 92 116 L (st) (pR h a 12 x) := G_putR (p := 441) f92_113 lkF_11_56 (by decide) (by decide) (by decide +kernel) ⟨rfl, rfl⟩ ho
theorem f92_116 : fetch 92 116 = some (.aload_n 0, 1) := vtab tk92 56 rfl
theorem e92_116 (L : VL) (st : List Value) (h : VG) (x : Nat) : ev 92 116 (some (.ref x) :: L) (st) h = ev 92 117 (some (.ref x) :: L) (.ref x :: st) h := G_aload_n f92_116 rfl
theorem f92_117 : fetch 92 117 = some (.sipush 256, 3) := vtab tk92 57 rfl
theorem e92_117 (L : VL) (st : List Value) (h : VG) : ev 92 117 L (st) h = ev 92 120 L (.int (256 : Int32) :: st) h := G_sipush f92_117 (by decide)
theorem f92_120 : fetch 92 120 = some (.newarray .byte, 2) := vtab tk92 58 rfl
theorem e92_120 (L : VL) (st : List Value) (h : VG) (n : Int32) (hn : ¬ n < 0 ∧ n.toNatClampNeg ≤ 4096) : ev 92 120 L (.int n :: st) h = ev 92 122 L (.ref h.2.1 :: st) (hnew h (.inl (2, n.toNatClampNeg, .inl (fun _ => 0))) n.toNatClampNeg) := G_newa f92_120 rfl hn
theorem f92_122 : fetch 92 122 = some (.putfield 60, 3) := vtab tk92 59 rfl
theorem e92_122 (L : VL) (st : List Value) (h : VG) (a : Nat) (x : Nat) (ho : ob h a 10) : ev 92 122 L (.ref x :: .ref a :: st) h = ev 92 125 L (st) (pR h a 13 x) := G_putR (p := 442) f92_122 lkF_11_60 (by decide) (by decide) (by decide +kernel) ⟨rfl, rfl⟩ ho
theorem f92_125 : fetch 92 125 = some (.return_, 1) := vtab tk92 60 rfl
theorem e92_125 (L : VL) (h : VG) : ev 92 125 L [] h = some (none, h) := G_vret f92_125 (by decide)
/-! 93 GuestCalls.feed(IIIII)I -/
def tb93 : List (Nat × Instr × Nat) := [(0, .aload_n 0, 1), (1, .getfield 63, 3), (4, .bipush 20, 2), (6, .iadd, 1), (7, .sipush 2000, 3), (10, .if_icmp .le 5, 3), (13, .iconst (-1), 1), (14, .ireturn, 1), (15, .aload_n 0, 1), (16, .iload_n 1, 1), (17, .invokevirtual 66, 3), (20, .aload_n 0, 1), (21, .iload_n 2, 1), (22, .invokevirtual 66, 3), (25, .aload_n 0, 1), (26, .iload_n 3, 1), (27, .invokevirtual 66, 3), (30, .aload_n 0, 1), (31, .iload 4, 2), (33, .invokevirtual 66, 3), (36, .aload_n 0, 1), (37, .iload 5, 2), (39, .invokevirtual 66, 3), (42, .aload_n 0, 1), (43, .getfield 63, 3), (46, .ireturn, 1)]
theorem tk93 : tb93.all (fun q => decide (fetch 93 q.1 = some q.2)) = true := by decide +kernel
theorem f93_0 : fetch 93 0 = some (.aload_n 0, 1) := vtab tk93 0 rfl
theorem e93_0 (L : VL) (st : List Value) (h : VG) (x : Nat) : ev 93 0 (some (.ref x) :: L) (st) h = ev 93 1 (some (.ref x) :: L) (.ref x :: st) h := G_aload_n f93_0 rfl
theorem f93_1 : fetch 93 1 = some (.getfield 63, 3) := vtab tk93 1 rfl
theorem e93_1 (L : VL) (st : List Value) (h : VG) (a : Nat) (ho : ob h a 10) : ev 93 1 L (.ref a :: st) h = ev 93 4 L (.int (gI h a 1) :: st) h := G_getI (p := 430) f93_1 lkF_11_63 (by decide) (by decide) ho
theorem f93_4 : fetch 93 4 = some (.bipush 20, 2) := vtab tk93 2 rfl
theorem e93_4 (L : VL) (st : List Value) (h : VG) : ev 93 4 L (st) h = ev 93 6 L (.int (20 : Int32) :: st) h := G_bipush f93_4 (by decide)
theorem f93_6 : fetch 93 6 = some (.iadd, 1) := vtab tk93 3 rfl
theorem e93_6 (L : VL) (st : List Value) (h : VG) (x y : Int32) : ev 93 6 L (.int y :: .int x :: st) h = ev 93 7 L (.int (x + y) :: st) h := G_iadd f93_6
theorem f93_7 : fetch 93 7 = some (.sipush 2000, 3) := vtab tk93 4 rfl
theorem e93_7 (L : VL) (st : List Value) (h : VG) : ev 93 7 L (st) h = ev 93 10 L (.int (2000 : Int32) :: st) h := G_sipush f93_7 (by decide)
theorem f93_10 : fetch 93 10 = some (.if_icmp .le 5, 3) := vtab tk93 5 rfl
theorem e93_10 (L : VL) (st : List Value) (h : VG) (x y : Int32) : ev 93 10 L (.int y :: .int x :: st) h = if x ≤ y then ev 93 15 L st h else ev 93 13 L st h := G_icmp_le f93_10 (by decide)
theorem f93_13 : fetch 93 13 = some (.iconst (-1), 1) := vtab tk93 6 rfl
theorem e93_13 (L : VL) (st : List Value) (h : VG) : ev 93 13 L (st) h = ev 93 14 L (.int (-1 : Int32) :: st) h := G_iconst f93_13 (by decide)
theorem f93_14 : fetch 93 14 = some (.ireturn, 1) := vtab tk93 7 rfl
theorem e93_14 (L : VL) (h : VG) (x : Int32) : ev 93 14 L [.int x] h = some (some (.int x), h) := G_iret f93_14 (ty := .int) (by decide) rfl
theorem f93_15 : fetch 93 15 = some (.aload_n 0, 1) := vtab tk93 8 rfl
theorem e93_15 (L : VL) (st : List Value) (h : VG) (x : Nat) : ev 93 15 (some (.ref x) :: L) (st) h = ev 93 16 (some (.ref x) :: L) (.ref x :: st) h := G_aload_n f93_15 rfl
theorem f93_16 : fetch 93 16 = some (.iload_n 1, 1) := vtab tk93 9 rfl
theorem e93_16 (l0 : Option Value) (L : VL) (st : List Value) (h : VG) (x : Int32) : ev 93 16 (l0 :: some (.int x) :: L) (st) h = ev 93 17 (l0 :: some (.int x) :: L) (.int x :: st) h := G_iload_n f93_16 rfl
theorem f93_17 : fetch 93 17 = some (.invokevirtual 66, 3) := vtab tk93 10 rfl
theorem e93_17 (L : VL) (st : List Value) (h : VG) (b : Nat) (x0 : Int32) (ho : ob h b 10) (hs : catS st ≤ 8) : ev 93 17 L (.int x0 :: .ref b :: st) h = (ev 94 0 [some (.ref b), some (.int x0), none] [] h).bind fun q => ev 93 20 L (q.1.toList ++ st) q.2 := G_callv (k := 1) (p := 476) (ars := [.int x0]) f93_17 lkC_11_66 (by decide) (by decide +kernel) rfl (vcls_ob (ci := 10) (by decide) ho) (Nat.le_of_ble_eq_true rfl) hs rfl
theorem f93_20 : fetch 93 20 = some (.aload_n 0, 1) := vtab tk93 11 rfl
theorem e93_20 (L : VL) (st : List Value) (h : VG) (x : Nat) : ev 93 20 (some (.ref x) :: L) (st) h = ev 93 21 (some (.ref x) :: L) (.ref x :: st) h := G_aload_n f93_20 rfl
theorem f93_21 : fetch 93 21 = some (.iload_n 2, 1) := vtab tk93 12 rfl
theorem e93_21 (l0 l1 : Option Value) (L : VL) (st : List Value) (h : VG) (x : Int32) : ev 93 21 (l0 :: l1 :: some (.int x) :: L) (st) h = ev 93 22 (l0 :: l1 :: some (.int x) :: L) (.int x :: st) h := G_iload_n f93_21 rfl
theorem f93_22 : fetch 93 22 = some (.invokevirtual 66, 3) := vtab tk93 13 rfl
theorem e93_22 (L : VL) (st : List Value) (h : VG) (b : Nat) (x0 : Int32) (ho : ob h b 10) (hs : catS st ≤ 8) : ev 93 22 L (.int x0 :: .ref b :: st) h = (ev 94 0 [some (.ref b), some (.int x0), none] [] h).bind fun q => ev 93 25 L (q.1.toList ++ st) q.2 := G_callv (k := 1) (p := 476) (ars := [.int x0]) f93_22 lkC_11_66 (by decide) (by decide +kernel) rfl (vcls_ob (ci := 10) (by decide) ho) (Nat.le_of_ble_eq_true rfl) hs rfl
theorem f93_25 : fetch 93 25 = some (.aload_n 0, 1) := vtab tk93 14 rfl
theorem e93_25 (L : VL) (st : List Value) (h : VG) (x : Nat) : ev 93 25 (some (.ref x) :: L) (st) h = ev 93 26 (some (.ref x) :: L) (.ref x :: st) h := G_aload_n f93_25 rfl
theorem f93_26 : fetch 93 26 = some (.iload_n 3, 1) := vtab tk93 15 rfl
theorem e93_26 (l0 l1 l2 : Option Value) (L : VL) (st : List Value) (h : VG) (x : Int32) : ev 93 26 (l0 :: l1 :: l2 :: some (.int x) :: L) (st) h = ev 93 27 (l0 :: l1 :: l2 :: some (.int x) :: L) (.int x :: st) h := G_iload_n f93_26 rfl
theorem f93_27 : fetch 93 27 = some (.invokevirtual 66, 3) := vtab tk93 16 rfl
theorem e93_27 (L : VL) (st : List Value) (h : VG) (b : Nat) (x0 : Int32) (ho : ob h b 10) (hs : catS st ≤ 8) : ev 93 27 L (.int x0 :: .ref b :: st) h = (ev 94 0 [some (.ref b), some (.int x0), none] [] h).bind fun q => ev 93 30 L (q.1.toList ++ st) q.2 := G_callv (k := 1) (p := 476) (ars := [.int x0]) f93_27 lkC_11_66 (by decide) (by decide +kernel) rfl (vcls_ob (ci := 10) (by decide) ho) (Nat.le_of_ble_eq_true rfl) hs rfl
theorem f93_30 : fetch 93 30 = some (.aload_n 0, 1) := vtab tk93 17 rfl
theorem e93_30 (L : VL) (st : List Value) (h : VG) (x : Nat) : ev 93 30 (some (.ref x) :: L) (st) h = ev 93 31 (some (.ref x) :: L) (.ref x :: st) h := G_aload_n f93_30 rfl
theorem f93_31 : fetch 93 31 = some (.iload 4, 2) := vtab tk93 18 rfl
theorem e93_31 (l0 l1 l2 l3 : Option Value) (L : VL) (st : List Value) (h : VG) (x : Int32) : ev 93 31 (l0 :: l1 :: l2 :: l3 :: some (.int x) :: L) (st) h = ev 93 33 (l0 :: l1 :: l2 :: l3 :: some (.int x) :: L) (.int x :: st) h := G_iload f93_31 rfl
theorem f93_33 : fetch 93 33 = some (.invokevirtual 66, 3) := vtab tk93 19 rfl
theorem e93_33 (L : VL) (st : List Value) (h : VG) (b : Nat) (x0 : Int32) (ho : ob h b 10) (hs : catS st ≤ 8) : ev 93 33 L (.int x0 :: .ref b :: st) h = (ev 94 0 [some (.ref b), some (.int x0), none] [] h).bind fun q => ev 93 36 L (q.1.toList ++ st) q.2 := G_callv (k := 1) (p := 476) (ars := [.int x0]) f93_33 lkC_11_66 (by decide) (by decide +kernel) rfl (vcls_ob (ci := 10) (by decide) ho) (Nat.le_of_ble_eq_true rfl) hs rfl
theorem f93_36 : fetch 93 36 = some (.aload_n 0, 1) := vtab tk93 20 rfl
theorem e93_36 (L : VL) (st : List Value) (h : VG) (x : Nat) : ev 93 36 (some (.ref x) :: L) (st) h = ev 93 37 (some (.ref x) :: L) (.ref x :: st) h := G_aload_n f93_36 rfl
theorem f93_37 : fetch 93 37 = some (.iload 5, 2) := vtab tk93 21 rfl
theorem e93_37 (l0 l1 l2 l3 l4 : Option Value) (L : VL) (st : List Value) (h : VG) (x : Int32) : ev 93 37 (l0 :: l1 :: l2 :: l3 :: l4 :: some (.int x) :: L) (st) h = ev 93 39 (l0 :: l1 :: l2 :: l3 :: l4 :: some (.int x) :: L) (.int x :: st) h := G_iload f93_37 rfl
theorem f93_39 : fetch 93 39 = some (.invokevirtual 66, 3) := vtab tk93 22 rfl
theorem e93_39 (L : VL) (st : List Value) (h : VG) (b : Nat) (x0 : Int32) (ho : ob h b 10) (hs : catS st ≤ 8) : ev 93 39 L (.int x0 :: .ref b :: st) h = (ev 94 0 [some (.ref b), some (.int x0), none] [] h).bind fun q => ev 93 42 L (q.1.toList ++ st) q.2 := G_callv (k := 1) (p := 476) (ars := [.int x0]) f93_39 lkC_11_66 (by decide) (by decide +kernel) rfl (vcls_ob (ci := 10) (by decide) ho) (Nat.le_of_ble_eq_true rfl) hs rfl
theorem f93_42 : fetch 93 42 = some (.aload_n 0, 1) := vtab tk93 23 rfl
theorem e93_42 (L : VL) (st : List Value) (h : VG) (x : Nat) : ev 93 42 (some (.ref x) :: L) (st) h = ev 93 43 (some (.ref x) :: L) (.ref x :: st) h := G_aload_n f93_42 rfl
theorem f93_43 : fetch 93 43 = some (.getfield 63, 3) := vtab tk93 24 rfl
theorem e93_43 (L : VL) (st : List Value) (h : VG) (a : Nat) (ho : ob h a 10) : ev 93 43 L (.ref a :: st) h = ev 93 46 L (.int (gI h a 1) :: st) h := G_getI (p := 430) f93_43 lkF_11_63 (by decide) (by decide) ho
theorem f93_46 : fetch 93 46 = some (.ireturn, 1) := vtab tk93 25 rfl
theorem e93_46 (L : VL) (h : VG) (x : Int32) : ev 93 46 L [.int x] h = some (some (.int x), h) := G_iret f93_46 (ty := .int) (by decide) rfl
/-! 94 GuestCalls.tapeInt(I)V -/
def tb94 : List (Nat × Instr × Nat) := [(0, .bipush 24, 2), (2, .istore_n 2, 1), (3, .iload_n 2, 1), (4, .ifCond .lt 32, 3), (7, .aload_n 0, 1), (8, .getfield 9, 3), (11, .aload_n 0, 1), (12, .getfield 63, 3), (15, .iload_n 1, 1), (16, .iload_n 2, 1), (17, .iushr, 1), (18, .i2b, 1), (19, .bastore, 1), (20, .aload_n 0, 1), (21, .dup, 1), (22, .getfield 63, 3), (25, .iconst 1, 1), (26, .iadd, 1), (27, .putfield 63, 3), (30, .iinc 2 (-8), 3), (33, .goto (-30), 3), (36, .return_, 1)]
theorem tk94 : tb94.all (fun q => decide (fetch 94 q.1 = some q.2)) = true := by decide +kernel
theorem f94_0 : fetch 94 0 = some (.bipush 24, 2) := vtab tk94 0 rfl
theorem e94_0 (L : VL) (st : List Value) (h : VG) : ev 94 0 L (st) h = ev 94 2 L (.int (24 : Int32) :: st) h := G_bipush f94_0 (by decide)
theorem f94_2 : fetch 94 2 = some (.istore_n 2, 1) := vtab tk94 1 rfl
theorem e94_2 (l0 l1 l2 : Option Value) (L : VL) (st : List Value) (h : VG) (x : Int32) : ev 94 2 (l0 :: l1 :: l2 :: L) (.int x :: st) h = ev 94 3 (l0 :: vkk l1 :: some (.int x) :: L) (st) h := G_istore_n f94_2 rfl (S1_2 l0 l1 l2 L _)
theorem f94_3 : fetch 94 3 = some (.iload_n 2, 1) := vtab tk94 2 rfl
theorem e94_3 (l0 l1 : Option Value) (L : VL) (st : List Value) (h : VG) (x : Int32) : ev 94 3 (l0 :: l1 :: some (.int x) :: L) (st) h = ev 94 4 (l0 :: l1 :: some (.int x) :: L) (.int x :: st) h := G_iload_n f94_3 rfl
theorem f94_4 : fetch 94 4 = some (.ifCond .lt 32, 3) := vtab tk94 3 rfl
theorem e94_4 (L : VL) (st : List Value) (h : VG) (x : Int32) : ev 94 4 L (.int x :: st) h = if x < 0 then ev 94 36 L st h else ev 94 7 L st h := G_if_lt f94_4 (by decide)
theorem f94_7 : fetch 94 7 = some (.aload_n 0, 1) := vtab tk94 4 rfl
theorem e94_7 (L : VL) (st : List Value) (h : VG) (x : Nat) : ev 94 7 (some (.ref x) :: L) (st) h = ev 94 8 (some (.ref x) :: L) (.ref x :: st) h := G_aload_n f94_7 rfl
theorem f94_8 : fetch 94 8 = some (.getfield 9, 3) := vtab tk94 5 rfl
theorem e94_8 (L : VL) (st : List Value) (h : VG) (a : Nat) (ho : ob h a 10) (hr : isR h a 0) : ev 94 8 L (.ref a :: st) h = ev 94 11 L (.ref (gR h a 0) :: st) h := G_getR (p := 429) f94_8 lkF_11_9 (by decide) (by decide) ho hr
theorem f94_11 : fetch 94 11 = some (.aload_n 0, 1) := vtab tk94 6 rfl
theorem e94_11 (L : VL) (st : List Value) (h : VG) (x : Nat) : ev 94 11 (some (.ref x) :: L) (st) h = ev 94 12 (some (.ref x) :: L) (.ref x :: st) h := G_aload_n f94_11 rfl
theorem f94_12 : fetch 94 12 = some (.getfield 63, 3) := vtab tk94 7 rfl
theorem e94_12 (L : VL) (st : List Value) (h : VG) (a : Nat) (ho : ob h a 10) : ev 94 12 L (.ref a :: st) h = ev 94 15 L (.int (gI h a 1) :: st) h := G_getI (p := 430) f94_12 lkF_11_63 (by decide) (by decide) ho
theorem f94_15 : fetch 94 15 = some (.iload_n 1, 1) := vtab tk94 8 rfl
theorem e94_15 (l0 : Option Value) (L : VL) (st : List Value) (h : VG) (x : Int32) : ev 94 15 (l0 :: some (.int x) :: L) (st) h = ev 94 16 (l0 :: some (.int x) :: L) (.int x :: st) h := G_iload_n f94_15 rfl
theorem f94_16 : fetch 94 16 = some (.iload_n 2, 1) := vtab tk94 9 rfl
theorem e94_16 (l0 l1 : Option Value) (L : VL) (st : List Value) (h : VG) (x : Int32) : ev 94 16 (l0 :: l1 :: some (.int x) :: L) (st) h = ev 94 17 (l0 :: l1 :: some (.int x) :: L) (.int x :: st) h := G_iload_n f94_16 rfl
theorem f94_17 : fetch 94 17 = some (.iushr, 1) := vtab tk94 10 rfl
theorem e94_17 (L : VL) (st : List Value) (h : VG) (x y : Int32) : ev 94 17 L (.int y :: .int x :: st) h = ev 94 18 L (.int ((x.toUInt32 >>> (y.toUInt32 &&& Int32.toUInt32 31)).toInt32) :: st) h := G_iushr f94_17
theorem f94_18 : fetch 94 18 = some (.i2b, 1) := vtab tk94 11 rfl
theorem e94_18 (L : VL) (st : List Value) (h : VG) (x : Int32) : ev 94 18 L (.int x :: st) h = ev 94 19 L (.int x.toInt8.toInt32 :: st) h := G_i2b f94_18
theorem f94_19 : fetch 94 19 = some (.bastore, 1) := vtab tk94 12 rfl
theorem e94_19 (L : VL) (st : List Value) (h : VG) (a : Nat) (i : Int32) (x : Int32) (ha : arI h a 2) (hi : vp_in i (aln h a)) : ev 94 19 L (.int x :: .int i :: .ref a :: st) h = ev 94 20 L (st) (wI h a i.toNatClampNeg (vp_nar .byte x)) := G_bast f94_19 ha hi
theorem e94_19z (L : VL) (st : List Value) (h : VG) (a : Nat) (i : Int32) (x : Int32) (ha : arI h a 3) (hi : vp_in i (aln h a)) : ev 94 19 L (.int x :: .int i :: .ref a :: st) h = ev 94 20 L (st) (wI h a i.toNatClampNeg (vp_nar .boolean x)) := G_zast f94_19 ha hi
theorem f94_20 : fetch 94 20 = some (.aload_n 0, 1) := vtab tk94 13 rfl
theorem e94_20 (L : VL) (st : List Value) (h : VG) (x : Nat) : ev 94 20 (some (.ref x) :: L) (st) h = ev 94 21 (some (.ref x) :: L) (.ref x :: st) h := G_aload_n f94_20 rfl
theorem f94_21 : fetch 94 21 = some (.dup, 1) := vtab tk94 14 rfl
theorem e94_21b (L : VL) (st : List Value) (h : VG) (x : Int32) : ev 94 21 L (.int x :: st) h = ev 94 22 L (.int x :: .int x :: st) h := G_dup_int f94_21
theorem e94_21 (L : VL) (st : List Value) (h : VG) (x : Nat) : ev 94 21 L (.ref x :: st) h = ev 94 22 L (.ref x :: .ref x :: st) h := G_dup_ref f94_21
theorem f94_22 : fetch 94 22 = some (.getfield 63, 3) := vtab tk94 15 rfl
theorem e94_22 (L : VL) (st : List Value) (h : VG) (a : Nat) (ho : ob h a 10) : ev 94 22 L (.ref a :: st) h = ev 94 25 L (.int (gI h a 1) :: st) h := G_getI (p := 430) f94_22 lkF_11_63 (by decide) (by decide) ho
theorem f94_25 : fetch 94 25 = some (.iconst 1, 1) := vtab tk94 16 rfl
theorem e94_25 (L : VL) (st : List Value) (h : VG) : ev 94 25 L (st) h = ev 94 26 L (.int (1 : Int32) :: st) h := G_iconst f94_25 (by decide)
theorem f94_26 : fetch 94 26 = some (.iadd, 1) := vtab tk94 17 rfl
theorem e94_26 (L : VL) (st : List Value) (h : VG) (x y : Int32) : ev 94 26 L (.int y :: .int x :: st) h = ev 94 27 L (.int (x + y) :: st) h := G_iadd f94_26
theorem f94_27 : fetch 94 27 = some (.putfield 63, 3) := vtab tk94 18 rfl
theorem e94_27 (L : VL) (st : List Value) (h : VG) (a : Nat) (x : Int32) (ho : ob h a 10) : ev 94 27 L (.int x :: .ref a :: st) h = ev 94 30 L (st) (pI h a 1 x) := G_putI (p := 430) f94_27 lkF_11_63 (by decide) (by decide) (by decide +kernel) ⟨rfl, rfl⟩ ho
theorem f94_30 : fetch 94 30 = some (.iinc 2 (-8), 3) := vtab tk94 19 rfl
theorem e94_30 (l0 l1 : Option Value) (L : VL) (st : List Value) (h : VG) (x : Int32) : ev 94 30 (l0 :: l1 :: some (.int x) :: L) (st) h = ev 94 33 (l0 :: vkk l1 :: some (.int (x + (-8 : Int32))) :: L) (st) h := G_iinc f94_30 rfl (by decide) (S1_2 l0 l1 (some (.int x)) L _)
theorem f94_33 : fetch 94 33 = some (.goto (-30), 3) := vtab tk94 20 rfl
theorem e94_33 (L : VL) (st : List Value) (h : VG) : ev 94 33 L (st) h = ev 94 3 L (st) h := G_goto f94_33 (by decide)
theorem f94_36 : fetch 94 36 = some (.return_, 1) := vtab tk94 21 rfl
theorem e94_36 (L : VL) (h : VG) : ev 94 36 L [] h = some (none, h) := G_vret f94_36 (by decide)
/-! 95 GuestCalls.back(I)I -/
def tb95 : List (Nat × Instr × Nat) := [(0, .iload_n 1, 1), (1, .ifCond .lt 11, 3), (4, .iload_n 1, 1), (5, .aload_n 0, 1), (6, .getfield 63, 3), (9, .if_icmp .le 5, 3), (12, .iconst (-1), 1), (13, .ireturn, 1), (14, .aload_n 0, 1), (15, .dup, 1), (16, .getfield 63, 3), (19, .iload_n 1, 1), (20, .isub, 1), (21, .putfield 63, 3), (24, .aload_n 0, 1), (25, .getfield 63, 3), (28, .ireturn, 1)]
theorem tk95 : tb95.all (fun q => decide (fetch 95 q.1 = some q.2)) = true := by decide +kernel
theorem f95_0 : fetch 95 0 = some (.iload_n 1, 1) := vtab tk95 0 rfl
theorem e95_0 (l0 : Option Value) (L : VL) (st : List Value) (h : VG) (x : Int32) : ev 95 0 (l0 :: some (.int x) :: L) (st) h = ev 95 1 (l0 :: some (.int x) :: L) (.int x :: st) h := G_iload_n f95_0 rfl
theorem f95_1 : fetch 95 1 = some (.ifCond .lt 11, 3) := vtab tk95 1 rfl
theorem e95_1 (L : VL) (st : List Value) (h : VG) (x : Int32) : ev 95 1 L (.int x :: st) h = if x < 0 then ev 95 12 L st h else ev 95 4 L st h := G_if_lt f95_1 (by decide)
theorem f95_4 : fetch 95 4 = some (.iload_n 1, 1) := vtab tk95 2 rfl
theorem e95_4 (l0 : Option Value) (L : VL) (st : List Value) (h : VG) (x : Int32) : ev 95 4 (l0 :: some (.int x) :: L) (st) h = ev 95 5 (l0 :: some (.int x) :: L) (.int x :: st) h := G_iload_n f95_4 rfl
theorem f95_5 : fetch 95 5 = some (.aload_n 0, 1) := vtab tk95 3 rfl
theorem e95_5 (L : VL) (st : List Value) (h : VG) (x : Nat) : ev 95 5 (some (.ref x) :: L) (st) h = ev 95 6 (some (.ref x) :: L) (.ref x :: st) h := G_aload_n f95_5 rfl
theorem f95_6 : fetch 95 6 = some (.getfield 63, 3) := vtab tk95 4 rfl
theorem e95_6 (L : VL) (st : List Value) (h : VG) (a : Nat) (ho : ob h a 10) : ev 95 6 L (.ref a :: st) h = ev 95 9 L (.int (gI h a 1) :: st) h := G_getI (p := 430) f95_6 lkF_11_63 (by decide) (by decide) ho
theorem f95_9 : fetch 95 9 = some (.if_icmp .le 5, 3) := vtab tk95 5 rfl
theorem e95_9 (L : VL) (st : List Value) (h : VG) (x y : Int32) : ev 95 9 L (.int y :: .int x :: st) h = if x ≤ y then ev 95 14 L st h else ev 95 12 L st h := G_icmp_le f95_9 (by decide)
theorem f95_12 : fetch 95 12 = some (.iconst (-1), 1) := vtab tk95 6 rfl
theorem e95_12 (L : VL) (st : List Value) (h : VG) : ev 95 12 L (st) h = ev 95 13 L (.int (-1 : Int32) :: st) h := G_iconst f95_12 (by decide)
theorem f95_13 : fetch 95 13 = some (.ireturn, 1) := vtab tk95 7 rfl
theorem e95_13 (L : VL) (h : VG) (x : Int32) : ev 95 13 L [.int x] h = some (some (.int x), h) := G_iret f95_13 (ty := .int) (by decide) rfl
theorem f95_14 : fetch 95 14 = some (.aload_n 0, 1) := vtab tk95 8 rfl
theorem e95_14 (L : VL) (st : List Value) (h : VG) (x : Nat) : ev 95 14 (some (.ref x) :: L) (st) h = ev 95 15 (some (.ref x) :: L) (.ref x :: st) h := G_aload_n f95_14 rfl
theorem f95_15 : fetch 95 15 = some (.dup, 1) := vtab tk95 9 rfl
theorem e95_15b (L : VL) (st : List Value) (h : VG) (x : Int32) : ev 95 15 L (.int x :: st) h = ev 95 16 L (.int x :: .int x :: st) h := G_dup_int f95_15
theorem e95_15 (L : VL) (st : List Value) (h : VG) (x : Nat) : ev 95 15 L (.ref x :: st) h = ev 95 16 L (.ref x :: .ref x :: st) h := G_dup_ref f95_15
theorem f95_16 : fetch 95 16 = some (.getfield 63, 3) := vtab tk95 10 rfl
theorem e95_16 (L : VL) (st : List Value) (h : VG) (a : Nat) (ho : ob h a 10) : ev 95 16 L (.ref a :: st) h = ev 95 19 L (.int (gI h a 1) :: st) h := G_getI (p := 430) f95_16 lkF_11_63 (by decide) (by decide) ho
theorem f95_19 : fetch 95 19 = some (.iload_n 1, 1) := vtab tk95 11 rfl
theorem e95_19 (l0 : Option Value) (L : VL) (st : List Value) (h : VG) (x : Int32) : ev 95 19 (l0 :: some (.int x) :: L) (st) h = ev 95 20 (l0 :: some (.int x) :: L) (.int x :: st) h := G_iload_n f95_19 rfl
theorem f95_20 : fetch 95 20 = some (.isub, 1) := vtab tk95 12 rfl
theorem e95_20 (L : VL) (st : List Value) (h : VG) (x y : Int32) : ev 95 20 L (.int y :: .int x :: st) h = ev 95 21 L (.int (x - y) :: st) h := G_isub f95_20
theorem f95_21 : fetch 95 21 = some (.putfield 63, 3) := vtab tk95 13 rfl
theorem e95_21 (L : VL) (st : List Value) (h : VG) (a : Nat) (x : Int32) (ho : ob h a 10) : ev 95 21 L (.int x :: .ref a :: st) h = ev 95 24 L (st) (pI h a 1 x) := G_putI (p := 430) f95_21 lkF_11_63 (by decide) (by decide) (by decide +kernel) ⟨rfl, rfl⟩ ho
theorem f95_24 : fetch 95 24 = some (.aload_n 0, 1) := vtab tk95 14 rfl
theorem e95_24 (L : VL) (st : List Value) (h : VG) (x : Nat) : ev 95 24 (some (.ref x) :: L) (st) h = ev 95 25 (some (.ref x) :: L) (.ref x :: st) h := G_aload_n f95_24 rfl
theorem f95_25 : fetch 95 25 = some (.getfield 63, 3) := vtab tk95 15 rfl
theorem e95_25 (L : VL) (st : List Value) (h : VG) (a : Nat) (ho : ob h a 10) : ev 95 25 L (.ref a :: st) h = ev 95 28 L (.int (gI h a 1) :: st) h := G_getI (p := 430) f95_25 lkF_11_63 (by decide) (by decide) ho
theorem f95_28 : fetch 95 28 = some (.ireturn, 1) := vtab tk95 16 rfl
theorem e95_28 (L : VL) (h : VG) (x : Int32) : ev 95 28 L [.int x] h = some (some (.int x), h) := G_iret f95_28 (ty := .int) (by decide) rfl
/-! 96 GuestCalls.read()I -/
def tb96 : List (Nat × Instr × Nat) := [(0, .aload_n 0, 1), (1, .getfield 16, 3), (4, .aload_n 0, 1), (5, .getfield 9, 3), (8, .aload_n 0, 1), (9, .getfield 63, 3), (12, .aload_n 0, 1), (13, .getfield 27, 3), (16, .invokevirtual 70, 3), (19, .istore_n 1, 1), (20, .aload_n 0, 1), (21, .iconst 0, 1), (22, .putfield 63, 3), (25, .iload_n 1, 1), (26, .ifCond .eq 16, 3), (29, .aload_n 0, 1), (30, .aload_n 0, 1), (31, .getfield 16, 3), (34, .getfield 74, 3), (37, .putfield 30, 3), (40, .iload_n 1, 1), (41, .ireturn, 1), (42, .aload_n 0, 1), (43, .getfield 27, 3), (46, .astore_n 2, 1), (47, .aload_n 0, 1), (48, .aload_n 0, 1), (49, .getfield 23, 3), (52, .putfield 27, 3), (55, .aload_n 0, 1), (56, .aload_n 2, 1), (57, .putfield 23, 3), (60, .aload_n 0, 1), (61, .iconst (-1), 1), (62, .putfield 30, 3), (65, .aload_n 0, 1), (66, .invokevirtual 75, 3), (69, .iconst 0, 1), (70, .ireturn, 1)]
theorem tk96 : tb96.all (fun q => decide (fetch 96 q.1 = some q.2)) = true := by decide +kernel
theorem f96_0 : fetch 96 0 = some (.aload_n 0, 1) := vtab tk96 0 rfl
theorem e96_0 (L : VL) (st : List Value) (h : VG) (x : Nat) : ev 96 0 (some (.ref x) :: L) (st) h = ev 96 1 (some (.ref x) :: L) (.ref x :: st) h := G_aload_n f96_0 rfl
theorem f96_1 : fetch 96 1 = some (.getfield 16, 3) := vtab tk96 1 rfl
theorem e96_1 (L : VL) (st : List Value) (h : VG) (a : Nat) (ho : ob h a 10) (hr : isR h a 2) : ev 96 1 L (.ref a :: st) h = ev 96 4 L (.ref (gR h a 2) :: st) h := G_getR (p := 431) f96_1 lkF_11_16 (by decide) (by decide) ho hr
theorem f96_4 : fetch 96 4 = some (.aload_n 0, 1) := vtab tk96 2 rfl
theorem e96_4 (L : VL) (st : List Value) (h : VG) (x : Nat) : ev 96 4 (some (.ref x) :: L) (st) h = ev 96 5 (some (.ref x) :: L) (.ref x :: st) h := G_aload_n f96_4 rfl
theorem f96_5 : fetch 96 5 = some (.getfield 9, 3) := vtab tk96 3 rfl
theorem e96_5 (L : VL) (st : List Value) (h : VG) (a : Nat) (ho : ob h a 10) (hr : isR h a 0) : ev 96 5 L (.ref a :: st) h = ev 96 8 L (.ref (gR h a 0) :: st) h := G_getR (p := 429) f96_5 lkF_11_9 (by decide) (by decide) ho hr
theorem f96_8 : fetch 96 8 = some (.aload_n 0, 1) := vtab tk96 4 rfl
theorem e96_8 (L : VL) (st : List Value) (h : VG) (x : Nat) : ev 96 8 (some (.ref x) :: L) (st) h = ev 96 9 (some (.ref x) :: L) (.ref x :: st) h := G_aload_n f96_8 rfl
theorem f96_9 : fetch 96 9 = some (.getfield 63, 3) := vtab tk96 5 rfl
theorem e96_9 (L : VL) (st : List Value) (h : VG) (a : Nat) (ho : ob h a 10) : ev 96 9 L (.ref a :: st) h = ev 96 12 L (.int (gI h a 1) :: st) h := G_getI (p := 430) f96_9 lkF_11_63 (by decide) (by decide) ho
theorem f96_12 : fetch 96 12 = some (.aload_n 0, 1) := vtab tk96 6 rfl
theorem e96_12 (L : VL) (st : List Value) (h : VG) (x : Nat) : ev 96 12 (some (.ref x) :: L) (st) h = ev 96 13 (some (.ref x) :: L) (.ref x :: st) h := G_aload_n f96_12 rfl
theorem f96_13 : fetch 96 13 = some (.getfield 27, 3) := vtab tk96 7 rfl
theorem e96_13 (L : VL) (st : List Value) (h : VG) (a : Nat) (ho : ob h a 10) (hr : isR h a 4) : ev 96 13 L (.ref a :: st) h = ev 96 16 L (.ref (gR h a 4) :: st) h := G_getR (p := 433) f96_13 lkF_11_27 (by decide) (by decide) ho hr
theorem f96_16 : fetch 96 16 = some (.invokevirtual 70, 3) := vtab tk96 8 rfl
theorem e96_16 (L : VL) (st : List Value) (h : VG) (b : Nat) (x0 : Nat) (x1 : Int32) (x2 : Nat) (ho : ob h b 7) (hs : catS st ≤ 8) : ev 96 16 L (.ref x2 :: .int x1 :: .ref x0 :: .ref b :: st) h = (ev 65 0 [some (.ref b), some (.ref x0), some (.int x1), some (.ref x2), none] [] h).bind fun q => ev 96 19 L (q.1.toList ++ st) q.2 := G_callv (k := 1) (p := 488) (ars := [.ref x0, .int x1, .ref x2]) f96_16 lkC_11_70 (by decide) (by decide +kernel) rfl (vcls_ob (ci := 7) (by decide) ho) (Nat.le_of_ble_eq_true rfl) hs rfl
theorem f96_19 : fetch 96 19 = some (.istore_n 1, 1) := vtab tk96 9 rfl
theorem e96_19 (l0 l1 : Option Value) (L : VL) (st : List Value) (h : VG) (x : Int32) : ev 96 19 (l0 :: l1 :: L) (.int x :: st) h = ev 96 20 (vkk l0 :: some (.int x) :: L) (st) h := G_istore_n f96_19 rfl (S1_1 l0 l1 L _)
theorem f96_20 : fetch 96 20 = some (.aload_n 0, 1) := vtab tk96 10 rfl
theorem e96_20 (L : VL) (st : List Value) (h : VG) (x : Nat) : ev 96 20 (some (.ref x) :: L) (st) h = ev 96 21 (some (.ref x) :: L) (.ref x :: st) h := G_aload_n f96_20 rfl
theorem f96_21 : fetch 96 21 = some (.iconst 0, 1) := vtab tk96 11 rfl
theorem e96_21 (L : VL) (st : List Value) (h : VG) : ev 96 21 L (st) h = ev 96 22 L (.int (0 : Int32) :: st) h := G_iconst f96_21 (by decide)
theorem f96_22 : fetch 96 22 = some (.putfield 63, 3) := vtab tk96 12 rfl
theorem e96_22 (L : VL) (st : List Value) (h : VG) (a : Nat) (x : Int32) (ho : ob h a 10) : ev 96 22 L (.int x :: .ref a :: st) h = ev 96 25 L (st) (pI h a 1 x) := G_putI (p := 430) f96_22 lkF_11_63 (by decide) (by decide) (by decide +kernel) ⟨rfl, rfl⟩ ho
theorem f96_25 : fetch 96 25 = some (.iload_n 1, 1) := vtab tk96 13 rfl
theorem e96_25 (l0 : Option Value) (L : VL) (st : List Value) (h : VG) (x : Int32) : ev 96 25 (l0 :: some (.int x) :: L) (st) h = ev 96 26 (l0 :: some (.int x) :: L) (.int x :: st) h := G_iload_n f96_25 rfl
theorem f96_26 : fetch 96 26 = some (.ifCond .eq 16, 3) := vtab tk96 14 rfl
theorem e96_26 (L : VL) (st : List Value) (h : VG) (x : Int32) : ev 96 26 L (.int x :: st) h = if x = 0 then ev 96 42 L st h else ev 96 29 L st h := G_if_eq f96_26 (by decide)
theorem f96_29 : fetch 96 29 = some (.aload_n 0, 1) := vtab tk96 15 rfl
theorem e96_29 (L : VL) (st : List Value) (h : VG) (x : Nat) : ev 96 29 (some (.ref x) :: L) (st) h = ev 96 30 (some (.ref x) :: L) (.ref x :: st) h := G_aload_n f96_29 rfl
theorem f96_30 : fetch 96 30 = some (.aload_n 0, 1) := vtab tk96 16 rfl
theorem e96_30 (L : VL) (st : List Value) (h : VG) (x : Nat) : ev 96 30 (some (.ref x) :: L) (st) h = ev 96 31 (some (.ref x) :: L) (.ref x :: st) h := G_aload_n f96_30 rfl
theorem f96_31 : fetch 96 31 = some (.getfield 16, 3) := vtab tk96 17 rfl
theorem e96_31 (L : VL) (st : List Value) (h : VG) (a : Nat) (ho : ob h a 10) (hr : isR h a 2) : ev 96 31 L (.ref a :: st) h = ev 96 34 L (.ref (gR h a 2) :: st) h := G_getR (p := 431) f96_31 lkF_11_16 (by decide) (by decide) ho hr
theorem f96_34 : fetch 96 34 = some (.getfield 74, 3) := vtab tk96 18 rfl
theorem e96_34 (L : VL) (st : List Value) (h : VG) (a : Nat) (ho : ob h a 7) : ev 96 34 L (.ref a :: st) h = ev 96 37 L (.int (gI h a 0) :: st) h := G_getI (p := 192) f96_34 lkF_11_74 (by decide) (by decide) ho
theorem f96_37 : fetch 96 37 = some (.putfield 30, 3) := vtab tk96 19 rfl
theorem e96_37 (L : VL) (st : List Value) (h : VG) (a : Nat) (x : Int32) (ho : ob h a 10) : ev 96 37 L (.int x :: .ref a :: st) h = ev 96 40 L (st) (pI h a 5 x) := G_putI (p := 434) f96_37 lkF_11_30 (by decide) (by decide) (by decide +kernel) ⟨rfl, rfl⟩ ho
theorem f96_40 : fetch 96 40 = some (.iload_n 1, 1) := vtab tk96 20 rfl
theorem e96_40 (l0 : Option Value) (L : VL) (st : List Value) (h : VG) (x : Int32) : ev 96 40 (l0 :: some (.int x) :: L) (st) h = ev 96 41 (l0 :: some (.int x) :: L) (.int x :: st) h := G_iload_n f96_40 rfl
theorem f96_41 : fetch 96 41 = some (.ireturn, 1) := vtab tk96 21 rfl
theorem e96_41 (L : VL) (h : VG) (x : Int32) : ev 96 41 L [.int x] h = some (some (.int x), h) := G_iret f96_41 (ty := .int) (by decide) rfl
theorem f96_42 : fetch 96 42 = some (.aload_n 0, 1) := vtab tk96 22 rfl
theorem e96_42 (L : VL) (st : List Value) (h : VG) (x : Nat) : ev 96 42 (some (.ref x) :: L) (st) h = ev 96 43 (some (.ref x) :: L) (.ref x :: st) h := G_aload_n f96_42 rfl
theorem f96_43 : fetch 96 43 = some (.getfield 27, 3) := vtab tk96 23 rfl
theorem e96_43 (L : VL) (st : List Value) (h : VG) (a : Nat) (ho : ob h a 10) (hr : isR h a 4) : ev 96 43 L (.ref a :: st) h = ev 96 46 L (.ref (gR h a 4) :: st) h := G_getR (p := 433) f96_43 lkF_11_27 (by decide) (by decide) ho hr
theorem f96_46 : fetch 96 46 = some (.astore_n 2, 1) := vtab tk96 24 rfl
theorem e96_46 (l0 l1 l2 : Option Value) (L : VL) (st : List Value) (h : VG) (x : Nat) : ev 96 46 (l0 :: l1 :: l2 :: L) (.ref x :: st) h = ev 96 47 (l0 :: vkk l1 :: some (.ref x) :: L) (st) h := G_astore_n f96_46 rfl (S1_2 l0 l1 l2 L _)
theorem f96_47 : fetch 96 47 = some (.aload_n 0, 1) := vtab tk96 25 rfl
theorem e96_47 (L : VL) (st : List Value) (h : VG) (x : Nat) : ev 96 47 (some (.ref x) :: L) (st) h = ev 96 48 (some (.ref x) :: L) (.ref x :: st) h := G_aload_n f96_47 rfl
theorem f96_48 : fetch 96 48 = some (.aload_n 0, 1) := vtab tk96 26 rfl
theorem e96_48 (L : VL) (st : List Value) (h : VG) (x : Nat) : ev 96 48 (some (.ref x) :: L) (st) h = ev 96 49 (some (.ref x) :: L) (.ref x :: st) h := G_aload_n f96_48 rfl
theorem f96_49 : fetch 96 49 = some (.getfield 23, 3) := vtab tk96 27 rfl
theorem e96_49 (L : VL) (st : List Value) (h : VG) (a : Nat) (ho : ob h a 10) (hr : isR h a 3) : ev 96 49 L (.ref a :: st) h = ev 96 52 L (.ref (gR h a 3) :: st) h := G_getR (p := 432) f96_49 lkF_11_23 (by decide) (by decide) ho hr
theorem f96_52 : fetch 96 52 = some (.putfield 27, 3) := vtab tk96 28 rfl
theorem e96_52 (L : VL) (st : List Value) (h : VG) (a : Nat) (x : Nat) (ho : ob h a 10) : ev 96 52 L (.ref x :: .ref a :: st) h = ev 96 55 L (st) (pR h a 4 x) := G_putR (p := 433) f96_52 lkF_11_27 (by decide) (by decide) (by decide +kernel) ⟨rfl, rfl⟩ ho
theorem f96_55 : fetch 96 55 = some (.aload_n 0, 1) := vtab tk96 29 rfl
theorem e96_55 (L : VL) (st : List Value) (h : VG) (x : Nat) : ev 96 55 (some (.ref x) :: L) (st) h = ev 96 56 (some (.ref x) :: L) (.ref x :: st) h := G_aload_n f96_55 rfl
theorem f96_56 : fetch 96 56 = some (.aload_n 2, 1) := vtab tk96 30 rfl
theorem e96_56 (l0 l1 : Option Value) (L : VL) (st : List Value) (h : VG) (x : Nat) : ev 96 56 (l0 :: l1 :: some (.ref x) :: L) (st) h = ev 96 57 (l0 :: l1 :: some (.ref x) :: L) (.ref x :: st) h := G_aload_n f96_56 rfl
theorem f96_57 : fetch 96 57 = some (.putfield 23, 3) := vtab tk96 31 rfl
theorem e96_57 (L : VL) (st : List Value) (h : VG) (a : Nat) (x : Nat) (ho : ob h a 10) : ev 96 57 L (.ref x :: .ref a :: st) h = ev 96 60 L (st) (pR h a 3 x) := G_putR (p := 432) f96_57 lkF_11_23 (by decide) (by decide) (by decide +kernel) ⟨rfl, rfl⟩ ho
theorem f96_60 : fetch 96 60 = some (.aload_n 0, 1) := vtab tk96 32 rfl
theorem e96_60 (L : VL) (st : List Value) (h : VG) (x : Nat) : ev 96 60 (some (.ref x) :: L) (st) h = ev 96 61 (some (.ref x) :: L) (.ref x :: st) h := G_aload_n f96_60 rfl
theorem f96_61 : fetch 96 61 = some (.iconst (-1), 1) := vtab tk96 33 rfl
theorem e96_61 (L : VL) (st : List Value) (h : VG) : ev 96 61 L (st) h = ev 96 62 L (.int (-1 : Int32) :: st) h := G_iconst f96_61 (by decide)
theorem f96_62 : fetch 96 62 = some (.putfield 30, 3) := vtab tk96 34 rfl
theorem e96_62 (L : VL) (st : List Value) (h : VG) (a : Nat) (x : Int32) (ho : ob h a 10) : ev 96 62 L (.int x :: .ref a :: st) h = ev 96 65 L (st) (pI h a 5 x) := G_putI (p := 434) f96_62 lkF_11_30 (by decide) (by decide) (by decide +kernel) ⟨rfl, rfl⟩ ho
theorem f96_65 : fetch 96 65 = some (.aload_n 0, 1) := vtab tk96 35 rfl
theorem e96_65 (L : VL) (st : List Value) (h : VG) (x : Nat) : ev 96 65 (some (.ref x) :: L) (st) h = ev 96 66 (some (.ref x) :: L) (.ref x :: st) h := G_aload_n f96_65 rfl
theorem f96_66 : fetch 96 66 = some (.invokevirtual 75, 3) := vtab tk96 36 rfl
theorem e96_66 (L : VL) (st : List Value) (h : VG) (b : Nat)  (ho : ob h b 10) (hs : catS st ≤ 8) : ev 96 66 L (.ref b :: st) h = (ev 97 0 [some (.ref b), none] [] h).bind fun q => ev 96 69 L (q.1.toList ++ st) q.2 := G_callv (k := 1) (p := 627) (ars := []) f96_66 lkC_11_75 (by decide) (by decide +kernel) rfl (vcls_ob (ci := 10) (by decide) ho) (Nat.le_of_ble_eq_true rfl) hs rfl
theorem f96_69 : fetch 96 69 = some (.iconst 0, 1) := vtab tk96 37 rfl
theorem e96_69 (L : VL) (st : List Value) (h : VG) : ev 96 69 L (st) h = ev 96 70 L (.int (0 : Int32) :: st) h := G_iconst f96_69 (by decide)
theorem f96_70 : fetch 96 70 = some (.ireturn, 1) := vtab tk96 38 rfl
theorem e96_70 (L : VL) (h : VG) (x : Int32) : ev 96 70 L [.int x] h = some (some (.int x), h) := G_iret f96_70 (ty := .int) (by decide) rfl
/-! 97 GuestCalls.startAnew()V -/
def tb97 : List (Nat × Instr × Nat) := [(0, .aload_n 0, 1), (1, .getfield 37, 3), (4, .aload_n 0, 1), (5, .getfield 23, 3), (8, .getfield 78, 3), (11, .invokevirtual 82, 3), (14, .iconst 0, 1), (15, .istore_n 1, 1), (16, .iload_n 1, 1), (17, .iconst 2, 1), (18, .if_icmp .ge 16, 3), (21, .aload_n 0, 1), (22, .getfield 45, 3), (25, .iload_n 1, 1), (26, .iconst 0, 1), (27, .bastore, 1), (28, .iinc 1 1, 3), (31, .goto (-15), 3), (34, .aload_n 0, 1), (35, .iconst 0, 1), (36, .putfield 86, 3), (39, .aload_n 0, 1), (40, .iconst 0, 1), (41, .putfield 89, 3), (44, .return_, 1)]
theorem tk97 : tb97.all (fun q => decide (fetch 97 q.1 = some q.2)) = true := by decide +kernel
theorem f97_0 : fetch 97 0 = some (.aload_n 0, 1) := vtab tk97 0 rfl
theorem e97_0 (L : VL) (st : List Value) (h : VG) (x : Nat) : ev 97 0 (some (.ref x) :: L) (st) h = ev 97 1 (some (.ref x) :: L) (.ref x :: st) h := G_aload_n f97_0 rfl
theorem f97_1 : fetch 97 1 = some (.getfield 37, 3) := vtab tk97 1 rfl
theorem e97_1 (L : VL) (st : List Value) (h : VG) (a : Nat) (ho : ob h a 10) (hr : isR h a 6) : ev 97 1 L (.ref a :: st) h = ev 97 4 L (.ref (gR h a 6) :: st) h := G_getR (p := 435) f97_1 lkF_11_37 (by decide) (by decide) ho hr
theorem f97_4 : fetch 97 4 = some (.aload_n 0, 1) := vtab tk97 2 rfl
theorem e97_4 (L : VL) (st : List Value) (h : VG) (x : Nat) : ev 97 4 (some (.ref x) :: L) (st) h = ev 97 5 (some (.ref x) :: L) (.ref x :: st) h := G_aload_n f97_4 rfl
theorem f97_5 : fetch 97 5 = some (.getfield 23, 3) := vtab tk97 3 rfl
theorem e97_5 (L : VL) (st : List Value) (h : VG) (a : Nat) (ho : ob h a 10) (hr : isR h a 3) : ev 97 5 L (.ref a :: st) h = ev 97 8 L (.ref (gR h a 3) :: st) h := G_getR (p := 432) f97_5 lkF_11_23 (by decide) (by decide) ho hr
theorem f97_8 : fetch 97 8 = some (.getfield 78, 3) := vtab tk97 4 rfl
theorem e97_8 (L : VL) (st : List Value) (h : VG) (a : Nat) (ho : ob h a 6) (hr : isR h a 0) : ev 97 8 L (.ref a :: st) h = ev 97 11 L (.ref (gR h a 0) :: st) h := G_getR (p := 335) f97_8 lkF_11_78 (by decide) (by decide) ho hr
theorem f97_11 : fetch 97 11 = some (.invokevirtual 82, 3) := vtab tk97 5 rfl
theorem e97_11 (L : VL) (st : List Value) (h : VG) (b : Nat) (x0 : Nat) (ho : ob h b 8) (hs : catS st ≤ 8) : ev 97 11 L (.ref x0 :: .ref b :: st) h = (ev 80 0 [some (.ref b), some (.ref x0), none] [] h).bind fun q => ev 97 14 L (q.1.toList ++ st) q.2 := G_callv (k := 1) (p := 631) (ars := [.ref x0]) f97_11 lkC_11_82 (by decide) (by decide +kernel) rfl (vcls_ob (ci := 8) (by decide) ho) (Nat.le_of_ble_eq_true rfl) hs rfl
theorem f97_14 : fetch 97 14 = some (.iconst 0, 1) := vtab tk97 6 rfl
theorem e97_14 (L : VL) (st : List Value) (h : VG) : ev 97 14 L (st) h = ev 97 15 L (.int (0 : Int32) :: st) h := G_iconst f97_14 (by decide)
theorem f97_15 : fetch 97 15 = some (.istore_n 1, 1) := vtab tk97 7 rfl
theorem e97_15 (l0 l1 : Option Value) (L : VL) (st : List Value) (h : VG) (x : Int32) : ev 97 15 (l0 :: l1 :: L) (.int x :: st) h = ev 97 16 (vkk l0 :: some (.int x) :: L) (st) h := G_istore_n f97_15 rfl (S1_1 l0 l1 L _)
theorem f97_16 : fetch 97 16 = some (.iload_n 1, 1) := vtab tk97 8 rfl
theorem e97_16 (l0 : Option Value) (L : VL) (st : List Value) (h : VG) (x : Int32) : ev 97 16 (l0 :: some (.int x) :: L) (st) h = ev 97 17 (l0 :: some (.int x) :: L) (.int x :: st) h := G_iload_n f97_16 rfl
theorem f97_17 : fetch 97 17 = some (.iconst 2, 1) := vtab tk97 9 rfl
theorem e97_17 (L : VL) (st : List Value) (h : VG) : ev 97 17 L (st) h = ev 97 18 L (.int (2 : Int32) :: st) h := G_iconst f97_17 (by decide)
theorem f97_18 : fetch 97 18 = some (.if_icmp .ge 16, 3) := vtab tk97 10 rfl
theorem e97_18 (L : VL) (st : List Value) (h : VG) (x y : Int32) : ev 97 18 L (.int y :: .int x :: st) h = if x < y then ev 97 21 L st h else ev 97 34 L st h := G_icmp_ge f97_18 (by decide)
theorem f97_21 : fetch 97 21 = some (.aload_n 0, 1) := vtab tk97 11 rfl
theorem e97_21 (L : VL) (st : List Value) (h : VG) (x : Nat) : ev 97 21 (some (.ref x) :: L) (st) h = ev 97 22 (some (.ref x) :: L) (.ref x :: st) h := G_aload_n f97_21 rfl
theorem f97_22 : fetch 97 22 = some (.getfield 45, 3) := vtab tk97 12 rfl
theorem e97_22 (L : VL) (st : List Value) (h : VG) (a : Nat) (ho : ob h a 10) (hr : isR h a 8) : ev 97 22 L (.ref a :: st) h = ev 97 25 L (.ref (gR h a 8) :: st) h := G_getR (p := 437) f97_22 lkF_11_45 (by decide) (by decide) ho hr
theorem f97_25 : fetch 97 25 = some (.iload_n 1, 1) := vtab tk97 13 rfl
theorem e97_25 (l0 : Option Value) (L : VL) (st : List Value) (h : VG) (x : Int32) : ev 97 25 (l0 :: some (.int x) :: L) (st) h = ev 97 26 (l0 :: some (.int x) :: L) (.int x :: st) h := G_iload_n f97_25 rfl
theorem f97_26 : fetch 97 26 = some (.iconst 0, 1) := vtab tk97 14 rfl
theorem e97_26 (L : VL) (st : List Value) (h : VG) : ev 97 26 L (st) h = ev 97 27 L (.int (0 : Int32) :: st) h := G_iconst f97_26 (by decide)
theorem f97_27 : fetch 97 27 = some (.bastore, 1) := vtab tk97 15 rfl
theorem e97_27 (L : VL) (st : List Value) (h : VG) (a : Nat) (i : Int32) (x : Int32) (ha : arI h a 2) (hi : vp_in i (aln h a)) : ev 97 27 L (.int x :: .int i :: .ref a :: st) h = ev 97 28 L (st) (wI h a i.toNatClampNeg (vp_nar .byte x)) := G_bast f97_27 ha hi
theorem e97_27z (L : VL) (st : List Value) (h : VG) (a : Nat) (i : Int32) (x : Int32) (ha : arI h a 3) (hi : vp_in i (aln h a)) : ev 97 27 L (.int x :: .int i :: .ref a :: st) h = ev 97 28 L (st) (wI h a i.toNatClampNeg (vp_nar .boolean x)) := G_zast f97_27 ha hi
theorem f97_28 : fetch 97 28 = some (.iinc 1 1, 3) := vtab tk97 16 rfl
theorem e97_28 (l0 : Option Value) (L : VL) (st : List Value) (h : VG) (x : Int32) : ev 97 28 (l0 :: some (.int x) :: L) (st) h = ev 97 31 (vkk l0 :: some (.int (x + (1 : Int32))) :: L) (st) h := G_iinc f97_28 rfl (by decide) (S1_1 l0 (some (.int x)) L _)
theorem f97_31 : fetch 97 31 = some (.goto (-15), 3) := vtab tk97 17 rfl
theorem e97_31 (L : VL) (st : List Value) (h : VG) : ev 97 31 L (st) h = ev 97 16 L (st) h := G_goto f97_31 (by decide)
theorem f97_34 : fetch 97 34 = some (.aload_n 0, 1) := vtab tk97 18 rfl
theorem e97_34 (L : VL) (st : List Value) (h : VG) (x : Nat) : ev 97 34 (some (.ref x) :: L) (st) h = ev 97 35 (some (.ref x) :: L) (.ref x :: st) h := G_aload_n f97_34 rfl
theorem f97_35 : fetch 97 35 = some (.iconst 0, 1) := vtab tk97 19 rfl
theorem e97_35 (L : VL) (st : List Value) (h : VG) : ev 97 35 L (st) h = ev 97 36 L (.int (0 : Int32) :: st) h := G_iconst f97_35 (by decide)
theorem f97_36 : fetch 97 36 = some (.putfield 86, 3) := vtab tk97 20 rfl
theorem e97_36 (L : VL) (st : List Value) (h : VG) (a : Nat) (x : Int32) (ho : ob h a 10) : ev 97 36 L (.int x :: .ref a :: st) h = ev 97 39 L (st) (pI h a 9 x) := G_putI (p := 438) f97_36 lkF_11_86 (by decide) (by decide) (by decide +kernel) ⟨rfl, rfl⟩ ho
theorem f97_39 : fetch 97 39 = some (.aload_n 0, 1) := vtab tk97 21 rfl
theorem e97_39 (L : VL) (st : List Value) (h : VG) (x : Nat) : ev 97 39 (some (.ref x) :: L) (st) h = ev 97 40 (some (.ref x) :: L) (.ref x :: st) h := G_aload_n f97_39 rfl
theorem f97_40 : fetch 97 40 = some (.iconst 0, 1) := vtab tk97 22 rfl
theorem e97_40 (L : VL) (st : List Value) (h : VG) : ev 97 40 L (st) h = ev 97 41 L (.int (0 : Int32) :: st) h := G_iconst f97_40 (by decide)
theorem f97_41 : fetch 97 41 = some (.putfield 89, 3) := vtab tk97 23 rfl
theorem e97_41 (L : VL) (st : List Value) (h : VG) (a : Nat) (x : Int32) (ho : ob h a 10) : ev 97 41 L (.int x :: .ref a :: st) h = ev 97 44 L (st) (pI h a 10 x) := G_putI (p := 439) f97_41 lkF_11_89 (by decide) (by decide) (by decide +kernel) ⟨rfl, rfl⟩ ho
theorem f97_44 : fetch 97 44 = some (.return_, 1) := vtab tk97 24 rfl
theorem e97_44 (L : VL) (h : VG) : ev 97 44 L [] h = some (none, h) := G_vret f97_44 (by decide)
/-! 98 GuestCalls.place()I -/
def tb98 : List (Nat × Instr × Nat) := [(0, .aload_n 0, 1), (1, .getfield 30, 3), (4, .ireturn, 1)]
theorem tk98 : tb98.all (fun q => decide (fetch 98 q.1 = some q.2)) = true := by decide +kernel
theorem f98_0 : fetch 98 0 = some (.aload_n 0, 1) := vtab tk98 0 rfl
theorem e98_0 (L : VL) (st : List Value) (h : VG) (x : Nat) : ev 98 0 (some (.ref x) :: L) (st) h = ev 98 1 (some (.ref x) :: L) (.ref x :: st) h := G_aload_n f98_0 rfl
theorem f98_1 : fetch 98 1 = some (.getfield 30, 3) := vtab tk98 1 rfl
theorem e98_1 (L : VL) (st : List Value) (h : VG) (a : Nat) (ho : ob h a 10) : ev 98 1 L (.ref a :: st) h = ev 98 4 L (.int (gI h a 5) :: st) h := G_getI (p := 434) f98_1 lkF_11_30 (by decide) (by decide) ho
theorem f98_4 : fetch 98 4 = some (.ireturn, 1) := vtab tk98 2 rfl
theorem e98_4 (L : VL) (h : VG) (x : Int32) : ev 98 4 L [.int x] h = some (some (.int x), h) := G_iret f98_4 (ty := .int) (by decide) rfl
/-! 99 GuestCalls.why()I -/
def tb99 : List (Nat × Instr × Nat) := [(0, .aload_n 0, 1), (1, .getfield 86, 3), (4, .ireturn, 1)]
theorem tk99 : tb99.all (fun q => decide (fetch 99 q.1 = some q.2)) = true := by decide +kernel
theorem f99_0 : fetch 99 0 = some (.aload_n 0, 1) := vtab tk99 0 rfl
theorem e99_0 (L : VL) (st : List Value) (h : VG) (x : Nat) : ev 99 0 (some (.ref x) :: L) (st) h = ev 99 1 (some (.ref x) :: L) (.ref x :: st) h := G_aload_n f99_0 rfl
theorem f99_1 : fetch 99 1 = some (.getfield 86, 3) := vtab tk99 1 rfl
theorem e99_1 (L : VL) (st : List Value) (h : VG) (a : Nat) (ho : ob h a 10) : ev 99 1 L (.ref a :: st) h = ev 99 4 L (.int (gI h a 9) :: st) h := G_getI (p := 438) f99_1 lkF_11_86 (by decide) (by decide) ho
theorem f99_4 : fetch 99 4 = some (.ireturn, 1) := vtab tk99 2 rfl
theorem e99_4 (L : VL) (h : VG) (x : Int32) : ev 99 4 L [.int x] h = some (some (.int x), h) := G_iret f99_4 (ty := .int) (by decide) rfl
/-! 100 GuestCalls.refuses(I)Z -/
def tb100 : List (Nat × Instr × Nat) := [(0, .iload_n 1, 1), (1, .ifCond .ne 5, 3), (4, .iconst 0, 1), (5, .ireturn, 1), (6, .aload_n 0, 1), (7, .getfield 86, 3), (10, .ifCond .ne 18, 3), (13, .aload_n 0, 1), (14, .iload_n 1, 1), (15, .putfield 86, 3), (18, .aload_n 0, 1), (19, .dup, 1), (20, .getfield 89, 3), (23, .iconst 1, 1), (24, .iadd, 1), (25, .putfield 89, 3), (28, .iconst 1, 1), (29, .ireturn, 1)]
theorem tk100 : tb100.all (fun q => decide (fetch 100 q.1 = some q.2)) = true := by decide +kernel
theorem f100_0 : fetch 100 0 = some (.iload_n 1, 1) := vtab tk100 0 rfl
theorem e100_0 (l0 : Option Value) (L : VL) (st : List Value) (h : VG) (x : Int32) : ev 100 0 (l0 :: some (.int x) :: L) (st) h = ev 100 1 (l0 :: some (.int x) :: L) (.int x :: st) h := G_iload_n f100_0 rfl
theorem f100_1 : fetch 100 1 = some (.ifCond .ne 5, 3) := vtab tk100 1 rfl
theorem e100_1 (L : VL) (st : List Value) (h : VG) (x : Int32) : ev 100 1 L (.int x :: st) h = if x = 0 then ev 100 4 L st h else ev 100 6 L st h := G_if_ne f100_1 (by decide)
theorem f100_4 : fetch 100 4 = some (.iconst 0, 1) := vtab tk100 2 rfl
theorem e100_4 (L : VL) (st : List Value) (h : VG) : ev 100 4 L (st) h = ev 100 5 L (.int (0 : Int32) :: st) h := G_iconst f100_4 (by decide)
theorem f100_5 : fetch 100 5 = some (.ireturn, 1) := vtab tk100 3 rfl
theorem e100_5 (L : VL) (h : VG) (x : Int32) (hz : x = 0 ∨ x = 1) : ev 100 5 L [.int x] h = some (some (.int x), h) := G_iret f100_5 (ty := .boolean) (by decide) (vbool hz).1
theorem f100_6 : fetch 100 6 = some (.aload_n 0, 1) := vtab tk100 4 rfl
theorem e100_6 (L : VL) (st : List Value) (h : VG) (x : Nat) : ev 100 6 (some (.ref x) :: L) (st) h = ev 100 7 (some (.ref x) :: L) (.ref x :: st) h := G_aload_n f100_6 rfl
theorem f100_7 : fetch 100 7 = some (.getfield 86, 3) := vtab tk100 5 rfl
theorem e100_7 (L : VL) (st : List Value) (h : VG) (a : Nat) (ho : ob h a 10) : ev 100 7 L (.ref a :: st) h = ev 100 10 L (.int (gI h a 9) :: st) h := G_getI (p := 438) f100_7 lkF_11_86 (by decide) (by decide) ho
theorem f100_10 : fetch 100 10 = some (.ifCond .ne 18, 3) := vtab tk100 6 rfl
theorem e100_10 (L : VL) (st : List Value) (h : VG) (x : Int32) : ev 100 10 L (.int x :: st) h = if x = 0 then ev 100 13 L st h else ev 100 28 L st h := G_if_ne f100_10 (by decide)
theorem f100_13 : fetch 100 13 = some (.aload_n 0, 1) := vtab tk100 7 rfl
theorem e100_13 (L : VL) (st : List Value) (h : VG) (x : Nat) : ev 100 13 (some (.ref x) :: L) (st) h = ev 100 14 (some (.ref x) :: L) (.ref x :: st) h := G_aload_n f100_13 rfl
theorem f100_14 : fetch 100 14 = some (.iload_n 1, 1) := vtab tk100 8 rfl
theorem e100_14 (l0 : Option Value) (L : VL) (st : List Value) (h : VG) (x : Int32) : ev 100 14 (l0 :: some (.int x) :: L) (st) h = ev 100 15 (l0 :: some (.int x) :: L) (.int x :: st) h := G_iload_n f100_14 rfl
theorem f100_15 : fetch 100 15 = some (.putfield 86, 3) := vtab tk100 9 rfl
theorem e100_15 (L : VL) (st : List Value) (h : VG) (a : Nat) (x : Int32) (ho : ob h a 10) : ev 100 15 L (.int x :: .ref a :: st) h = ev 100 18 L (st) (pI h a 9 x) := G_putI (p := 438) f100_15 lkF_11_86 (by decide) (by decide) (by decide +kernel) ⟨rfl, rfl⟩ ho
theorem f100_18 : fetch 100 18 = some (.aload_n 0, 1) := vtab tk100 10 rfl
theorem e100_18 (L : VL) (st : List Value) (h : VG) (x : Nat) : ev 100 18 (some (.ref x) :: L) (st) h = ev 100 19 (some (.ref x) :: L) (.ref x :: st) h := G_aload_n f100_18 rfl
theorem f100_19 : fetch 100 19 = some (.dup, 1) := vtab tk100 11 rfl
theorem e100_19b (L : VL) (st : List Value) (h : VG) (x : Int32) : ev 100 19 L (.int x :: st) h = ev 100 20 L (.int x :: .int x :: st) h := G_dup_int f100_19
theorem e100_19 (L : VL) (st : List Value) (h : VG) (x : Nat) : ev 100 19 L (.ref x :: st) h = ev 100 20 L (.ref x :: .ref x :: st) h := G_dup_ref f100_19
theorem f100_20 : fetch 100 20 = some (.getfield 89, 3) := vtab tk100 12 rfl
theorem e100_20 (L : VL) (st : List Value) (h : VG) (a : Nat) (ho : ob h a 10) : ev 100 20 L (.ref a :: st) h = ev 100 23 L (.int (gI h a 10) :: st) h := G_getI (p := 439) f100_20 lkF_11_89 (by decide) (by decide) ho
theorem f100_23 : fetch 100 23 = some (.iconst 1, 1) := vtab tk100 13 rfl
theorem e100_23 (L : VL) (st : List Value) (h : VG) : ev 100 23 L (st) h = ev 100 24 L (.int (1 : Int32) :: st) h := G_iconst f100_23 (by decide)
theorem f100_24 : fetch 100 24 = some (.iadd, 1) := vtab tk100 14 rfl
theorem e100_24 (L : VL) (st : List Value) (h : VG) (x y : Int32) : ev 100 24 L (.int y :: .int x :: st) h = ev 100 25 L (.int (x + y) :: st) h := G_iadd f100_24
theorem f100_25 : fetch 100 25 = some (.putfield 89, 3) := vtab tk100 15 rfl
theorem e100_25 (L : VL) (st : List Value) (h : VG) (a : Nat) (x : Int32) (ho : ob h a 10) : ev 100 25 L (.int x :: .ref a :: st) h = ev 100 28 L (st) (pI h a 10 x) := G_putI (p := 439) f100_25 lkF_11_89 (by decide) (by decide) (by decide +kernel) ⟨rfl, rfl⟩ ho
theorem f100_28 : fetch 100 28 = some (.iconst 1, 1) := vtab tk100 16 rfl
theorem e100_28 (L : VL) (st : List Value) (h : VG) : ev 100 28 L (st) h = ev 100 29 L (.int (1 : Int32) :: st) h := G_iconst f100_28 (by decide)
theorem f100_29 : fetch 100 29 = some (.ireturn, 1) := vtab tk100 17 rfl
theorem e100_29 (L : VL) (h : VG) (x : Int32) (hz : x = 0 ∨ x = 1) : ev 100 29 L [.int x] h = some (some (.int x), h) := G_iret f100_29 (ty := .boolean) (by decide) (vbool hz).1
/-! 101 GuestCalls.isForm(I)Z -/
def tb101 : List (Nat × Instr × Nat) := [(0, .iload_n 1, 1), (1, .ifCond .lt 18, 3), (4, .iload_n 1, 1), (5, .aload_n 0, 1), (6, .getfield 23, 3), (9, .getfield 92, 3), (12, .if_icmp .ge 7, 3), (15, .iconst 1, 1), (16, .goto 4, 3), (19, .iconst 0, 1), (20, .ireturn, 1)]
theorem tk101 : tb101.all (fun q => decide (fetch 101 q.1 = some q.2)) = true := by decide +kernel
theorem f101_0 : fetch 101 0 = some (.iload_n 1, 1) := vtab tk101 0 rfl
theorem e101_0 (l0 : Option Value) (L : VL) (st : List Value) (h : VG) (x : Int32) : ev 101 0 (l0 :: some (.int x) :: L) (st) h = ev 101 1 (l0 :: some (.int x) :: L) (.int x :: st) h := G_iload_n f101_0 rfl
theorem f101_1 : fetch 101 1 = some (.ifCond .lt 18, 3) := vtab tk101 1 rfl
theorem e101_1 (L : VL) (st : List Value) (h : VG) (x : Int32) : ev 101 1 L (.int x :: st) h = if x < 0 then ev 101 19 L st h else ev 101 4 L st h := G_if_lt f101_1 (by decide)
theorem f101_4 : fetch 101 4 = some (.iload_n 1, 1) := vtab tk101 2 rfl
theorem e101_4 (l0 : Option Value) (L : VL) (st : List Value) (h : VG) (x : Int32) : ev 101 4 (l0 :: some (.int x) :: L) (st) h = ev 101 5 (l0 :: some (.int x) :: L) (.int x :: st) h := G_iload_n f101_4 rfl
theorem f101_5 : fetch 101 5 = some (.aload_n 0, 1) := vtab tk101 3 rfl
theorem e101_5 (L : VL) (st : List Value) (h : VG) (x : Nat) : ev 101 5 (some (.ref x) :: L) (st) h = ev 101 6 (some (.ref x) :: L) (.ref x :: st) h := G_aload_n f101_5 rfl
theorem f101_6 : fetch 101 6 = some (.getfield 23, 3) := vtab tk101 4 rfl
theorem e101_6 (L : VL) (st : List Value) (h : VG) (a : Nat) (ho : ob h a 10) (hr : isR h a 3) : ev 101 6 L (.ref a :: st) h = ev 101 9 L (.ref (gR h a 3) :: st) h := G_getR (p := 432) f101_6 lkF_11_23 (by decide) (by decide) ho hr
theorem f101_9 : fetch 101 9 = some (.getfield 92, 3) := vtab tk101 5 rfl
theorem e101_9 (L : VL) (st : List Value) (h : VG) (a : Nat) (ho : ob h a 6) : ev 101 9 L (.ref a :: st) h = ev 101 12 L (.int (gI h a 2) :: st) h := G_getI (p := 341) f101_9 lkF_11_92 (by decide) (by decide) ho
theorem f101_12 : fetch 101 12 = some (.if_icmp .ge 7, 3) := vtab tk101 6 rfl
theorem e101_12 (L : VL) (st : List Value) (h : VG) (x y : Int32) : ev 101 12 L (.int y :: .int x :: st) h = if x < y then ev 101 15 L st h else ev 101 19 L st h := G_icmp_ge f101_12 (by decide)
theorem f101_15 : fetch 101 15 = some (.iconst 1, 1) := vtab tk101 7 rfl
theorem e101_15 (L : VL) (st : List Value) (h : VG) : ev 101 15 L (st) h = ev 101 16 L (.int (1 : Int32) :: st) h := G_iconst f101_15 (by decide)
theorem f101_16 : fetch 101 16 = some (.goto 4, 3) := vtab tk101 8 rfl
theorem e101_16 (L : VL) (st : List Value) (h : VG) : ev 101 16 L (st) h = ev 101 20 L (st) h := G_goto f101_16 (by decide)
theorem f101_19 : fetch 101 19 = some (.iconst 0, 1) := vtab tk101 9 rfl
theorem e101_19 (L : VL) (st : List Value) (h : VG) : ev 101 19 L (st) h = ev 101 20 L (.int (0 : Int32) :: st) h := G_iconst f101_19 (by decide)
theorem f101_20 : fetch 101 20 = some (.ireturn, 1) := vtab tk101 10 rfl
theorem e101_20 (L : VL) (h : VG) (x : Int32) (hz : x = 0 ∨ x = 1) : ev 101 20 L [.int x] h = some (some (.int x), h) := G_iret f101_20 (ty := .boolean) (by decide) (vbool hz).1
/-! 102 GuestCalls.isBin(I)Z -/
def tb102 : List (Nat × Instr × Nat) := [(0, .iload_n 0, 1), (1, .ifCond .lt 13, 3), (4, .iload_n 0, 1), (5, .bipush 8, 2), (7, .if_icmp .ge 7, 3), (10, .iconst 1, 1), (11, .goto 4, 3), (14, .iconst 0, 1), (15, .ireturn, 1)]
theorem tk102 : tb102.all (fun q => decide (fetch 102 q.1 = some q.2)) = true := by decide +kernel
theorem f102_0 : fetch 102 0 = some (.iload_n 0, 1) := vtab tk102 0 rfl
theorem e102_0 (L : VL) (st : List Value) (h : VG) (x : Int32) : ev 102 0 (some (.int x) :: L) (st) h = ev 102 1 (some (.int x) :: L) (.int x :: st) h := G_iload_n f102_0 rfl
theorem f102_1 : fetch 102 1 = some (.ifCond .lt 13, 3) := vtab tk102 1 rfl
theorem e102_1 (L : VL) (st : List Value) (h : VG) (x : Int32) : ev 102 1 L (.int x :: st) h = if x < 0 then ev 102 14 L st h else ev 102 4 L st h := G_if_lt f102_1 (by decide)
theorem f102_4 : fetch 102 4 = some (.iload_n 0, 1) := vtab tk102 2 rfl
theorem e102_4 (L : VL) (st : List Value) (h : VG) (x : Int32) : ev 102 4 (some (.int x) :: L) (st) h = ev 102 5 (some (.int x) :: L) (.int x :: st) h := G_iload_n f102_4 rfl
theorem f102_5 : fetch 102 5 = some (.bipush 8, 2) := vtab tk102 3 rfl
theorem e102_5 (L : VL) (st : List Value) (h : VG) : ev 102 5 L (st) h = ev 102 7 L (.int (8 : Int32) :: st) h := G_bipush f102_5 (by decide)
theorem f102_7 : fetch 102 7 = some (.if_icmp .ge 7, 3) := vtab tk102 4 rfl
theorem e102_7 (L : VL) (st : List Value) (h : VG) (x y : Int32) : ev 102 7 L (.int y :: .int x :: st) h = if x < y then ev 102 10 L st h else ev 102 14 L st h := G_icmp_ge f102_7 (by decide)
theorem f102_10 : fetch 102 10 = some (.iconst 1, 1) := vtab tk102 5 rfl
theorem e102_10 (L : VL) (st : List Value) (h : VG) : ev 102 10 L (st) h = ev 102 11 L (.int (1 : Int32) :: st) h := G_iconst f102_10 (by decide)
theorem f102_11 : fetch 102 11 = some (.goto 4, 3) := vtab tk102 6 rfl
theorem e102_11 (L : VL) (st : List Value) (h : VG) : ev 102 11 L (st) h = ev 102 15 L (st) h := G_goto f102_11 (by decide)
theorem f102_14 : fetch 102 14 = some (.iconst 0, 1) := vtab tk102 7 rfl
theorem e102_14 (L : VL) (st : List Value) (h : VG) : ev 102 14 L (st) h = ev 102 15 L (.int (0 : Int32) :: st) h := G_iconst f102_14 (by decide)
theorem f102_15 : fetch 102 15 = some (.ireturn, 1) := vtab tk102 8 rfl
theorem e102_15 (L : VL) (h : VG) (x : Int32) (hz : x = 0 ∨ x = 1) : ev 102 15 L [.int x] h = some (some (.int x), h) := G_iret f102_15 (ty := .boolean) (by decide) (vbool hz).1
/-! 103 GuestCalls.isNumberKind(I)Z -/
def tb103 : List (Nat × Instr × Nat) := [(0, .iload_n 0, 1), (1, .ifCond .lt 13, 3), (4, .iload_n 0, 1), (5, .bipush 7, 2), (7, .if_icmp .gt 7, 3), (10, .iconst 1, 1), (11, .goto 4, 3), (14, .iconst 0, 1), (15, .ireturn, 1)]
theorem tk103 : tb103.all (fun q => decide (fetch 103 q.1 = some q.2)) = true := by decide +kernel
theorem f103_0 : fetch 103 0 = some (.iload_n 0, 1) := vtab tk103 0 rfl
theorem e103_0 (L : VL) (st : List Value) (h : VG) (x : Int32) : ev 103 0 (some (.int x) :: L) (st) h = ev 103 1 (some (.int x) :: L) (.int x :: st) h := G_iload_n f103_0 rfl
theorem f103_1 : fetch 103 1 = some (.ifCond .lt 13, 3) := vtab tk103 1 rfl
theorem e103_1 (L : VL) (st : List Value) (h : VG) (x : Int32) : ev 103 1 L (.int x :: st) h = if x < 0 then ev 103 14 L st h else ev 103 4 L st h := G_if_lt f103_1 (by decide)
theorem f103_4 : fetch 103 4 = some (.iload_n 0, 1) := vtab tk103 2 rfl
theorem e103_4 (L : VL) (st : List Value) (h : VG) (x : Int32) : ev 103 4 (some (.int x) :: L) (st) h = ev 103 5 (some (.int x) :: L) (.int x :: st) h := G_iload_n f103_4 rfl
theorem f103_5 : fetch 103 5 = some (.bipush 7, 2) := vtab tk103 3 rfl
theorem e103_5 (L : VL) (st : List Value) (h : VG) : ev 103 5 L (st) h = ev 103 7 L (.int (7 : Int32) :: st) h := G_bipush f103_5 (by decide)
theorem f103_7 : fetch 103 7 = some (.if_icmp .gt 7, 3) := vtab tk103 4 rfl
theorem e103_7 (L : VL) (st : List Value) (h : VG) (x y : Int32) : ev 103 7 L (.int y :: .int x :: st) h = if x ≤ y then ev 103 10 L st h else ev 103 14 L st h := G_icmp_gt f103_7 (by decide)
theorem f103_10 : fetch 103 10 = some (.iconst 1, 1) := vtab tk103 5 rfl
theorem e103_10 (L : VL) (st : List Value) (h : VG) : ev 103 10 L (st) h = ev 103 11 L (.int (1 : Int32) :: st) h := G_iconst f103_10 (by decide)
theorem f103_11 : fetch 103 11 = some (.goto 4, 3) := vtab tk103 6 rfl
theorem e103_11 (L : VL) (st : List Value) (h : VG) : ev 103 11 L (st) h = ev 103 15 L (st) h := G_goto f103_11 (by decide)
theorem f103_14 : fetch 103 14 = some (.iconst 0, 1) := vtab tk103 7 rfl
theorem e103_14 (L : VL) (st : List Value) (h : VG) : ev 103 14 L (st) h = ev 103 15 L (.int (0 : Int32) :: st) h := G_iconst f103_14 (by decide)
theorem f103_15 : fetch 103 15 = some (.ireturn, 1) := vtab tk103 8 rfl
theorem e103_15 (L : VL) (h : VG) (x : Int32) (hz : x = 0 ∨ x = 1) : ev 103 15 L [.int x] h = some (some (.int x), h) := G_iret f103_15 (ty := .boolean) (by decide) (vbool hz).1
/-! 104 GuestCalls.layout(IZII)I -/
def tb104 : List (Nat × Instr × Nat) := [(0, .aload_n 0, 1), (1, .iload_n 1, 1), (2, .invokevirtual 95, 3), (5, .ifCond .eq 14, 3), (8, .iload 4, 2), (10, .ifCond .lt 9, 3), (13, .iload 4, 2), (15, .iconst 3, 1), (16, .if_icmp .le 5, 3), (19, .iconst (-1), 1), (20, .ireturn, 1), (21, .aload_n 0, 1), (22, .getfield 23, 3), (25, .getfield 99, 3), (28, .iload_n 1, 1), (29, .aaload, 1), (30, .astore 5, 2), (32, .iload_n 2, 1), (33, .ifCond .eq 11, 3), (36, .aload 5, 2), (38, .getfield 103, 3), (41, .goto 8, 3), (44, .aload 5, 2), (46, .getfield 109, 3), (49, .astore 6, 2), (51, .iload_n 3, 1), (52, .iconst (-1), 1), (53, .if_icmp .ne 13, 3), (56, .aload 5, 2), (58, .aload 6, 2), (60, .iload 4, 2), (62, .invokestatic 112, 3), (65, .ireturn, 1), (66, .iload_n 3, 1), (67, .ifCond .lt 25, 3), (70, .iload_n 3, 1), (71, .aload 5, 2), (73, .getfield 116, 3), (76, .if_icmp .ge 16, 3), (79, .aload 5, 2), (81, .aload 6, 2), (83, .iload_n 3, 1), (84, .iload 4, 2), (86, .invokestatic 119, 3), (89, .goto 4, 3), (92, .iconst (-1), 1), (93, .ireturn, 1)]
theorem tk104 : tb104.all (fun q => decide (fetch 104 q.1 = some q.2)) = true := by decide +kernel
theorem f104_0 : fetch 104 0 = some (.aload_n 0, 1) := vtab tk104 0 rfl
theorem e104_0 (L : VL) (st : List Value) (h : VG) (x : Nat) : ev 104 0 (some (.ref x) :: L) (st) h = ev 104 1 (some (.ref x) :: L) (.ref x :: st) h := G_aload_n f104_0 rfl
theorem f104_1 : fetch 104 1 = some (.iload_n 1, 1) := vtab tk104 1 rfl
theorem e104_1 (l0 : Option Value) (L : VL) (st : List Value) (h : VG) (x : Int32) : ev 104 1 (l0 :: some (.int x) :: L) (st) h = ev 104 2 (l0 :: some (.int x) :: L) (.int x :: st) h := G_iload_n f104_1 rfl
theorem f104_2 : fetch 104 2 = some (.invokevirtual 95, 3) := vtab tk104 2 rfl
theorem e104_2 (L : VL) (st : List Value) (h : VG) (b : Nat) (x0 : Int32) (ho : ob h b 10) (hs : catS st ≤ 8) : ev 104 2 L (.int x0 :: .ref b :: st) h = (ev 101 0 [some (.ref b), some (.int x0)] [] h).bind fun q => ev 104 5 L (q.1.toList ++ st) q.2 := G_callv (k := 1) (p := 665) (ars := [.int x0]) f104_2 lkC_11_95 (by decide) (by decide +kernel) rfl (vcls_ob (ci := 10) (by decide) ho) (Nat.le_of_ble_eq_true rfl) hs rfl
theorem f104_5 : fetch 104 5 = some (.ifCond .eq 14, 3) := vtab tk104 3 rfl
theorem e104_5 (L : VL) (st : List Value) (h : VG) (x : Int32) : ev 104 5 L (.int x :: st) h = if x = 0 then ev 104 19 L st h else ev 104 8 L st h := G_if_eq f104_5 (by decide)
theorem f104_8 : fetch 104 8 = some (.iload 4, 2) := vtab tk104 4 rfl
theorem e104_8 (l0 l1 l2 l3 : Option Value) (L : VL) (st : List Value) (h : VG) (x : Int32) : ev 104 8 (l0 :: l1 :: l2 :: l3 :: some (.int x) :: L) (st) h = ev 104 10 (l0 :: l1 :: l2 :: l3 :: some (.int x) :: L) (.int x :: st) h := G_iload f104_8 rfl
theorem f104_10 : fetch 104 10 = some (.ifCond .lt 9, 3) := vtab tk104 5 rfl
theorem e104_10 (L : VL) (st : List Value) (h : VG) (x : Int32) : ev 104 10 L (.int x :: st) h = if x < 0 then ev 104 19 L st h else ev 104 13 L st h := G_if_lt f104_10 (by decide)
theorem f104_13 : fetch 104 13 = some (.iload 4, 2) := vtab tk104 6 rfl
theorem e104_13 (l0 l1 l2 l3 : Option Value) (L : VL) (st : List Value) (h : VG) (x : Int32) : ev 104 13 (l0 :: l1 :: l2 :: l3 :: some (.int x) :: L) (st) h = ev 104 15 (l0 :: l1 :: l2 :: l3 :: some (.int x) :: L) (.int x :: st) h := G_iload f104_13 rfl
theorem f104_15 : fetch 104 15 = some (.iconst 3, 1) := vtab tk104 7 rfl
theorem e104_15 (L : VL) (st : List Value) (h : VG) : ev 104 15 L (st) h = ev 104 16 L (.int (3 : Int32) :: st) h := G_iconst f104_15 (by decide)
theorem f104_16 : fetch 104 16 = some (.if_icmp .le 5, 3) := vtab tk104 8 rfl
theorem e104_16 (L : VL) (st : List Value) (h : VG) (x y : Int32) : ev 104 16 L (.int y :: .int x :: st) h = if x ≤ y then ev 104 21 L st h else ev 104 19 L st h := G_icmp_le f104_16 (by decide)
theorem f104_19 : fetch 104 19 = some (.iconst (-1), 1) := vtab tk104 9 rfl
theorem e104_19 (L : VL) (st : List Value) (h : VG) : ev 104 19 L (st) h = ev 104 20 L (.int (-1 : Int32) :: st) h := G_iconst f104_19 (by decide)
theorem f104_20 : fetch 104 20 = some (.ireturn, 1) := vtab tk104 10 rfl
theorem e104_20 (L : VL) (h : VG) (x : Int32) : ev 104 20 L [.int x] h = some (some (.int x), h) := G_iret f104_20 (ty := .int) (by decide) rfl
theorem f104_21 : fetch 104 21 = some (.aload_n 0, 1) := vtab tk104 11 rfl
theorem e104_21 (L : VL) (st : List Value) (h : VG) (x : Nat) : ev 104 21 (some (.ref x) :: L) (st) h = ev 104 22 (some (.ref x) :: L) (.ref x :: st) h := G_aload_n f104_21 rfl
theorem f104_22 : fetch 104 22 = some (.getfield 23, 3) := vtab tk104 12 rfl
theorem e104_22 (L : VL) (st : List Value) (h : VG) (a : Nat) (ho : ob h a 10) (hr : isR h a 3) : ev 104 22 L (.ref a :: st) h = ev 104 25 L (.ref (gR h a 3) :: st) h := G_getR (p := 432) f104_22 lkF_11_23 (by decide) (by decide) ho hr
theorem f104_25 : fetch 104 25 = some (.getfield 99, 3) := vtab tk104 13 rfl
theorem e104_25 (L : VL) (st : List Value) (h : VG) (a : Nat) (ho : ob h a 6) (hr : isR h a 1) : ev 104 25 L (.ref a :: st) h = ev 104 28 L (.ref (gR h a 1) :: st) h := G_getR (p := 339) f104_25 lkF_11_99 (by decide) (by decide) ho hr
theorem f104_28 : fetch 104 28 = some (.iload_n 1, 1) := vtab tk104 14 rfl
theorem e104_28 (l0 : Option Value) (L : VL) (st : List Value) (h : VG) (x : Int32) : ev 104 28 (l0 :: some (.int x) :: L) (st) h = ev 104 29 (l0 :: some (.int x) :: L) (.int x :: st) h := G_iload_n f104_28 rfl
theorem f104_29 : fetch 104 29 = some (.aaload, 1) := vtab tk104 15 rfl
theorem e104_29 (L : VL) (st : List Value) (h : VG) (a : Nat) (i : Int32) (ha : rdR h a) (hi : vp_in i (aln h a)) : ev 104 29 L (.int i :: .ref a :: st) h = ev 104 30 L (va_rf (aR h a i.toNatClampNeg) :: st) h := G_aald' f104_29 ha hi
theorem f104_30 : fetch 104 30 = some (.astore 5, 2) := vtab tk104 16 rfl
theorem e104_30 (l0 l1 l2 l3 l4 l5 : Option Value) (L : VL) (st : List Value) (h : VG) (x : Nat) : ev 104 30 (l0 :: l1 :: l2 :: l3 :: l4 :: l5 :: L) (.ref x :: st) h = ev 104 32 (l0 :: l1 :: l2 :: l3 :: vkk l4 :: some (.ref x) :: L) (st) h := G_astore f104_30 rfl (S1_5 l0 l1 l2 l3 l4 l5 L _)
theorem f104_32 : fetch 104 32 = some (.iload_n 2, 1) := vtab tk104 17 rfl
theorem e104_32 (l0 l1 : Option Value) (L : VL) (st : List Value) (h : VG) (x : Int32) : ev 104 32 (l0 :: l1 :: some (.int x) :: L) (st) h = ev 104 33 (l0 :: l1 :: some (.int x) :: L) (.int x :: st) h := G_iload_n f104_32 rfl
theorem f104_33 : fetch 104 33 = some (.ifCond .eq 11, 3) := vtab tk104 18 rfl
theorem e104_33 (L : VL) (st : List Value) (h : VG) (x : Int32) : ev 104 33 L (.int x :: st) h = if x = 0 then ev 104 44 L st h else ev 104 36 L st h := G_if_eq f104_33 (by decide)
theorem f104_36 : fetch 104 36 = some (.aload 5, 2) := vtab tk104 19 rfl
theorem e104_36 (l0 l1 l2 l3 l4 : Option Value) (L : VL) (st : List Value) (h : VG) (x : Nat) : ev 104 36 (l0 :: l1 :: l2 :: l3 :: l4 :: some (.ref x) :: L) (st) h = ev 104 38 (l0 :: l1 :: l2 :: l3 :: l4 :: some (.ref x) :: L) (.ref x :: st) h := G_aload f104_36 rfl
theorem f104_38 : fetch 104 38 = some (.getfield 103, 3) := vtab tk104 20 rfl
theorem e104_38 (L : VL) (st : List Value) (h : VG) (a : Nat) (ho : ob h a 3) (hr : isR h a 8) : ev 104 38 L (.ref a :: st) h = ev 104 41 L (.ref (gR h a 8) :: st) h := G_getR (p := 310) f104_38 lkF_11_103 (by decide) (by decide) ho hr
theorem f104_41 : fetch 104 41 = some (.goto 8, 3) := vtab tk104 21 rfl
theorem e104_41 (L : VL) (st : List Value) (h : VG) : ev 104 41 L (st) h = ev 104 49 L (st) h := G_goto f104_41 (by decide)
theorem f104_44 : fetch 104 44 = some (.aload 5, 2) := vtab tk104 22 rfl
theorem e104_44 (l0 l1 l2 l3 l4 : Option Value) (L : VL) (st : List Value) (h : VG) (x : Nat) : ev 104 44 (l0 :: l1 :: l2 :: l3 :: l4 :: some (.ref x) :: L) (st) h = ev 104 46 (l0 :: l1 :: l2 :: l3 :: l4 :: some (.ref x) :: L) (.ref x :: st) h := G_aload f104_44 rfl
theorem f104_46 : fetch 104 46 = some (.getfield 109, 3) := vtab tk104 23 rfl
theorem e104_46 (L : VL) (st : List Value) (h : VG) (a : Nat) (ho : ob h a 3) (hr : isR h a 7) : ev 104 46 L (.ref a :: st) h = ev 104 49 L (.ref (gR h a 7) :: st) h := G_getR (p := 308) f104_46 lkF_11_109 (by decide) (by decide) ho hr
theorem f104_49 : fetch 104 49 = some (.astore 6, 2) := vtab tk104 24 rfl
theorem e104_49 (l0 l1 l2 l3 l4 l5 l6 : Option Value) (L : VL) (st : List Value) (h : VG) (x : Nat) : ev 104 49 (l0 :: l1 :: l2 :: l3 :: l4 :: l5 :: l6 :: L) (.ref x :: st) h = ev 104 51 (l0 :: l1 :: l2 :: l3 :: l4 :: vkk l5 :: some (.ref x) :: L) (st) h := G_astore f104_49 rfl (S1_6 l0 l1 l2 l3 l4 l5 l6 L _)
theorem f104_51 : fetch 104 51 = some (.iload_n 3, 1) := vtab tk104 25 rfl
theorem e104_51 (l0 l1 l2 : Option Value) (L : VL) (st : List Value) (h : VG) (x : Int32) : ev 104 51 (l0 :: l1 :: l2 :: some (.int x) :: L) (st) h = ev 104 52 (l0 :: l1 :: l2 :: some (.int x) :: L) (.int x :: st) h := G_iload_n f104_51 rfl
theorem f104_52 : fetch 104 52 = some (.iconst (-1), 1) := vtab tk104 26 rfl
theorem e104_52 (L : VL) (st : List Value) (h : VG) : ev 104 52 L (st) h = ev 104 53 L (.int (-1 : Int32) :: st) h := G_iconst f104_52 (by decide)
theorem f104_53 : fetch 104 53 = some (.if_icmp .ne 13, 3) := vtab tk104 27 rfl
theorem e104_53 (L : VL) (st : List Value) (h : VG) (x y : Int32) : ev 104 53 L (.int y :: .int x :: st) h = if x = y then ev 104 56 L st h else ev 104 66 L st h := G_icmp_ne f104_53 (by decide)
theorem f104_56 : fetch 104 56 = some (.aload 5, 2) := vtab tk104 28 rfl
theorem e104_56 (l0 l1 l2 l3 l4 : Option Value) (L : VL) (st : List Value) (h : VG) (x : Nat) : ev 104 56 (l0 :: l1 :: l2 :: l3 :: l4 :: some (.ref x) :: L) (st) h = ev 104 58 (l0 :: l1 :: l2 :: l3 :: l4 :: some (.ref x) :: L) (.ref x :: st) h := G_aload f104_56 rfl
theorem f104_58 : fetch 104 58 = some (.aload 6, 2) := vtab tk104 29 rfl
theorem e104_58 (l0 l1 l2 l3 l4 l5 : Option Value) (L : VL) (st : List Value) (h : VG) (x : Nat) : ev 104 58 (l0 :: l1 :: l2 :: l3 :: l4 :: l5 :: some (.ref x) :: L) (st) h = ev 104 60 (l0 :: l1 :: l2 :: l3 :: l4 :: l5 :: some (.ref x) :: L) (.ref x :: st) h := G_aload f104_58 rfl
theorem f104_60 : fetch 104 60 = some (.iload 4, 2) := vtab tk104 30 rfl
theorem e104_60 (l0 l1 l2 l3 : Option Value) (L : VL) (st : List Value) (h : VG) (x : Int32) : ev 104 60 (l0 :: l1 :: l2 :: l3 :: some (.int x) :: L) (st) h = ev 104 62 (l0 :: l1 :: l2 :: l3 :: some (.int x) :: L) (.int x :: st) h := G_iload f104_60 rfl
theorem f104_62 : fetch 104 62 = some (.invokestatic 112, 3) := vtab tk104 31 rfl
theorem e104_62 (L : VL) (st : List Value) (h : VG) (x0 : Nat) (x1 : Nat) (x2 : Int32) (hs : catS st ≤ 8) : ev 104 62 L (.int x2 :: .ref x1 :: .ref x0 :: st) h = (ev 105 0 [some (.ref x0), some (.ref x1), some (.int x2)] [] h).bind fun q => ev 104 65 L (q.1.toList ++ st) q.2 := G_calls (k := 0) (p := 669) (ars := [.ref x0, .ref x1, .int x2]) f104_62 lkC_11_112 (by decide) (by decide +kernel) rfl (Nat.le_of_ble_eq_true rfl) hs rfl
theorem f104_65 : fetch 104 65 = some (.ireturn, 1) := vtab tk104 32 rfl
theorem e104_65 (L : VL) (h : VG) (x : Int32) : ev 104 65 L [.int x] h = some (some (.int x), h) := G_iret f104_65 (ty := .int) (by decide) rfl
theorem f104_66 : fetch 104 66 = some (.iload_n 3, 1) := vtab tk104 33 rfl
theorem e104_66 (l0 l1 l2 : Option Value) (L : VL) (st : List Value) (h : VG) (x : Int32) : ev 104 66 (l0 :: l1 :: l2 :: some (.int x) :: L) (st) h = ev 104 67 (l0 :: l1 :: l2 :: some (.int x) :: L) (.int x :: st) h := G_iload_n f104_66 rfl
theorem f104_67 : fetch 104 67 = some (.ifCond .lt 25, 3) := vtab tk104 34 rfl
theorem e104_67 (L : VL) (st : List Value) (h : VG) (x : Int32) : ev 104 67 L (.int x :: st) h = if x < 0 then ev 104 92 L st h else ev 104 70 L st h := G_if_lt f104_67 (by decide)
theorem f104_70 : fetch 104 70 = some (.iload_n 3, 1) := vtab tk104 35 rfl
theorem e104_70 (l0 l1 l2 : Option Value) (L : VL) (st : List Value) (h : VG) (x : Int32) : ev 104 70 (l0 :: l1 :: l2 :: some (.int x) :: L) (st) h = ev 104 71 (l0 :: l1 :: l2 :: some (.int x) :: L) (.int x :: st) h := G_iload_n f104_70 rfl
theorem f104_71 : fetch 104 71 = some (.aload 5, 2) := vtab tk104 36 rfl
theorem e104_71 (l0 l1 l2 l3 l4 : Option Value) (L : VL) (st : List Value) (h : VG) (x : Nat) : ev 104 71 (l0 :: l1 :: l2 :: l3 :: l4 :: some (.ref x) :: L) (st) h = ev 104 73 (l0 :: l1 :: l2 :: l3 :: l4 :: some (.ref x) :: L) (.ref x :: st) h := G_aload f104_71 rfl
theorem f104_73 : fetch 104 73 = some (.getfield 116, 3) := vtab tk104 37 rfl
theorem e104_73 (L : VL) (st : List Value) (h : VG) (a : Nat) (ho : ob h a 3) : ev 104 73 L (.ref a :: st) h = ev 104 76 L (.int (gI h a 1) :: st) h := G_getI (p := 294) f104_73 lkF_11_116 (by decide) (by decide) ho
theorem f104_76 : fetch 104 76 = some (.if_icmp .ge 16, 3) := vtab tk104 38 rfl
theorem e104_76 (L : VL) (st : List Value) (h : VG) (x y : Int32) : ev 104 76 L (.int y :: .int x :: st) h = if x < y then ev 104 79 L st h else ev 104 92 L st h := G_icmp_ge f104_76 (by decide)
theorem f104_79 : fetch 104 79 = some (.aload 5, 2) := vtab tk104 39 rfl
theorem e104_79 (l0 l1 l2 l3 l4 : Option Value) (L : VL) (st : List Value) (h : VG) (x : Nat) : ev 104 79 (l0 :: l1 :: l2 :: l3 :: l4 :: some (.ref x) :: L) (st) h = ev 104 81 (l0 :: l1 :: l2 :: l3 :: l4 :: some (.ref x) :: L) (.ref x :: st) h := G_aload f104_79 rfl
theorem f104_81 : fetch 104 81 = some (.aload 6, 2) := vtab tk104 40 rfl
theorem e104_81 (l0 l1 l2 l3 l4 l5 : Option Value) (L : VL) (st : List Value) (h : VG) (x : Nat) : ev 104 81 (l0 :: l1 :: l2 :: l3 :: l4 :: l5 :: some (.ref x) :: L) (st) h = ev 104 83 (l0 :: l1 :: l2 :: l3 :: l4 :: l5 :: some (.ref x) :: L) (.ref x :: st) h := G_aload f104_81 rfl
theorem f104_83 : fetch 104 83 = some (.iload_n 3, 1) := vtab tk104 41 rfl
theorem e104_83 (l0 l1 l2 : Option Value) (L : VL) (st : List Value) (h : VG) (x : Int32) : ev 104 83 (l0 :: l1 :: l2 :: some (.int x) :: L) (st) h = ev 104 84 (l0 :: l1 :: l2 :: some (.int x) :: L) (.int x :: st) h := G_iload_n f104_83 rfl
theorem f104_84 : fetch 104 84 = some (.iload 4, 2) := vtab tk104 42 rfl
theorem e104_84 (l0 l1 l2 l3 : Option Value) (L : VL) (st : List Value) (h : VG) (x : Int32) : ev 104 84 (l0 :: l1 :: l2 :: l3 :: some (.int x) :: L) (st) h = ev 104 86 (l0 :: l1 :: l2 :: l3 :: some (.int x) :: L) (.int x :: st) h := G_iload f104_84 rfl
theorem f104_86 : fetch 104 86 = some (.invokestatic 119, 3) := vtab tk104 43 rfl
theorem e104_86 (L : VL) (st : List Value) (h : VG) (x0 : Nat) (x1 : Nat) (x2 : Int32) (x3 : Int32) (hs : catS st ≤ 8) : ev 104 86 L (.int x3 :: .int x2 :: .ref x1 :: .ref x0 :: st) h = (ev 106 0 [some (.ref x0), some (.ref x1), some (.int x2), some (.int x3)] [] h).bind fun q => ev 104 89 L (q.1.toList ++ st) q.2 := G_calls (k := 0) (p := 672) (ars := [.ref x0, .ref x1, .int x2, .int x3]) f104_86 lkC_11_119 (by decide) (by decide +kernel) rfl (Nat.le_of_ble_eq_true rfl) hs rfl
theorem f104_89 : fetch 104 89 = some (.goto 4, 3) := vtab tk104 44 rfl
theorem e104_89 (L : VL) (st : List Value) (h : VG) : ev 104 89 L (st) h = ev 104 93 L (st) h := G_goto f104_89 (by decide)
theorem f104_92 : fetch 104 92 = some (.iconst (-1), 1) := vtab tk104 45 rfl
theorem e104_92 (L : VL) (st : List Value) (h : VG) : ev 104 92 L (st) h = ev 104 93 L (.int (-1 : Int32) :: st) h := G_iconst f104_92 (by decide)
theorem f104_93 : fetch 104 93 = some (.ireturn, 1) := vtab tk104 46 rfl
theorem e104_93 (L : VL) (h : VG) (x : Int32) : ev 104 93 L [.int x] h = some (some (.int x), h) := G_iret f104_93 (ty := .int) (by decide) rfl
/-! 105 GuestCalls.ofForm(LGuestCalls$Form;LGuestCalls$Layout;I)I -/
def tb105 : List (Nat × Instr × Nat) := [(0, .iload_n 2, 1), (1, .tableswitch 42 0 2 #[27, 32, 37], 27), (28, .aload_n 0, 1), (29, .getfield 116, 3), (32, .ireturn, 1), (33, .aload_n 0, 1), (34, .getfield 123, 3), (37, .ireturn, 1), (38, .aload_n 1, 1), (39, .getfield 126, 3), (42, .ireturn, 1), (43, .aload_n 1, 1), (44, .getfield 131, 3), (47, .ireturn, 1)]
theorem tk105 : tb105.all (fun q => decide (fetch 105 q.1 = some q.2)) = true := by decide +kernel
theorem f105_0 : fetch 105 0 = some (.iload_n 2, 1) := vtab tk105 0 rfl
theorem e105_0 (l0 l1 : Option Value) (L : VL) (st : List Value) (h : VG) (x : Int32) : ev 105 0 (l0 :: l1 :: some (.int x) :: L) (st) h = ev 105 1 (l0 :: l1 :: some (.int x) :: L) (.int x :: st) h := G_iload_n f105_0 rfl
theorem f105_1 : fetch 105 1 = some (.tableswitch 42 0 2 #[27, 32, 37], 27) := vtab tk105 1 rfl
theorem e105_1 (L : VL) (st : List Value) (h : VG) (x : Int32) : ev 105 1 L (.int x :: st) h = if x = (0 : Int32) then ev 105 28 L st h else (if x = (1 : Int32) then ev 105 33 L st h else (if x = (2 : Int32) then ev 105 38 L st h else (ev 105 43 L st h))) := (G_tsw f105_1 (by decide) (by decide) (by decide)).trans rfl
theorem f105_28 : fetch 105 28 = some (.aload_n 0, 1) := vtab tk105 2 rfl
theorem e105_28 (L : VL) (st : List Value) (h : VG) (x : Nat) : ev 105 28 (some (.ref x) :: L) (st) h = ev 105 29 (some (.ref x) :: L) (.ref x :: st) h := G_aload_n f105_28 rfl
theorem f105_29 : fetch 105 29 = some (.getfield 116, 3) := vtab tk105 3 rfl
theorem e105_29 (L : VL) (st : List Value) (h : VG) (a : Nat) (ho : ob h a 3) : ev 105 29 L (.ref a :: st) h = ev 105 32 L (.int (gI h a 1) :: st) h := G_getI (p := 294) f105_29 lkF_11_116 (by decide) (by decide) ho
theorem f105_32 : fetch 105 32 = some (.ireturn, 1) := vtab tk105 4 rfl
theorem e105_32 (L : VL) (h : VG) (x : Int32) : ev 105 32 L [.int x] h = some (some (.int x), h) := G_iret f105_32 (ty := .int) (by decide) rfl
theorem f105_33 : fetch 105 33 = some (.aload_n 0, 1) := vtab tk105 5 rfl
theorem e105_33 (L : VL) (st : List Value) (h : VG) (x : Nat) : ev 105 33 (some (.ref x) :: L) (st) h = ev 105 34 (some (.ref x) :: L) (.ref x :: st) h := G_aload_n f105_33 rfl
theorem f105_34 : fetch 105 34 = some (.getfield 123, 3) := vtab tk105 6 rfl
theorem e105_34 (L : VL) (st : List Value) (h : VG) (a : Nat) (ho : ob h a 3) : ev 105 34 L (.ref a :: st) h = ev 105 37 L (.int (gI h a 2) :: st) h := G_getI (p := 297) f105_34 lkF_11_123 (by decide) (by decide) ho
theorem f105_37 : fetch 105 37 = some (.ireturn, 1) := vtab tk105 7 rfl
theorem e105_37 (L : VL) (h : VG) (x : Int32) : ev 105 37 L [.int x] h = some (some (.int x), h) := G_iret f105_37 (ty := .int) (by decide) rfl
theorem f105_38 : fetch 105 38 = some (.aload_n 1, 1) := vtab tk105 8 rfl
theorem e105_38 (l0 : Option Value) (L : VL) (st : List Value) (h : VG) (x : Nat) : ev 105 38 (l0 :: some (.ref x) :: L) (st) h = ev 105 39 (l0 :: some (.ref x) :: L) (.ref x :: st) h := G_aload_n f105_38 rfl
theorem f105_39 : fetch 105 39 = some (.getfield 126, 3) := vtab tk105 9 rfl
theorem e105_39 (L : VL) (st : List Value) (h : VG) (a : Nat) (ho : ob h a 4) : ev 105 39 L (.ref a :: st) h = ev 105 42 L (.int (gI h a 2) :: st) h := G_getI (p := 260) f105_39 lkF_11_126 (by decide) (by decide) ho
theorem f105_42 : fetch 105 42 = some (.ireturn, 1) := vtab tk105 10 rfl
theorem e105_42 (L : VL) (h : VG) (x : Int32) : ev 105 42 L [.int x] h = some (some (.int x), h) := G_iret f105_42 (ty := .int) (by decide) rfl
theorem f105_43 : fetch 105 43 = some (.aload_n 1, 1) := vtab tk105 11 rfl
theorem e105_43 (l0 : Option Value) (L : VL) (st : List Value) (h : VG) (x : Nat) : ev 105 43 (l0 :: some (.ref x) :: L) (st) h = ev 105 44 (l0 :: some (.ref x) :: L) (.ref x :: st) h := G_aload_n f105_43 rfl
theorem f105_44 : fetch 105 44 = some (.getfield 131, 3) := vtab tk105 12 rfl
theorem e105_44 (L : VL) (st : List Value) (h : VG) (a : Nat) (ho : ob h a 4) : ev 105 44 L (.ref a :: st) h = ev 105 47 L (.int (gI h a 3) :: st) h := G_getI (p := 262) f105_44 lkF_11_131 (by decide) (by decide) ho
theorem f105_47 : fetch 105 47 = some (.ireturn, 1) := vtab tk105 13 rfl
theorem e105_47 (L : VL) (h : VG) (x : Int32) : ev 105 47 L [.int x] h = some (some (.int x), h) := G_iret f105_47 (ty := .int) (by decide) rfl
/-! 106 GuestCalls.ofMember(LGuestCalls$Form;LGuestCalls$Layout;II)I -/
def tb106 : List (Nat × Instr × Nat) := [(0, .iload_n 3, 1), (1, .tableswitch 53 0 2 #[27, 34, 41], 27), (28, .aload_n 0, 1), (29, .getfield 134, 3), (32, .iload_n 2, 1), (33, .iaload, 1), (34, .ireturn, 1), (35, .aload_n 0, 1), (36, .getfield 138, 3), (39, .iload_n 2, 1), (40, .iaload, 1), (41, .ireturn, 1), (42, .aload_n 1, 1), (43, .getfield 141, 3), (46, .aload_n 0, 1), (47, .getfield 144, 3), (50, .iload_n 2, 1), (51, .iaload, 1), (52, .iaload, 1), (53, .ireturn, 1), (54, .aload_n 0, 1), (55, .getfield 138, 3), (58, .iload_n 2, 1), (59, .iaload, 1), (60, .aload_n 0, 1), (61, .getfield 134, 3), (64, .iload_n 2, 1), (65, .iaload, 1), (66, .aload_n 1, 1), (67, .getfield 147, 3), (70, .invokestatic 151, 3), (73, .imul, 1), (74, .ireturn, 1)]
theorem tk106 : tb106.all (fun q => decide (fetch 106 q.1 = some q.2)) = true := by decide +kernel
theorem f106_0 : fetch 106 0 = some (.iload_n 3, 1) := vtab tk106 0 rfl
theorem e106_0 (l0 l1 l2 : Option Value) (L : VL) (st : List Value) (h : VG) (x : Int32) : ev 106 0 (l0 :: l1 :: l2 :: some (.int x) :: L) (st) h = ev 106 1 (l0 :: l1 :: l2 :: some (.int x) :: L) (.int x :: st) h := G_iload_n f106_0 rfl
theorem f106_1 : fetch 106 1 = some (.tableswitch 53 0 2 #[27, 34, 41], 27) := vtab tk106 1 rfl
theorem e106_1 (L : VL) (st : List Value) (h : VG) (x : Int32) : ev 106 1 L (.int x :: st) h = if x = (0 : Int32) then ev 106 28 L st h else (if x = (1 : Int32) then ev 106 35 L st h else (if x = (2 : Int32) then ev 106 42 L st h else (ev 106 54 L st h))) := (G_tsw f106_1 (by decide) (by decide) (by decide)).trans rfl
theorem f106_28 : fetch 106 28 = some (.aload_n 0, 1) := vtab tk106 2 rfl
theorem e106_28 (L : VL) (st : List Value) (h : VG) (x : Nat) : ev 106 28 (some (.ref x) :: L) (st) h = ev 106 29 (some (.ref x) :: L) (.ref x :: st) h := G_aload_n f106_28 rfl
theorem f106_29 : fetch 106 29 = some (.getfield 134, 3) := vtab tk106 3 rfl
theorem e106_29 (L : VL) (st : List Value) (h : VG) (a : Nat) (ho : ob h a 3) (hr : isR h a 3) : ev 106 29 L (.ref a :: st) h = ev 106 32 L (.ref (gR h a 3) :: st) h := G_getR (p := 299) f106_29 lkF_11_134 (by decide) (by decide) ho hr
theorem f106_32 : fetch 106 32 = some (.iload_n 2, 1) := vtab tk106 4 rfl
theorem e106_32 (l0 l1 : Option Value) (L : VL) (st : List Value) (h : VG) (x : Int32) : ev 106 32 (l0 :: l1 :: some (.int x) :: L) (st) h = ev 106 33 (l0 :: l1 :: some (.int x) :: L) (.int x :: st) h := G_iload_n f106_32 rfl
theorem f106_33 : fetch 106 33 = some (.iaload, 1) := vtab tk106 5 rfl
theorem e106_33 (L : VL) (st : List Value) (h : VG) (a : Nat) (i : Int32) (ha : rdI h a) (hi : vp_in i (aln h a)) : ev 106 33 L (.int i :: .ref a :: st) h = ev 106 34 L (.int (aI h a i.toNatClampNeg) :: st) h := G_iald' f106_33 ha hi
theorem f106_34 : fetch 106 34 = some (.ireturn, 1) := vtab tk106 6 rfl
theorem e106_34 (L : VL) (h : VG) (x : Int32) : ev 106 34 L [.int x] h = some (some (.int x), h) := G_iret f106_34 (ty := .int) (by decide) rfl
theorem f106_35 : fetch 106 35 = some (.aload_n 0, 1) := vtab tk106 7 rfl
theorem e106_35 (L : VL) (st : List Value) (h : VG) (x : Nat) : ev 106 35 (some (.ref x) :: L) (st) h = ev 106 36 (some (.ref x) :: L) (.ref x :: st) h := G_aload_n f106_35 rfl
theorem f106_36 : fetch 106 36 = some (.getfield 138, 3) := vtab tk106 8 rfl
theorem e106_36 (L : VL) (st : List Value) (h : VG) (a : Nat) (ho : ob h a 3) (hr : isR h a 4) : ev 106 36 L (.ref a :: st) h = ev 106 39 L (.ref (gR h a 4) :: st) h := G_getR (p := 301) f106_36 lkF_11_138 (by decide) (by decide) ho hr
theorem f106_39 : fetch 106 39 = some (.iload_n 2, 1) := vtab tk106 9 rfl
theorem e106_39 (l0 l1 : Option Value) (L : VL) (st : List Value) (h : VG) (x : Int32) : ev 106 39 (l0 :: l1 :: some (.int x) :: L) (st) h = ev 106 40 (l0 :: l1 :: some (.int x) :: L) (.int x :: st) h := G_iload_n f106_39 rfl
theorem f106_40 : fetch 106 40 = some (.iaload, 1) := vtab tk106 10 rfl
theorem e106_40 (L : VL) (st : List Value) (h : VG) (a : Nat) (i : Int32) (ha : rdI h a) (hi : vp_in i (aln h a)) : ev 106 40 L (.int i :: .ref a :: st) h = ev 106 41 L (.int (aI h a i.toNatClampNeg) :: st) h := G_iald' f106_40 ha hi
theorem f106_41 : fetch 106 41 = some (.ireturn, 1) := vtab tk106 11 rfl
theorem e106_41 (L : VL) (h : VG) (x : Int32) : ev 106 41 L [.int x] h = some (some (.int x), h) := G_iret f106_41 (ty := .int) (by decide) rfl
theorem f106_42 : fetch 106 42 = some (.aload_n 1, 1) := vtab tk106 12 rfl
theorem e106_42 (l0 : Option Value) (L : VL) (st : List Value) (h : VG) (x : Nat) : ev 106 42 (l0 :: some (.ref x) :: L) (st) h = ev 106 43 (l0 :: some (.ref x) :: L) (.ref x :: st) h := G_aload_n f106_42 rfl
theorem f106_43 : fetch 106 43 = some (.getfield 141, 3) := vtab tk106 13 rfl
theorem e106_43 (L : VL) (st : List Value) (h : VG) (a : Nat) (ho : ob h a 4) (hr : isR h a 1) : ev 106 43 L (.ref a :: st) h = ev 106 46 L (.ref (gR h a 1) :: st) h := G_getR (p := 258) f106_43 lkF_11_141 (by decide) (by decide) ho hr
theorem f106_46 : fetch 106 46 = some (.aload_n 0, 1) := vtab tk106 14 rfl
theorem e106_46 (L : VL) (st : List Value) (h : VG) (x : Nat) : ev 106 46 (some (.ref x) :: L) (st) h = ev 106 47 (some (.ref x) :: L) (.ref x :: st) h := G_aload_n f106_46 rfl
theorem f106_47 : fetch 106 47 = some (.getfield 144, 3) := vtab tk106 15 rfl
theorem e106_47 (L : VL) (st : List Value) (h : VG) (a : Nat) (ho : ob h a 3) (hr : isR h a 5) : ev 106 47 L (.ref a :: st) h = ev 106 50 L (.ref (gR h a 5) :: st) h := G_getR (p := 303) f106_47 lkF_11_144 (by decide) (by decide) ho hr
theorem f106_50 : fetch 106 50 = some (.iload_n 2, 1) := vtab tk106 16 rfl
theorem e106_50 (l0 l1 : Option Value) (L : VL) (st : List Value) (h : VG) (x : Int32) : ev 106 50 (l0 :: l1 :: some (.int x) :: L) (st) h = ev 106 51 (l0 :: l1 :: some (.int x) :: L) (.int x :: st) h := G_iload_n f106_50 rfl
theorem f106_51 : fetch 106 51 = some (.iaload, 1) := vtab tk106 17 rfl
theorem e106_51 (L : VL) (st : List Value) (h : VG) (a : Nat) (i : Int32) (ha : rdI h a) (hi : vp_in i (aln h a)) : ev 106 51 L (.int i :: .ref a :: st) h = ev 106 52 L (.int (aI h a i.toNatClampNeg) :: st) h := G_iald' f106_51 ha hi
theorem f106_52 : fetch 106 52 = some (.iaload, 1) := vtab tk106 18 rfl
theorem e106_52 (L : VL) (st : List Value) (h : VG) (a : Nat) (i : Int32) (ha : rdI h a) (hi : vp_in i (aln h a)) : ev 106 52 L (.int i :: .ref a :: st) h = ev 106 53 L (.int (aI h a i.toNatClampNeg) :: st) h := G_iald' f106_52 ha hi
theorem f106_53 : fetch 106 53 = some (.ireturn, 1) := vtab tk106 19 rfl
theorem e106_53 (L : VL) (h : VG) (x : Int32) : ev 106 53 L [.int x] h = some (some (.int x), h) := G_iret f106_53 (ty := .int) (by decide) rfl
theorem f106_54 : fetch 106 54 = some (.aload_n 0, 1) := vtab tk106 20 rfl
theorem e106_54 (L : VL) (st : List Value) (h : VG) (x : Nat) : ev 106 54 (some (.ref x) :: L) (st) h = ev 106 55 (some (.ref x) :: L) (.ref x :: st) h := G_aload_n f106_54 rfl
theorem f106_55 : fetch 106 55 = some (.getfield 138, 3) := vtab tk106 21 rfl
theorem e106_55 (L : VL) (st : List Value) (h : VG) (a : Nat) (ho : ob h a 3) (hr : isR h a 4) : ev 106 55 L (.ref a :: st) h = ev 106 58 L (.ref (gR h a 4) :: st) h := G_getR (p := 301) f106_55 lkF_11_138 (by decide) (by decide) ho hr
theorem f106_58 : fetch 106 58 = some (.iload_n 2, 1) := vtab tk106 22 rfl
theorem e106_58 (l0 l1 : Option Value) (L : VL) (st : List Value) (h : VG) (x : Int32) : ev 106 58 (l0 :: l1 :: some (.int x) :: L) (st) h = ev 106 59 (l0 :: l1 :: some (.int x) :: L) (.int x :: st) h := G_iload_n f106_58 rfl
theorem f106_59 : fetch 106 59 = some (.iaload, 1) := vtab tk106 23 rfl
theorem e106_59 (L : VL) (st : List Value) (h : VG) (a : Nat) (i : Int32) (ha : rdI h a) (hi : vp_in i (aln h a)) : ev 106 59 L (.int i :: .ref a :: st) h = ev 106 60 L (.int (aI h a i.toNatClampNeg) :: st) h := G_iald' f106_59 ha hi
theorem f106_60 : fetch 106 60 = some (.aload_n 0, 1) := vtab tk106 24 rfl
theorem e106_60 (L : VL) (st : List Value) (h : VG) (x : Nat) : ev 106 60 (some (.ref x) :: L) (st) h = ev 106 61 (some (.ref x) :: L) (.ref x :: st) h := G_aload_n f106_60 rfl
theorem f106_61 : fetch 106 61 = some (.getfield 134, 3) := vtab tk106 25 rfl
theorem e106_61 (L : VL) (st : List Value) (h : VG) (a : Nat) (ho : ob h a 3) (hr : isR h a 3) : ev 106 61 L (.ref a :: st) h = ev 106 64 L (.ref (gR h a 3) :: st) h := G_getR (p := 299) f106_61 lkF_11_134 (by decide) (by decide) ho hr
theorem f106_64 : fetch 106 64 = some (.iload_n 2, 1) := vtab tk106 26 rfl
theorem e106_64 (l0 l1 : Option Value) (L : VL) (st : List Value) (h : VG) (x : Int32) : ev 106 64 (l0 :: l1 :: some (.int x) :: L) (st) h = ev 106 65 (l0 :: l1 :: some (.int x) :: L) (.int x :: st) h := G_iload_n f106_64 rfl
theorem f106_65 : fetch 106 65 = some (.iaload, 1) := vtab tk106 27 rfl
theorem e106_65 (L : VL) (st : List Value) (h : VG) (a : Nat) (i : Int32) (ha : rdI h a) (hi : vp_in i (aln h a)) : ev 106 65 L (.int i :: .ref a :: st) h = ev 106 66 L (.int (aI h a i.toNatClampNeg) :: st) h := G_iald' f106_65 ha hi
theorem f106_66 : fetch 106 66 = some (.aload_n 1, 1) := vtab tk106 28 rfl
theorem e106_66 (l0 : Option Value) (L : VL) (st : List Value) (h : VG) (x : Nat) : ev 106 66 (l0 :: some (.ref x) :: L) (st) h = ev 106 67 (l0 :: some (.ref x) :: L) (.ref x :: st) h := G_aload_n f106_66 rfl
theorem f106_67 : fetch 106 67 = some (.getfield 147, 3) := vtab tk106 29 rfl
theorem e106_67 (L : VL) (st : List Value) (h : VG) (a : Nat) (ho : ob h a 4) : ev 106 67 L (.ref a :: st) h = ev 106 70 L (.int (gI h a 0) :: st) h := G_getI (p := 255) f106_67 lkF_11_147 (by decide) (by decide) ho
theorem f106_70 : fetch 106 70 = some (.invokestatic 151, 3) := vtab tk106 30 rfl
theorem e106_70 (L : VL) (st : List Value) (h : VG) (x0 : Int32) (x1 : Int32) (hs : catS st ≤ 8) : ev 106 70 L (.int x1 :: .int x0 :: st) h = (ev 30 0 [some (.int x0), some (.int x1)] [] h).bind fun q => ev 106 73 L (q.1.toList ++ st) q.2 := G_calls (k := 0) (p := 675) (ars := [.int x0, .int x1]) f106_70 lkC_11_151 (by decide) (by decide +kernel) rfl (Nat.le_of_ble_eq_true rfl) hs rfl
theorem f106_73 : fetch 106 73 = some (.imul, 1) := vtab tk106 31 rfl
theorem e106_73 (L : VL) (st : List Value) (h : VG) (x y : Int32) : ev 106 73 L (.int y :: .int x :: st) h = ev 106 74 L (.int (x * y) :: st) h := G_imul f106_73
theorem f106_74 : fetch 106 74 = some (.ireturn, 1) := vtab tk106 32 rfl
theorem e106_74 (L : VL) (h : VG) (x : Int32) : ev 106 74 L [.int x] h = some (some (.int x), h) := G_iret f106_74 (ty := .int) (by decide) rfl
/-! 107 GuestCalls.argument(III)I -/
def tb107 : List (Nat × Instr × Nat) := [(0, .aload_n 0, 1), (1, .iload_n 1, 1), (2, .invokevirtual 95, 3), (5, .ifCond .eq 23, 3), (8, .iload_n 2, 1), (9, .ifCond .lt 19, 3), (12, .iload_n 2, 1), (13, .aload_n 0, 1), (14, .getfield 23, 3), (17, .getfield 99, 3), (20, .iload_n 1, 1), (21, .aaload, 1), (22, .getfield 123, 3), (25, .if_icmp .lt 5, 3), (28, .iconst (-1), 1), (29, .ireturn, 1), (30, .aload_n 0, 1), (31, .getfield 23, 3), (34, .getfield 99, 3), (37, .iload_n 1, 1), (38, .aaload, 1), (39, .getfield 157, 3), (42, .astore 4, 2), (44, .iload_n 3, 1), (45, .tableswitch 51 0 2 #[27, 35, 43], 27), (72, .aload 4, 2), (74, .getfield 161, 3), (77, .iload_n 2, 1), (78, .iaload, 1), (79, .ireturn, 1), (80, .aload 4, 2), (82, .getfield 166, 3), (85, .iload_n 2, 1), (86, .iaload, 1), (87, .ireturn, 1), (88, .aload 4, 2), (90, .getfield 167, 3), (93, .iload_n 2, 1), (94, .iaload, 1), (95, .ireturn, 1), (96, .iconst (-1), 1), (97, .ireturn, 1)]
theorem tk107 : tb107.all (fun q => decide (fetch 107 q.1 = some q.2)) = true := by decide +kernel
theorem f107_0 : fetch 107 0 = some (.aload_n 0, 1) := vtab tk107 0 rfl
theorem e107_0 (L : VL) (st : List Value) (h : VG) (x : Nat) : ev 107 0 (some (.ref x) :: L) (st) h = ev 107 1 (some (.ref x) :: L) (.ref x :: st) h := G_aload_n f107_0 rfl
theorem f107_1 : fetch 107 1 = some (.iload_n 1, 1) := vtab tk107 1 rfl
theorem e107_1 (l0 : Option Value) (L : VL) (st : List Value) (h : VG) (x : Int32) : ev 107 1 (l0 :: some (.int x) :: L) (st) h = ev 107 2 (l0 :: some (.int x) :: L) (.int x :: st) h := G_iload_n f107_1 rfl
theorem f107_2 : fetch 107 2 = some (.invokevirtual 95, 3) := vtab tk107 2 rfl
theorem e107_2 (L : VL) (st : List Value) (h : VG) (b : Nat) (x0 : Int32) (ho : ob h b 10) (hs : catS st ≤ 8) : ev 107 2 L (.int x0 :: .ref b :: st) h = (ev 101 0 [some (.ref b), some (.int x0)] [] h).bind fun q => ev 107 5 L (q.1.toList ++ st) q.2 := G_callv (k := 1) (p := 665) (ars := [.int x0]) f107_2 lkC_11_95 (by decide) (by decide +kernel) rfl (vcls_ob (ci := 10) (by decide) ho) (Nat.le_of_ble_eq_true rfl) hs rfl
theorem f107_5 : fetch 107 5 = some (.ifCond .eq 23, 3) := vtab tk107 3 rfl
theorem e107_5 (L : VL) (st : List Value) (h : VG) (x : Int32) : ev 107 5 L (.int x :: st) h = if x = 0 then ev 107 28 L st h else ev 107 8 L st h := G_if_eq f107_5 (by decide)
theorem f107_8 : fetch 107 8 = some (.iload_n 2, 1) := vtab tk107 4 rfl
theorem e107_8 (l0 l1 : Option Value) (L : VL) (st : List Value) (h : VG) (x : Int32) : ev 107 8 (l0 :: l1 :: some (.int x) :: L) (st) h = ev 107 9 (l0 :: l1 :: some (.int x) :: L) (.int x :: st) h := G_iload_n f107_8 rfl
theorem f107_9 : fetch 107 9 = some (.ifCond .lt 19, 3) := vtab tk107 5 rfl
theorem e107_9 (L : VL) (st : List Value) (h : VG) (x : Int32) : ev 107 9 L (.int x :: st) h = if x < 0 then ev 107 28 L st h else ev 107 12 L st h := G_if_lt f107_9 (by decide)
theorem f107_12 : fetch 107 12 = some (.iload_n 2, 1) := vtab tk107 6 rfl
theorem e107_12 (l0 l1 : Option Value) (L : VL) (st : List Value) (h : VG) (x : Int32) : ev 107 12 (l0 :: l1 :: some (.int x) :: L) (st) h = ev 107 13 (l0 :: l1 :: some (.int x) :: L) (.int x :: st) h := G_iload_n f107_12 rfl
theorem f107_13 : fetch 107 13 = some (.aload_n 0, 1) := vtab tk107 7 rfl
theorem e107_13 (L : VL) (st : List Value) (h : VG) (x : Nat) : ev 107 13 (some (.ref x) :: L) (st) h = ev 107 14 (some (.ref x) :: L) (.ref x :: st) h := G_aload_n f107_13 rfl
theorem f107_14 : fetch 107 14 = some (.getfield 23, 3) := vtab tk107 8 rfl
theorem e107_14 (L : VL) (st : List Value) (h : VG) (a : Nat) (ho : ob h a 10) (hr : isR h a 3) : ev 107 14 L (.ref a :: st) h = ev 107 17 L (.ref (gR h a 3) :: st) h := G_getR (p := 432) f107_14 lkF_11_23 (by decide) (by decide) ho hr
theorem f107_17 : fetch 107 17 = some (.getfield 99, 3) := vtab tk107 9 rfl
theorem e107_17 (L : VL) (st : List Value) (h : VG) (a : Nat) (ho : ob h a 6) (hr : isR h a 1) : ev 107 17 L (.ref a :: st) h = ev 107 20 L (.ref (gR h a 1) :: st) h := G_getR (p := 339) f107_17 lkF_11_99 (by decide) (by decide) ho hr
theorem f107_20 : fetch 107 20 = some (.iload_n 1, 1) := vtab tk107 10 rfl
theorem e107_20 (l0 : Option Value) (L : VL) (st : List Value) (h : VG) (x : Int32) : ev 107 20 (l0 :: some (.int x) :: L) (st) h = ev 107 21 (l0 :: some (.int x) :: L) (.int x :: st) h := G_iload_n f107_20 rfl
theorem f107_21 : fetch 107 21 = some (.aaload, 1) := vtab tk107 11 rfl
theorem e107_21 (L : VL) (st : List Value) (h : VG) (a : Nat) (i : Int32) (ha : rdR h a) (hi : vp_in i (aln h a)) : ev 107 21 L (.int i :: .ref a :: st) h = ev 107 22 L (va_rf (aR h a i.toNatClampNeg) :: st) h := G_aald' f107_21 ha hi
theorem f107_22 : fetch 107 22 = some (.getfield 123, 3) := vtab tk107 12 rfl
theorem e107_22 (L : VL) (st : List Value) (h : VG) (a : Nat) (ho : ob h a 3) : ev 107 22 L (.ref a :: st) h = ev 107 25 L (.int (gI h a 2) :: st) h := G_getI (p := 297) f107_22 lkF_11_123 (by decide) (by decide) ho
theorem f107_25 : fetch 107 25 = some (.if_icmp .lt 5, 3) := vtab tk107 13 rfl
theorem e107_25 (L : VL) (st : List Value) (h : VG) (x y : Int32) : ev 107 25 L (.int y :: .int x :: st) h = if x < y then ev 107 30 L st h else ev 107 28 L st h := G_icmp_lt f107_25 (by decide)
theorem f107_28 : fetch 107 28 = some (.iconst (-1), 1) := vtab tk107 14 rfl
theorem e107_28 (L : VL) (st : List Value) (h : VG) : ev 107 28 L (st) h = ev 107 29 L (.int (-1 : Int32) :: st) h := G_iconst f107_28 (by decide)
theorem f107_29 : fetch 107 29 = some (.ireturn, 1) := vtab tk107 15 rfl
theorem e107_29 (L : VL) (h : VG) (x : Int32) : ev 107 29 L [.int x] h = some (some (.int x), h) := G_iret f107_29 (ty := .int) (by decide) rfl
theorem f107_30 : fetch 107 30 = some (.aload_n 0, 1) := vtab tk107 16 rfl
theorem e107_30 (L : VL) (st : List Value) (h : VG) (x : Nat) : ev 107 30 (some (.ref x) :: L) (st) h = ev 107 31 (some (.ref x) :: L) (.ref x :: st) h := G_aload_n f107_30 rfl
theorem f107_31 : fetch 107 31 = some (.getfield 23, 3) := vtab tk107 17 rfl
theorem e107_31 (L : VL) (st : List Value) (h : VG) (a : Nat) (ho : ob h a 10) (hr : isR h a 3) : ev 107 31 L (.ref a :: st) h = ev 107 34 L (.ref (gR h a 3) :: st) h := G_getR (p := 432) f107_31 lkF_11_23 (by decide) (by decide) ho hr
theorem f107_34 : fetch 107 34 = some (.getfield 99, 3) := vtab tk107 18 rfl
theorem e107_34 (L : VL) (st : List Value) (h : VG) (a : Nat) (ho : ob h a 6) (hr : isR h a 1) : ev 107 34 L (.ref a :: st) h = ev 107 37 L (.ref (gR h a 1) :: st) h := G_getR (p := 339) f107_34 lkF_11_99 (by decide) (by decide) ho hr
theorem f107_37 : fetch 107 37 = some (.iload_n 1, 1) := vtab tk107 19 rfl
theorem e107_37 (l0 : Option Value) (L : VL) (st : List Value) (h : VG) (x : Int32) : ev 107 37 (l0 :: some (.int x) :: L) (st) h = ev 107 38 (l0 :: some (.int x) :: L) (.int x :: st) h := G_iload_n f107_37 rfl
theorem f107_38 : fetch 107 38 = some (.aaload, 1) := vtab tk107 20 rfl
theorem e107_38 (L : VL) (st : List Value) (h : VG) (a : Nat) (i : Int32) (ha : rdR h a) (hi : vp_in i (aln h a)) : ev 107 38 L (.int i :: .ref a :: st) h = ev 107 39 L (va_rf (aR h a i.toNatClampNeg) :: st) h := G_aald' f107_38 ha hi
theorem f107_39 : fetch 107 39 = some (.getfield 157, 3) := vtab tk107 21 rfl
theorem e107_39 (L : VL) (st : List Value) (h : VG) (a : Nat) (ho : ob h a 3) (hr : isR h a 9) : ev 107 39 L (.ref a :: st) h = ev 107 42 L (.ref (gR h a 9) :: st) h := G_getR (p := 312) f107_39 lkF_11_157 (by decide) (by decide) ho hr
theorem f107_42 : fetch 107 42 = some (.astore 4, 2) := vtab tk107 22 rfl
theorem e107_42 (l0 l1 l2 l3 l4 : Option Value) (L : VL) (st : List Value) (h : VG) (x : Nat) : ev 107 42 (l0 :: l1 :: l2 :: l3 :: l4 :: L) (.ref x :: st) h = ev 107 44 (l0 :: l1 :: l2 :: vkk l3 :: some (.ref x) :: L) (st) h := G_astore f107_42 rfl (S1_4 l0 l1 l2 l3 l4 L _)
theorem f107_44 : fetch 107 44 = some (.iload_n 3, 1) := vtab tk107 23 rfl
theorem e107_44 (l0 l1 l2 : Option Value) (L : VL) (st : List Value) (h : VG) (x : Int32) : ev 107 44 (l0 :: l1 :: l2 :: some (.int x) :: L) (st) h = ev 107 45 (l0 :: l1 :: l2 :: some (.int x) :: L) (.int x :: st) h := G_iload_n f107_44 rfl
theorem f107_45 : fetch 107 45 = some (.tableswitch 51 0 2 #[27, 35, 43], 27) := vtab tk107 24 rfl
theorem e107_45 (L : VL) (st : List Value) (h : VG) (x : Int32) : ev 107 45 L (.int x :: st) h = if x = (0 : Int32) then ev 107 72 L st h else (if x = (1 : Int32) then ev 107 80 L st h else (if x = (2 : Int32) then ev 107 88 L st h else (ev 107 96 L st h))) := (G_tsw f107_45 (by decide) (by decide) (by decide)).trans rfl
theorem f107_72 : fetch 107 72 = some (.aload 4, 2) := vtab tk107 25 rfl
theorem e107_72 (l0 l1 l2 l3 : Option Value) (L : VL) (st : List Value) (h : VG) (x : Nat) : ev 107 72 (l0 :: l1 :: l2 :: l3 :: some (.ref x) :: L) (st) h = ev 107 74 (l0 :: l1 :: l2 :: l3 :: some (.ref x) :: L) (.ref x :: st) h := G_aload f107_72 rfl
theorem f107_74 : fetch 107 74 = some (.getfield 161, 3) := vtab tk107 26 rfl
theorem e107_74 (L : VL) (st : List Value) (h : VG) (a : Nat) (ho : ob h a 0) (hr : isR h a 0) : ev 107 74 L (.ref a :: st) h = ev 107 77 L (.ref (gR h a 0) :: st) h := G_getR (p := 279) f107_74 lkF_11_161 (by decide) (by decide) ho hr
theorem f107_77 : fetch 107 77 = some (.iload_n 2, 1) := vtab tk107 27 rfl
theorem e107_77 (l0 l1 : Option Value) (L : VL) (st : List Value) (h : VG) (x : Int32) : ev 107 77 (l0 :: l1 :: some (.int x) :: L) (st) h = ev 107 78 (l0 :: l1 :: some (.int x) :: L) (.int x :: st) h := G_iload_n f107_77 rfl
theorem f107_78 : fetch 107 78 = some (.iaload, 1) := vtab tk107 28 rfl
theorem e107_78 (L : VL) (st : List Value) (h : VG) (a : Nat) (i : Int32) (ha : rdI h a) (hi : vp_in i (aln h a)) : ev 107 78 L (.int i :: .ref a :: st) h = ev 107 79 L (.int (aI h a i.toNatClampNeg) :: st) h := G_iald' f107_78 ha hi
theorem f107_79 : fetch 107 79 = some (.ireturn, 1) := vtab tk107 29 rfl
theorem e107_79 (L : VL) (h : VG) (x : Int32) : ev 107 79 L [.int x] h = some (some (.int x), h) := G_iret f107_79 (ty := .int) (by decide) rfl
theorem f107_80 : fetch 107 80 = some (.aload 4, 2) := vtab tk107 30 rfl
theorem e107_80 (l0 l1 l2 l3 : Option Value) (L : VL) (st : List Value) (h : VG) (x : Nat) : ev 107 80 (l0 :: l1 :: l2 :: l3 :: some (.ref x) :: L) (st) h = ev 107 82 (l0 :: l1 :: l2 :: l3 :: some (.ref x) :: L) (.ref x :: st) h := G_aload f107_80 rfl
theorem f107_82 : fetch 107 82 = some (.getfield 166, 3) := vtab tk107 31 rfl
theorem e107_82 (L : VL) (st : List Value) (h : VG) (a : Nat) (ho : ob h a 0) (hr : isR h a 1) : ev 107 82 L (.ref a :: st) h = ev 107 85 L (.ref (gR h a 1) :: st) h := G_getR (p := 281) f107_82 lkF_11_166 (by decide) (by decide) ho hr
theorem f107_85 : fetch 107 85 = some (.iload_n 2, 1) := vtab tk107 32 rfl
theorem e107_85 (l0 l1 : Option Value) (L : VL) (st : List Value) (h : VG) (x : Int32) : ev 107 85 (l0 :: l1 :: some (.int x) :: L) (st) h = ev 107 86 (l0 :: l1 :: some (.int x) :: L) (.int x :: st) h := G_iload_n f107_85 rfl
theorem f107_86 : fetch 107 86 = some (.iaload, 1) := vtab tk107 33 rfl
theorem e107_86 (L : VL) (st : List Value) (h : VG) (a : Nat) (i : Int32) (ha : rdI h a) (hi : vp_in i (aln h a)) : ev 107 86 L (.int i :: .ref a :: st) h = ev 107 87 L (.int (aI h a i.toNatClampNeg) :: st) h := G_iald' f107_86 ha hi
theorem f107_87 : fetch 107 87 = some (.ireturn, 1) := vtab tk107 34 rfl
theorem e107_87 (L : VL) (h : VG) (x : Int32) : ev 107 87 L [.int x] h = some (some (.int x), h) := G_iret f107_87 (ty := .int) (by decide) rfl
theorem f107_88 : fetch 107 88 = some (.aload 4, 2) := vtab tk107 35 rfl
theorem e107_88 (l0 l1 l2 l3 : Option Value) (L : VL) (st : List Value) (h : VG) (x : Nat) : ev 107 88 (l0 :: l1 :: l2 :: l3 :: some (.ref x) :: L) (st) h = ev 107 90 (l0 :: l1 :: l2 :: l3 :: some (.ref x) :: L) (.ref x :: st) h := G_aload f107_88 rfl
theorem f107_90 : fetch 107 90 = some (.getfield 167, 3) := vtab tk107 36 rfl
theorem e107_90 (L : VL) (st : List Value) (h : VG) (a : Nat) (ho : ob h a 0) (hr : isR h a 2) : ev 107 90 L (.ref a :: st) h = ev 107 93 L (.ref (gR h a 2) :: st) h := G_getR (p := 283) f107_90 lkF_11_167 (by decide) (by decide) ho hr
theorem f107_93 : fetch 107 93 = some (.iload_n 2, 1) := vtab tk107 37 rfl
theorem e107_93 (l0 l1 : Option Value) (L : VL) (st : List Value) (h : VG) (x : Int32) : ev 107 93 (l0 :: l1 :: some (.int x) :: L) (st) h = ev 107 94 (l0 :: l1 :: some (.int x) :: L) (.int x :: st) h := G_iload_n f107_93 rfl
theorem f107_94 : fetch 107 94 = some (.iaload, 1) := vtab tk107 38 rfl
theorem e107_94 (L : VL) (st : List Value) (h : VG) (a : Nat) (i : Int32) (ha : rdI h a) (hi : vp_in i (aln h a)) : ev 107 94 L (.int i :: .ref a :: st) h = ev 107 95 L (.int (aI h a i.toNatClampNeg) :: st) h := G_iald' f107_94 ha hi
theorem f107_95 : fetch 107 95 = some (.ireturn, 1) := vtab tk107 39 rfl
theorem e107_95 (L : VL) (h : VG) (x : Int32) : ev 107 95 L [.int x] h = some (some (.int x), h) := G_iret f107_95 (ty := .int) (by decide) rfl
theorem f107_96 : fetch 107 96 = some (.iconst (-1), 1) := vtab tk107 40 rfl
theorem e107_96 (L : VL) (st : List Value) (h : VG) : ev 107 96 L (st) h = ev 107 97 L (.int (-1 : Int32) :: st) h := G_iconst f107_96 (by decide)
theorem f107_97 : fetch 107 97 = some (.ireturn, 1) := vtab tk107 41 rfl
theorem e107_97 (L : VL) (h : VG) (x : Int32) : ev 107 97 L [.int x] h = some (some (.int x), h) := G_iret f107_97 (ty := .int) (by decide) rfl
/-! 108 GuestCalls.byteAt(I)I -/
def tb108 : List (Nat × Instr × Nat) := [(0, .iload_n 1, 1), (1, .ifCond .lt 29, 3), (4, .iload_n 1, 1), (5, .sipush 256, 3), (8, .if_icmp .ge 22, 3), (11, .aload_n 0, 1), (12, .getfield 37, 3), (15, .getfield 170, 3), (18, .getfield 171, 3), (21, .iload_n 1, 1), (22, .baload, 1), (23, .sipush 255, 3), (26, .iand, 1), (27, .goto 4, 3), (30, .iconst (-1), 1), (31, .ireturn, 1)]
theorem tk108 : tb108.all (fun q => decide (fetch 108 q.1 = some q.2)) = true := by decide +kernel
theorem f108_0 : fetch 108 0 = some (.iload_n 1, 1) := vtab tk108 0 rfl
theorem e108_0 (l0 : Option Value) (L : VL) (st : List Value) (h : VG) (x : Int32) : ev 108 0 (l0 :: some (.int x) :: L) (st) h = ev 108 1 (l0 :: some (.int x) :: L) (.int x :: st) h := G_iload_n f108_0 rfl
theorem f108_1 : fetch 108 1 = some (.ifCond .lt 29, 3) := vtab tk108 1 rfl
theorem e108_1 (L : VL) (st : List Value) (h : VG) (x : Int32) : ev 108 1 L (.int x :: st) h = if x < 0 then ev 108 30 L st h else ev 108 4 L st h := G_if_lt f108_1 (by decide)
theorem f108_4 : fetch 108 4 = some (.iload_n 1, 1) := vtab tk108 2 rfl
theorem e108_4 (l0 : Option Value) (L : VL) (st : List Value) (h : VG) (x : Int32) : ev 108 4 (l0 :: some (.int x) :: L) (st) h = ev 108 5 (l0 :: some (.int x) :: L) (.int x :: st) h := G_iload_n f108_4 rfl
theorem f108_5 : fetch 108 5 = some (.sipush 256, 3) := vtab tk108 3 rfl
theorem e108_5 (L : VL) (st : List Value) (h : VG) : ev 108 5 L (st) h = ev 108 8 L (.int (256 : Int32) :: st) h := G_sipush f108_5 (by decide)
theorem f108_8 : fetch 108 8 = some (.if_icmp .ge 22, 3) := vtab tk108 4 rfl
theorem e108_8 (L : VL) (st : List Value) (h : VG) (x y : Int32) : ev 108 8 L (.int y :: .int x :: st) h = if x < y then ev 108 11 L st h else ev 108 30 L st h := G_icmp_ge f108_8 (by decide)
theorem f108_11 : fetch 108 11 = some (.aload_n 0, 1) := vtab tk108 5 rfl
theorem e108_11 (L : VL) (st : List Value) (h : VG) (x : Nat) : ev 108 11 (some (.ref x) :: L) (st) h = ev 108 12 (some (.ref x) :: L) (.ref x :: st) h := G_aload_n f108_11 rfl
theorem f108_12 : fetch 108 12 = some (.getfield 37, 3) := vtab tk108 6 rfl
theorem e108_12 (L : VL) (st : List Value) (h : VG) (a : Nat) (ho : ob h a 10) (hr : isR h a 6) : ev 108 12 L (.ref a :: st) h = ev 108 15 L (.ref (gR h a 6) :: st) h := G_getR (p := 435) f108_12 lkF_11_37 (by decide) (by decide) ho hr
theorem f108_15 : fetch 108 15 = some (.getfield 170, 3) := vtab tk108 7 rfl
theorem e108_15 (L : VL) (st : List Value) (h : VG) (a : Nat) (ho : ob h a 8) (hr : isR h a 0) : ev 108 15 L (.ref a :: st) h = ev 108 18 L (.ref (gR h a 0) :: st) h := G_getR (p := 383) f108_15 lkF_11_170 (by decide) (by decide) ho hr
theorem f108_18 : fetch 108 18 = some (.getfield 171, 3) := vtab tk108 8 rfl
theorem e108_18 (L : VL) (st : List Value) (h : VG) (a : Nat) (ho : ob h a 5) (hr : isR h a 0) : ev 108 18 L (.ref a :: st) h = ev 108 21 L (.ref (gR h a 0) :: st) h := G_getR (p := 226) f108_18 lkF_11_171 (by decide) (by decide) ho hr
theorem f108_21 : fetch 108 21 = some (.iload_n 1, 1) := vtab tk108 9 rfl
theorem e108_21 (l0 : Option Value) (L : VL) (st : List Value) (h : VG) (x : Int32) : ev 108 21 (l0 :: some (.int x) :: L) (st) h = ev 108 22 (l0 :: some (.int x) :: L) (.int x :: st) h := G_iload_n f108_21 rfl
theorem f108_22 : fetch 108 22 = some (.baload, 1) := vtab tk108 10 rfl
theorem e108_22 (L : VL) (st : List Value) (h : VG) (a : Nat) (i : Int32) (ha : rdB h a) (hi : vp_in i (aln h a)) : ev 108 22 L (.int i :: .ref a :: st) h = ev 108 23 L (.int (aI h a i.toNatClampNeg) :: st) h := G_bald' f108_22 ha hi
theorem f108_23 : fetch 108 23 = some (.sipush 255, 3) := vtab tk108 11 rfl
theorem e108_23 (L : VL) (st : List Value) (h : VG) : ev 108 23 L (st) h = ev 108 26 L (.int (255 : Int32) :: st) h := G_sipush f108_23 (by decide)
theorem f108_26 : fetch 108 26 = some (.iand, 1) := vtab tk108 12 rfl
theorem e108_26 (L : VL) (st : List Value) (h : VG) (x y : Int32) : ev 108 26 L (.int y :: .int x :: st) h = ev 108 27 L (.int (x &&& y) :: st) h := G_iand f108_26
theorem f108_27 : fetch 108 27 = some (.goto 4, 3) := vtab tk108 13 rfl
theorem e108_27 (L : VL) (st : List Value) (h : VG) : ev 108 27 L (st) h = ev 108 31 L (st) h := G_goto f108_27 (by decide)
theorem f108_30 : fetch 108 30 = some (.iconst (-1), 1) := vtab tk108 14 rfl
theorem e108_30 (L : VL) (st : List Value) (h : VG) : ev 108 30 L (st) h = ev 108 31 L (.int (-1 : Int32) :: st) h := G_iconst f108_30 (by decide)
theorem f108_31 : fetch 108 31 = some (.ireturn, 1) := vtab tk108 15 rfl
theorem e108_31 (L : VL) (h : VG) (x : Int32) : ev 108 31 L [.int x] h = some (some (.int x), h) := G_iret f108_31 (ty := .int) (by decide) rfl
/-! 109 GuestCalls.poke(II)Z -/
def tb109 : List (Nat × Instr × Nat) := [(0, .aload_n 0, 1), (1, .iconst 0, 1), (2, .putfield 86, 3), (5, .aload_n 0, 1), (6, .aload_n 0, 1), (7, .getfield 37, 3), (10, .getfield 170, 3), (13, .iload_n 1, 1), (14, .i2l, 1), (15, .iconst 1, 1), (16, .invokevirtual 176, 3), (19, .invokevirtual 180, 3), (22, .ifCond .eq 5, 3), (25, .iconst 0, 1), (26, .ireturn, 1), (27, .aload_n 0, 1), (28, .getfield 37, 3), (31, .getfield 170, 3), (34, .getfield 171, 3), (37, .iload_n 1, 1), (38, .iload_n 2, 1), (39, .i2b, 1), (40, .bastore, 1), (41, .iconst 1, 1), (42, .ireturn, 1)]
theorem tk109 : tb109.all (fun q => decide (fetch 109 q.1 = some q.2)) = true := by decide +kernel
theorem f109_0 : fetch 109 0 = some (.aload_n 0, 1) := vtab tk109 0 rfl
theorem e109_0 (L : VL) (st : List Value) (h : VG) (x : Nat) : ev 109 0 (some (.ref x) :: L) (st) h = ev 109 1 (some (.ref x) :: L) (.ref x :: st) h := G_aload_n f109_0 rfl
theorem f109_1 : fetch 109 1 = some (.iconst 0, 1) := vtab tk109 1 rfl
theorem e109_1 (L : VL) (st : List Value) (h : VG) : ev 109 1 L (st) h = ev 109 2 L (.int (0 : Int32) :: st) h := G_iconst f109_1 (by decide)
theorem f109_2 : fetch 109 2 = some (.putfield 86, 3) := vtab tk109 2 rfl
theorem e109_2 (L : VL) (st : List Value) (h : VG) (a : Nat) (x : Int32) (ho : ob h a 10) : ev 109 2 L (.int x :: .ref a :: st) h = ev 109 5 L (st) (pI h a 9 x) := G_putI (p := 438) f109_2 lkF_11_86 (by decide) (by decide) (by decide +kernel) ⟨rfl, rfl⟩ ho
theorem f109_5 : fetch 109 5 = some (.aload_n 0, 1) := vtab tk109 3 rfl
theorem e109_5 (L : VL) (st : List Value) (h : VG) (x : Nat) : ev 109 5 (some (.ref x) :: L) (st) h = ev 109 6 (some (.ref x) :: L) (.ref x :: st) h := G_aload_n f109_5 rfl
theorem f109_6 : fetch 109 6 = some (.aload_n 0, 1) := vtab tk109 4 rfl
theorem e109_6 (L : VL) (st : List Value) (h : VG) (x : Nat) : ev 109 6 (some (.ref x) :: L) (st) h = ev 109 7 (some (.ref x) :: L) (.ref x :: st) h := G_aload_n f109_6 rfl
theorem f109_7 : fetch 109 7 = some (.getfield 37, 3) := vtab tk109 5 rfl
theorem e109_7 (L : VL) (st : List Value) (h : VG) (a : Nat) (ho : ob h a 10) (hr : isR h a 6) : ev 109 7 L (.ref a :: st) h = ev 109 10 L (.ref (gR h a 6) :: st) h := G_getR (p := 435) f109_7 lkF_11_37 (by decide) (by decide) ho hr
theorem f109_10 : fetch 109 10 = some (.getfield 170, 3) := vtab tk109 6 rfl
theorem e109_10 (L : VL) (st : List Value) (h : VG) (a : Nat) (ho : ob h a 8) (hr : isR h a 0) : ev 109 10 L (.ref a :: st) h = ev 109 13 L (.ref (gR h a 0) :: st) h := G_getR (p := 383) f109_10 lkF_11_170 (by decide) (by decide) ho hr
theorem f109_13 : fetch 109 13 = some (.iload_n 1, 1) := vtab tk109 7 rfl
theorem e109_13 (l0 : Option Value) (L : VL) (st : List Value) (h : VG) (x : Int32) : ev 109 13 (l0 :: some (.int x) :: L) (st) h = ev 109 14 (l0 :: some (.int x) :: L) (.int x :: st) h := G_iload_n f109_13 rfl
theorem f109_14 : fetch 109 14 = some (.i2l, 1) := vtab tk109 8 rfl
theorem e109_14 (L : VL) (st : List Value) (h : VG) (x : Int32) : ev 109 14 L (.int x :: st) h = ev 109 15 L (.long x.toInt64 :: st) h := G_i2l f109_14
theorem f109_15 : fetch 109 15 = some (.iconst 1, 1) := vtab tk109 9 rfl
theorem e109_15 (L : VL) (st : List Value) (h : VG) : ev 109 15 L (st) h = ev 109 16 L (.int (1 : Int32) :: st) h := G_iconst f109_15 (by decide)
theorem f109_16 : fetch 109 16 = some (.invokevirtual 176, 3) := vtab tk109 10 rfl
theorem e109_16 (L : VL) (st : List Value) (h : VG) (b : Nat) (x0 : Int64) (x1 : Int32) (ho : ob h b 5) (hs : catS st ≤ 8) : ev 109 16 L (.int x1 :: .long x0 :: .ref b :: st) h = (ev 54 0 [some (.ref b), some (.long x0), none, some (.int x1)] [] h).bind fun q => ev 109 19 L (q.1.toList ++ st) q.2 := G_callv (k := 1) (p := 688) (ars := [.long x0, .int x1]) f109_16 lkC_11_176 (by decide) (by decide +kernel) rfl (vcls_ob (ci := 5) (by decide) ho) (Nat.le_of_ble_eq_true rfl) hs rfl
theorem f109_19 : fetch 109 19 = some (.invokevirtual 180, 3) := vtab tk109 11 rfl
theorem e109_19 (L : VL) (st : List Value) (h : VG) (b : Nat) (x0 : Int32) (ho : ob h b 10) (hs : catS st ≤ 8) : ev 109 19 L (.int x0 :: .ref b :: st) h = (ev 100 0 [some (.ref b), some (.int x0)] [] h).bind fun q => ev 109 22 L (q.1.toList ++ st) q.2 := G_callv (k := 1) (p := 692) (ars := [.int x0]) f109_19 lkC_11_180 (by decide) (by decide +kernel) rfl (vcls_ob (ci := 10) (by decide) ho) (Nat.le_of_ble_eq_true rfl) hs rfl
theorem f109_22 : fetch 109 22 = some (.ifCond .eq 5, 3) := vtab tk109 12 rfl
theorem e109_22 (L : VL) (st : List Value) (h : VG) (x : Int32) : ev 109 22 L (.int x :: st) h = if x = 0 then ev 109 27 L st h else ev 109 25 L st h := G_if_eq f109_22 (by decide)
theorem f109_25 : fetch 109 25 = some (.iconst 0, 1) := vtab tk109 13 rfl
theorem e109_25 (L : VL) (st : List Value) (h : VG) : ev 109 25 L (st) h = ev 109 26 L (.int (0 : Int32) :: st) h := G_iconst f109_25 (by decide)
theorem f109_26 : fetch 109 26 = some (.ireturn, 1) := vtab tk109 14 rfl
theorem e109_26 (L : VL) (h : VG) (x : Int32) (hz : x = 0 ∨ x = 1) : ev 109 26 L [.int x] h = some (some (.int x), h) := G_iret f109_26 (ty := .boolean) (by decide) (vbool hz).1
theorem f109_27 : fetch 109 27 = some (.aload_n 0, 1) := vtab tk109 15 rfl
theorem e109_27 (L : VL) (st : List Value) (h : VG) (x : Nat) : ev 109 27 (some (.ref x) :: L) (st) h = ev 109 28 (some (.ref x) :: L) (.ref x :: st) h := G_aload_n f109_27 rfl
theorem f109_28 : fetch 109 28 = some (.getfield 37, 3) := vtab tk109 16 rfl
theorem e109_28 (L : VL) (st : List Value) (h : VG) (a : Nat) (ho : ob h a 10) (hr : isR h a 6) : ev 109 28 L (.ref a :: st) h = ev 109 31 L (.ref (gR h a 6) :: st) h := G_getR (p := 435) f109_28 lkF_11_37 (by decide) (by decide) ho hr
theorem f109_31 : fetch 109 31 = some (.getfield 170, 3) := vtab tk109 17 rfl
theorem e109_31 (L : VL) (st : List Value) (h : VG) (a : Nat) (ho : ob h a 8) (hr : isR h a 0) : ev 109 31 L (.ref a :: st) h = ev 109 34 L (.ref (gR h a 0) :: st) h := G_getR (p := 383) f109_31 lkF_11_170 (by decide) (by decide) ho hr
theorem f109_34 : fetch 109 34 = some (.getfield 171, 3) := vtab tk109 18 rfl
theorem e109_34 (L : VL) (st : List Value) (h : VG) (a : Nat) (ho : ob h a 5) (hr : isR h a 0) : ev 109 34 L (.ref a :: st) h = ev 109 37 L (.ref (gR h a 0) :: st) h := G_getR (p := 226) f109_34 lkF_11_171 (by decide) (by decide) ho hr
theorem f109_37 : fetch 109 37 = some (.iload_n 1, 1) := vtab tk109 19 rfl
theorem e109_37 (l0 : Option Value) (L : VL) (st : List Value) (h : VG) (x : Int32) : ev 109 37 (l0 :: some (.int x) :: L) (st) h = ev 109 38 (l0 :: some (.int x) :: L) (.int x :: st) h := G_iload_n f109_37 rfl
theorem f109_38 : fetch 109 38 = some (.iload_n 2, 1) := vtab tk109 20 rfl
theorem e109_38 (l0 l1 : Option Value) (L : VL) (st : List Value) (h : VG) (x : Int32) : ev 109 38 (l0 :: l1 :: some (.int x) :: L) (st) h = ev 109 39 (l0 :: l1 :: some (.int x) :: L) (.int x :: st) h := G_iload_n f109_38 rfl
theorem f109_39 : fetch 109 39 = some (.i2b, 1) := vtab tk109 21 rfl
theorem e109_39 (L : VL) (st : List Value) (h : VG) (x : Int32) : ev 109 39 L (.int x :: st) h = ev 109 40 L (.int x.toInt8.toInt32 :: st) h := G_i2b f109_39
theorem f109_40 : fetch 109 40 = some (.bastore, 1) := vtab tk109 22 rfl
theorem e109_40 (L : VL) (st : List Value) (h : VG) (a : Nat) (i : Int32) (x : Int32) (ha : arI h a 2) (hi : vp_in i (aln h a)) : ev 109 40 L (.int x :: .int i :: .ref a :: st) h = ev 109 41 L (st) (wI h a i.toNatClampNeg (vp_nar .byte x)) := G_bast f109_40 ha hi
theorem e109_40z (L : VL) (st : List Value) (h : VG) (a : Nat) (i : Int32) (x : Int32) (ha : arI h a 3) (hi : vp_in i (aln h a)) : ev 109 40 L (.int x :: .int i :: .ref a :: st) h = ev 109 41 L (st) (wI h a i.toNatClampNeg (vp_nar .boolean x)) := G_zast f109_40 ha hi
theorem f109_41 : fetch 109 41 = some (.iconst 1, 1) := vtab tk109 23 rfl
theorem e109_41 (L : VL) (st : List Value) (h : VG) : ev 109 41 L (st) h = ev 109 42 L (.int (1 : Int32) :: st) h := G_iconst f109_41 (by decide)
theorem f109_42 : fetch 109 42 = some (.ireturn, 1) := vtab tk109 24 rfl
theorem e109_42 (L : VL) (h : VG) (x : Int32) (hz : x = 0 ∨ x = 1) : ev 109 42 L [.int x] h = some (some (.int x), h) := G_iret f109_42 (ty := .boolean) (by decide) (vbool hz).1
/-! 110 GuestCalls.bin(III)Z -/
def tb110 : List (Nat × Instr × Nat) := [(0, .iload_n 1, 1), (1, .invokestatic 183, 3), (4, .ifCond .eq 13, 3), (7, .iload_n 2, 1), (8, .ifCond .lt 9, 3), (11, .iload_n 2, 1), (12, .bipush 11, 2), (14, .if_icmp .le 5, 3), (17, .iconst 0, 1), (18, .ireturn, 1), (19, .iload_n 2, 1), (20, .bipush 10, 2), (22, .if_icmp .ge 7, 3), (25, .iconst 1, 1), (26, .goto 4, 3), (29, .iconst 0, 1), (30, .istore 4, 2), (32, .iload 4, 2), (34, .ifCond .eq 15, 3), (37, .iload_n 3, 1), (38, .ifCond .lt 9, 3), (41, .iload_n 3, 1), (42, .bipush 40, 2), (44, .if_icmp .le 5, 3), (47, .iconst 0, 1), (48, .ireturn, 1), (49, .aload_n 0, 1), (50, .getfield 37, 3), (53, .getfield 186, 3), (56, .iload_n 1, 1), (57, .aaload, 1), (58, .iload_n 2, 1), (59, .iload 4, 2), (61, .ifCond .eq 7, 3), (64, .iload_n 3, 1), (65, .goto 4, 3), (68, .iconst 0, 1), (69, .invokevirtual 190, 3), (72, .iconst 1, 1), (73, .ireturn, 1)]
theorem tk110 : tb110.all (fun q => decide (fetch 110 q.1 = some q.2)) = true := by decide +kernel
theorem f110_0 : fetch 110 0 = some (.iload_n 1, 1) := vtab tk110 0 rfl
theorem e110_0 (l0 : Option Value) (L : VL) (st : List Value) (h : VG) (x : Int32) : ev 110 0 (l0 :: some (.int x) :: L) (st) h = ev 110 1 (l0 :: some (.int x) :: L) (.int x :: st) h := G_iload_n f110_0 rfl
theorem f110_1 : fetch 110 1 = some (.invokestatic 183, 3) := vtab tk110 1 rfl
theorem e110_1 (L : VL) (st : List Value) (h : VG) (x0 : Int32) (hs : catS st ≤ 8) : ev 110 1 L (.int x0 :: st) h = (ev 102 0 [some (.int x0)] [] h).bind fun q => ev 110 4 L (q.1.toList ++ st) q.2 := G_calls (k := 0) (p := 700) (ars := [.int x0]) f110_1 lkC_11_183 (by decide) (by decide +kernel) rfl (Nat.le_of_ble_eq_true rfl) hs rfl
theorem f110_4 : fetch 110 4 = some (.ifCond .eq 13, 3) := vtab tk110 2 rfl
theorem e110_4 (L : VL) (st : List Value) (h : VG) (x : Int32) : ev 110 4 L (.int x :: st) h = if x = 0 then ev 110 17 L st h else ev 110 7 L st h := G_if_eq f110_4 (by decide)
theorem f110_7 : fetch 110 7 = some (.iload_n 2, 1) := vtab tk110 3 rfl
theorem e110_7 (l0 l1 : Option Value) (L : VL) (st : List Value) (h : VG) (x : Int32) : ev 110 7 (l0 :: l1 :: some (.int x) :: L) (st) h = ev 110 8 (l0 :: l1 :: some (.int x) :: L) (.int x :: st) h := G_iload_n f110_7 rfl
theorem f110_8 : fetch 110 8 = some (.ifCond .lt 9, 3) := vtab tk110 4 rfl
theorem e110_8 (L : VL) (st : List Value) (h : VG) (x : Int32) : ev 110 8 L (.int x :: st) h = if x < 0 then ev 110 17 L st h else ev 110 11 L st h := G_if_lt f110_8 (by decide)
theorem f110_11 : fetch 110 11 = some (.iload_n 2, 1) := vtab tk110 5 rfl
theorem e110_11 (l0 l1 : Option Value) (L : VL) (st : List Value) (h : VG) (x : Int32) : ev 110 11 (l0 :: l1 :: some (.int x) :: L) (st) h = ev 110 12 (l0 :: l1 :: some (.int x) :: L) (.int x :: st) h := G_iload_n f110_11 rfl
theorem f110_12 : fetch 110 12 = some (.bipush 11, 2) := vtab tk110 6 rfl
theorem e110_12 (L : VL) (st : List Value) (h : VG) : ev 110 12 L (st) h = ev 110 14 L (.int (11 : Int32) :: st) h := G_bipush f110_12 (by decide)
theorem f110_14 : fetch 110 14 = some (.if_icmp .le 5, 3) := vtab tk110 7 rfl
theorem e110_14 (L : VL) (st : List Value) (h : VG) (x y : Int32) : ev 110 14 L (.int y :: .int x :: st) h = if x ≤ y then ev 110 19 L st h else ev 110 17 L st h := G_icmp_le f110_14 (by decide)
theorem f110_17 : fetch 110 17 = some (.iconst 0, 1) := vtab tk110 8 rfl
theorem e110_17 (L : VL) (st : List Value) (h : VG) : ev 110 17 L (st) h = ev 110 18 L (.int (0 : Int32) :: st) h := G_iconst f110_17 (by decide)
theorem f110_18 : fetch 110 18 = some (.ireturn, 1) := vtab tk110 9 rfl
theorem e110_18 (L : VL) (h : VG) (x : Int32) (hz : x = 0 ∨ x = 1) : ev 110 18 L [.int x] h = some (some (.int x), h) := G_iret f110_18 (ty := .boolean) (by decide) (vbool hz).1
theorem f110_19 : fetch 110 19 = some (.iload_n 2, 1) := vtab tk110 10 rfl
theorem e110_19 (l0 l1 : Option Value) (L : VL) (st : List Value) (h : VG) (x : Int32) : ev 110 19 (l0 :: l1 :: some (.int x) :: L) (st) h = ev 110 20 (l0 :: l1 :: some (.int x) :: L) (.int x :: st) h := G_iload_n f110_19 rfl
theorem f110_20 : fetch 110 20 = some (.bipush 10, 2) := vtab tk110 11 rfl
theorem e110_20 (L : VL) (st : List Value) (h : VG) : ev 110 20 L (st) h = ev 110 22 L (.int (10 : Int32) :: st) h := G_bipush f110_20 (by decide)
theorem f110_22 : fetch 110 22 = some (.if_icmp .ge 7, 3) := vtab tk110 12 rfl
theorem e110_22 (L : VL) (st : List Value) (h : VG) (x y : Int32) : ev 110 22 L (.int y :: .int x :: st) h = if x < y then ev 110 25 L st h else ev 110 29 L st h := G_icmp_ge f110_22 (by decide)
theorem f110_25 : fetch 110 25 = some (.iconst 1, 1) := vtab tk110 13 rfl
theorem e110_25 (L : VL) (st : List Value) (h : VG) : ev 110 25 L (st) h = ev 110 26 L (.int (1 : Int32) :: st) h := G_iconst f110_25 (by decide)
theorem f110_26 : fetch 110 26 = some (.goto 4, 3) := vtab tk110 14 rfl
theorem e110_26 (L : VL) (st : List Value) (h : VG) : ev 110 26 L (st) h = ev 110 30 L (st) h := G_goto f110_26 (by decide)
theorem f110_29 : fetch 110 29 = some (.iconst 0, 1) := vtab tk110 15 rfl
theorem e110_29 (L : VL) (st : List Value) (h : VG) : ev 110 29 L (st) h = ev 110 30 L (.int (0 : Int32) :: st) h := G_iconst f110_29 (by decide)
theorem f110_30 : fetch 110 30 = some (.istore 4, 2) := vtab tk110 16 rfl
theorem e110_30 (l0 l1 l2 l3 l4 : Option Value) (L : VL) (st : List Value) (h : VG) (x : Int32) : ev 110 30 (l0 :: l1 :: l2 :: l3 :: l4 :: L) (.int x :: st) h = ev 110 32 (l0 :: l1 :: l2 :: vkk l3 :: some (.int x) :: L) (st) h := G_istore f110_30 rfl (S1_4 l0 l1 l2 l3 l4 L _)
theorem f110_32 : fetch 110 32 = some (.iload 4, 2) := vtab tk110 17 rfl
theorem e110_32 (l0 l1 l2 l3 : Option Value) (L : VL) (st : List Value) (h : VG) (x : Int32) : ev 110 32 (l0 :: l1 :: l2 :: l3 :: some (.int x) :: L) (st) h = ev 110 34 (l0 :: l1 :: l2 :: l3 :: some (.int x) :: L) (.int x :: st) h := G_iload f110_32 rfl
theorem f110_34 : fetch 110 34 = some (.ifCond .eq 15, 3) := vtab tk110 18 rfl
theorem e110_34 (L : VL) (st : List Value) (h : VG) (x : Int32) : ev 110 34 L (.int x :: st) h = if x = 0 then ev 110 49 L st h else ev 110 37 L st h := G_if_eq f110_34 (by decide)
theorem f110_37 : fetch 110 37 = some (.iload_n 3, 1) := vtab tk110 19 rfl
theorem e110_37 (l0 l1 l2 : Option Value) (L : VL) (st : List Value) (h : VG) (x : Int32) : ev 110 37 (l0 :: l1 :: l2 :: some (.int x) :: L) (st) h = ev 110 38 (l0 :: l1 :: l2 :: some (.int x) :: L) (.int x :: st) h := G_iload_n f110_37 rfl
theorem f110_38 : fetch 110 38 = some (.ifCond .lt 9, 3) := vtab tk110 20 rfl
theorem e110_38 (L : VL) (st : List Value) (h : VG) (x : Int32) : ev 110 38 L (.int x :: st) h = if x < 0 then ev 110 47 L st h else ev 110 41 L st h := G_if_lt f110_38 (by decide)
theorem f110_41 : fetch 110 41 = some (.iload_n 3, 1) := vtab tk110 21 rfl
theorem e110_41 (l0 l1 l2 : Option Value) (L : VL) (st : List Value) (h : VG) (x : Int32) : ev 110 41 (l0 :: l1 :: l2 :: some (.int x) :: L) (st) h = ev 110 42 (l0 :: l1 :: l2 :: some (.int x) :: L) (.int x :: st) h := G_iload_n f110_41 rfl
theorem f110_42 : fetch 110 42 = some (.bipush 40, 2) := vtab tk110 22 rfl
theorem e110_42 (L : VL) (st : List Value) (h : VG) : ev 110 42 L (st) h = ev 110 44 L (.int (40 : Int32) :: st) h := G_bipush f110_42 (by decide)
theorem f110_44 : fetch 110 44 = some (.if_icmp .le 5, 3) := vtab tk110 23 rfl
theorem e110_44 (L : VL) (st : List Value) (h : VG) (x y : Int32) : ev 110 44 L (.int y :: .int x :: st) h = if x ≤ y then ev 110 49 L st h else ev 110 47 L st h := G_icmp_le f110_44 (by decide)
theorem f110_47 : fetch 110 47 = some (.iconst 0, 1) := vtab tk110 24 rfl
theorem e110_47 (L : VL) (st : List Value) (h : VG) : ev 110 47 L (st) h = ev 110 48 L (.int (0 : Int32) :: st) h := G_iconst f110_47 (by decide)
theorem f110_48 : fetch 110 48 = some (.ireturn, 1) := vtab tk110 25 rfl
theorem e110_48 (L : VL) (h : VG) (x : Int32) (hz : x = 0 ∨ x = 1) : ev 110 48 L [.int x] h = some (some (.int x), h) := G_iret f110_48 (ty := .boolean) (by decide) (vbool hz).1
theorem f110_49 : fetch 110 49 = some (.aload_n 0, 1) := vtab tk110 26 rfl
theorem e110_49 (L : VL) (st : List Value) (h : VG) (x : Nat) : ev 110 49 (some (.ref x) :: L) (st) h = ev 110 50 (some (.ref x) :: L) (.ref x :: st) h := G_aload_n f110_49 rfl
theorem f110_50 : fetch 110 50 = some (.getfield 37, 3) := vtab tk110 27 rfl
theorem e110_50 (L : VL) (st : List Value) (h : VG) (a : Nat) (ho : ob h a 10) (hr : isR h a 6) : ev 110 50 L (.ref a :: st) h = ev 110 53 L (.ref (gR h a 6) :: st) h := G_getR (p := 435) f110_50 lkF_11_37 (by decide) (by decide) ho hr
theorem f110_53 : fetch 110 53 = some (.getfield 186, 3) := vtab tk110 28 rfl
theorem e110_53 (L : VL) (st : List Value) (h : VG) (a : Nat) (ho : ob h a 8) (hr : isR h a 1) : ev 110 53 L (.ref a :: st) h = ev 110 56 L (.ref (gR h a 1) :: st) h := G_getR (p := 385) f110_53 lkF_11_186 (by decide) (by decide) ho hr
theorem f110_56 : fetch 110 56 = some (.iload_n 1, 1) := vtab tk110 29 rfl
theorem e110_56 (l0 : Option Value) (L : VL) (st : List Value) (h : VG) (x : Int32) : ev 110 56 (l0 :: some (.int x) :: L) (st) h = ev 110 57 (l0 :: some (.int x) :: L) (.int x :: st) h := G_iload_n f110_56 rfl
theorem f110_57 : fetch 110 57 = some (.aaload, 1) := vtab tk110 30 rfl
theorem e110_57 (L : VL) (st : List Value) (h : VG) (a : Nat) (i : Int32) (ha : rdR h a) (hi : vp_in i (aln h a)) : ev 110 57 L (.int i :: .ref a :: st) h = ev 110 58 L (va_rf (aR h a i.toNatClampNeg) :: st) h := G_aald' f110_57 ha hi
theorem f110_58 : fetch 110 58 = some (.iload_n 2, 1) := vtab tk110 31 rfl
theorem e110_58 (l0 l1 : Option Value) (L : VL) (st : List Value) (h : VG) (x : Int32) : ev 110 58 (l0 :: l1 :: some (.int x) :: L) (st) h = ev 110 59 (l0 :: l1 :: some (.int x) :: L) (.int x :: st) h := G_iload_n f110_58 rfl
theorem f110_59 : fetch 110 59 = some (.iload 4, 2) := vtab tk110 32 rfl
theorem e110_59 (l0 l1 l2 l3 : Option Value) (L : VL) (st : List Value) (h : VG) (x : Int32) : ev 110 59 (l0 :: l1 :: l2 :: l3 :: some (.int x) :: L) (st) h = ev 110 61 (l0 :: l1 :: l2 :: l3 :: some (.int x) :: L) (.int x :: st) h := G_iload f110_59 rfl
theorem f110_61 : fetch 110 61 = some (.ifCond .eq 7, 3) := vtab tk110 33 rfl
theorem e110_61 (L : VL) (st : List Value) (h : VG) (x : Int32) : ev 110 61 L (.int x :: st) h = if x = 0 then ev 110 68 L st h else ev 110 64 L st h := G_if_eq f110_61 (by decide)
theorem f110_64 : fetch 110 64 = some (.iload_n 3, 1) := vtab tk110 34 rfl
theorem e110_64 (l0 l1 l2 : Option Value) (L : VL) (st : List Value) (h : VG) (x : Int32) : ev 110 64 (l0 :: l1 :: l2 :: some (.int x) :: L) (st) h = ev 110 65 (l0 :: l1 :: l2 :: some (.int x) :: L) (.int x :: st) h := G_iload_n f110_64 rfl
theorem f110_65 : fetch 110 65 = some (.goto 4, 3) := vtab tk110 35 rfl
theorem e110_65 (L : VL) (st : List Value) (h : VG) : ev 110 65 L (st) h = ev 110 69 L (st) h := G_goto f110_65 (by decide)
theorem f110_68 : fetch 110 68 = some (.iconst 0, 1) := vtab tk110 36 rfl
theorem e110_68 (L : VL) (st : List Value) (h : VG) : ev 110 68 L (st) h = ev 110 69 L (.int (0 : Int32) :: st) h := G_iconst f110_68 (by decide)
theorem f110_69 : fetch 110 69 = some (.invokevirtual 190, 3) := vtab tk110 37 rfl
theorem e110_69 (L : VL) (st : List Value) (h : VG) (b : Nat) (x0 : Int32) (x1 : Int32) (ho : ob h b 1) (hs : catS st ≤ 8) : ev 110 69 L (.int x1 :: .int x0 :: .ref b :: st) h = (ev 3 0 [some (.ref b), some (.int x0), some (.int x1)] [] h).bind fun q => ev 110 72 L (q.1.toList ++ st) q.2 := G_callv (k := 1) (p := 703) (ars := [.int x0, .int x1]) f110_69 lkC_11_190 (by decide) (by decide +kernel) rfl (vcls_ob (ci := 1) (by decide) ho) (Nat.le_of_ble_eq_true rfl) hs rfl
theorem f110_72 : fetch 110 72 = some (.iconst 1, 1) := vtab tk110 38 rfl
theorem e110_72 (L : VL) (st : List Value) (h : VG) : ev 110 72 L (st) h = ev 110 73 L (.int (1 : Int32) :: st) h := G_iconst f110_72 (by decide)
theorem f110_73 : fetch 110 73 = some (.ireturn, 1) := vtab tk110 39 rfl
theorem e110_73 (L : VL) (h : VG) (x : Int32) (hz : x = 0 ∨ x = 1) : ev 110 73 L [.int x] h = some (some (.int x), h) := G_iret f110_73 (ty := .boolean) (by decide) (vbool hz).1
/-! 111 GuestCalls.length(I)I -/
def tb111 : List (Nat × Instr × Nat) := [(0, .aload_n 0, 1), (1, .iconst 0, 1), (2, .putfield 86, 3), (5, .iload_n 1, 1), (6, .invokestatic 183, 3), (9, .ifCond .eq 22, 3), (12, .aload_n 0, 1), (13, .aload_n 0, 1), (14, .getfield 37, 3), (17, .getfield 186, 3), (20, .iload_n 1, 1), (21, .aaload, 1), (22, .invokevirtual 195, 3), (25, .invokevirtual 180, 3), (28, .ifCond .eq 5, 3), (31, .iconst (-1), 1), (32, .ireturn, 1), (33, .aload_n 0, 1), (34, .getfield 37, 3), (37, .getfield 186, 3), (40, .iload_n 1, 1), (41, .aaload, 1), (42, .getfield 199, 3), (45, .ireturn, 1)]
theorem tk111 : tb111.all (fun q => decide (fetch 111 q.1 = some q.2)) = true := by decide +kernel
theorem f111_0 : fetch 111 0 = some (.aload_n 0, 1) := vtab tk111 0 rfl
theorem e111_0 (L : VL) (st : List Value) (h : VG) (x : Nat) : ev 111 0 (some (.ref x) :: L) (st) h = ev 111 1 (some (.ref x) :: L) (.ref x :: st) h := G_aload_n f111_0 rfl
theorem f111_1 : fetch 111 1 = some (.iconst 0, 1) := vtab tk111 1 rfl
theorem e111_1 (L : VL) (st : List Value) (h : VG) : ev 111 1 L (st) h = ev 111 2 L (.int (0 : Int32) :: st) h := G_iconst f111_1 (by decide)
theorem f111_2 : fetch 111 2 = some (.putfield 86, 3) := vtab tk111 2 rfl
theorem e111_2 (L : VL) (st : List Value) (h : VG) (a : Nat) (x : Int32) (ho : ob h a 10) : ev 111 2 L (.int x :: .ref a :: st) h = ev 111 5 L (st) (pI h a 9 x) := G_putI (p := 438) f111_2 lkF_11_86 (by decide) (by decide) (by decide +kernel) ⟨rfl, rfl⟩ ho
theorem f111_5 : fetch 111 5 = some (.iload_n 1, 1) := vtab tk111 3 rfl
theorem e111_5 (l0 : Option Value) (L : VL) (st : List Value) (h : VG) (x : Int32) : ev 111 5 (l0 :: some (.int x) :: L) (st) h = ev 111 6 (l0 :: some (.int x) :: L) (.int x :: st) h := G_iload_n f111_5 rfl
theorem f111_6 : fetch 111 6 = some (.invokestatic 183, 3) := vtab tk111 4 rfl
theorem e111_6 (L : VL) (st : List Value) (h : VG) (x0 : Int32) (hs : catS st ≤ 8) : ev 111 6 L (.int x0 :: st) h = (ev 102 0 [some (.int x0)] [] h).bind fun q => ev 111 9 L (q.1.toList ++ st) q.2 := G_calls (k := 0) (p := 700) (ars := [.int x0]) f111_6 lkC_11_183 (by decide) (by decide +kernel) rfl (Nat.le_of_ble_eq_true rfl) hs rfl
theorem f111_9 : fetch 111 9 = some (.ifCond .eq 22, 3) := vtab tk111 5 rfl
theorem e111_9 (L : VL) (st : List Value) (h : VG) (x : Int32) : ev 111 9 L (.int x :: st) h = if x = 0 then ev 111 31 L st h else ev 111 12 L st h := G_if_eq f111_9 (by decide)
theorem f111_12 : fetch 111 12 = some (.aload_n 0, 1) := vtab tk111 6 rfl
theorem e111_12 (L : VL) (st : List Value) (h : VG) (x : Nat) : ev 111 12 (some (.ref x) :: L) (st) h = ev 111 13 (some (.ref x) :: L) (.ref x :: st) h := G_aload_n f111_12 rfl
theorem f111_13 : fetch 111 13 = some (.aload_n 0, 1) := vtab tk111 7 rfl
theorem e111_13 (L : VL) (st : List Value) (h : VG) (x : Nat) : ev 111 13 (some (.ref x) :: L) (st) h = ev 111 14 (some (.ref x) :: L) (.ref x :: st) h := G_aload_n f111_13 rfl
theorem f111_14 : fetch 111 14 = some (.getfield 37, 3) := vtab tk111 8 rfl
theorem e111_14 (L : VL) (st : List Value) (h : VG) (a : Nat) (ho : ob h a 10) (hr : isR h a 6) : ev 111 14 L (.ref a :: st) h = ev 111 17 L (.ref (gR h a 6) :: st) h := G_getR (p := 435) f111_14 lkF_11_37 (by decide) (by decide) ho hr
theorem f111_17 : fetch 111 17 = some (.getfield 186, 3) := vtab tk111 9 rfl
theorem e111_17 (L : VL) (st : List Value) (h : VG) (a : Nat) (ho : ob h a 8) (hr : isR h a 1) : ev 111 17 L (.ref a :: st) h = ev 111 20 L (.ref (gR h a 1) :: st) h := G_getR (p := 385) f111_17 lkF_11_186 (by decide) (by decide) ho hr
theorem f111_20 : fetch 111 20 = some (.iload_n 1, 1) := vtab tk111 10 rfl
theorem e111_20 (l0 : Option Value) (L : VL) (st : List Value) (h : VG) (x : Int32) : ev 111 20 (l0 :: some (.int x) :: L) (st) h = ev 111 21 (l0 :: some (.int x) :: L) (.int x :: st) h := G_iload_n f111_20 rfl
theorem f111_21 : fetch 111 21 = some (.aaload, 1) := vtab tk111 11 rfl
theorem e111_21 (L : VL) (st : List Value) (h : VG) (a : Nat) (i : Int32) (ha : rdR h a) (hi : vp_in i (aln h a)) : ev 111 21 L (.int i :: .ref a :: st) h = ev 111 22 L (va_rf (aR h a i.toNatClampNeg) :: st) h := G_aald' f111_21 ha hi
theorem f111_22 : fetch 111 22 = some (.invokevirtual 195, 3) := vtab tk111 12 rfl
theorem e111_22 (L : VL) (st : List Value) (h : VG) (b : Nat)  (ho : ob h b 1) (hs : catS st ≤ 8) : ev 111 22 L (.ref b :: st) h = (ev 5 0 [some (.ref b)] [] h).bind fun q => ev 111 25 L (q.1.toList ++ st) q.2 := G_callv (k := 1) (p := 708) (ars := []) f111_22 lkC_11_195 (by decide) (by decide +kernel) rfl (vcls_ob (ci := 1) (by decide) ho) (Nat.le_of_ble_eq_true rfl) hs rfl
theorem f111_25 : fetch 111 25 = some (.invokevirtual 180, 3) := vtab tk111 13 rfl
theorem e111_25 (L : VL) (st : List Value) (h : VG) (b : Nat) (x0 : Int32) (ho : ob h b 10) (hs : catS st ≤ 8) : ev 111 25 L (.int x0 :: .ref b :: st) h = (ev 100 0 [some (.ref b), some (.int x0)] [] h).bind fun q => ev 111 28 L (q.1.toList ++ st) q.2 := G_callv (k := 1) (p := 692) (ars := [.int x0]) f111_25 lkC_11_180 (by decide) (by decide +kernel) rfl (vcls_ob (ci := 10) (by decide) ho) (Nat.le_of_ble_eq_true rfl) hs rfl
theorem f111_28 : fetch 111 28 = some (.ifCond .eq 5, 3) := vtab tk111 14 rfl
theorem e111_28 (L : VL) (st : List Value) (h : VG) (x : Int32) : ev 111 28 L (.int x :: st) h = if x = 0 then ev 111 33 L st h else ev 111 31 L st h := G_if_eq f111_28 (by decide)
theorem f111_31 : fetch 111 31 = some (.iconst (-1), 1) := vtab tk111 15 rfl
theorem e111_31 (L : VL) (st : List Value) (h : VG) : ev 111 31 L (st) h = ev 111 32 L (.int (-1 : Int32) :: st) h := G_iconst f111_31 (by decide)
theorem f111_32 : fetch 111 32 = some (.ireturn, 1) := vtab tk111 16 rfl
theorem e111_32 (L : VL) (h : VG) (x : Int32) : ev 111 32 L [.int x] h = some (some (.int x), h) := G_iret f111_32 (ty := .int) (by decide) rfl
theorem f111_33 : fetch 111 33 = some (.aload_n 0, 1) := vtab tk111 17 rfl
theorem e111_33 (L : VL) (st : List Value) (h : VG) (x : Nat) : ev 111 33 (some (.ref x) :: L) (st) h = ev 111 34 (some (.ref x) :: L) (.ref x :: st) h := G_aload_n f111_33 rfl
theorem f111_34 : fetch 111 34 = some (.getfield 37, 3) := vtab tk111 18 rfl
theorem e111_34 (L : VL) (st : List Value) (h : VG) (a : Nat) (ho : ob h a 10) (hr : isR h a 6) : ev 111 34 L (.ref a :: st) h = ev 111 37 L (.ref (gR h a 6) :: st) h := G_getR (p := 435) f111_34 lkF_11_37 (by decide) (by decide) ho hr
theorem f111_37 : fetch 111 37 = some (.getfield 186, 3) := vtab tk111 19 rfl
theorem e111_37 (L : VL) (st : List Value) (h : VG) (a : Nat) (ho : ob h a 8) (hr : isR h a 1) : ev 111 37 L (.ref a :: st) h = ev 111 40 L (.ref (gR h a 1) :: st) h := G_getR (p := 385) f111_37 lkF_11_186 (by decide) (by decide) ho hr
theorem f111_40 : fetch 111 40 = some (.iload_n 1, 1) := vtab tk111 20 rfl
theorem e111_40 (l0 : Option Value) (L : VL) (st : List Value) (h : VG) (x : Int32) : ev 111 40 (l0 :: some (.int x) :: L) (st) h = ev 111 41 (l0 :: some (.int x) :: L) (.int x :: st) h := G_iload_n f111_40 rfl
theorem f111_41 : fetch 111 41 = some (.aaload, 1) := vtab tk111 21 rfl
theorem e111_41 (L : VL) (st : List Value) (h : VG) (a : Nat) (i : Int32) (ha : rdR h a) (hi : vp_in i (aln h a)) : ev 111 41 L (.int i :: .ref a :: st) h = ev 111 42 L (va_rf (aR h a i.toNatClampNeg) :: st) h := G_aald' f111_41 ha hi
theorem f111_42 : fetch 111 42 = some (.getfield 199, 3) := vtab tk111 22 rfl
theorem e111_42 (L : VL) (st : List Value) (h : VG) (a : Nat) (ho : ob h a 1) : ev 111 42 L (.ref a :: st) h = ev 111 45 L (.int (gI h a 1) :: st) h := G_getI (p := 369) f111_42 lkF_11_199 (by decide) (by decide) ho
theorem f111_45 : fetch 111 45 = some (.ireturn, 1) := vtab tk111 23 rfl
theorem e111_45 (L : VL) (h : VG) (x : Int32) : ev 111 45 L [.int x] h = some (some (.int x), h) := G_iret f111_45 (ty := .int) (by decide) rfl
/-! 112 GuestCalls.cell(III)J -/
def tb112 : List (Nat × Instr × Nat) := [(0, .aload_n 0, 1), (1, .iconst 0, 1), (2, .putfield 86, 3), (5, .iload_n 1, 1), (6, .invokestatic 183, 3), (9, .ifCond .eq 31, 3), (12, .iload_n 3, 1), (13, .invokestatic 200, 3), (16, .ifCond .eq 24, 3), (19, .aload_n 0, 1), (20, .aload_n 0, 1), (21, .getfield 37, 3), (24, .getfield 186, 3), (27, .iload_n 1, 1), (28, .aaload, 1), (29, .iload_n 2, 1), (30, .iload_n 3, 1), (31, .invokevirtual 203, 3), (34, .invokevirtual 180, 3), (37, .ifCond .eq 5, 3), (40, .lconst 0, 1), (41, .lreturn, 1), (42, .aload_n 0, 1), (43, .getfield 37, 3), (46, .getfield 186, 3), (49, .iload_n 1, 1), (50, .aaload, 1), (51, .iload_n 2, 1), (52, .iload_n 3, 1), (53, .invokevirtual 207, 3), (56, .iload_n 3, 1), (57, .invokestatic 211, 3), (60, .lreturn, 1)]
theorem tk112 : tb112.all (fun q => decide (fetch 112 q.1 = some q.2)) = true := by decide +kernel
theorem f112_0 : fetch 112 0 = some (.aload_n 0, 1) := vtab tk112 0 rfl
theorem e112_0 (L : VL) (st : List Value) (h : VG) (x : Nat) : ev 112 0 (some (.ref x) :: L) (st) h = ev 112 1 (some (.ref x) :: L) (.ref x :: st) h := G_aload_n f112_0 rfl
theorem f112_1 : fetch 112 1 = some (.iconst 0, 1) := vtab tk112 1 rfl
theorem e112_1 (L : VL) (st : List Value) (h : VG) : ev 112 1 L (st) h = ev 112 2 L (.int (0 : Int32) :: st) h := G_iconst f112_1 (by decide)
theorem f112_2 : fetch 112 2 = some (.putfield 86, 3) := vtab tk112 2 rfl
theorem e112_2 (L : VL) (st : List Value) (h : VG) (a : Nat) (x : Int32) (ho : ob h a 10) : ev 112 2 L (.int x :: .ref a :: st) h = ev 112 5 L (st) (pI h a 9 x) := G_putI (p := 438) f112_2 lkF_11_86 (by decide) (by decide) (by decide +kernel) ⟨rfl, rfl⟩ ho
theorem f112_5 : fetch 112 5 = some (.iload_n 1, 1) := vtab tk112 3 rfl
theorem e112_5 (l0 : Option Value) (L : VL) (st : List Value) (h : VG) (x : Int32) : ev 112 5 (l0 :: some (.int x) :: L) (st) h = ev 112 6 (l0 :: some (.int x) :: L) (.int x :: st) h := G_iload_n f112_5 rfl
theorem f112_6 : fetch 112 6 = some (.invokestatic 183, 3) := vtab tk112 4 rfl
theorem e112_6 (L : VL) (st : List Value) (h : VG) (x0 : Int32) (hs : catS st ≤ 8) : ev 112 6 L (.int x0 :: st) h = (ev 102 0 [some (.int x0)] [] h).bind fun q => ev 112 9 L (q.1.toList ++ st) q.2 := G_calls (k := 0) (p := 700) (ars := [.int x0]) f112_6 lkC_11_183 (by decide) (by decide +kernel) rfl (Nat.le_of_ble_eq_true rfl) hs rfl
theorem f112_9 : fetch 112 9 = some (.ifCond .eq 31, 3) := vtab tk112 5 rfl
theorem e112_9 (L : VL) (st : List Value) (h : VG) (x : Int32) : ev 112 9 L (.int x :: st) h = if x = 0 then ev 112 40 L st h else ev 112 12 L st h := G_if_eq f112_9 (by decide)
theorem f112_12 : fetch 112 12 = some (.iload_n 3, 1) := vtab tk112 6 rfl
theorem e112_12 (l0 l1 l2 : Option Value) (L : VL) (st : List Value) (h : VG) (x : Int32) : ev 112 12 (l0 :: l1 :: l2 :: some (.int x) :: L) (st) h = ev 112 13 (l0 :: l1 :: l2 :: some (.int x) :: L) (.int x :: st) h := G_iload_n f112_12 rfl
theorem f112_13 : fetch 112 13 = some (.invokestatic 200, 3) := vtab tk112 7 rfl
theorem e112_13 (L : VL) (st : List Value) (h : VG) (x0 : Int32) (hs : catS st ≤ 8) : ev 112 13 L (.int x0 :: st) h = (ev 103 0 [some (.int x0)] [] h).bind fun q => ev 112 16 L (q.1.toList ++ st) q.2 := G_calls (k := 0) (p := 716) (ars := [.int x0]) f112_13 lkC_11_200 (by decide) (by decide +kernel) rfl (Nat.le_of_ble_eq_true rfl) hs rfl
theorem f112_16 : fetch 112 16 = some (.ifCond .eq 24, 3) := vtab tk112 8 rfl
theorem e112_16 (L : VL) (st : List Value) (h : VG) (x : Int32) : ev 112 16 L (.int x :: st) h = if x = 0 then ev 112 40 L st h else ev 112 19 L st h := G_if_eq f112_16 (by decide)
theorem f112_19 : fetch 112 19 = some (.aload_n 0, 1) := vtab tk112 9 rfl
theorem e112_19 (L : VL) (st : List Value) (h : VG) (x : Nat) : ev 112 19 (some (.ref x) :: L) (st) h = ev 112 20 (some (.ref x) :: L) (.ref x :: st) h := G_aload_n f112_19 rfl
theorem f112_20 : fetch 112 20 = some (.aload_n 0, 1) := vtab tk112 10 rfl
theorem e112_20 (L : VL) (st : List Value) (h : VG) (x : Nat) : ev 112 20 (some (.ref x) :: L) (st) h = ev 112 21 (some (.ref x) :: L) (.ref x :: st) h := G_aload_n f112_20 rfl
theorem f112_21 : fetch 112 21 = some (.getfield 37, 3) := vtab tk112 11 rfl
theorem e112_21 (L : VL) (st : List Value) (h : VG) (a : Nat) (ho : ob h a 10) (hr : isR h a 6) : ev 112 21 L (.ref a :: st) h = ev 112 24 L (.ref (gR h a 6) :: st) h := G_getR (p := 435) f112_21 lkF_11_37 (by decide) (by decide) ho hr
theorem f112_24 : fetch 112 24 = some (.getfield 186, 3) := vtab tk112 12 rfl
theorem e112_24 (L : VL) (st : List Value) (h : VG) (a : Nat) (ho : ob h a 8) (hr : isR h a 1) : ev 112 24 L (.ref a :: st) h = ev 112 27 L (.ref (gR h a 1) :: st) h := G_getR (p := 385) f112_24 lkF_11_186 (by decide) (by decide) ho hr
theorem f112_27 : fetch 112 27 = some (.iload_n 1, 1) := vtab tk112 13 rfl
theorem e112_27 (l0 : Option Value) (L : VL) (st : List Value) (h : VG) (x : Int32) : ev 112 27 (l0 :: some (.int x) :: L) (st) h = ev 112 28 (l0 :: some (.int x) :: L) (.int x :: st) h := G_iload_n f112_27 rfl
theorem f112_28 : fetch 112 28 = some (.aaload, 1) := vtab tk112 14 rfl
theorem e112_28 (L : VL) (st : List Value) (h : VG) (a : Nat) (i : Int32) (ha : rdR h a) (hi : vp_in i (aln h a)) : ev 112 28 L (.int i :: .ref a :: st) h = ev 112 29 L (va_rf (aR h a i.toNatClampNeg) :: st) h := G_aald' f112_28 ha hi
theorem f112_29 : fetch 112 29 = some (.iload_n 2, 1) := vtab tk112 15 rfl
theorem e112_29 (l0 l1 : Option Value) (L : VL) (st : List Value) (h : VG) (x : Int32) : ev 112 29 (l0 :: l1 :: some (.int x) :: L) (st) h = ev 112 30 (l0 :: l1 :: some (.int x) :: L) (.int x :: st) h := G_iload_n f112_29 rfl
theorem f112_30 : fetch 112 30 = some (.iload_n 3, 1) := vtab tk112 16 rfl
theorem e112_30 (l0 l1 l2 : Option Value) (L : VL) (st : List Value) (h : VG) (x : Int32) : ev 112 30 (l0 :: l1 :: l2 :: some (.int x) :: L) (st) h = ev 112 31 (l0 :: l1 :: l2 :: some (.int x) :: L) (.int x :: st) h := G_iload_n f112_30 rfl
theorem f112_31 : fetch 112 31 = some (.invokevirtual 203, 3) := vtab tk112 17 rfl
theorem e112_31 (L : VL) (st : List Value) (h : VG) (b : Nat) (x0 : Int32) (x1 : Int32) (ho : ob h b 1) (hs : catS st ≤ 8) : ev 112 31 L (.int x1 :: .int x0 :: .ref b :: st) h = (ev 9 0 [some (.ref b), some (.int x0), some (.int x1), none] [] h).bind fun q => ev 112 34 L (q.1.toList ++ st) q.2 := G_callv (k := 1) (p := 719) (ars := [.int x0, .int x1]) f112_31 lkC_11_203 (by decide) (by decide +kernel) rfl (vcls_ob (ci := 1) (by decide) ho) (Nat.le_of_ble_eq_true rfl) hs rfl
theorem f112_34 : fetch 112 34 = some (.invokevirtual 180, 3) := vtab tk112 18 rfl
theorem e112_34 (L : VL) (st : List Value) (h : VG) (b : Nat) (x0 : Int32) (ho : ob h b 10) (hs : catS st ≤ 8) : ev 112 34 L (.int x0 :: .ref b :: st) h = (ev 100 0 [some (.ref b), some (.int x0)] [] h).bind fun q => ev 112 37 L (q.1.toList ++ st) q.2 := G_callv (k := 1) (p := 692) (ars := [.int x0]) f112_34 lkC_11_180 (by decide) (by decide +kernel) rfl (vcls_ob (ci := 10) (by decide) ho) (Nat.le_of_ble_eq_true rfl) hs rfl
theorem f112_37 : fetch 112 37 = some (.ifCond .eq 5, 3) := vtab tk112 19 rfl
theorem e112_37 (L : VL) (st : List Value) (h : VG) (x : Int32) : ev 112 37 L (.int x :: st) h = if x = 0 then ev 112 42 L st h else ev 112 40 L st h := G_if_eq f112_37 (by decide)
theorem f112_40 : fetch 112 40 = some (.lconst 0, 1) := vtab tk112 20 rfl
theorem e112_40 (L : VL) (st : List Value) (h : VG) : ev 112 40 L (st) h = ev 112 41 L (.long 0 :: st) h := G_lconst f112_40 (by decide)
theorem f112_41 : fetch 112 41 = some (.lreturn, 1) := vtab tk112 21 rfl
theorem e112_41 (L : VL) (h : VG) (x : Int64) : ev 112 41 L [.long x] h = some (some (.long x), h) := G_lret f112_41 (by decide)
theorem f112_42 : fetch 112 42 = some (.aload_n 0, 1) := vtab tk112 22 rfl
theorem e112_42 (L : VL) (st : List Value) (h : VG) (x : Nat) : ev 112 42 (some (.ref x) :: L) (st) h = ev 112 43 (some (.ref x) :: L) (.ref x :: st) h := G_aload_n f112_42 rfl
theorem f112_43 : fetch 112 43 = some (.getfield 37, 3) := vtab tk112 23 rfl
theorem e112_43 (L : VL) (st : List Value) (h : VG) (a : Nat) (ho : ob h a 10) (hr : isR h a 6) : ev 112 43 L (.ref a :: st) h = ev 112 46 L (.ref (gR h a 6) :: st) h := G_getR (p := 435) f112_43 lkF_11_37 (by decide) (by decide) ho hr
theorem f112_46 : fetch 112 46 = some (.getfield 186, 3) := vtab tk112 24 rfl
theorem e112_46 (L : VL) (st : List Value) (h : VG) (a : Nat) (ho : ob h a 8) (hr : isR h a 1) : ev 112 46 L (.ref a :: st) h = ev 112 49 L (.ref (gR h a 1) :: st) h := G_getR (p := 385) f112_46 lkF_11_186 (by decide) (by decide) ho hr
theorem f112_49 : fetch 112 49 = some (.iload_n 1, 1) := vtab tk112 25 rfl
theorem e112_49 (l0 : Option Value) (L : VL) (st : List Value) (h : VG) (x : Int32) : ev 112 49 (l0 :: some (.int x) :: L) (st) h = ev 112 50 (l0 :: some (.int x) :: L) (.int x :: st) h := G_iload_n f112_49 rfl
theorem f112_50 : fetch 112 50 = some (.aaload, 1) := vtab tk112 26 rfl
theorem e112_50 (L : VL) (st : List Value) (h : VG) (a : Nat) (i : Int32) (ha : rdR h a) (hi : vp_in i (aln h a)) : ev 112 50 L (.int i :: .ref a :: st) h = ev 112 51 L (va_rf (aR h a i.toNatClampNeg) :: st) h := G_aald' f112_50 ha hi
theorem f112_51 : fetch 112 51 = some (.iload_n 2, 1) := vtab tk112 27 rfl
theorem e112_51 (l0 l1 : Option Value) (L : VL) (st : List Value) (h : VG) (x : Int32) : ev 112 51 (l0 :: l1 :: some (.int x) :: L) (st) h = ev 112 52 (l0 :: l1 :: some (.int x) :: L) (.int x :: st) h := G_iload_n f112_51 rfl
theorem f112_52 : fetch 112 52 = some (.iload_n 3, 1) := vtab tk112 28 rfl
theorem e112_52 (l0 l1 l2 : Option Value) (L : VL) (st : List Value) (h : VG) (x : Int32) : ev 112 52 (l0 :: l1 :: l2 :: some (.int x) :: L) (st) h = ev 112 53 (l0 :: l1 :: l2 :: some (.int x) :: L) (.int x :: st) h := G_iload_n f112_52 rfl
theorem f112_53 : fetch 112 53 = some (.invokevirtual 207, 3) := vtab tk112 29 rfl
theorem e112_53 (L : VL) (st : List Value) (h : VG) (b : Nat) (x0 : Int32) (x1 : Int32) (ho : ob h b 1) (hs : catS st ≤ 8) : ev 112 53 L (.int x1 :: .int x0 :: .ref b :: st) h = (ev 17 0 [some (.ref b), some (.int x0), some (.int x1)] [] h).bind fun q => ev 112 56 L (q.1.toList ++ st) q.2 := G_callv (k := 1) (p := 739) (ars := [.int x0, .int x1]) f112_53 lkC_11_207 (by decide) (by decide +kernel) rfl (vcls_ob (ci := 1) (by decide) ho) (Nat.le_of_ble_eq_true rfl) hs rfl
theorem f112_56 : fetch 112 56 = some (.iload_n 3, 1) := vtab tk112 30 rfl
theorem e112_56 (l0 l1 l2 : Option Value) (L : VL) (st : List Value) (h : VG) (x : Int32) : ev 112 56 (l0 :: l1 :: l2 :: some (.int x) :: L) (st) h = ev 112 57 (l0 :: l1 :: l2 :: some (.int x) :: L) (.int x :: st) h := G_iload_n f112_56 rfl
theorem f112_57 : fetch 112 57 = some (.invokestatic 211, 3) := vtab tk112 31 rfl
theorem e112_57 (L : VL) (st : List Value) (h : VG) (x0 : Int64) (x1 : Int32) (hs : catS st ≤ 8) : ev 112 57 L (.int x1 :: .long x0 :: st) h = (ev 38 0 [some (.long x0), none, some (.int x1)] [] h).bind fun q => ev 112 60 L (q.1.toList ++ st) q.2 := G_calls (k := 0) (p := 776) (ars := [.long x0, .int x1]) f112_57 lkC_11_211 (by decide) (by decide +kernel) rfl (Nat.le_of_ble_eq_true rfl) hs rfl
theorem f112_60 : fetch 112 60 = some (.lreturn, 1) := vtab tk112 32 rfl
theorem e112_60 (L : VL) (h : VG) (x : Int64) : ev 112 60 L [.long x] h = some (some (.long x), h) := G_lret f112_60 (by decide)
/-! 113 GuestCalls.write(IIIJ)Z -/
def tb113 : List (Nat × Instr × Nat) := [(0, .aload_n 0, 1), (1, .iconst 0, 1), (2, .putfield 86, 3), (5, .iload_n 1, 1), (6, .invokestatic 183, 3), (9, .ifCond .eq 31, 3), (12, .iload_n 3, 1), (13, .invokestatic 200, 3), (16, .ifCond .eq 24, 3), (19, .aload_n 0, 1), (20, .aload_n 0, 1), (21, .getfield 37, 3), (24, .getfield 186, 3), (27, .iload_n 1, 1), (28, .aaload, 1), (29, .iload_n 2, 1), (30, .iload_n 3, 1), (31, .invokevirtual 215, 3), (34, .invokevirtual 180, 3), (37, .ifCond .eq 5, 3), (40, .iconst 0, 1), (41, .ireturn, 1), (42, .aload_n 0, 1), (43, .getfield 37, 3), (46, .getfield 186, 3), (49, .iload_n 1, 1), (50, .aaload, 1), (51, .iload_n 2, 1), (52, .iload_n 3, 1), (53, .lload 4, 2), (55, .iload_n 3, 1), (56, .invokestatic 218, 3), (59, .invokevirtual 221, 3), (62, .iconst 1, 1), (63, .ireturn, 1)]
theorem tk113 : tb113.all (fun q => decide (fetch 113 q.1 = some q.2)) = true := by decide +kernel
theorem f113_0 : fetch 113 0 = some (.aload_n 0, 1) := vtab tk113 0 rfl
theorem e113_0 (L : VL) (st : List Value) (h : VG) (x : Nat) : ev 113 0 (some (.ref x) :: L) (st) h = ev 113 1 (some (.ref x) :: L) (.ref x :: st) h := G_aload_n f113_0 rfl
theorem f113_1 : fetch 113 1 = some (.iconst 0, 1) := vtab tk113 1 rfl
theorem e113_1 (L : VL) (st : List Value) (h : VG) : ev 113 1 L (st) h = ev 113 2 L (.int (0 : Int32) :: st) h := G_iconst f113_1 (by decide)
theorem f113_2 : fetch 113 2 = some (.putfield 86, 3) := vtab tk113 2 rfl
theorem e113_2 (L : VL) (st : List Value) (h : VG) (a : Nat) (x : Int32) (ho : ob h a 10) : ev 113 2 L (.int x :: .ref a :: st) h = ev 113 5 L (st) (pI h a 9 x) := G_putI (p := 438) f113_2 lkF_11_86 (by decide) (by decide) (by decide +kernel) ⟨rfl, rfl⟩ ho
theorem f113_5 : fetch 113 5 = some (.iload_n 1, 1) := vtab tk113 3 rfl
theorem e113_5 (l0 : Option Value) (L : VL) (st : List Value) (h : VG) (x : Int32) : ev 113 5 (l0 :: some (.int x) :: L) (st) h = ev 113 6 (l0 :: some (.int x) :: L) (.int x :: st) h := G_iload_n f113_5 rfl
theorem f113_6 : fetch 113 6 = some (.invokestatic 183, 3) := vtab tk113 4 rfl
theorem e113_6 (L : VL) (st : List Value) (h : VG) (x0 : Int32) (hs : catS st ≤ 8) : ev 113 6 L (.int x0 :: st) h = (ev 102 0 [some (.int x0)] [] h).bind fun q => ev 113 9 L (q.1.toList ++ st) q.2 := G_calls (k := 0) (p := 700) (ars := [.int x0]) f113_6 lkC_11_183 (by decide) (by decide +kernel) rfl (Nat.le_of_ble_eq_true rfl) hs rfl
theorem f113_9 : fetch 113 9 = some (.ifCond .eq 31, 3) := vtab tk113 5 rfl
theorem e113_9 (L : VL) (st : List Value) (h : VG) (x : Int32) : ev 113 9 L (.int x :: st) h = if x = 0 then ev 113 40 L st h else ev 113 12 L st h := G_if_eq f113_9 (by decide)
theorem f113_12 : fetch 113 12 = some (.iload_n 3, 1) := vtab tk113 6 rfl
theorem e113_12 (l0 l1 l2 : Option Value) (L : VL) (st : List Value) (h : VG) (x : Int32) : ev 113 12 (l0 :: l1 :: l2 :: some (.int x) :: L) (st) h = ev 113 13 (l0 :: l1 :: l2 :: some (.int x) :: L) (.int x :: st) h := G_iload_n f113_12 rfl
theorem f113_13 : fetch 113 13 = some (.invokestatic 200, 3) := vtab tk113 7 rfl
theorem e113_13 (L : VL) (st : List Value) (h : VG) (x0 : Int32) (hs : catS st ≤ 8) : ev 113 13 L (.int x0 :: st) h = (ev 103 0 [some (.int x0)] [] h).bind fun q => ev 113 16 L (q.1.toList ++ st) q.2 := G_calls (k := 0) (p := 716) (ars := [.int x0]) f113_13 lkC_11_200 (by decide) (by decide +kernel) rfl (Nat.le_of_ble_eq_true rfl) hs rfl
theorem f113_16 : fetch 113 16 = some (.ifCond .eq 24, 3) := vtab tk113 8 rfl
theorem e113_16 (L : VL) (st : List Value) (h : VG) (x : Int32) : ev 113 16 L (.int x :: st) h = if x = 0 then ev 113 40 L st h else ev 113 19 L st h := G_if_eq f113_16 (by decide)
theorem f113_19 : fetch 113 19 = some (.aload_n 0, 1) := vtab tk113 9 rfl
theorem e113_19 (L : VL) (st : List Value) (h : VG) (x : Nat) : ev 113 19 (some (.ref x) :: L) (st) h = ev 113 20 (some (.ref x) :: L) (.ref x :: st) h := G_aload_n f113_19 rfl
theorem f113_20 : fetch 113 20 = some (.aload_n 0, 1) := vtab tk113 10 rfl
theorem e113_20 (L : VL) (st : List Value) (h : VG) (x : Nat) : ev 113 20 (some (.ref x) :: L) (st) h = ev 113 21 (some (.ref x) :: L) (.ref x :: st) h := G_aload_n f113_20 rfl
theorem f113_21 : fetch 113 21 = some (.getfield 37, 3) := vtab tk113 11 rfl
theorem e113_21 (L : VL) (st : List Value) (h : VG) (a : Nat) (ho : ob h a 10) (hr : isR h a 6) : ev 113 21 L (.ref a :: st) h = ev 113 24 L (.ref (gR h a 6) :: st) h := G_getR (p := 435) f113_21 lkF_11_37 (by decide) (by decide) ho hr
theorem f113_24 : fetch 113 24 = some (.getfield 186, 3) := vtab tk113 12 rfl
theorem e113_24 (L : VL) (st : List Value) (h : VG) (a : Nat) (ho : ob h a 8) (hr : isR h a 1) : ev 113 24 L (.ref a :: st) h = ev 113 27 L (.ref (gR h a 1) :: st) h := G_getR (p := 385) f113_24 lkF_11_186 (by decide) (by decide) ho hr
theorem f113_27 : fetch 113 27 = some (.iload_n 1, 1) := vtab tk113 13 rfl
theorem e113_27 (l0 : Option Value) (L : VL) (st : List Value) (h : VG) (x : Int32) : ev 113 27 (l0 :: some (.int x) :: L) (st) h = ev 113 28 (l0 :: some (.int x) :: L) (.int x :: st) h := G_iload_n f113_27 rfl
theorem f113_28 : fetch 113 28 = some (.aaload, 1) := vtab tk113 14 rfl
theorem e113_28 (L : VL) (st : List Value) (h : VG) (a : Nat) (i : Int32) (ha : rdR h a) (hi : vp_in i (aln h a)) : ev 113 28 L (.int i :: .ref a :: st) h = ev 113 29 L (va_rf (aR h a i.toNatClampNeg) :: st) h := G_aald' f113_28 ha hi
theorem f113_29 : fetch 113 29 = some (.iload_n 2, 1) := vtab tk113 15 rfl
theorem e113_29 (l0 l1 : Option Value) (L : VL) (st : List Value) (h : VG) (x : Int32) : ev 113 29 (l0 :: l1 :: some (.int x) :: L) (st) h = ev 113 30 (l0 :: l1 :: some (.int x) :: L) (.int x :: st) h := G_iload_n f113_29 rfl
theorem f113_30 : fetch 113 30 = some (.iload_n 3, 1) := vtab tk113 16 rfl
theorem e113_30 (l0 l1 l2 : Option Value) (L : VL) (st : List Value) (h : VG) (x : Int32) : ev 113 30 (l0 :: l1 :: l2 :: some (.int x) :: L) (st) h = ev 113 31 (l0 :: l1 :: l2 :: some (.int x) :: L) (.int x :: st) h := G_iload_n f113_30 rfl
theorem f113_31 : fetch 113 31 = some (.invokevirtual 215, 3) := vtab tk113 17 rfl
theorem e113_31 (L : VL) (st : List Value) (h : VG) (b : Nat) (x0 : Int32) (x1 : Int32) (ho : ob h b 1) (hs : catS st ≤ 8) : ev 113 31 L (.int x1 :: .int x0 :: .ref b :: st) h = (ev 10 0 [some (.ref b), some (.int x0), some (.int x1), none] [] h).bind fun q => ev 113 34 L (q.1.toList ++ st) q.2 := G_callv (k := 1) (p := 788) (ars := [.int x0, .int x1]) f113_31 lkC_11_215 (by decide) (by decide +kernel) rfl (vcls_ob (ci := 1) (by decide) ho) (Nat.le_of_ble_eq_true rfl) hs rfl
theorem f113_34 : fetch 113 34 = some (.invokevirtual 180, 3) := vtab tk113 18 rfl
theorem e113_34 (L : VL) (st : List Value) (h : VG) (b : Nat) (x0 : Int32) (ho : ob h b 10) (hs : catS st ≤ 8) : ev 113 34 L (.int x0 :: .ref b :: st) h = (ev 100 0 [some (.ref b), some (.int x0)] [] h).bind fun q => ev 113 37 L (q.1.toList ++ st) q.2 := G_callv (k := 1) (p := 692) (ars := [.int x0]) f113_34 lkC_11_180 (by decide) (by decide +kernel) rfl (vcls_ob (ci := 10) (by decide) ho) (Nat.le_of_ble_eq_true rfl) hs rfl
theorem f113_37 : fetch 113 37 = some (.ifCond .eq 5, 3) := vtab tk113 19 rfl
theorem e113_37 (L : VL) (st : List Value) (h : VG) (x : Int32) : ev 113 37 L (.int x :: st) h = if x = 0 then ev 113 42 L st h else ev 113 40 L st h := G_if_eq f113_37 (by decide)
theorem f113_40 : fetch 113 40 = some (.iconst 0, 1) := vtab tk113 20 rfl
theorem e113_40 (L : VL) (st : List Value) (h : VG) : ev 113 40 L (st) h = ev 113 41 L (.int (0 : Int32) :: st) h := G_iconst f113_40 (by decide)
theorem f113_41 : fetch 113 41 = some (.ireturn, 1) := vtab tk113 21 rfl
theorem e113_41 (L : VL) (h : VG) (x : Int32) (hz : x = 0 ∨ x = 1) : ev 113 41 L [.int x] h = some (some (.int x), h) := G_iret f113_41 (ty := .boolean) (by decide) (vbool hz).1
theorem f113_42 : fetch 113 42 = some (.aload_n 0, 1) := vtab tk113 22 rfl
theorem e113_42 (L : VL) (st : List Value) (h : VG) (x : Nat) : ev 113 42 (some (.ref x) :: L) (st) h = ev 113 43 (some (.ref x) :: L) (.ref x :: st) h := G_aload_n f113_42 rfl
theorem f113_43 : fetch 113 43 = some (.getfield 37, 3) := vtab tk113 23 rfl
theorem e113_43 (L : VL) (st : List Value) (h : VG) (a : Nat) (ho : ob h a 10) (hr : isR h a 6) : ev 113 43 L (.ref a :: st) h = ev 113 46 L (.ref (gR h a 6) :: st) h := G_getR (p := 435) f113_43 lkF_11_37 (by decide) (by decide) ho hr
theorem f113_46 : fetch 113 46 = some (.getfield 186, 3) := vtab tk113 24 rfl
theorem e113_46 (L : VL) (st : List Value) (h : VG) (a : Nat) (ho : ob h a 8) (hr : isR h a 1) : ev 113 46 L (.ref a :: st) h = ev 113 49 L (.ref (gR h a 1) :: st) h := G_getR (p := 385) f113_46 lkF_11_186 (by decide) (by decide) ho hr
theorem f113_49 : fetch 113 49 = some (.iload_n 1, 1) := vtab tk113 25 rfl
theorem e113_49 (l0 : Option Value) (L : VL) (st : List Value) (h : VG) (x : Int32) : ev 113 49 (l0 :: some (.int x) :: L) (st) h = ev 113 50 (l0 :: some (.int x) :: L) (.int x :: st) h := G_iload_n f113_49 rfl
theorem f113_50 : fetch 113 50 = some (.aaload, 1) := vtab tk113 26 rfl
theorem e113_50 (L : VL) (st : List Value) (h : VG) (a : Nat) (i : Int32) (ha : rdR h a) (hi : vp_in i (aln h a)) : ev 113 50 L (.int i :: .ref a :: st) h = ev 113 51 L (va_rf (aR h a i.toNatClampNeg) :: st) h := G_aald' f113_50 ha hi
theorem f113_51 : fetch 113 51 = some (.iload_n 2, 1) := vtab tk113 27 rfl
theorem e113_51 (l0 l1 : Option Value) (L : VL) (st : List Value) (h : VG) (x : Int32) : ev 113 51 (l0 :: l1 :: some (.int x) :: L) (st) h = ev 113 52 (l0 :: l1 :: some (.int x) :: L) (.int x :: st) h := G_iload_n f113_51 rfl
theorem f113_52 : fetch 113 52 = some (.iload_n 3, 1) := vtab tk113 28 rfl
theorem e113_52 (l0 l1 l2 : Option Value) (L : VL) (st : List Value) (h : VG) (x : Int32) : ev 113 52 (l0 :: l1 :: l2 :: some (.int x) :: L) (st) h = ev 113 53 (l0 :: l1 :: l2 :: some (.int x) :: L) (.int x :: st) h := G_iload_n f113_52 rfl
theorem f113_53 : fetch 113 53 = some (.lload 4, 2) := vtab tk113 29 rfl
theorem e113_53 (l0 l1 l2 l3 : Option Value) (L : VL) (st : List Value) (h : VG) (x : Int64) : ev 113 53 (l0 :: l1 :: l2 :: l3 :: some (.long x) :: L) (st) h = ev 113 55 (l0 :: l1 :: l2 :: l3 :: some (.long x) :: L) (.long x :: st) h := G_lload f113_53 rfl
theorem f113_55 : fetch 113 55 = some (.iload_n 3, 1) := vtab tk113 30 rfl
theorem e113_55 (l0 l1 l2 : Option Value) (L : VL) (st : List Value) (h : VG) (x : Int32) : ev 113 55 (l0 :: l1 :: l2 :: some (.int x) :: L) (st) h = ev 113 56 (l0 :: l1 :: l2 :: some (.int x) :: L) (.int x :: st) h := G_iload_n f113_55 rfl
theorem f113_56 : fetch 113 56 = some (.invokestatic 218, 3) := vtab tk113 31 rfl
theorem e113_56 (L : VL) (st : List Value) (h : VG) (x0 : Int64) (x1 : Int32) (hs : catS st ≤ 8) : ev 113 56 L (.int x1 :: .long x0 :: st) h = (ev 37 0 [some (.long x0), none, some (.int x1)] [] h).bind fun q => ev 113 59 L (q.1.toList ++ st) q.2 := G_calls (k := 0) (p := 792) (ars := [.long x0, .int x1]) f113_56 lkC_11_218 (by decide) (by decide +kernel) rfl (Nat.le_of_ble_eq_true rfl) hs rfl
theorem f113_59 : fetch 113 59 = some (.invokevirtual 221, 3) := vtab tk113 32 rfl
theorem e113_59 (L : VL) (st : List Value) (h : VG) (b : Nat) (x0 : Int32) (x1 : Int32) (x2 : Int64) (ho : ob h b 1) (hs : catS st ≤ 8) : ev 113 59 L (.long x2 :: .int x1 :: .int x0 :: .ref b :: st) h = (ev 18 0 [some (.ref b), some (.int x0), some (.int x1), some (.long x2), none] [] h).bind fun q => ev 113 62 L (q.1.toList ++ st) q.2 := G_callv (k := 1) (p := 795) (ars := [.int x0, .int x1, .long x2]) f113_59 lkC_11_221 (by decide) (by decide +kernel) rfl (vcls_ob (ci := 1) (by decide) ho) (Nat.le_of_ble_eq_true rfl) hs rfl
theorem f113_62 : fetch 113 62 = some (.iconst 1, 1) := vtab tk113 33 rfl
theorem e113_62 (L : VL) (st : List Value) (h : VG) : ev 113 62 L (st) h = ev 113 63 L (.int (1 : Int32) :: st) h := G_iconst f113_62 (by decide)
theorem f113_63 : fetch 113 63 = some (.ireturn, 1) := vtab tk113 34 rfl
theorem e113_63 (L : VL) (h : VG) (x : Int32) (hz : x = 0 ∨ x = 1) : ev 113 63 L [.int x] h = some (some (.int x), h) := G_iret f113_63 (ty := .boolean) (by decide) (vbool hz).1
/-! 114 GuestCalls.box(III)J -/
def tb114 : List (Nat × Instr × Nat) := [(0, .aload_n 0, 1), (1, .iconst 0, 1), (2, .putfield 86, 3), (5, .iload_n 1, 1), (6, .invokestatic 183, 3), (9, .ifCond .eq 32, 3), (12, .iload_n 3, 1), (13, .ifCond .lt 28, 3), (16, .iload_n 3, 1), (17, .iconst 1, 1), (18, .if_icmp .gt 23, 3), (21, .aload_n 0, 1), (22, .aload_n 0, 1), (23, .getfield 37, 3), (26, .getfield 186, 3), (29, .iload_n 1, 1), (30, .aaload, 1), (31, .iload_n 2, 1), (32, .invokevirtual 225, 3), (35, .invokevirtual 180, 3), (38, .ifCond .eq 7, 3), (41, .ldc2_w 229, 3), (44, .lreturn, 1), (45, .iload_n 3, 1), (46, .ifCond .ne 21, 3), (49, .aload_n 0, 1), (50, .getfield 37, 3), (53, .getfield 186, 3), (56, .iload_n 1, 1), (57, .aaload, 1), (58, .getfield 231, 3), (61, .iload_n 2, 1), (62, .iaload, 1), (63, .i2l, 1), (64, .goto 16, 3), (67, .aload_n 0, 1), (68, .getfield 37, 3), (71, .getfield 186, 3), (74, .iload_n 1, 1), (75, .aaload, 1), (76, .iload_n 2, 1), (77, .invokevirtual 234, 3), (80, .lreturn, 1)]
theorem tk114 : tb114.all (fun q => decide (fetch 114 q.1 = some q.2)) = true := by decide +kernel
theorem f114_0 : fetch 114 0 = some (.aload_n 0, 1) := vtab tk114 0 rfl
theorem e114_0 (L : VL) (st : List Value) (h : VG) (x : Nat) : ev 114 0 (some (.ref x) :: L) (st) h = ev 114 1 (some (.ref x) :: L) (.ref x :: st) h := G_aload_n f114_0 rfl
theorem f114_1 : fetch 114 1 = some (.iconst 0, 1) := vtab tk114 1 rfl
theorem e114_1 (L : VL) (st : List Value) (h : VG) : ev 114 1 L (st) h = ev 114 2 L (.int (0 : Int32) :: st) h := G_iconst f114_1 (by decide)
theorem f114_2 : fetch 114 2 = some (.putfield 86, 3) := vtab tk114 2 rfl
theorem e114_2 (L : VL) (st : List Value) (h : VG) (a : Nat) (x : Int32) (ho : ob h a 10) : ev 114 2 L (.int x :: .ref a :: st) h = ev 114 5 L (st) (pI h a 9 x) := G_putI (p := 438) f114_2 lkF_11_86 (by decide) (by decide) (by decide +kernel) ⟨rfl, rfl⟩ ho
theorem f114_5 : fetch 114 5 = some (.iload_n 1, 1) := vtab tk114 3 rfl
theorem e114_5 (l0 : Option Value) (L : VL) (st : List Value) (h : VG) (x : Int32) : ev 114 5 (l0 :: some (.int x) :: L) (st) h = ev 114 6 (l0 :: some (.int x) :: L) (.int x :: st) h := G_iload_n f114_5 rfl
theorem f114_6 : fetch 114 6 = some (.invokestatic 183, 3) := vtab tk114 4 rfl
theorem e114_6 (L : VL) (st : List Value) (h : VG) (x0 : Int32) (hs : catS st ≤ 8) : ev 114 6 L (.int x0 :: st) h = (ev 102 0 [some (.int x0)] [] h).bind fun q => ev 114 9 L (q.1.toList ++ st) q.2 := G_calls (k := 0) (p := 700) (ars := [.int x0]) f114_6 lkC_11_183 (by decide) (by decide +kernel) rfl (Nat.le_of_ble_eq_true rfl) hs rfl
theorem f114_9 : fetch 114 9 = some (.ifCond .eq 32, 3) := vtab tk114 5 rfl
theorem e114_9 (L : VL) (st : List Value) (h : VG) (x : Int32) : ev 114 9 L (.int x :: st) h = if x = 0 then ev 114 41 L st h else ev 114 12 L st h := G_if_eq f114_9 (by decide)
theorem f114_12 : fetch 114 12 = some (.iload_n 3, 1) := vtab tk114 6 rfl
theorem e114_12 (l0 l1 l2 : Option Value) (L : VL) (st : List Value) (h : VG) (x : Int32) : ev 114 12 (l0 :: l1 :: l2 :: some (.int x) :: L) (st) h = ev 114 13 (l0 :: l1 :: l2 :: some (.int x) :: L) (.int x :: st) h := G_iload_n f114_12 rfl
theorem f114_13 : fetch 114 13 = some (.ifCond .lt 28, 3) := vtab tk114 7 rfl
theorem e114_13 (L : VL) (st : List Value) (h : VG) (x : Int32) : ev 114 13 L (.int x :: st) h = if x < 0 then ev 114 41 L st h else ev 114 16 L st h := G_if_lt f114_13 (by decide)
theorem f114_16 : fetch 114 16 = some (.iload_n 3, 1) := vtab tk114 8 rfl
theorem e114_16 (l0 l1 l2 : Option Value) (L : VL) (st : List Value) (h : VG) (x : Int32) : ev 114 16 (l0 :: l1 :: l2 :: some (.int x) :: L) (st) h = ev 114 17 (l0 :: l1 :: l2 :: some (.int x) :: L) (.int x :: st) h := G_iload_n f114_16 rfl
theorem f114_17 : fetch 114 17 = some (.iconst 1, 1) := vtab tk114 9 rfl
theorem e114_17 (L : VL) (st : List Value) (h : VG) : ev 114 17 L (st) h = ev 114 18 L (.int (1 : Int32) :: st) h := G_iconst f114_17 (by decide)
theorem f114_18 : fetch 114 18 = some (.if_icmp .gt 23, 3) := vtab tk114 10 rfl
theorem e114_18 (L : VL) (st : List Value) (h : VG) (x y : Int32) : ev 114 18 L (.int y :: .int x :: st) h = if x ≤ y then ev 114 21 L st h else ev 114 41 L st h := G_icmp_gt f114_18 (by decide)
theorem f114_21 : fetch 114 21 = some (.aload_n 0, 1) := vtab tk114 11 rfl
theorem e114_21 (L : VL) (st : List Value) (h : VG) (x : Nat) : ev 114 21 (some (.ref x) :: L) (st) h = ev 114 22 (some (.ref x) :: L) (.ref x :: st) h := G_aload_n f114_21 rfl
theorem f114_22 : fetch 114 22 = some (.aload_n 0, 1) := vtab tk114 12 rfl
theorem e114_22 (L : VL) (st : List Value) (h : VG) (x : Nat) : ev 114 22 (some (.ref x) :: L) (st) h = ev 114 23 (some (.ref x) :: L) (.ref x :: st) h := G_aload_n f114_22 rfl
theorem f114_23 : fetch 114 23 = some (.getfield 37, 3) := vtab tk114 13 rfl
theorem e114_23 (L : VL) (st : List Value) (h : VG) (a : Nat) (ho : ob h a 10) (hr : isR h a 6) : ev 114 23 L (.ref a :: st) h = ev 114 26 L (.ref (gR h a 6) :: st) h := G_getR (p := 435) f114_23 lkF_11_37 (by decide) (by decide) ho hr
theorem f114_26 : fetch 114 26 = some (.getfield 186, 3) := vtab tk114 14 rfl
theorem e114_26 (L : VL) (st : List Value) (h : VG) (a : Nat) (ho : ob h a 8) (hr : isR h a 1) : ev 114 26 L (.ref a :: st) h = ev 114 29 L (.ref (gR h a 1) :: st) h := G_getR (p := 385) f114_26 lkF_11_186 (by decide) (by decide) ho hr
theorem f114_29 : fetch 114 29 = some (.iload_n 1, 1) := vtab tk114 15 rfl
theorem e114_29 (l0 : Option Value) (L : VL) (st : List Value) (h : VG) (x : Int32) : ev 114 29 (l0 :: some (.int x) :: L) (st) h = ev 114 30 (l0 :: some (.int x) :: L) (.int x :: st) h := G_iload_n f114_29 rfl
theorem f114_30 : fetch 114 30 = some (.aaload, 1) := vtab tk114 16 rfl
theorem e114_30 (L : VL) (st : List Value) (h : VG) (a : Nat) (i : Int32) (ha : rdR h a) (hi : vp_in i (aln h a)) : ev 114 30 L (.int i :: .ref a :: st) h = ev 114 31 L (va_rf (aR h a i.toNatClampNeg) :: st) h := G_aald' f114_30 ha hi
theorem f114_31 : fetch 114 31 = some (.iload_n 2, 1) := vtab tk114 17 rfl
theorem e114_31 (l0 l1 : Option Value) (L : VL) (st : List Value) (h : VG) (x : Int32) : ev 114 31 (l0 :: l1 :: some (.int x) :: L) (st) h = ev 114 32 (l0 :: l1 :: some (.int x) :: L) (.int x :: st) h := G_iload_n f114_31 rfl
theorem f114_32 : fetch 114 32 = some (.invokevirtual 225, 3) := vtab tk114 18 rfl
theorem e114_32 (L : VL) (st : List Value) (h : VG) (b : Nat) (x0 : Int32) (ho : ob h b 1) (hs : catS st ≤ 8) : ev 114 32 L (.int x0 :: .ref b :: st) h = (ev 7 0 [some (.ref b), some (.int x0), none] [] h).bind fun q => ev 114 35 L (q.1.toList ++ st) q.2 := G_callv (k := 1) (p := 803) (ars := [.int x0]) f114_32 lkC_11_225 (by decide) (by decide +kernel) rfl (vcls_ob (ci := 1) (by decide) ho) (Nat.le_of_ble_eq_true rfl) hs rfl
theorem f114_35 : fetch 114 35 = some (.invokevirtual 180, 3) := vtab tk114 19 rfl
theorem e114_35 (L : VL) (st : List Value) (h : VG) (b : Nat) (x0 : Int32) (ho : ob h b 10) (hs : catS st ≤ 8) : ev 114 35 L (.int x0 :: .ref b :: st) h = (ev 100 0 [some (.ref b), some (.int x0)] [] h).bind fun q => ev 114 38 L (q.1.toList ++ st) q.2 := G_callv (k := 1) (p := 692) (ars := [.int x0]) f114_35 lkC_11_180 (by decide) (by decide +kernel) rfl (vcls_ob (ci := 10) (by decide) ho) (Nat.le_of_ble_eq_true rfl) hs rfl
theorem f114_38 : fetch 114 38 = some (.ifCond .eq 7, 3) := vtab tk114 20 rfl
theorem e114_38 (L : VL) (st : List Value) (h : VG) (x : Int32) : ev 114 38 L (.int x :: st) h = if x = 0 then ev 114 45 L st h else ev 114 41 L st h := G_if_eq f114_38 (by decide)
theorem f114_41 : fetch 114 41 = some (.ldc2_w 229, 3) := vtab tk114 21 rfl
theorem e114_41 (L : VL) (st : List Value) (h : VG) : ev 114 41 L (st) h = ev 114 44 L (.long (-100000) :: st) h := G_ldc2l (p := 804) f114_41 lkK_11_229
theorem f114_44 : fetch 114 44 = some (.lreturn, 1) := vtab tk114 22 rfl
theorem e114_44 (L : VL) (h : VG) (x : Int64) : ev 114 44 L [.long x] h = some (some (.long x), h) := G_lret f114_44 (by decide)
theorem f114_45 : fetch 114 45 = some (.iload_n 3, 1) := vtab tk114 23 rfl
theorem e114_45 (l0 l1 l2 : Option Value) (L : VL) (st : List Value) (h : VG) (x : Int32) : ev 114 45 (l0 :: l1 :: l2 :: some (.int x) :: L) (st) h = ev 114 46 (l0 :: l1 :: l2 :: some (.int x) :: L) (.int x :: st) h := G_iload_n f114_45 rfl
theorem f114_46 : fetch 114 46 = some (.ifCond .ne 21, 3) := vtab tk114 24 rfl
theorem e114_46 (L : VL) (st : List Value) (h : VG) (x : Int32) : ev 114 46 L (.int x :: st) h = if x = 0 then ev 114 49 L st h else ev 114 67 L st h := G_if_ne f114_46 (by decide)
theorem f114_49 : fetch 114 49 = some (.aload_n 0, 1) := vtab tk114 25 rfl
theorem e114_49 (L : VL) (st : List Value) (h : VG) (x : Nat) : ev 114 49 (some (.ref x) :: L) (st) h = ev 114 50 (some (.ref x) :: L) (.ref x :: st) h := G_aload_n f114_49 rfl
theorem f114_50 : fetch 114 50 = some (.getfield 37, 3) := vtab tk114 26 rfl
theorem e114_50 (L : VL) (st : List Value) (h : VG) (a : Nat) (ho : ob h a 10) (hr : isR h a 6) : ev 114 50 L (.ref a :: st) h = ev 114 53 L (.ref (gR h a 6) :: st) h := G_getR (p := 435) f114_50 lkF_11_37 (by decide) (by decide) ho hr
theorem f114_53 : fetch 114 53 = some (.getfield 186, 3) := vtab tk114 27 rfl
theorem e114_53 (L : VL) (st : List Value) (h : VG) (a : Nat) (ho : ob h a 8) (hr : isR h a 1) : ev 114 53 L (.ref a :: st) h = ev 114 56 L (.ref (gR h a 1) :: st) h := G_getR (p := 385) f114_53 lkF_11_186 (by decide) (by decide) ho hr
theorem f114_56 : fetch 114 56 = some (.iload_n 1, 1) := vtab tk114 28 rfl
theorem e114_56 (l0 : Option Value) (L : VL) (st : List Value) (h : VG) (x : Int32) : ev 114 56 (l0 :: some (.int x) :: L) (st) h = ev 114 57 (l0 :: some (.int x) :: L) (.int x :: st) h := G_iload_n f114_56 rfl
theorem f114_57 : fetch 114 57 = some (.aaload, 1) := vtab tk114 29 rfl
theorem e114_57 (L : VL) (st : List Value) (h : VG) (a : Nat) (i : Int32) (ha : rdR h a) (hi : vp_in i (aln h a)) : ev 114 57 L (.int i :: .ref a :: st) h = ev 114 58 L (va_rf (aR h a i.toNatClampNeg) :: st) h := G_aald' f114_57 ha hi
theorem f114_58 : fetch 114 58 = some (.getfield 231, 3) := vtab tk114 30 rfl
theorem e114_58 (L : VL) (st : List Value) (h : VG) (a : Nat) (ho : ob h a 1) (hr : isR h a 2) : ev 114 58 L (.ref a :: st) h = ev 114 61 L (.ref (gR h a 2) :: st) h := G_getR (p := 371) f114_58 lkF_11_231 (by decide) (by decide) ho hr
theorem f114_61 : fetch 114 61 = some (.iload_n 2, 1) := vtab tk114 31 rfl
theorem e114_61 (l0 l1 : Option Value) (L : VL) (st : List Value) (h : VG) (x : Int32) : ev 114 61 (l0 :: l1 :: some (.int x) :: L) (st) h = ev 114 62 (l0 :: l1 :: some (.int x) :: L) (.int x :: st) h := G_iload_n f114_61 rfl
theorem f114_62 : fetch 114 62 = some (.iaload, 1) := vtab tk114 32 rfl
theorem e114_62 (L : VL) (st : List Value) (h : VG) (a : Nat) (i : Int32) (ha : rdI h a) (hi : vp_in i (aln h a)) : ev 114 62 L (.int i :: .ref a :: st) h = ev 114 63 L (.int (aI h a i.toNatClampNeg) :: st) h := G_iald' f114_62 ha hi
theorem f114_63 : fetch 114 63 = some (.i2l, 1) := vtab tk114 33 rfl
theorem e114_63 (L : VL) (st : List Value) (h : VG) (x : Int32) : ev 114 63 L (.int x :: st) h = ev 114 64 L (.long x.toInt64 :: st) h := G_i2l f114_63
theorem f114_64 : fetch 114 64 = some (.goto 16, 3) := vtab tk114 34 rfl
theorem e114_64 (L : VL) (st : List Value) (h : VG) : ev 114 64 L (st) h = ev 114 80 L (st) h := G_goto f114_64 (by decide)
theorem f114_67 : fetch 114 67 = some (.aload_n 0, 1) := vtab tk114 35 rfl
theorem e114_67 (L : VL) (st : List Value) (h : VG) (x : Nat) : ev 114 67 (some (.ref x) :: L) (st) h = ev 114 68 (some (.ref x) :: L) (.ref x :: st) h := G_aload_n f114_67 rfl
theorem f114_68 : fetch 114 68 = some (.getfield 37, 3) := vtab tk114 36 rfl
theorem e114_68 (L : VL) (st : List Value) (h : VG) (a : Nat) (ho : ob h a 10) (hr : isR h a 6) : ev 114 68 L (.ref a :: st) h = ev 114 71 L (.ref (gR h a 6) :: st) h := G_getR (p := 435) f114_68 lkF_11_37 (by decide) (by decide) ho hr
theorem f114_71 : fetch 114 71 = some (.getfield 186, 3) := vtab tk114 37 rfl
theorem e114_71 (L : VL) (st : List Value) (h : VG) (a : Nat) (ho : ob h a 8) (hr : isR h a 1) : ev 114 71 L (.ref a :: st) h = ev 114 74 L (.ref (gR h a 1) :: st) h := G_getR (p := 385) f114_71 lkF_11_186 (by decide) (by decide) ho hr
theorem f114_74 : fetch 114 74 = some (.iload_n 1, 1) := vtab tk114 38 rfl
theorem e114_74 (l0 : Option Value) (L : VL) (st : List Value) (h : VG) (x : Int32) : ev 114 74 (l0 :: some (.int x) :: L) (st) h = ev 114 75 (l0 :: some (.int x) :: L) (.int x :: st) h := G_iload_n f114_74 rfl
theorem f114_75 : fetch 114 75 = some (.aaload, 1) := vtab tk114 39 rfl
theorem e114_75 (L : VL) (st : List Value) (h : VG) (a : Nat) (i : Int32) (ha : rdR h a) (hi : vp_in i (aln h a)) : ev 114 75 L (.int i :: .ref a :: st) h = ev 114 76 L (va_rf (aR h a i.toNatClampNeg) :: st) h := G_aald' f114_75 ha hi
theorem f114_76 : fetch 114 76 = some (.iload_n 2, 1) := vtab tk114 40 rfl
theorem e114_76 (l0 l1 : Option Value) (L : VL) (st : List Value) (h : VG) (x : Int32) : ev 114 76 (l0 :: l1 :: some (.int x) :: L) (st) h = ev 114 77 (l0 :: l1 :: some (.int x) :: L) (.int x :: st) h := G_iload_n f114_76 rfl
theorem f114_77 : fetch 114 77 = some (.invokevirtual 234, 3) := vtab tk114 41 rfl
theorem e114_77 (L : VL) (st : List Value) (h : VG) (b : Nat) (x0 : Int32) (ho : ob h b 1) (hs : catS st ≤ 8) : ev 114 77 L (.int x0 :: .ref b :: st) h = (ev 19 0 [some (.ref b), some (.int x0)] [] h).bind fun q => ev 114 80 L (q.1.toList ++ st) q.2 := G_callv (k := 1) (p := 805) (ars := [.int x0]) f114_77 lkC_11_234 (by decide) (by decide +kernel) rfl (vcls_ob (ci := 1) (by decide) ho) (Nat.le_of_ble_eq_true rfl) hs rfl
theorem f114_80 : fetch 114 80 = some (.lreturn, 1) := vtab tk114 42 rfl
theorem e114_80 (L : VL) (h : VG) (x : Int64) : ev 114 80 L [.long x] h = some (some (.long x), h) := G_lret f114_80 (by decide)
/-! 115 GuestCalls.put(IIIJ)Z -/
def tb115 : List (Nat × Instr × Nat) := [(0, .aload_n 0, 1), (1, .iconst 0, 1), (2, .putfield 86, 3), (5, .iload_n 1, 1), (6, .invokestatic 183, 3), (9, .ifCond .eq 13, 3), (12, .iload_n 3, 1), (13, .ifCond .lt 9, 3), (16, .iload_n 3, 1), (17, .bipush 10, 2), (19, .if_icmp .le 5, 3), (22, .iconst 0, 1), (23, .ireturn, 1), (24, .iload_n 3, 1), (25, .bipush 10, 2), (27, .if_icmp .ne 8, 3), (30, .bipush (-2), 2), (32, .goto 4, 3), (35, .iload_n 3, 1), (36, .istore 6, 2), (38, .aload_n 0, 1), (39, .aload_n 0, 1), (40, .getfield 37, 3), (43, .getfield 186, 3), (46, .iload_n 1, 1), (47, .aaload, 1), (48, .iload_n 2, 1), (49, .iload 6, 2), (51, .invokevirtual 238, 3), (54, .invokevirtual 180, 3), (57, .ifCond .eq 5, 3), (60, .iconst 0, 1), (61, .ireturn, 1), (62, .aload_n 0, 1), (63, .getfield 37, 3), (66, .getfield 186, 3), (69, .iload_n 1, 1), (70, .aaload, 1), (71, .iload_n 2, 1), (72, .iload 6, 2), (74, .iload 6, 2), (76, .lload 4, 2), (78, .invokestatic 241, 3), (81, .invokevirtual 221, 3), (84, .iconst 1, 1), (85, .ireturn, 1)]
theorem tk115 : tb115.all (fun q => decide (fetch 115 q.1 = some q.2)) = true := by decide +kernel
theorem f115_0 : fetch 115 0 = some (.aload_n 0, 1) := vtab tk115 0 rfl
theorem e115_0 (L : VL) (st : List Value) (h : VG) (x : Nat) : ev 115 0 (some (.ref x) :: L) (st) h = ev 115 1 (some (.ref x) :: L) (.ref x :: st) h := G_aload_n f115_0 rfl
theorem f115_1 : fetch 115 1 = some (.iconst 0, 1) := vtab tk115 1 rfl
theorem e115_1 (L : VL) (st : List Value) (h : VG) : ev 115 1 L (st) h = ev 115 2 L (.int (0 : Int32) :: st) h := G_iconst f115_1 (by decide)
theorem f115_2 : fetch 115 2 = some (.putfield 86, 3) := vtab tk115 2 rfl
theorem e115_2 (L : VL) (st : List Value) (h : VG) (a : Nat) (x : Int32) (ho : ob h a 10) : ev 115 2 L (.int x :: .ref a :: st) h = ev 115 5 L (st) (pI h a 9 x) := G_putI (p := 438) f115_2 lkF_11_86 (by decide) (by decide) (by decide +kernel) ⟨rfl, rfl⟩ ho
theorem f115_5 : fetch 115 5 = some (.iload_n 1, 1) := vtab tk115 3 rfl
theorem e115_5 (l0 : Option Value) (L : VL) (st : List Value) (h : VG) (x : Int32) : ev 115 5 (l0 :: some (.int x) :: L) (st) h = ev 115 6 (l0 :: some (.int x) :: L) (.int x :: st) h := G_iload_n f115_5 rfl
theorem f115_6 : fetch 115 6 = some (.invokestatic 183, 3) := vtab tk115 4 rfl
theorem e115_6 (L : VL) (st : List Value) (h : VG) (x0 : Int32) (hs : catS st ≤ 8) : ev 115 6 L (.int x0 :: st) h = (ev 102 0 [some (.int x0)] [] h).bind fun q => ev 115 9 L (q.1.toList ++ st) q.2 := G_calls (k := 0) (p := 700) (ars := [.int x0]) f115_6 lkC_11_183 (by decide) (by decide +kernel) rfl (Nat.le_of_ble_eq_true rfl) hs rfl
theorem f115_9 : fetch 115 9 = some (.ifCond .eq 13, 3) := vtab tk115 5 rfl
theorem e115_9 (L : VL) (st : List Value) (h : VG) (x : Int32) : ev 115 9 L (.int x :: st) h = if x = 0 then ev 115 22 L st h else ev 115 12 L st h := G_if_eq f115_9 (by decide)
theorem f115_12 : fetch 115 12 = some (.iload_n 3, 1) := vtab tk115 6 rfl
theorem e115_12 (l0 l1 l2 : Option Value) (L : VL) (st : List Value) (h : VG) (x : Int32) : ev 115 12 (l0 :: l1 :: l2 :: some (.int x) :: L) (st) h = ev 115 13 (l0 :: l1 :: l2 :: some (.int x) :: L) (.int x :: st) h := G_iload_n f115_12 rfl
theorem f115_13 : fetch 115 13 = some (.ifCond .lt 9, 3) := vtab tk115 7 rfl
theorem e115_13 (L : VL) (st : List Value) (h : VG) (x : Int32) : ev 115 13 L (.int x :: st) h = if x < 0 then ev 115 22 L st h else ev 115 16 L st h := G_if_lt f115_13 (by decide)
theorem f115_16 : fetch 115 16 = some (.iload_n 3, 1) := vtab tk115 8 rfl
theorem e115_16 (l0 l1 l2 : Option Value) (L : VL) (st : List Value) (h : VG) (x : Int32) : ev 115 16 (l0 :: l1 :: l2 :: some (.int x) :: L) (st) h = ev 115 17 (l0 :: l1 :: l2 :: some (.int x) :: L) (.int x :: st) h := G_iload_n f115_16 rfl
theorem f115_17 : fetch 115 17 = some (.bipush 10, 2) := vtab tk115 9 rfl
theorem e115_17 (L : VL) (st : List Value) (h : VG) : ev 115 17 L (st) h = ev 115 19 L (.int (10 : Int32) :: st) h := G_bipush f115_17 (by decide)
theorem f115_19 : fetch 115 19 = some (.if_icmp .le 5, 3) := vtab tk115 10 rfl
theorem e115_19 (L : VL) (st : List Value) (h : VG) (x y : Int32) : ev 115 19 L (.int y :: .int x :: st) h = if x ≤ y then ev 115 24 L st h else ev 115 22 L st h := G_icmp_le f115_19 (by decide)
theorem f115_22 : fetch 115 22 = some (.iconst 0, 1) := vtab tk115 11 rfl
theorem e115_22 (L : VL) (st : List Value) (h : VG) : ev 115 22 L (st) h = ev 115 23 L (.int (0 : Int32) :: st) h := G_iconst f115_22 (by decide)
theorem f115_23 : fetch 115 23 = some (.ireturn, 1) := vtab tk115 12 rfl
theorem e115_23 (L : VL) (h : VG) (x : Int32) (hz : x = 0 ∨ x = 1) : ev 115 23 L [.int x] h = some (some (.int x), h) := G_iret f115_23 (ty := .boolean) (by decide) (vbool hz).1
theorem f115_24 : fetch 115 24 = some (.iload_n 3, 1) := vtab tk115 13 rfl
theorem e115_24 (l0 l1 l2 : Option Value) (L : VL) (st : List Value) (h : VG) (x : Int32) : ev 115 24 (l0 :: l1 :: l2 :: some (.int x) :: L) (st) h = ev 115 25 (l0 :: l1 :: l2 :: some (.int x) :: L) (.int x :: st) h := G_iload_n f115_24 rfl
theorem f115_25 : fetch 115 25 = some (.bipush 10, 2) := vtab tk115 14 rfl
theorem e115_25 (L : VL) (st : List Value) (h : VG) : ev 115 25 L (st) h = ev 115 27 L (.int (10 : Int32) :: st) h := G_bipush f115_25 (by decide)
theorem f115_27 : fetch 115 27 = some (.if_icmp .ne 8, 3) := vtab tk115 15 rfl
theorem e115_27 (L : VL) (st : List Value) (h : VG) (x y : Int32) : ev 115 27 L (.int y :: .int x :: st) h = if x = y then ev 115 30 L st h else ev 115 35 L st h := G_icmp_ne f115_27 (by decide)
theorem f115_30 : fetch 115 30 = some (.bipush (-2), 2) := vtab tk115 16 rfl
theorem e115_30 (L : VL) (st : List Value) (h : VG) : ev 115 30 L (st) h = ev 115 32 L (.int (-2 : Int32) :: st) h := G_bipush f115_30 (by decide)
theorem f115_32 : fetch 115 32 = some (.goto 4, 3) := vtab tk115 17 rfl
theorem e115_32 (L : VL) (st : List Value) (h : VG) : ev 115 32 L (st) h = ev 115 36 L (st) h := G_goto f115_32 (by decide)
theorem f115_35 : fetch 115 35 = some (.iload_n 3, 1) := vtab tk115 18 rfl
theorem e115_35 (l0 l1 l2 : Option Value) (L : VL) (st : List Value) (h : VG) (x : Int32) : ev 115 35 (l0 :: l1 :: l2 :: some (.int x) :: L) (st) h = ev 115 36 (l0 :: l1 :: l2 :: some (.int x) :: L) (.int x :: st) h := G_iload_n f115_35 rfl
theorem f115_36 : fetch 115 36 = some (.istore 6, 2) := vtab tk115 19 rfl
theorem e115_36 (l0 l1 l2 l3 l4 l5 l6 : Option Value) (L : VL) (st : List Value) (h : VG) (x : Int32) : ev 115 36 (l0 :: l1 :: l2 :: l3 :: l4 :: l5 :: l6 :: L) (.int x :: st) h = ev 115 38 (l0 :: l1 :: l2 :: l3 :: l4 :: vkk l5 :: some (.int x) :: L) (st) h := G_istore f115_36 rfl (S1_6 l0 l1 l2 l3 l4 l5 l6 L _)
theorem f115_38 : fetch 115 38 = some (.aload_n 0, 1) := vtab tk115 20 rfl
theorem e115_38 (L : VL) (st : List Value) (h : VG) (x : Nat) : ev 115 38 (some (.ref x) :: L) (st) h = ev 115 39 (some (.ref x) :: L) (.ref x :: st) h := G_aload_n f115_38 rfl
theorem f115_39 : fetch 115 39 = some (.aload_n 0, 1) := vtab tk115 21 rfl
theorem e115_39 (L : VL) (st : List Value) (h : VG) (x : Nat) : ev 115 39 (some (.ref x) :: L) (st) h = ev 115 40 (some (.ref x) :: L) (.ref x :: st) h := G_aload_n f115_39 rfl
theorem f115_40 : fetch 115 40 = some (.getfield 37, 3) := vtab tk115 22 rfl
theorem e115_40 (L : VL) (st : List Value) (h : VG) (a : Nat) (ho : ob h a 10) (hr : isR h a 6) : ev 115 40 L (.ref a :: st) h = ev 115 43 L (.ref (gR h a 6) :: st) h := G_getR (p := 435) f115_40 lkF_11_37 (by decide) (by decide) ho hr
theorem f115_43 : fetch 115 43 = some (.getfield 186, 3) := vtab tk115 23 rfl
theorem e115_43 (L : VL) (st : List Value) (h : VG) (a : Nat) (ho : ob h a 8) (hr : isR h a 1) : ev 115 43 L (.ref a :: st) h = ev 115 46 L (.ref (gR h a 1) :: st) h := G_getR (p := 385) f115_43 lkF_11_186 (by decide) (by decide) ho hr
theorem f115_46 : fetch 115 46 = some (.iload_n 1, 1) := vtab tk115 24 rfl
theorem e115_46 (l0 : Option Value) (L : VL) (st : List Value) (h : VG) (x : Int32) : ev 115 46 (l0 :: some (.int x) :: L) (st) h = ev 115 47 (l0 :: some (.int x) :: L) (.int x :: st) h := G_iload_n f115_46 rfl
theorem f115_47 : fetch 115 47 = some (.aaload, 1) := vtab tk115 25 rfl
theorem e115_47 (L : VL) (st : List Value) (h : VG) (a : Nat) (i : Int32) (ha : rdR h a) (hi : vp_in i (aln h a)) : ev 115 47 L (.int i :: .ref a :: st) h = ev 115 48 L (va_rf (aR h a i.toNatClampNeg) :: st) h := G_aald' f115_47 ha hi
theorem f115_48 : fetch 115 48 = some (.iload_n 2, 1) := vtab tk115 26 rfl
theorem e115_48 (l0 l1 : Option Value) (L : VL) (st : List Value) (h : VG) (x : Int32) : ev 115 48 (l0 :: l1 :: some (.int x) :: L) (st) h = ev 115 49 (l0 :: l1 :: some (.int x) :: L) (.int x :: st) h := G_iload_n f115_48 rfl
theorem f115_49 : fetch 115 49 = some (.iload 6, 2) := vtab tk115 27 rfl
theorem e115_49 (l0 l1 l2 l3 l4 l5 : Option Value) (L : VL) (st : List Value) (h : VG) (x : Int32) : ev 115 49 (l0 :: l1 :: l2 :: l3 :: l4 :: l5 :: some (.int x) :: L) (st) h = ev 115 51 (l0 :: l1 :: l2 :: l3 :: l4 :: l5 :: some (.int x) :: L) (.int x :: st) h := G_iload f115_49 rfl
theorem f115_51 : fetch 115 51 = some (.invokevirtual 238, 3) := vtab tk115 28 rfl
theorem e115_51 (L : VL) (st : List Value) (h : VG) (b : Nat) (x0 : Int32) (x1 : Int32) (ho : ob h b 1) (hs : catS st ≤ 8) : ev 115 51 L (.int x1 :: .int x0 :: .ref b :: st) h = (ev 11 0 [some (.ref b), some (.int x0), some (.int x1), none] [] h).bind fun q => ev 115 54 L (q.1.toList ++ st) q.2 := G_callv (k := 1) (p := 814) (ars := [.int x0, .int x1]) f115_51 lkC_11_238 (by decide) (by decide +kernel) rfl (vcls_ob (ci := 1) (by decide) ho) (Nat.le_of_ble_eq_true rfl) hs rfl
theorem f115_54 : fetch 115 54 = some (.invokevirtual 180, 3) := vtab tk115 29 rfl
theorem e115_54 (L : VL) (st : List Value) (h : VG) (b : Nat) (x0 : Int32) (ho : ob h b 10) (hs : catS st ≤ 8) : ev 115 54 L (.int x0 :: .ref b :: st) h = (ev 100 0 [some (.ref b), some (.int x0)] [] h).bind fun q => ev 115 57 L (q.1.toList ++ st) q.2 := G_callv (k := 1) (p := 692) (ars := [.int x0]) f115_54 lkC_11_180 (by decide) (by decide +kernel) rfl (vcls_ob (ci := 10) (by decide) ho) (Nat.le_of_ble_eq_true rfl) hs rfl
theorem f115_57 : fetch 115 57 = some (.ifCond .eq 5, 3) := vtab tk115 30 rfl
theorem e115_57 (L : VL) (st : List Value) (h : VG) (x : Int32) : ev 115 57 L (.int x :: st) h = if x = 0 then ev 115 62 L st h else ev 115 60 L st h := G_if_eq f115_57 (by decide)
theorem f115_60 : fetch 115 60 = some (.iconst 0, 1) := vtab tk115 31 rfl
theorem e115_60 (L : VL) (st : List Value) (h : VG) : ev 115 60 L (st) h = ev 115 61 L (.int (0 : Int32) :: st) h := G_iconst f115_60 (by decide)
theorem f115_61 : fetch 115 61 = some (.ireturn, 1) := vtab tk115 32 rfl
theorem e115_61 (L : VL) (h : VG) (x : Int32) (hz : x = 0 ∨ x = 1) : ev 115 61 L [.int x] h = some (some (.int x), h) := G_iret f115_61 (ty := .boolean) (by decide) (vbool hz).1
theorem f115_62 : fetch 115 62 = some (.aload_n 0, 1) := vtab tk115 33 rfl
theorem e115_62 (L : VL) (st : List Value) (h : VG) (x : Nat) : ev 115 62 (some (.ref x) :: L) (st) h = ev 115 63 (some (.ref x) :: L) (.ref x :: st) h := G_aload_n f115_62 rfl
theorem f115_63 : fetch 115 63 = some (.getfield 37, 3) := vtab tk115 34 rfl
theorem e115_63 (L : VL) (st : List Value) (h : VG) (a : Nat) (ho : ob h a 10) (hr : isR h a 6) : ev 115 63 L (.ref a :: st) h = ev 115 66 L (.ref (gR h a 6) :: st) h := G_getR (p := 435) f115_63 lkF_11_37 (by decide) (by decide) ho hr
theorem f115_66 : fetch 115 66 = some (.getfield 186, 3) := vtab tk115 35 rfl
theorem e115_66 (L : VL) (st : List Value) (h : VG) (a : Nat) (ho : ob h a 8) (hr : isR h a 1) : ev 115 66 L (.ref a :: st) h = ev 115 69 L (.ref (gR h a 1) :: st) h := G_getR (p := 385) f115_66 lkF_11_186 (by decide) (by decide) ho hr
theorem f115_69 : fetch 115 69 = some (.iload_n 1, 1) := vtab tk115 36 rfl
theorem e115_69 (l0 : Option Value) (L : VL) (st : List Value) (h : VG) (x : Int32) : ev 115 69 (l0 :: some (.int x) :: L) (st) h = ev 115 70 (l0 :: some (.int x) :: L) (.int x :: st) h := G_iload_n f115_69 rfl
theorem f115_70 : fetch 115 70 = some (.aaload, 1) := vtab tk115 37 rfl
theorem e115_70 (L : VL) (st : List Value) (h : VG) (a : Nat) (i : Int32) (ha : rdR h a) (hi : vp_in i (aln h a)) : ev 115 70 L (.int i :: .ref a :: st) h = ev 115 71 L (va_rf (aR h a i.toNatClampNeg) :: st) h := G_aald' f115_70 ha hi
theorem f115_71 : fetch 115 71 = some (.iload_n 2, 1) := vtab tk115 38 rfl
theorem e115_71 (l0 l1 : Option Value) (L : VL) (st : List Value) (h : VG) (x : Int32) : ev 115 71 (l0 :: l1 :: some (.int x) :: L) (st) h = ev 115 72 (l0 :: l1 :: some (.int x) :: L) (.int x :: st) h := G_iload_n f115_71 rfl
theorem f115_72 : fetch 115 72 = some (.iload 6, 2) := vtab tk115 39 rfl
theorem e115_72 (l0 l1 l2 l3 l4 l5 : Option Value) (L : VL) (st : List Value) (h : VG) (x : Int32) : ev 115 72 (l0 :: l1 :: l2 :: l3 :: l4 :: l5 :: some (.int x) :: L) (st) h = ev 115 74 (l0 :: l1 :: l2 :: l3 :: l4 :: l5 :: some (.int x) :: L) (.int x :: st) h := G_iload f115_72 rfl
theorem f115_74 : fetch 115 74 = some (.iload 6, 2) := vtab tk115 40 rfl
theorem e115_74 (l0 l1 l2 l3 l4 l5 : Option Value) (L : VL) (st : List Value) (h : VG) (x : Int32) : ev 115 74 (l0 :: l1 :: l2 :: l3 :: l4 :: l5 :: some (.int x) :: L) (st) h = ev 115 76 (l0 :: l1 :: l2 :: l3 :: l4 :: l5 :: some (.int x) :: L) (.int x :: st) h := G_iload f115_74 rfl
theorem f115_76 : fetch 115 76 = some (.lload 4, 2) := vtab tk115 41 rfl
theorem e115_76 (l0 l1 l2 l3 : Option Value) (L : VL) (st : List Value) (h : VG) (x : Int64) : ev 115 76 (l0 :: l1 :: l2 :: l3 :: some (.long x) :: L) (st) h = ev 115 78 (l0 :: l1 :: l2 :: l3 :: some (.long x) :: L) (.long x :: st) h := G_lload f115_76 rfl
theorem f115_78 : fetch 115 78 = some (.invokestatic 241, 3) := vtab tk115 42 rfl
theorem e115_78 (L : VL) (st : List Value) (h : VG) (x0 : Int32) (x1 : Int64) (hs : catS st ≤ 8) : ev 115 78 L (.long x1 :: .int x0 :: st) h = (ev 116 0 [some (.int x0), some (.long x1), none] [] h).bind fun q => ev 115 81 L (q.1.toList ++ st) q.2 := G_calls (k := 0) (p := 823) (ars := [.int x0, .long x1]) f115_78 lkC_11_241 (by decide) (by decide +kernel) rfl (Nat.le_of_ble_eq_true rfl) hs rfl
theorem f115_81 : fetch 115 81 = some (.invokevirtual 221, 3) := vtab tk115 43 rfl
theorem e115_81 (L : VL) (st : List Value) (h : VG) (b : Nat) (x0 : Int32) (x1 : Int32) (x2 : Int64) (ho : ob h b 1) (hs : catS st ≤ 8) : ev 115 81 L (.long x2 :: .int x1 :: .int x0 :: .ref b :: st) h = (ev 18 0 [some (.ref b), some (.int x0), some (.int x1), some (.long x2), none] [] h).bind fun q => ev 115 84 L (q.1.toList ++ st) q.2 := G_callv (k := 1) (p := 795) (ars := [.int x0, .int x1, .long x2]) f115_81 lkC_11_221 (by decide) (by decide +kernel) rfl (vcls_ob (ci := 1) (by decide) ho) (Nat.le_of_ble_eq_true rfl) hs rfl
theorem f115_84 : fetch 115 84 = some (.iconst 1, 1) := vtab tk115 44 rfl
theorem e115_84 (L : VL) (st : List Value) (h : VG) : ev 115 84 L (st) h = ev 115 85 L (.int (1 : Int32) :: st) h := G_iconst f115_84 (by decide)
theorem f115_85 : fetch 115 85 = some (.ireturn, 1) := vtab tk115 45 rfl
theorem e115_85 (L : VL) (h : VG) (x : Int32) (hz : x = 0 ∨ x = 1) : ev 115 85 L [.int x] h = some (some (.int x), h) := G_iret f115_85 (ty := .boolean) (by decide) (vbool hz).1
/-! 116 GuestCalls.boxed(IJ)J -/
def tb116 : List (Nat × Instr × Nat) := [(0, .iload_n 0, 1), (1, .invokestatic 200, 3), (4, .ifCond .eq 9, 3), (7, .lload_n 1, 1), (8, .iload_n 0, 1), (9, .invokestatic 218, 3), (12, .lreturn, 1), (13, .iload_n 0, 1), (14, .bipush 8, 2), (16, .if_icmp .ne 11, 3), (19, .lload_n 1, 1), (20, .ldc2_w 245, 3), (23, .land, 1), (24, .goto 4, 3), (27, .lconst 0, 1), (28, .lreturn, 1)]
theorem tk116 : tb116.all (fun q => decide (fetch 116 q.1 = some q.2)) = true := by decide +kernel
theorem f116_0 : fetch 116 0 = some (.iload_n 0, 1) := vtab tk116 0 rfl
theorem e116_0 (L : VL) (st : List Value) (h : VG) (x : Int32) : ev 116 0 (some (.int x) :: L) (st) h = ev 116 1 (some (.int x) :: L) (.int x :: st) h := G_iload_n f116_0 rfl
theorem f116_1 : fetch 116 1 = some (.invokestatic 200, 3) := vtab tk116 1 rfl
theorem e116_1 (L : VL) (st : List Value) (h : VG) (x0 : Int32) (hs : catS st ≤ 8) : ev 116 1 L (.int x0 :: st) h = (ev 103 0 [some (.int x0)] [] h).bind fun q => ev 116 4 L (q.1.toList ++ st) q.2 := G_calls (k := 0) (p := 716) (ars := [.int x0]) f116_1 lkC_11_200 (by decide) (by decide +kernel) rfl (Nat.le_of_ble_eq_true rfl) hs rfl
theorem f116_4 : fetch 116 4 = some (.ifCond .eq 9, 3) := vtab tk116 2 rfl
theorem e116_4 (L : VL) (st : List Value) (h : VG) (x : Int32) : ev 116 4 L (.int x :: st) h = if x = 0 then ev 116 13 L st h else ev 116 7 L st h := G_if_eq f116_4 (by decide)
theorem f116_7 : fetch 116 7 = some (.lload_n 1, 1) := vtab tk116 3 rfl
theorem e116_7 (l0 : Option Value) (L : VL) (st : List Value) (h : VG) (x : Int64) : ev 116 7 (l0 :: some (.long x) :: L) (st) h = ev 116 8 (l0 :: some (.long x) :: L) (.long x :: st) h := G_lload_n f116_7 rfl
theorem f116_8 : fetch 116 8 = some (.iload_n 0, 1) := vtab tk116 4 rfl
theorem e116_8 (L : VL) (st : List Value) (h : VG) (x : Int32) : ev 116 8 (some (.int x) :: L) (st) h = ev 116 9 (some (.int x) :: L) (.int x :: st) h := G_iload_n f116_8 rfl
theorem f116_9 : fetch 116 9 = some (.invokestatic 218, 3) := vtab tk116 5 rfl
theorem e116_9 (L : VL) (st : List Value) (h : VG) (x0 : Int64) (x1 : Int32) (hs : catS st ≤ 8) : ev 116 9 L (.int x1 :: .long x0 :: st) h = (ev 37 0 [some (.long x0), none, some (.int x1)] [] h).bind fun q => ev 116 12 L (q.1.toList ++ st) q.2 := G_calls (k := 0) (p := 792) (ars := [.long x0, .int x1]) f116_9 lkC_11_218 (by decide) (by decide +kernel) rfl (Nat.le_of_ble_eq_true rfl) hs rfl
theorem f116_12 : fetch 116 12 = some (.lreturn, 1) := vtab tk116 6 rfl
theorem e116_12 (L : VL) (h : VG) (x : Int64) : ev 116 12 L [.long x] h = some (some (.long x), h) := G_lret f116_12 (by decide)
theorem f116_13 : fetch 116 13 = some (.iload_n 0, 1) := vtab tk116 7 rfl
theorem e116_13 (L : VL) (st : List Value) (h : VG) (x : Int32) : ev 116 13 (some (.int x) :: L) (st) h = ev 116 14 (some (.int x) :: L) (.int x :: st) h := G_iload_n f116_13 rfl
theorem f116_14 : fetch 116 14 = some (.bipush 8, 2) := vtab tk116 8 rfl
theorem e116_14 (L : VL) (st : List Value) (h : VG) : ev 116 14 L (st) h = ev 116 16 L (.int (8 : Int32) :: st) h := G_bipush f116_14 (by decide)
theorem f116_16 : fetch 116 16 = some (.if_icmp .ne 11, 3) := vtab tk116 9 rfl
theorem e116_16 (L : VL) (st : List Value) (h : VG) (x y : Int32) : ev 116 16 L (.int y :: .int x :: st) h = if x = y then ev 116 19 L st h else ev 116 27 L st h := G_icmp_ne f116_16 (by decide)
theorem f116_19 : fetch 116 19 = some (.lload_n 1, 1) := vtab tk116 10 rfl
theorem e116_19 (l0 : Option Value) (L : VL) (st : List Value) (h : VG) (x : Int64) : ev 116 19 (l0 :: some (.long x) :: L) (st) h = ev 116 20 (l0 :: some (.long x) :: L) (.long x :: st) h := G_lload_n f116_19 rfl
theorem f116_20 : fetch 116 20 = some (.ldc2_w 245, 3) := vtab tk116 11 rfl
theorem e116_20 (L : VL) (st : List Value) (h : VG) : ev 116 20 L (st) h = ev 116 23 L (.long 7 :: st) h := G_ldc2l (p := 826) f116_20 lkK_11_245
theorem f116_23 : fetch 116 23 = some (.land, 1) := vtab tk116 12 rfl
theorem e116_23 (L : VL) (st : List Value) (h : VG) (x y : Int64) : ev 116 23 L (.long y :: .long x :: st) h = ev 116 24 L (.long (x &&& y) :: st) h := G_land f116_23
theorem f116_24 : fetch 116 24 = some (.goto 4, 3) := vtab tk116 13 rfl
theorem e116_24 (L : VL) (st : List Value) (h : VG) : ev 116 24 L (st) h = ev 116 28 L (st) h := G_goto f116_24 (by decide)
theorem f116_27 : fetch 116 27 = some (.lconst 0, 1) := vtab tk116 14 rfl
theorem e116_27 (L : VL) (st : List Value) (h : VG) : ev 116 27 L (st) h = ev 116 28 L (.long 0 :: st) h := G_lconst f116_27 (by decide)
theorem f116_28 : fetch 116 28 = some (.lreturn, 1) := vtab tk116 15 rfl
theorem e116_28 (L : VL) (h : VG) (x : Int64) : ev 116 28 L [.long x] h = some (some (.long x), h) := G_lret f116_28 (by decide)
/-! 117 GuestCalls.copy(IIIIII)I -/
def tb117 : List (Nat × Instr × Nat) := [(0, .aload_n 0, 1), (1, .iconst 0, 1), (2, .putfield 86, 3), (5, .iload_n 1, 1), (6, .invokestatic 183, 3), (9, .ifCond .eq 30, 3), (12, .iload_n 3, 1), (13, .invokestatic 183, 3), (16, .ifCond .eq 23, 3), (19, .iload 5, 2), (21, .ifCond .lt 18, 3), (24, .iload 5, 2), (26, .bipush 40, 2), (28, .if_icmp .gt 11, 3), (31, .iload 6, 2), (33, .invokestatic 200, 3), (36, .ifCond .ne 5, 3), (39, .iconst (-1), 1), (40, .ireturn, 1), (41, .aload_n 0, 1), (42, .getfield 37, 3), (45, .getfield 186, 3), (48, .iload_n 1, 1), (49, .aaload, 1), (50, .astore 7, 2), (52, .aload_n 0, 1), (53, .getfield 37, 3), (56, .getfield 186, 3), (59, .iload_n 3, 1), (60, .aaload, 1), (61, .astore 8, 2), (63, .iconst 0, 1), (64, .istore 9, 2), (66, .iconst 0, 1), (67, .istore 10, 2), (69, .iload 10, 2), (71, .iload 5, 2), (73, .if_icmp .ge 72, 3), (76, .aload_n 0, 1), (77, .aload 7, 2), (79, .iload_n 2, 1), (80, .iload 10, 2), (82, .iadd, 1), (83, .iload 6, 2), (85, .invokevirtual 203, 3), (88, .invokevirtual 180, 3), (91, .ifCond .ne 48, 3), (94, .aload_n 0, 1), (95, .aload 8, 2), (97, .iload 4, 2), (99, .iload 10, 2), (101, .iadd, 1), (102, .iload 6, 2), (104, .invokevirtual 215, 3), (107, .invokevirtual 180, 3), (110, .ifCond .ne 29, 3), (113, .aload 8, 2), (115, .iload 4, 2), (117, .iload 10, 2), (119, .iadd, 1), (120, .iload 6, 2), (122, .aload 7, 2), (124, .iload_n 2, 1), (125, .iload 10, 2), (127, .iadd, 1), (128, .iload 6, 2), (130, .invokevirtual 207, 3), (133, .invokevirtual 221, 3), (136, .iinc 9 1, 3), (139, .iinc 10 1, 3), (142, .goto (-73), 3), (145, .iload 9, 2), (147, .ireturn, 1)]
theorem tk117 : tb117.all (fun q => decide (fetch 117 q.1 = some q.2)) = true := by decide +kernel
theorem f117_0 : fetch 117 0 = some (.aload_n 0, 1) := vtab tk117 0 rfl
theorem e117_0 (L : VL) (st : List Value) (h : VG) (x : Nat) : ev 117 0 (some (.ref x) :: L) (st) h = ev 117 1 (some (.ref x) :: L) (.ref x :: st) h := G_aload_n f117_0 rfl
theorem f117_1 : fetch 117 1 = some (.iconst 0, 1) := vtab tk117 1 rfl
theorem e117_1 (L : VL) (st : List Value) (h : VG) : ev 117 1 L (st) h = ev 117 2 L (.int (0 : Int32) :: st) h := G_iconst f117_1 (by decide)
theorem f117_2 : fetch 117 2 = some (.putfield 86, 3) := vtab tk117 2 rfl
theorem e117_2 (L : VL) (st : List Value) (h : VG) (a : Nat) (x : Int32) (ho : ob h a 10) : ev 117 2 L (.int x :: .ref a :: st) h = ev 117 5 L (st) (pI h a 9 x) := G_putI (p := 438) f117_2 lkF_11_86 (by decide) (by decide) (by decide +kernel) ⟨rfl, rfl⟩ ho
theorem f117_5 : fetch 117 5 = some (.iload_n 1, 1) := vtab tk117 3 rfl
theorem e117_5 (l0 : Option Value) (L : VL) (st : List Value) (h : VG) (x : Int32) : ev 117 5 (l0 :: some (.int x) :: L) (st) h = ev 117 6 (l0 :: some (.int x) :: L) (.int x :: st) h := G_iload_n f117_5 rfl
theorem f117_6 : fetch 117 6 = some (.invokestatic 183, 3) := vtab tk117 4 rfl
theorem e117_6 (L : VL) (st : List Value) (h : VG) (x0 : Int32) (hs : catS st ≤ 8) : ev 117 6 L (.int x0 :: st) h = (ev 102 0 [some (.int x0)] [] h).bind fun q => ev 117 9 L (q.1.toList ++ st) q.2 := G_calls (k := 0) (p := 700) (ars := [.int x0]) f117_6 lkC_11_183 (by decide) (by decide +kernel) rfl (Nat.le_of_ble_eq_true rfl) hs rfl
theorem f117_9 : fetch 117 9 = some (.ifCond .eq 30, 3) := vtab tk117 5 rfl
theorem e117_9 (L : VL) (st : List Value) (h : VG) (x : Int32) : ev 117 9 L (.int x :: st) h = if x = 0 then ev 117 39 L st h else ev 117 12 L st h := G_if_eq f117_9 (by decide)
theorem f117_12 : fetch 117 12 = some (.iload_n 3, 1) := vtab tk117 6 rfl
theorem e117_12 (l0 l1 l2 : Option Value) (L : VL) (st : List Value) (h : VG) (x : Int32) : ev 117 12 (l0 :: l1 :: l2 :: some (.int x) :: L) (st) h = ev 117 13 (l0 :: l1 :: l2 :: some (.int x) :: L) (.int x :: st) h := G_iload_n f117_12 rfl
theorem f117_13 : fetch 117 13 = some (.invokestatic 183, 3) := vtab tk117 7 rfl
theorem e117_13 (L : VL) (st : List Value) (h : VG) (x0 : Int32) (hs : catS st ≤ 8) : ev 117 13 L (.int x0 :: st) h = (ev 102 0 [some (.int x0)] [] h).bind fun q => ev 117 16 L (q.1.toList ++ st) q.2 := G_calls (k := 0) (p := 700) (ars := [.int x0]) f117_13 lkC_11_183 (by decide) (by decide +kernel) rfl (Nat.le_of_ble_eq_true rfl) hs rfl
theorem f117_16 : fetch 117 16 = some (.ifCond .eq 23, 3) := vtab tk117 8 rfl
theorem e117_16 (L : VL) (st : List Value) (h : VG) (x : Int32) : ev 117 16 L (.int x :: st) h = if x = 0 then ev 117 39 L st h else ev 117 19 L st h := G_if_eq f117_16 (by decide)
theorem f117_19 : fetch 117 19 = some (.iload 5, 2) := vtab tk117 9 rfl
theorem e117_19 (l0 l1 l2 l3 l4 : Option Value) (L : VL) (st : List Value) (h : VG) (x : Int32) : ev 117 19 (l0 :: l1 :: l2 :: l3 :: l4 :: some (.int x) :: L) (st) h = ev 117 21 (l0 :: l1 :: l2 :: l3 :: l4 :: some (.int x) :: L) (.int x :: st) h := G_iload f117_19 rfl
theorem f117_21 : fetch 117 21 = some (.ifCond .lt 18, 3) := vtab tk117 10 rfl
theorem e117_21 (L : VL) (st : List Value) (h : VG) (x : Int32) : ev 117 21 L (.int x :: st) h = if x < 0 then ev 117 39 L st h else ev 117 24 L st h := G_if_lt f117_21 (by decide)
theorem f117_24 : fetch 117 24 = some (.iload 5, 2) := vtab tk117 11 rfl
theorem e117_24 (l0 l1 l2 l3 l4 : Option Value) (L : VL) (st : List Value) (h : VG) (x : Int32) : ev 117 24 (l0 :: l1 :: l2 :: l3 :: l4 :: some (.int x) :: L) (st) h = ev 117 26 (l0 :: l1 :: l2 :: l3 :: l4 :: some (.int x) :: L) (.int x :: st) h := G_iload f117_24 rfl
theorem f117_26 : fetch 117 26 = some (.bipush 40, 2) := vtab tk117 12 rfl
theorem e117_26 (L : VL) (st : List Value) (h : VG) : ev 117 26 L (st) h = ev 117 28 L (.int (40 : Int32) :: st) h := G_bipush f117_26 (by decide)
theorem f117_28 : fetch 117 28 = some (.if_icmp .gt 11, 3) := vtab tk117 13 rfl
theorem e117_28 (L : VL) (st : List Value) (h : VG) (x y : Int32) : ev 117 28 L (.int y :: .int x :: st) h = if x ≤ y then ev 117 31 L st h else ev 117 39 L st h := G_icmp_gt f117_28 (by decide)
theorem f117_31 : fetch 117 31 = some (.iload 6, 2) := vtab tk117 14 rfl
theorem e117_31 (l0 l1 l2 l3 l4 l5 : Option Value) (L : VL) (st : List Value) (h : VG) (x : Int32) : ev 117 31 (l0 :: l1 :: l2 :: l3 :: l4 :: l5 :: some (.int x) :: L) (st) h = ev 117 33 (l0 :: l1 :: l2 :: l3 :: l4 :: l5 :: some (.int x) :: L) (.int x :: st) h := G_iload f117_31 rfl
theorem f117_33 : fetch 117 33 = some (.invokestatic 200, 3) := vtab tk117 15 rfl
theorem e117_33 (L : VL) (st : List Value) (h : VG) (x0 : Int32) (hs : catS st ≤ 8) : ev 117 33 L (.int x0 :: st) h = (ev 103 0 [some (.int x0)] [] h).bind fun q => ev 117 36 L (q.1.toList ++ st) q.2 := G_calls (k := 0) (p := 716) (ars := [.int x0]) f117_33 lkC_11_200 (by decide) (by decide +kernel) rfl (Nat.le_of_ble_eq_true rfl) hs rfl
theorem f117_36 : fetch 117 36 = some (.ifCond .ne 5, 3) := vtab tk117 16 rfl
theorem e117_36 (L : VL) (st : List Value) (h : VG) (x : Int32) : ev 117 36 L (.int x :: st) h = if x = 0 then ev 117 39 L st h else ev 117 41 L st h := G_if_ne f117_36 (by decide)
theorem f117_39 : fetch 117 39 = some (.iconst (-1), 1) := vtab tk117 17 rfl
theorem e117_39 (L : VL) (st : List Value) (h : VG) : ev 117 39 L (st) h = ev 117 40 L (.int (-1 : Int32) :: st) h := G_iconst f117_39 (by decide)
theorem f117_40 : fetch 117 40 = some (.ireturn, 1) := vtab tk117 18 rfl
theorem e117_40 (L : VL) (h : VG) (x : Int32) : ev 117 40 L [.int x] h = some (some (.int x), h) := G_iret f117_40 (ty := .int) (by decide) rfl
theorem f117_41 : fetch 117 41 = some (.aload_n 0, 1) := vtab tk117 19 rfl
theorem e117_41 (L : VL) (st : List Value) (h : VG) (x : Nat) : ev 117 41 (some (.ref x) :: L) (st) h = ev 117 42 (some (.ref x) :: L) (.ref x :: st) h := G_aload_n f117_41 rfl
theorem f117_42 : fetch 117 42 = some (.getfield 37, 3) := vtab tk117 20 rfl
theorem e117_42 (L : VL) (st : List Value) (h : VG) (a : Nat) (ho : ob h a 10) (hr : isR h a 6) : ev 117 42 L (.ref a :: st) h = ev 117 45 L (.ref (gR h a 6) :: st) h := G_getR (p := 435) f117_42 lkF_11_37 (by decide) (by decide) ho hr
theorem f117_45 : fetch 117 45 = some (.getfield 186, 3) := vtab tk117 21 rfl
theorem e117_45 (L : VL) (st : List Value) (h : VG) (a : Nat) (ho : ob h a 8) (hr : isR h a 1) : ev 117 45 L (.ref a :: st) h = ev 117 48 L (.ref (gR h a 1) :: st) h := G_getR (p := 385) f117_45 lkF_11_186 (by decide) (by decide) ho hr
theorem f117_48 : fetch 117 48 = some (.iload_n 1, 1) := vtab tk117 22 rfl
theorem e117_48 (l0 : Option Value) (L : VL) (st : List Value) (h : VG) (x : Int32) : ev 117 48 (l0 :: some (.int x) :: L) (st) h = ev 117 49 (l0 :: some (.int x) :: L) (.int x :: st) h := G_iload_n f117_48 rfl
theorem f117_49 : fetch 117 49 = some (.aaload, 1) := vtab tk117 23 rfl
theorem e117_49 (L : VL) (st : List Value) (h : VG) (a : Nat) (i : Int32) (ha : rdR h a) (hi : vp_in i (aln h a)) : ev 117 49 L (.int i :: .ref a :: st) h = ev 117 50 L (va_rf (aR h a i.toNatClampNeg) :: st) h := G_aald' f117_49 ha hi
theorem f117_50 : fetch 117 50 = some (.astore 7, 2) := vtab tk117 24 rfl
theorem e117_50 (l0 l1 l2 l3 l4 l5 l6 l7 : Option Value) (L : VL) (st : List Value) (h : VG) (x : Nat) : ev 117 50 (l0 :: l1 :: l2 :: l3 :: l4 :: l5 :: l6 :: l7 :: L) (.ref x :: st) h = ev 117 52 (l0 :: l1 :: l2 :: l3 :: l4 :: l5 :: vkk l6 :: some (.ref x) :: L) (st) h := G_astore f117_50 rfl (S1_7 l0 l1 l2 l3 l4 l5 l6 l7 L _)
theorem f117_52 : fetch 117 52 = some (.aload_n 0, 1) := vtab tk117 25 rfl
theorem e117_52 (L : VL) (st : List Value) (h : VG) (x : Nat) : ev 117 52 (some (.ref x) :: L) (st) h = ev 117 53 (some (.ref x) :: L) (.ref x :: st) h := G_aload_n f117_52 rfl
theorem f117_53 : fetch 117 53 = some (.getfield 37, 3) := vtab tk117 26 rfl
theorem e117_53 (L : VL) (st : List Value) (h : VG) (a : Nat) (ho : ob h a 10) (hr : isR h a 6) : ev 117 53 L (.ref a :: st) h = ev 117 56 L (.ref (gR h a 6) :: st) h := G_getR (p := 435) f117_53 lkF_11_37 (by decide) (by decide) ho hr
theorem f117_56 : fetch 117 56 = some (.getfield 186, 3) := vtab tk117 27 rfl
theorem e117_56 (L : VL) (st : List Value) (h : VG) (a : Nat) (ho : ob h a 8) (hr : isR h a 1) : ev 117 56 L (.ref a :: st) h = ev 117 59 L (.ref (gR h a 1) :: st) h := G_getR (p := 385) f117_56 lkF_11_186 (by decide) (by decide) ho hr
theorem f117_59 : fetch 117 59 = some (.iload_n 3, 1) := vtab tk117 28 rfl
theorem e117_59 (l0 l1 l2 : Option Value) (L : VL) (st : List Value) (h : VG) (x : Int32) : ev 117 59 (l0 :: l1 :: l2 :: some (.int x) :: L) (st) h = ev 117 60 (l0 :: l1 :: l2 :: some (.int x) :: L) (.int x :: st) h := G_iload_n f117_59 rfl
theorem f117_60 : fetch 117 60 = some (.aaload, 1) := vtab tk117 29 rfl
theorem e117_60 (L : VL) (st : List Value) (h : VG) (a : Nat) (i : Int32) (ha : rdR h a) (hi : vp_in i (aln h a)) : ev 117 60 L (.int i :: .ref a :: st) h = ev 117 61 L (va_rf (aR h a i.toNatClampNeg) :: st) h := G_aald' f117_60 ha hi
theorem f117_61 : fetch 117 61 = some (.astore 8, 2) := vtab tk117 30 rfl
theorem e117_61 (l0 l1 l2 l3 l4 l5 l6 l7 l8 : Option Value) (L : VL) (st : List Value) (h : VG) (x : Nat) : ev 117 61 (l0 :: l1 :: l2 :: l3 :: l4 :: l5 :: l6 :: l7 :: l8 :: L) (.ref x :: st) h = ev 117 63 (l0 :: l1 :: l2 :: l3 :: l4 :: l5 :: l6 :: vkk l7 :: some (.ref x) :: L) (st) h := G_astore f117_61 rfl (S1_8 l0 l1 l2 l3 l4 l5 l6 l7 l8 L _)
theorem f117_63 : fetch 117 63 = some (.iconst 0, 1) := vtab tk117 31 rfl
theorem e117_63 (L : VL) (st : List Value) (h : VG) : ev 117 63 L (st) h = ev 117 64 L (.int (0 : Int32) :: st) h := G_iconst f117_63 (by decide)
theorem f117_64 : fetch 117 64 = some (.istore 9, 2) := vtab tk117 32 rfl
theorem e117_64 (l0 l1 l2 l3 l4 l5 l6 l7 l8 l9 : Option Value) (L : VL) (st : List Value) (h : VG) (x : Int32) : ev 117 64 (l0 :: l1 :: l2 :: l3 :: l4 :: l5 :: l6 :: l7 :: l8 :: l9 :: L) (.int x :: st) h = ev 117 66 (l0 :: l1 :: l2 :: l3 :: l4 :: l5 :: l6 :: l7 :: vkk l8 :: some (.int x) :: L) (st) h := G_istore f117_64 rfl (S1_9 l0 l1 l2 l3 l4 l5 l6 l7 l8 l9 L _)
theorem f117_66 : fetch 117 66 = some (.iconst 0, 1) := vtab tk117 33 rfl
theorem e117_66 (L : VL) (st : List Value) (h : VG) : ev 117 66 L (st) h = ev 117 67 L (.int (0 : Int32) :: st) h := G_iconst f117_66 (by decide)
theorem f117_67 : fetch 117 67 = some (.istore 10, 2) := vtab tk117 34 rfl
theorem e117_67 (l0 l1 l2 l3 l4 l5 l6 l7 l8 l9 l10 : Option Value) (L : VL) (st : List Value) (h : VG) (x : Int32) : ev 117 67 (l0 :: l1 :: l2 :: l3 :: l4 :: l5 :: l6 :: l7 :: l8 :: l9 :: l10 :: L) (.int x :: st) h = ev 117 69 (l0 :: l1 :: l2 :: l3 :: l4 :: l5 :: l6 :: l7 :: l8 :: vkk l9 :: some (.int x) :: L) (st) h := G_istore f117_67 rfl (S1_10 l0 l1 l2 l3 l4 l5 l6 l7 l8 l9 l10 L _)
theorem f117_69 : fetch 117 69 = some (.iload 10, 2) := vtab tk117 35 rfl
theorem e117_69 (l0 l1 l2 l3 l4 l5 l6 l7 l8 l9 : Option Value) (L : VL) (st : List Value) (h : VG) (x : Int32) : ev 117 69 (l0 :: l1 :: l2 :: l3 :: l4 :: l5 :: l6 :: l7 :: l8 :: l9 :: some (.int x) :: L) (st) h = ev 117 71 (l0 :: l1 :: l2 :: l3 :: l4 :: l5 :: l6 :: l7 :: l8 :: l9 :: some (.int x) :: L) (.int x :: st) h := G_iload f117_69 rfl
theorem f117_71 : fetch 117 71 = some (.iload 5, 2) := vtab tk117 36 rfl
theorem e117_71 (l0 l1 l2 l3 l4 : Option Value) (L : VL) (st : List Value) (h : VG) (x : Int32) : ev 117 71 (l0 :: l1 :: l2 :: l3 :: l4 :: some (.int x) :: L) (st) h = ev 117 73 (l0 :: l1 :: l2 :: l3 :: l4 :: some (.int x) :: L) (.int x :: st) h := G_iload f117_71 rfl
theorem f117_73 : fetch 117 73 = some (.if_icmp .ge 72, 3) := vtab tk117 37 rfl
theorem e117_73 (L : VL) (st : List Value) (h : VG) (x y : Int32) : ev 117 73 L (.int y :: .int x :: st) h = if x < y then ev 117 76 L st h else ev 117 145 L st h := G_icmp_ge f117_73 (by decide)
theorem f117_76 : fetch 117 76 = some (.aload_n 0, 1) := vtab tk117 38 rfl
theorem e117_76 (L : VL) (st : List Value) (h : VG) (x : Nat) : ev 117 76 (some (.ref x) :: L) (st) h = ev 117 77 (some (.ref x) :: L) (.ref x :: st) h := G_aload_n f117_76 rfl
theorem f117_77 : fetch 117 77 = some (.aload 7, 2) := vtab tk117 39 rfl
theorem e117_77 (l0 l1 l2 l3 l4 l5 l6 : Option Value) (L : VL) (st : List Value) (h : VG) (x : Nat) : ev 117 77 (l0 :: l1 :: l2 :: l3 :: l4 :: l5 :: l6 :: some (.ref x) :: L) (st) h = ev 117 79 (l0 :: l1 :: l2 :: l3 :: l4 :: l5 :: l6 :: some (.ref x) :: L) (.ref x :: st) h := G_aload f117_77 rfl
theorem f117_79 : fetch 117 79 = some (.iload_n 2, 1) := vtab tk117 40 rfl
theorem e117_79 (l0 l1 : Option Value) (L : VL) (st : List Value) (h : VG) (x : Int32) : ev 117 79 (l0 :: l1 :: some (.int x) :: L) (st) h = ev 117 80 (l0 :: l1 :: some (.int x) :: L) (.int x :: st) h := G_iload_n f117_79 rfl
theorem f117_80 : fetch 117 80 = some (.iload 10, 2) := vtab tk117 41 rfl
theorem e117_80 (l0 l1 l2 l3 l4 l5 l6 l7 l8 l9 : Option Value) (L : VL) (st : List Value) (h : VG) (x : Int32) : ev 117 80 (l0 :: l1 :: l2 :: l3 :: l4 :: l5 :: l6 :: l7 :: l8 :: l9 :: some (.int x) :: L) (st) h = ev 117 82 (l0 :: l1 :: l2 :: l3 :: l4 :: l5 :: l6 :: l7 :: l8 :: l9 :: some (.int x) :: L) (.int x :: st) h := G_iload f117_80 rfl
theorem f117_82 : fetch 117 82 = some (.iadd, 1) := vtab tk117 42 rfl
theorem e117_82 (L : VL) (st : List Value) (h : VG) (x y : Int32) : ev 117 82 L (.int y :: .int x :: st) h = ev 117 83 L (.int (x + y) :: st) h := G_iadd f117_82
theorem f117_83 : fetch 117 83 = some (.iload 6, 2) := vtab tk117 43 rfl
theorem e117_83 (l0 l1 l2 l3 l4 l5 : Option Value) (L : VL) (st : List Value) (h : VG) (x : Int32) : ev 117 83 (l0 :: l1 :: l2 :: l3 :: l4 :: l5 :: some (.int x) :: L) (st) h = ev 117 85 (l0 :: l1 :: l2 :: l3 :: l4 :: l5 :: some (.int x) :: L) (.int x :: st) h := G_iload f117_83 rfl
theorem f117_85 : fetch 117 85 = some (.invokevirtual 203, 3) := vtab tk117 44 rfl
theorem e117_85 (L : VL) (st : List Value) (h : VG) (b : Nat) (x0 : Int32) (x1 : Int32) (ho : ob h b 1) (hs : catS st ≤ 8) : ev 117 85 L (.int x1 :: .int x0 :: .ref b :: st) h = (ev 9 0 [some (.ref b), some (.int x0), some (.int x1), none] [] h).bind fun q => ev 117 88 L (q.1.toList ++ st) q.2 := G_callv (k := 1) (p := 719) (ars := [.int x0, .int x1]) f117_85 lkC_11_203 (by decide) (by decide +kernel) rfl (vcls_ob (ci := 1) (by decide) ho) (Nat.le_of_ble_eq_true rfl) hs rfl
theorem f117_88 : fetch 117 88 = some (.invokevirtual 180, 3) := vtab tk117 45 rfl
theorem e117_88 (L : VL) (st : List Value) (h : VG) (b : Nat) (x0 : Int32) (ho : ob h b 10) (hs : catS st ≤ 8) : ev 117 88 L (.int x0 :: .ref b :: st) h = (ev 100 0 [some (.ref b), some (.int x0)] [] h).bind fun q => ev 117 91 L (q.1.toList ++ st) q.2 := G_callv (k := 1) (p := 692) (ars := [.int x0]) f117_88 lkC_11_180 (by decide) (by decide +kernel) rfl (vcls_ob (ci := 10) (by decide) ho) (Nat.le_of_ble_eq_true rfl) hs rfl
theorem f117_91 : fetch 117 91 = some (.ifCond .ne 48, 3) := vtab tk117 46 rfl
theorem e117_91 (L : VL) (st : List Value) (h : VG) (x : Int32) : ev 117 91 L (.int x :: st) h = if x = 0 then ev 117 94 L st h else ev 117 139 L st h := G_if_ne f117_91 (by decide)
theorem f117_94 : fetch 117 94 = some (.aload_n 0, 1) := vtab tk117 47 rfl
theorem e117_94 (L : VL) (st : List Value) (h : VG) (x : Nat) : ev 117 94 (some (.ref x) :: L) (st) h = ev 117 95 (some (.ref x) :: L) (.ref x :: st) h := G_aload_n f117_94 rfl
theorem f117_95 : fetch 117 95 = some (.aload 8, 2) := vtab tk117 48 rfl
theorem e117_95 (l0 l1 l2 l3 l4 l5 l6 l7 : Option Value) (L : VL) (st : List Value) (h : VG) (x : Nat) : ev 117 95 (l0 :: l1 :: l2 :: l3 :: l4 :: l5 :: l6 :: l7 :: some (.ref x) :: L) (st) h = ev 117 97 (l0 :: l1 :: l2 :: l3 :: l4 :: l5 :: l6 :: l7 :: some (.ref x) :: L) (.ref x :: st) h := G_aload f117_95 rfl
theorem f117_97 : fetch 117 97 = some (.iload 4, 2) := vtab tk117 49 rfl
theorem e117_97 (l0 l1 l2 l3 : Option Value) (L : VL) (st : List Value) (h : VG) (x : Int32) : ev 117 97 (l0 :: l1 :: l2 :: l3 :: some (.int x) :: L) (st) h = ev 117 99 (l0 :: l1 :: l2 :: l3 :: some (.int x) :: L) (.int x :: st) h := G_iload f117_97 rfl
theorem f117_99 : fetch 117 99 = some (.iload 10, 2) := vtab tk117 50 rfl
theorem e117_99 (l0 l1 l2 l3 l4 l5 l6 l7 l8 l9 : Option Value) (L : VL) (st : List Value) (h : VG) (x : Int32) : ev 117 99 (l0 :: l1 :: l2 :: l3 :: l4 :: l5 :: l6 :: l7 :: l8 :: l9 :: some (.int x) :: L) (st) h = ev 117 101 (l0 :: l1 :: l2 :: l3 :: l4 :: l5 :: l6 :: l7 :: l8 :: l9 :: some (.int x) :: L) (.int x :: st) h := G_iload f117_99 rfl
theorem f117_101 : fetch 117 101 = some (.iadd, 1) := vtab tk117 51 rfl
theorem e117_101 (L : VL) (st : List Value) (h : VG) (x y : Int32) : ev 117 101 L (.int y :: .int x :: st) h = ev 117 102 L (.int (x + y) :: st) h := G_iadd f117_101
theorem f117_102 : fetch 117 102 = some (.iload 6, 2) := vtab tk117 52 rfl
theorem e117_102 (l0 l1 l2 l3 l4 l5 : Option Value) (L : VL) (st : List Value) (h : VG) (x : Int32) : ev 117 102 (l0 :: l1 :: l2 :: l3 :: l4 :: l5 :: some (.int x) :: L) (st) h = ev 117 104 (l0 :: l1 :: l2 :: l3 :: l4 :: l5 :: some (.int x) :: L) (.int x :: st) h := G_iload f117_102 rfl
theorem f117_104 : fetch 117 104 = some (.invokevirtual 215, 3) := vtab tk117 53 rfl
theorem e117_104 (L : VL) (st : List Value) (h : VG) (b : Nat) (x0 : Int32) (x1 : Int32) (ho : ob h b 1) (hs : catS st ≤ 8) : ev 117 104 L (.int x1 :: .int x0 :: .ref b :: st) h = (ev 10 0 [some (.ref b), some (.int x0), some (.int x1), none] [] h).bind fun q => ev 117 107 L (q.1.toList ++ st) q.2 := G_callv (k := 1) (p := 788) (ars := [.int x0, .int x1]) f117_104 lkC_11_215 (by decide) (by decide +kernel) rfl (vcls_ob (ci := 1) (by decide) ho) (Nat.le_of_ble_eq_true rfl) hs rfl
theorem f117_107 : fetch 117 107 = some (.invokevirtual 180, 3) := vtab tk117 54 rfl
theorem e117_107 (L : VL) (st : List Value) (h : VG) (b : Nat) (x0 : Int32) (ho : ob h b 10) (hs : catS st ≤ 8) : ev 117 107 L (.int x0 :: .ref b :: st) h = (ev 100 0 [some (.ref b), some (.int x0)] [] h).bind fun q => ev 117 110 L (q.1.toList ++ st) q.2 := G_callv (k := 1) (p := 692) (ars := [.int x0]) f117_107 lkC_11_180 (by decide) (by decide +kernel) rfl (vcls_ob (ci := 10) (by decide) ho) (Nat.le_of_ble_eq_true rfl) hs rfl
theorem f117_110 : fetch 117 110 = some (.ifCond .ne 29, 3) := vtab tk117 55 rfl
theorem e117_110 (L : VL) (st : List Value) (h : VG) (x : Int32) : ev 117 110 L (.int x :: st) h = if x = 0 then ev 117 113 L st h else ev 117 139 L st h := G_if_ne f117_110 (by decide)
theorem f117_113 : fetch 117 113 = some (.aload 8, 2) := vtab tk117 56 rfl
theorem e117_113 (l0 l1 l2 l3 l4 l5 l6 l7 : Option Value) (L : VL) (st : List Value) (h : VG) (x : Nat) : ev 117 113 (l0 :: l1 :: l2 :: l3 :: l4 :: l5 :: l6 :: l7 :: some (.ref x) :: L) (st) h = ev 117 115 (l0 :: l1 :: l2 :: l3 :: l4 :: l5 :: l6 :: l7 :: some (.ref x) :: L) (.ref x :: st) h := G_aload f117_113 rfl
theorem f117_115 : fetch 117 115 = some (.iload 4, 2) := vtab tk117 57 rfl
theorem e117_115 (l0 l1 l2 l3 : Option Value) (L : VL) (st : List Value) (h : VG) (x : Int32) : ev 117 115 (l0 :: l1 :: l2 :: l3 :: some (.int x) :: L) (st) h = ev 117 117 (l0 :: l1 :: l2 :: l3 :: some (.int x) :: L) (.int x :: st) h := G_iload f117_115 rfl
theorem f117_117 : fetch 117 117 = some (.iload 10, 2) := vtab tk117 58 rfl
theorem e117_117 (l0 l1 l2 l3 l4 l5 l6 l7 l8 l9 : Option Value) (L : VL) (st : List Value) (h : VG) (x : Int32) : ev 117 117 (l0 :: l1 :: l2 :: l3 :: l4 :: l5 :: l6 :: l7 :: l8 :: l9 :: some (.int x) :: L) (st) h = ev 117 119 (l0 :: l1 :: l2 :: l3 :: l4 :: l5 :: l6 :: l7 :: l8 :: l9 :: some (.int x) :: L) (.int x :: st) h := G_iload f117_117 rfl
theorem f117_119 : fetch 117 119 = some (.iadd, 1) := vtab tk117 59 rfl
theorem e117_119 (L : VL) (st : List Value) (h : VG) (x y : Int32) : ev 117 119 L (.int y :: .int x :: st) h = ev 117 120 L (.int (x + y) :: st) h := G_iadd f117_119
theorem f117_120 : fetch 117 120 = some (.iload 6, 2) := vtab tk117 60 rfl
theorem e117_120 (l0 l1 l2 l3 l4 l5 : Option Value) (L : VL) (st : List Value) (h : VG) (x : Int32) : ev 117 120 (l0 :: l1 :: l2 :: l3 :: l4 :: l5 :: some (.int x) :: L) (st) h = ev 117 122 (l0 :: l1 :: l2 :: l3 :: l4 :: l5 :: some (.int x) :: L) (.int x :: st) h := G_iload f117_120 rfl
theorem f117_122 : fetch 117 122 = some (.aload 7, 2) := vtab tk117 61 rfl
theorem e117_122 (l0 l1 l2 l3 l4 l5 l6 : Option Value) (L : VL) (st : List Value) (h : VG) (x : Nat) : ev 117 122 (l0 :: l1 :: l2 :: l3 :: l4 :: l5 :: l6 :: some (.ref x) :: L) (st) h = ev 117 124 (l0 :: l1 :: l2 :: l3 :: l4 :: l5 :: l6 :: some (.ref x) :: L) (.ref x :: st) h := G_aload f117_122 rfl
theorem f117_124 : fetch 117 124 = some (.iload_n 2, 1) := vtab tk117 62 rfl
theorem e117_124 (l0 l1 : Option Value) (L : VL) (st : List Value) (h : VG) (x : Int32) : ev 117 124 (l0 :: l1 :: some (.int x) :: L) (st) h = ev 117 125 (l0 :: l1 :: some (.int x) :: L) (.int x :: st) h := G_iload_n f117_124 rfl
theorem f117_125 : fetch 117 125 = some (.iload 10, 2) := vtab tk117 63 rfl
theorem e117_125 (l0 l1 l2 l3 l4 l5 l6 l7 l8 l9 : Option Value) (L : VL) (st : List Value) (h : VG) (x : Int32) : ev 117 125 (l0 :: l1 :: l2 :: l3 :: l4 :: l5 :: l6 :: l7 :: l8 :: l9 :: some (.int x) :: L) (st) h = ev 117 127 (l0 :: l1 :: l2 :: l3 :: l4 :: l5 :: l6 :: l7 :: l8 :: l9 :: some (.int x) :: L) (.int x :: st) h := G_iload f117_125 rfl
theorem f117_127 : fetch 117 127 = some (.iadd, 1) := vtab tk117 64 rfl
theorem e117_127 (L : VL) (st : List Value) (h : VG) (x y : Int32) : ev 117 127 L (.int y :: .int x :: st) h = ev 117 128 L (.int (x + y) :: st) h := G_iadd f117_127
theorem f117_128 : fetch 117 128 = some (.iload 6, 2) := vtab tk117 65 rfl
theorem e117_128 (l0 l1 l2 l3 l4 l5 : Option Value) (L : VL) (st : List Value) (h : VG) (x : Int32) : ev 117 128 (l0 :: l1 :: l2 :: l3 :: l4 :: l5 :: some (.int x) :: L) (st) h = ev 117 130 (l0 :: l1 :: l2 :: l3 :: l4 :: l5 :: some (.int x) :: L) (.int x :: st) h := G_iload f117_128 rfl
theorem f117_130 : fetch 117 130 = some (.invokevirtual 207, 3) := vtab tk117 66 rfl
theorem e117_130 (L : VL) (st : List Value) (h : VG) (b : Nat) (x0 : Int32) (x1 : Int32) (ho : ob h b 1) (hs : catS st ≤ 8) : ev 117 130 L (.int x1 :: .int x0 :: .ref b :: st) h = (ev 17 0 [some (.ref b), some (.int x0), some (.int x1)] [] h).bind fun q => ev 117 133 L (q.1.toList ++ st) q.2 := G_callv (k := 1) (p := 739) (ars := [.int x0, .int x1]) f117_130 lkC_11_207 (by decide) (by decide +kernel) rfl (vcls_ob (ci := 1) (by decide) ho) (Nat.le_of_ble_eq_true rfl) hs rfl
theorem f117_133 : fetch 117 133 = some (.invokevirtual 221, 3) := vtab tk117 67 rfl
theorem e117_133 (L : VL) (st : List Value) (h : VG) (b : Nat) (x0 : Int32) (x1 : Int32) (x2 : Int64) (ho : ob h b 1) (hs : catS st ≤ 8) : ev 117 133 L (.long x2 :: .int x1 :: .int x0 :: .ref b :: st) h = (ev 18 0 [some (.ref b), some (.int x0), some (.int x1), some (.long x2), none] [] h).bind fun q => ev 117 136 L (q.1.toList ++ st) q.2 := G_callv (k := 1) (p := 795) (ars := [.int x0, .int x1, .long x2]) f117_133 lkC_11_221 (by decide) (by decide +kernel) rfl (vcls_ob (ci := 1) (by decide) ho) (Nat.le_of_ble_eq_true rfl) hs rfl
theorem f117_136 : fetch 117 136 = some (.iinc 9 1, 3) := vtab tk117 68 rfl
theorem e117_136 (l0 l1 l2 l3 l4 l5 l6 l7 l8 : Option Value) (L : VL) (st : List Value) (h : VG) (x : Int32) : ev 117 136 (l0 :: l1 :: l2 :: l3 :: l4 :: l5 :: l6 :: l7 :: l8 :: some (.int x) :: L) (st) h = ev 117 139 (l0 :: l1 :: l2 :: l3 :: l4 :: l5 :: l6 :: l7 :: vkk l8 :: some (.int (x + (1 : Int32))) :: L) (st) h := G_iinc f117_136 rfl (by decide) (S1_9 l0 l1 l2 l3 l4 l5 l6 l7 l8 (some (.int x)) L _)
theorem f117_139 : fetch 117 139 = some (.iinc 10 1, 3) := vtab tk117 69 rfl
theorem e117_139 (l0 l1 l2 l3 l4 l5 l6 l7 l8 l9 : Option Value) (L : VL) (st : List Value) (h : VG) (x : Int32) : ev 117 139 (l0 :: l1 :: l2 :: l3 :: l4 :: l5 :: l6 :: l7 :: l8 :: l9 :: some (.int x) :: L) (st) h = ev 117 142 (l0 :: l1 :: l2 :: l3 :: l4 :: l5 :: l6 :: l7 :: l8 :: vkk l9 :: some (.int (x + (1 : Int32))) :: L) (st) h := G_iinc f117_139 rfl (by decide) (S1_10 l0 l1 l2 l3 l4 l5 l6 l7 l8 l9 (some (.int x)) L _)
theorem f117_142 : fetch 117 142 = some (.goto (-73), 3) := vtab tk117 70 rfl
theorem e117_142 (L : VL) (st : List Value) (h : VG) : ev 117 142 L (st) h = ev 117 69 L (st) h := G_goto f117_142 (by decide)
theorem f117_145 : fetch 117 145 = some (.iload 9, 2) := vtab tk117 71 rfl
theorem e117_145 (l0 l1 l2 l3 l4 l5 l6 l7 l8 : Option Value) (L : VL) (st : List Value) (h : VG) (x : Int32) : ev 117 145 (l0 :: l1 :: l2 :: l3 :: l4 :: l5 :: l6 :: l7 :: l8 :: some (.int x) :: L) (st) h = ev 117 147 (l0 :: l1 :: l2 :: l3 :: l4 :: l5 :: l6 :: l7 :: l8 :: some (.int x) :: L) (.int x :: st) h := G_iload f117_145 rfl
theorem f117_147 : fetch 117 147 = some (.ireturn, 1) := vtab tk117 72 rfl
theorem e117_147 (L : VL) (h : VG) (x : Int32) : ev 117 147 L [.int x] h = some (some (.int x), h) := G_iret f117_147 (ty := .int) (by decide) rfl
/-! 118 GuestCalls.paste(IIIII)Z -/
def tb118 : List (Nat × Instr × Nat) := [(0, .aload_n 0, 1), (1, .iconst 0, 1), (2, .putfield 86, 3), (5, .iload_n 1, 1), (6, .invokestatic 183, 3), (9, .ifCond .eq 10, 3), (12, .iload_n 3, 1), (13, .invokestatic 183, 3), (16, .ifCond .ne 5, 3), (19, .iconst 0, 1), (20, .ireturn, 1), (21, .aload_n 0, 1), (22, .getfield 37, 3), (25, .getfield 186, 3), (28, .iload_n 1, 1), (29, .aaload, 1), (30, .astore 6, 2), (32, .aload_n 0, 1), (33, .getfield 37, 3), (36, .getfield 186, 3), (39, .iload_n 3, 1), (40, .aaload, 1), (41, .astore 7, 2), (43, .aload_n 0, 1), (44, .aload 7, 2), (46, .aload 6, 2), (48, .invokevirtual 247, 3), (51, .invokevirtual 180, 3), (54, .ifCond .ne 34, 3), (57, .aload_n 0, 1), (58, .aload 6, 2), (60, .iload_n 2, 1), (61, .iload 5, 2), (63, .invokevirtual 251, 3), (66, .invokevirtual 180, 3), (69, .ifCond .ne 19, 3), (72, .aload_n 0, 1), (73, .aload 7, 2), (75, .iload 4, 2), (77, .iload 5, 2), (79, .invokevirtual 251, 3), (82, .invokevirtual 180, 3), (85, .ifCond .eq 5, 3), (88, .iconst 0, 1), (89, .ireturn, 1), (90, .aload 7, 2), (92, .getfield 254, 3), (95, .bipush 9, 2), (97, .if_icmp .ne 14, 3), (100, .aload 6, 2), (102, .iload_n 2, 1), (103, .iload 5, 2), (105, .invokevirtual 257, 3), (108, .goto 5, 3), (111, .iload 5, 2), (113, .istore 8, 2), (115, .aload 7, 2), (117, .aload 6, 2), (119, .iload_n 2, 1), (120, .iload 4, 2), (122, .iload 8, 2), (124, .invokevirtual 260, 3), (127, .iload 8, 2), (129, .iload 5, 2), (131, .if_icmp .eq 11, 3), (134, .aload_n 0, 1), (135, .iconst 2, 1), (136, .invokevirtual 180, 3), (139, .ifCond .ne 7, 3), (142, .iconst 1, 1), (143, .goto 4, 3), (146, .iconst 0, 1), (147, .ireturn, 1)]
theorem tk118 : tb118.all (fun q => decide (fetch 118 q.1 = some q.2)) = true := by decide +kernel
theorem f118_0 : fetch 118 0 = some (.aload_n 0, 1) := vtab tk118 0 rfl
theorem e118_0 (L : VL) (st : List Value) (h : VG) (x : Nat) : ev 118 0 (some (.ref x) :: L) (st) h = ev 118 1 (some (.ref x) :: L) (.ref x :: st) h := G_aload_n f118_0 rfl
theorem f118_1 : fetch 118 1 = some (.iconst 0, 1) := vtab tk118 1 rfl
theorem e118_1 (L : VL) (st : List Value) (h : VG) : ev 118 1 L (st) h = ev 118 2 L (.int (0 : Int32) :: st) h := G_iconst f118_1 (by decide)
theorem f118_2 : fetch 118 2 = some (.putfield 86, 3) := vtab tk118 2 rfl
theorem e118_2 (L : VL) (st : List Value) (h : VG) (a : Nat) (x : Int32) (ho : ob h a 10) : ev 118 2 L (.int x :: .ref a :: st) h = ev 118 5 L (st) (pI h a 9 x) := G_putI (p := 438) f118_2 lkF_11_86 (by decide) (by decide) (by decide +kernel) ⟨rfl, rfl⟩ ho
theorem f118_5 : fetch 118 5 = some (.iload_n 1, 1) := vtab tk118 3 rfl
theorem e118_5 (l0 : Option Value) (L : VL) (st : List Value) (h : VG) (x : Int32) : ev 118 5 (l0 :: some (.int x) :: L) (st) h = ev 118 6 (l0 :: some (.int x) :: L) (.int x :: st) h := G_iload_n f118_5 rfl
theorem f118_6 : fetch 118 6 = some (.invokestatic 183, 3) := vtab tk118 4 rfl
theorem e118_6 (L : VL) (st : List Value) (h : VG) (x0 : Int32) (hs : catS st ≤ 8) : ev 118 6 L (.int x0 :: st) h = (ev 102 0 [some (.int x0)] [] h).bind fun q => ev 118 9 L (q.1.toList ++ st) q.2 := G_calls (k := 0) (p := 700) (ars := [.int x0]) f118_6 lkC_11_183 (by decide) (by decide +kernel) rfl (Nat.le_of_ble_eq_true rfl) hs rfl
theorem f118_9 : fetch 118 9 = some (.ifCond .eq 10, 3) := vtab tk118 5 rfl
theorem e118_9 (L : VL) (st : List Value) (h : VG) (x : Int32) : ev 118 9 L (.int x :: st) h = if x = 0 then ev 118 19 L st h else ev 118 12 L st h := G_if_eq f118_9 (by decide)
theorem f118_12 : fetch 118 12 = some (.iload_n 3, 1) := vtab tk118 6 rfl
theorem e118_12 (l0 l1 l2 : Option Value) (L : VL) (st : List Value) (h : VG) (x : Int32) : ev 118 12 (l0 :: l1 :: l2 :: some (.int x) :: L) (st) h = ev 118 13 (l0 :: l1 :: l2 :: some (.int x) :: L) (.int x :: st) h := G_iload_n f118_12 rfl
theorem f118_13 : fetch 118 13 = some (.invokestatic 183, 3) := vtab tk118 7 rfl
theorem e118_13 (L : VL) (st : List Value) (h : VG) (x0 : Int32) (hs : catS st ≤ 8) : ev 118 13 L (.int x0 :: st) h = (ev 102 0 [some (.int x0)] [] h).bind fun q => ev 118 16 L (q.1.toList ++ st) q.2 := G_calls (k := 0) (p := 700) (ars := [.int x0]) f118_13 lkC_11_183 (by decide) (by decide +kernel) rfl (Nat.le_of_ble_eq_true rfl) hs rfl
theorem f118_16 : fetch 118 16 = some (.ifCond .ne 5, 3) := vtab tk118 8 rfl
theorem e118_16 (L : VL) (st : List Value) (h : VG) (x : Int32) : ev 118 16 L (.int x :: st) h = if x = 0 then ev 118 19 L st h else ev 118 21 L st h := G_if_ne f118_16 (by decide)
theorem f118_19 : fetch 118 19 = some (.iconst 0, 1) := vtab tk118 9 rfl
theorem e118_19 (L : VL) (st : List Value) (h : VG) : ev 118 19 L (st) h = ev 118 20 L (.int (0 : Int32) :: st) h := G_iconst f118_19 (by decide)
theorem f118_20 : fetch 118 20 = some (.ireturn, 1) := vtab tk118 10 rfl
theorem e118_20 (L : VL) (h : VG) (x : Int32) (hz : x = 0 ∨ x = 1) : ev 118 20 L [.int x] h = some (some (.int x), h) := G_iret f118_20 (ty := .boolean) (by decide) (vbool hz).1
theorem f118_21 : fetch 118 21 = some (.aload_n 0, 1) := vtab tk118 11 rfl
theorem e118_21 (L : VL) (st : List Value) (h : VG) (x : Nat) : ev 118 21 (some (.ref x) :: L) (st) h = ev 118 22 (some (.ref x) :: L) (.ref x :: st) h := G_aload_n f118_21 rfl
theorem f118_22 : fetch 118 22 = some (.getfield 37, 3) := vtab tk118 12 rfl
theorem e118_22 (L : VL) (st : List Value) (h : VG) (a : Nat) (ho : ob h a 10) (hr : isR h a 6) : ev 118 22 L (.ref a :: st) h = ev 118 25 L (.ref (gR h a 6) :: st) h := G_getR (p := 435) f118_22 lkF_11_37 (by decide) (by decide) ho hr
theorem f118_25 : fetch 118 25 = some (.getfield 186, 3) := vtab tk118 13 rfl
theorem e118_25 (L : VL) (st : List Value) (h : VG) (a : Nat) (ho : ob h a 8) (hr : isR h a 1) : ev 118 25 L (.ref a :: st) h = ev 118 28 L (.ref (gR h a 1) :: st) h := G_getR (p := 385) f118_25 lkF_11_186 (by decide) (by decide) ho hr
theorem f118_28 : fetch 118 28 = some (.iload_n 1, 1) := vtab tk118 14 rfl
theorem e118_28 (l0 : Option Value) (L : VL) (st : List Value) (h : VG) (x : Int32) : ev 118 28 (l0 :: some (.int x) :: L) (st) h = ev 118 29 (l0 :: some (.int x) :: L) (.int x :: st) h := G_iload_n f118_28 rfl
theorem f118_29 : fetch 118 29 = some (.aaload, 1) := vtab tk118 15 rfl
theorem e118_29 (L : VL) (st : List Value) (h : VG) (a : Nat) (i : Int32) (ha : rdR h a) (hi : vp_in i (aln h a)) : ev 118 29 L (.int i :: .ref a :: st) h = ev 118 30 L (va_rf (aR h a i.toNatClampNeg) :: st) h := G_aald' f118_29 ha hi
theorem f118_30 : fetch 118 30 = some (.astore 6, 2) := vtab tk118 16 rfl
theorem e118_30 (l0 l1 l2 l3 l4 l5 l6 : Option Value) (L : VL) (st : List Value) (h : VG) (x : Nat) : ev 118 30 (l0 :: l1 :: l2 :: l3 :: l4 :: l5 :: l6 :: L) (.ref x :: st) h = ev 118 32 (l0 :: l1 :: l2 :: l3 :: l4 :: vkk l5 :: some (.ref x) :: L) (st) h := G_astore f118_30 rfl (S1_6 l0 l1 l2 l3 l4 l5 l6 L _)
theorem f118_32 : fetch 118 32 = some (.aload_n 0, 1) := vtab tk118 17 rfl
theorem e118_32 (L : VL) (st : List Value) (h : VG) (x : Nat) : ev 118 32 (some (.ref x) :: L) (st) h = ev 118 33 (some (.ref x) :: L) (.ref x :: st) h := G_aload_n f118_32 rfl
theorem f118_33 : fetch 118 33 = some (.getfield 37, 3) := vtab tk118 18 rfl
theorem e118_33 (L : VL) (st : List Value) (h : VG) (a : Nat) (ho : ob h a 10) (hr : isR h a 6) : ev 118 33 L (.ref a :: st) h = ev 118 36 L (.ref (gR h a 6) :: st) h := G_getR (p := 435) f118_33 lkF_11_37 (by decide) (by decide) ho hr
theorem f118_36 : fetch 118 36 = some (.getfield 186, 3) := vtab tk118 19 rfl
theorem e118_36 (L : VL) (st : List Value) (h : VG) (a : Nat) (ho : ob h a 8) (hr : isR h a 1) : ev 118 36 L (.ref a :: st) h = ev 118 39 L (.ref (gR h a 1) :: st) h := G_getR (p := 385) f118_36 lkF_11_186 (by decide) (by decide) ho hr
theorem f118_39 : fetch 118 39 = some (.iload_n 3, 1) := vtab tk118 20 rfl
theorem e118_39 (l0 l1 l2 : Option Value) (L : VL) (st : List Value) (h : VG) (x : Int32) : ev 118 39 (l0 :: l1 :: l2 :: some (.int x) :: L) (st) h = ev 118 40 (l0 :: l1 :: l2 :: some (.int x) :: L) (.int x :: st) h := G_iload_n f118_39 rfl
theorem f118_40 : fetch 118 40 = some (.aaload, 1) := vtab tk118 21 rfl
theorem e118_40 (L : VL) (st : List Value) (h : VG) (a : Nat) (i : Int32) (ha : rdR h a) (hi : vp_in i (aln h a)) : ev 118 40 L (.int i :: .ref a :: st) h = ev 118 41 L (va_rf (aR h a i.toNatClampNeg) :: st) h := G_aald' f118_40 ha hi
theorem f118_41 : fetch 118 41 = some (.astore 7, 2) := vtab tk118 22 rfl
theorem e118_41 (l0 l1 l2 l3 l4 l5 l6 l7 : Option Value) (L : VL) (st : List Value) (h : VG) (x : Nat) : ev 118 41 (l0 :: l1 :: l2 :: l3 :: l4 :: l5 :: l6 :: l7 :: L) (.ref x :: st) h = ev 118 43 (l0 :: l1 :: l2 :: l3 :: l4 :: l5 :: vkk l6 :: some (.ref x) :: L) (st) h := G_astore f118_41 rfl (S1_7 l0 l1 l2 l3 l4 l5 l6 l7 L _)
theorem f118_43 : fetch 118 43 = some (.aload_n 0, 1) := vtab tk118 23 rfl
theorem e118_43 (L : VL) (st : List Value) (h : VG) (x : Nat) : ev 118 43 (some (.ref x) :: L) (st) h = ev 118 44 (some (.ref x) :: L) (.ref x :: st) h := G_aload_n f118_43 rfl
theorem f118_44 : fetch 118 44 = some (.aload 7, 2) := vtab tk118 24 rfl
theorem e118_44 (l0 l1 l2 l3 l4 l5 l6 : Option Value) (L : VL) (st : List Value) (h : VG) (x : Nat) : ev 118 44 (l0 :: l1 :: l2 :: l3 :: l4 :: l5 :: l6 :: some (.ref x) :: L) (st) h = ev 118 46 (l0 :: l1 :: l2 :: l3 :: l4 :: l5 :: l6 :: some (.ref x) :: L) (.ref x :: st) h := G_aload f118_44 rfl
theorem f118_46 : fetch 118 46 = some (.aload 6, 2) := vtab tk118 25 rfl
theorem e118_46 (l0 l1 l2 l3 l4 l5 : Option Value) (L : VL) (st : List Value) (h : VG) (x : Nat) : ev 118 46 (l0 :: l1 :: l2 :: l3 :: l4 :: l5 :: some (.ref x) :: L) (st) h = ev 118 48 (l0 :: l1 :: l2 :: l3 :: l4 :: l5 :: some (.ref x) :: L) (.ref x :: st) h := G_aload f118_46 rfl
theorem f118_48 : fetch 118 48 = some (.invokevirtual 247, 3) := vtab tk118 26 rfl
theorem e118_48 (L : VL) (st : List Value) (h : VG) (b : Nat) (x0 : Nat) (ho : ob h b 1) (hs : catS st ≤ 8) : ev 118 48 L (.ref x0 :: .ref b :: st) h = (ev 13 0 [some (.ref b), some (.ref x0), none] [] h).bind fun q => ev 118 51 L (q.1.toList ++ st) q.2 := G_callv (k := 1) (p := 835) (ars := [.ref x0]) f118_48 lkC_11_247 (by decide) (by decide +kernel) rfl (vcls_ob (ci := 1) (by decide) ho) (Nat.le_of_ble_eq_true rfl) hs rfl
theorem f118_51 : fetch 118 51 = some (.invokevirtual 180, 3) := vtab tk118 27 rfl
theorem e118_51 (L : VL) (st : List Value) (h : VG) (b : Nat) (x0 : Int32) (ho : ob h b 10) (hs : catS st ≤ 8) : ev 118 51 L (.int x0 :: .ref b :: st) h = (ev 100 0 [some (.ref b), some (.int x0)] [] h).bind fun q => ev 118 54 L (q.1.toList ++ st) q.2 := G_callv (k := 1) (p := 692) (ars := [.int x0]) f118_51 lkC_11_180 (by decide) (by decide +kernel) rfl (vcls_ob (ci := 10) (by decide) ho) (Nat.le_of_ble_eq_true rfl) hs rfl
theorem f118_54 : fetch 118 54 = some (.ifCond .ne 34, 3) := vtab tk118 28 rfl
theorem e118_54 (L : VL) (st : List Value) (h : VG) (x : Int32) : ev 118 54 L (.int x :: st) h = if x = 0 then ev 118 57 L st h else ev 118 88 L st h := G_if_ne f118_54 (by decide)
theorem f118_57 : fetch 118 57 = some (.aload_n 0, 1) := vtab tk118 29 rfl
theorem e118_57 (L : VL) (st : List Value) (h : VG) (x : Nat) : ev 118 57 (some (.ref x) :: L) (st) h = ev 118 58 (some (.ref x) :: L) (.ref x :: st) h := G_aload_n f118_57 rfl
theorem f118_58 : fetch 118 58 = some (.aload 6, 2) := vtab tk118 30 rfl
theorem e118_58 (l0 l1 l2 l3 l4 l5 : Option Value) (L : VL) (st : List Value) (h : VG) (x : Nat) : ev 118 58 (l0 :: l1 :: l2 :: l3 :: l4 :: l5 :: some (.ref x) :: L) (st) h = ev 118 60 (l0 :: l1 :: l2 :: l3 :: l4 :: l5 :: some (.ref x) :: L) (.ref x :: st) h := G_aload f118_58 rfl
theorem f118_60 : fetch 118 60 = some (.iload_n 2, 1) := vtab tk118 31 rfl
theorem e118_60 (l0 l1 : Option Value) (L : VL) (st : List Value) (h : VG) (x : Int32) : ev 118 60 (l0 :: l1 :: some (.int x) :: L) (st) h = ev 118 61 (l0 :: l1 :: some (.int x) :: L) (.int x :: st) h := G_iload_n f118_60 rfl
theorem f118_61 : fetch 118 61 = some (.iload 5, 2) := vtab tk118 32 rfl
theorem e118_61 (l0 l1 l2 l3 l4 : Option Value) (L : VL) (st : List Value) (h : VG) (x : Int32) : ev 118 61 (l0 :: l1 :: l2 :: l3 :: l4 :: some (.int x) :: L) (st) h = ev 118 63 (l0 :: l1 :: l2 :: l3 :: l4 :: some (.int x) :: L) (.int x :: st) h := G_iload f118_61 rfl
theorem f118_63 : fetch 118 63 = some (.invokevirtual 251, 3) := vtab tk118 33 rfl
theorem e118_63 (L : VL) (st : List Value) (h : VG) (b : Nat) (x0 : Int32) (x1 : Int32) (ho : ob h b 1) (hs : catS st ≤ 8) : ev 118 63 L (.int x1 :: .int x0 :: .ref b :: st) h = (ev 14 0 [some (.ref b), some (.int x0), some (.int x1)] [] h).bind fun q => ev 118 66 L (q.1.toList ++ st) q.2 := G_callv (k := 1) (p := 839) (ars := [.int x0, .int x1]) f118_63 lkC_11_251 (by decide) (by decide +kernel) rfl (vcls_ob (ci := 1) (by decide) ho) (Nat.le_of_ble_eq_true rfl) hs rfl
theorem f118_66 : fetch 118 66 = some (.invokevirtual 180, 3) := vtab tk118 34 rfl
theorem e118_66 (L : VL) (st : List Value) (h : VG) (b : Nat) (x0 : Int32) (ho : ob h b 10) (hs : catS st ≤ 8) : ev 118 66 L (.int x0 :: .ref b :: st) h = (ev 100 0 [some (.ref b), some (.int x0)] [] h).bind fun q => ev 118 69 L (q.1.toList ++ st) q.2 := G_callv (k := 1) (p := 692) (ars := [.int x0]) f118_66 lkC_11_180 (by decide) (by decide +kernel) rfl (vcls_ob (ci := 10) (by decide) ho) (Nat.le_of_ble_eq_true rfl) hs rfl
theorem f118_69 : fetch 118 69 = some (.ifCond .ne 19, 3) := vtab tk118 35 rfl
theorem e118_69 (L : VL) (st : List Value) (h : VG) (x : Int32) : ev 118 69 L (.int x :: st) h = if x = 0 then ev 118 72 L st h else ev 118 88 L st h := G_if_ne f118_69 (by decide)
theorem f118_72 : fetch 118 72 = some (.aload_n 0, 1) := vtab tk118 36 rfl
theorem e118_72 (L : VL) (st : List Value) (h : VG) (x : Nat) : ev 118 72 (some (.ref x) :: L) (st) h = ev 118 73 (some (.ref x) :: L) (.ref x :: st) h := G_aload_n f118_72 rfl
theorem f118_73 : fetch 118 73 = some (.aload 7, 2) := vtab tk118 37 rfl
theorem e118_73 (l0 l1 l2 l3 l4 l5 l6 : Option Value) (L : VL) (st : List Value) (h : VG) (x : Nat) : ev 118 73 (l0 :: l1 :: l2 :: l3 :: l4 :: l5 :: l6 :: some (.ref x) :: L) (st) h = ev 118 75 (l0 :: l1 :: l2 :: l3 :: l4 :: l5 :: l6 :: some (.ref x) :: L) (.ref x :: st) h := G_aload f118_73 rfl
theorem f118_75 : fetch 118 75 = some (.iload 4, 2) := vtab tk118 38 rfl
theorem e118_75 (l0 l1 l2 l3 : Option Value) (L : VL) (st : List Value) (h : VG) (x : Int32) : ev 118 75 (l0 :: l1 :: l2 :: l3 :: some (.int x) :: L) (st) h = ev 118 77 (l0 :: l1 :: l2 :: l3 :: some (.int x) :: L) (.int x :: st) h := G_iload f118_75 rfl
theorem f118_77 : fetch 118 77 = some (.iload 5, 2) := vtab tk118 39 rfl
theorem e118_77 (l0 l1 l2 l3 l4 : Option Value) (L : VL) (st : List Value) (h : VG) (x : Int32) : ev 118 77 (l0 :: l1 :: l2 :: l3 :: l4 :: some (.int x) :: L) (st) h = ev 118 79 (l0 :: l1 :: l2 :: l3 :: l4 :: some (.int x) :: L) (.int x :: st) h := G_iload f118_77 rfl
theorem f118_79 : fetch 118 79 = some (.invokevirtual 251, 3) := vtab tk118 40 rfl
theorem e118_79 (L : VL) (st : List Value) (h : VG) (b : Nat) (x0 : Int32) (x1 : Int32) (ho : ob h b 1) (hs : catS st ≤ 8) : ev 118 79 L (.int x1 :: .int x0 :: .ref b :: st) h = (ev 14 0 [some (.ref b), some (.int x0), some (.int x1)] [] h).bind fun q => ev 118 82 L (q.1.toList ++ st) q.2 := G_callv (k := 1) (p := 839) (ars := [.int x0, .int x1]) f118_79 lkC_11_251 (by decide) (by decide +kernel) rfl (vcls_ob (ci := 1) (by decide) ho) (Nat.le_of_ble_eq_true rfl) hs rfl
theorem f118_82 : fetch 118 82 = some (.invokevirtual 180, 3) := vtab tk118 41 rfl
theorem e118_82 (L : VL) (st : List Value) (h : VG) (b : Nat) (x0 : Int32) (ho : ob h b 10) (hs : catS st ≤ 8) : ev 118 82 L (.int x0 :: .ref b :: st) h = (ev 100 0 [some (.ref b), some (.int x0)] [] h).bind fun q => ev 118 85 L (q.1.toList ++ st) q.2 := G_callv (k := 1) (p := 692) (ars := [.int x0]) f118_82 lkC_11_180 (by decide) (by decide +kernel) rfl (vcls_ob (ci := 10) (by decide) ho) (Nat.le_of_ble_eq_true rfl) hs rfl
theorem f118_85 : fetch 118 85 = some (.ifCond .eq 5, 3) := vtab tk118 42 rfl
theorem e118_85 (L : VL) (st : List Value) (h : VG) (x : Int32) : ev 118 85 L (.int x :: st) h = if x = 0 then ev 118 90 L st h else ev 118 88 L st h := G_if_eq f118_85 (by decide)
theorem f118_88 : fetch 118 88 = some (.iconst 0, 1) := vtab tk118 43 rfl
theorem e118_88 (L : VL) (st : List Value) (h : VG) : ev 118 88 L (st) h = ev 118 89 L (.int (0 : Int32) :: st) h := G_iconst f118_88 (by decide)
theorem f118_89 : fetch 118 89 = some (.ireturn, 1) := vtab tk118 44 rfl
theorem e118_89 (L : VL) (h : VG) (x : Int32) (hz : x = 0 ∨ x = 1) : ev 118 89 L [.int x] h = some (some (.int x), h) := G_iret f118_89 (ty := .boolean) (by decide) (vbool hz).1
theorem f118_90 : fetch 118 90 = some (.aload 7, 2) := vtab tk118 45 rfl
theorem e118_90 (l0 l1 l2 l3 l4 l5 l6 : Option Value) (L : VL) (st : List Value) (h : VG) (x : Nat) : ev 118 90 (l0 :: l1 :: l2 :: l3 :: l4 :: l5 :: l6 :: some (.ref x) :: L) (st) h = ev 118 92 (l0 :: l1 :: l2 :: l3 :: l4 :: l5 :: l6 :: some (.ref x) :: L) (.ref x :: st) h := G_aload f118_90 rfl
theorem f118_92 : fetch 118 92 = some (.getfield 254, 3) := vtab tk118 46 rfl
theorem e118_92 (L : VL) (st : List Value) (h : VG) (a : Nat) (ho : ob h a 1) : ev 118 92 L (.ref a :: st) h = ev 118 95 L (.int (gI h a 0) :: st) h := G_getI (p := 367) f118_92 lkF_11_254 (by decide) (by decide) ho
theorem f118_95 : fetch 118 95 = some (.bipush 9, 2) := vtab tk118 47 rfl
theorem e118_95 (L : VL) (st : List Value) (h : VG) : ev 118 95 L (st) h = ev 118 97 L (.int (9 : Int32) :: st) h := G_bipush f118_95 (by decide)
theorem f118_97 : fetch 118 97 = some (.if_icmp .ne 14, 3) := vtab tk118 48 rfl
theorem e118_97 (L : VL) (st : List Value) (h : VG) (x y : Int32) : ev 118 97 L (.int y :: .int x :: st) h = if x = y then ev 118 100 L st h else ev 118 111 L st h := G_icmp_ne f118_97 (by decide)
theorem f118_100 : fetch 118 100 = some (.aload 6, 2) := vtab tk118 49 rfl
theorem e118_100 (l0 l1 l2 l3 l4 l5 : Option Value) (L : VL) (st : List Value) (h : VG) (x : Nat) : ev 118 100 (l0 :: l1 :: l2 :: l3 :: l4 :: l5 :: some (.ref x) :: L) (st) h = ev 118 102 (l0 :: l1 :: l2 :: l3 :: l4 :: l5 :: some (.ref x) :: L) (.ref x :: st) h := G_aload f118_100 rfl
theorem f118_102 : fetch 118 102 = some (.iload_n 2, 1) := vtab tk118 50 rfl
theorem e118_102 (l0 l1 : Option Value) (L : VL) (st : List Value) (h : VG) (x : Int32) : ev 118 102 (l0 :: l1 :: some (.int x) :: L) (st) h = ev 118 103 (l0 :: l1 :: some (.int x) :: L) (.int x :: st) h := G_iload_n f118_102 rfl
theorem f118_103 : fetch 118 103 = some (.iload 5, 2) := vtab tk118 51 rfl
theorem e118_103 (l0 l1 l2 l3 l4 : Option Value) (L : VL) (st : List Value) (h : VG) (x : Int32) : ev 118 103 (l0 :: l1 :: l2 :: l3 :: l4 :: some (.int x) :: L) (st) h = ev 118 105 (l0 :: l1 :: l2 :: l3 :: l4 :: some (.int x) :: L) (.int x :: st) h := G_iload f118_103 rfl
theorem f118_105 : fetch 118 105 = some (.invokevirtual 257, 3) := vtab tk118 52 rfl
theorem e118_105 (L : VL) (st : List Value) (h : VG) (b : Nat) (x0 : Int32) (x1 : Int32) (ho : ob h b 1) (hs : catS st ≤ 8) : ev 118 105 L (.int x1 :: .int x0 :: .ref b :: st) h = (ev 15 0 [some (.ref b), some (.int x0), some (.int x1), none] [] h).bind fun q => ev 118 108 L (q.1.toList ++ st) q.2 := G_callv (k := 1) (p := 843) (ars := [.int x0, .int x1]) f118_105 lkC_11_257 (by decide) (by decide +kernel) rfl (vcls_ob (ci := 1) (by decide) ho) (Nat.le_of_ble_eq_true rfl) hs rfl
theorem f118_108 : fetch 118 108 = some (.goto 5, 3) := vtab tk118 53 rfl
theorem e118_108 (L : VL) (st : List Value) (h : VG) : ev 118 108 L (st) h = ev 118 113 L (st) h := G_goto f118_108 (by decide)
theorem f118_111 : fetch 118 111 = some (.iload 5, 2) := vtab tk118 54 rfl
theorem e118_111 (l0 l1 l2 l3 l4 : Option Value) (L : VL) (st : List Value) (h : VG) (x : Int32) : ev 118 111 (l0 :: l1 :: l2 :: l3 :: l4 :: some (.int x) :: L) (st) h = ev 118 113 (l0 :: l1 :: l2 :: l3 :: l4 :: some (.int x) :: L) (.int x :: st) h := G_iload f118_111 rfl
theorem f118_113 : fetch 118 113 = some (.istore 8, 2) := vtab tk118 55 rfl
theorem e118_113 (l0 l1 l2 l3 l4 l5 l6 l7 l8 : Option Value) (L : VL) (st : List Value) (h : VG) (x : Int32) : ev 118 113 (l0 :: l1 :: l2 :: l3 :: l4 :: l5 :: l6 :: l7 :: l8 :: L) (.int x :: st) h = ev 118 115 (l0 :: l1 :: l2 :: l3 :: l4 :: l5 :: l6 :: vkk l7 :: some (.int x) :: L) (st) h := G_istore f118_113 rfl (S1_8 l0 l1 l2 l3 l4 l5 l6 l7 l8 L _)
theorem f118_115 : fetch 118 115 = some (.aload 7, 2) := vtab tk118 56 rfl
theorem e118_115 (l0 l1 l2 l3 l4 l5 l6 : Option Value) (L : VL) (st : List Value) (h : VG) (x : Nat) : ev 118 115 (l0 :: l1 :: l2 :: l3 :: l4 :: l5 :: l6 :: some (.ref x) :: L) (st) h = ev 118 117 (l0 :: l1 :: l2 :: l3 :: l4 :: l5 :: l6 :: some (.ref x) :: L) (.ref x :: st) h := G_aload f118_115 rfl
theorem f118_117 : fetch 118 117 = some (.aload 6, 2) := vtab tk118 57 rfl
theorem e118_117 (l0 l1 l2 l3 l4 l5 : Option Value) (L : VL) (st : List Value) (h : VG) (x : Nat) : ev 118 117 (l0 :: l1 :: l2 :: l3 :: l4 :: l5 :: some (.ref x) :: L) (st) h = ev 118 119 (l0 :: l1 :: l2 :: l3 :: l4 :: l5 :: some (.ref x) :: L) (.ref x :: st) h := G_aload f118_117 rfl
theorem f118_119 : fetch 118 119 = some (.iload_n 2, 1) := vtab tk118 58 rfl
theorem e118_119 (l0 l1 : Option Value) (L : VL) (st : List Value) (h : VG) (x : Int32) : ev 118 119 (l0 :: l1 :: some (.int x) :: L) (st) h = ev 118 120 (l0 :: l1 :: some (.int x) :: L) (.int x :: st) h := G_iload_n f118_119 rfl
theorem f118_120 : fetch 118 120 = some (.iload 4, 2) := vtab tk118 59 rfl
theorem e118_120 (l0 l1 l2 l3 : Option Value) (L : VL) (st : List Value) (h : VG) (x : Int32) : ev 118 120 (l0 :: l1 :: l2 :: l3 :: some (.int x) :: L) (st) h = ev 118 122 (l0 :: l1 :: l2 :: l3 :: some (.int x) :: L) (.int x :: st) h := G_iload f118_120 rfl
theorem f118_122 : fetch 118 122 = some (.iload 8, 2) := vtab tk118 60 rfl
theorem e118_122 (l0 l1 l2 l3 l4 l5 l6 l7 : Option Value) (L : VL) (st : List Value) (h : VG) (x : Int32) : ev 118 122 (l0 :: l1 :: l2 :: l3 :: l4 :: l5 :: l6 :: l7 :: some (.int x) :: L) (st) h = ev 118 124 (l0 :: l1 :: l2 :: l3 :: l4 :: l5 :: l6 :: l7 :: some (.int x) :: L) (.int x :: st) h := G_iload f118_122 rfl
theorem f118_124 : fetch 118 124 = some (.invokevirtual 260, 3) := vtab tk118 61 rfl
theorem e118_124 (L : VL) (st : List Value) (h : VG) (b : Nat) (x0 : Nat) (x1 : Int32) (x2 : Int32) (x3 : Int32) (ho : ob h b 1) (hs : catS st ≤ 8) : ev 118 124 L (.int x3 :: .int x2 :: .int x1 :: .ref x0 :: .ref b :: st) h = (ev 16 0 [some (.ref b), some (.ref x0), some (.int x1), some (.int x2), some (.int x3)] [] h).bind fun q => ev 118 127 L (q.1.toList ++ st) q.2 := G_callv (k := 1) (p := 847) (ars := [.ref x0, .int x1, .int x2, .int x3]) f118_124 lkC_11_260 (by decide) (by decide +kernel) rfl (vcls_ob (ci := 1) (by decide) ho) (Nat.le_of_ble_eq_true rfl) hs rfl
theorem f118_127 : fetch 118 127 = some (.iload 8, 2) := vtab tk118 62 rfl
theorem e118_127 (l0 l1 l2 l3 l4 l5 l6 l7 : Option Value) (L : VL) (st : List Value) (h : VG) (x : Int32) : ev 118 127 (l0 :: l1 :: l2 :: l3 :: l4 :: l5 :: l6 :: l7 :: some (.int x) :: L) (st) h = ev 118 129 (l0 :: l1 :: l2 :: l3 :: l4 :: l5 :: l6 :: l7 :: some (.int x) :: L) (.int x :: st) h := G_iload f118_127 rfl
theorem f118_129 : fetch 118 129 = some (.iload 5, 2) := vtab tk118 63 rfl
theorem e118_129 (l0 l1 l2 l3 l4 : Option Value) (L : VL) (st : List Value) (h : VG) (x : Int32) : ev 118 129 (l0 :: l1 :: l2 :: l3 :: l4 :: some (.int x) :: L) (st) h = ev 118 131 (l0 :: l1 :: l2 :: l3 :: l4 :: some (.int x) :: L) (.int x :: st) h := G_iload f118_129 rfl
theorem f118_131 : fetch 118 131 = some (.if_icmp .eq 11, 3) := vtab tk118 64 rfl
theorem e118_131 (L : VL) (st : List Value) (h : VG) (x y : Int32) : ev 118 131 L (.int y :: .int x :: st) h = if x = y then ev 118 142 L st h else ev 118 134 L st h := G_icmp_eq f118_131 (by decide)
theorem f118_134 : fetch 118 134 = some (.aload_n 0, 1) := vtab tk118 65 rfl
theorem e118_134 (L : VL) (st : List Value) (h : VG) (x : Nat) : ev 118 134 (some (.ref x) :: L) (st) h = ev 118 135 (some (.ref x) :: L) (.ref x :: st) h := G_aload_n f118_134 rfl
theorem f118_135 : fetch 118 135 = some (.iconst 2, 1) := vtab tk118 66 rfl
theorem e118_135 (L : VL) (st : List Value) (h : VG) : ev 118 135 L (st) h = ev 118 136 L (.int (2 : Int32) :: st) h := G_iconst f118_135 (by decide)
theorem f118_136 : fetch 118 136 = some (.invokevirtual 180, 3) := vtab tk118 67 rfl
theorem e118_136 (L : VL) (st : List Value) (h : VG) (b : Nat) (x0 : Int32) (ho : ob h b 10) (hs : catS st ≤ 8) : ev 118 136 L (.int x0 :: .ref b :: st) h = (ev 100 0 [some (.ref b), some (.int x0)] [] h).bind fun q => ev 118 139 L (q.1.toList ++ st) q.2 := G_callv (k := 1) (p := 692) (ars := [.int x0]) f118_136 lkC_11_180 (by decide) (by decide +kernel) rfl (vcls_ob (ci := 10) (by decide) ho) (Nat.le_of_ble_eq_true rfl) hs rfl
theorem f118_139 : fetch 118 139 = some (.ifCond .ne 7, 3) := vtab tk118 68 rfl
theorem e118_139 (L : VL) (st : List Value) (h : VG) (x : Int32) : ev 118 139 L (.int x :: st) h = if x = 0 then ev 118 142 L st h else ev 118 146 L st h := G_if_ne f118_139 (by decide)
theorem f118_142 : fetch 118 142 = some (.iconst 1, 1) := vtab tk118 69 rfl
theorem e118_142 (L : VL) (st : List Value) (h : VG) : ev 118 142 L (st) h = ev 118 143 L (.int (1 : Int32) :: st) h := G_iconst f118_142 (by decide)
theorem f118_143 : fetch 118 143 = some (.goto 4, 3) := vtab tk118 70 rfl
theorem e118_143 (L : VL) (st : List Value) (h : VG) : ev 118 143 L (st) h = ev 118 147 L (st) h := G_goto f118_143 (by decide)
theorem f118_146 : fetch 118 146 = some (.iconst 0, 1) := vtab tk118 71 rfl
theorem e118_146 (L : VL) (st : List Value) (h : VG) : ev 118 146 L (st) h = ev 118 147 L (.int (0 : Int32) :: st) h := G_iconst f118_146 (by decide)
theorem f118_147 : fetch 118 147 = some (.ireturn, 1) := vtab tk118 72 rfl
theorem e118_147 (L : VL) (h : VG) (x : Int32) (hz : x = 0 ∨ x = 1) : ev 118 147 L [.int x] h = some (some (.int x), h) := G_iret f118_147 (ty := .boolean) (by decide) (vbool hz).1
/-! 119 GuestCalls.unlike(II)I -/
def tb119 : List (Nat × Instr × Nat) := [(0, .aload_n 0, 1), (1, .iconst 0, 1), (2, .putfield 86, 3), (5, .iload_n 1, 1), (6, .invokestatic 183, 3), (9, .ifCond .eq 10, 3), (12, .iload_n 2, 1), (13, .invokestatic 183, 3), (16, .ifCond .ne 6, 3), (19, .bipush (-2), 2), (21, .ireturn, 1), (22, .aload_n 0, 1), (23, .getfield 37, 3), (26, .getfield 186, 3), (29, .iload_n 1, 1), (30, .aaload, 1), (31, .astore_n 3, 1), (32, .aload_n 0, 1), (33, .getfield 37, 3), (36, .getfield 186, 3), (39, .iload_n 2, 1), (40, .aaload, 1), (41, .astore 4, 2), (43, .aload_n 0, 1), (44, .aload_n 3, 1), (45, .invokevirtual 195, 3), (48, .invokevirtual 180, 3), (51, .ifCond .ne 15, 3), (54, .aload_n 0, 1), (55, .aload 4, 2), (57, .invokevirtual 195, 3), (60, .invokevirtual 180, 3), (63, .ifCond .eq 6, 3), (66, .bipush (-2), 2), (68, .ireturn, 1), (69, .aload_n 3, 1), (70, .getfield 199, 3), (73, .aload 4, 2), (75, .getfield 199, 3), (78, .invokestatic 264, 3), (81, .istore 5, 2), (83, .iconst 0, 1), (84, .istore 6, 2), (86, .iload 6, 2), (88, .iload 5, 2), (90, .if_icmp .ge 23, 3), (93, .aload_n 3, 1), (94, .aload 4, 2), (96, .iload 6, 2), (98, .invokevirtual 269, 3), (101, .ifCond .ne 6, 3), (104, .iload 6, 2), (106, .ireturn, 1), (107, .iinc 6 1, 3), (110, .goto (-24), 3), (113, .aload_n 3, 1), (114, .getfield 199, 3), (117, .aload 4, 2), (119, .getfield 199, 3), (122, .if_icmp .ne 7, 3), (125, .iconst (-1), 1), (126, .goto 5, 3), (129, .iload 5, 2), (131, .ireturn, 1)]
theorem tk119 : tb119.all (fun q => decide (fetch 119 q.1 = some q.2)) = true := by decide +kernel
theorem f119_0 : fetch 119 0 = some (.aload_n 0, 1) := vtab tk119 0 rfl
theorem e119_0 (L : VL) (st : List Value) (h : VG) (x : Nat) : ev 119 0 (some (.ref x) :: L) (st) h = ev 119 1 (some (.ref x) :: L) (.ref x :: st) h := G_aload_n f119_0 rfl
theorem f119_1 : fetch 119 1 = some (.iconst 0, 1) := vtab tk119 1 rfl
theorem e119_1 (L : VL) (st : List Value) (h : VG) : ev 119 1 L (st) h = ev 119 2 L (.int (0 : Int32) :: st) h := G_iconst f119_1 (by decide)
theorem f119_2 : fetch 119 2 = some (.putfield 86, 3) := vtab tk119 2 rfl
theorem e119_2 (L : VL) (st : List Value) (h : VG) (a : Nat) (x : Int32) (ho : ob h a 10) : ev 119 2 L (.int x :: .ref a :: st) h = ev 119 5 L (st) (pI h a 9 x) := G_putI (p := 438) f119_2 lkF_11_86 (by decide) (by decide) (by decide +kernel) ⟨rfl, rfl⟩ ho
theorem f119_5 : fetch 119 5 = some (.iload_n 1, 1) := vtab tk119 3 rfl
theorem e119_5 (l0 : Option Value) (L : VL) (st : List Value) (h : VG) (x : Int32) : ev 119 5 (l0 :: some (.int x) :: L) (st) h = ev 119 6 (l0 :: some (.int x) :: L) (.int x :: st) h := G_iload_n f119_5 rfl
theorem f119_6 : fetch 119 6 = some (.invokestatic 183, 3) := vtab tk119 4 rfl
theorem e119_6 (L : VL) (st : List Value) (h : VG) (x0 : Int32) (hs : catS st ≤ 8) : ev 119 6 L (.int x0 :: st) h = (ev 102 0 [some (.int x0)] [] h).bind fun q => ev 119 9 L (q.1.toList ++ st) q.2 := G_calls (k := 0) (p := 700) (ars := [.int x0]) f119_6 lkC_11_183 (by decide) (by decide +kernel) rfl (Nat.le_of_ble_eq_true rfl) hs rfl
theorem f119_9 : fetch 119 9 = some (.ifCond .eq 10, 3) := vtab tk119 5 rfl
theorem e119_9 (L : VL) (st : List Value) (h : VG) (x : Int32) : ev 119 9 L (.int x :: st) h = if x = 0 then ev 119 19 L st h else ev 119 12 L st h := G_if_eq f119_9 (by decide)
theorem f119_12 : fetch 119 12 = some (.iload_n 2, 1) := vtab tk119 6 rfl
theorem e119_12 (l0 l1 : Option Value) (L : VL) (st : List Value) (h : VG) (x : Int32) : ev 119 12 (l0 :: l1 :: some (.int x) :: L) (st) h = ev 119 13 (l0 :: l1 :: some (.int x) :: L) (.int x :: st) h := G_iload_n f119_12 rfl
theorem f119_13 : fetch 119 13 = some (.invokestatic 183, 3) := vtab tk119 7 rfl
theorem e119_13 (L : VL) (st : List Value) (h : VG) (x0 : Int32) (hs : catS st ≤ 8) : ev 119 13 L (.int x0 :: st) h = (ev 102 0 [some (.int x0)] [] h).bind fun q => ev 119 16 L (q.1.toList ++ st) q.2 := G_calls (k := 0) (p := 700) (ars := [.int x0]) f119_13 lkC_11_183 (by decide) (by decide +kernel) rfl (Nat.le_of_ble_eq_true rfl) hs rfl
theorem f119_16 : fetch 119 16 = some (.ifCond .ne 6, 3) := vtab tk119 8 rfl
theorem e119_16 (L : VL) (st : List Value) (h : VG) (x : Int32) : ev 119 16 L (.int x :: st) h = if x = 0 then ev 119 19 L st h else ev 119 22 L st h := G_if_ne f119_16 (by decide)
theorem f119_19 : fetch 119 19 = some (.bipush (-2), 2) := vtab tk119 9 rfl
theorem e119_19 (L : VL) (st : List Value) (h : VG) : ev 119 19 L (st) h = ev 119 21 L (.int (-2 : Int32) :: st) h := G_bipush f119_19 (by decide)
theorem f119_21 : fetch 119 21 = some (.ireturn, 1) := vtab tk119 10 rfl
theorem e119_21 (L : VL) (h : VG) (x : Int32) : ev 119 21 L [.int x] h = some (some (.int x), h) := G_iret f119_21 (ty := .int) (by decide) rfl
theorem f119_22 : fetch 119 22 = some (.aload_n 0, 1) := vtab tk119 11 rfl
theorem e119_22 (L : VL) (st : List Value) (h : VG) (x : Nat) : ev 119 22 (some (.ref x) :: L) (st) h = ev 119 23 (some (.ref x) :: L) (.ref x :: st) h := G_aload_n f119_22 rfl
theorem f119_23 : fetch 119 23 = some (.getfield 37, 3) := vtab tk119 12 rfl
theorem e119_23 (L : VL) (st : List Value) (h : VG) (a : Nat) (ho : ob h a 10) (hr : isR h a 6) : ev 119 23 L (.ref a :: st) h = ev 119 26 L (.ref (gR h a 6) :: st) h := G_getR (p := 435) f119_23 lkF_11_37 (by decide) (by decide) ho hr
theorem f119_26 : fetch 119 26 = some (.getfield 186, 3) := vtab tk119 13 rfl
theorem e119_26 (L : VL) (st : List Value) (h : VG) (a : Nat) (ho : ob h a 8) (hr : isR h a 1) : ev 119 26 L (.ref a :: st) h = ev 119 29 L (.ref (gR h a 1) :: st) h := G_getR (p := 385) f119_26 lkF_11_186 (by decide) (by decide) ho hr
theorem f119_29 : fetch 119 29 = some (.iload_n 1, 1) := vtab tk119 14 rfl
theorem e119_29 (l0 : Option Value) (L : VL) (st : List Value) (h : VG) (x : Int32) : ev 119 29 (l0 :: some (.int x) :: L) (st) h = ev 119 30 (l0 :: some (.int x) :: L) (.int x :: st) h := G_iload_n f119_29 rfl
theorem f119_30 : fetch 119 30 = some (.aaload, 1) := vtab tk119 15 rfl
theorem e119_30 (L : VL) (st : List Value) (h : VG) (a : Nat) (i : Int32) (ha : rdR h a) (hi : vp_in i (aln h a)) : ev 119 30 L (.int i :: .ref a :: st) h = ev 119 31 L (va_rf (aR h a i.toNatClampNeg) :: st) h := G_aald' f119_30 ha hi
theorem f119_31 : fetch 119 31 = some (.astore_n 3, 1) := vtab tk119 16 rfl
theorem e119_31 (l0 l1 l2 l3 : Option Value) (L : VL) (st : List Value) (h : VG) (x : Nat) : ev 119 31 (l0 :: l1 :: l2 :: l3 :: L) (.ref x :: st) h = ev 119 32 (l0 :: l1 :: vkk l2 :: some (.ref x) :: L) (st) h := G_astore_n f119_31 rfl (S1_3 l0 l1 l2 l3 L _)
theorem f119_32 : fetch 119 32 = some (.aload_n 0, 1) := vtab tk119 17 rfl
theorem e119_32 (L : VL) (st : List Value) (h : VG) (x : Nat) : ev 119 32 (some (.ref x) :: L) (st) h = ev 119 33 (some (.ref x) :: L) (.ref x :: st) h := G_aload_n f119_32 rfl
theorem f119_33 : fetch 119 33 = some (.getfield 37, 3) := vtab tk119 18 rfl
theorem e119_33 (L : VL) (st : List Value) (h : VG) (a : Nat) (ho : ob h a 10) (hr : isR h a 6) : ev 119 33 L (.ref a :: st) h = ev 119 36 L (.ref (gR h a 6) :: st) h := G_getR (p := 435) f119_33 lkF_11_37 (by decide) (by decide) ho hr
theorem f119_36 : fetch 119 36 = some (.getfield 186, 3) := vtab tk119 19 rfl
theorem e119_36 (L : VL) (st : List Value) (h : VG) (a : Nat) (ho : ob h a 8) (hr : isR h a 1) : ev 119 36 L (.ref a :: st) h = ev 119 39 L (.ref (gR h a 1) :: st) h := G_getR (p := 385) f119_36 lkF_11_186 (by decide) (by decide) ho hr
theorem f119_39 : fetch 119 39 = some (.iload_n 2, 1) := vtab tk119 20 rfl
theorem e119_39 (l0 l1 : Option Value) (L : VL) (st : List Value) (h : VG) (x : Int32) : ev 119 39 (l0 :: l1 :: some (.int x) :: L) (st) h = ev 119 40 (l0 :: l1 :: some (.int x) :: L) (.int x :: st) h := G_iload_n f119_39 rfl
theorem f119_40 : fetch 119 40 = some (.aaload, 1) := vtab tk119 21 rfl
theorem e119_40 (L : VL) (st : List Value) (h : VG) (a : Nat) (i : Int32) (ha : rdR h a) (hi : vp_in i (aln h a)) : ev 119 40 L (.int i :: .ref a :: st) h = ev 119 41 L (va_rf (aR h a i.toNatClampNeg) :: st) h := G_aald' f119_40 ha hi
theorem f119_41 : fetch 119 41 = some (.astore 4, 2) := vtab tk119 22 rfl
theorem e119_41 (l0 l1 l2 l3 l4 : Option Value) (L : VL) (st : List Value) (h : VG) (x : Nat) : ev 119 41 (l0 :: l1 :: l2 :: l3 :: l4 :: L) (.ref x :: st) h = ev 119 43 (l0 :: l1 :: l2 :: vkk l3 :: some (.ref x) :: L) (st) h := G_astore f119_41 rfl (S1_4 l0 l1 l2 l3 l4 L _)
theorem f119_43 : fetch 119 43 = some (.aload_n 0, 1) := vtab tk119 23 rfl
theorem e119_43 (L : VL) (st : List Value) (h : VG) (x : Nat) : ev 119 43 (some (.ref x) :: L) (st) h = ev 119 44 (some (.ref x) :: L) (.ref x :: st) h := G_aload_n f119_43 rfl
theorem f119_44 : fetch 119 44 = some (.aload_n 3, 1) := vtab tk119 24 rfl
theorem e119_44 (l0 l1 l2 : Option Value) (L : VL) (st : List Value) (h : VG) (x : Nat) : ev 119 44 (l0 :: l1 :: l2 :: some (.ref x) :: L) (st) h = ev 119 45 (l0 :: l1 :: l2 :: some (.ref x) :: L) (.ref x :: st) h := G_aload_n f119_44 rfl
theorem f119_45 : fetch 119 45 = some (.invokevirtual 195, 3) := vtab tk119 25 rfl
theorem e119_45 (L : VL) (st : List Value) (h : VG) (b : Nat)  (ho : ob h b 1) (hs : catS st ≤ 8) : ev 119 45 L (.ref b :: st) h = (ev 5 0 [some (.ref b)] [] h).bind fun q => ev 119 48 L (q.1.toList ++ st) q.2 := G_callv (k := 1) (p := 708) (ars := []) f119_45 lkC_11_195 (by decide) (by decide +kernel) rfl (vcls_ob (ci := 1) (by decide) ho) (Nat.le_of_ble_eq_true rfl) hs rfl
theorem f119_48 : fetch 119 48 = some (.invokevirtual 180, 3) := vtab tk119 26 rfl
theorem e119_48 (L : VL) (st : List Value) (h : VG) (b : Nat) (x0 : Int32) (ho : ob h b 10) (hs : catS st ≤ 8) : ev 119 48 L (.int x0 :: .ref b :: st) h = (ev 100 0 [some (.ref b), some (.int x0)] [] h).bind fun q => ev 119 51 L (q.1.toList ++ st) q.2 := G_callv (k := 1) (p := 692) (ars := [.int x0]) f119_48 lkC_11_180 (by decide) (by decide +kernel) rfl (vcls_ob (ci := 10) (by decide) ho) (Nat.le_of_ble_eq_true rfl) hs rfl
theorem f119_51 : fetch 119 51 = some (.ifCond .ne 15, 3) := vtab tk119 27 rfl
theorem e119_51 (L : VL) (st : List Value) (h : VG) (x : Int32) : ev 119 51 L (.int x :: st) h = if x = 0 then ev 119 54 L st h else ev 119 66 L st h := G_if_ne f119_51 (by decide)
theorem f119_54 : fetch 119 54 = some (.aload_n 0, 1) := vtab tk119 28 rfl
theorem e119_54 (L : VL) (st : List Value) (h : VG) (x : Nat) : ev 119 54 (some (.ref x) :: L) (st) h = ev 119 55 (some (.ref x) :: L) (.ref x :: st) h := G_aload_n f119_54 rfl
theorem f119_55 : fetch 119 55 = some (.aload 4, 2) := vtab tk119 29 rfl
theorem e119_55 (l0 l1 l2 l3 : Option Value) (L : VL) (st : List Value) (h : VG) (x : Nat) : ev 119 55 (l0 :: l1 :: l2 :: l3 :: some (.ref x) :: L) (st) h = ev 119 57 (l0 :: l1 :: l2 :: l3 :: some (.ref x) :: L) (.ref x :: st) h := G_aload f119_55 rfl
theorem f119_57 : fetch 119 57 = some (.invokevirtual 195, 3) := vtab tk119 30 rfl
theorem e119_57 (L : VL) (st : List Value) (h : VG) (b : Nat)  (ho : ob h b 1) (hs : catS st ≤ 8) : ev 119 57 L (.ref b :: st) h = (ev 5 0 [some (.ref b)] [] h).bind fun q => ev 119 60 L (q.1.toList ++ st) q.2 := G_callv (k := 1) (p := 708) (ars := []) f119_57 lkC_11_195 (by decide) (by decide +kernel) rfl (vcls_ob (ci := 1) (by decide) ho) (Nat.le_of_ble_eq_true rfl) hs rfl
theorem f119_60 : fetch 119 60 = some (.invokevirtual 180, 3) := vtab tk119 31 rfl
theorem e119_60 (L : VL) (st : List Value) (h : VG) (b : Nat) (x0 : Int32) (ho : ob h b 10) (hs : catS st ≤ 8) : ev 119 60 L (.int x0 :: .ref b :: st) h = (ev 100 0 [some (.ref b), some (.int x0)] [] h).bind fun q => ev 119 63 L (q.1.toList ++ st) q.2 := G_callv (k := 1) (p := 692) (ars := [.int x0]) f119_60 lkC_11_180 (by decide) (by decide +kernel) rfl (vcls_ob (ci := 10) (by decide) ho) (Nat.le_of_ble_eq_true rfl) hs rfl
theorem f119_63 : fetch 119 63 = some (.ifCond .eq 6, 3) := vtab tk119 32 rfl
theorem e119_63 (L : VL) (st : List Value) (h : VG) (x : Int32) : ev 119 63 L (.int x :: st) h = if x = 0 then ev 119 69 L st h else ev 119 66 L st h := G_if_eq f119_63 (by decide)
theorem f119_66 : fetch 119 66 = some (.bipush (-2), 2) := vtab tk119 33 rfl
theorem e119_66 (L : VL) (st : List Value) (h : VG) : ev 119 66 L (st) h = ev 119 68 L (.int (-2 : Int32) :: st) h := G_bipush f119_66 (by decide)
theorem f119_68 : fetch 119 68 = some (.ireturn, 1) := vtab tk119 34 rfl
theorem e119_68 (L : VL) (h : VG) (x : Int32) : ev 119 68 L [.int x] h = some (some (.int x), h) := G_iret f119_68 (ty := .int) (by decide) rfl
theorem f119_69 : fetch 119 69 = some (.aload_n 3, 1) := vtab tk119 35 rfl
theorem e119_69 (l0 l1 l2 : Option Value) (L : VL) (st : List Value) (h : VG) (x : Nat) : ev 119 69 (l0 :: l1 :: l2 :: some (.ref x) :: L) (st) h = ev 119 70 (l0 :: l1 :: l2 :: some (.ref x) :: L) (.ref x :: st) h := G_aload_n f119_69 rfl
theorem f119_70 : fetch 119 70 = some (.getfield 199, 3) := vtab tk119 36 rfl
theorem e119_70 (L : VL) (st : List Value) (h : VG) (a : Nat) (ho : ob h a 1) : ev 119 70 L (.ref a :: st) h = ev 119 73 L (.int (gI h a 1) :: st) h := G_getI (p := 369) f119_70 lkF_11_199 (by decide) (by decide) ho
theorem f119_73 : fetch 119 73 = some (.aload 4, 2) := vtab tk119 37 rfl
theorem e119_73 (l0 l1 l2 l3 : Option Value) (L : VL) (st : List Value) (h : VG) (x : Nat) : ev 119 73 (l0 :: l1 :: l2 :: l3 :: some (.ref x) :: L) (st) h = ev 119 75 (l0 :: l1 :: l2 :: l3 :: some (.ref x) :: L) (.ref x :: st) h := G_aload f119_73 rfl
theorem f119_75 : fetch 119 75 = some (.getfield 199, 3) := vtab tk119 38 rfl
theorem e119_75 (L : VL) (st : List Value) (h : VG) (a : Nat) (ho : ob h a 1) : ev 119 75 L (.ref a :: st) h = ev 119 78 L (.int (gI h a 1) :: st) h := G_getI (p := 369) f119_75 lkF_11_199 (by decide) (by decide) ho
theorem f119_78 : fetch 119 78 = some (.invokestatic 264, 3) := vtab tk119 39 rfl
theorem e119_78 (L : VL) (st : List Value) (h : VG) (x y : Int32) (hs : catS st ≤ 8) : ev 119 78 L (.int y :: .int x :: st) h = ev 119 81 L (.int (if y < x then y else x) :: st) h := G_mmin (q := 0) (p := 856) f119_78 lkC_11_264 hs
theorem f119_81 : fetch 119 81 = some (.istore 5, 2) := vtab tk119 40 rfl
theorem e119_81 (l0 l1 l2 l3 l4 l5 : Option Value) (L : VL) (st : List Value) (h : VG) (x : Int32) : ev 119 81 (l0 :: l1 :: l2 :: l3 :: l4 :: l5 :: L) (.int x :: st) h = ev 119 83 (l0 :: l1 :: l2 :: l3 :: vkk l4 :: some (.int x) :: L) (st) h := G_istore f119_81 rfl (S1_5 l0 l1 l2 l3 l4 l5 L _)
theorem f119_83 : fetch 119 83 = some (.iconst 0, 1) := vtab tk119 41 rfl
theorem e119_83 (L : VL) (st : List Value) (h : VG) : ev 119 83 L (st) h = ev 119 84 L (.int (0 : Int32) :: st) h := G_iconst f119_83 (by decide)
theorem f119_84 : fetch 119 84 = some (.istore 6, 2) := vtab tk119 42 rfl
theorem e119_84 (l0 l1 l2 l3 l4 l5 l6 : Option Value) (L : VL) (st : List Value) (h : VG) (x : Int32) : ev 119 84 (l0 :: l1 :: l2 :: l3 :: l4 :: l5 :: l6 :: L) (.int x :: st) h = ev 119 86 (l0 :: l1 :: l2 :: l3 :: l4 :: vkk l5 :: some (.int x) :: L) (st) h := G_istore f119_84 rfl (S1_6 l0 l1 l2 l3 l4 l5 l6 L _)
theorem f119_86 : fetch 119 86 = some (.iload 6, 2) := vtab tk119 43 rfl
theorem e119_86 (l0 l1 l2 l3 l4 l5 : Option Value) (L : VL) (st : List Value) (h : VG) (x : Int32) : ev 119 86 (l0 :: l1 :: l2 :: l3 :: l4 :: l5 :: some (.int x) :: L) (st) h = ev 119 88 (l0 :: l1 :: l2 :: l3 :: l4 :: l5 :: some (.int x) :: L) (.int x :: st) h := G_iload f119_86 rfl
theorem f119_88 : fetch 119 88 = some (.iload 5, 2) := vtab tk119 44 rfl
theorem e119_88 (l0 l1 l2 l3 l4 : Option Value) (L : VL) (st : List Value) (h : VG) (x : Int32) : ev 119 88 (l0 :: l1 :: l2 :: l3 :: l4 :: some (.int x) :: L) (st) h = ev 119 90 (l0 :: l1 :: l2 :: l3 :: l4 :: some (.int x) :: L) (.int x :: st) h := G_iload f119_88 rfl
theorem f119_90 : fetch 119 90 = some (.if_icmp .ge 23, 3) := vtab tk119 45 rfl
theorem e119_90 (L : VL) (st : List Value) (h : VG) (x y : Int32) : ev 119 90 L (.int y :: .int x :: st) h = if x < y then ev 119 93 L st h else ev 119 113 L st h := G_icmp_ge f119_90 (by decide)
theorem f119_93 : fetch 119 93 = some (.aload_n 3, 1) := vtab tk119 46 rfl
theorem e119_93 (l0 l1 l2 : Option Value) (L : VL) (st : List Value) (h : VG) (x : Nat) : ev 119 93 (l0 :: l1 :: l2 :: some (.ref x) :: L) (st) h = ev 119 94 (l0 :: l1 :: l2 :: some (.ref x) :: L) (.ref x :: st) h := G_aload_n f119_93 rfl
theorem f119_94 : fetch 119 94 = some (.aload 4, 2) := vtab tk119 47 rfl
theorem e119_94 (l0 l1 l2 l3 : Option Value) (L : VL) (st : List Value) (h : VG) (x : Nat) : ev 119 94 (l0 :: l1 :: l2 :: l3 :: some (.ref x) :: L) (st) h = ev 119 96 (l0 :: l1 :: l2 :: l3 :: some (.ref x) :: L) (.ref x :: st) h := G_aload f119_94 rfl
theorem f119_96 : fetch 119 96 = some (.iload 6, 2) := vtab tk119 48 rfl
theorem e119_96 (l0 l1 l2 l3 l4 l5 : Option Value) (L : VL) (st : List Value) (h : VG) (x : Int32) : ev 119 96 (l0 :: l1 :: l2 :: l3 :: l4 :: l5 :: some (.int x) :: L) (st) h = ev 119 98 (l0 :: l1 :: l2 :: l3 :: l4 :: l5 :: some (.int x) :: L) (.int x :: st) h := G_iload f119_96 rfl
theorem f119_98 : fetch 119 98 = some (.invokevirtual 269, 3) := vtab tk119 49 rfl
theorem e119_98 (L : VL) (st : List Value) (h : VG) (b : Nat) (x0 : Nat) (x1 : Int32) (ho : ob h b 1) (hs : catS st ≤ 8) : ev 119 98 L (.int x1 :: .ref x0 :: .ref b :: st) h = (ev 20 0 [some (.ref b), some (.ref x0), some (.int x1), none, none, none, none, none] [] h).bind fun q => ev 119 101 L (q.1.toList ++ st) q.2 := G_callv (k := 1) (p := 857) (ars := [.ref x0, .int x1]) f119_98 lkC_11_269 (by decide) (by decide +kernel) rfl (vcls_ob (ci := 1) (by decide) ho) (Nat.le_of_ble_eq_true rfl) hs rfl
theorem f119_101 : fetch 119 101 = some (.ifCond .ne 6, 3) := vtab tk119 50 rfl
theorem e119_101 (L : VL) (st : List Value) (h : VG) (x : Int32) : ev 119 101 L (.int x :: st) h = if x = 0 then ev 119 104 L st h else ev 119 107 L st h := G_if_ne f119_101 (by decide)
theorem f119_104 : fetch 119 104 = some (.iload 6, 2) := vtab tk119 51 rfl
theorem e119_104 (l0 l1 l2 l3 l4 l5 : Option Value) (L : VL) (st : List Value) (h : VG) (x : Int32) : ev 119 104 (l0 :: l1 :: l2 :: l3 :: l4 :: l5 :: some (.int x) :: L) (st) h = ev 119 106 (l0 :: l1 :: l2 :: l3 :: l4 :: l5 :: some (.int x) :: L) (.int x :: st) h := G_iload f119_104 rfl
theorem f119_106 : fetch 119 106 = some (.ireturn, 1) := vtab tk119 52 rfl
theorem e119_106 (L : VL) (h : VG) (x : Int32) : ev 119 106 L [.int x] h = some (some (.int x), h) := G_iret f119_106 (ty := .int) (by decide) rfl
theorem f119_107 : fetch 119 107 = some (.iinc 6 1, 3) := vtab tk119 53 rfl
theorem e119_107 (l0 l1 l2 l3 l4 l5 : Option Value) (L : VL) (st : List Value) (h : VG) (x : Int32) : ev 119 107 (l0 :: l1 :: l2 :: l3 :: l4 :: l5 :: some (.int x) :: L) (st) h = ev 119 110 (l0 :: l1 :: l2 :: l3 :: l4 :: vkk l5 :: some (.int (x + (1 : Int32))) :: L) (st) h := G_iinc f119_107 rfl (by decide) (S1_6 l0 l1 l2 l3 l4 l5 (some (.int x)) L _)
theorem f119_110 : fetch 119 110 = some (.goto (-24), 3) := vtab tk119 54 rfl
theorem e119_110 (L : VL) (st : List Value) (h : VG) : ev 119 110 L (st) h = ev 119 86 L (st) h := G_goto f119_110 (by decide)
theorem f119_113 : fetch 119 113 = some (.aload_n 3, 1) := vtab tk119 55 rfl
theorem e119_113 (l0 l1 l2 : Option Value) (L : VL) (st : List Value) (h : VG) (x : Nat) : ev 119 113 (l0 :: l1 :: l2 :: some (.ref x) :: L) (st) h = ev 119 114 (l0 :: l1 :: l2 :: some (.ref x) :: L) (.ref x :: st) h := G_aload_n f119_113 rfl
theorem f119_114 : fetch 119 114 = some (.getfield 199, 3) := vtab tk119 56 rfl
theorem e119_114 (L : VL) (st : List Value) (h : VG) (a : Nat) (ho : ob h a 1) : ev 119 114 L (.ref a :: st) h = ev 119 117 L (.int (gI h a 1) :: st) h := G_getI (p := 369) f119_114 lkF_11_199 (by decide) (by decide) ho
theorem f119_117 : fetch 119 117 = some (.aload 4, 2) := vtab tk119 57 rfl
theorem e119_117 (l0 l1 l2 l3 : Option Value) (L : VL) (st : List Value) (h : VG) (x : Nat) : ev 119 117 (l0 :: l1 :: l2 :: l3 :: some (.ref x) :: L) (st) h = ev 119 119 (l0 :: l1 :: l2 :: l3 :: some (.ref x) :: L) (.ref x :: st) h := G_aload f119_117 rfl
theorem f119_119 : fetch 119 119 = some (.getfield 199, 3) := vtab tk119 58 rfl
theorem e119_119 (L : VL) (st : List Value) (h : VG) (a : Nat) (ho : ob h a 1) : ev 119 119 L (.ref a :: st) h = ev 119 122 L (.int (gI h a 1) :: st) h := G_getI (p := 369) f119_119 lkF_11_199 (by decide) (by decide) ho
theorem f119_122 : fetch 119 122 = some (.if_icmp .ne 7, 3) := vtab tk119 59 rfl
theorem e119_122 (L : VL) (st : List Value) (h : VG) (x y : Int32) : ev 119 122 L (.int y :: .int x :: st) h = if x = y then ev 119 125 L st h else ev 119 129 L st h := G_icmp_ne f119_122 (by decide)
theorem f119_125 : fetch 119 125 = some (.iconst (-1), 1) := vtab tk119 60 rfl
theorem e119_125 (L : VL) (st : List Value) (h : VG) : ev 119 125 L (st) h = ev 119 126 L (.int (-1 : Int32) :: st) h := G_iconst f119_125 (by decide)
theorem f119_126 : fetch 119 126 = some (.goto 5, 3) := vtab tk119 61 rfl
theorem e119_126 (L : VL) (st : List Value) (h : VG) : ev 119 126 L (st) h = ev 119 131 L (st) h := G_goto f119_126 (by decide)
theorem f119_129 : fetch 119 129 = some (.iload 5, 2) := vtab tk119 62 rfl
theorem e119_129 (l0 l1 l2 l3 l4 : Option Value) (L : VL) (st : List Value) (h : VG) (x : Int32) : ev 119 129 (l0 :: l1 :: l2 :: l3 :: l4 :: some (.int x) :: L) (st) h = ev 119 131 (l0 :: l1 :: l2 :: l3 :: l4 :: some (.int x) :: L) (.int x :: st) h := G_iload f119_129 rfl
theorem f119_131 : fetch 119 131 = some (.ireturn, 1) := vtab tk119 63 rfl
theorem e119_131 (L : VL) (h : VG) (x : Int32) : ev 119 131 L [.int x] h = some (some (.int x), h) := G_iret f119_131 (ty := .int) (by decide) rfl
/-! 120 GuestCalls.load(III)I -/
def tb120 : List (Nat × Instr × Nat) := [(0, .aload_n 0, 1), (1, .iconst 0, 1), (2, .putfield 86, 3), (5, .aload_n 0, 1), (6, .iload_n 1, 1), (7, .invokevirtual 95, 3), (10, .ifCond .eq 10, 3), (13, .iload_n 3, 1), (14, .invokestatic 183, 3), (17, .ifCond .ne 5, 3), (20, .iconst (-1), 1), (21, .ireturn, 1), (22, .aload_n 0, 1), (23, .getfield 23, 3), (26, .getfield 99, 3), (29, .iload_n 1, 1), (30, .aaload, 1), (31, .astore 4, 2), (33, .aload_n 0, 1), (34, .aload_n 0, 1), (35, .getfield 37, 3), (38, .getfield 170, 3), (41, .iload_n 2, 1), (42, .i2l, 1), (43, .aload 4, 2), (45, .getfield 109, 3), (48, .getfield 131, 3), (51, .invokevirtual 176, 3), (54, .invokevirtual 180, 3), (57, .ifCond .eq 5, 3), (60, .iconst (-1), 1), (61, .ireturn, 1), (62, .iconst 0, 1), (63, .istore 5, 2), (65, .iconst 0, 1), (66, .istore 6, 2), (68, .iload 6, 2), (70, .aload 4, 2), (72, .getfield 123, 3), (75, .if_icmp .ge 72, 3), (78, .aload 4, 2), (80, .getfield 273, 3), (83, .iload 6, 2), (85, .iaload, 1), (86, .istore 7, 2), (88, .aload_n 0, 1), (89, .getfield 37, 3), (92, .getfield 170, 3), (95, .iload_n 2, 1), (96, .aload 4, 2), (98, .getfield 109, 3), (101, .getfield 141, 3), (104, .iload 6, 2), (106, .iaload, 1), (107, .iadd, 1), (108, .iload 7, 2), (110, .iconst 0, 1), (111, .invokevirtual 276, 3), (114, .lstore 8, 2), (116, .aload_n 0, 1), (117, .aload_n 0, 1), (118, .getfield 37, 3), (121, .getfield 186, 3), (124, .iload_n 3, 1), (125, .aaload, 1), (126, .iload 6, 2), (128, .iload 7, 2), (130, .lload 8, 2), (132, .invokevirtual 280, 3), (135, .ifCond .eq 6, 3), (138, .iinc 5 1, 3), (141, .iinc 6 1, 3), (144, .goto (-76), 3), (147, .iload 5, 2), (149, .ireturn, 1)]
theorem tk120 : tb120.all (fun q => decide (fetch 120 q.1 = some q.2)) = true := by decide +kernel
theorem f120_0 : fetch 120 0 = some (.aload_n 0, 1) := vtab tk120 0 rfl
theorem e120_0 (L : VL) (st : List Value) (h : VG) (x : Nat) : ev 120 0 (some (.ref x) :: L) (st) h = ev 120 1 (some (.ref x) :: L) (.ref x :: st) h := G_aload_n f120_0 rfl
theorem f120_1 : fetch 120 1 = some (.iconst 0, 1) := vtab tk120 1 rfl
theorem e120_1 (L : VL) (st : List Value) (h : VG) : ev 120 1 L (st) h = ev 120 2 L (.int (0 : Int32) :: st) h := G_iconst f120_1 (by decide)
theorem f120_2 : fetch 120 2 = some (.putfield 86, 3) := vtab tk120 2 rfl
theorem e120_2 (L : VL) (st : List Value) (h : VG) (a : Nat) (x : Int32) (ho : ob h a 10) : ev 120 2 L (.int x :: .ref a :: st) h = ev 120 5 L (st) (pI h a 9 x) := G_putI (p := 438) f120_2 lkF_11_86 (by decide) (by decide) (by decide +kernel) ⟨rfl, rfl⟩ ho
theorem f120_5 : fetch 120 5 = some (.aload_n 0, 1) := vtab tk120 3 rfl
theorem e120_5 (L : VL) (st : List Value) (h : VG) (x : Nat) : ev 120 5 (some (.ref x) :: L) (st) h = ev 120 6 (some (.ref x) :: L) (.ref x :: st) h := G_aload_n f120_5 rfl
theorem f120_6 : fetch 120 6 = some (.iload_n 1, 1) := vtab tk120 4 rfl
theorem e120_6 (l0 : Option Value) (L : VL) (st : List Value) (h : VG) (x : Int32) : ev 120 6 (l0 :: some (.int x) :: L) (st) h = ev 120 7 (l0 :: some (.int x) :: L) (.int x :: st) h := G_iload_n f120_6 rfl
theorem f120_7 : fetch 120 7 = some (.invokevirtual 95, 3) := vtab tk120 5 rfl
theorem e120_7 (L : VL) (st : List Value) (h : VG) (b : Nat) (x0 : Int32) (ho : ob h b 10) (hs : catS st ≤ 8) : ev 120 7 L (.int x0 :: .ref b :: st) h = (ev 101 0 [some (.ref b), some (.int x0)] [] h).bind fun q => ev 120 10 L (q.1.toList ++ st) q.2 := G_callv (k := 1) (p := 665) (ars := [.int x0]) f120_7 lkC_11_95 (by decide) (by decide +kernel) rfl (vcls_ob (ci := 10) (by decide) ho) (Nat.le_of_ble_eq_true rfl) hs rfl
theorem f120_10 : fetch 120 10 = some (.ifCond .eq 10, 3) := vtab tk120 6 rfl
theorem e120_10 (L : VL) (st : List Value) (h : VG) (x : Int32) : ev 120 10 L (.int x :: st) h = if x = 0 then ev 120 20 L st h else ev 120 13 L st h := G_if_eq f120_10 (by decide)
theorem f120_13 : fetch 120 13 = some (.iload_n 3, 1) := vtab tk120 7 rfl
theorem e120_13 (l0 l1 l2 : Option Value) (L : VL) (st : List Value) (h : VG) (x : Int32) : ev 120 13 (l0 :: l1 :: l2 :: some (.int x) :: L) (st) h = ev 120 14 (l0 :: l1 :: l2 :: some (.int x) :: L) (.int x :: st) h := G_iload_n f120_13 rfl
theorem f120_14 : fetch 120 14 = some (.invokestatic 183, 3) := vtab tk120 8 rfl
theorem e120_14 (L : VL) (st : List Value) (h : VG) (x0 : Int32) (hs : catS st ≤ 8) : ev 120 14 L (.int x0 :: st) h = (ev 102 0 [some (.int x0)] [] h).bind fun q => ev 120 17 L (q.1.toList ++ st) q.2 := G_calls (k := 0) (p := 700) (ars := [.int x0]) f120_14 lkC_11_183 (by decide) (by decide +kernel) rfl (Nat.le_of_ble_eq_true rfl) hs rfl
theorem f120_17 : fetch 120 17 = some (.ifCond .ne 5, 3) := vtab tk120 9 rfl
theorem e120_17 (L : VL) (st : List Value) (h : VG) (x : Int32) : ev 120 17 L (.int x :: st) h = if x = 0 then ev 120 20 L st h else ev 120 22 L st h := G_if_ne f120_17 (by decide)
theorem f120_20 : fetch 120 20 = some (.iconst (-1), 1) := vtab tk120 10 rfl
theorem e120_20 (L : VL) (st : List Value) (h : VG) : ev 120 20 L (st) h = ev 120 21 L (.int (-1 : Int32) :: st) h := G_iconst f120_20 (by decide)
theorem f120_21 : fetch 120 21 = some (.ireturn, 1) := vtab tk120 11 rfl
theorem e120_21 (L : VL) (h : VG) (x : Int32) : ev 120 21 L [.int x] h = some (some (.int x), h) := G_iret f120_21 (ty := .int) (by decide) rfl
theorem f120_22 : fetch 120 22 = some (.aload_n 0, 1) := vtab tk120 12 rfl
theorem e120_22 (L : VL) (st : List Value) (h : VG) (x : Nat) : ev 120 22 (some (.ref x) :: L) (st) h = ev 120 23 (some (.ref x) :: L) (.ref x :: st) h := G_aload_n f120_22 rfl
theorem f120_23 : fetch 120 23 = some (.getfield 23, 3) := vtab tk120 13 rfl
theorem e120_23 (L : VL) (st : List Value) (h : VG) (a : Nat) (ho : ob h a 10) (hr : isR h a 3) : ev 120 23 L (.ref a :: st) h = ev 120 26 L (.ref (gR h a 3) :: st) h := G_getR (p := 432) f120_23 lkF_11_23 (by decide) (by decide) ho hr
theorem f120_26 : fetch 120 26 = some (.getfield 99, 3) := vtab tk120 14 rfl
theorem e120_26 (L : VL) (st : List Value) (h : VG) (a : Nat) (ho : ob h a 6) (hr : isR h a 1) : ev 120 26 L (.ref a :: st) h = ev 120 29 L (.ref (gR h a 1) :: st) h := G_getR (p := 339) f120_26 lkF_11_99 (by decide) (by decide) ho hr
theorem f120_29 : fetch 120 29 = some (.iload_n 1, 1) := vtab tk120 15 rfl
theorem e120_29 (l0 : Option Value) (L : VL) (st : List Value) (h : VG) (x : Int32) : ev 120 29 (l0 :: some (.int x) :: L) (st) h = ev 120 30 (l0 :: some (.int x) :: L) (.int x :: st) h := G_iload_n f120_29 rfl
theorem f120_30 : fetch 120 30 = some (.aaload, 1) := vtab tk120 16 rfl
theorem e120_30 (L : VL) (st : List Value) (h : VG) (a : Nat) (i : Int32) (ha : rdR h a) (hi : vp_in i (aln h a)) : ev 120 30 L (.int i :: .ref a :: st) h = ev 120 31 L (va_rf (aR h a i.toNatClampNeg) :: st) h := G_aald' f120_30 ha hi
theorem f120_31 : fetch 120 31 = some (.astore 4, 2) := vtab tk120 17 rfl
theorem e120_31 (l0 l1 l2 l3 l4 : Option Value) (L : VL) (st : List Value) (h : VG) (x : Nat) : ev 120 31 (l0 :: l1 :: l2 :: l3 :: l4 :: L) (.ref x :: st) h = ev 120 33 (l0 :: l1 :: l2 :: vkk l3 :: some (.ref x) :: L) (st) h := G_astore f120_31 rfl (S1_4 l0 l1 l2 l3 l4 L _)
theorem f120_33 : fetch 120 33 = some (.aload_n 0, 1) := vtab tk120 18 rfl
theorem e120_33 (L : VL) (st : List Value) (h : VG) (x : Nat) : ev 120 33 (some (.ref x) :: L) (st) h = ev 120 34 (some (.ref x) :: L) (.ref x :: st) h := G_aload_n f120_33 rfl
theorem f120_34 : fetch 120 34 = some (.aload_n 0, 1) := vtab tk120 19 rfl
theorem e120_34 (L : VL) (st : List Value) (h : VG) (x : Nat) : ev 120 34 (some (.ref x) :: L) (st) h = ev 120 35 (some (.ref x) :: L) (.ref x :: st) h := G_aload_n f120_34 rfl
theorem f120_35 : fetch 120 35 = some (.getfield 37, 3) := vtab tk120 20 rfl
theorem e120_35 (L : VL) (st : List Value) (h : VG) (a : Nat) (ho : ob h a 10) (hr : isR h a 6) : ev 120 35 L (.ref a :: st) h = ev 120 38 L (.ref (gR h a 6) :: st) h := G_getR (p := 435) f120_35 lkF_11_37 (by decide) (by decide) ho hr
theorem f120_38 : fetch 120 38 = some (.getfield 170, 3) := vtab tk120 21 rfl
theorem e120_38 (L : VL) (st : List Value) (h : VG) (a : Nat) (ho : ob h a 8) (hr : isR h a 0) : ev 120 38 L (.ref a :: st) h = ev 120 41 L (.ref (gR h a 0) :: st) h := G_getR (p := 383) f120_38 lkF_11_170 (by decide) (by decide) ho hr
theorem f120_41 : fetch 120 41 = some (.iload_n 2, 1) := vtab tk120 22 rfl
theorem e120_41 (l0 l1 : Option Value) (L : VL) (st : List Value) (h : VG) (x : Int32) : ev 120 41 (l0 :: l1 :: some (.int x) :: L) (st) h = ev 120 42 (l0 :: l1 :: some (.int x) :: L) (.int x :: st) h := G_iload_n f120_41 rfl
theorem f120_42 : fetch 120 42 = some (.i2l, 1) := vtab tk120 23 rfl
theorem e120_42 (L : VL) (st : List Value) (h : VG) (x : Int32) : ev 120 42 L (.int x :: st) h = ev 120 43 L (.long x.toInt64 :: st) h := G_i2l f120_42
theorem f120_43 : fetch 120 43 = some (.aload 4, 2) := vtab tk120 24 rfl
theorem e120_43 (l0 l1 l2 l3 : Option Value) (L : VL) (st : List Value) (h : VG) (x : Nat) : ev 120 43 (l0 :: l1 :: l2 :: l3 :: some (.ref x) :: L) (st) h = ev 120 45 (l0 :: l1 :: l2 :: l3 :: some (.ref x) :: L) (.ref x :: st) h := G_aload f120_43 rfl
theorem f120_45 : fetch 120 45 = some (.getfield 109, 3) := vtab tk120 25 rfl
theorem e120_45 (L : VL) (st : List Value) (h : VG) (a : Nat) (ho : ob h a 3) (hr : isR h a 7) : ev 120 45 L (.ref a :: st) h = ev 120 48 L (.ref (gR h a 7) :: st) h := G_getR (p := 308) f120_45 lkF_11_109 (by decide) (by decide) ho hr
theorem f120_48 : fetch 120 48 = some (.getfield 131, 3) := vtab tk120 26 rfl
theorem e120_48 (L : VL) (st : List Value) (h : VG) (a : Nat) (ho : ob h a 4) : ev 120 48 L (.ref a :: st) h = ev 120 51 L (.int (gI h a 3) :: st) h := G_getI (p := 262) f120_48 lkF_11_131 (by decide) (by decide) ho
theorem f120_51 : fetch 120 51 = some (.invokevirtual 176, 3) := vtab tk120 27 rfl
theorem e120_51 (L : VL) (st : List Value) (h : VG) (b : Nat) (x0 : Int64) (x1 : Int32) (ho : ob h b 5) (hs : catS st ≤ 8) : ev 120 51 L (.int x1 :: .long x0 :: .ref b :: st) h = (ev 54 0 [some (.ref b), some (.long x0), none, some (.int x1)] [] h).bind fun q => ev 120 54 L (q.1.toList ++ st) q.2 := G_callv (k := 1) (p := 688) (ars := [.long x0, .int x1]) f120_51 lkC_11_176 (by decide) (by decide +kernel) rfl (vcls_ob (ci := 5) (by decide) ho) (Nat.le_of_ble_eq_true rfl) hs rfl
theorem f120_54 : fetch 120 54 = some (.invokevirtual 180, 3) := vtab tk120 28 rfl
theorem e120_54 (L : VL) (st : List Value) (h : VG) (b : Nat) (x0 : Int32) (ho : ob h b 10) (hs : catS st ≤ 8) : ev 120 54 L (.int x0 :: .ref b :: st) h = (ev 100 0 [some (.ref b), some (.int x0)] [] h).bind fun q => ev 120 57 L (q.1.toList ++ st) q.2 := G_callv (k := 1) (p := 692) (ars := [.int x0]) f120_54 lkC_11_180 (by decide) (by decide +kernel) rfl (vcls_ob (ci := 10) (by decide) ho) (Nat.le_of_ble_eq_true rfl) hs rfl
theorem f120_57 : fetch 120 57 = some (.ifCond .eq 5, 3) := vtab tk120 29 rfl
theorem e120_57 (L : VL) (st : List Value) (h : VG) (x : Int32) : ev 120 57 L (.int x :: st) h = if x = 0 then ev 120 62 L st h else ev 120 60 L st h := G_if_eq f120_57 (by decide)
theorem f120_60 : fetch 120 60 = some (.iconst (-1), 1) := vtab tk120 30 rfl
theorem e120_60 (L : VL) (st : List Value) (h : VG) : ev 120 60 L (st) h = ev 120 61 L (.int (-1 : Int32) :: st) h := G_iconst f120_60 (by decide)
theorem f120_61 : fetch 120 61 = some (.ireturn, 1) := vtab tk120 31 rfl
theorem e120_61 (L : VL) (h : VG) (x : Int32) : ev 120 61 L [.int x] h = some (some (.int x), h) := G_iret f120_61 (ty := .int) (by decide) rfl
theorem f120_62 : fetch 120 62 = some (.iconst 0, 1) := vtab tk120 32 rfl
theorem e120_62 (L : VL) (st : List Value) (h : VG) : ev 120 62 L (st) h = ev 120 63 L (.int (0 : Int32) :: st) h := G_iconst f120_62 (by decide)
theorem f120_63 : fetch 120 63 = some (.istore 5, 2) := vtab tk120 33 rfl
theorem e120_63 (l0 l1 l2 l3 l4 l5 : Option Value) (L : VL) (st : List Value) (h : VG) (x : Int32) : ev 120 63 (l0 :: l1 :: l2 :: l3 :: l4 :: l5 :: L) (.int x :: st) h = ev 120 65 (l0 :: l1 :: l2 :: l3 :: vkk l4 :: some (.int x) :: L) (st) h := G_istore f120_63 rfl (S1_5 l0 l1 l2 l3 l4 l5 L _)
theorem f120_65 : fetch 120 65 = some (.iconst 0, 1) := vtab tk120 34 rfl
theorem e120_65 (L : VL) (st : List Value) (h : VG) : ev 120 65 L (st) h = ev 120 66 L (.int (0 : Int32) :: st) h := G_iconst f120_65 (by decide)
theorem f120_66 : fetch 120 66 = some (.istore 6, 2) := vtab tk120 35 rfl
theorem e120_66 (l0 l1 l2 l3 l4 l5 l6 : Option Value) (L : VL) (st : List Value) (h : VG) (x : Int32) : ev 120 66 (l0 :: l1 :: l2 :: l3 :: l4 :: l5 :: l6 :: L) (.int x :: st) h = ev 120 68 (l0 :: l1 :: l2 :: l3 :: l4 :: vkk l5 :: some (.int x) :: L) (st) h := G_istore f120_66 rfl (S1_6 l0 l1 l2 l3 l4 l5 l6 L _)
theorem f120_68 : fetch 120 68 = some (.iload 6, 2) := vtab tk120 36 rfl
theorem e120_68 (l0 l1 l2 l3 l4 l5 : Option Value) (L : VL) (st : List Value) (h : VG) (x : Int32) : ev 120 68 (l0 :: l1 :: l2 :: l3 :: l4 :: l5 :: some (.int x) :: L) (st) h = ev 120 70 (l0 :: l1 :: l2 :: l3 :: l4 :: l5 :: some (.int x) :: L) (.int x :: st) h := G_iload f120_68 rfl
theorem f120_70 : fetch 120 70 = some (.aload 4, 2) := vtab tk120 37 rfl
theorem e120_70 (l0 l1 l2 l3 : Option Value) (L : VL) (st : List Value) (h : VG) (x : Nat) : ev 120 70 (l0 :: l1 :: l2 :: l3 :: some (.ref x) :: L) (st) h = ev 120 72 (l0 :: l1 :: l2 :: l3 :: some (.ref x) :: L) (.ref x :: st) h := G_aload f120_70 rfl
theorem f120_72 : fetch 120 72 = some (.getfield 123, 3) := vtab tk120 38 rfl
theorem e120_72 (L : VL) (st : List Value) (h : VG) (a : Nat) (ho : ob h a 3) : ev 120 72 L (.ref a :: st) h = ev 120 75 L (.int (gI h a 2) :: st) h := G_getI (p := 297) f120_72 lkF_11_123 (by decide) (by decide) ho
theorem f120_75 : fetch 120 75 = some (.if_icmp .ge 72, 3) := vtab tk120 39 rfl
theorem e120_75 (L : VL) (st : List Value) (h : VG) (x y : Int32) : ev 120 75 L (.int y :: .int x :: st) h = if x < y then ev 120 78 L st h else ev 120 147 L st h := G_icmp_ge f120_75 (by decide)
theorem f120_78 : fetch 120 78 = some (.aload 4, 2) := vtab tk120 40 rfl
theorem e120_78 (l0 l1 l2 l3 : Option Value) (L : VL) (st : List Value) (h : VG) (x : Nat) : ev 120 78 (l0 :: l1 :: l2 :: l3 :: some (.ref x) :: L) (st) h = ev 120 80 (l0 :: l1 :: l2 :: l3 :: some (.ref x) :: L) (.ref x :: st) h := G_aload f120_78 rfl
theorem f120_80 : fetch 120 80 = some (.getfield 273, 3) := vtab tk120 41 rfl
theorem e120_80 (L : VL) (st : List Value) (h : VG) (a : Nat) (ho : ob h a 3) (hr : isR h a 6) : ev 120 80 L (.ref a :: st) h = ev 120 83 L (.ref (gR h a 6) :: st) h := G_getR (p := 306) f120_80 lkF_11_273 (by decide) (by decide) ho hr
theorem f120_83 : fetch 120 83 = some (.iload 6, 2) := vtab tk120 42 rfl
theorem e120_83 (l0 l1 l2 l3 l4 l5 : Option Value) (L : VL) (st : List Value) (h : VG) (x : Int32) : ev 120 83 (l0 :: l1 :: l2 :: l3 :: l4 :: l5 :: some (.int x) :: L) (st) h = ev 120 85 (l0 :: l1 :: l2 :: l3 :: l4 :: l5 :: some (.int x) :: L) (.int x :: st) h := G_iload f120_83 rfl
theorem f120_85 : fetch 120 85 = some (.iaload, 1) := vtab tk120 43 rfl
theorem e120_85 (L : VL) (st : List Value) (h : VG) (a : Nat) (i : Int32) (ha : rdI h a) (hi : vp_in i (aln h a)) : ev 120 85 L (.int i :: .ref a :: st) h = ev 120 86 L (.int (aI h a i.toNatClampNeg) :: st) h := G_iald' f120_85 ha hi
theorem f120_86 : fetch 120 86 = some (.istore 7, 2) := vtab tk120 44 rfl
theorem e120_86 (l0 l1 l2 l3 l4 l5 l6 l7 : Option Value) (L : VL) (st : List Value) (h : VG) (x : Int32) : ev 120 86 (l0 :: l1 :: l2 :: l3 :: l4 :: l5 :: l6 :: l7 :: L) (.int x :: st) h = ev 120 88 (l0 :: l1 :: l2 :: l3 :: l4 :: l5 :: vkk l6 :: some (.int x) :: L) (st) h := G_istore f120_86 rfl (S1_7 l0 l1 l2 l3 l4 l5 l6 l7 L _)
theorem f120_88 : fetch 120 88 = some (.aload_n 0, 1) := vtab tk120 45 rfl
theorem e120_88 (L : VL) (st : List Value) (h : VG) (x : Nat) : ev 120 88 (some (.ref x) :: L) (st) h = ev 120 89 (some (.ref x) :: L) (.ref x :: st) h := G_aload_n f120_88 rfl
theorem f120_89 : fetch 120 89 = some (.getfield 37, 3) := vtab tk120 46 rfl
theorem e120_89 (L : VL) (st : List Value) (h : VG) (a : Nat) (ho : ob h a 10) (hr : isR h a 6) : ev 120 89 L (.ref a :: st) h = ev 120 92 L (.ref (gR h a 6) :: st) h := G_getR (p := 435) f120_89 lkF_11_37 (by decide) (by decide) ho hr
theorem f120_92 : fetch 120 92 = some (.getfield 170, 3) := vtab tk120 47 rfl
theorem e120_92 (L : VL) (st : List Value) (h : VG) (a : Nat) (ho : ob h a 8) (hr : isR h a 0) : ev 120 92 L (.ref a :: st) h = ev 120 95 L (.ref (gR h a 0) :: st) h := G_getR (p := 383) f120_92 lkF_11_170 (by decide) (by decide) ho hr
theorem f120_95 : fetch 120 95 = some (.iload_n 2, 1) := vtab tk120 48 rfl
theorem e120_95 (l0 l1 : Option Value) (L : VL) (st : List Value) (h : VG) (x : Int32) : ev 120 95 (l0 :: l1 :: some (.int x) :: L) (st) h = ev 120 96 (l0 :: l1 :: some (.int x) :: L) (.int x :: st) h := G_iload_n f120_95 rfl
theorem f120_96 : fetch 120 96 = some (.aload 4, 2) := vtab tk120 49 rfl
theorem e120_96 (l0 l1 l2 l3 : Option Value) (L : VL) (st : List Value) (h : VG) (x : Nat) : ev 120 96 (l0 :: l1 :: l2 :: l3 :: some (.ref x) :: L) (st) h = ev 120 98 (l0 :: l1 :: l2 :: l3 :: some (.ref x) :: L) (.ref x :: st) h := G_aload f120_96 rfl
theorem f120_98 : fetch 120 98 = some (.getfield 109, 3) := vtab tk120 50 rfl
theorem e120_98 (L : VL) (st : List Value) (h : VG) (a : Nat) (ho : ob h a 3) (hr : isR h a 7) : ev 120 98 L (.ref a :: st) h = ev 120 101 L (.ref (gR h a 7) :: st) h := G_getR (p := 308) f120_98 lkF_11_109 (by decide) (by decide) ho hr
theorem f120_101 : fetch 120 101 = some (.getfield 141, 3) := vtab tk120 51 rfl
theorem e120_101 (L : VL) (st : List Value) (h : VG) (a : Nat) (ho : ob h a 4) (hr : isR h a 1) : ev 120 101 L (.ref a :: st) h = ev 120 104 L (.ref (gR h a 1) :: st) h := G_getR (p := 258) f120_101 lkF_11_141 (by decide) (by decide) ho hr
theorem f120_104 : fetch 120 104 = some (.iload 6, 2) := vtab tk120 52 rfl
theorem e120_104 (l0 l1 l2 l3 l4 l5 : Option Value) (L : VL) (st : List Value) (h : VG) (x : Int32) : ev 120 104 (l0 :: l1 :: l2 :: l3 :: l4 :: l5 :: some (.int x) :: L) (st) h = ev 120 106 (l0 :: l1 :: l2 :: l3 :: l4 :: l5 :: some (.int x) :: L) (.int x :: st) h := G_iload f120_104 rfl
theorem f120_106 : fetch 120 106 = some (.iaload, 1) := vtab tk120 53 rfl
theorem e120_106 (L : VL) (st : List Value) (h : VG) (a : Nat) (i : Int32) (ha : rdI h a) (hi : vp_in i (aln h a)) : ev 120 106 L (.int i :: .ref a :: st) h = ev 120 107 L (.int (aI h a i.toNatClampNeg) :: st) h := G_iald' f120_106 ha hi
theorem f120_107 : fetch 120 107 = some (.iadd, 1) := vtab tk120 54 rfl
theorem e120_107 (L : VL) (st : List Value) (h : VG) (x y : Int32) : ev 120 107 L (.int y :: .int x :: st) h = ev 120 108 L (.int (x + y) :: st) h := G_iadd f120_107
theorem f120_108 : fetch 120 108 = some (.iload 7, 2) := vtab tk120 55 rfl
theorem e120_108 (l0 l1 l2 l3 l4 l5 l6 : Option Value) (L : VL) (st : List Value) (h : VG) (x : Int32) : ev 120 108 (l0 :: l1 :: l2 :: l3 :: l4 :: l5 :: l6 :: some (.int x) :: L) (st) h = ev 120 110 (l0 :: l1 :: l2 :: l3 :: l4 :: l5 :: l6 :: some (.int x) :: L) (.int x :: st) h := G_iload f120_108 rfl
theorem f120_110 : fetch 120 110 = some (.iconst 0, 1) := vtab tk120 56 rfl
theorem e120_110 (L : VL) (st : List Value) (h : VG) : ev 120 110 L (st) h = ev 120 111 L (.int (0 : Int32) :: st) h := G_iconst f120_110 (by decide)
theorem f120_111 : fetch 120 111 = some (.invokevirtual 276, 3) := vtab tk120 57 rfl
theorem e120_111 (L : VL) (st : List Value) (h : VG) (b : Nat) (x0 : Int32) (x1 : Int32) (x2 : Int32) (ho : ob h b 5) (hs : catS st ≤ 8) : ev 120 111 L (.int x2 :: .int x1 :: .int x0 :: .ref b :: st) h = (ev 56 0 [some (.ref b), some (.int x0), some (.int x1), some (.int x2), none, none, none, none, none] [] h).bind fun q => ev 120 114 L (q.1.toList ++ st) q.2 := G_callv (k := 1) (p := 868) (ars := [.int x0, .int x1, .int x2]) f120_111 lkC_11_276 (by decide) (by decide +kernel) rfl (vcls_ob (ci := 5) (by decide) ho) (Nat.le_of_ble_eq_true rfl) hs rfl
theorem f120_114 : fetch 120 114 = some (.lstore 8, 2) := vtab tk120 58 rfl
theorem e120_114 (l0 l1 l2 l3 l4 l5 l6 l7 l8 l9 : Option Value) (L : VL) (st : List Value) (h : VG) (x : Int64) : ev 120 114 (l0 :: l1 :: l2 :: l3 :: l4 :: l5 :: l6 :: l7 :: l8 :: l9 :: L) (.long x :: st) h = ev 120 116 (l0 :: l1 :: l2 :: l3 :: l4 :: l5 :: l6 :: vkk l7 :: some (.long x) :: none :: L) (st) h := G_lstore f120_114 rfl (S2_8 l0 l1 l2 l3 l4 l5 l6 l7 l8 l9 L _)
theorem f120_116 : fetch 120 116 = some (.aload_n 0, 1) := vtab tk120 59 rfl
theorem e120_116 (L : VL) (st : List Value) (h : VG) (x : Nat) : ev 120 116 (some (.ref x) :: L) (st) h = ev 120 117 (some (.ref x) :: L) (.ref x :: st) h := G_aload_n f120_116 rfl
theorem f120_117 : fetch 120 117 = some (.aload_n 0, 1) := vtab tk120 60 rfl
theorem e120_117 (L : VL) (st : List Value) (h : VG) (x : Nat) : ev 120 117 (some (.ref x) :: L) (st) h = ev 120 118 (some (.ref x) :: L) (.ref x :: st) h := G_aload_n f120_117 rfl
theorem f120_118 : fetch 120 118 = some (.getfield 37, 3) := vtab tk120 61 rfl
theorem e120_118 (L : VL) (st : List Value) (h : VG) (a : Nat) (ho : ob h a 10) (hr : isR h a 6) : ev 120 118 L (.ref a :: st) h = ev 120 121 L (.ref (gR h a 6) :: st) h := G_getR (p := 435) f120_118 lkF_11_37 (by decide) (by decide) ho hr
theorem f120_121 : fetch 120 121 = some (.getfield 186, 3) := vtab tk120 62 rfl
theorem e120_121 (L : VL) (st : List Value) (h : VG) (a : Nat) (ho : ob h a 8) (hr : isR h a 1) : ev 120 121 L (.ref a :: st) h = ev 120 124 L (.ref (gR h a 1) :: st) h := G_getR (p := 385) f120_121 lkF_11_186 (by decide) (by decide) ho hr
theorem f120_124 : fetch 120 124 = some (.iload_n 3, 1) := vtab tk120 63 rfl
theorem e120_124 (l0 l1 l2 : Option Value) (L : VL) (st : List Value) (h : VG) (x : Int32) : ev 120 124 (l0 :: l1 :: l2 :: some (.int x) :: L) (st) h = ev 120 125 (l0 :: l1 :: l2 :: some (.int x) :: L) (.int x :: st) h := G_iload_n f120_124 rfl
theorem f120_125 : fetch 120 125 = some (.aaload, 1) := vtab tk120 64 rfl
theorem e120_125 (L : VL) (st : List Value) (h : VG) (a : Nat) (i : Int32) (ha : rdR h a) (hi : vp_in i (aln h a)) : ev 120 125 L (.int i :: .ref a :: st) h = ev 120 126 L (va_rf (aR h a i.toNatClampNeg) :: st) h := G_aald' f120_125 ha hi
theorem f120_126 : fetch 120 126 = some (.iload 6, 2) := vtab tk120 65 rfl
theorem e120_126 (l0 l1 l2 l3 l4 l5 : Option Value) (L : VL) (st : List Value) (h : VG) (x : Int32) : ev 120 126 (l0 :: l1 :: l2 :: l3 :: l4 :: l5 :: some (.int x) :: L) (st) h = ev 120 128 (l0 :: l1 :: l2 :: l3 :: l4 :: l5 :: some (.int x) :: L) (.int x :: st) h := G_iload f120_126 rfl
theorem f120_128 : fetch 120 128 = some (.iload 7, 2) := vtab tk120 66 rfl
theorem e120_128 (l0 l1 l2 l3 l4 l5 l6 : Option Value) (L : VL) (st : List Value) (h : VG) (x : Int32) : ev 120 128 (l0 :: l1 :: l2 :: l3 :: l4 :: l5 :: l6 :: some (.int x) :: L) (st) h = ev 120 130 (l0 :: l1 :: l2 :: l3 :: l4 :: l5 :: l6 :: some (.int x) :: L) (.int x :: st) h := G_iload f120_128 rfl
theorem f120_130 : fetch 120 130 = some (.lload 8, 2) := vtab tk120 67 rfl
theorem e120_130 (l0 l1 l2 l3 l4 l5 l6 l7 : Option Value) (L : VL) (st : List Value) (h : VG) (x : Int64) : ev 120 130 (l0 :: l1 :: l2 :: l3 :: l4 :: l5 :: l6 :: l7 :: some (.long x) :: L) (st) h = ev 120 132 (l0 :: l1 :: l2 :: l3 :: l4 :: l5 :: l6 :: l7 :: some (.long x) :: L) (.long x :: st) h := G_lload f120_130 rfl
theorem f120_132 : fetch 120 132 = some (.invokevirtual 280, 3) := vtab tk120 68 rfl
theorem e120_132 (L : VL) (st : List Value) (h : VG) (b : Nat) (x0 : Nat) (x1 : Int32) (x2 : Int32) (x3 : Int64) (ho : ob h b 10) (hs : catS st ≤ 8) : ev 120 132 L (.long x3 :: .int x2 :: .int x1 :: .ref x0 :: .ref b :: st) h = (ev 121 0 [some (.ref b), some (.ref x0), some (.int x1), some (.int x2), some (.long x3), none, none] [] h).bind fun q => ev 120 135 L (q.1.toList ++ st) q.2 := G_callv (k := 1) (p := 876) (ars := [.ref x0, .int x1, .int x2, .long x3]) f120_132 lkC_11_280 (by decide) (by decide +kernel) rfl (vcls_ob (ci := 10) (by decide) ho) (Nat.le_of_ble_eq_true rfl) hs rfl
theorem f120_135 : fetch 120 135 = some (.ifCond .eq 6, 3) := vtab tk120 69 rfl
theorem e120_135 (L : VL) (st : List Value) (h : VG) (x : Int32) : ev 120 135 L (.int x :: st) h = if x = 0 then ev 120 141 L st h else ev 120 138 L st h := G_if_eq f120_135 (by decide)
theorem f120_138 : fetch 120 138 = some (.iinc 5 1, 3) := vtab tk120 70 rfl
theorem e120_138 (l0 l1 l2 l3 l4 : Option Value) (L : VL) (st : List Value) (h : VG) (x : Int32) : ev 120 138 (l0 :: l1 :: l2 :: l3 :: l4 :: some (.int x) :: L) (st) h = ev 120 141 (l0 :: l1 :: l2 :: l3 :: vkk l4 :: some (.int (x + (1 : Int32))) :: L) (st) h := G_iinc f120_138 rfl (by decide) (S1_5 l0 l1 l2 l3 l4 (some (.int x)) L _)
theorem f120_141 : fetch 120 141 = some (.iinc 6 1, 3) := vtab tk120 71 rfl
theorem e120_141 (l0 l1 l2 l3 l4 l5 : Option Value) (L : VL) (st : List Value) (h : VG) (x : Int32) : ev 120 141 (l0 :: l1 :: l2 :: l3 :: l4 :: l5 :: some (.int x) :: L) (st) h = ev 120 144 (l0 :: l1 :: l2 :: l3 :: l4 :: vkk l5 :: some (.int (x + (1 : Int32))) :: L) (st) h := G_iinc f120_141 rfl (by decide) (S1_6 l0 l1 l2 l3 l4 l5 (some (.int x)) L _)
theorem f120_144 : fetch 120 144 = some (.goto (-76), 3) := vtab tk120 72 rfl
theorem e120_144 (L : VL) (st : List Value) (h : VG) : ev 120 144 L (st) h = ev 120 68 L (st) h := G_goto f120_144 (by decide)
theorem f120_147 : fetch 120 147 = some (.iload 5, 2) := vtab tk120 73 rfl
theorem e120_147 (l0 l1 l2 l3 l4 : Option Value) (L : VL) (st : List Value) (h : VG) (x : Int32) : ev 120 147 (l0 :: l1 :: l2 :: l3 :: l4 :: some (.int x) :: L) (st) h = ev 120 149 (l0 :: l1 :: l2 :: l3 :: l4 :: some (.int x) :: L) (.int x :: st) h := G_iload f120_147 rfl
theorem f120_149 : fetch 120 149 = some (.ireturn, 1) := vtab tk120 74 rfl
theorem e120_149 (L : VL) (h : VG) (x : Int32) : ev 120 149 L [.int x] h = some (some (.int x), h) := G_iret f120_149 (ty := .int) (by decide) rfl
/-! 121 GuestCalls.loadCell(LGuestCalls$Bin;IIJ)Z -/
def tb121 : List (Nat × Instr × Nat) := [(0, .iload_n 3, 1), (1, .invokestatic 284, 3), (4, .istore 6, 2), (6, .lload 4, 2), (8, .iload_n 3, 1), (9, .invokestatic 287, 3), (12, .ifCond .eq 13, 3), (15, .aload_n 0, 1), (16, .iconst 4, 1), (17, .invokevirtual 180, 3), (20, .ifCond .eq 5, 3), (23, .iconst 0, 1), (24, .ireturn, 1), (25, .aload_n 0, 1), (26, .aload_n 1, 1), (27, .iload_n 2, 1), (28, .iload 6, 2), (30, .invokevirtual 215, 3), (33, .invokevirtual 180, 3), (36, .ifCond .eq 5, 3), (39, .iconst 0, 1), (40, .ireturn, 1), (41, .aload_n 1, 1), (42, .iload_n 2, 1), (43, .iload 6, 2), (45, .iload_n 3, 1), (46, .ifCond .ne 12, 3), (49, .lload 4, 2), (51, .iconst 0, 1), (52, .invokestatic 218, 3), (55, .goto 5, 3), (58, .lload 4, 2), (60, .invokevirtual 221, 3), (63, .iconst 1, 1), (64, .ireturn, 1)]
theorem tk121 : tb121.all (fun q => decide (fetch 121 q.1 = some q.2)) = true := by decide +kernel
theorem f121_0 : fetch 121 0 = some (.iload_n 3, 1) := vtab tk121 0 rfl
theorem e121_0 (l0 l1 l2 : Option Value) (L : VL) (st : List Value) (h : VG) (x : Int32) : ev 121 0 (l0 :: l1 :: l2 :: some (.int x) :: L) (st) h = ev 121 1 (l0 :: l1 :: l2 :: some (.int x) :: L) (.int x :: st) h := G_iload_n f121_0 rfl
theorem f121_1 : fetch 121 1 = some (.invokestatic 284, 3) := vtab tk121 1 rfl
theorem e121_1 (L : VL) (st : List Value) (h : VG) (x0 : Int32) (hs : catS st ≤ 8) : ev 121 1 L (.int x0 :: st) h = (ev 33 0 [some (.int x0)] [] h).bind fun q => ev 121 4 L (q.1.toList ++ st) q.2 := G_calls (k := 0) (p := 880) (ars := [.int x0]) f121_1 lkC_11_284 (by decide) (by decide +kernel) rfl (Nat.le_of_ble_eq_true rfl) hs rfl
theorem f121_4 : fetch 121 4 = some (.istore 6, 2) := vtab tk121 2 rfl
theorem e121_4 (l0 l1 l2 l3 l4 l5 l6 : Option Value) (L : VL) (st : List Value) (h : VG) (x : Int32) : ev 121 4 (l0 :: l1 :: l2 :: l3 :: l4 :: l5 :: l6 :: L) (.int x :: st) h = ev 121 6 (l0 :: l1 :: l2 :: l3 :: l4 :: vkk l5 :: some (.int x) :: L) (st) h := G_istore f121_4 rfl (S1_6 l0 l1 l2 l3 l4 l5 l6 L _)
theorem f121_6 : fetch 121 6 = some (.lload 4, 2) := vtab tk121 3 rfl
theorem e121_6 (l0 l1 l2 l3 : Option Value) (L : VL) (st : List Value) (h : VG) (x : Int64) : ev 121 6 (l0 :: l1 :: l2 :: l3 :: some (.long x) :: L) (st) h = ev 121 8 (l0 :: l1 :: l2 :: l3 :: some (.long x) :: L) (.long x :: st) h := G_lload f121_6 rfl
theorem f121_8 : fetch 121 8 = some (.iload_n 3, 1) := vtab tk121 4 rfl
theorem e121_8 (l0 l1 l2 : Option Value) (L : VL) (st : List Value) (h : VG) (x : Int32) : ev 121 8 (l0 :: l1 :: l2 :: some (.int x) :: L) (st) h = ev 121 9 (l0 :: l1 :: l2 :: some (.int x) :: L) (.int x :: st) h := G_iload_n f121_8 rfl
theorem f121_9 : fetch 121 9 = some (.invokestatic 287, 3) := vtab tk121 5 rfl
theorem e121_9 (L : VL) (st : List Value) (h : VG) (x0 : Int64) (x1 : Int32) (hs : catS st ≤ 8) : ev 121 9 L (.int x1 :: .long x0 :: st) h = (ev 40 0 [some (.long x0), none, some (.int x1)] [] h).bind fun q => ev 121 12 L (q.1.toList ++ st) q.2 := G_calls (k := 0) (p := 883) (ars := [.long x0, .int x1]) f121_9 lkC_11_287 (by decide) (by decide +kernel) rfl (Nat.le_of_ble_eq_true rfl) hs rfl
theorem f121_12 : fetch 121 12 = some (.ifCond .eq 13, 3) := vtab tk121 6 rfl
theorem e121_12 (L : VL) (st : List Value) (h : VG) (x : Int32) : ev 121 12 L (.int x :: st) h = if x = 0 then ev 121 25 L st h else ev 121 15 L st h := G_if_eq f121_12 (by decide)
theorem f121_15 : fetch 121 15 = some (.aload_n 0, 1) := vtab tk121 7 rfl
theorem e121_15 (L : VL) (st : List Value) (h : VG) (x : Nat) : ev 121 15 (some (.ref x) :: L) (st) h = ev 121 16 (some (.ref x) :: L) (.ref x :: st) h := G_aload_n f121_15 rfl
theorem f121_16 : fetch 121 16 = some (.iconst 4, 1) := vtab tk121 8 rfl
theorem e121_16 (L : VL) (st : List Value) (h : VG) : ev 121 16 L (st) h = ev 121 17 L (.int (4 : Int32) :: st) h := G_iconst f121_16 (by decide)
theorem f121_17 : fetch 121 17 = some (.invokevirtual 180, 3) := vtab tk121 9 rfl
theorem e121_17 (L : VL) (st : List Value) (h : VG) (b : Nat) (x0 : Int32) (ho : ob h b 10) (hs : catS st ≤ 8) : ev 121 17 L (.int x0 :: .ref b :: st) h = (ev 100 0 [some (.ref b), some (.int x0)] [] h).bind fun q => ev 121 20 L (q.1.toList ++ st) q.2 := G_callv (k := 1) (p := 692) (ars := [.int x0]) f121_17 lkC_11_180 (by decide) (by decide +kernel) rfl (vcls_ob (ci := 10) (by decide) ho) (Nat.le_of_ble_eq_true rfl) hs rfl
theorem f121_20 : fetch 121 20 = some (.ifCond .eq 5, 3) := vtab tk121 10 rfl
theorem e121_20 (L : VL) (st : List Value) (h : VG) (x : Int32) : ev 121 20 L (.int x :: st) h = if x = 0 then ev 121 25 L st h else ev 121 23 L st h := G_if_eq f121_20 (by decide)
theorem f121_23 : fetch 121 23 = some (.iconst 0, 1) := vtab tk121 11 rfl
theorem e121_23 (L : VL) (st : List Value) (h : VG) : ev 121 23 L (st) h = ev 121 24 L (.int (0 : Int32) :: st) h := G_iconst f121_23 (by decide)
theorem f121_24 : fetch 121 24 = some (.ireturn, 1) := vtab tk121 12 rfl
theorem e121_24 (L : VL) (h : VG) (x : Int32) (hz : x = 0 ∨ x = 1) : ev 121 24 L [.int x] h = some (some (.int x), h) := G_iret f121_24 (ty := .boolean) (by decide) (vbool hz).1
theorem f121_25 : fetch 121 25 = some (.aload_n 0, 1) := vtab tk121 13 rfl
theorem e121_25 (L : VL) (st : List Value) (h : VG) (x : Nat) : ev 121 25 (some (.ref x) :: L) (st) h = ev 121 26 (some (.ref x) :: L) (.ref x :: st) h := G_aload_n f121_25 rfl
theorem f121_26 : fetch 121 26 = some (.aload_n 1, 1) := vtab tk121 14 rfl
theorem e121_26 (l0 : Option Value) (L : VL) (st : List Value) (h : VG) (x : Nat) : ev 121 26 (l0 :: some (.ref x) :: L) (st) h = ev 121 27 (l0 :: some (.ref x) :: L) (.ref x :: st) h := G_aload_n f121_26 rfl
theorem f121_27 : fetch 121 27 = some (.iload_n 2, 1) := vtab tk121 15 rfl
theorem e121_27 (l0 l1 : Option Value) (L : VL) (st : List Value) (h : VG) (x : Int32) : ev 121 27 (l0 :: l1 :: some (.int x) :: L) (st) h = ev 121 28 (l0 :: l1 :: some (.int x) :: L) (.int x :: st) h := G_iload_n f121_27 rfl
theorem f121_28 : fetch 121 28 = some (.iload 6, 2) := vtab tk121 16 rfl
theorem e121_28 (l0 l1 l2 l3 l4 l5 : Option Value) (L : VL) (st : List Value) (h : VG) (x : Int32) : ev 121 28 (l0 :: l1 :: l2 :: l3 :: l4 :: l5 :: some (.int x) :: L) (st) h = ev 121 30 (l0 :: l1 :: l2 :: l3 :: l4 :: l5 :: some (.int x) :: L) (.int x :: st) h := G_iload f121_28 rfl
theorem f121_30 : fetch 121 30 = some (.invokevirtual 215, 3) := vtab tk121 17 rfl
theorem e121_30 (L : VL) (st : List Value) (h : VG) (b : Nat) (x0 : Int32) (x1 : Int32) (ho : ob h b 1) (hs : catS st ≤ 8) : ev 121 30 L (.int x1 :: .int x0 :: .ref b :: st) h = (ev 10 0 [some (.ref b), some (.int x0), some (.int x1), none] [] h).bind fun q => ev 121 33 L (q.1.toList ++ st) q.2 := G_callv (k := 1) (p := 788) (ars := [.int x0, .int x1]) f121_30 lkC_11_215 (by decide) (by decide +kernel) rfl (vcls_ob (ci := 1) (by decide) ho) (Nat.le_of_ble_eq_true rfl) hs rfl
theorem f121_33 : fetch 121 33 = some (.invokevirtual 180, 3) := vtab tk121 18 rfl
theorem e121_33 (L : VL) (st : List Value) (h : VG) (b : Nat) (x0 : Int32) (ho : ob h b 10) (hs : catS st ≤ 8) : ev 121 33 L (.int x0 :: .ref b :: st) h = (ev 100 0 [some (.ref b), some (.int x0)] [] h).bind fun q => ev 121 36 L (q.1.toList ++ st) q.2 := G_callv (k := 1) (p := 692) (ars := [.int x0]) f121_33 lkC_11_180 (by decide) (by decide +kernel) rfl (vcls_ob (ci := 10) (by decide) ho) (Nat.le_of_ble_eq_true rfl) hs rfl
theorem f121_36 : fetch 121 36 = some (.ifCond .eq 5, 3) := vtab tk121 19 rfl
theorem e121_36 (L : VL) (st : List Value) (h : VG) (x : Int32) : ev 121 36 L (.int x :: st) h = if x = 0 then ev 121 41 L st h else ev 121 39 L st h := G_if_eq f121_36 (by decide)
theorem f121_39 : fetch 121 39 = some (.iconst 0, 1) := vtab tk121 20 rfl
theorem e121_39 (L : VL) (st : List Value) (h : VG) : ev 121 39 L (st) h = ev 121 40 L (.int (0 : Int32) :: st) h := G_iconst f121_39 (by decide)
theorem f121_40 : fetch 121 40 = some (.ireturn, 1) := vtab tk121 21 rfl
theorem e121_40 (L : VL) (h : VG) (x : Int32) (hz : x = 0 ∨ x = 1) : ev 121 40 L [.int x] h = some (some (.int x), h) := G_iret f121_40 (ty := .boolean) (by decide) (vbool hz).1
theorem f121_41 : fetch 121 41 = some (.aload_n 1, 1) := vtab tk121 22 rfl
theorem e121_41 (l0 : Option Value) (L : VL) (st : List Value) (h : VG) (x : Nat) : ev 121 41 (l0 :: some (.ref x) :: L) (st) h = ev 121 42 (l0 :: some (.ref x) :: L) (.ref x :: st) h := G_aload_n f121_41 rfl
theorem f121_42 : fetch 121 42 = some (.iload_n 2, 1) := vtab tk121 23 rfl
theorem e121_42 (l0 l1 : Option Value) (L : VL) (st : List Value) (h : VG) (x : Int32) : ev 121 42 (l0 :: l1 :: some (.int x) :: L) (st) h = ev 121 43 (l0 :: l1 :: some (.int x) :: L) (.int x :: st) h := G_iload_n f121_42 rfl
theorem f121_43 : fetch 121 43 = some (.iload 6, 2) := vtab tk121 24 rfl
theorem e121_43 (l0 l1 l2 l3 l4 l5 : Option Value) (L : VL) (st : List Value) (h : VG) (x : Int32) : ev 121 43 (l0 :: l1 :: l2 :: l3 :: l4 :: l5 :: some (.int x) :: L) (st) h = ev 121 45 (l0 :: l1 :: l2 :: l3 :: l4 :: l5 :: some (.int x) :: L) (.int x :: st) h := G_iload f121_43 rfl
theorem f121_45 : fetch 121 45 = some (.iload_n 3, 1) := vtab tk121 25 rfl
theorem e121_45 (l0 l1 l2 : Option Value) (L : VL) (st : List Value) (h : VG) (x : Int32) : ev 121 45 (l0 :: l1 :: l2 :: some (.int x) :: L) (st) h = ev 121 46 (l0 :: l1 :: l2 :: some (.int x) :: L) (.int x :: st) h := G_iload_n f121_45 rfl
theorem f121_46 : fetch 121 46 = some (.ifCond .ne 12, 3) := vtab tk121 26 rfl
theorem e121_46 (L : VL) (st : List Value) (h : VG) (x : Int32) : ev 121 46 L (.int x :: st) h = if x = 0 then ev 121 49 L st h else ev 121 58 L st h := G_if_ne f121_46 (by decide)
theorem f121_49 : fetch 121 49 = some (.lload 4, 2) := vtab tk121 27 rfl
theorem e121_49 (l0 l1 l2 l3 : Option Value) (L : VL) (st : List Value) (h : VG) (x : Int64) : ev 121 49 (l0 :: l1 :: l2 :: l3 :: some (.long x) :: L) (st) h = ev 121 51 (l0 :: l1 :: l2 :: l3 :: some (.long x) :: L) (.long x :: st) h := G_lload f121_49 rfl
theorem f121_51 : fetch 121 51 = some (.iconst 0, 1) := vtab tk121 28 rfl
theorem e121_51 (L : VL) (st : List Value) (h : VG) : ev 121 51 L (st) h = ev 121 52 L (.int (0 : Int32) :: st) h := G_iconst f121_51 (by decide)
theorem f121_52 : fetch 121 52 = some (.invokestatic 218, 3) := vtab tk121 29 rfl
theorem e121_52 (L : VL) (st : List Value) (h : VG) (x0 : Int64) (x1 : Int32) (hs : catS st ≤ 8) : ev 121 52 L (.int x1 :: .long x0 :: st) h = (ev 37 0 [some (.long x0), none, some (.int x1)] [] h).bind fun q => ev 121 55 L (q.1.toList ++ st) q.2 := G_calls (k := 0) (p := 792) (ars := [.long x0, .int x1]) f121_52 lkC_11_218 (by decide) (by decide +kernel) rfl (Nat.le_of_ble_eq_true rfl) hs rfl
theorem f121_55 : fetch 121 55 = some (.goto 5, 3) := vtab tk121 30 rfl
theorem e121_55 (L : VL) (st : List Value) (h : VG) : ev 121 55 L (st) h = ev 121 60 L (st) h := G_goto f121_55 (by decide)
theorem f121_58 : fetch 121 58 = some (.lload 4, 2) := vtab tk121 31 rfl
theorem e121_58 (l0 l1 l2 l3 : Option Value) (L : VL) (st : List Value) (h : VG) (x : Int64) : ev 121 58 (l0 :: l1 :: l2 :: l3 :: some (.long x) :: L) (st) h = ev 121 60 (l0 :: l1 :: l2 :: l3 :: some (.long x) :: L) (.long x :: st) h := G_lload f121_58 rfl
theorem f121_60 : fetch 121 60 = some (.invokevirtual 221, 3) := vtab tk121 32 rfl
theorem e121_60 (L : VL) (st : List Value) (h : VG) (b : Nat) (x0 : Int32) (x1 : Int32) (x2 : Int64) (ho : ob h b 1) (hs : catS st ≤ 8) : ev 121 60 L (.long x2 :: .int x1 :: .int x0 :: .ref b :: st) h = (ev 18 0 [some (.ref b), some (.int x0), some (.int x1), some (.long x2), none] [] h).bind fun q => ev 121 63 L (q.1.toList ++ st) q.2 := G_callv (k := 1) (p := 795) (ars := [.int x0, .int x1, .long x2]) f121_60 lkC_11_221 (by decide) (by decide +kernel) rfl (vcls_ob (ci := 1) (by decide) ho) (Nat.le_of_ble_eq_true rfl) hs rfl
theorem f121_63 : fetch 121 63 = some (.iconst 1, 1) := vtab tk121 33 rfl
theorem e121_63 (L : VL) (st : List Value) (h : VG) : ev 121 63 L (st) h = ev 121 64 L (.int (1 : Int32) :: st) h := G_iconst f121_63 (by decide)
theorem f121_64 : fetch 121 64 = some (.ireturn, 1) := vtab tk121 34 rfl
theorem e121_64 (L : VL) (h : VG) (x : Int32) (hz : x = 0 ∨ x = 1) : ev 121 64 L [.int x] h = some (some (.int x), h) := G_iret f121_64 (ty := .boolean) (by decide) (vbool hz).1
/-! 122 GuestCalls.store(III)I -/
def tb122 : List (Nat × Instr × Nat) := [(0, .aload_n 0, 1), (1, .iconst 0, 1), (2, .putfield 86, 3), (5, .aload_n 0, 1), (6, .iload_n 1, 1), (7, .invokevirtual 95, 3), (10, .ifCond .eq 10, 3), (13, .iload_n 2, 1), (14, .invokestatic 183, 3), (17, .ifCond .ne 5, 3), (20, .iconst (-1), 1), (21, .ireturn, 1), (22, .aload_n 0, 1), (23, .getfield 23, 3), (26, .getfield 99, 3), (29, .iload_n 1, 1), (30, .aaload, 1), (31, .astore 4, 2), (33, .aload_n 0, 1), (34, .getfield 37, 3), (37, .getfield 186, 3), (40, .iload_n 2, 1), (41, .aaload, 1), (42, .astore 5, 2), (44, .aload_n 0, 1), (45, .aload_n 0, 1), (46, .getfield 37, 3), (49, .getfield 170, 3), (52, .iload_n 3, 1), (53, .i2l, 1), (54, .aload 4, 2), (56, .getfield 109, 3), (59, .getfield 131, 3), (62, .invokevirtual 176, 3), (65, .invokevirtual 180, 3), (68, .ifCond .eq 5, 3), (71, .iconst (-1), 1), (72, .ireturn, 1), (73, .iconst 0, 1), (74, .istore 6, 2), (76, .iload 6, 2), (78, .aload 4, 2), (80, .getfield 123, 3), (83, .if_icmp .ge 90, 3), (86, .aload 4, 2), (88, .getfield 273, 3), (91, .iload 6, 2), (93, .iaload, 1), (94, .invokestatic 284, 3), (97, .istore 7, 2), (99, .aload_n 0, 1), (100, .aload 5, 2), (102, .iload 6, 2), (104, .iload 7, 2), (106, .invokevirtual 203, 3), (109, .invokevirtual 180, 3), (112, .ifCond .eq 5, 3), (115, .iconst (-1), 1), (116, .ireturn, 1), (117, .aload_n 0, 1), (118, .getfield 49, 3), (121, .iload 6, 2), (123, .aload 5, 2), (125, .iload 6, 2), (127, .iload 7, 2), (129, .invokevirtual 207, 3), (132, .lastore, 1), (133, .aload_n 0, 1), (134, .aload_n 0, 1), (135, .getfield 37, 3), (138, .getfield 170, 3), (141, .aload 4, 2), (143, .getfield 273, 3), (146, .iload 6, 2), (148, .iaload, 1), (149, .aload_n 0, 1), (150, .getfield 49, 3), (153, .iload 6, 2), (155, .laload, 1), (156, .invokevirtual 291, 3), (159, .invokevirtual 180, 3), (162, .ifCond .eq 5, 3), (165, .iconst (-1), 1), (166, .ireturn, 1), (167, .iinc 6 1, 3), (170, .goto (-94), 3), (173, .aload_n 0, 1), (174, .getfield 37, 3), (177, .getfield 170, 3), (180, .aload 4, 2), (182, .aload 4, 2), (184, .getfield 109, 3), (187, .iload_n 3, 1), (188, .aload_n 0, 1), (189, .getfield 49, 3), (192, .invokevirtual 295, 3), (195, .aload 4, 2), (197, .getfield 109, 3), (200, .getfield 131, 3), (203, .ireturn, 1)]
theorem tk122 : tb122.all (fun q => decide (fetch 122 q.1 = some q.2)) = true := by decide +kernel
theorem f122_0 : fetch 122 0 = some (.aload_n 0, 1) := vtab tk122 0 rfl
theorem e122_0 (L : VL) (st : List Value) (h : VG) (x : Nat) : ev 122 0 (some (.ref x) :: L) (st) h = ev 122 1 (some (.ref x) :: L) (.ref x :: st) h := G_aload_n f122_0 rfl
theorem f122_1 : fetch 122 1 = some (.iconst 0, 1) := vtab tk122 1 rfl
theorem e122_1 (L : VL) (st : List Value) (h : VG) : ev 122 1 L (st) h = ev 122 2 L (.int (0 : Int32) :: st) h := G_iconst f122_1 (by decide)
theorem f122_2 : fetch 122 2 = some (.putfield 86, 3) := vtab tk122 2 rfl
theorem e122_2 (L : VL) (st : List Value) (h : VG) (a : Nat) (x : Int32) (ho : ob h a 10) : ev 122 2 L (.int x :: .ref a :: st) h = ev 122 5 L (st) (pI h a 9 x) := G_putI (p := 438) f122_2 lkF_11_86 (by decide) (by decide) (by decide +kernel) ⟨rfl, rfl⟩ ho
theorem f122_5 : fetch 122 5 = some (.aload_n 0, 1) := vtab tk122 3 rfl
theorem e122_5 (L : VL) (st : List Value) (h : VG) (x : Nat) : ev 122 5 (some (.ref x) :: L) (st) h = ev 122 6 (some (.ref x) :: L) (.ref x :: st) h := G_aload_n f122_5 rfl
theorem f122_6 : fetch 122 6 = some (.iload_n 1, 1) := vtab tk122 4 rfl
theorem e122_6 (l0 : Option Value) (L : VL) (st : List Value) (h : VG) (x : Int32) : ev 122 6 (l0 :: some (.int x) :: L) (st) h = ev 122 7 (l0 :: some (.int x) :: L) (.int x :: st) h := G_iload_n f122_6 rfl
theorem f122_7 : fetch 122 7 = some (.invokevirtual 95, 3) := vtab tk122 5 rfl
theorem e122_7 (L : VL) (st : List Value) (h : VG) (b : Nat) (x0 : Int32) (ho : ob h b 10) (hs : catS st ≤ 8) : ev 122 7 L (.int x0 :: .ref b :: st) h = (ev 101 0 [some (.ref b), some (.int x0)] [] h).bind fun q => ev 122 10 L (q.1.toList ++ st) q.2 := G_callv (k := 1) (p := 665) (ars := [.int x0]) f122_7 lkC_11_95 (by decide) (by decide +kernel) rfl (vcls_ob (ci := 10) (by decide) ho) (Nat.le_of_ble_eq_true rfl) hs rfl
theorem f122_10 : fetch 122 10 = some (.ifCond .eq 10, 3) := vtab tk122 6 rfl
theorem e122_10 (L : VL) (st : List Value) (h : VG) (x : Int32) : ev 122 10 L (.int x :: st) h = if x = 0 then ev 122 20 L st h else ev 122 13 L st h := G_if_eq f122_10 (by decide)
theorem f122_13 : fetch 122 13 = some (.iload_n 2, 1) := vtab tk122 7 rfl
theorem e122_13 (l0 l1 : Option Value) (L : VL) (st : List Value) (h : VG) (x : Int32) : ev 122 13 (l0 :: l1 :: some (.int x) :: L) (st) h = ev 122 14 (l0 :: l1 :: some (.int x) :: L) (.int x :: st) h := G_iload_n f122_13 rfl
theorem f122_14 : fetch 122 14 = some (.invokestatic 183, 3) := vtab tk122 8 rfl
theorem e122_14 (L : VL) (st : List Value) (h : VG) (x0 : Int32) (hs : catS st ≤ 8) : ev 122 14 L (.int x0 :: st) h = (ev 102 0 [some (.int x0)] [] h).bind fun q => ev 122 17 L (q.1.toList ++ st) q.2 := G_calls (k := 0) (p := 700) (ars := [.int x0]) f122_14 lkC_11_183 (by decide) (by decide +kernel) rfl (Nat.le_of_ble_eq_true rfl) hs rfl
theorem f122_17 : fetch 122 17 = some (.ifCond .ne 5, 3) := vtab tk122 9 rfl
theorem e122_17 (L : VL) (st : List Value) (h : VG) (x : Int32) : ev 122 17 L (.int x :: st) h = if x = 0 then ev 122 20 L st h else ev 122 22 L st h := G_if_ne f122_17 (by decide)
theorem f122_20 : fetch 122 20 = some (.iconst (-1), 1) := vtab tk122 10 rfl
theorem e122_20 (L : VL) (st : List Value) (h : VG) : ev 122 20 L (st) h = ev 122 21 L (.int (-1 : Int32) :: st) h := G_iconst f122_20 (by decide)
theorem f122_21 : fetch 122 21 = some (.ireturn, 1) := vtab tk122 11 rfl
theorem e122_21 (L : VL) (h : VG) (x : Int32) : ev 122 21 L [.int x] h = some (some (.int x), h) := G_iret f122_21 (ty := .int) (by decide) rfl
theorem f122_22 : fetch 122 22 = some (.aload_n 0, 1) := vtab tk122 12 rfl
theorem e122_22 (L : VL) (st : List Value) (h : VG) (x : Nat) : ev 122 22 (some (.ref x) :: L) (st) h = ev 122 23 (some (.ref x) :: L) (.ref x :: st) h := G_aload_n f122_22 rfl
theorem f122_23 : fetch 122 23 = some (.getfield 23, 3) := vtab tk122 13 rfl
theorem e122_23 (L : VL) (st : List Value) (h : VG) (a : Nat) (ho : ob h a 10) (hr : isR h a 3) : ev 122 23 L (.ref a :: st) h = ev 122 26 L (.ref (gR h a 3) :: st) h := G_getR (p := 432) f122_23 lkF_11_23 (by decide) (by decide) ho hr
theorem f122_26 : fetch 122 26 = some (.getfield 99, 3) := vtab tk122 14 rfl
theorem e122_26 (L : VL) (st : List Value) (h : VG) (a : Nat) (ho : ob h a 6) (hr : isR h a 1) : ev 122 26 L (.ref a :: st) h = ev 122 29 L (.ref (gR h a 1) :: st) h := G_getR (p := 339) f122_26 lkF_11_99 (by decide) (by decide) ho hr
theorem f122_29 : fetch 122 29 = some (.iload_n 1, 1) := vtab tk122 15 rfl
theorem e122_29 (l0 : Option Value) (L : VL) (st : List Value) (h : VG) (x : Int32) : ev 122 29 (l0 :: some (.int x) :: L) (st) h = ev 122 30 (l0 :: some (.int x) :: L) (.int x :: st) h := G_iload_n f122_29 rfl
theorem f122_30 : fetch 122 30 = some (.aaload, 1) := vtab tk122 16 rfl
theorem e122_30 (L : VL) (st : List Value) (h : VG) (a : Nat) (i : Int32) (ha : rdR h a) (hi : vp_in i (aln h a)) : ev 122 30 L (.int i :: .ref a :: st) h = ev 122 31 L (va_rf (aR h a i.toNatClampNeg) :: st) h := G_aald' f122_30 ha hi
theorem f122_31 : fetch 122 31 = some (.astore 4, 2) := vtab tk122 17 rfl
theorem e122_31 (l0 l1 l2 l3 l4 : Option Value) (L : VL) (st : List Value) (h : VG) (x : Nat) : ev 122 31 (l0 :: l1 :: l2 :: l3 :: l4 :: L) (.ref x :: st) h = ev 122 33 (l0 :: l1 :: l2 :: vkk l3 :: some (.ref x) :: L) (st) h := G_astore f122_31 rfl (S1_4 l0 l1 l2 l3 l4 L _)
theorem f122_33 : fetch 122 33 = some (.aload_n 0, 1) := vtab tk122 18 rfl
theorem e122_33 (L : VL) (st : List Value) (h : VG) (x : Nat) : ev 122 33 (some (.ref x) :: L) (st) h = ev 122 34 (some (.ref x) :: L) (.ref x :: st) h := G_aload_n f122_33 rfl
theorem f122_34 : fetch 122 34 = some (.getfield 37, 3) := vtab tk122 19 rfl
theorem e122_34 (L : VL) (st : List Value) (h : VG) (a : Nat) (ho : ob h a 10) (hr : isR h a 6) : ev 122 34 L (.ref a :: st) h = ev 122 37 L (.ref (gR h a 6) :: st) h := G_getR (p := 435) f122_34 lkF_11_37 (by decide) (by decide) ho hr
theorem f122_37 : fetch 122 37 = some (.getfield 186, 3) := vtab tk122 20 rfl
theorem e122_37 (L : VL) (st : List Value) (h : VG) (a : Nat) (ho : ob h a 8) (hr : isR h a 1) : ev 122 37 L (.ref a :: st) h = ev 122 40 L (.ref (gR h a 1) :: st) h := G_getR (p := 385) f122_37 lkF_11_186 (by decide) (by decide) ho hr
theorem f122_40 : fetch 122 40 = some (.iload_n 2, 1) := vtab tk122 21 rfl
theorem e122_40 (l0 l1 : Option Value) (L : VL) (st : List Value) (h : VG) (x : Int32) : ev 122 40 (l0 :: l1 :: some (.int x) :: L) (st) h = ev 122 41 (l0 :: l1 :: some (.int x) :: L) (.int x :: st) h := G_iload_n f122_40 rfl
theorem f122_41 : fetch 122 41 = some (.aaload, 1) := vtab tk122 22 rfl
theorem e122_41 (L : VL) (st : List Value) (h : VG) (a : Nat) (i : Int32) (ha : rdR h a) (hi : vp_in i (aln h a)) : ev 122 41 L (.int i :: .ref a :: st) h = ev 122 42 L (va_rf (aR h a i.toNatClampNeg) :: st) h := G_aald' f122_41 ha hi
theorem f122_42 : fetch 122 42 = some (.astore 5, 2) := vtab tk122 23 rfl
theorem e122_42 (l0 l1 l2 l3 l4 l5 : Option Value) (L : VL) (st : List Value) (h : VG) (x : Nat) : ev 122 42 (l0 :: l1 :: l2 :: l3 :: l4 :: l5 :: L) (.ref x :: st) h = ev 122 44 (l0 :: l1 :: l2 :: l3 :: vkk l4 :: some (.ref x) :: L) (st) h := G_astore f122_42 rfl (S1_5 l0 l1 l2 l3 l4 l5 L _)
theorem f122_44 : fetch 122 44 = some (.aload_n 0, 1) := vtab tk122 24 rfl
theorem e122_44 (L : VL) (st : List Value) (h : VG) (x : Nat) : ev 122 44 (some (.ref x) :: L) (st) h = ev 122 45 (some (.ref x) :: L) (.ref x :: st) h := G_aload_n f122_44 rfl
theorem f122_45 : fetch 122 45 = some (.aload_n 0, 1) := vtab tk122 25 rfl
theorem e122_45 (L : VL) (st : List Value) (h : VG) (x : Nat) : ev 122 45 (some (.ref x) :: L) (st) h = ev 122 46 (some (.ref x) :: L) (.ref x :: st) h := G_aload_n f122_45 rfl
theorem f122_46 : fetch 122 46 = some (.getfield 37, 3) := vtab tk122 26 rfl
theorem e122_46 (L : VL) (st : List Value) (h : VG) (a : Nat) (ho : ob h a 10) (hr : isR h a 6) : ev 122 46 L (.ref a :: st) h = ev 122 49 L (.ref (gR h a 6) :: st) h := G_getR (p := 435) f122_46 lkF_11_37 (by decide) (by decide) ho hr
theorem f122_49 : fetch 122 49 = some (.getfield 170, 3) := vtab tk122 27 rfl
theorem e122_49 (L : VL) (st : List Value) (h : VG) (a : Nat) (ho : ob h a 8) (hr : isR h a 0) : ev 122 49 L (.ref a :: st) h = ev 122 52 L (.ref (gR h a 0) :: st) h := G_getR (p := 383) f122_49 lkF_11_170 (by decide) (by decide) ho hr
theorem f122_52 : fetch 122 52 = some (.iload_n 3, 1) := vtab tk122 28 rfl
theorem e122_52 (l0 l1 l2 : Option Value) (L : VL) (st : List Value) (h : VG) (x : Int32) : ev 122 52 (l0 :: l1 :: l2 :: some (.int x) :: L) (st) h = ev 122 53 (l0 :: l1 :: l2 :: some (.int x) :: L) (.int x :: st) h := G_iload_n f122_52 rfl
theorem f122_53 : fetch 122 53 = some (.i2l, 1) := vtab tk122 29 rfl
theorem e122_53 (L : VL) (st : List Value) (h : VG) (x : Int32) : ev 122 53 L (.int x :: st) h = ev 122 54 L (.long x.toInt64 :: st) h := G_i2l f122_53
theorem f122_54 : fetch 122 54 = some (.aload 4, 2) := vtab tk122 30 rfl
theorem e122_54 (l0 l1 l2 l3 : Option Value) (L : VL) (st : List Value) (h : VG) (x : Nat) : ev 122 54 (l0 :: l1 :: l2 :: l3 :: some (.ref x) :: L) (st) h = ev 122 56 (l0 :: l1 :: l2 :: l3 :: some (.ref x) :: L) (.ref x :: st) h := G_aload f122_54 rfl
theorem f122_56 : fetch 122 56 = some (.getfield 109, 3) := vtab tk122 31 rfl
theorem e122_56 (L : VL) (st : List Value) (h : VG) (a : Nat) (ho : ob h a 3) (hr : isR h a 7) : ev 122 56 L (.ref a :: st) h = ev 122 59 L (.ref (gR h a 7) :: st) h := G_getR (p := 308) f122_56 lkF_11_109 (by decide) (by decide) ho hr
theorem f122_59 : fetch 122 59 = some (.getfield 131, 3) := vtab tk122 32 rfl
theorem e122_59 (L : VL) (st : List Value) (h : VG) (a : Nat) (ho : ob h a 4) : ev 122 59 L (.ref a :: st) h = ev 122 62 L (.int (gI h a 3) :: st) h := G_getI (p := 262) f122_59 lkF_11_131 (by decide) (by decide) ho
theorem f122_62 : fetch 122 62 = some (.invokevirtual 176, 3) := vtab tk122 33 rfl
theorem e122_62 (L : VL) (st : List Value) (h : VG) (b : Nat) (x0 : Int64) (x1 : Int32) (ho : ob h b 5) (hs : catS st ≤ 8) : ev 122 62 L (.int x1 :: .long x0 :: .ref b :: st) h = (ev 54 0 [some (.ref b), some (.long x0), none, some (.int x1)] [] h).bind fun q => ev 122 65 L (q.1.toList ++ st) q.2 := G_callv (k := 1) (p := 688) (ars := [.long x0, .int x1]) f122_62 lkC_11_176 (by decide) (by decide +kernel) rfl (vcls_ob (ci := 5) (by decide) ho) (Nat.le_of_ble_eq_true rfl) hs rfl
theorem f122_65 : fetch 122 65 = some (.invokevirtual 180, 3) := vtab tk122 34 rfl
theorem e122_65 (L : VL) (st : List Value) (h : VG) (b : Nat) (x0 : Int32) (ho : ob h b 10) (hs : catS st ≤ 8) : ev 122 65 L (.int x0 :: .ref b :: st) h = (ev 100 0 [some (.ref b), some (.int x0)] [] h).bind fun q => ev 122 68 L (q.1.toList ++ st) q.2 := G_callv (k := 1) (p := 692) (ars := [.int x0]) f122_65 lkC_11_180 (by decide) (by decide +kernel) rfl (vcls_ob (ci := 10) (by decide) ho) (Nat.le_of_ble_eq_true rfl) hs rfl
theorem f122_68 : fetch 122 68 = some (.ifCond .eq 5, 3) := vtab tk122 35 rfl
theorem e122_68 (L : VL) (st : List Value) (h : VG) (x : Int32) : ev 122 68 L (.int x :: st) h = if x = 0 then ev 122 73 L st h else ev 122 71 L st h := G_if_eq f122_68 (by decide)
theorem f122_71 : fetch 122 71 = some (.iconst (-1), 1) := vtab tk122 36 rfl
theorem e122_71 (L : VL) (st : List Value) (h : VG) : ev 122 71 L (st) h = ev 122 72 L (.int (-1 : Int32) :: st) h := G_iconst f122_71 (by decide)
theorem f122_72 : fetch 122 72 = some (.ireturn, 1) := vtab tk122 37 rfl
theorem e122_72 (L : VL) (h : VG) (x : Int32) : ev 122 72 L [.int x] h = some (some (.int x), h) := G_iret f122_72 (ty := .int) (by decide) rfl
theorem f122_73 : fetch 122 73 = some (.iconst 0, 1) := vtab tk122 38 rfl
theorem e122_73 (L : VL) (st : List Value) (h : VG) : ev 122 73 L (st) h = ev 122 74 L (.int (0 : Int32) :: st) h := G_iconst f122_73 (by decide)
theorem f122_74 : fetch 122 74 = some (.istore 6, 2) := vtab tk122 39 rfl
theorem e122_74 (l0 l1 l2 l3 l4 l5 l6 : Option Value) (L : VL) (st : List Value) (h : VG) (x : Int32) : ev 122 74 (l0 :: l1 :: l2 :: l3 :: l4 :: l5 :: l6 :: L) (.int x :: st) h = ev 122 76 (l0 :: l1 :: l2 :: l3 :: l4 :: vkk l5 :: some (.int x) :: L) (st) h := G_istore f122_74 rfl (S1_6 l0 l1 l2 l3 l4 l5 l6 L _)
theorem f122_76 : fetch 122 76 = some (.iload 6, 2) := vtab tk122 40 rfl
theorem e122_76 (l0 l1 l2 l3 l4 l5 : Option Value) (L : VL) (st : List Value) (h : VG) (x : Int32) : ev 122 76 (l0 :: l1 :: l2 :: l3 :: l4 :: l5 :: some (.int x) :: L) (st) h = ev 122 78 (l0 :: l1 :: l2 :: l3 :: l4 :: l5 :: some (.int x) :: L) (.int x :: st) h := G_iload f122_76 rfl
theorem f122_78 : fetch 122 78 = some (.aload 4, 2) := vtab tk122 41 rfl
theorem e122_78 (l0 l1 l2 l3 : Option Value) (L : VL) (st : List Value) (h : VG) (x : Nat) : ev 122 78 (l0 :: l1 :: l2 :: l3 :: some (.ref x) :: L) (st) h = ev 122 80 (l0 :: l1 :: l2 :: l3 :: some (.ref x) :: L) (.ref x :: st) h := G_aload f122_78 rfl
theorem f122_80 : fetch 122 80 = some (.getfield 123, 3) := vtab tk122 42 rfl
theorem e122_80 (L : VL) (st : List Value) (h : VG) (a : Nat) (ho : ob h a 3) : ev 122 80 L (.ref a :: st) h = ev 122 83 L (.int (gI h a 2) :: st) h := G_getI (p := 297) f122_80 lkF_11_123 (by decide) (by decide) ho
theorem f122_83 : fetch 122 83 = some (.if_icmp .ge 90, 3) := vtab tk122 43 rfl
theorem e122_83 (L : VL) (st : List Value) (h : VG) (x y : Int32) : ev 122 83 L (.int y :: .int x :: st) h = if x < y then ev 122 86 L st h else ev 122 173 L st h := G_icmp_ge f122_83 (by decide)
theorem f122_86 : fetch 122 86 = some (.aload 4, 2) := vtab tk122 44 rfl
theorem e122_86 (l0 l1 l2 l3 : Option Value) (L : VL) (st : List Value) (h : VG) (x : Nat) : ev 122 86 (l0 :: l1 :: l2 :: l3 :: some (.ref x) :: L) (st) h = ev 122 88 (l0 :: l1 :: l2 :: l3 :: some (.ref x) :: L) (.ref x :: st) h := G_aload f122_86 rfl
theorem f122_88 : fetch 122 88 = some (.getfield 273, 3) := vtab tk122 45 rfl
theorem e122_88 (L : VL) (st : List Value) (h : VG) (a : Nat) (ho : ob h a 3) (hr : isR h a 6) : ev 122 88 L (.ref a :: st) h = ev 122 91 L (.ref (gR h a 6) :: st) h := G_getR (p := 306) f122_88 lkF_11_273 (by decide) (by decide) ho hr
theorem f122_91 : fetch 122 91 = some (.iload 6, 2) := vtab tk122 46 rfl
theorem e122_91 (l0 l1 l2 l3 l4 l5 : Option Value) (L : VL) (st : List Value) (h : VG) (x : Int32) : ev 122 91 (l0 :: l1 :: l2 :: l3 :: l4 :: l5 :: some (.int x) :: L) (st) h = ev 122 93 (l0 :: l1 :: l2 :: l3 :: l4 :: l5 :: some (.int x) :: L) (.int x :: st) h := G_iload f122_91 rfl
theorem f122_93 : fetch 122 93 = some (.iaload, 1) := vtab tk122 47 rfl
theorem e122_93 (L : VL) (st : List Value) (h : VG) (a : Nat) (i : Int32) (ha : rdI h a) (hi : vp_in i (aln h a)) : ev 122 93 L (.int i :: .ref a :: st) h = ev 122 94 L (.int (aI h a i.toNatClampNeg) :: st) h := G_iald' f122_93 ha hi
theorem f122_94 : fetch 122 94 = some (.invokestatic 284, 3) := vtab tk122 48 rfl
theorem e122_94 (L : VL) (st : List Value) (h : VG) (x0 : Int32) (hs : catS st ≤ 8) : ev 122 94 L (.int x0 :: st) h = (ev 33 0 [some (.int x0)] [] h).bind fun q => ev 122 97 L (q.1.toList ++ st) q.2 := G_calls (k := 0) (p := 880) (ars := [.int x0]) f122_94 lkC_11_284 (by decide) (by decide +kernel) rfl (Nat.le_of_ble_eq_true rfl) hs rfl
theorem f122_97 : fetch 122 97 = some (.istore 7, 2) := vtab tk122 49 rfl
theorem e122_97 (l0 l1 l2 l3 l4 l5 l6 l7 : Option Value) (L : VL) (st : List Value) (h : VG) (x : Int32) : ev 122 97 (l0 :: l1 :: l2 :: l3 :: l4 :: l5 :: l6 :: l7 :: L) (.int x :: st) h = ev 122 99 (l0 :: l1 :: l2 :: l3 :: l4 :: l5 :: vkk l6 :: some (.int x) :: L) (st) h := G_istore f122_97 rfl (S1_7 l0 l1 l2 l3 l4 l5 l6 l7 L _)
theorem f122_99 : fetch 122 99 = some (.aload_n 0, 1) := vtab tk122 50 rfl
theorem e122_99 (L : VL) (st : List Value) (h : VG) (x : Nat) : ev 122 99 (some (.ref x) :: L) (st) h = ev 122 100 (some (.ref x) :: L) (.ref x :: st) h := G_aload_n f122_99 rfl
theorem f122_100 : fetch 122 100 = some (.aload 5, 2) := vtab tk122 51 rfl
theorem e122_100 (l0 l1 l2 l3 l4 : Option Value) (L : VL) (st : List Value) (h : VG) (x : Nat) : ev 122 100 (l0 :: l1 :: l2 :: l3 :: l4 :: some (.ref x) :: L) (st) h = ev 122 102 (l0 :: l1 :: l2 :: l3 :: l4 :: some (.ref x) :: L) (.ref x :: st) h := G_aload f122_100 rfl
theorem f122_102 : fetch 122 102 = some (.iload 6, 2) := vtab tk122 52 rfl
theorem e122_102 (l0 l1 l2 l3 l4 l5 : Option Value) (L : VL) (st : List Value) (h : VG) (x : Int32) : ev 122 102 (l0 :: l1 :: l2 :: l3 :: l4 :: l5 :: some (.int x) :: L) (st) h = ev 122 104 (l0 :: l1 :: l2 :: l3 :: l4 :: l5 :: some (.int x) :: L) (.int x :: st) h := G_iload f122_102 rfl
theorem f122_104 : fetch 122 104 = some (.iload 7, 2) := vtab tk122 53 rfl
theorem e122_104 (l0 l1 l2 l3 l4 l5 l6 : Option Value) (L : VL) (st : List Value) (h : VG) (x : Int32) : ev 122 104 (l0 :: l1 :: l2 :: l3 :: l4 :: l5 :: l6 :: some (.int x) :: L) (st) h = ev 122 106 (l0 :: l1 :: l2 :: l3 :: l4 :: l5 :: l6 :: some (.int x) :: L) (.int x :: st) h := G_iload f122_104 rfl
theorem f122_106 : fetch 122 106 = some (.invokevirtual 203, 3) := vtab tk122 54 rfl
theorem e122_106 (L : VL) (st : List Value) (h : VG) (b : Nat) (x0 : Int32) (x1 : Int32) (ho : ob h b 1) (hs : catS st ≤ 8) : ev 122 106 L (.int x1 :: .int x0 :: .ref b :: st) h = (ev 9 0 [some (.ref b), some (.int x0), some (.int x1), none] [] h).bind fun q => ev 122 109 L (q.1.toList ++ st) q.2 := G_callv (k := 1) (p := 719) (ars := [.int x0, .int x1]) f122_106 lkC_11_203 (by decide) (by decide +kernel) rfl (vcls_ob (ci := 1) (by decide) ho) (Nat.le_of_ble_eq_true rfl) hs rfl
theorem f122_109 : fetch 122 109 = some (.invokevirtual 180, 3) := vtab tk122 55 rfl
theorem e122_109 (L : VL) (st : List Value) (h : VG) (b : Nat) (x0 : Int32) (ho : ob h b 10) (hs : catS st ≤ 8) : ev 122 109 L (.int x0 :: .ref b :: st) h = (ev 100 0 [some (.ref b), some (.int x0)] [] h).bind fun q => ev 122 112 L (q.1.toList ++ st) q.2 := G_callv (k := 1) (p := 692) (ars := [.int x0]) f122_109 lkC_11_180 (by decide) (by decide +kernel) rfl (vcls_ob (ci := 10) (by decide) ho) (Nat.le_of_ble_eq_true rfl) hs rfl
theorem f122_112 : fetch 122 112 = some (.ifCond .eq 5, 3) := vtab tk122 56 rfl
theorem e122_112 (L : VL) (st : List Value) (h : VG) (x : Int32) : ev 122 112 L (.int x :: st) h = if x = 0 then ev 122 117 L st h else ev 122 115 L st h := G_if_eq f122_112 (by decide)
theorem f122_115 : fetch 122 115 = some (.iconst (-1), 1) := vtab tk122 57 rfl
theorem e122_115 (L : VL) (st : List Value) (h : VG) : ev 122 115 L (st) h = ev 122 116 L (.int (-1 : Int32) :: st) h := G_iconst f122_115 (by decide)
theorem f122_116 : fetch 122 116 = some (.ireturn, 1) := vtab tk122 58 rfl
theorem e122_116 (L : VL) (h : VG) (x : Int32) : ev 122 116 L [.int x] h = some (some (.int x), h) := G_iret f122_116 (ty := .int) (by decide) rfl
theorem f122_117 : fetch 122 117 = some (.aload_n 0, 1) := vtab tk122 59 rfl
theorem e122_117 (L : VL) (st : List Value) (h : VG) (x : Nat) : ev 122 117 (some (.ref x) :: L) (st) h = ev 122 118 (some (.ref x) :: L) (.ref x :: st) h := G_aload_n f122_117 rfl
theorem f122_118 : fetch 122 118 = some (.getfield 49, 3) := vtab tk122 60 rfl
theorem e122_118 (L : VL) (st : List Value) (h : VG) (a : Nat) (ho : ob h a 10) (hr : isR h a 11) : ev 122 118 L (.ref a :: st) h = ev 122 121 L (.ref (gR h a 11) :: st) h := G_getR (p := 440) f122_118 lkF_11_49 (by decide) (by decide) ho hr
theorem f122_121 : fetch 122 121 = some (.iload 6, 2) := vtab tk122 61 rfl
theorem e122_121 (l0 l1 l2 l3 l4 l5 : Option Value) (L : VL) (st : List Value) (h : VG) (x : Int32) : ev 122 121 (l0 :: l1 :: l2 :: l3 :: l4 :: l5 :: some (.int x) :: L) (st) h = ev 122 123 (l0 :: l1 :: l2 :: l3 :: l4 :: l5 :: some (.int x) :: L) (.int x :: st) h := G_iload f122_121 rfl
theorem f122_123 : fetch 122 123 = some (.aload 5, 2) := vtab tk122 62 rfl
theorem e122_123 (l0 l1 l2 l3 l4 : Option Value) (L : VL) (st : List Value) (h : VG) (x : Nat) : ev 122 123 (l0 :: l1 :: l2 :: l3 :: l4 :: some (.ref x) :: L) (st) h = ev 122 125 (l0 :: l1 :: l2 :: l3 :: l4 :: some (.ref x) :: L) (.ref x :: st) h := G_aload f122_123 rfl
theorem f122_125 : fetch 122 125 = some (.iload 6, 2) := vtab tk122 63 rfl
theorem e122_125 (l0 l1 l2 l3 l4 l5 : Option Value) (L : VL) (st : List Value) (h : VG) (x : Int32) : ev 122 125 (l0 :: l1 :: l2 :: l3 :: l4 :: l5 :: some (.int x) :: L) (st) h = ev 122 127 (l0 :: l1 :: l2 :: l3 :: l4 :: l5 :: some (.int x) :: L) (.int x :: st) h := G_iload f122_125 rfl
theorem f122_127 : fetch 122 127 = some (.iload 7, 2) := vtab tk122 64 rfl
theorem e122_127 (l0 l1 l2 l3 l4 l5 l6 : Option Value) (L : VL) (st : List Value) (h : VG) (x : Int32) : ev 122 127 (l0 :: l1 :: l2 :: l3 :: l4 :: l5 :: l6 :: some (.int x) :: L) (st) h = ev 122 129 (l0 :: l1 :: l2 :: l3 :: l4 :: l5 :: l6 :: some (.int x) :: L) (.int x :: st) h := G_iload f122_127 rfl
theorem f122_129 : fetch 122 129 = some (.invokevirtual 207, 3) := vtab tk122 65 rfl
theorem e122_129 (L : VL) (st : List Value) (h : VG) (b : Nat) (x0 : Int32) (x1 : Int32) (ho : ob h b 1) (hs : catS st ≤ 8) : ev 122 129 L (.int x1 :: .int x0 :: .ref b :: st) h = (ev 17 0 [some (.ref b), some (.int x0), some (.int x1)] [] h).bind fun q => ev 122 132 L (q.1.toList ++ st) q.2 := G_callv (k := 1) (p := 739) (ars := [.int x0, .int x1]) f122_129 lkC_11_207 (by decide) (by decide +kernel) rfl (vcls_ob (ci := 1) (by decide) ho) (Nat.le_of_ble_eq_true rfl) hs rfl
theorem f122_132 : fetch 122 132 = some (.lastore, 1) := vtab tk122 66 rfl
theorem e122_132 (L : VL) (st : List Value) (h : VG) (a : Nat) (i : Int32) (x : Int64) (ha : arL h a) (hi : vp_in i (aln h a)) : ev 122 132 L (.long x :: .int i :: .ref a :: st) h = ev 122 133 L (st) (wL h a i.toNatClampNeg x) := G_last f122_132 ha hi
theorem f122_133 : fetch 122 133 = some (.aload_n 0, 1) := vtab tk122 67 rfl
theorem e122_133 (L : VL) (st : List Value) (h : VG) (x : Nat) : ev 122 133 (some (.ref x) :: L) (st) h = ev 122 134 (some (.ref x) :: L) (.ref x :: st) h := G_aload_n f122_133 rfl
theorem f122_134 : fetch 122 134 = some (.aload_n 0, 1) := vtab tk122 68 rfl
theorem e122_134 (L : VL) (st : List Value) (h : VG) (x : Nat) : ev 122 134 (some (.ref x) :: L) (st) h = ev 122 135 (some (.ref x) :: L) (.ref x :: st) h := G_aload_n f122_134 rfl
theorem f122_135 : fetch 122 135 = some (.getfield 37, 3) := vtab tk122 69 rfl
theorem e122_135 (L : VL) (st : List Value) (h : VG) (a : Nat) (ho : ob h a 10) (hr : isR h a 6) : ev 122 135 L (.ref a :: st) h = ev 122 138 L (.ref (gR h a 6) :: st) h := G_getR (p := 435) f122_135 lkF_11_37 (by decide) (by decide) ho hr
theorem f122_138 : fetch 122 138 = some (.getfield 170, 3) := vtab tk122 70 rfl
theorem e122_138 (L : VL) (st : List Value) (h : VG) (a : Nat) (ho : ob h a 8) (hr : isR h a 0) : ev 122 138 L (.ref a :: st) h = ev 122 141 L (.ref (gR h a 0) :: st) h := G_getR (p := 383) f122_138 lkF_11_170 (by decide) (by decide) ho hr
theorem f122_141 : fetch 122 141 = some (.aload 4, 2) := vtab tk122 71 rfl
theorem e122_141 (l0 l1 l2 l3 : Option Value) (L : VL) (st : List Value) (h : VG) (x : Nat) : ev 122 141 (l0 :: l1 :: l2 :: l3 :: some (.ref x) :: L) (st) h = ev 122 143 (l0 :: l1 :: l2 :: l3 :: some (.ref x) :: L) (.ref x :: st) h := G_aload f122_141 rfl
theorem f122_143 : fetch 122 143 = some (.getfield 273, 3) := vtab tk122 72 rfl
theorem e122_143 (L : VL) (st : List Value) (h : VG) (a : Nat) (ho : ob h a 3) (hr : isR h a 6) : ev 122 143 L (.ref a :: st) h = ev 122 146 L (.ref (gR h a 6) :: st) h := G_getR (p := 306) f122_143 lkF_11_273 (by decide) (by decide) ho hr
theorem f122_146 : fetch 122 146 = some (.iload 6, 2) := vtab tk122 73 rfl
theorem e122_146 (l0 l1 l2 l3 l4 l5 : Option Value) (L : VL) (st : List Value) (h : VG) (x : Int32) : ev 122 146 (l0 :: l1 :: l2 :: l3 :: l4 :: l5 :: some (.int x) :: L) (st) h = ev 122 148 (l0 :: l1 :: l2 :: l3 :: l4 :: l5 :: some (.int x) :: L) (.int x :: st) h := G_iload f122_146 rfl
theorem f122_148 : fetch 122 148 = some (.iaload, 1) := vtab tk122 74 rfl
theorem e122_148 (L : VL) (st : List Value) (h : VG) (a : Nat) (i : Int32) (ha : rdI h a) (hi : vp_in i (aln h a)) : ev 122 148 L (.int i :: .ref a :: st) h = ev 122 149 L (.int (aI h a i.toNatClampNeg) :: st) h := G_iald' f122_148 ha hi
theorem f122_149 : fetch 122 149 = some (.aload_n 0, 1) := vtab tk122 75 rfl
theorem e122_149 (L : VL) (st : List Value) (h : VG) (x : Nat) : ev 122 149 (some (.ref x) :: L) (st) h = ev 122 150 (some (.ref x) :: L) (.ref x :: st) h := G_aload_n f122_149 rfl
theorem f122_150 : fetch 122 150 = some (.getfield 49, 3) := vtab tk122 76 rfl
theorem e122_150 (L : VL) (st : List Value) (h : VG) (a : Nat) (ho : ob h a 10) (hr : isR h a 11) : ev 122 150 L (.ref a :: st) h = ev 122 153 L (.ref (gR h a 11) :: st) h := G_getR (p := 440) f122_150 lkF_11_49 (by decide) (by decide) ho hr
theorem f122_153 : fetch 122 153 = some (.iload 6, 2) := vtab tk122 77 rfl
theorem e122_153 (l0 l1 l2 l3 l4 l5 : Option Value) (L : VL) (st : List Value) (h : VG) (x : Int32) : ev 122 153 (l0 :: l1 :: l2 :: l3 :: l4 :: l5 :: some (.int x) :: L) (st) h = ev 122 155 (l0 :: l1 :: l2 :: l3 :: l4 :: l5 :: some (.int x) :: L) (.int x :: st) h := G_iload f122_153 rfl
theorem f122_155 : fetch 122 155 = some (.laload, 1) := vtab tk122 78 rfl
theorem e122_155 (L : VL) (st : List Value) (h : VG) (a : Nat) (i : Int32) (ha : arL h a) (hi : vp_in i (aln h a)) : ev 122 155 L (.int i :: .ref a :: st) h = ev 122 156 L (.long (aL h a i.toNatClampNeg) :: st) h := G_lald f122_155 ha hi
theorem f122_156 : fetch 122 156 = some (.invokevirtual 291, 3) := vtab tk122 79 rfl
theorem e122_156 (L : VL) (st : List Value) (h : VG) (b : Nat) (x0 : Int32) (x1 : Int64) (ho : ob h b 5) (hs : catS st ≤ 8) : ev 122 156 L (.long x1 :: .int x0 :: .ref b :: st) h = (ev 55 0 [some (.ref b), some (.int x0), some (.long x1), none, none] [] h).bind fun q => ev 122 159 L (q.1.toList ++ st) q.2 := G_callv (k := 1) (p := 892) (ars := [.int x0, .long x1]) f122_156 lkC_11_291 (by decide) (by decide +kernel) rfl (vcls_ob (ci := 5) (by decide) ho) (Nat.le_of_ble_eq_true rfl) hs rfl
theorem f122_159 : fetch 122 159 = some (.invokevirtual 180, 3) := vtab tk122 80 rfl
theorem e122_159 (L : VL) (st : List Value) (h : VG) (b : Nat) (x0 : Int32) (ho : ob h b 10) (hs : catS st ≤ 8) : ev 122 159 L (.int x0 :: .ref b :: st) h = (ev 100 0 [some (.ref b), some (.int x0)] [] h).bind fun q => ev 122 162 L (q.1.toList ++ st) q.2 := G_callv (k := 1) (p := 692) (ars := [.int x0]) f122_159 lkC_11_180 (by decide) (by decide +kernel) rfl (vcls_ob (ci := 10) (by decide) ho) (Nat.le_of_ble_eq_true rfl) hs rfl
theorem f122_162 : fetch 122 162 = some (.ifCond .eq 5, 3) := vtab tk122 81 rfl
theorem e122_162 (L : VL) (st : List Value) (h : VG) (x : Int32) : ev 122 162 L (.int x :: st) h = if x = 0 then ev 122 167 L st h else ev 122 165 L st h := G_if_eq f122_162 (by decide)
theorem f122_165 : fetch 122 165 = some (.iconst (-1), 1) := vtab tk122 82 rfl
theorem e122_165 (L : VL) (st : List Value) (h : VG) : ev 122 165 L (st) h = ev 122 166 L (.int (-1 : Int32) :: st) h := G_iconst f122_165 (by decide)
theorem f122_166 : fetch 122 166 = some (.ireturn, 1) := vtab tk122 83 rfl
theorem e122_166 (L : VL) (h : VG) (x : Int32) : ev 122 166 L [.int x] h = some (some (.int x), h) := G_iret f122_166 (ty := .int) (by decide) rfl
theorem f122_167 : fetch 122 167 = some (.iinc 6 1, 3) := vtab tk122 84 rfl
theorem e122_167 (l0 l1 l2 l3 l4 l5 : Option Value) (L : VL) (st : List Value) (h : VG) (x : Int32) : ev 122 167 (l0 :: l1 :: l2 :: l3 :: l4 :: l5 :: some (.int x) :: L) (st) h = ev 122 170 (l0 :: l1 :: l2 :: l3 :: l4 :: vkk l5 :: some (.int (x + (1 : Int32))) :: L) (st) h := G_iinc f122_167 rfl (by decide) (S1_6 l0 l1 l2 l3 l4 l5 (some (.int x)) L _)
theorem f122_170 : fetch 122 170 = some (.goto (-94), 3) := vtab tk122 85 rfl
theorem e122_170 (L : VL) (st : List Value) (h : VG) : ev 122 170 L (st) h = ev 122 76 L (st) h := G_goto f122_170 (by decide)
theorem f122_173 : fetch 122 173 = some (.aload_n 0, 1) := vtab tk122 86 rfl
theorem e122_173 (L : VL) (st : List Value) (h : VG) (x : Nat) : ev 122 173 (some (.ref x) :: L) (st) h = ev 122 174 (some (.ref x) :: L) (.ref x :: st) h := G_aload_n f122_173 rfl
theorem f122_174 : fetch 122 174 = some (.getfield 37, 3) := vtab tk122 87 rfl
theorem e122_174 (L : VL) (st : List Value) (h : VG) (a : Nat) (ho : ob h a 10) (hr : isR h a 6) : ev 122 174 L (.ref a :: st) h = ev 122 177 L (.ref (gR h a 6) :: st) h := G_getR (p := 435) f122_174 lkF_11_37 (by decide) (by decide) ho hr
theorem f122_177 : fetch 122 177 = some (.getfield 170, 3) := vtab tk122 88 rfl
theorem e122_177 (L : VL) (st : List Value) (h : VG) (a : Nat) (ho : ob h a 8) (hr : isR h a 0) : ev 122 177 L (.ref a :: st) h = ev 122 180 L (.ref (gR h a 0) :: st) h := G_getR (p := 383) f122_177 lkF_11_170 (by decide) (by decide) ho hr
theorem f122_180 : fetch 122 180 = some (.aload 4, 2) := vtab tk122 89 rfl
theorem e122_180 (l0 l1 l2 l3 : Option Value) (L : VL) (st : List Value) (h : VG) (x : Nat) : ev 122 180 (l0 :: l1 :: l2 :: l3 :: some (.ref x) :: L) (st) h = ev 122 182 (l0 :: l1 :: l2 :: l3 :: some (.ref x) :: L) (.ref x :: st) h := G_aload f122_180 rfl
theorem f122_182 : fetch 122 182 = some (.aload 4, 2) := vtab tk122 90 rfl
theorem e122_182 (l0 l1 l2 l3 : Option Value) (L : VL) (st : List Value) (h : VG) (x : Nat) : ev 122 182 (l0 :: l1 :: l2 :: l3 :: some (.ref x) :: L) (st) h = ev 122 184 (l0 :: l1 :: l2 :: l3 :: some (.ref x) :: L) (.ref x :: st) h := G_aload f122_182 rfl
theorem f122_184 : fetch 122 184 = some (.getfield 109, 3) := vtab tk122 91 rfl
theorem e122_184 (L : VL) (st : List Value) (h : VG) (a : Nat) (ho : ob h a 3) (hr : isR h a 7) : ev 122 184 L (.ref a :: st) h = ev 122 187 L (.ref (gR h a 7) :: st) h := G_getR (p := 308) f122_184 lkF_11_109 (by decide) (by decide) ho hr
theorem f122_187 : fetch 122 187 = some (.iload_n 3, 1) := vtab tk122 92 rfl
theorem e122_187 (l0 l1 l2 : Option Value) (L : VL) (st : List Value) (h : VG) (x : Int32) : ev 122 187 (l0 :: l1 :: l2 :: some (.int x) :: L) (st) h = ev 122 188 (l0 :: l1 :: l2 :: some (.int x) :: L) (.int x :: st) h := G_iload_n f122_187 rfl
theorem f122_188 : fetch 122 188 = some (.aload_n 0, 1) := vtab tk122 93 rfl
theorem e122_188 (L : VL) (st : List Value) (h : VG) (x : Nat) : ev 122 188 (some (.ref x) :: L) (st) h = ev 122 189 (some (.ref x) :: L) (.ref x :: st) h := G_aload_n f122_188 rfl
theorem f122_189 : fetch 122 189 = some (.getfield 49, 3) := vtab tk122 94 rfl
theorem e122_189 (L : VL) (st : List Value) (h : VG) (a : Nat) (ho : ob h a 10) (hr : isR h a 11) : ev 122 189 L (.ref a :: st) h = ev 122 192 L (.ref (gR h a 11) :: st) h := G_getR (p := 440) f122_189 lkF_11_49 (by decide) (by decide) ho hr
theorem f122_192 : fetch 122 192 = some (.invokevirtual 295, 3) := vtab tk122 95 rfl
theorem e122_192 (L : VL) (st : List Value) (h : VG) (b : Nat) (x0 : Nat) (x1 : Nat) (x2 : Int32) (x3 : Nat) (ho : ob h b 5) (hs : catS st ≤ 8) : ev 122 192 L (.ref x3 :: .int x2 :: .ref x1 :: .ref x0 :: .ref b :: st) h = (ev 58 0 [some (.ref b), some (.ref x0), some (.ref x1), some (.int x2), some (.ref x3), none] [] h).bind fun q => ev 122 195 L (q.1.toList ++ st) q.2 := G_callv (k := 1) (p := 899) (ars := [.ref x0, .ref x1, .int x2, .ref x3]) f122_192 lkC_11_295 (by decide) (by decide +kernel) rfl (vcls_ob (ci := 5) (by decide) ho) (Nat.le_of_ble_eq_true rfl) hs rfl
theorem f122_195 : fetch 122 195 = some (.aload 4, 2) := vtab tk122 96 rfl
theorem e122_195 (l0 l1 l2 l3 : Option Value) (L : VL) (st : List Value) (h : VG) (x : Nat) : ev 122 195 (l0 :: l1 :: l2 :: l3 :: some (.ref x) :: L) (st) h = ev 122 197 (l0 :: l1 :: l2 :: l3 :: some (.ref x) :: L) (.ref x :: st) h := G_aload f122_195 rfl
theorem f122_197 : fetch 122 197 = some (.getfield 109, 3) := vtab tk122 97 rfl
theorem e122_197 (L : VL) (st : List Value) (h : VG) (a : Nat) (ho : ob h a 3) (hr : isR h a 7) : ev 122 197 L (.ref a :: st) h = ev 122 200 L (.ref (gR h a 7) :: st) h := G_getR (p := 308) f122_197 lkF_11_109 (by decide) (by decide) ho hr
theorem f122_200 : fetch 122 200 = some (.getfield 131, 3) := vtab tk122 98 rfl
theorem e122_200 (L : VL) (st : List Value) (h : VG) (a : Nat) (ho : ob h a 4) : ev 122 200 L (.ref a :: st) h = ev 122 203 L (.int (gI h a 3) :: st) h := G_getI (p := 262) f122_200 lkF_11_131 (by decide) (by decide) ho
theorem f122_203 : fetch 122 203 = some (.ireturn, 1) := vtab tk122 99 rfl
theorem e122_203 (L : VL) (h : VG) (x : Int32) : ev 122 203 L [.int x] h = some (some (.int x), h) := G_iret f122_203 (ty := .int) (by decide) rfl
/-! 123 GuestCalls.turn(IIIZ)I -/
def tb123 : List (Nat × Instr × Nat) := [(0, .aload_n 0, 1), (1, .iconst 0, 1), (2, .putfield 86, 3), (5, .aload_n 0, 1), (6, .iload_n 1, 1), (7, .invokevirtual 95, 3), (10, .ifCond .ne 5, 3), (13, .iconst (-1), 1), (14, .ireturn, 1), (15, .aload_n 0, 1), (16, .getfield 23, 3), (19, .getfield 99, 3), (22, .iload_n 1, 1), (23, .aaload, 1), (24, .astore 5, 2), (26, .iload 4, 2), (28, .ifCond .eq 11, 3), (31, .aload 5, 2), (33, .getfield 109, 3), (36, .goto 8, 3), (39, .aload 5, 2), (41, .getfield 103, 3), (44, .astore 6, 2), (46, .iload 4, 2), (48, .ifCond .eq 11, 3), (51, .aload 5, 2), (53, .getfield 103, 3), (56, .goto 8, 3), (59, .aload 5, 2), (61, .getfield 109, 3), (64, .astore 7, 2), (66, .aload_n 0, 1), (67, .aload_n 0, 1), (68, .getfield 37, 3), (71, .getfield 170, 3), (74, .iload_n 2, 1), (75, .i2l, 1), (76, .aload 6, 2), (78, .getfield 131, 3), (81, .invokevirtual 176, 3), (84, .invokevirtual 180, 3), (87, .ifCond .ne 27, 3), (90, .aload_n 0, 1), (91, .aload_n 0, 1), (92, .getfield 37, 3), (95, .getfield 170, 3), (98, .iload_n 3, 1), (99, .i2l, 1), (100, .aload 7, 2), (102, .getfield 131, 3), (105, .invokevirtual 176, 3), (108, .invokevirtual 180, 3), (111, .ifCond .eq 5, 3), (114, .iconst (-1), 1), (115, .ireturn, 1), (116, .iconst 0, 1), (117, .istore 8, 2), (119, .iload 8, 2), (121, .aload 5, 2), (123, .getfield 123, 3), (126, .if_icmp .ge 88, 3), (129, .aload_n 0, 1), (130, .getfield 49, 3), (133, .iload 8, 2), (135, .aload_n 0, 1), (136, .getfield 37, 3), (139, .getfield 170, 3), (142, .iload_n 2, 1), (143, .aload 6, 2), (145, .getfield 141, 3), (148, .iload 8, 2), (150, .iaload, 1), (151, .iadd, 1), (152, .aload 5, 2), (154, .getfield 273, 3), (157, .iload 8, 2), (159, .iaload, 1), (160, .aload 6, 2), (162, .getfield 147, 3), (165, .invokevirtual 276, 3), (168, .lastore, 1), (169, .iload 4, 2), (171, .ifCond .ne 37, 3), (174, .aload_n 0, 1), (175, .aload_n 0, 1), (176, .getfield 37, 3), (179, .getfield 170, 3), (182, .aload 5, 2), (184, .getfield 273, 3), (187, .iload 8, 2), (189, .iaload, 1), (190, .aload_n 0, 1), (191, .getfield 49, 3), (194, .iload 8, 2), (196, .laload, 1), (197, .invokevirtual 291, 3), (200, .invokevirtual 180, 3), (203, .ifCond .eq 5, 3), (206, .iconst (-1), 1), (207, .ireturn, 1), (208, .iinc 8 1, 3), (211, .goto (-92), 3), (214, .aload_n 0, 1), (215, .getfield 37, 3), (218, .getfield 170, 3), (221, .iload_n 3, 1), (222, .aload 7, 2), (224, .getfield 131, 3), (227, .invokevirtual 299, 3), (230, .aload_n 0, 1), (231, .getfield 37, 3), (234, .getfield 170, 3), (237, .aload 5, 2), (239, .aload 7, 2), (241, .iload_n 3, 1), (242, .aload_n 0, 1), (243, .getfield 49, 3), (246, .invokevirtual 295, 3), (249, .aload 7, 2), (251, .getfield 131, 3), (254, .ireturn, 1)]
theorem tk123 : tb123.all (fun q => decide (fetch 123 q.1 = some q.2)) = true := by decide +kernel
theorem f123_0 : fetch 123 0 = some (.aload_n 0, 1) := vtab tk123 0 rfl
theorem e123_0 (L : VL) (st : List Value) (h : VG) (x : Nat) : ev 123 0 (some (.ref x) :: L) (st) h = ev 123 1 (some (.ref x) :: L) (.ref x :: st) h := G_aload_n f123_0 rfl
theorem f123_1 : fetch 123 1 = some (.iconst 0, 1) := vtab tk123 1 rfl
theorem e123_1 (L : VL) (st : List Value) (h : VG) : ev 123 1 L (st) h = ev 123 2 L (.int (0 : Int32) :: st) h := G_iconst f123_1 (by decide)
theorem f123_2 : fetch 123 2 = some (.putfield 86, 3) := vtab tk123 2 rfl
theorem e123_2 (L : VL) (st : List Value) (h : VG) (a : Nat) (x : Int32) (ho : ob h a 10) : ev 123 2 L (.int x :: .ref a :: st) h = ev 123 5 L (st) (pI h a 9 x) := G_putI (p := 438) f123_2 lkF_11_86 (by decide) (by decide) (by decide +kernel) ⟨rfl, rfl⟩ ho
theorem f123_5 : fetch 123 5 = some (.aload_n 0, 1) := vtab tk123 3 rfl
theorem e123_5 (L : VL) (st : List Value) (h : VG) (x : Nat) : ev 123 5 (some (.ref x) :: L) (st) h = ev 123 6 (some (.ref x) :: L) (.ref x :: st) h := G_aload_n f123_5 rfl
theorem f123_6 : fetch 123 6 = some (.iload_n 1, 1) := vtab tk123 4 rfl
theorem e123_6 (l0 : Option Value) (L : VL) (st : List Value) (h : VG) (x : Int32) : ev 123 6 (l0 :: some (.int x) :: L) (st) h = ev 123 7 (l0 :: some (.int x) :: L) (.int x :: st) h := G_iload_n f123_6 rfl
theorem f123_7 : fetch 123 7 = some (.invokevirtual 95, 3) := vtab tk123 5 rfl
theorem e123_7 (L : VL) (st : List Value) (h : VG) (b : Nat) (x0 : Int32) (ho : ob h b 10) (hs : catS st ≤ 8) : ev 123 7 L (.int x0 :: .ref b :: st) h = (ev 101 0 [some (.ref b), some (.int x0)] [] h).bind fun q => ev 123 10 L (q.1.toList ++ st) q.2 := G_callv (k := 1) (p := 665) (ars := [.int x0]) f123_7 lkC_11_95 (by decide) (by decide +kernel) rfl (vcls_ob (ci := 10) (by decide) ho) (Nat.le_of_ble_eq_true rfl) hs rfl
theorem f123_10 : fetch 123 10 = some (.ifCond .ne 5, 3) := vtab tk123 6 rfl
theorem e123_10 (L : VL) (st : List Value) (h : VG) (x : Int32) : ev 123 10 L (.int x :: st) h = if x = 0 then ev 123 13 L st h else ev 123 15 L st h := G_if_ne f123_10 (by decide)
theorem f123_13 : fetch 123 13 = some (.iconst (-1), 1) := vtab tk123 7 rfl
theorem e123_13 (L : VL) (st : List Value) (h : VG) : ev 123 13 L (st) h = ev 123 14 L (.int (-1 : Int32) :: st) h := G_iconst f123_13 (by decide)
theorem f123_14 : fetch 123 14 = some (.ireturn, 1) := vtab tk123 8 rfl
theorem e123_14 (L : VL) (h : VG) (x : Int32) : ev 123 14 L [.int x] h = some (some (.int x), h) := G_iret f123_14 (ty := .int) (by decide) rfl
theorem f123_15 : fetch 123 15 = some (.aload_n 0, 1) := vtab tk123 9 rfl
theorem e123_15 (L : VL) (st : List Value) (h : VG) (x : Nat) : ev 123 15 (some (.ref x) :: L) (st) h = ev 123 16 (some (.ref x) :: L) (.ref x :: st) h := G_aload_n f123_15 rfl
theorem f123_16 : fetch 123 16 = some (.getfield 23, 3) := vtab tk123 10 rfl
theorem e123_16 (L : VL) (st : List Value) (h : VG) (a : Nat) (ho : ob h a 10) (hr : isR h a 3) : ev 123 16 L (.ref a :: st) h = ev 123 19 L (.ref (gR h a 3) :: st) h := G_getR (p := 432) f123_16 lkF_11_23 (by decide) (by decide) ho hr
theorem f123_19 : fetch 123 19 = some (.getfield 99, 3) := vtab tk123 11 rfl
theorem e123_19 (L : VL) (st : List Value) (h : VG) (a : Nat) (ho : ob h a 6) (hr : isR h a 1) : ev 123 19 L (.ref a :: st) h = ev 123 22 L (.ref (gR h a 1) :: st) h := G_getR (p := 339) f123_19 lkF_11_99 (by decide) (by decide) ho hr
theorem f123_22 : fetch 123 22 = some (.iload_n 1, 1) := vtab tk123 12 rfl
theorem e123_22 (l0 : Option Value) (L : VL) (st : List Value) (h : VG) (x : Int32) : ev 123 22 (l0 :: some (.int x) :: L) (st) h = ev 123 23 (l0 :: some (.int x) :: L) (.int x :: st) h := G_iload_n f123_22 rfl
theorem f123_23 : fetch 123 23 = some (.aaload, 1) := vtab tk123 13 rfl
theorem e123_23 (L : VL) (st : List Value) (h : VG) (a : Nat) (i : Int32) (ha : rdR h a) (hi : vp_in i (aln h a)) : ev 123 23 L (.int i :: .ref a :: st) h = ev 123 24 L (va_rf (aR h a i.toNatClampNeg) :: st) h := G_aald' f123_23 ha hi
theorem f123_24 : fetch 123 24 = some (.astore 5, 2) := vtab tk123 14 rfl
theorem e123_24 (l0 l1 l2 l3 l4 l5 : Option Value) (L : VL) (st : List Value) (h : VG) (x : Nat) : ev 123 24 (l0 :: l1 :: l2 :: l3 :: l4 :: l5 :: L) (.ref x :: st) h = ev 123 26 (l0 :: l1 :: l2 :: l3 :: vkk l4 :: some (.ref x) :: L) (st) h := G_astore f123_24 rfl (S1_5 l0 l1 l2 l3 l4 l5 L _)
theorem f123_26 : fetch 123 26 = some (.iload 4, 2) := vtab tk123 15 rfl
theorem e123_26 (l0 l1 l2 l3 : Option Value) (L : VL) (st : List Value) (h : VG) (x : Int32) : ev 123 26 (l0 :: l1 :: l2 :: l3 :: some (.int x) :: L) (st) h = ev 123 28 (l0 :: l1 :: l2 :: l3 :: some (.int x) :: L) (.int x :: st) h := G_iload f123_26 rfl
theorem f123_28 : fetch 123 28 = some (.ifCond .eq 11, 3) := vtab tk123 16 rfl
theorem e123_28 (L : VL) (st : List Value) (h : VG) (x : Int32) : ev 123 28 L (.int x :: st) h = if x = 0 then ev 123 39 L st h else ev 123 31 L st h := G_if_eq f123_28 (by decide)
theorem f123_31 : fetch 123 31 = some (.aload 5, 2) := vtab tk123 17 rfl
theorem e123_31 (l0 l1 l2 l3 l4 : Option Value) (L : VL) (st : List Value) (h : VG) (x : Nat) : ev 123 31 (l0 :: l1 :: l2 :: l3 :: l4 :: some (.ref x) :: L) (st) h = ev 123 33 (l0 :: l1 :: l2 :: l3 :: l4 :: some (.ref x) :: L) (.ref x :: st) h := G_aload f123_31 rfl
theorem f123_33 : fetch 123 33 = some (.getfield 109, 3) := vtab tk123 18 rfl
theorem e123_33 (L : VL) (st : List Value) (h : VG) (a : Nat) (ho : ob h a 3) (hr : isR h a 7) : ev 123 33 L (.ref a :: st) h = ev 123 36 L (.ref (gR h a 7) :: st) h := G_getR (p := 308) f123_33 lkF_11_109 (by decide) (by decide) ho hr
theorem f123_36 : fetch 123 36 = some (.goto 8, 3) := vtab tk123 19 rfl
theorem e123_36 (L : VL) (st : List Value) (h : VG) : ev 123 36 L (st) h = ev 123 44 L (st) h := G_goto f123_36 (by decide)
theorem f123_39 : fetch 123 39 = some (.aload 5, 2) := vtab tk123 20 rfl
theorem e123_39 (l0 l1 l2 l3 l4 : Option Value) (L : VL) (st : List Value) (h : VG) (x : Nat) : ev 123 39 (l0 :: l1 :: l2 :: l3 :: l4 :: some (.ref x) :: L) (st) h = ev 123 41 (l0 :: l1 :: l2 :: l3 :: l4 :: some (.ref x) :: L) (.ref x :: st) h := G_aload f123_39 rfl
theorem f123_41 : fetch 123 41 = some (.getfield 103, 3) := vtab tk123 21 rfl
theorem e123_41 (L : VL) (st : List Value) (h : VG) (a : Nat) (ho : ob h a 3) (hr : isR h a 8) : ev 123 41 L (.ref a :: st) h = ev 123 44 L (.ref (gR h a 8) :: st) h := G_getR (p := 310) f123_41 lkF_11_103 (by decide) (by decide) ho hr
theorem f123_44 : fetch 123 44 = some (.astore 6, 2) := vtab tk123 22 rfl
theorem e123_44 (l0 l1 l2 l3 l4 l5 l6 : Option Value) (L : VL) (st : List Value) (h : VG) (x : Nat) : ev 123 44 (l0 :: l1 :: l2 :: l3 :: l4 :: l5 :: l6 :: L) (.ref x :: st) h = ev 123 46 (l0 :: l1 :: l2 :: l3 :: l4 :: vkk l5 :: some (.ref x) :: L) (st) h := G_astore f123_44 rfl (S1_6 l0 l1 l2 l3 l4 l5 l6 L _)
theorem f123_46 : fetch 123 46 = some (.iload 4, 2) := vtab tk123 23 rfl
theorem e123_46 (l0 l1 l2 l3 : Option Value) (L : VL) (st : List Value) (h : VG) (x : Int32) : ev 123 46 (l0 :: l1 :: l2 :: l3 :: some (.int x) :: L) (st) h = ev 123 48 (l0 :: l1 :: l2 :: l3 :: some (.int x) :: L) (.int x :: st) h := G_iload f123_46 rfl
theorem f123_48 : fetch 123 48 = some (.ifCond .eq 11, 3) := vtab tk123 24 rfl
theorem e123_48 (L : VL) (st : List Value) (h : VG) (x : Int32) : ev 123 48 L (.int x :: st) h = if x = 0 then ev 123 59 L st h else ev 123 51 L st h := G_if_eq f123_48 (by decide)
theorem f123_51 : fetch 123 51 = some (.aload 5, 2) := vtab tk123 25 rfl
theorem e123_51 (l0 l1 l2 l3 l4 : Option Value) (L : VL) (st : List Value) (h : VG) (x : Nat) : ev 123 51 (l0 :: l1 :: l2 :: l3 :: l4 :: some (.ref x) :: L) (st) h = ev 123 53 (l0 :: l1 :: l2 :: l3 :: l4 :: some (.ref x) :: L) (.ref x :: st) h := G_aload f123_51 rfl
theorem f123_53 : fetch 123 53 = some (.getfield 103, 3) := vtab tk123 26 rfl
theorem e123_53 (L : VL) (st : List Value) (h : VG) (a : Nat) (ho : ob h a 3) (hr : isR h a 8) : ev 123 53 L (.ref a :: st) h = ev 123 56 L (.ref (gR h a 8) :: st) h := G_getR (p := 310) f123_53 lkF_11_103 (by decide) (by decide) ho hr
theorem f123_56 : fetch 123 56 = some (.goto 8, 3) := vtab tk123 27 rfl
theorem e123_56 (L : VL) (st : List Value) (h : VG) : ev 123 56 L (st) h = ev 123 64 L (st) h := G_goto f123_56 (by decide)
theorem f123_59 : fetch 123 59 = some (.aload 5, 2) := vtab tk123 28 rfl
theorem e123_59 (l0 l1 l2 l3 l4 : Option Value) (L : VL) (st : List Value) (h : VG) (x : Nat) : ev 123 59 (l0 :: l1 :: l2 :: l3 :: l4 :: some (.ref x) :: L) (st) h = ev 123 61 (l0 :: l1 :: l2 :: l3 :: l4 :: some (.ref x) :: L) (.ref x :: st) h := G_aload f123_59 rfl
theorem f123_61 : fetch 123 61 = some (.getfield 109, 3) := vtab tk123 29 rfl
theorem e123_61 (L : VL) (st : List Value) (h : VG) (a : Nat) (ho : ob h a 3) (hr : isR h a 7) : ev 123 61 L (.ref a :: st) h = ev 123 64 L (.ref (gR h a 7) :: st) h := G_getR (p := 308) f123_61 lkF_11_109 (by decide) (by decide) ho hr
theorem f123_64 : fetch 123 64 = some (.astore 7, 2) := vtab tk123 30 rfl
theorem e123_64 (l0 l1 l2 l3 l4 l5 l6 l7 : Option Value) (L : VL) (st : List Value) (h : VG) (x : Nat) : ev 123 64 (l0 :: l1 :: l2 :: l3 :: l4 :: l5 :: l6 :: l7 :: L) (.ref x :: st) h = ev 123 66 (l0 :: l1 :: l2 :: l3 :: l4 :: l5 :: vkk l6 :: some (.ref x) :: L) (st) h := G_astore f123_64 rfl (S1_7 l0 l1 l2 l3 l4 l5 l6 l7 L _)
theorem f123_66 : fetch 123 66 = some (.aload_n 0, 1) := vtab tk123 31 rfl
theorem e123_66 (L : VL) (st : List Value) (h : VG) (x : Nat) : ev 123 66 (some (.ref x) :: L) (st) h = ev 123 67 (some (.ref x) :: L) (.ref x :: st) h := G_aload_n f123_66 rfl
theorem f123_67 : fetch 123 67 = some (.aload_n 0, 1) := vtab tk123 32 rfl
theorem e123_67 (L : VL) (st : List Value) (h : VG) (x : Nat) : ev 123 67 (some (.ref x) :: L) (st) h = ev 123 68 (some (.ref x) :: L) (.ref x :: st) h := G_aload_n f123_67 rfl
theorem f123_68 : fetch 123 68 = some (.getfield 37, 3) := vtab tk123 33 rfl
theorem e123_68 (L : VL) (st : List Value) (h : VG) (a : Nat) (ho : ob h a 10) (hr : isR h a 6) : ev 123 68 L (.ref a :: st) h = ev 123 71 L (.ref (gR h a 6) :: st) h := G_getR (p := 435) f123_68 lkF_11_37 (by decide) (by decide) ho hr
theorem f123_71 : fetch 123 71 = some (.getfield 170, 3) := vtab tk123 34 rfl
theorem e123_71 (L : VL) (st : List Value) (h : VG) (a : Nat) (ho : ob h a 8) (hr : isR h a 0) : ev 123 71 L (.ref a :: st) h = ev 123 74 L (.ref (gR h a 0) :: st) h := G_getR (p := 383) f123_71 lkF_11_170 (by decide) (by decide) ho hr
theorem f123_74 : fetch 123 74 = some (.iload_n 2, 1) := vtab tk123 35 rfl
theorem e123_74 (l0 l1 : Option Value) (L : VL) (st : List Value) (h : VG) (x : Int32) : ev 123 74 (l0 :: l1 :: some (.int x) :: L) (st) h = ev 123 75 (l0 :: l1 :: some (.int x) :: L) (.int x :: st) h := G_iload_n f123_74 rfl
theorem f123_75 : fetch 123 75 = some (.i2l, 1) := vtab tk123 36 rfl
theorem e123_75 (L : VL) (st : List Value) (h : VG) (x : Int32) : ev 123 75 L (.int x :: st) h = ev 123 76 L (.long x.toInt64 :: st) h := G_i2l f123_75
theorem f123_76 : fetch 123 76 = some (.aload 6, 2) := vtab tk123 37 rfl
theorem e123_76 (l0 l1 l2 l3 l4 l5 : Option Value) (L : VL) (st : List Value) (h : VG) (x : Nat) : ev 123 76 (l0 :: l1 :: l2 :: l3 :: l4 :: l5 :: some (.ref x) :: L) (st) h = ev 123 78 (l0 :: l1 :: l2 :: l3 :: l4 :: l5 :: some (.ref x) :: L) (.ref x :: st) h := G_aload f123_76 rfl
theorem f123_78 : fetch 123 78 = some (.getfield 131, 3) := vtab tk123 38 rfl
theorem e123_78 (L : VL) (st : List Value) (h : VG) (a : Nat) (ho : ob h a 4) : ev 123 78 L (.ref a :: st) h = ev 123 81 L (.int (gI h a 3) :: st) h := G_getI (p := 262) f123_78 lkF_11_131 (by decide) (by decide) ho
theorem f123_81 : fetch 123 81 = some (.invokevirtual 176, 3) := vtab tk123 39 rfl
theorem e123_81 (L : VL) (st : List Value) (h : VG) (b : Nat) (x0 : Int64) (x1 : Int32) (ho : ob h b 5) (hs : catS st ≤ 8) : ev 123 81 L (.int x1 :: .long x0 :: .ref b :: st) h = (ev 54 0 [some (.ref b), some (.long x0), none, some (.int x1)] [] h).bind fun q => ev 123 84 L (q.1.toList ++ st) q.2 := G_callv (k := 1) (p := 688) (ars := [.long x0, .int x1]) f123_81 lkC_11_176 (by decide) (by decide +kernel) rfl (vcls_ob (ci := 5) (by decide) ho) (Nat.le_of_ble_eq_true rfl) hs rfl
theorem f123_84 : fetch 123 84 = some (.invokevirtual 180, 3) := vtab tk123 40 rfl
theorem e123_84 (L : VL) (st : List Value) (h : VG) (b : Nat) (x0 : Int32) (ho : ob h b 10) (hs : catS st ≤ 8) : ev 123 84 L (.int x0 :: .ref b :: st) h = (ev 100 0 [some (.ref b), some (.int x0)] [] h).bind fun q => ev 123 87 L (q.1.toList ++ st) q.2 := G_callv (k := 1) (p := 692) (ars := [.int x0]) f123_84 lkC_11_180 (by decide) (by decide +kernel) rfl (vcls_ob (ci := 10) (by decide) ho) (Nat.le_of_ble_eq_true rfl) hs rfl
theorem f123_87 : fetch 123 87 = some (.ifCond .ne 27, 3) := vtab tk123 41 rfl
theorem e123_87 (L : VL) (st : List Value) (h : VG) (x : Int32) : ev 123 87 L (.int x :: st) h = if x = 0 then ev 123 90 L st h else ev 123 114 L st h := G_if_ne f123_87 (by decide)
theorem f123_90 : fetch 123 90 = some (.aload_n 0, 1) := vtab tk123 42 rfl
theorem e123_90 (L : VL) (st : List Value) (h : VG) (x : Nat) : ev 123 90 (some (.ref x) :: L) (st) h = ev 123 91 (some (.ref x) :: L) (.ref x :: st) h := G_aload_n f123_90 rfl
theorem f123_91 : fetch 123 91 = some (.aload_n 0, 1) := vtab tk123 43 rfl
theorem e123_91 (L : VL) (st : List Value) (h : VG) (x : Nat) : ev 123 91 (some (.ref x) :: L) (st) h = ev 123 92 (some (.ref x) :: L) (.ref x :: st) h := G_aload_n f123_91 rfl
theorem f123_92 : fetch 123 92 = some (.getfield 37, 3) := vtab tk123 44 rfl
theorem e123_92 (L : VL) (st : List Value) (h : VG) (a : Nat) (ho : ob h a 10) (hr : isR h a 6) : ev 123 92 L (.ref a :: st) h = ev 123 95 L (.ref (gR h a 6) :: st) h := G_getR (p := 435) f123_92 lkF_11_37 (by decide) (by decide) ho hr
theorem f123_95 : fetch 123 95 = some (.getfield 170, 3) := vtab tk123 45 rfl
theorem e123_95 (L : VL) (st : List Value) (h : VG) (a : Nat) (ho : ob h a 8) (hr : isR h a 0) : ev 123 95 L (.ref a :: st) h = ev 123 98 L (.ref (gR h a 0) :: st) h := G_getR (p := 383) f123_95 lkF_11_170 (by decide) (by decide) ho hr
theorem f123_98 : fetch 123 98 = some (.iload_n 3, 1) := vtab tk123 46 rfl
theorem e123_98 (l0 l1 l2 : Option Value) (L : VL) (st : List Value) (h : VG) (x : Int32) : ev 123 98 (l0 :: l1 :: l2 :: some (.int x) :: L) (st) h = ev 123 99 (l0 :: l1 :: l2 :: some (.int x) :: L) (.int x :: st) h := G_iload_n f123_98 rfl
theorem f123_99 : fetch 123 99 = some (.i2l, 1) := vtab tk123 47 rfl
theorem e123_99 (L : VL) (st : List Value) (h : VG) (x : Int32) : ev 123 99 L (.int x :: st) h = ev 123 100 L (.long x.toInt64 :: st) h := G_i2l f123_99
theorem f123_100 : fetch 123 100 = some (.aload 7, 2) := vtab tk123 48 rfl
theorem e123_100 (l0 l1 l2 l3 l4 l5 l6 : Option Value) (L : VL) (st : List Value) (h : VG) (x : Nat) : ev 123 100 (l0 :: l1 :: l2 :: l3 :: l4 :: l5 :: l6 :: some (.ref x) :: L) (st) h = ev 123 102 (l0 :: l1 :: l2 :: l3 :: l4 :: l5 :: l6 :: some (.ref x) :: L) (.ref x :: st) h := G_aload f123_100 rfl
theorem f123_102 : fetch 123 102 = some (.getfield 131, 3) := vtab tk123 49 rfl
theorem e123_102 (L : VL) (st : List Value) (h : VG) (a : Nat) (ho : ob h a 4) : ev 123 102 L (.ref a :: st) h = ev 123 105 L (.int (gI h a 3) :: st) h := G_getI (p := 262) f123_102 lkF_11_131 (by decide) (by decide) ho
theorem f123_105 : fetch 123 105 = some (.invokevirtual 176, 3) := vtab tk123 50 rfl
theorem e123_105 (L : VL) (st : List Value) (h : VG) (b : Nat) (x0 : Int64) (x1 : Int32) (ho : ob h b 5) (hs : catS st ≤ 8) : ev 123 105 L (.int x1 :: .long x0 :: .ref b :: st) h = (ev 54 0 [some (.ref b), some (.long x0), none, some (.int x1)] [] h).bind fun q => ev 123 108 L (q.1.toList ++ st) q.2 := G_callv (k := 1) (p := 688) (ars := [.long x0, .int x1]) f123_105 lkC_11_176 (by decide) (by decide +kernel) rfl (vcls_ob (ci := 5) (by decide) ho) (Nat.le_of_ble_eq_true rfl) hs rfl
theorem f123_108 : fetch 123 108 = some (.invokevirtual 180, 3) := vtab tk123 51 rfl
theorem e123_108 (L : VL) (st : List Value) (h : VG) (b : Nat) (x0 : Int32) (ho : ob h b 10) (hs : catS st ≤ 8) : ev 123 108 L (.int x0 :: .ref b :: st) h = (ev 100 0 [some (.ref b), some (.int x0)] [] h).bind fun q => ev 123 111 L (q.1.toList ++ st) q.2 := G_callv (k := 1) (p := 692) (ars := [.int x0]) f123_108 lkC_11_180 (by decide) (by decide +kernel) rfl (vcls_ob (ci := 10) (by decide) ho) (Nat.le_of_ble_eq_true rfl) hs rfl
theorem f123_111 : fetch 123 111 = some (.ifCond .eq 5, 3) := vtab tk123 52 rfl
theorem e123_111 (L : VL) (st : List Value) (h : VG) (x : Int32) : ev 123 111 L (.int x :: st) h = if x = 0 then ev 123 116 L st h else ev 123 114 L st h := G_if_eq f123_111 (by decide)
theorem f123_114 : fetch 123 114 = some (.iconst (-1), 1) := vtab tk123 53 rfl
theorem e123_114 (L : VL) (st : List Value) (h : VG) : ev 123 114 L (st) h = ev 123 115 L (.int (-1 : Int32) :: st) h := G_iconst f123_114 (by decide)
theorem f123_115 : fetch 123 115 = some (.ireturn, 1) := vtab tk123 54 rfl
theorem e123_115 (L : VL) (h : VG) (x : Int32) : ev 123 115 L [.int x] h = some (some (.int x), h) := G_iret f123_115 (ty := .int) (by decide) rfl
theorem f123_116 : fetch 123 116 = some (.iconst 0, 1) := vtab tk123 55 rfl
theorem e123_116 (L : VL) (st : List Value) (h : VG) : ev 123 116 L (st) h = ev 123 117 L (.int (0 : Int32) :: st) h := G_iconst f123_116 (by decide)
theorem f123_117 : fetch 123 117 = some (.istore 8, 2) := vtab tk123 56 rfl
theorem e123_117 (l0 l1 l2 l3 l4 l5 l6 l7 l8 : Option Value) (L : VL) (st : List Value) (h : VG) (x : Int32) : ev 123 117 (l0 :: l1 :: l2 :: l3 :: l4 :: l5 :: l6 :: l7 :: l8 :: L) (.int x :: st) h = ev 123 119 (l0 :: l1 :: l2 :: l3 :: l4 :: l5 :: l6 :: vkk l7 :: some (.int x) :: L) (st) h := G_istore f123_117 rfl (S1_8 l0 l1 l2 l3 l4 l5 l6 l7 l8 L _)
theorem f123_119 : fetch 123 119 = some (.iload 8, 2) := vtab tk123 57 rfl
theorem e123_119 (l0 l1 l2 l3 l4 l5 l6 l7 : Option Value) (L : VL) (st : List Value) (h : VG) (x : Int32) : ev 123 119 (l0 :: l1 :: l2 :: l3 :: l4 :: l5 :: l6 :: l7 :: some (.int x) :: L) (st) h = ev 123 121 (l0 :: l1 :: l2 :: l3 :: l4 :: l5 :: l6 :: l7 :: some (.int x) :: L) (.int x :: st) h := G_iload f123_119 rfl
theorem f123_121 : fetch 123 121 = some (.aload 5, 2) := vtab tk123 58 rfl
theorem e123_121 (l0 l1 l2 l3 l4 : Option Value) (L : VL) (st : List Value) (h : VG) (x : Nat) : ev 123 121 (l0 :: l1 :: l2 :: l3 :: l4 :: some (.ref x) :: L) (st) h = ev 123 123 (l0 :: l1 :: l2 :: l3 :: l4 :: some (.ref x) :: L) (.ref x :: st) h := G_aload f123_121 rfl
theorem f123_123 : fetch 123 123 = some (.getfield 123, 3) := vtab tk123 59 rfl
theorem e123_123 (L : VL) (st : List Value) (h : VG) (a : Nat) (ho : ob h a 3) : ev 123 123 L (.ref a :: st) h = ev 123 126 L (.int (gI h a 2) :: st) h := G_getI (p := 297) f123_123 lkF_11_123 (by decide) (by decide) ho
theorem f123_126 : fetch 123 126 = some (.if_icmp .ge 88, 3) := vtab tk123 60 rfl
theorem e123_126 (L : VL) (st : List Value) (h : VG) (x y : Int32) : ev 123 126 L (.int y :: .int x :: st) h = if x < y then ev 123 129 L st h else ev 123 214 L st h := G_icmp_ge f123_126 (by decide)
theorem f123_129 : fetch 123 129 = some (.aload_n 0, 1) := vtab tk123 61 rfl
theorem e123_129 (L : VL) (st : List Value) (h : VG) (x : Nat) : ev 123 129 (some (.ref x) :: L) (st) h = ev 123 130 (some (.ref x) :: L) (.ref x :: st) h := G_aload_n f123_129 rfl
theorem f123_130 : fetch 123 130 = some (.getfield 49, 3) := vtab tk123 62 rfl
theorem e123_130 (L : VL) (st : List Value) (h : VG) (a : Nat) (ho : ob h a 10) (hr : isR h a 11) : ev 123 130 L (.ref a :: st) h = ev 123 133 L (.ref (gR h a 11) :: st) h := G_getR (p := 440) f123_130 lkF_11_49 (by decide) (by decide) ho hr
theorem f123_133 : fetch 123 133 = some (.iload 8, 2) := vtab tk123 63 rfl
theorem e123_133 (l0 l1 l2 l3 l4 l5 l6 l7 : Option Value) (L : VL) (st : List Value) (h : VG) (x : Int32) : ev 123 133 (l0 :: l1 :: l2 :: l3 :: l4 :: l5 :: l6 :: l7 :: some (.int x) :: L) (st) h = ev 123 135 (l0 :: l1 :: l2 :: l3 :: l4 :: l5 :: l6 :: l7 :: some (.int x) :: L) (.int x :: st) h := G_iload f123_133 rfl
theorem f123_135 : fetch 123 135 = some (.aload_n 0, 1) := vtab tk123 64 rfl
theorem e123_135 (L : VL) (st : List Value) (h : VG) (x : Nat) : ev 123 135 (some (.ref x) :: L) (st) h = ev 123 136 (some (.ref x) :: L) (.ref x :: st) h := G_aload_n f123_135 rfl
theorem f123_136 : fetch 123 136 = some (.getfield 37, 3) := vtab tk123 65 rfl
theorem e123_136 (L : VL) (st : List Value) (h : VG) (a : Nat) (ho : ob h a 10) (hr : isR h a 6) : ev 123 136 L (.ref a :: st) h = ev 123 139 L (.ref (gR h a 6) :: st) h := G_getR (p := 435) f123_136 lkF_11_37 (by decide) (by decide) ho hr
theorem f123_139 : fetch 123 139 = some (.getfield 170, 3) := vtab tk123 66 rfl
theorem e123_139 (L : VL) (st : List Value) (h : VG) (a : Nat) (ho : ob h a 8) (hr : isR h a 0) : ev 123 139 L (.ref a :: st) h = ev 123 142 L (.ref (gR h a 0) :: st) h := G_getR (p := 383) f123_139 lkF_11_170 (by decide) (by decide) ho hr
theorem f123_142 : fetch 123 142 = some (.iload_n 2, 1) := vtab tk123 67 rfl
theorem e123_142 (l0 l1 : Option Value) (L : VL) (st : List Value) (h : VG) (x : Int32) : ev 123 142 (l0 :: l1 :: some (.int x) :: L) (st) h = ev 123 143 (l0 :: l1 :: some (.int x) :: L) (.int x :: st) h := G_iload_n f123_142 rfl
theorem f123_143 : fetch 123 143 = some (.aload 6, 2) := vtab tk123 68 rfl
theorem e123_143 (l0 l1 l2 l3 l4 l5 : Option Value) (L : VL) (st : List Value) (h : VG) (x : Nat) : ev 123 143 (l0 :: l1 :: l2 :: l3 :: l4 :: l5 :: some (.ref x) :: L) (st) h = ev 123 145 (l0 :: l1 :: l2 :: l3 :: l4 :: l5 :: some (.ref x) :: L) (.ref x :: st) h := G_aload f123_143 rfl
theorem f123_145 : fetch 123 145 = some (.getfield 141, 3) := vtab tk123 69 rfl
theorem e123_145 (L : VL) (st : List Value) (h : VG) (a : Nat) (ho : ob h a 4) (hr : isR h a 1) : ev 123 145 L (.ref a :: st) h = ev 123 148 L (.ref (gR h a 1) :: st) h := G_getR (p := 258) f123_145 lkF_11_141 (by decide) (by decide) ho hr
theorem f123_148 : fetch 123 148 = some (.iload 8, 2) := vtab tk123 70 rfl
theorem e123_148 (l0 l1 l2 l3 l4 l5 l6 l7 : Option Value) (L : VL) (st : List Value) (h : VG) (x : Int32) : ev 123 148 (l0 :: l1 :: l2 :: l3 :: l4 :: l5 :: l6 :: l7 :: some (.int x) :: L) (st) h = ev 123 150 (l0 :: l1 :: l2 :: l3 :: l4 :: l5 :: l6 :: l7 :: some (.int x) :: L) (.int x :: st) h := G_iload f123_148 rfl
theorem f123_150 : fetch 123 150 = some (.iaload, 1) := vtab tk123 71 rfl
theorem e123_150 (L : VL) (st : List Value) (h : VG) (a : Nat) (i : Int32) (ha : rdI h a) (hi : vp_in i (aln h a)) : ev 123 150 L (.int i :: .ref a :: st) h = ev 123 151 L (.int (aI h a i.toNatClampNeg) :: st) h := G_iald' f123_150 ha hi
theorem f123_151 : fetch 123 151 = some (.iadd, 1) := vtab tk123 72 rfl
theorem e123_151 (L : VL) (st : List Value) (h : VG) (x y : Int32) : ev 123 151 L (.int y :: .int x :: st) h = ev 123 152 L (.int (x + y) :: st) h := G_iadd f123_151
theorem f123_152 : fetch 123 152 = some (.aload 5, 2) := vtab tk123 73 rfl
theorem e123_152 (l0 l1 l2 l3 l4 : Option Value) (L : VL) (st : List Value) (h : VG) (x : Nat) : ev 123 152 (l0 :: l1 :: l2 :: l3 :: l4 :: some (.ref x) :: L) (st) h = ev 123 154 (l0 :: l1 :: l2 :: l3 :: l4 :: some (.ref x) :: L) (.ref x :: st) h := G_aload f123_152 rfl
theorem f123_154 : fetch 123 154 = some (.getfield 273, 3) := vtab tk123 74 rfl
theorem e123_154 (L : VL) (st : List Value) (h : VG) (a : Nat) (ho : ob h a 3) (hr : isR h a 6) : ev 123 154 L (.ref a :: st) h = ev 123 157 L (.ref (gR h a 6) :: st) h := G_getR (p := 306) f123_154 lkF_11_273 (by decide) (by decide) ho hr
theorem f123_157 : fetch 123 157 = some (.iload 8, 2) := vtab tk123 75 rfl
theorem e123_157 (l0 l1 l2 l3 l4 l5 l6 l7 : Option Value) (L : VL) (st : List Value) (h : VG) (x : Int32) : ev 123 157 (l0 :: l1 :: l2 :: l3 :: l4 :: l5 :: l6 :: l7 :: some (.int x) :: L) (st) h = ev 123 159 (l0 :: l1 :: l2 :: l3 :: l4 :: l5 :: l6 :: l7 :: some (.int x) :: L) (.int x :: st) h := G_iload f123_157 rfl
theorem f123_159 : fetch 123 159 = some (.iaload, 1) := vtab tk123 76 rfl
theorem e123_159 (L : VL) (st : List Value) (h : VG) (a : Nat) (i : Int32) (ha : rdI h a) (hi : vp_in i (aln h a)) : ev 123 159 L (.int i :: .ref a :: st) h = ev 123 160 L (.int (aI h a i.toNatClampNeg) :: st) h := G_iald' f123_159 ha hi
theorem f123_160 : fetch 123 160 = some (.aload 6, 2) := vtab tk123 77 rfl
theorem e123_160 (l0 l1 l2 l3 l4 l5 : Option Value) (L : VL) (st : List Value) (h : VG) (x : Nat) : ev 123 160 (l0 :: l1 :: l2 :: l3 :: l4 :: l5 :: some (.ref x) :: L) (st) h = ev 123 162 (l0 :: l1 :: l2 :: l3 :: l4 :: l5 :: some (.ref x) :: L) (.ref x :: st) h := G_aload f123_160 rfl
theorem f123_162 : fetch 123 162 = some (.getfield 147, 3) := vtab tk123 78 rfl
theorem e123_162 (L : VL) (st : List Value) (h : VG) (a : Nat) (ho : ob h a 4) : ev 123 162 L (.ref a :: st) h = ev 123 165 L (.int (gI h a 0) :: st) h := G_getI (p := 255) f123_162 lkF_11_147 (by decide) (by decide) ho
theorem f123_165 : fetch 123 165 = some (.invokevirtual 276, 3) := vtab tk123 79 rfl
theorem e123_165 (L : VL) (st : List Value) (h : VG) (b : Nat) (x0 : Int32) (x1 : Int32) (x2 : Int32) (ho : ob h b 5) (hs : catS st ≤ 8) : ev 123 165 L (.int x2 :: .int x1 :: .int x0 :: .ref b :: st) h = (ev 56 0 [some (.ref b), some (.int x0), some (.int x1), some (.int x2), none, none, none, none, none] [] h).bind fun q => ev 123 168 L (q.1.toList ++ st) q.2 := G_callv (k := 1) (p := 868) (ars := [.int x0, .int x1, .int x2]) f123_165 lkC_11_276 (by decide) (by decide +kernel) rfl (vcls_ob (ci := 5) (by decide) ho) (Nat.le_of_ble_eq_true rfl) hs rfl
theorem f123_168 : fetch 123 168 = some (.lastore, 1) := vtab tk123 80 rfl
theorem e123_168 (L : VL) (st : List Value) (h : VG) (a : Nat) (i : Int32) (x : Int64) (ha : arL h a) (hi : vp_in i (aln h a)) : ev 123 168 L (.long x :: .int i :: .ref a :: st) h = ev 123 169 L (st) (wL h a i.toNatClampNeg x) := G_last f123_168 ha hi
theorem f123_169 : fetch 123 169 = some (.iload 4, 2) := vtab tk123 81 rfl
theorem e123_169 (l0 l1 l2 l3 : Option Value) (L : VL) (st : List Value) (h : VG) (x : Int32) : ev 123 169 (l0 :: l1 :: l2 :: l3 :: some (.int x) :: L) (st) h = ev 123 171 (l0 :: l1 :: l2 :: l3 :: some (.int x) :: L) (.int x :: st) h := G_iload f123_169 rfl
theorem f123_171 : fetch 123 171 = some (.ifCond .ne 37, 3) := vtab tk123 82 rfl
theorem e123_171 (L : VL) (st : List Value) (h : VG) (x : Int32) : ev 123 171 L (.int x :: st) h = if x = 0 then ev 123 174 L st h else ev 123 208 L st h := G_if_ne f123_171 (by decide)
theorem f123_174 : fetch 123 174 = some (.aload_n 0, 1) := vtab tk123 83 rfl
theorem e123_174 (L : VL) (st : List Value) (h : VG) (x : Nat) : ev 123 174 (some (.ref x) :: L) (st) h = ev 123 175 (some (.ref x) :: L) (.ref x :: st) h := G_aload_n f123_174 rfl
theorem f123_175 : fetch 123 175 = some (.aload_n 0, 1) := vtab tk123 84 rfl
theorem e123_175 (L : VL) (st : List Value) (h : VG) (x : Nat) : ev 123 175 (some (.ref x) :: L) (st) h = ev 123 176 (some (.ref x) :: L) (.ref x :: st) h := G_aload_n f123_175 rfl
theorem f123_176 : fetch 123 176 = some (.getfield 37, 3) := vtab tk123 85 rfl
theorem e123_176 (L : VL) (st : List Value) (h : VG) (a : Nat) (ho : ob h a 10) (hr : isR h a 6) : ev 123 176 L (.ref a :: st) h = ev 123 179 L (.ref (gR h a 6) :: st) h := G_getR (p := 435) f123_176 lkF_11_37 (by decide) (by decide) ho hr
theorem f123_179 : fetch 123 179 = some (.getfield 170, 3) := vtab tk123 86 rfl
theorem e123_179 (L : VL) (st : List Value) (h : VG) (a : Nat) (ho : ob h a 8) (hr : isR h a 0) : ev 123 179 L (.ref a :: st) h = ev 123 182 L (.ref (gR h a 0) :: st) h := G_getR (p := 383) f123_179 lkF_11_170 (by decide) (by decide) ho hr
theorem f123_182 : fetch 123 182 = some (.aload 5, 2) := vtab tk123 87 rfl
theorem e123_182 (l0 l1 l2 l3 l4 : Option Value) (L : VL) (st : List Value) (h : VG) (x : Nat) : ev 123 182 (l0 :: l1 :: l2 :: l3 :: l4 :: some (.ref x) :: L) (st) h = ev 123 184 (l0 :: l1 :: l2 :: l3 :: l4 :: some (.ref x) :: L) (.ref x :: st) h := G_aload f123_182 rfl
theorem f123_184 : fetch 123 184 = some (.getfield 273, 3) := vtab tk123 88 rfl
theorem e123_184 (L : VL) (st : List Value) (h : VG) (a : Nat) (ho : ob h a 3) (hr : isR h a 6) : ev 123 184 L (.ref a :: st) h = ev 123 187 L (.ref (gR h a 6) :: st) h := G_getR (p := 306) f123_184 lkF_11_273 (by decide) (by decide) ho hr
theorem f123_187 : fetch 123 187 = some (.iload 8, 2) := vtab tk123 89 rfl
theorem e123_187 (l0 l1 l2 l3 l4 l5 l6 l7 : Option Value) (L : VL) (st : List Value) (h : VG) (x : Int32) : ev 123 187 (l0 :: l1 :: l2 :: l3 :: l4 :: l5 :: l6 :: l7 :: some (.int x) :: L) (st) h = ev 123 189 (l0 :: l1 :: l2 :: l3 :: l4 :: l5 :: l6 :: l7 :: some (.int x) :: L) (.int x :: st) h := G_iload f123_187 rfl
theorem f123_189 : fetch 123 189 = some (.iaload, 1) := vtab tk123 90 rfl
theorem e123_189 (L : VL) (st : List Value) (h : VG) (a : Nat) (i : Int32) (ha : rdI h a) (hi : vp_in i (aln h a)) : ev 123 189 L (.int i :: .ref a :: st) h = ev 123 190 L (.int (aI h a i.toNatClampNeg) :: st) h := G_iald' f123_189 ha hi
theorem f123_190 : fetch 123 190 = some (.aload_n 0, 1) := vtab tk123 91 rfl
theorem e123_190 (L : VL) (st : List Value) (h : VG) (x : Nat) : ev 123 190 (some (.ref x) :: L) (st) h = ev 123 191 (some (.ref x) :: L) (.ref x :: st) h := G_aload_n f123_190 rfl
theorem f123_191 : fetch 123 191 = some (.getfield 49, 3) := vtab tk123 92 rfl
theorem e123_191 (L : VL) (st : List Value) (h : VG) (a : Nat) (ho : ob h a 10) (hr : isR h a 11) : ev 123 191 L (.ref a :: st) h = ev 123 194 L (.ref (gR h a 11) :: st) h := G_getR (p := 440) f123_191 lkF_11_49 (by decide) (by decide) ho hr
theorem f123_194 : fetch 123 194 = some (.iload 8, 2) := vtab tk123 93 rfl
theorem e123_194 (l0 l1 l2 l3 l4 l5 l6 l7 : Option Value) (L : VL) (st : List Value) (h : VG) (x : Int32) : ev 123 194 (l0 :: l1 :: l2 :: l3 :: l4 :: l5 :: l6 :: l7 :: some (.int x) :: L) (st) h = ev 123 196 (l0 :: l1 :: l2 :: l3 :: l4 :: l5 :: l6 :: l7 :: some (.int x) :: L) (.int x :: st) h := G_iload f123_194 rfl
theorem f123_196 : fetch 123 196 = some (.laload, 1) := vtab tk123 94 rfl
theorem e123_196 (L : VL) (st : List Value) (h : VG) (a : Nat) (i : Int32) (ha : arL h a) (hi : vp_in i (aln h a)) : ev 123 196 L (.int i :: .ref a :: st) h = ev 123 197 L (.long (aL h a i.toNatClampNeg) :: st) h := G_lald f123_196 ha hi
theorem f123_197 : fetch 123 197 = some (.invokevirtual 291, 3) := vtab tk123 95 rfl
theorem e123_197 (L : VL) (st : List Value) (h : VG) (b : Nat) (x0 : Int32) (x1 : Int64) (ho : ob h b 5) (hs : catS st ≤ 8) : ev 123 197 L (.long x1 :: .int x0 :: .ref b :: st) h = (ev 55 0 [some (.ref b), some (.int x0), some (.long x1), none, none] [] h).bind fun q => ev 123 200 L (q.1.toList ++ st) q.2 := G_callv (k := 1) (p := 892) (ars := [.int x0, .long x1]) f123_197 lkC_11_291 (by decide) (by decide +kernel) rfl (vcls_ob (ci := 5) (by decide) ho) (Nat.le_of_ble_eq_true rfl) hs rfl
theorem f123_200 : fetch 123 200 = some (.invokevirtual 180, 3) := vtab tk123 96 rfl
theorem e123_200 (L : VL) (st : List Value) (h : VG) (b : Nat) (x0 : Int32) (ho : ob h b 10) (hs : catS st ≤ 8) : ev 123 200 L (.int x0 :: .ref b :: st) h = (ev 100 0 [some (.ref b), some (.int x0)] [] h).bind fun q => ev 123 203 L (q.1.toList ++ st) q.2 := G_callv (k := 1) (p := 692) (ars := [.int x0]) f123_200 lkC_11_180 (by decide) (by decide +kernel) rfl (vcls_ob (ci := 10) (by decide) ho) (Nat.le_of_ble_eq_true rfl) hs rfl
theorem f123_203 : fetch 123 203 = some (.ifCond .eq 5, 3) := vtab tk123 97 rfl
theorem e123_203 (L : VL) (st : List Value) (h : VG) (x : Int32) : ev 123 203 L (.int x :: st) h = if x = 0 then ev 123 208 L st h else ev 123 206 L st h := G_if_eq f123_203 (by decide)
theorem f123_206 : fetch 123 206 = some (.iconst (-1), 1) := vtab tk123 98 rfl
theorem e123_206 (L : VL) (st : List Value) (h : VG) : ev 123 206 L (st) h = ev 123 207 L (.int (-1 : Int32) :: st) h := G_iconst f123_206 (by decide)
theorem f123_207 : fetch 123 207 = some (.ireturn, 1) := vtab tk123 99 rfl
theorem e123_207 (L : VL) (h : VG) (x : Int32) : ev 123 207 L [.int x] h = some (some (.int x), h) := G_iret f123_207 (ty := .int) (by decide) rfl
theorem f123_208 : fetch 123 208 = some (.iinc 8 1, 3) := vtab tk123 100 rfl
theorem e123_208 (l0 l1 l2 l3 l4 l5 l6 l7 : Option Value) (L : VL) (st : List Value) (h : VG) (x : Int32) : ev 123 208 (l0 :: l1 :: l2 :: l3 :: l4 :: l5 :: l6 :: l7 :: some (.int x) :: L) (st) h = ev 123 211 (l0 :: l1 :: l2 :: l3 :: l4 :: l5 :: l6 :: vkk l7 :: some (.int (x + (1 : Int32))) :: L) (st) h := G_iinc f123_208 rfl (by decide) (S1_8 l0 l1 l2 l3 l4 l5 l6 l7 (some (.int x)) L _)
theorem f123_211 : fetch 123 211 = some (.goto (-92), 3) := vtab tk123 101 rfl
theorem e123_211 (L : VL) (st : List Value) (h : VG) : ev 123 211 L (st) h = ev 123 119 L (st) h := G_goto f123_211 (by decide)
theorem f123_214 : fetch 123 214 = some (.aload_n 0, 1) := vtab tk123 102 rfl
theorem e123_214 (L : VL) (st : List Value) (h : VG) (x : Nat) : ev 123 214 (some (.ref x) :: L) (st) h = ev 123 215 (some (.ref x) :: L) (.ref x :: st) h := G_aload_n f123_214 rfl
theorem f123_215 : fetch 123 215 = some (.getfield 37, 3) := vtab tk123 103 rfl
theorem e123_215 (L : VL) (st : List Value) (h : VG) (a : Nat) (ho : ob h a 10) (hr : isR h a 6) : ev 123 215 L (.ref a :: st) h = ev 123 218 L (.ref (gR h a 6) :: st) h := G_getR (p := 435) f123_215 lkF_11_37 (by decide) (by decide) ho hr
theorem f123_218 : fetch 123 218 = some (.getfield 170, 3) := vtab tk123 104 rfl
theorem e123_218 (L : VL) (st : List Value) (h : VG) (a : Nat) (ho : ob h a 8) (hr : isR h a 0) : ev 123 218 L (.ref a :: st) h = ev 123 221 L (.ref (gR h a 0) :: st) h := G_getR (p := 383) f123_218 lkF_11_170 (by decide) (by decide) ho hr
theorem f123_221 : fetch 123 221 = some (.iload_n 3, 1) := vtab tk123 105 rfl
theorem e123_221 (l0 l1 l2 : Option Value) (L : VL) (st : List Value) (h : VG) (x : Int32) : ev 123 221 (l0 :: l1 :: l2 :: some (.int x) :: L) (st) h = ev 123 222 (l0 :: l1 :: l2 :: some (.int x) :: L) (.int x :: st) h := G_iload_n f123_221 rfl
theorem f123_222 : fetch 123 222 = some (.aload 7, 2) := vtab tk123 106 rfl
theorem e123_222 (l0 l1 l2 l3 l4 l5 l6 : Option Value) (L : VL) (st : List Value) (h : VG) (x : Nat) : ev 123 222 (l0 :: l1 :: l2 :: l3 :: l4 :: l5 :: l6 :: some (.ref x) :: L) (st) h = ev 123 224 (l0 :: l1 :: l2 :: l3 :: l4 :: l5 :: l6 :: some (.ref x) :: L) (.ref x :: st) h := G_aload f123_222 rfl
theorem f123_224 : fetch 123 224 = some (.getfield 131, 3) := vtab tk123 107 rfl
theorem e123_224 (L : VL) (st : List Value) (h : VG) (a : Nat) (ho : ob h a 4) : ev 123 224 L (.ref a :: st) h = ev 123 227 L (.int (gI h a 3) :: st) h := G_getI (p := 262) f123_224 lkF_11_131 (by decide) (by decide) ho
theorem f123_227 : fetch 123 227 = some (.invokevirtual 299, 3) := vtab tk123 108 rfl
theorem e123_227 (L : VL) (st : List Value) (h : VG) (b : Nat) (x0 : Int32) (x1 : Int32) (ho : ob h b 5) (hs : catS st ≤ 8) : ev 123 227 L (.int x1 :: .int x0 :: .ref b :: st) h = (ev 59 0 [some (.ref b), some (.int x0), some (.int x1), none] [] h).bind fun q => ev 123 230 L (q.1.toList ++ st) q.2 := G_callv (k := 1) (p := 911) (ars := [.int x0, .int x1]) f123_227 lkC_11_299 (by decide) (by decide +kernel) rfl (vcls_ob (ci := 5) (by decide) ho) (Nat.le_of_ble_eq_true rfl) hs rfl
theorem f123_230 : fetch 123 230 = some (.aload_n 0, 1) := vtab tk123 109 rfl
theorem e123_230 (L : VL) (st : List Value) (h : VG) (x : Nat) : ev 123 230 (some (.ref x) :: L) (st) h = ev 123 231 (some (.ref x) :: L) (.ref x :: st) h := G_aload_n f123_230 rfl
theorem f123_231 : fetch 123 231 = some (.getfield 37, 3) := vtab tk123 110 rfl
theorem e123_231 (L : VL) (st : List Value) (h : VG) (a : Nat) (ho : ob h a 10) (hr : isR h a 6) : ev 123 231 L (.ref a :: st) h = ev 123 234 L (.ref (gR h a 6) :: st) h := G_getR (p := 435) f123_231 lkF_11_37 (by decide) (by decide) ho hr
theorem f123_234 : fetch 123 234 = some (.getfield 170, 3) := vtab tk123 111 rfl
theorem e123_234 (L : VL) (st : List Value) (h : VG) (a : Nat) (ho : ob h a 8) (hr : isR h a 0) : ev 123 234 L (.ref a :: st) h = ev 123 237 L (.ref (gR h a 0) :: st) h := G_getR (p := 383) f123_234 lkF_11_170 (by decide) (by decide) ho hr
theorem f123_237 : fetch 123 237 = some (.aload 5, 2) := vtab tk123 112 rfl
theorem e123_237 (l0 l1 l2 l3 l4 : Option Value) (L : VL) (st : List Value) (h : VG) (x : Nat) : ev 123 237 (l0 :: l1 :: l2 :: l3 :: l4 :: some (.ref x) :: L) (st) h = ev 123 239 (l0 :: l1 :: l2 :: l3 :: l4 :: some (.ref x) :: L) (.ref x :: st) h := G_aload f123_237 rfl
theorem f123_239 : fetch 123 239 = some (.aload 7, 2) := vtab tk123 113 rfl
theorem e123_239 (l0 l1 l2 l3 l4 l5 l6 : Option Value) (L : VL) (st : List Value) (h : VG) (x : Nat) : ev 123 239 (l0 :: l1 :: l2 :: l3 :: l4 :: l5 :: l6 :: some (.ref x) :: L) (st) h = ev 123 241 (l0 :: l1 :: l2 :: l3 :: l4 :: l5 :: l6 :: some (.ref x) :: L) (.ref x :: st) h := G_aload f123_239 rfl
theorem f123_241 : fetch 123 241 = some (.iload_n 3, 1) := vtab tk123 114 rfl
theorem e123_241 (l0 l1 l2 : Option Value) (L : VL) (st : List Value) (h : VG) (x : Int32) : ev 123 241 (l0 :: l1 :: l2 :: some (.int x) :: L) (st) h = ev 123 242 (l0 :: l1 :: l2 :: some (.int x) :: L) (.int x :: st) h := G_iload_n f123_241 rfl
theorem f123_242 : fetch 123 242 = some (.aload_n 0, 1) := vtab tk123 115 rfl
theorem e123_242 (L : VL) (st : List Value) (h : VG) (x : Nat) : ev 123 242 (some (.ref x) :: L) (st) h = ev 123 243 (some (.ref x) :: L) (.ref x :: st) h := G_aload_n f123_242 rfl
theorem f123_243 : fetch 123 243 = some (.getfield 49, 3) := vtab tk123 116 rfl
theorem e123_243 (L : VL) (st : List Value) (h : VG) (a : Nat) (ho : ob h a 10) (hr : isR h a 11) : ev 123 243 L (.ref a :: st) h = ev 123 246 L (.ref (gR h a 11) :: st) h := G_getR (p := 440) f123_243 lkF_11_49 (by decide) (by decide) ho hr
theorem f123_246 : fetch 123 246 = some (.invokevirtual 295, 3) := vtab tk123 117 rfl
theorem e123_246 (L : VL) (st : List Value) (h : VG) (b : Nat) (x0 : Nat) (x1 : Nat) (x2 : Int32) (x3 : Nat) (ho : ob h b 5) (hs : catS st ≤ 8) : ev 123 246 L (.ref x3 :: .int x2 :: .ref x1 :: .ref x0 :: .ref b :: st) h = (ev 58 0 [some (.ref b), some (.ref x0), some (.ref x1), some (.int x2), some (.ref x3), none] [] h).bind fun q => ev 123 249 L (q.1.toList ++ st) q.2 := G_callv (k := 1) (p := 899) (ars := [.ref x0, .ref x1, .int x2, .ref x3]) f123_246 lkC_11_295 (by decide) (by decide +kernel) rfl (vcls_ob (ci := 5) (by decide) ho) (Nat.le_of_ble_eq_true rfl) hs rfl
theorem f123_249 : fetch 123 249 = some (.aload 7, 2) := vtab tk123 118 rfl
theorem e123_249 (l0 l1 l2 l3 l4 l5 l6 : Option Value) (L : VL) (st : List Value) (h : VG) (x : Nat) : ev 123 249 (l0 :: l1 :: l2 :: l3 :: l4 :: l5 :: l6 :: some (.ref x) :: L) (st) h = ev 123 251 (l0 :: l1 :: l2 :: l3 :: l4 :: l5 :: l6 :: some (.ref x) :: L) (.ref x :: st) h := G_aload f123_249 rfl
theorem f123_251 : fetch 123 251 = some (.getfield 131, 3) := vtab tk123 119 rfl
theorem e123_251 (L : VL) (st : List Value) (h : VG) (a : Nat) (ho : ob h a 4) : ev 123 251 L (.ref a :: st) h = ev 123 254 L (.int (gI h a 3) :: st) h := G_getI (p := 262) f123_251 lkF_11_131 (by decide) (by decide) ho
theorem f123_254 : fetch 123 254 = some (.ireturn, 1) := vtab tk123 120 rfl
theorem e123_254 (L : VL) (h : VG) (x : Int32) : ev 123 254 L [.int x] h = some (some (.int x), h) := G_iret f123_254 (ty := .int) (by decide) rfl
