/-! 206 GuestCallsModel.putsOut(IIJ)V -/
def tb206 : List (Nat × Instr × Nat) := [(0, .iconst 0, 1), (1, .istore 5, 2), (3, .iload 5, 2), (5, .iload_n 2, 1), (6, .if_icmp .ge 60, 3), (9, .aload_n 0, 1), (10, .getfield 229, 3), (13, .ifCond .eq 12, 3), (16, .iload_n 2, 1), (17, .iconst 1, 1), (18, .isub, 1), (19, .iload 5, 2), (21, .isub, 1), (22, .goto 5, 3), (25, .iload 5, 2), (27, .istore 6, 2), (29, .aload_n 0, 1), (30, .getfield 101, 3), (33, .iload_n 1, 1), (34, .iload 5, 2), (36, .iadd, 1), (37, .lload_n 3, 1), (38, .bipush 8, 2), (40, .iload 6, 2), (42, .imul, 1), (43, .lshr, 1), (44, .ldc2_w 386, 3), (47, .land, 1), (48, .l2i, 1), (49, .iastore, 1), (50, .aload_n 0, 1), (51, .getfield 104, 3), (54, .iload_n 1, 1), (55, .iload 5, 2), (57, .iadd, 1), (58, .iconst 1, 1), (59, .bastore, 1), (60, .iinc 5 1, 3), (63, .goto (-60), 3), (66, .return_, 1)]
theorem tk206 : tb206.all (fun q => decide (fetch 206 q.1 = some q.2)) = true := by decide +kernel
theorem f206_0 : fetch 206 0 = some (.iconst 0, 1) := vtab tk206 0 rfl
theorem e206_0 (L : VL) (st : List Value) (h : VG) : ev 206 0 L (st) h = ev 206 1 L (.int (0 : Int32) :: st) h := G_iconst f206_0 (by decide)
theorem f206_1 : fetch 206 1 = some (.istore 5, 2) := vtab tk206 1 rfl
theorem e206_1 (l0 l1 l2 l3 l4 l5 : Option Value) (L : VL) (st : List Value) (h : VG) (x : Int32) : ev 206 1 (l0 :: l1 :: l2 :: l3 :: l4 :: l5 :: L) (.int x :: st) h = ev 206 3 (l0 :: l1 :: l2 :: l3 :: vkk l4 :: some (.int x) :: L) (st) h := G_istore f206_1 rfl (S1_5 l0 l1 l2 l3 l4 l5 L _)
theorem f206_3 : fetch 206 3 = some (.iload 5, 2) := vtab tk206 2 rfl
theorem e206_3 (l0 l1 l2 l3 l4 : Option Value) (L : VL) (st : List Value) (h : VG) (x : Int32) : ev 206 3 (l0 :: l1 :: l2 :: l3 :: l4 :: some (.int x) :: L) (st) h = ev 206 5 (l0 :: l1 :: l2 :: l3 :: l4 :: some (.int x) :: L) (.int x :: st) h := G_iload f206_3 rfl
theorem f206_5 : fetch 206 5 = some (.iload_n 2, 1) := vtab tk206 3 rfl
theorem e206_5 (l0 l1 : Option Value) (L : VL) (st : List Value) (h : VG) (x : Int32) : ev 206 5 (l0 :: l1 :: some (.int x) :: L) (st) h = ev 206 6 (l0 :: l1 :: some (.int x) :: L) (.int x :: st) h := G_iload_n f206_5 rfl
theorem f206_6 : fetch 206 6 = some (.if_icmp .ge 60, 3) := vtab tk206 4 rfl
theorem e206_6 (L : VL) (st : List Value) (h : VG) (x y : Int32) : ev 206 6 L (.int y :: .int x :: st) h = if x < y then ev 206 9 L st h else ev 206 66 L st h := G_icmp_ge f206_6 (by decide)
theorem f206_9 : fetch 206 9 = some (.aload_n 0, 1) := vtab tk206 5 rfl
theorem e206_9 (L : VL) (st : List Value) (h : VG) (x : Nat) : ev 206 9 (some (.ref x) :: L) (st) h = ev 206 10 (some (.ref x) :: L) (.ref x :: st) h := G_aload_n f206_9 rfl
theorem f206_10 : fetch 206 10 = some (.getfield 229, 3) := vtab tk206 6 rfl
theorem e206_10 (L : VL) (st : List Value) (h : VG) (a : Nat) (ho : ob h a 11) : ev 206 10 L (.ref a :: st) h = ev 206 13 L (.int (gI h a 17) :: st) h := G_getI (p := 1030) f206_10 lkF_12_229 (by decide) (by decide) ho
theorem f206_13 : fetch 206 13 = some (.ifCond .eq 12, 3) := vtab tk206 7 rfl
theorem e206_13 (L : VL) (st : List Value) (h : VG) (x : Int32) : ev 206 13 L (.int x :: st) h = if x = 0 then ev 206 25 L st h else ev 206 16 L st h := G_if_eq f206_13 (by decide)
theorem f206_16 : fetch 206 16 = some (.iload_n 2, 1) := vtab tk206 8 rfl
theorem e206_16 (l0 l1 : Option Value) (L : VL) (st : List Value) (h : VG) (x : Int32) : ev 206 16 (l0 :: l1 :: some (.int x) :: L) (st) h = ev 206 17 (l0 :: l1 :: some (.int x) :: L) (.int x :: st) h := G_iload_n f206_16 rfl
theorem f206_17 : fetch 206 17 = some (.iconst 1, 1) := vtab tk206 9 rfl
theorem e206_17 (L : VL) (st : List Value) (h : VG) : ev 206 17 L (st) h = ev 206 18 L (.int (1 : Int32) :: st) h := G_iconst f206_17 (by decide)
theorem f206_18 : fetch 206 18 = some (.isub, 1) := vtab tk206 10 rfl
theorem e206_18 (L : VL) (st : List Value) (h : VG) (x y : Int32) : ev 206 18 L (.int y :: .int x :: st) h = ev 206 19 L (.int (x - y) :: st) h := G_isub f206_18
theorem f206_19 : fetch 206 19 = some (.iload 5, 2) := vtab tk206 11 rfl
theorem e206_19 (l0 l1 l2 l3 l4 : Option Value) (L : VL) (st : List Value) (h : VG) (x : Int32) : ev 206 19 (l0 :: l1 :: l2 :: l3 :: l4 :: some (.int x) :: L) (st) h = ev 206 21 (l0 :: l1 :: l2 :: l3 :: l4 :: some (.int x) :: L) (.int x :: st) h := G_iload f206_19 rfl
theorem f206_21 : fetch 206 21 = some (.isub, 1) := vtab tk206 12 rfl
theorem e206_21 (L : VL) (st : List Value) (h : VG) (x y : Int32) : ev 206 21 L (.int y :: .int x :: st) h = ev 206 22 L (.int (x - y) :: st) h := G_isub f206_21
theorem f206_22 : fetch 206 22 = some (.goto 5, 3) := vtab tk206 13 rfl
theorem e206_22 (L : VL) (st : List Value) (h : VG) : ev 206 22 L (st) h = ev 206 27 L (st) h := G_goto f206_22 (by decide)
theorem f206_25 : fetch 206 25 = some (.iload 5, 2) := vtab tk206 14 rfl
theorem e206_25 (l0 l1 l2 l3 l4 : Option Value) (L : VL) (st : List Value) (h : VG) (x : Int32) : ev 206 25 (l0 :: l1 :: l2 :: l3 :: l4 :: some (.int x) :: L) (st) h = ev 206 27 (l0 :: l1 :: l2 :: l3 :: l4 :: some (.int x) :: L) (.int x :: st) h := G_iload f206_25 rfl
theorem f206_27 : fetch 206 27 = some (.istore 6, 2) := vtab tk206 15 rfl
theorem e206_27 (l0 l1 l2 l3 l4 l5 l6 : Option Value) (L : VL) (st : List Value) (h : VG) (x : Int32) : ev 206 27 (l0 :: l1 :: l2 :: l3 :: l4 :: l5 :: l6 :: L) (.int x :: st) h = ev 206 29 (l0 :: l1 :: l2 :: l3 :: l4 :: vkk l5 :: some (.int x) :: L) (st) h := G_istore f206_27 rfl (S1_6 l0 l1 l2 l3 l4 l5 l6 L _)
theorem f206_29 : fetch 206 29 = some (.aload_n 0, 1) := vtab tk206 16 rfl
theorem e206_29 (L : VL) (st : List Value) (h : VG) (x : Nat) : ev 206 29 (some (.ref x) :: L) (st) h = ev 206 30 (some (.ref x) :: L) (.ref x :: st) h := G_aload_n f206_29 rfl
theorem f206_30 : fetch 206 30 = some (.getfield 101, 3) := vtab tk206 17 rfl
theorem e206_30 (L : VL) (st : List Value) (h : VG) (a : Nat) (ho : ob h a 11) (hr : isR h a 50) : ev 206 30 L (.ref a :: st) h = ev 206 33 L (.ref (gR h a 50) :: st) h := G_getR (p := 1063) f206_30 lkF_12_101 (by decide) (by decide) ho hr
theorem f206_33 : fetch 206 33 = some (.iload_n 1, 1) := vtab tk206 18 rfl
theorem e206_33 (l0 : Option Value) (L : VL) (st : List Value) (h : VG) (x : Int32) : ev 206 33 (l0 :: some (.int x) :: L) (st) h = ev 206 34 (l0 :: some (.int x) :: L) (.int x :: st) h := G_iload_n f206_33 rfl
theorem f206_34 : fetch 206 34 = some (.iload 5, 2) := vtab tk206 19 rfl
theorem e206_34 (l0 l1 l2 l3 l4 : Option Value) (L : VL) (st : List Value) (h : VG) (x : Int32) : ev 206 34 (l0 :: l1 :: l2 :: l3 :: l4 :: some (.int x) :: L) (st) h = ev 206 36 (l0 :: l1 :: l2 :: l3 :: l4 :: some (.int x) :: L) (.int x :: st) h := G_iload f206_34 rfl
theorem f206_36 : fetch 206 36 = some (.iadd, 1) := vtab tk206 20 rfl
theorem e206_36 (L : VL) (st : List Value) (h : VG) (x y : Int32) : ev 206 36 L (.int y :: .int x :: st) h = ev 206 37 L (.int (x + y) :: st) h := G_iadd f206_36
theorem f206_37 : fetch 206 37 = some (.lload_n 3, 1) := vtab tk206 21 rfl
theorem e206_37 (l0 l1 l2 : Option Value) (L : VL) (st : List Value) (h : VG) (x : Int64) : ev 206 37 (l0 :: l1 :: l2 :: some (.long x) :: L) (st) h = ev 206 38 (l0 :: l1 :: l2 :: some (.long x) :: L) (.long x :: st) h := G_lload_n f206_37 rfl
theorem f206_38 : fetch 206 38 = some (.bipush 8, 2) := vtab tk206 22 rfl
theorem e206_38 (L : VL) (st : List Value) (h : VG) : ev 206 38 L (st) h = ev 206 40 L (.int (8 : Int32) :: st) h := G_bipush f206_38 (by decide)
theorem f206_40 : fetch 206 40 = some (.iload 6, 2) := vtab tk206 23 rfl
theorem e206_40 (l0 l1 l2 l3 l4 l5 : Option Value) (L : VL) (st : List Value) (h : VG) (x : Int32) : ev 206 40 (l0 :: l1 :: l2 :: l3 :: l4 :: l5 :: some (.int x) :: L) (st) h = ev 206 42 (l0 :: l1 :: l2 :: l3 :: l4 :: l5 :: some (.int x) :: L) (.int x :: st) h := G_iload f206_40 rfl
theorem f206_42 : fetch 206 42 = some (.imul, 1) := vtab tk206 24 rfl
theorem e206_42 (L : VL) (st : List Value) (h : VG) (x y : Int32) : ev 206 42 L (.int y :: .int x :: st) h = ev 206 43 L (.int (x * y) :: st) h := G_imul f206_42
theorem f206_43 : fetch 206 43 = some (.lshr, 1) := vtab tk206 25 rfl
theorem e206_43 (L : VL) (st : List Value) (h : VG) (x : Int64) (y : Int32) : ev 206 43 L (.int y :: .long x :: st) h = ev 206 44 L (.long (x >>> (y.toInt64 &&& 63)) :: st) h := G_lshr f206_43
theorem f206_44 : fetch 206 44 = some (.ldc2_w 386, 3) := vtab tk206 26 rfl
theorem e206_44 (L : VL) (st : List Value) (h : VG) : ev 206 44 L (st) h = ev 206 47 L (.long 255 :: st) h := G_ldc2l (p := 1518) f206_44 lkK_12_386
theorem f206_47 : fetch 206 47 = some (.land, 1) := vtab tk206 27 rfl
theorem e206_47 (L : VL) (st : List Value) (h : VG) (x y : Int64) : ev 206 47 L (.long y :: .long x :: st) h = ev 206 48 L (.long (x &&& y) :: st) h := G_land f206_47
theorem f206_48 : fetch 206 48 = some (.l2i, 1) := vtab tk206 28 rfl
theorem e206_48 (L : VL) (st : List Value) (h : VG) (x : Int64) : ev 206 48 L (.long x :: st) h = ev 206 49 L (.int x.toInt32 :: st) h := G_l2i f206_48
theorem f206_49 : fetch 206 49 = some (.iastore, 1) := vtab tk206 29 rfl
theorem e206_49 (L : VL) (st : List Value) (h : VG) (a : Nat) (i : Int32) (x : Int32) (ha : arI h a 0) (hi : vp_in i (aln h a)) : ev 206 49 L (.int x :: .int i :: .ref a :: st) h = ev 206 50 L (st) (wI h a i.toNatClampNeg x) := G_iast f206_49 ha hi
theorem f206_50 : fetch 206 50 = some (.aload_n 0, 1) := vtab tk206 30 rfl
theorem e206_50 (L : VL) (st : List Value) (h : VG) (x : Nat) : ev 206 50 (some (.ref x) :: L) (st) h = ev 206 51 (some (.ref x) :: L) (.ref x :: st) h := G_aload_n f206_50 rfl
theorem f206_51 : fetch 206 51 = some (.getfield 104, 3) := vtab tk206 31 rfl
theorem e206_51 (L : VL) (st : List Value) (h : VG) (a : Nat) (ho : ob h a 11) (hr : isR h a 51) : ev 206 51 L (.ref a :: st) h = ev 206 54 L (.ref (gR h a 51) :: st) h := G_getR (p := 1064) f206_51 lkF_12_104 (by decide) (by decide) ho hr
theorem f206_54 : fetch 206 54 = some (.iload_n 1, 1) := vtab tk206 32 rfl
theorem e206_54 (l0 : Option Value) (L : VL) (st : List Value) (h : VG) (x : Int32) : ev 206 54 (l0 :: some (.int x) :: L) (st) h = ev 206 55 (l0 :: some (.int x) :: L) (.int x :: st) h := G_iload_n f206_54 rfl
theorem f206_55 : fetch 206 55 = some (.iload 5, 2) := vtab tk206 33 rfl
theorem e206_55 (l0 l1 l2 l3 l4 : Option Value) (L : VL) (st : List Value) (h : VG) (x : Int32) : ev 206 55 (l0 :: l1 :: l2 :: l3 :: l4 :: some (.int x) :: L) (st) h = ev 206 57 (l0 :: l1 :: l2 :: l3 :: l4 :: some (.int x) :: L) (.int x :: st) h := G_iload f206_55 rfl
theorem f206_57 : fetch 206 57 = some (.iadd, 1) := vtab tk206 34 rfl
theorem e206_57 (L : VL) (st : List Value) (h : VG) (x y : Int32) : ev 206 57 L (.int y :: .int x :: st) h = ev 206 58 L (.int (x + y) :: st) h := G_iadd f206_57
theorem f206_58 : fetch 206 58 = some (.iconst 1, 1) := vtab tk206 35 rfl
theorem e206_58 (L : VL) (st : List Value) (h : VG) : ev 206 58 L (st) h = ev 206 59 L (.int (1 : Int32) :: st) h := G_iconst f206_58 (by decide)
theorem f206_59 : fetch 206 59 = some (.bastore, 1) := vtab tk206 36 rfl
theorem e206_59 (L : VL) (st : List Value) (h : VG) (a : Nat) (i : Int32) (x : Int32) (ha : arI h a 2) (hi : vp_in i (aln h a)) : ev 206 59 L (.int x :: .int i :: .ref a :: st) h = ev 206 60 L (st) (wI h a i.toNatClampNeg (vp_nar .byte x)) := G_bast f206_59 ha hi
theorem e206_59z (L : VL) (st : List Value) (h : VG) (a : Nat) (i : Int32) (x : Int32) (ha : arI h a 3) (hi : vp_in i (aln h a)) : ev 206 59 L (.int x :: .int i :: .ref a :: st) h = ev 206 60 L (st) (wI h a i.toNatClampNeg (vp_nar .boolean x)) := G_zast f206_59 ha hi
theorem f206_60 : fetch 206 60 = some (.iinc 5 1, 3) := vtab tk206 37 rfl
theorem e206_60 (l0 l1 l2 l3 l4 : Option Value) (L : VL) (st : List Value) (h : VG) (x : Int32) : ev 206 60 (l0 :: l1 :: l2 :: l3 :: l4 :: some (.int x) :: L) (st) h = ev 206 63 (l0 :: l1 :: l2 :: l3 :: vkk l4 :: some (.int (x + (1 : Int32))) :: L) (st) h := G_iinc f206_60 rfl (by decide) (S1_5 l0 l1 l2 l3 l4 (some (.int x)) L _)
theorem f206_63 : fetch 206 63 = some (.goto (-60), 3) := vtab tk206 38 rfl
theorem e206_63 (L : VL) (st : List Value) (h : VG) : ev 206 63 L (st) h = ev 206 3 L (st) h := G_goto f206_63 (by decide)
theorem f206_66 : fetch 206 66 = some (.return_, 1) := vtab tk206 39 rfl
theorem e206_66 (L : VL) (h : VG) : ev 206 66 L [] h = some (none, h) := G_vret f206_66 (by decide)
/-! 207 GuestCallsModel.laysDown(II)V -/
def tb207 : List (Nat × Instr × Nat) := [(0, .iconst 0, 1), (1, .istore_n 3, 1), (2, .iload_n 3, 1), (3, .iload_n 2, 1), (4, .if_icmp .ge 32, 3), (7, .aload_n 0, 1), (8, .getfield 104, 3), (11, .iload_n 3, 1), (12, .baload, 1), (13, .ifCond .eq 17, 3), (16, .aload_n 0, 1), (17, .getfield 52, 3), (20, .iload_n 1, 1), (21, .iload_n 3, 1), (22, .iadd, 1), (23, .aload_n 0, 1), (24, .getfield 101, 3), (27, .iload_n 3, 1), (28, .iaload, 1), (29, .iastore, 1), (30, .iinc 3 1, 3), (33, .goto (-31), 3), (36, .return_, 1)]
theorem tk207 : tb207.all (fun q => decide (fetch 207 q.1 = some q.2)) = true := by decide +kernel
theorem f207_0 : fetch 207 0 = some (.iconst 0, 1) := vtab tk207 0 rfl
theorem e207_0 (L : VL) (st : List Value) (h : VG) : ev 207 0 L (st) h = ev 207 1 L (.int (0 : Int32) :: st) h := G_iconst f207_0 (by decide)
theorem f207_1 : fetch 207 1 = some (.istore_n 3, 1) := vtab tk207 1 rfl
theorem e207_1 (l0 l1 l2 l3 : Option Value) (L : VL) (st : List Value) (h : VG) (x : Int32) : ev 207 1 (l0 :: l1 :: l2 :: l3 :: L) (.int x :: st) h = ev 207 2 (l0 :: l1 :: vkk l2 :: some (.int x) :: L) (st) h := G_istore_n f207_1 rfl (S1_3 l0 l1 l2 l3 L _)
theorem f207_2 : fetch 207 2 = some (.iload_n 3, 1) := vtab tk207 2 rfl
theorem e207_2 (l0 l1 l2 : Option Value) (L : VL) (st : List Value) (h : VG) (x : Int32) : ev 207 2 (l0 :: l1 :: l2 :: some (.int x) :: L) (st) h = ev 207 3 (l0 :: l1 :: l2 :: some (.int x) :: L) (.int x :: st) h := G_iload_n f207_2 rfl
theorem f207_3 : fetch 207 3 = some (.iload_n 2, 1) := vtab tk207 3 rfl
theorem e207_3 (l0 l1 : Option Value) (L : VL) (st : List Value) (h : VG) (x : Int32) : ev 207 3 (l0 :: l1 :: some (.int x) :: L) (st) h = ev 207 4 (l0 :: l1 :: some (.int x) :: L) (.int x :: st) h := G_iload_n f207_3 rfl
theorem f207_4 : fetch 207 4 = some (.if_icmp .ge 32, 3) := vtab tk207 4 rfl
theorem e207_4 (L : VL) (st : List Value) (h : VG) (x y : Int32) : ev 207 4 L (.int y :: .int x :: st) h = if x < y then ev 207 7 L st h else ev 207 36 L st h := G_icmp_ge f207_4 (by decide)
theorem f207_7 : fetch 207 7 = some (.aload_n 0, 1) := vtab tk207 5 rfl
theorem e207_7 (L : VL) (st : List Value) (h : VG) (x : Nat) : ev 207 7 (some (.ref x) :: L) (st) h = ev 207 8 (some (.ref x) :: L) (.ref x :: st) h := G_aload_n f207_7 rfl
theorem f207_8 : fetch 207 8 = some (.getfield 104, 3) := vtab tk207 6 rfl
theorem e207_8 (L : VL) (st : List Value) (h : VG) (a : Nat) (ho : ob h a 11) (hr : isR h a 51) : ev 207 8 L (.ref a :: st) h = ev 207 11 L (.ref (gR h a 51) :: st) h := G_getR (p := 1064) f207_8 lkF_12_104 (by decide) (by decide) ho hr
theorem f207_11 : fetch 207 11 = some (.iload_n 3, 1) := vtab tk207 7 rfl
theorem e207_11 (l0 l1 l2 : Option Value) (L : VL) (st : List Value) (h : VG) (x : Int32) : ev 207 11 (l0 :: l1 :: l2 :: some (.int x) :: L) (st) h = ev 207 12 (l0 :: l1 :: l2 :: some (.int x) :: L) (.int x :: st) h := G_iload_n f207_11 rfl
theorem f207_12 : fetch 207 12 = some (.baload, 1) := vtab tk207 8 rfl
theorem e207_12 (L : VL) (st : List Value) (h : VG) (a : Nat) (i : Int32) (ha : rdB h a) (hi : vp_in i (aln h a)) : ev 207 12 L (.int i :: .ref a :: st) h = ev 207 13 L (.int (aI h a i.toNatClampNeg) :: st) h := G_bald' f207_12 ha hi
theorem f207_13 : fetch 207 13 = some (.ifCond .eq 17, 3) := vtab tk207 9 rfl
theorem e207_13 (L : VL) (st : List Value) (h : VG) (x : Int32) : ev 207 13 L (.int x :: st) h = if x = 0 then ev 207 30 L st h else ev 207 16 L st h := G_if_eq f207_13 (by decide)
theorem f207_16 : fetch 207 16 = some (.aload_n 0, 1) := vtab tk207 10 rfl
theorem e207_16 (L : VL) (st : List Value) (h : VG) (x : Nat) : ev 207 16 (some (.ref x) :: L) (st) h = ev 207 17 (some (.ref x) :: L) (.ref x :: st) h := G_aload_n f207_16 rfl
theorem f207_17 : fetch 207 17 = some (.getfield 52, 3) := vtab tk207 11 rfl
theorem e207_17 (L : VL) (st : List Value) (h : VG) (a : Nat) (ho : ob h a 11) (hr : isR h a 23) : ev 207 17 L (.ref a :: st) h = ev 207 20 L (.ref (gR h a 23) :: st) h := G_getR (p := 1036) f207_17 lkF_12_52 (by decide) (by decide) ho hr
theorem f207_20 : fetch 207 20 = some (.iload_n 1, 1) := vtab tk207 12 rfl
theorem e207_20 (l0 : Option Value) (L : VL) (st : List Value) (h : VG) (x : Int32) : ev 207 20 (l0 :: some (.int x) :: L) (st) h = ev 207 21 (l0 :: some (.int x) :: L) (.int x :: st) h := G_iload_n f207_20 rfl
theorem f207_21 : fetch 207 21 = some (.iload_n 3, 1) := vtab tk207 13 rfl
theorem e207_21 (l0 l1 l2 : Option Value) (L : VL) (st : List Value) (h : VG) (x : Int32) : ev 207 21 (l0 :: l1 :: l2 :: some (.int x) :: L) (st) h = ev 207 22 (l0 :: l1 :: l2 :: some (.int x) :: L) (.int x :: st) h := G_iload_n f207_21 rfl
theorem f207_22 : fetch 207 22 = some (.iadd, 1) := vtab tk207 14 rfl
theorem e207_22 (L : VL) (st : List Value) (h : VG) (x y : Int32) : ev 207 22 L (.int y :: .int x :: st) h = ev 207 23 L (.int (x + y) :: st) h := G_iadd f207_22
theorem f207_23 : fetch 207 23 = some (.aload_n 0, 1) := vtab tk207 15 rfl
theorem e207_23 (L : VL) (st : List Value) (h : VG) (x : Nat) : ev 207 23 (some (.ref x) :: L) (st) h = ev 207 24 (some (.ref x) :: L) (.ref x :: st) h := G_aload_n f207_23 rfl
theorem f207_24 : fetch 207 24 = some (.getfield 101, 3) := vtab tk207 16 rfl
theorem e207_24 (L : VL) (st : List Value) (h : VG) (a : Nat) (ho : ob h a 11) (hr : isR h a 50) : ev 207 24 L (.ref a :: st) h = ev 207 27 L (.ref (gR h a 50) :: st) h := G_getR (p := 1063) f207_24 lkF_12_101 (by decide) (by decide) ho hr
theorem f207_27 : fetch 207 27 = some (.iload_n 3, 1) := vtab tk207 17 rfl
theorem e207_27 (l0 l1 l2 : Option Value) (L : VL) (st : List Value) (h : VG) (x : Int32) : ev 207 27 (l0 :: l1 :: l2 :: some (.int x) :: L) (st) h = ev 207 28 (l0 :: l1 :: l2 :: some (.int x) :: L) (.int x :: st) h := G_iload_n f207_27 rfl
theorem f207_28 : fetch 207 28 = some (.iaload, 1) := vtab tk207 18 rfl
theorem e207_28 (L : VL) (st : List Value) (h : VG) (a : Nat) (i : Int32) (ha : rdI h a) (hi : vp_in i (aln h a)) : ev 207 28 L (.int i :: .ref a :: st) h = ev 207 29 L (.int (aI h a i.toNatClampNeg) :: st) h := G_iald' f207_28 ha hi
theorem f207_29 : fetch 207 29 = some (.iastore, 1) := vtab tk207 19 rfl
theorem e207_29 (L : VL) (st : List Value) (h : VG) (a : Nat) (i : Int32) (x : Int32) (ha : arI h a 0) (hi : vp_in i (aln h a)) : ev 207 29 L (.int x :: .int i :: .ref a :: st) h = ev 207 30 L (st) (wI h a i.toNatClampNeg x) := G_iast f207_29 ha hi
theorem f207_30 : fetch 207 30 = some (.iinc 3 1, 3) := vtab tk207 20 rfl
theorem e207_30 (l0 l1 l2 : Option Value) (L : VL) (st : List Value) (h : VG) (x : Int32) : ev 207 30 (l0 :: l1 :: l2 :: some (.int x) :: L) (st) h = ev 207 33 (l0 :: l1 :: vkk l2 :: some (.int (x + (1 : Int32))) :: L) (st) h := G_iinc f207_30 rfl (by decide) (S1_3 l0 l1 l2 (some (.int x)) L _)
theorem f207_33 : fetch 207 33 = some (.goto (-31), 3) := vtab tk207 21 rfl
theorem e207_33 (L : VL) (st : List Value) (h : VG) : ev 207 33 L (st) h = ev 207 2 L (st) h := G_goto f207_33 (by decide)
theorem f207_36 : fetch 207 36 = some (.return_, 1) := vtab tk207 22 rfl
theorem e207_36 (L : VL) (h : VG) : ev 207 36 L [] h = some (none, h) := G_vret f207_36 (by decide)
/-! 208 GuestCallsModel.times(DI)D -/
def tb208 : List (Nat × Instr × Nat) := [(0, .dload_n 0, 1), (1, .dstore_n 3, 1), (2, .iconst 0, 1), (3, .istore 5, 2), (5, .iload 5, 2), (7, .iload_n 2, 1), (8, .if_icmp .ge 15, 3), (11, .dload_n 3, 1), (12, .ldc2_w 388, 3), (15, .dmul, 1), (16, .dstore_n 3, 1), (17, .iinc 5 1, 3), (20, .goto (-15), 3), (23, .iconst 0, 1), (24, .istore 5, 2), (26, .iload 5, 2), (28, .iload_n 2, 1), (29, .if_icmp .le 15, 3), (32, .dload_n 3, 1), (33, .ldc2_w 388, 3), (36, .ddiv, 1), (37, .dstore_n 3, 1), (38, .iinc 5 (-1), 3), (41, .goto (-15), 3), (44, .dload_n 3, 1), (45, .dreturn, 1)]
theorem tk208 : tb208.all (fun q => decide (fetch 208 q.1 = some q.2)) = true := by decide +kernel
theorem f208_0 : fetch 208 0 = some (.dload_n 0, 1) := vtab tk208 0 rfl
theorem e208_0 (L : VL) (st : List Value) (h : VG) (x : UInt64) : ev 208 0 (some (.double x) :: L) (st) h = ev 208 1 (some (.double x) :: L) (.double x :: st) h := G_dload_n f208_0 rfl
theorem f208_1 : fetch 208 1 = some (.dstore_n 3, 1) := vtab tk208 1 rfl
theorem e208_1 (l0 l1 l2 l3 l4 : Option Value) (L : VL) (st : List Value) (h : VG) (x : UInt64) : ev 208 1 (l0 :: l1 :: l2 :: l3 :: l4 :: L) (.double x :: st) h = ev 208 2 (l0 :: l1 :: vkk l2 :: some (.double x) :: none :: L) (st) h := G_dstore_n f208_1 rfl (S2_3 l0 l1 l2 l3 l4 L _)
theorem f208_2 : fetch 208 2 = some (.iconst 0, 1) := vtab tk208 2 rfl
theorem e208_2 (L : VL) (st : List Value) (h : VG) : ev 208 2 L (st) h = ev 208 3 L (.int (0 : Int32) :: st) h := G_iconst f208_2 (by decide)
theorem f208_3 : fetch 208 3 = some (.istore 5, 2) := vtab tk208 3 rfl
theorem e208_3 (l0 l1 l2 l3 l4 l5 : Option Value) (L : VL) (st : List Value) (h : VG) (x : Int32) : ev 208 3 (l0 :: l1 :: l2 :: l3 :: l4 :: l5 :: L) (.int x :: st) h = ev 208 5 (l0 :: l1 :: l2 :: l3 :: vkk l4 :: some (.int x) :: L) (st) h := G_istore f208_3 rfl (S1_5 l0 l1 l2 l3 l4 l5 L _)
theorem f208_5 : fetch 208 5 = some (.iload 5, 2) := vtab tk208 4 rfl
theorem e208_5 (l0 l1 l2 l3 l4 : Option Value) (L : VL) (st : List Value) (h : VG) (x : Int32) : ev 208 5 (l0 :: l1 :: l2 :: l3 :: l4 :: some (.int x) :: L) (st) h = ev 208 7 (l0 :: l1 :: l2 :: l3 :: l4 :: some (.int x) :: L) (.int x :: st) h := G_iload f208_5 rfl
theorem f208_7 : fetch 208 7 = some (.iload_n 2, 1) := vtab tk208 5 rfl
theorem e208_7 (l0 l1 : Option Value) (L : VL) (st : List Value) (h : VG) (x : Int32) : ev 208 7 (l0 :: l1 :: some (.int x) :: L) (st) h = ev 208 8 (l0 :: l1 :: some (.int x) :: L) (.int x :: st) h := G_iload_n f208_7 rfl
theorem f208_8 : fetch 208 8 = some (.if_icmp .ge 15, 3) := vtab tk208 6 rfl
theorem e208_8 (L : VL) (st : List Value) (h : VG) (x y : Int32) : ev 208 8 L (.int y :: .int x :: st) h = if x < y then ev 208 11 L st h else ev 208 23 L st h := G_icmp_ge f208_8 (by decide)
theorem f208_11 : fetch 208 11 = some (.dload_n 3, 1) := vtab tk208 7 rfl
theorem e208_11 (l0 l1 l2 : Option Value) (L : VL) (st : List Value) (h : VG) (x : UInt64) : ev 208 11 (l0 :: l1 :: l2 :: some (.double x) :: L) (st) h = ev 208 12 (l0 :: l1 :: l2 :: some (.double x) :: L) (.double x :: st) h := G_dload_n f208_11 rfl
theorem f208_12 : fetch 208 12 = some (.ldc2_w 388, 3) := vtab tk208 8 rfl
theorem e208_12 (L : VL) (st : List Value) (h : VG) : ev 208 12 L (st) h = ev 208 15 L (.double 4611686018427387904 :: st) h := G_ldc2d (p := 1488) f208_12 lkK_12_388
theorem f208_15 : fetch 208 15 = some (.dmul, 1) := vtab tk208 9 rfl
theorem e208_15 (L : VL) (st : List Value) (h : VG) (x y : UInt64) (hn : vf_n64 (FP.dmul x y)) : ev 208 15 L (.double y :: .double x :: st) h = ev 208 16 L (.double (FP.dmul x y) :: st) h := G_dmul f208_15 hn
theorem f208_16 : fetch 208 16 = some (.dstore_n 3, 1) := vtab tk208 10 rfl
theorem e208_16 (l0 l1 l2 l3 l4 : Option Value) (L : VL) (st : List Value) (h : VG) (x : UInt64) : ev 208 16 (l0 :: l1 :: l2 :: l3 :: l4 :: L) (.double x :: st) h = ev 208 17 (l0 :: l1 :: vkk l2 :: some (.double x) :: none :: L) (st) h := G_dstore_n f208_16 rfl (S2_3 l0 l1 l2 l3 l4 L _)
theorem f208_17 : fetch 208 17 = some (.iinc 5 1, 3) := vtab tk208 11 rfl
theorem e208_17 (l0 l1 l2 l3 l4 : Option Value) (L : VL) (st : List Value) (h : VG) (x : Int32) : ev 208 17 (l0 :: l1 :: l2 :: l3 :: l4 :: some (.int x) :: L) (st) h = ev 208 20 (l0 :: l1 :: l2 :: l3 :: vkk l4 :: some (.int (x + (1 : Int32))) :: L) (st) h := G_iinc f208_17 rfl (by decide) (S1_5 l0 l1 l2 l3 l4 (some (.int x)) L _)
theorem f208_20 : fetch 208 20 = some (.goto (-15), 3) := vtab tk208 12 rfl
theorem e208_20 (L : VL) (st : List Value) (h : VG) : ev 208 20 L (st) h = ev 208 5 L (st) h := G_goto f208_20 (by decide)
theorem f208_23 : fetch 208 23 = some (.iconst 0, 1) := vtab tk208 13 rfl
theorem e208_23 (L : VL) (st : List Value) (h : VG) : ev 208 23 L (st) h = ev 208 24 L (.int (0 : Int32) :: st) h := G_iconst f208_23 (by decide)
theorem f208_24 : fetch 208 24 = some (.istore 5, 2) := vtab tk208 14 rfl
theorem e208_24 (l0 l1 l2 l3 l4 l5 : Option Value) (L : VL) (st : List Value) (h : VG) (x : Int32) : ev 208 24 (l0 :: l1 :: l2 :: l3 :: l4 :: l5 :: L) (.int x :: st) h = ev 208 26 (l0 :: l1 :: l2 :: l3 :: vkk l4 :: some (.int x) :: L) (st) h := G_istore f208_24 rfl (S1_5 l0 l1 l2 l3 l4 l5 L _)
theorem f208_26 : fetch 208 26 = some (.iload 5, 2) := vtab tk208 15 rfl
theorem e208_26 (l0 l1 l2 l3 l4 : Option Value) (L : VL) (st : List Value) (h : VG) (x : Int32) : ev 208 26 (l0 :: l1 :: l2 :: l3 :: l4 :: some (.int x) :: L) (st) h = ev 208 28 (l0 :: l1 :: l2 :: l3 :: l4 :: some (.int x) :: L) (.int x :: st) h := G_iload f208_26 rfl
theorem f208_28 : fetch 208 28 = some (.iload_n 2, 1) := vtab tk208 16 rfl
theorem e208_28 (l0 l1 : Option Value) (L : VL) (st : List Value) (h : VG) (x : Int32) : ev 208 28 (l0 :: l1 :: some (.int x) :: L) (st) h = ev 208 29 (l0 :: l1 :: some (.int x) :: L) (.int x :: st) h := G_iload_n f208_28 rfl
theorem f208_29 : fetch 208 29 = some (.if_icmp .le 15, 3) := vtab tk208 17 rfl
theorem e208_29 (L : VL) (st : List Value) (h : VG) (x y : Int32) : ev 208 29 L (.int y :: .int x :: st) h = if x ≤ y then ev 208 44 L st h else ev 208 32 L st h := G_icmp_le f208_29 (by decide)
theorem f208_32 : fetch 208 32 = some (.dload_n 3, 1) := vtab tk208 18 rfl
theorem e208_32 (l0 l1 l2 : Option Value) (L : VL) (st : List Value) (h : VG) (x : UInt64) : ev 208 32 (l0 :: l1 :: l2 :: some (.double x) :: L) (st) h = ev 208 33 (l0 :: l1 :: l2 :: some (.double x) :: L) (.double x :: st) h := G_dload_n f208_32 rfl
theorem f208_33 : fetch 208 33 = some (.ldc2_w 388, 3) := vtab tk208 19 rfl
theorem e208_33 (L : VL) (st : List Value) (h : VG) : ev 208 33 L (st) h = ev 208 36 L (.double 4611686018427387904 :: st) h := G_ldc2d (p := 1488) f208_33 lkK_12_388
theorem f208_36 : fetch 208 36 = some (.ddiv, 1) := vtab tk208 20 rfl
theorem e208_36 (L : VL) (st : List Value) (h : VG) (x y : UInt64) (hn : vf_n64 (FP.ddiv x y)) : ev 208 36 L (.double y :: .double x :: st) h = ev 208 37 L (.double (FP.ddiv x y) :: st) h := G_ddiv f208_36 hn
theorem f208_37 : fetch 208 37 = some (.dstore_n 3, 1) := vtab tk208 21 rfl
theorem e208_37 (l0 l1 l2 l3 l4 : Option Value) (L : VL) (st : List Value) (h : VG) (x : UInt64) : ev 208 37 (l0 :: l1 :: l2 :: l3 :: l4 :: L) (.double x :: st) h = ev 208 38 (l0 :: l1 :: vkk l2 :: some (.double x) :: none :: L) (st) h := G_dstore_n f208_37 rfl (S2_3 l0 l1 l2 l3 l4 L _)
theorem f208_38 : fetch 208 38 = some (.iinc 5 (-1), 3) := vtab tk208 22 rfl
theorem e208_38 (l0 l1 l2 l3 l4 : Option Value) (L : VL) (st : List Value) (h : VG) (x : Int32) : ev 208 38 (l0 :: l1 :: l2 :: l3 :: l4 :: some (.int x) :: L) (st) h = ev 208 41 (l0 :: l1 :: l2 :: l3 :: vkk l4 :: some (.int (x + (-1 : Int32))) :: L) (st) h := G_iinc f208_38 rfl (by decide) (S1_5 l0 l1 l2 l3 l4 (some (.int x)) L _)
theorem f208_41 : fetch 208 41 = some (.goto (-15), 3) := vtab tk208 23 rfl
theorem e208_41 (L : VL) (st : List Value) (h : VG) : ev 208 41 L (st) h = ev 208 26 L (st) h := G_goto f208_41 (by decide)
theorem f208_44 : fetch 208 44 = some (.dload_n 3, 1) := vtab tk208 24 rfl
theorem e208_44 (l0 l1 l2 : Option Value) (L : VL) (st : List Value) (h : VG) (x : UInt64) : ev 208 44 (l0 :: l1 :: l2 :: some (.double x) :: L) (st) h = ev 208 45 (l0 :: l1 :: l2 :: some (.double x) :: L) (.double x :: st) h := G_dload_n f208_44 rfl
theorem f208_45 : fetch 208 45 = some (.dreturn, 1) := vtab tk208 25 rfl
theorem e208_45 (L : VL) (h : VG) (x : UInt64) : ev 208 45 L [.double x] h = some (some (.double x), h) := G_dret f208_45 (by decide)
/-! 209 GuestCallsModel.madeOf(JII)V -/
def tb209 : List (Nat × Instr × Nat) := [(0, .lconst 1, 1), (1, .iload 4, 2), (3, .lshl, 1), (4, .lconst 1, 1), (5, .lsub, 1), (6, .lstore 5, 2), (8, .lload_n 1, 1), (9, .iload_n 3, 1), (10, .lshr, 1), (11, .lload 5, 2), (13, .land, 1), (14, .lstore 7, 2), (16, .lload_n 1, 1), (17, .lconst 1, 1), (18, .iload_n 3, 1), (19, .lshl, 1), (20, .lconst 1, 1), (21, .lsub, 1), (22, .land, 1), (23, .lstore 9, 2), (25, .aload_n 0, 1), (26, .lload 7, 2), (28, .lload 5, 2), (30, .lcmp, 1), (31, .ifCond .ne 14, 3), (34, .lload 9, 2), (36, .lconst 0, 1), (37, .lcmp, 1), (38, .ifCond .eq 7, 3), (41, .iconst 1, 1), (42, .goto 4, 3), (45, .iconst 0, 1), (46, .putfield 316, 3), (49, .lload 5, 2), (51, .ldc2_w 390, 3), (54, .ldiv, 1), (55, .l2i, 1), (56, .iload_n 3, 1), (57, .iadd, 1), (58, .istore 11, 2), (60, .lload 7, 2), (62, .lload 5, 2), (64, .lcmp, 1), (65, .ifCond .ne 13, 3), (68, .aload_n 0, 1), (69, .ldc2_w 392, 3), (72, .putfield 321, 3), (75, .goto 47, 3), (78, .lload 7, 2), (80, .lconst 0, 1), (81, .lcmp, 1), (82, .ifCond .ne 20, 3), (85, .aload_n 0, 1), (86, .lload 9, 2), (88, .l2d, 1), (89, .iconst 1, 1), (90, .iload 11, 2), (92, .isub, 1), (93, .invokestatic 394, 3), (96, .putfield 321, 3), (99, .goto 23, 3), (102, .aload_n 0, 1), (103, .lload 9, 2), (105, .lconst 1, 1), (106, .iload_n 3, 1), (107, .lshl, 1), (108, .ladd, 1), (109, .l2d, 1), (110, .lload 7, 2), (112, .l2i, 1), (113, .iload 11, 2), (115, .isub, 1), (116, .invokestatic 394, 3), (119, .putfield 321, 3), (122, .lload_n 1, 1), (123, .iload_n 3, 1), (124, .iload 4, 2), (126, .iadd, 1), (127, .lshr, 1), (128, .lconst 1, 1), (129, .land, 1), (130, .lconst 1, 1), (131, .lcmp, 1), (132, .ifCond .ne 12, 3), (135, .aload_n 0, 1), (136, .aload_n 0, 1), (137, .getfield 321, 3), (140, .dneg, 1), (141, .putfield 321, 3), (144, .return_, 1)]
theorem tk209 : tb209.all (fun q => decide (fetch 209 q.1 = some q.2)) = true := by decide +kernel
theorem f209_0 : fetch 209 0 = some (.lconst 1, 1) := vtab tk209 0 rfl
theorem e209_0 (L : VL) (st : List Value) (h : VG) : ev 209 0 L (st) h = ev 209 1 L (.long 1 :: st) h := G_lconst f209_0 (by decide)
theorem f209_1 : fetch 209 1 = some (.iload 4, 2) := vtab tk209 1 rfl
theorem e209_1 (l0 l1 l2 l3 : Option Value) (L : VL) (st : List Value) (h : VG) (x : Int32) : ev 209 1 (l0 :: l1 :: l2 :: l3 :: some (.int x) :: L) (st) h = ev 209 3 (l0 :: l1 :: l2 :: l3 :: some (.int x) :: L) (.int x :: st) h := G_iload f209_1 rfl
theorem f209_3 : fetch 209 3 = some (.lshl, 1) := vtab tk209 2 rfl
theorem e209_3 (L : VL) (st : List Value) (h : VG) (x : Int64) (y : Int32) : ev 209 3 L (.int y :: .long x :: st) h = ev 209 4 L (.long (x <<< (y.toInt64 &&& 63)) :: st) h := G_lshl f209_3
theorem f209_4 : fetch 209 4 = some (.lconst 1, 1) := vtab tk209 3 rfl
theorem e209_4 (L : VL) (st : List Value) (h : VG) : ev 209 4 L (st) h = ev 209 5 L (.long 1 :: st) h := G_lconst f209_4 (by decide)
theorem f209_5 : fetch 209 5 = some (.lsub, 1) := vtab tk209 4 rfl
theorem e209_5 (L : VL) (st : List Value) (h : VG) (x y : Int64) : ev 209 5 L (.long y :: .long x :: st) h = ev 209 6 L (.long (x - y) :: st) h := G_lsub f209_5
theorem f209_6 : fetch 209 6 = some (.lstore 5, 2) := vtab tk209 5 rfl
theorem e209_6 (l0 l1 l2 l3 l4 l5 l6 : Option Value) (L : VL) (st : List Value) (h : VG) (x : Int64) : ev 209 6 (l0 :: l1 :: l2 :: l3 :: l4 :: l5 :: l6 :: L) (.long x :: st) h = ev 209 8 (l0 :: l1 :: l2 :: l3 :: vkk l4 :: some (.long x) :: none :: L) (st) h := G_lstore f209_6 rfl (S2_5 l0 l1 l2 l3 l4 l5 l6 L _)
theorem f209_8 : fetch 209 8 = some (.lload_n 1, 1) := vtab tk209 6 rfl
theorem e209_8 (l0 : Option Value) (L : VL) (st : List Value) (h : VG) (x : Int64) : ev 209 8 (l0 :: some (.long x) :: L) (st) h = ev 209 9 (l0 :: some (.long x) :: L) (.long x :: st) h := G_lload_n f209_8 rfl
theorem f209_9 : fetch 209 9 = some (.iload_n 3, 1) := vtab tk209 7 rfl
theorem e209_9 (l0 l1 l2 : Option Value) (L : VL) (st : List Value) (h : VG) (x : Int32) : ev 209 9 (l0 :: l1 :: l2 :: some (.int x) :: L) (st) h = ev 209 10 (l0 :: l1 :: l2 :: some (.int x) :: L) (.int x :: st) h := G_iload_n f209_9 rfl
theorem f209_10 : fetch 209 10 = some (.lshr, 1) := vtab tk209 8 rfl
theorem e209_10 (L : VL) (st : List Value) (h : VG) (x : Int64) (y : Int32) : ev 209 10 L (.int y :: .long x :: st) h = ev 209 11 L (.long (x >>> (y.toInt64 &&& 63)) :: st) h := G_lshr f209_10
theorem f209_11 : fetch 209 11 = some (.lload 5, 2) := vtab tk209 9 rfl
theorem e209_11 (l0 l1 l2 l3 l4 : Option Value) (L : VL) (st : List Value) (h : VG) (x : Int64) : ev 209 11 (l0 :: l1 :: l2 :: l3 :: l4 :: some (.long x) :: L) (st) h = ev 209 13 (l0 :: l1 :: l2 :: l3 :: l4 :: some (.long x) :: L) (.long x :: st) h := G_lload f209_11 rfl
theorem f209_13 : fetch 209 13 = some (.land, 1) := vtab tk209 10 rfl
theorem e209_13 (L : VL) (st : List Value) (h : VG) (x y : Int64) : ev 209 13 L (.long y :: .long x :: st) h = ev 209 14 L (.long (x &&& y) :: st) h := G_land f209_13
theorem f209_14 : fetch 209 14 = some (.lstore 7, 2) := vtab tk209 11 rfl
theorem e209_14 (l0 l1 l2 l3 l4 l5 l6 l7 l8 : Option Value) (L : VL) (st : List Value) (h : VG) (x : Int64) : ev 209 14 (l0 :: l1 :: l2 :: l3 :: l4 :: l5 :: l6 :: l7 :: l8 :: L) (.long x :: st) h = ev 209 16 (l0 :: l1 :: l2 :: l3 :: l4 :: l5 :: vkk l6 :: some (.long x) :: none :: L) (st) h := G_lstore f209_14 rfl (S2_7 l0 l1 l2 l3 l4 l5 l6 l7 l8 L _)
theorem f209_16 : fetch 209 16 = some (.lload_n 1, 1) := vtab tk209 12 rfl
theorem e209_16 (l0 : Option Value) (L : VL) (st : List Value) (h : VG) (x : Int64) : ev 209 16 (l0 :: some (.long x) :: L) (st) h = ev 209 17 (l0 :: some (.long x) :: L) (.long x :: st) h := G_lload_n f209_16 rfl
theorem f209_17 : fetch 209 17 = some (.lconst 1, 1) := vtab tk209 13 rfl
theorem e209_17 (L : VL) (st : List Value) (h : VG) : ev 209 17 L (st) h = ev 209 18 L (.long 1 :: st) h := G_lconst f209_17 (by decide)
theorem f209_18 : fetch 209 18 = some (.iload_n 3, 1) := vtab tk209 14 rfl
theorem e209_18 (l0 l1 l2 : Option Value) (L : VL) (st : List Value) (h : VG) (x : Int32) : ev 209 18 (l0 :: l1 :: l2 :: some (.int x) :: L) (st) h = ev 209 19 (l0 :: l1 :: l2 :: some (.int x) :: L) (.int x :: st) h := G_iload_n f209_18 rfl
theorem f209_19 : fetch 209 19 = some (.lshl, 1) := vtab tk209 15 rfl
theorem e209_19 (L : VL) (st : List Value) (h : VG) (x : Int64) (y : Int32) : ev 209 19 L (.int y :: .long x :: st) h = ev 209 20 L (.long (x <<< (y.toInt64 &&& 63)) :: st) h := G_lshl f209_19
theorem f209_20 : fetch 209 20 = some (.lconst 1, 1) := vtab tk209 16 rfl
theorem e209_20 (L : VL) (st : List Value) (h : VG) : ev 209 20 L (st) h = ev 209 21 L (.long 1 :: st) h := G_lconst f209_20 (by decide)
theorem f209_21 : fetch 209 21 = some (.lsub, 1) := vtab tk209 17 rfl
theorem e209_21 (L : VL) (st : List Value) (h : VG) (x y : Int64) : ev 209 21 L (.long y :: .long x :: st) h = ev 209 22 L (.long (x - y) :: st) h := G_lsub f209_21
theorem f209_22 : fetch 209 22 = some (.land, 1) := vtab tk209 18 rfl
theorem e209_22 (L : VL) (st : List Value) (h : VG) (x y : Int64) : ev 209 22 L (.long y :: .long x :: st) h = ev 209 23 L (.long (x &&& y) :: st) h := G_land f209_22
theorem f209_23 : fetch 209 23 = some (.lstore 9, 2) := vtab tk209 19 rfl
theorem e209_23 (l0 l1 l2 l3 l4 l5 l6 l7 l8 l9 l10 : Option Value) (L : VL) (st : List Value) (h : VG) (x : Int64) : ev 209 23 (l0 :: l1 :: l2 :: l3 :: l4 :: l5 :: l6 :: l7 :: l8 :: l9 :: l10 :: L) (.long x :: st) h = ev 209 25 (l0 :: l1 :: l2 :: l3 :: l4 :: l5 :: l6 :: l7 :: vkk l8 :: some (.long x) :: none :: L) (st) h := G_lstore f209_23 rfl (S2_9 l0 l1 l2 l3 l4 l5 l6 l7 l8 l9 l10 L _)
theorem f209_25 : fetch 209 25 = some (.aload_n 0, 1) := vtab tk209 20 rfl
theorem e209_25 (L : VL) (st : List Value) (h : VG) (x : Nat) : ev 209 25 (some (.ref x) :: L) (st) h = ev 209 26 (some (.ref x) :: L) (.ref x :: st) h := G_aload_n f209_25 rfl
theorem f209_26 : fetch 209 26 = some (.lload 7, 2) := vtab tk209 21 rfl
theorem e209_26 (l0 l1 l2 l3 l4 l5 l6 : Option Value) (L : VL) (st : List Value) (h : VG) (x : Int64) : ev 209 26 (l0 :: l1 :: l2 :: l3 :: l4 :: l5 :: l6 :: some (.long x) :: L) (st) h = ev 209 28 (l0 :: l1 :: l2 :: l3 :: l4 :: l5 :: l6 :: some (.long x) :: L) (.long x :: st) h := G_lload f209_26 rfl
theorem f209_28 : fetch 209 28 = some (.lload 5, 2) := vtab tk209 22 rfl
theorem e209_28 (l0 l1 l2 l3 l4 : Option Value) (L : VL) (st : List Value) (h : VG) (x : Int64) : ev 209 28 (l0 :: l1 :: l2 :: l3 :: l4 :: some (.long x) :: L) (st) h = ev 209 30 (l0 :: l1 :: l2 :: l3 :: l4 :: some (.long x) :: L) (.long x :: st) h := G_lload f209_28 rfl
theorem f209_30 : fetch 209 30 = some (.lcmp, 1) := vtab tk209 23 rfl
theorem e209_30 (L : VL) (st : List Value) (h : VG) (x y : Int64) : ev 209 30 L (.long y :: .long x :: st) h = ev 209 31 L (.int (lg_cmp x y) :: st) h := G_lcmp f209_30
theorem f209_31 : fetch 209 31 = some (.ifCond .ne 14, 3) := vtab tk209 24 rfl
theorem e209_31 (L : VL) (st : List Value) (h : VG) (x : Int32) : ev 209 31 L (.int x :: st) h = if x = 0 then ev 209 34 L st h else ev 209 45 L st h := G_if_ne f209_31 (by decide)
theorem f209_34 : fetch 209 34 = some (.lload 9, 2) := vtab tk209 25 rfl
theorem e209_34 (l0 l1 l2 l3 l4 l5 l6 l7 l8 : Option Value) (L : VL) (st : List Value) (h : VG) (x : Int64) : ev 209 34 (l0 :: l1 :: l2 :: l3 :: l4 :: l5 :: l6 :: l7 :: l8 :: some (.long x) :: L) (st) h = ev 209 36 (l0 :: l1 :: l2 :: l3 :: l4 :: l5 :: l6 :: l7 :: l8 :: some (.long x) :: L) (.long x :: st) h := G_lload f209_34 rfl
theorem f209_36 : fetch 209 36 = some (.lconst 0, 1) := vtab tk209 26 rfl
theorem e209_36 (L : VL) (st : List Value) (h : VG) : ev 209 36 L (st) h = ev 209 37 L (.long 0 :: st) h := G_lconst f209_36 (by decide)
theorem f209_37 : fetch 209 37 = some (.lcmp, 1) := vtab tk209 27 rfl
theorem e209_37 (L : VL) (st : List Value) (h : VG) (x y : Int64) : ev 209 37 L (.long y :: .long x :: st) h = ev 209 38 L (.int (lg_cmp x y) :: st) h := G_lcmp f209_37
theorem f209_38 : fetch 209 38 = some (.ifCond .eq 7, 3) := vtab tk209 28 rfl
theorem e209_38 (L : VL) (st : List Value) (h : VG) (x : Int32) : ev 209 38 L (.int x :: st) h = if x = 0 then ev 209 45 L st h else ev 209 41 L st h := G_if_eq f209_38 (by decide)
theorem f209_41 : fetch 209 41 = some (.iconst 1, 1) := vtab tk209 29 rfl
theorem e209_41 (L : VL) (st : List Value) (h : VG) : ev 209 41 L (st) h = ev 209 42 L (.int (1 : Int32) :: st) h := G_iconst f209_41 (by decide)
theorem f209_42 : fetch 209 42 = some (.goto 4, 3) := vtab tk209 30 rfl
theorem e209_42 (L : VL) (st : List Value) (h : VG) : ev 209 42 L (st) h = ev 209 46 L (st) h := G_goto f209_42 (by decide)
theorem f209_45 : fetch 209 45 = some (.iconst 0, 1) := vtab tk209 31 rfl
theorem e209_45 (L : VL) (st : List Value) (h : VG) : ev 209 45 L (st) h = ev 209 46 L (.int (0 : Int32) :: st) h := G_iconst f209_45 (by decide)
theorem f209_46 : fetch 209 46 = some (.putfield 316, 3) := vtab tk209 32 rfl
theorem e209_46 (L : VL) (st : List Value) (h : VG) (a : Nat) (x : Int32) (ho : ob h a 11) (hz : x = 0 ∨ x = 1) : ev 209 46 L (.int x :: .ref a :: st) h = ev 209 49 L (st) (pI h a 41 x) := G_putI (ci := 11) (p := 1054) f209_46 lkF_12_316 (by decide) (by decide) (by decide +kernel) (vbool hz) ho
theorem f209_49 : fetch 209 49 = some (.lload 5, 2) := vtab tk209 33 rfl
theorem e209_49 (l0 l1 l2 l3 l4 : Option Value) (L : VL) (st : List Value) (h : VG) (x : Int64) : ev 209 49 (l0 :: l1 :: l2 :: l3 :: l4 :: some (.long x) :: L) (st) h = ev 209 51 (l0 :: l1 :: l2 :: l3 :: l4 :: some (.long x) :: L) (.long x :: st) h := G_lload f209_49 rfl
theorem f209_51 : fetch 209 51 = some (.ldc2_w 390, 3) := vtab tk209 34 rfl
theorem e209_51 (L : VL) (st : List Value) (h : VG) : ev 209 51 L (st) h = ev 209 54 L (.long 2 :: st) h := G_ldc2l (p := 1483) f209_51 lkK_12_390
theorem f209_54 : fetch 209 54 = some (.ldiv, 1) := vtab tk209 35 rfl
theorem e209_54 (L : VL) (st : List Value) (h : VG) (x y : Int64) (hy : ¬ y = 0) : ev 209 54 L (.long y :: .long x :: st) h = ev 209 55 L (.long (x / y) :: st) h := G_ldiv f209_54 hy
theorem f209_55 : fetch 209 55 = some (.l2i, 1) := vtab tk209 36 rfl
theorem e209_55 (L : VL) (st : List Value) (h : VG) (x : Int64) : ev 209 55 L (.long x :: st) h = ev 209 56 L (.int x.toInt32 :: st) h := G_l2i f209_55
theorem f209_56 : fetch 209 56 = some (.iload_n 3, 1) := vtab tk209 37 rfl
theorem e209_56 (l0 l1 l2 : Option Value) (L : VL) (st : List Value) (h : VG) (x : Int32) : ev 209 56 (l0 :: l1 :: l2 :: some (.int x) :: L) (st) h = ev 209 57 (l0 :: l1 :: l2 :: some (.int x) :: L) (.int x :: st) h := G_iload_n f209_56 rfl
theorem f209_57 : fetch 209 57 = some (.iadd, 1) := vtab tk209 38 rfl
theorem e209_57 (L : VL) (st : List Value) (h : VG) (x y : Int32) : ev 209 57 L (.int y :: .int x :: st) h = ev 209 58 L (.int (x + y) :: st) h := G_iadd f209_57
theorem f209_58 : fetch 209 58 = some (.istore 11, 2) := vtab tk209 39 rfl
theorem e209_58 (l0 l1 l2 l3 l4 l5 l6 l7 l8 l9 l10 l11 : Option Value) (L : VL) (st : List Value) (h : VG) (x : Int32) : ev 209 58 (l0 :: l1 :: l2 :: l3 :: l4 :: l5 :: l6 :: l7 :: l8 :: l9 :: l10 :: l11 :: L) (.int x :: st) h = ev 209 60 (l0 :: l1 :: l2 :: l3 :: l4 :: l5 :: l6 :: l7 :: l8 :: l9 :: vkk l10 :: some (.int x) :: L) (st) h := G_istore f209_58 rfl (S1_11 l0 l1 l2 l3 l4 l5 l6 l7 l8 l9 l10 l11 L _)
theorem f209_60 : fetch 209 60 = some (.lload 7, 2) := vtab tk209 40 rfl
theorem e209_60 (l0 l1 l2 l3 l4 l5 l6 : Option Value) (L : VL) (st : List Value) (h : VG) (x : Int64) : ev 209 60 (l0 :: l1 :: l2 :: l3 :: l4 :: l5 :: l6 :: some (.long x) :: L) (st) h = ev 209 62 (l0 :: l1 :: l2 :: l3 :: l4 :: l5 :: l6 :: some (.long x) :: L) (.long x :: st) h := G_lload f209_60 rfl
theorem f209_62 : fetch 209 62 = some (.lload 5, 2) := vtab tk209 41 rfl
theorem e209_62 (l0 l1 l2 l3 l4 : Option Value) (L : VL) (st : List Value) (h : VG) (x : Int64) : ev 209 62 (l0 :: l1 :: l2 :: l3 :: l4 :: some (.long x) :: L) (st) h = ev 209 64 (l0 :: l1 :: l2 :: l3 :: l4 :: some (.long x) :: L) (.long x :: st) h := G_lload f209_62 rfl
theorem f209_64 : fetch 209 64 = some (.lcmp, 1) := vtab tk209 42 rfl
theorem e209_64 (L : VL) (st : List Value) (h : VG) (x y : Int64) : ev 209 64 L (.long y :: .long x :: st) h = ev 209 65 L (.int (lg_cmp x y) :: st) h := G_lcmp f209_64
theorem f209_65 : fetch 209 65 = some (.ifCond .ne 13, 3) := vtab tk209 43 rfl
theorem e209_65 (L : VL) (st : List Value) (h : VG) (x : Int32) : ev 209 65 L (.int x :: st) h = if x = 0 then ev 209 68 L st h else ev 209 78 L st h := G_if_ne f209_65 (by decide)
theorem f209_68 : fetch 209 68 = some (.aload_n 0, 1) := vtab tk209 44 rfl
theorem e209_68 (L : VL) (st : List Value) (h : VG) (x : Nat) : ev 209 68 (some (.ref x) :: L) (st) h = ev 209 69 (some (.ref x) :: L) (.ref x :: st) h := G_aload_n f209_68 rfl
theorem f209_69 : fetch 209 69 = some (.ldc2_w 392, 3) := vtab tk209 45 rfl
theorem e209_69 (L : VL) (st : List Value) (h : VG) : ev 209 69 L (st) h = ev 209 72 L (.double 9218868437227405312 :: st) h := G_ldc2d (p := 1484) f209_69 lkK_12_392
theorem f209_72 : fetch 209 72 = some (.putfield 321, 3) := vtab tk209 46 rfl
theorem e209_72 (L : VL) (st : List Value) (h : VG) (a : Nat) (x : UInt64) (ho : ob h a 11) : ev 209 72 L (.double x :: .ref a :: st) h = ev 209 75 L (st) (pD h a 40 x) := G_putD (p := 1053) f209_72 lkF_12_321 (by decide) (by decide) (by decide +kernel) ⟨rfl, rfl⟩ ho
theorem f209_75 : fetch 209 75 = some (.goto 47, 3) := vtab tk209 47 rfl
theorem e209_75 (L : VL) (st : List Value) (h : VG) : ev 209 75 L (st) h = ev 209 122 L (st) h := G_goto f209_75 (by decide)
theorem f209_78 : fetch 209 78 = some (.lload 7, 2) := vtab tk209 48 rfl
theorem e209_78 (l0 l1 l2 l3 l4 l5 l6 : Option Value) (L : VL) (st : List Value) (h : VG) (x : Int64) : ev 209 78 (l0 :: l1 :: l2 :: l3 :: l4 :: l5 :: l6 :: some (.long x) :: L) (st) h = ev 209 80 (l0 :: l1 :: l2 :: l3 :: l4 :: l5 :: l6 :: some (.long x) :: L) (.long x :: st) h := G_lload f209_78 rfl
theorem f209_80 : fetch 209 80 = some (.lconst 0, 1) := vtab tk209 49 rfl
theorem e209_80 (L : VL) (st : List Value) (h : VG) : ev 209 80 L (st) h = ev 209 81 L (.long 0 :: st) h := G_lconst f209_80 (by decide)
theorem f209_81 : fetch 209 81 = some (.lcmp, 1) := vtab tk209 50 rfl
theorem e209_81 (L : VL) (st : List Value) (h : VG) (x y : Int64) : ev 209 81 L (.long y :: .long x :: st) h = ev 209 82 L (.int (lg_cmp x y) :: st) h := G_lcmp f209_81
theorem f209_82 : fetch 209 82 = some (.ifCond .ne 20, 3) := vtab tk209 51 rfl
theorem e209_82 (L : VL) (st : List Value) (h : VG) (x : Int32) : ev 209 82 L (.int x :: st) h = if x = 0 then ev 209 85 L st h else ev 209 102 L st h := G_if_ne f209_82 (by decide)
theorem f209_85 : fetch 209 85 = some (.aload_n 0, 1) := vtab tk209 52 rfl
theorem e209_85 (L : VL) (st : List Value) (h : VG) (x : Nat) : ev 209 85 (some (.ref x) :: L) (st) h = ev 209 86 (some (.ref x) :: L) (.ref x :: st) h := G_aload_n f209_85 rfl
theorem f209_86 : fetch 209 86 = some (.lload 9, 2) := vtab tk209 53 rfl
theorem e209_86 (l0 l1 l2 l3 l4 l5 l6 l7 l8 : Option Value) (L : VL) (st : List Value) (h : VG) (x : Int64) : ev 209 86 (l0 :: l1 :: l2 :: l3 :: l4 :: l5 :: l6 :: l7 :: l8 :: some (.long x) :: L) (st) h = ev 209 88 (l0 :: l1 :: l2 :: l3 :: l4 :: l5 :: l6 :: l7 :: l8 :: some (.long x) :: L) (.long x :: st) h := G_lload f209_86 rfl
theorem f209_88 : fetch 209 88 = some (.l2d, 1) := vtab tk209 54 rfl
theorem e209_88 (L : VL) (st : List Value) (h : VG) (x : Int64) : ev 209 88 L (.long x :: st) h = ev 209 89 L (.double (FP.l2d x) :: st) h := G_l2d f209_88
theorem f209_89 : fetch 209 89 = some (.iconst 1, 1) := vtab tk209 55 rfl
theorem e209_89 (L : VL) (st : List Value) (h : VG) : ev 209 89 L (st) h = ev 209 90 L (.int (1 : Int32) :: st) h := G_iconst f209_89 (by decide)
theorem f209_90 : fetch 209 90 = some (.iload 11, 2) := vtab tk209 56 rfl
theorem e209_90 (l0 l1 l2 l3 l4 l5 l6 l7 l8 l9 l10 : Option Value) (L : VL) (st : List Value) (h : VG) (x : Int32) : ev 209 90 (l0 :: l1 :: l2 :: l3 :: l4 :: l5 :: l6 :: l7 :: l8 :: l9 :: l10 :: some (.int x) :: L) (st) h = ev 209 92 (l0 :: l1 :: l2 :: l3 :: l4 :: l5 :: l6 :: l7 :: l8 :: l9 :: l10 :: some (.int x) :: L) (.int x :: st) h := G_iload f209_90 rfl
theorem f209_92 : fetch 209 92 = some (.isub, 1) := vtab tk209 57 rfl
theorem e209_92 (L : VL) (st : List Value) (h : VG) (x y : Int32) : ev 209 92 L (.int y :: .int x :: st) h = ev 209 93 L (.int (x - y) :: st) h := G_isub f209_92
theorem f209_93 : fetch 209 93 = some (.invokestatic 394, 3) := vtab tk209 58 rfl
theorem e209_93 (L : VL) (st : List Value) (h : VG) (x0 : UInt64) (x1 : Int32) (hs : catS st ≤ 8) : ev 209 93 L (.int x1 :: .double x0 :: st) h = (ev 208 0 [some (.double x0), none, some (.int x1), none, none, none] [] h).bind fun q => ev 209 96 L (q.1.toList ++ st) q.2 := G_calls (k := 0) (p := 1485) (ars := [.double x0, .int x1]) f209_93 lkC_12_394 (by decide) (by decide +kernel) rfl (Nat.le_of_ble_eq_true rfl) hs rfl
theorem f209_96 : fetch 209 96 = some (.putfield 321, 3) := vtab tk209 59 rfl
theorem e209_96 (L : VL) (st : List Value) (h : VG) (a : Nat) (x : UInt64) (ho : ob h a 11) : ev 209 96 L (.double x :: .ref a :: st) h = ev 209 99 L (st) (pD h a 40 x) := G_putD (p := 1053) f209_96 lkF_12_321 (by decide) (by decide) (by decide +kernel) ⟨rfl, rfl⟩ ho
theorem f209_99 : fetch 209 99 = some (.goto 23, 3) := vtab tk209 60 rfl
theorem e209_99 (L : VL) (st : List Value) (h : VG) : ev 209 99 L (st) h = ev 209 122 L (st) h := G_goto f209_99 (by decide)
theorem f209_102 : fetch 209 102 = some (.aload_n 0, 1) := vtab tk209 61 rfl
theorem e209_102 (L : VL) (st : List Value) (h : VG) (x : Nat) : ev 209 102 (some (.ref x) :: L) (st) h = ev 209 103 (some (.ref x) :: L) (.ref x :: st) h := G_aload_n f209_102 rfl
theorem f209_103 : fetch 209 103 = some (.lload 9, 2) := vtab tk209 62 rfl
theorem e209_103 (l0 l1 l2 l3 l4 l5 l6 l7 l8 : Option Value) (L : VL) (st : List Value) (h : VG) (x : Int64) : ev 209 103 (l0 :: l1 :: l2 :: l3 :: l4 :: l5 :: l6 :: l7 :: l8 :: some (.long x) :: L) (st) h = ev 209 105 (l0 :: l1 :: l2 :: l3 :: l4 :: l5 :: l6 :: l7 :: l8 :: some (.long x) :: L) (.long x :: st) h := G_lload f209_103 rfl
theorem f209_105 : fetch 209 105 = some (.lconst 1, 1) := vtab tk209 63 rfl
theorem e209_105 (L : VL) (st : List Value) (h : VG) : ev 209 105 L (st) h = ev 209 106 L (.long 1 :: st) h := G_lconst f209_105 (by decide)
theorem f209_106 : fetch 209 106 = some (.iload_n 3, 1) := vtab tk209 64 rfl
theorem e209_106 (l0 l1 l2 : Option Value) (L : VL) (st : List Value) (h : VG) (x : Int32) : ev 209 106 (l0 :: l1 :: l2 :: some (.int x) :: L) (st) h = ev 209 107 (l0 :: l1 :: l2 :: some (.int x) :: L) (.int x :: st) h := G_iload_n f209_106 rfl
theorem f209_107 : fetch 209 107 = some (.lshl, 1) := vtab tk209 65 rfl
theorem e209_107 (L : VL) (st : List Value) (h : VG) (x : Int64) (y : Int32) : ev 209 107 L (.int y :: .long x :: st) h = ev 209 108 L (.long (x <<< (y.toInt64 &&& 63)) :: st) h := G_lshl f209_107
theorem f209_108 : fetch 209 108 = some (.ladd, 1) := vtab tk209 66 rfl
theorem e209_108 (L : VL) (st : List Value) (h : VG) (x y : Int64) : ev 209 108 L (.long y :: .long x :: st) h = ev 209 109 L (.long (x + y) :: st) h := G_ladd f209_108
theorem f209_109 : fetch 209 109 = some (.l2d, 1) := vtab tk209 67 rfl
theorem e209_109 (L : VL) (st : List Value) (h : VG) (x : Int64) : ev 209 109 L (.long x :: st) h = ev 209 110 L (.double (FP.l2d x) :: st) h := G_l2d f209_109
theorem f209_110 : fetch 209 110 = some (.lload 7, 2) := vtab tk209 68 rfl
theorem e209_110 (l0 l1 l2 l3 l4 l5 l6 : Option Value) (L : VL) (st : List Value) (h : VG) (x : Int64) : ev 209 110 (l0 :: l1 :: l2 :: l3 :: l4 :: l5 :: l6 :: some (.long x) :: L) (st) h = ev 209 112 (l0 :: l1 :: l2 :: l3 :: l4 :: l5 :: l6 :: some (.long x) :: L) (.long x :: st) h := G_lload f209_110 rfl
theorem f209_112 : fetch 209 112 = some (.l2i, 1) := vtab tk209 69 rfl
theorem e209_112 (L : VL) (st : List Value) (h : VG) (x : Int64) : ev 209 112 L (.long x :: st) h = ev 209 113 L (.int x.toInt32 :: st) h := G_l2i f209_112
theorem f209_113 : fetch 209 113 = some (.iload 11, 2) := vtab tk209 70 rfl
theorem e209_113 (l0 l1 l2 l3 l4 l5 l6 l7 l8 l9 l10 : Option Value) (L : VL) (st : List Value) (h : VG) (x : Int32) : ev 209 113 (l0 :: l1 :: l2 :: l3 :: l4 :: l5 :: l6 :: l7 :: l8 :: l9 :: l10 :: some (.int x) :: L) (st) h = ev 209 115 (l0 :: l1 :: l2 :: l3 :: l4 :: l5 :: l6 :: l7 :: l8 :: l9 :: l10 :: some (.int x) :: L) (.int x :: st) h := G_iload f209_113 rfl
theorem f209_115 : fetch 209 115 = some (.isub, 1) := vtab tk209 71 rfl
theorem e209_115 (L : VL) (st : List Value) (h : VG) (x y : Int32) : ev 209 115 L (.int y :: .int x :: st) h = ev 209 116 L (.int (x - y) :: st) h := G_isub f209_115
theorem f209_116 : fetch 209 116 = some (.invokestatic 394, 3) := vtab tk209 72 rfl
theorem e209_116 (L : VL) (st : List Value) (h : VG) (x0 : UInt64) (x1 : Int32) (hs : catS st ≤ 8) : ev 209 116 L (.int x1 :: .double x0 :: st) h = (ev 208 0 [some (.double x0), none, some (.int x1), none, none, none] [] h).bind fun q => ev 209 119 L (q.1.toList ++ st) q.2 := G_calls (k := 0) (p := 1485) (ars := [.double x0, .int x1]) f209_116 lkC_12_394 (by decide) (by decide +kernel) rfl (Nat.le_of_ble_eq_true rfl) hs rfl
theorem f209_119 : fetch 209 119 = some (.putfield 321, 3) := vtab tk209 73 rfl
theorem e209_119 (L : VL) (st : List Value) (h : VG) (a : Nat) (x : UInt64) (ho : ob h a 11) : ev 209 119 L (.double x :: .ref a :: st) h = ev 209 122 L (st) (pD h a 40 x) := G_putD (p := 1053) f209_119 lkF_12_321 (by decide) (by decide) (by decide +kernel) ⟨rfl, rfl⟩ ho
theorem f209_122 : fetch 209 122 = some (.lload_n 1, 1) := vtab tk209 74 rfl
theorem e209_122 (l0 : Option Value) (L : VL) (st : List Value) (h : VG) (x : Int64) : ev 209 122 (l0 :: some (.long x) :: L) (st) h = ev 209 123 (l0 :: some (.long x) :: L) (.long x :: st) h := G_lload_n f209_122 rfl
theorem f209_123 : fetch 209 123 = some (.iload_n 3, 1) := vtab tk209 75 rfl
theorem e209_123 (l0 l1 l2 : Option Value) (L : VL) (st : List Value) (h : VG) (x : Int32) : ev 209 123 (l0 :: l1 :: l2 :: some (.int x) :: L) (st) h = ev 209 124 (l0 :: l1 :: l2 :: some (.int x) :: L) (.int x :: st) h := G_iload_n f209_123 rfl
theorem f209_124 : fetch 209 124 = some (.iload 4, 2) := vtab tk209 76 rfl
theorem e209_124 (l0 l1 l2 l3 : Option Value) (L : VL) (st : List Value) (h : VG) (x : Int32) : ev 209 124 (l0 :: l1 :: l2 :: l3 :: some (.int x) :: L) (st) h = ev 209 126 (l0 :: l1 :: l2 :: l3 :: some (.int x) :: L) (.int x :: st) h := G_iload f209_124 rfl
theorem f209_126 : fetch 209 126 = some (.iadd, 1) := vtab tk209 77 rfl
theorem e209_126 (L : VL) (st : List Value) (h : VG) (x y : Int32) : ev 209 126 L (.int y :: .int x :: st) h = ev 209 127 L (.int (x + y) :: st) h := G_iadd f209_126
theorem f209_127 : fetch 209 127 = some (.lshr, 1) := vtab tk209 78 rfl
theorem e209_127 (L : VL) (st : List Value) (h : VG) (x : Int64) (y : Int32) : ev 209 127 L (.int y :: .long x :: st) h = ev 209 128 L (.long (x >>> (y.toInt64 &&& 63)) :: st) h := G_lshr f209_127
theorem f209_128 : fetch 209 128 = some (.lconst 1, 1) := vtab tk209 79 rfl
theorem e209_128 (L : VL) (st : List Value) (h : VG) : ev 209 128 L (st) h = ev 209 129 L (.long 1 :: st) h := G_lconst f209_128 (by decide)
theorem f209_129 : fetch 209 129 = some (.land, 1) := vtab tk209 80 rfl
theorem e209_129 (L : VL) (st : List Value) (h : VG) (x y : Int64) : ev 209 129 L (.long y :: .long x :: st) h = ev 209 130 L (.long (x &&& y) :: st) h := G_land f209_129
theorem f209_130 : fetch 209 130 = some (.lconst 1, 1) := vtab tk209 81 rfl
theorem e209_130 (L : VL) (st : List Value) (h : VG) : ev 209 130 L (st) h = ev 209 131 L (.long 1 :: st) h := G_lconst f209_130 (by decide)
theorem f209_131 : fetch 209 131 = some (.lcmp, 1) := vtab tk209 82 rfl
theorem e209_131 (L : VL) (st : List Value) (h : VG) (x y : Int64) : ev 209 131 L (.long y :: .long x :: st) h = ev 209 132 L (.int (lg_cmp x y) :: st) h := G_lcmp f209_131
theorem f209_132 : fetch 209 132 = some (.ifCond .ne 12, 3) := vtab tk209 83 rfl
theorem e209_132 (L : VL) (st : List Value) (h : VG) (x : Int32) : ev 209 132 L (.int x :: st) h = if x = 0 then ev 209 135 L st h else ev 209 144 L st h := G_if_ne f209_132 (by decide)
theorem f209_135 : fetch 209 135 = some (.aload_n 0, 1) := vtab tk209 84 rfl
theorem e209_135 (L : VL) (st : List Value) (h : VG) (x : Nat) : ev 209 135 (some (.ref x) :: L) (st) h = ev 209 136 (some (.ref x) :: L) (.ref x :: st) h := G_aload_n f209_135 rfl
theorem f209_136 : fetch 209 136 = some (.aload_n 0, 1) := vtab tk209 85 rfl
theorem e209_136 (L : VL) (st : List Value) (h : VG) (x : Nat) : ev 209 136 (some (.ref x) :: L) (st) h = ev 209 137 (some (.ref x) :: L) (.ref x :: st) h := G_aload_n f209_136 rfl
theorem f209_137 : fetch 209 137 = some (.getfield 321, 3) := vtab tk209 86 rfl
theorem e209_137 (L : VL) (st : List Value) (h : VG) (a : Nat) (ho : ob h a 11) : ev 209 137 L (.ref a :: st) h = ev 209 140 L (.double (gD h a 40) :: st) h := G_getD (p := 1053) f209_137 lkF_12_321 (by decide) (by decide) ho
theorem f209_140 : fetch 209 140 = some (.dneg, 1) := vtab tk209 87 rfl
theorem e209_140 (L : VL) (st : List Value) (h : VG) (x : UInt64) : ev 209 140 L (.double x :: st) h = ev 209 141 L (.double (FP.dneg x) :: st) h := G_dneg f209_140
theorem f209_141 : fetch 209 141 = some (.putfield 321, 3) := vtab tk209 88 rfl
theorem e209_141 (L : VL) (st : List Value) (h : VG) (a : Nat) (x : UInt64) (ho : ob h a 11) : ev 209 141 L (.double x :: .ref a :: st) h = ev 209 144 L (st) (pD h a 40 x) := G_putD (p := 1053) f209_141 lkF_12_321 (by decide) (by decide) (by decide +kernel) ⟨rfl, rfl⟩ ho
theorem f209_144 : fetch 209 144 = some (.return_, 1) := vtab tk209 89 rfl
theorem e209_144 (L : VL) (h : VG) : ev 209 144 L [] h = some (none, h) := G_vret f209_144 (by decide)
/-! 210 GuestCallsModel.bitsOf(DII)J -/
def tb210 : List (Nat × Instr × Nat) := [(0, .lconst 1, 1), (1, .iload_n 3, 1), (2, .lshl, 1), (3, .lconst 1, 1), (4, .lsub, 1), (5, .lstore 4, 2), (7, .lload 4, 2), (9, .ldc2_w 390, 3), (12, .ldiv, 1), (13, .l2i, 1), (14, .iload_n 2, 1), (15, .iadd, 1), (16, .istore 6, 2), (18, .dload_n 0, 1), (19, .dconst 0, 1), (20, .dcmp .g, 1), (21, .ifCond .lt 17, 3), (24, .dload_n 0, 1), (25, .dconst 0, 1), (26, .dcmp .l, 1), (27, .ifCond .ne 15, 3), (30, .dconst 1, 1), (31, .dload_n 0, 1), (32, .ddiv, 1), (33, .dconst 0, 1), (34, .dcmp .g, 1), (35, .ifCond .ge 7, 3), (38, .iconst 1, 1), (39, .goto 4, 3), (42, .iconst 0, 1), (43, .istore 7, 2), (45, .iload 7, 2), (47, .ifCond .eq 8, 3), (50, .dload_n 0, 1), (51, .dneg, 1), (52, .goto 4, 3), (55, .dload_n 0, 1), (56, .dstore 8, 2), (58, .iload 7, 2), (60, .ifCond .eq 11, 3), (63, .lconst 1, 1), (64, .iload_n 2, 1), (65, .iload_n 3, 1), (66, .iadd, 1), (67, .lshl, 1), (68, .goto 4, 3), (71, .lconst 0, 1), (72, .lstore 10, 2), (74, .dload 8, 2), (76, .ldc2_w 392, 3), (79, .dcmp .l, 1), (80, .ifCond .ne 11, 3), (83, .lload 10, 2), (85, .lload 4, 2), (87, .iload_n 2, 1), (88, .lshl, 1), (89, .lor, 1), (90, .lreturn, 1), (91, .dload 8, 2), (93, .dconst 0, 1), (94, .dcmp .l, 1), (95, .ifCond .ne 6, 3), (98, .lload 10, 2), (100, .lreturn, 1), (101, .iload 6, 2), (103, .istore 12, 2), (105, .lconst 1, 1), (106, .iload_n 2, 1), (107, .lshl, 1), (108, .l2d, 1), (109, .dstore 13, 2), (111, .dload 8, 2), (113, .ldc2_w 388, 3), (116, .dload 13, 2), (118, .dmul, 1), (119, .dcmp .l, 1), (120, .ifCond .lt 17, 3), (123, .dload 8, 2), (125, .ldc2_w 388, 3), (128, .ddiv, 1), (129, .dstore 8, 2), (131, .iinc 12 1, 3), (134, .goto (-23), 3), (137, .dload 8, 2), (139, .dload 13, 2), (141, .dcmp .g, 1), (142, .ifCond .ge 23, 3), (145, .iload 12, 2), (147, .iconst 1, 1), (148, .if_icmp .le 17, 3), (151, .dload 8, 2), (153, .ldc2_w 388, 3), (156, .dmul, 1), (157, .dstore 8, 2), (159, .iinc 12 (-1), 3), (162, .goto (-25), 3), (165, .dload 8, 2), (167, .dload 13, 2), (169, .dcmp .g, 1), (170, .ifCond .ge 10, 3), (173, .lload 10, 2), (175, .dload 8, 2), (177, .d2l, 1), (178, .lor, 1), (179, .lreturn, 1), (180, .lload 10, 2), (182, .iload 12, 2), (184, .i2l, 1), (185, .iload_n 2, 1), (186, .lshl, 1), (187, .lor, 1), (188, .dload 8, 2), (190, .d2l, 1), (191, .lconst 1, 1), (192, .iload_n 2, 1), (193, .lshl, 1), (194, .lsub, 1), (195, .lor, 1), (196, .lreturn, 1)]
theorem tk210 : tb210.all (fun q => decide (fetch 210 q.1 = some q.2)) = true := by decide +kernel
theorem f210_0 : fetch 210 0 = some (.lconst 1, 1) := vtab tk210 0 rfl
theorem e210_0 (L : VL) (st : List Value) (h : VG) : ev 210 0 L (st) h = ev 210 1 L (.long 1 :: st) h := G_lconst f210_0 (by decide)
theorem f210_1 : fetch 210 1 = some (.iload_n 3, 1) := vtab tk210 1 rfl
theorem e210_1 (l0 l1 l2 : Option Value) (L : VL) (st : List Value) (h : VG) (x : Int32) : ev 210 1 (l0 :: l1 :: l2 :: some (.int x) :: L) (st) h = ev 210 2 (l0 :: l1 :: l2 :: some (.int x) :: L) (.int x :: st) h := G_iload_n f210_1 rfl
theorem f210_2 : fetch 210 2 = some (.lshl, 1) := vtab tk210 2 rfl
theorem e210_2 (L : VL) (st : List Value) (h : VG) (x : Int64) (y : Int32) : ev 210 2 L (.int y :: .long x :: st) h = ev 210 3 L (.long (x <<< (y.toInt64 &&& 63)) :: st) h := G_lshl f210_2
theorem f210_3 : fetch 210 3 = some (.lconst 1, 1) := vtab tk210 3 rfl
theorem e210_3 (L : VL) (st : List Value) (h : VG) : ev 210 3 L (st) h = ev 210 4 L (.long 1 :: st) h := G_lconst f210_3 (by decide)
theorem f210_4 : fetch 210 4 = some (.lsub, 1) := vtab tk210 4 rfl
theorem e210_4 (L : VL) (st : List Value) (h : VG) (x y : Int64) : ev 210 4 L (.long y :: .long x :: st) h = ev 210 5 L (.long (x - y) :: st) h := G_lsub f210_4
theorem f210_5 : fetch 210 5 = some (.lstore 4, 2) := vtab tk210 5 rfl
theorem e210_5 (l0 l1 l2 l3 l4 l5 : Option Value) (L : VL) (st : List Value) (h : VG) (x : Int64) : ev 210 5 (l0 :: l1 :: l2 :: l3 :: l4 :: l5 :: L) (.long x :: st) h = ev 210 7 (l0 :: l1 :: l2 :: vkk l3 :: some (.long x) :: none :: L) (st) h := G_lstore f210_5 rfl (S2_4 l0 l1 l2 l3 l4 l5 L _)
theorem f210_7 : fetch 210 7 = some (.lload 4, 2) := vtab tk210 6 rfl
theorem e210_7 (l0 l1 l2 l3 : Option Value) (L : VL) (st : List Value) (h : VG) (x : Int64) : ev 210 7 (l0 :: l1 :: l2 :: l3 :: some (.long x) :: L) (st) h = ev 210 9 (l0 :: l1 :: l2 :: l3 :: some (.long x) :: L) (.long x :: st) h := G_lload f210_7 rfl
theorem f210_9 : fetch 210 9 = some (.ldc2_w 390, 3) := vtab tk210 7 rfl
theorem e210_9 (L : VL) (st : List Value) (h : VG) : ev 210 9 L (st) h = ev 210 12 L (.long 2 :: st) h := G_ldc2l (p := 1483) f210_9 lkK_12_390
theorem f210_12 : fetch 210 12 = some (.ldiv, 1) := vtab tk210 8 rfl
theorem e210_12 (L : VL) (st : List Value) (h : VG) (x y : Int64) (hy : ¬ y = 0) : ev 210 12 L (.long y :: .long x :: st) h = ev 210 13 L (.long (x / y) :: st) h := G_ldiv f210_12 hy
theorem f210_13 : fetch 210 13 = some (.l2i, 1) := vtab tk210 9 rfl
theorem e210_13 (L : VL) (st : List Value) (h : VG) (x : Int64) : ev 210 13 L (.long x :: st) h = ev 210 14 L (.int x.toInt32 :: st) h := G_l2i f210_13
theorem f210_14 : fetch 210 14 = some (.iload_n 2, 1) := vtab tk210 10 rfl
theorem e210_14 (l0 l1 : Option Value) (L : VL) (st : List Value) (h : VG) (x : Int32) : ev 210 14 (l0 :: l1 :: some (.int x) :: L) (st) h = ev 210 15 (l0 :: l1 :: some (.int x) :: L) (.int x :: st) h := G_iload_n f210_14 rfl
theorem f210_15 : fetch 210 15 = some (.iadd, 1) := vtab tk210 11 rfl
theorem e210_15 (L : VL) (st : List Value) (h : VG) (x y : Int32) : ev 210 15 L (.int y :: .int x :: st) h = ev 210 16 L (.int (x + y) :: st) h := G_iadd f210_15
theorem f210_16 : fetch 210 16 = some (.istore 6, 2) := vtab tk210 12 rfl
theorem e210_16 (l0 l1 l2 l3 l4 l5 l6 : Option Value) (L : VL) (st : List Value) (h : VG) (x : Int32) : ev 210 16 (l0 :: l1 :: l2 :: l3 :: l4 :: l5 :: l6 :: L) (.int x :: st) h = ev 210 18 (l0 :: l1 :: l2 :: l3 :: l4 :: vkk l5 :: some (.int x) :: L) (st) h := G_istore f210_16 rfl (S1_6 l0 l1 l2 l3 l4 l5 l6 L _)
theorem f210_18 : fetch 210 18 = some (.dload_n 0, 1) := vtab tk210 13 rfl
theorem e210_18 (L : VL) (st : List Value) (h : VG) (x : UInt64) : ev 210 18 (some (.double x) :: L) (st) h = ev 210 19 (some (.double x) :: L) (.double x :: st) h := G_dload_n f210_18 rfl
theorem f210_19 : fetch 210 19 = some (.dconst 0, 1) := vtab tk210 14 rfl
theorem e210_19 (L : VL) (st : List Value) (h : VG) : ev 210 19 L (st) h = ev 210 20 L (.double FP.dconst0 :: st) h := G_dconst0 f210_19
theorem f210_20 : fetch 210 20 = some (.dcmp .g, 1) := vtab tk210 15 rfl
theorem e210_20 (L : VL) (st : List Value) (h : VG) (x y : UInt64) : ev 210 20 L (.double y :: .double x :: st) h = ev 210 21 L (.int (Op.cmpValue (FP.dcmp x y) .g) :: st) h := G_dcmp f210_20
theorem f210_21 : fetch 210 21 = some (.ifCond .lt 17, 3) := vtab tk210 16 rfl
theorem e210_21 (L : VL) (st : List Value) (h : VG) (x : Int32) : ev 210 21 L (.int x :: st) h = if x < 0 then ev 210 38 L st h else ev 210 24 L st h := G_if_lt f210_21 (by decide)
theorem f210_24 : fetch 210 24 = some (.dload_n 0, 1) := vtab tk210 17 rfl
theorem e210_24 (L : VL) (st : List Value) (h : VG) (x : UInt64) : ev 210 24 (some (.double x) :: L) (st) h = ev 210 25 (some (.double x) :: L) (.double x :: st) h := G_dload_n f210_24 rfl
theorem f210_25 : fetch 210 25 = some (.dconst 0, 1) := vtab tk210 18 rfl
theorem e210_25 (L : VL) (st : List Value) (h : VG) : ev 210 25 L (st) h = ev 210 26 L (.double FP.dconst0 :: st) h := G_dconst0 f210_25
theorem f210_26 : fetch 210 26 = some (.dcmp .l, 1) := vtab tk210 19 rfl
theorem e210_26 (L : VL) (st : List Value) (h : VG) (x y : UInt64) : ev 210 26 L (.double y :: .double x :: st) h = ev 210 27 L (.int (Op.cmpValue (FP.dcmp x y) .l) :: st) h := G_dcmp f210_26
theorem f210_27 : fetch 210 27 = some (.ifCond .ne 15, 3) := vtab tk210 20 rfl
theorem e210_27 (L : VL) (st : List Value) (h : VG) (x : Int32) : ev 210 27 L (.int x :: st) h = if x = 0 then ev 210 30 L st h else ev 210 42 L st h := G_if_ne f210_27 (by decide)
theorem f210_30 : fetch 210 30 = some (.dconst 1, 1) := vtab tk210 21 rfl
theorem e210_30 (L : VL) (st : List Value) (h : VG) : ev 210 30 L (st) h = ev 210 31 L (.double FP.dconst1 :: st) h := G_dconst1 f210_30
theorem f210_31 : fetch 210 31 = some (.dload_n 0, 1) := vtab tk210 22 rfl
theorem e210_31 (L : VL) (st : List Value) (h : VG) (x : UInt64) : ev 210 31 (some (.double x) :: L) (st) h = ev 210 32 (some (.double x) :: L) (.double x :: st) h := G_dload_n f210_31 rfl
theorem f210_32 : fetch 210 32 = some (.ddiv, 1) := vtab tk210 23 rfl
theorem e210_32 (L : VL) (st : List Value) (h : VG) (x y : UInt64) (hn : vf_n64 (FP.ddiv x y)) : ev 210 32 L (.double y :: .double x :: st) h = ev 210 33 L (.double (FP.ddiv x y) :: st) h := G_ddiv f210_32 hn
theorem f210_33 : fetch 210 33 = some (.dconst 0, 1) := vtab tk210 24 rfl
theorem e210_33 (L : VL) (st : List Value) (h : VG) : ev 210 33 L (st) h = ev 210 34 L (.double FP.dconst0 :: st) h := G_dconst0 f210_33
theorem f210_34 : fetch 210 34 = some (.dcmp .g, 1) := vtab tk210 25 rfl
theorem e210_34 (L : VL) (st : List Value) (h : VG) (x y : UInt64) : ev 210 34 L (.double y :: .double x :: st) h = ev 210 35 L (.int (Op.cmpValue (FP.dcmp x y) .g) :: st) h := G_dcmp f210_34
theorem f210_35 : fetch 210 35 = some (.ifCond .ge 7, 3) := vtab tk210 26 rfl
theorem e210_35 (L : VL) (st : List Value) (h : VG) (x : Int32) : ev 210 35 L (.int x :: st) h = if x < 0 then ev 210 38 L st h else ev 210 42 L st h := G_if_ge f210_35 (by decide)
theorem f210_38 : fetch 210 38 = some (.iconst 1, 1) := vtab tk210 27 rfl
theorem e210_38 (L : VL) (st : List Value) (h : VG) : ev 210 38 L (st) h = ev 210 39 L (.int (1 : Int32) :: st) h := G_iconst f210_38 (by decide)
theorem f210_39 : fetch 210 39 = some (.goto 4, 3) := vtab tk210 28 rfl
theorem e210_39 (L : VL) (st : List Value) (h : VG) : ev 210 39 L (st) h = ev 210 43 L (st) h := G_goto f210_39 (by decide)
theorem f210_42 : fetch 210 42 = some (.iconst 0, 1) := vtab tk210 29 rfl
theorem e210_42 (L : VL) (st : List Value) (h : VG) : ev 210 42 L (st) h = ev 210 43 L (.int (0 : Int32) :: st) h := G_iconst f210_42 (by decide)
theorem f210_43 : fetch 210 43 = some (.istore 7, 2) := vtab tk210 30 rfl
theorem e210_43 (l0 l1 l2 l3 l4 l5 l6 l7 : Option Value) (L : VL) (st : List Value) (h : VG) (x : Int32) : ev 210 43 (l0 :: l1 :: l2 :: l3 :: l4 :: l5 :: l6 :: l7 :: L) (.int x :: st) h = ev 210 45 (l0 :: l1 :: l2 :: l3 :: l4 :: l5 :: vkk l6 :: some (.int x) :: L) (st) h := G_istore f210_43 rfl (S1_7 l0 l1 l2 l3 l4 l5 l6 l7 L _)
theorem f210_45 : fetch 210 45 = some (.iload 7, 2) := vtab tk210 31 rfl
theorem e210_45 (l0 l1 l2 l3 l4 l5 l6 : Option Value) (L : VL) (st : List Value) (h : VG) (x : Int32) : ev 210 45 (l0 :: l1 :: l2 :: l3 :: l4 :: l5 :: l6 :: some (.int x) :: L) (st) h = ev 210 47 (l0 :: l1 :: l2 :: l3 :: l4 :: l5 :: l6 :: some (.int x) :: L) (.int x :: st) h := G_iload f210_45 rfl
theorem f210_47 : fetch 210 47 = some (.ifCond .eq 8, 3) := vtab tk210 32 rfl
theorem e210_47 (L : VL) (st : List Value) (h : VG) (x : Int32) : ev 210 47 L (.int x :: st) h = if x = 0 then ev 210 55 L st h else ev 210 50 L st h := G_if_eq f210_47 (by decide)
theorem f210_50 : fetch 210 50 = some (.dload_n 0, 1) := vtab tk210 33 rfl
theorem e210_50 (L : VL) (st : List Value) (h : VG) (x : UInt64) : ev 210 50 (some (.double x) :: L) (st) h = ev 210 51 (some (.double x) :: L) (.double x :: st) h := G_dload_n f210_50 rfl
theorem f210_51 : fetch 210 51 = some (.dneg, 1) := vtab tk210 34 rfl
theorem e210_51 (L : VL) (st : List Value) (h : VG) (x : UInt64) : ev 210 51 L (.double x :: st) h = ev 210 52 L (.double (FP.dneg x) :: st) h := G_dneg f210_51
theorem f210_52 : fetch 210 52 = some (.goto 4, 3) := vtab tk210 35 rfl
theorem e210_52 (L : VL) (st : List Value) (h : VG) : ev 210 52 L (st) h = ev 210 56 L (st) h := G_goto f210_52 (by decide)
theorem f210_55 : fetch 210 55 = some (.dload_n 0, 1) := vtab tk210 36 rfl
theorem e210_55 (L : VL) (st : List Value) (h : VG) (x : UInt64) : ev 210 55 (some (.double x) :: L) (st) h = ev 210 56 (some (.double x) :: L) (.double x :: st) h := G_dload_n f210_55 rfl
theorem f210_56 : fetch 210 56 = some (.dstore 8, 2) := vtab tk210 37 rfl
theorem e210_56 (l0 l1 l2 l3 l4 l5 l6 l7 l8 l9 : Option Value) (L : VL) (st : List Value) (h : VG) (x : UInt64) : ev 210 56 (l0 :: l1 :: l2 :: l3 :: l4 :: l5 :: l6 :: l7 :: l8 :: l9 :: L) (.double x :: st) h = ev 210 58 (l0 :: l1 :: l2 :: l3 :: l4 :: l5 :: l6 :: vkk l7 :: some (.double x) :: none :: L) (st) h := G_dstore f210_56 rfl (S2_8 l0 l1 l2 l3 l4 l5 l6 l7 l8 l9 L _)
theorem f210_58 : fetch 210 58 = some (.iload 7, 2) := vtab tk210 38 rfl
theorem e210_58 (l0 l1 l2 l3 l4 l5 l6 : Option Value) (L : VL) (st : List Value) (h : VG) (x : Int32) : ev 210 58 (l0 :: l1 :: l2 :: l3 :: l4 :: l5 :: l6 :: some (.int x) :: L) (st) h = ev 210 60 (l0 :: l1 :: l2 :: l3 :: l4 :: l5 :: l6 :: some (.int x) :: L) (.int x :: st) h := G_iload f210_58 rfl
theorem f210_60 : fetch 210 60 = some (.ifCond .eq 11, 3) := vtab tk210 39 rfl
theorem e210_60 (L : VL) (st : List Value) (h : VG) (x : Int32) : ev 210 60 L (.int x :: st) h = if x = 0 then ev 210 71 L st h else ev 210 63 L st h := G_if_eq f210_60 (by decide)
theorem f210_63 : fetch 210 63 = some (.lconst 1, 1) := vtab tk210 40 rfl
theorem e210_63 (L : VL) (st : List Value) (h : VG) : ev 210 63 L (st) h = ev 210 64 L (.long 1 :: st) h := G_lconst f210_63 (by decide)
theorem f210_64 : fetch 210 64 = some (.iload_n 2, 1) := vtab tk210 41 rfl
theorem e210_64 (l0 l1 : Option Value) (L : VL) (st : List Value) (h : VG) (x : Int32) : ev 210 64 (l0 :: l1 :: some (.int x) :: L) (st) h = ev 210 65 (l0 :: l1 :: some (.int x) :: L) (.int x :: st) h := G_iload_n f210_64 rfl
theorem f210_65 : fetch 210 65 = some (.iload_n 3, 1) := vtab tk210 42 rfl
theorem e210_65 (l0 l1 l2 : Option Value) (L : VL) (st : List Value) (h : VG) (x : Int32) : ev 210 65 (l0 :: l1 :: l2 :: some (.int x) :: L) (st) h = ev 210 66 (l0 :: l1 :: l2 :: some (.int x) :: L) (.int x :: st) h := G_iload_n f210_65 rfl
theorem f210_66 : fetch 210 66 = some (.iadd, 1) := vtab tk210 43 rfl
theorem e210_66 (L : VL) (st : List Value) (h : VG) (x y : Int32) : ev 210 66 L (.int y :: .int x :: st) h = ev 210 67 L (.int (x + y) :: st) h := G_iadd f210_66
theorem f210_67 : fetch 210 67 = some (.lshl, 1) := vtab tk210 44 rfl
theorem e210_67 (L : VL) (st : List Value) (h : VG) (x : Int64) (y : Int32) : ev 210 67 L (.int y :: .long x :: st) h = ev 210 68 L (.long (x <<< (y.toInt64 &&& 63)) :: st) h := G_lshl f210_67
theorem f210_68 : fetch 210 68 = some (.goto 4, 3) := vtab tk210 45 rfl
theorem e210_68 (L : VL) (st : List Value) (h : VG) : ev 210 68 L (st) h = ev 210 72 L (st) h := G_goto f210_68 (by decide)
theorem f210_71 : fetch 210 71 = some (.lconst 0, 1) := vtab tk210 46 rfl
theorem e210_71 (L : VL) (st : List Value) (h : VG) : ev 210 71 L (st) h = ev 210 72 L (.long 0 :: st) h := G_lconst f210_71 (by decide)
theorem f210_72 : fetch 210 72 = some (.lstore 10, 2) := vtab tk210 47 rfl
theorem e210_72 (l0 l1 l2 l3 l4 l5 l6 l7 l8 l9 l10 l11 : Option Value) (L : VL) (st : List Value) (h : VG) (x : Int64) : ev 210 72 (l0 :: l1 :: l2 :: l3 :: l4 :: l5 :: l6 :: l7 :: l8 :: l9 :: l10 :: l11 :: L) (.long x :: st) h = ev 210 74 (l0 :: l1 :: l2 :: l3 :: l4 :: l5 :: l6 :: l7 :: l8 :: vkk l9 :: some (.long x) :: none :: L) (st) h := G_lstore f210_72 rfl (S2_10 l0 l1 l2 l3 l4 l5 l6 l7 l8 l9 l10 l11 L _)
theorem f210_74 : fetch 210 74 = some (.dload 8, 2) := vtab tk210 48 rfl
theorem e210_74 (l0 l1 l2 l3 l4 l5 l6 l7 : Option Value) (L : VL) (st : List Value) (h : VG) (x : UInt64) : ev 210 74 (l0 :: l1 :: l2 :: l3 :: l4 :: l5 :: l6 :: l7 :: some (.double x) :: L) (st) h = ev 210 76 (l0 :: l1 :: l2 :: l3 :: l4 :: l5 :: l6 :: l7 :: some (.double x) :: L) (.double x :: st) h := G_dload f210_74 rfl
theorem f210_76 : fetch 210 76 = some (.ldc2_w 392, 3) := vtab tk210 49 rfl
theorem e210_76 (L : VL) (st : List Value) (h : VG) : ev 210 76 L (st) h = ev 210 79 L (.double 9218868437227405312 :: st) h := G_ldc2d (p := 1484) f210_76 lkK_12_392
theorem f210_79 : fetch 210 79 = some (.dcmp .l, 1) := vtab tk210 50 rfl
theorem e210_79 (L : VL) (st : List Value) (h : VG) (x y : UInt64) : ev 210 79 L (.double y :: .double x :: st) h = ev 210 80 L (.int (Op.cmpValue (FP.dcmp x y) .l) :: st) h := G_dcmp f210_79
theorem f210_80 : fetch 210 80 = some (.ifCond .ne 11, 3) := vtab tk210 51 rfl
theorem e210_80 (L : VL) (st : List Value) (h : VG) (x : Int32) : ev 210 80 L (.int x :: st) h = if x = 0 then ev 210 83 L st h else ev 210 91 L st h := G_if_ne f210_80 (by decide)
theorem f210_83 : fetch 210 83 = some (.lload 10, 2) := vtab tk210 52 rfl
theorem e210_83 (l0 l1 l2 l3 l4 l5 l6 l7 l8 l9 : Option Value) (L : VL) (st : List Value) (h : VG) (x : Int64) : ev 210 83 (l0 :: l1 :: l2 :: l3 :: l4 :: l5 :: l6 :: l7 :: l8 :: l9 :: some (.long x) :: L) (st) h = ev 210 85 (l0 :: l1 :: l2 :: l3 :: l4 :: l5 :: l6 :: l7 :: l8 :: l9 :: some (.long x) :: L) (.long x :: st) h := G_lload f210_83 rfl
theorem f210_85 : fetch 210 85 = some (.lload 4, 2) := vtab tk210 53 rfl
theorem e210_85 (l0 l1 l2 l3 : Option Value) (L : VL) (st : List Value) (h : VG) (x : Int64) : ev 210 85 (l0 :: l1 :: l2 :: l3 :: some (.long x) :: L) (st) h = ev 210 87 (l0 :: l1 :: l2 :: l3 :: some (.long x) :: L) (.long x :: st) h := G_lload f210_85 rfl
theorem f210_87 : fetch 210 87 = some (.iload_n 2, 1) := vtab tk210 54 rfl
theorem e210_87 (l0 l1 : Option Value) (L : VL) (st : List Value) (h : VG) (x : Int32) : ev 210 87 (l0 :: l1 :: some (.int x) :: L) (st) h = ev 210 88 (l0 :: l1 :: some (.int x) :: L) (.int x :: st) h := G_iload_n f210_87 rfl
theorem f210_88 : fetch 210 88 = some (.lshl, 1) := vtab tk210 55 rfl
theorem e210_88 (L : VL) (st : List Value) (h : VG) (x : Int64) (y : Int32) : ev 210 88 L (.int y :: .long x :: st) h = ev 210 89 L (.long (x <<< (y.toInt64 &&& 63)) :: st) h := G_lshl f210_88
theorem f210_89 : fetch 210 89 = some (.lor, 1) := vtab tk210 56 rfl
theorem e210_89 (L : VL) (st : List Value) (h : VG) (x y : Int64) : ev 210 89 L (.long y :: .long x :: st) h = ev 210 90 L (.long (x ||| y) :: st) h := G_lor f210_89
theorem f210_90 : fetch 210 90 = some (.lreturn, 1) := vtab tk210 57 rfl
theorem e210_90 (L : VL) (h : VG) (x : Int64) : ev 210 90 L [.long x] h = some (some (.long x), h) := G_lret f210_90 (by decide)
theorem f210_91 : fetch 210 91 = some (.dload 8, 2) := vtab tk210 58 rfl
theorem e210_91 (l0 l1 l2 l3 l4 l5 l6 l7 : Option Value) (L : VL) (st : List Value) (h : VG) (x : UInt64) : ev 210 91 (l0 :: l1 :: l2 :: l3 :: l4 :: l5 :: l6 :: l7 :: some (.double x) :: L) (st) h = ev 210 93 (l0 :: l1 :: l2 :: l3 :: l4 :: l5 :: l6 :: l7 :: some (.double x) :: L) (.double x :: st) h := G_dload f210_91 rfl
theorem f210_93 : fetch 210 93 = some (.dconst 0, 1) := vtab tk210 59 rfl
theorem e210_93 (L : VL) (st : List Value) (h : VG) : ev 210 93 L (st) h = ev 210 94 L (.double FP.dconst0 :: st) h := G_dconst0 f210_93
theorem f210_94 : fetch 210 94 = some (.dcmp .l, 1) := vtab tk210 60 rfl
theorem e210_94 (L : VL) (st : List Value) (h : VG) (x y : UInt64) : ev 210 94 L (.double y :: .double x :: st) h = ev 210 95 L (.int (Op.cmpValue (FP.dcmp x y) .l) :: st) h := G_dcmp f210_94
theorem f210_95 : fetch 210 95 = some (.ifCond .ne 6, 3) := vtab tk210 61 rfl
theorem e210_95 (L : VL) (st : List Value) (h : VG) (x : Int32) : ev 210 95 L (.int x :: st) h = if x = 0 then ev 210 98 L st h else ev 210 101 L st h := G_if_ne f210_95 (by decide)
theorem f210_98 : fetch 210 98 = some (.lload 10, 2) := vtab tk210 62 rfl
theorem e210_98 (l0 l1 l2 l3 l4 l5 l6 l7 l8 l9 : Option Value) (L : VL) (st : List Value) (h : VG) (x : Int64) : ev 210 98 (l0 :: l1 :: l2 :: l3 :: l4 :: l5 :: l6 :: l7 :: l8 :: l9 :: some (.long x) :: L) (st) h = ev 210 100 (l0 :: l1 :: l2 :: l3 :: l4 :: l5 :: l6 :: l7 :: l8 :: l9 :: some (.long x) :: L) (.long x :: st) h := G_lload f210_98 rfl
theorem f210_100 : fetch 210 100 = some (.lreturn, 1) := vtab tk210 63 rfl
theorem e210_100 (L : VL) (h : VG) (x : Int64) : ev 210 100 L [.long x] h = some (some (.long x), h) := G_lret f210_100 (by decide)
theorem f210_101 : fetch 210 101 = some (.iload 6, 2) := vtab tk210 64 rfl
theorem e210_101 (l0 l1 l2 l3 l4 l5 : Option Value) (L : VL) (st : List Value) (h : VG) (x : Int32) : ev 210 101 (l0 :: l1 :: l2 :: l3 :: l4 :: l5 :: some (.int x) :: L) (st) h = ev 210 103 (l0 :: l1 :: l2 :: l3 :: l4 :: l5 :: some (.int x) :: L) (.int x :: st) h := G_iload f210_101 rfl
theorem f210_103 : fetch 210 103 = some (.istore 12, 2) := vtab tk210 65 rfl
theorem e210_103 (l0 l1 l2 l3 l4 l5 l6 l7 l8 l9 l10 l11 l12 : Option Value) (L : VL) (st : List Value) (h : VG) (x : Int32) : ev 210 103 (l0 :: l1 :: l2 :: l3 :: l4 :: l5 :: l6 :: l7 :: l8 :: l9 :: l10 :: l11 :: l12 :: L) (.int x :: st) h = ev 210 105 (l0 :: l1 :: l2 :: l3 :: l4 :: l5 :: l6 :: l7 :: l8 :: l9 :: l10 :: vkk l11 :: some (.int x) :: L) (st) h := G_istore f210_103 rfl (S1_12 l0 l1 l2 l3 l4 l5 l6 l7 l8 l9 l10 l11 l12 L _)
theorem f210_105 : fetch 210 105 = some (.lconst 1, 1) := vtab tk210 66 rfl
theorem e210_105 (L : VL) (st : List Value) (h : VG) : ev 210 105 L (st) h = ev 210 106 L (.long 1 :: st) h := G_lconst f210_105 (by decide)
theorem f210_106 : fetch 210 106 = some (.iload_n 2, 1) := vtab tk210 67 rfl
theorem e210_106 (l0 l1 : Option Value) (L : VL) (st : List Value) (h : VG) (x : Int32) : ev 210 106 (l0 :: l1 :: some (.int x) :: L) (st) h = ev 210 107 (l0 :: l1 :: some (.int x) :: L) (.int x :: st) h := G_iload_n f210_106 rfl
theorem f210_107 : fetch 210 107 = some (.lshl, 1) := vtab tk210 68 rfl
theorem e210_107 (L : VL) (st : List Value) (h : VG) (x : Int64) (y : Int32) : ev 210 107 L (.int y :: .long x :: st) h = ev 210 108 L (.long (x <<< (y.toInt64 &&& 63)) :: st) h := G_lshl f210_107
theorem f210_108 : fetch 210 108 = some (.l2d, 1) := vtab tk210 69 rfl
theorem e210_108 (L : VL) (st : List Value) (h : VG) (x : Int64) : ev 210 108 L (.long x :: st) h = ev 210 109 L (.double (FP.l2d x) :: st) h := G_l2d f210_108
theorem f210_109 : fetch 210 109 = some (.dstore 13, 2) := vtab tk210 70 rfl
theorem e210_109 (l0 l1 l2 l3 l4 l5 l6 l7 l8 l9 l10 l11 l12 l13 l14 : Option Value) (L : VL) (st : List Value) (h : VG) (x : UInt64) : ev 210 109 (l0 :: l1 :: l2 :: l3 :: l4 :: l5 :: l6 :: l7 :: l8 :: l9 :: l10 :: l11 :: l12 :: l13 :: l14 :: L) (.double x :: st) h = ev 210 111 (l0 :: l1 :: l2 :: l3 :: l4 :: l5 :: l6 :: l7 :: l8 :: l9 :: l10 :: l11 :: vkk l12 :: some (.double x) :: none :: L) (st) h := G_dstore f210_109 rfl (S2_13 l0 l1 l2 l3 l4 l5 l6 l7 l8 l9 l10 l11 l12 l13 l14 L _)
theorem f210_111 : fetch 210 111 = some (.dload 8, 2) := vtab tk210 71 rfl
theorem e210_111 (l0 l1 l2 l3 l4 l5 l6 l7 : Option Value) (L : VL) (st : List Value) (h : VG) (x : UInt64) : ev 210 111 (l0 :: l1 :: l2 :: l3 :: l4 :: l5 :: l6 :: l7 :: some (.double x) :: L) (st) h = ev 210 113 (l0 :: l1 :: l2 :: l3 :: l4 :: l5 :: l6 :: l7 :: some (.double x) :: L) (.double x :: st) h := G_dload f210_111 rfl
theorem f210_113 : fetch 210 113 = some (.ldc2_w 388, 3) := vtab tk210 72 rfl
theorem e210_113 (L : VL) (st : List Value) (h : VG) : ev 210 113 L (st) h = ev 210 116 L (.double 4611686018427387904 :: st) h := G_ldc2d (p := 1488) f210_113 lkK_12_388
theorem f210_116 : fetch 210 116 = some (.dload 13, 2) := vtab tk210 73 rfl
theorem e210_116 (l0 l1 l2 l3 l4 l5 l6 l7 l8 l9 l10 l11 l12 : Option Value) (L : VL) (st : List Value) (h : VG) (x : UInt64) : ev 210 116 (l0 :: l1 :: l2 :: l3 :: l4 :: l5 :: l6 :: l7 :: l8 :: l9 :: l10 :: l11 :: l12 :: some (.double x) :: L) (st) h = ev 210 118 (l0 :: l1 :: l2 :: l3 :: l4 :: l5 :: l6 :: l7 :: l8 :: l9 :: l10 :: l11 :: l12 :: some (.double x) :: L) (.double x :: st) h := G_dload f210_116 rfl
theorem f210_118 : fetch 210 118 = some (.dmul, 1) := vtab tk210 74 rfl
theorem e210_118 (L : VL) (st : List Value) (h : VG) (x y : UInt64) (hn : vf_n64 (FP.dmul x y)) : ev 210 118 L (.double y :: .double x :: st) h = ev 210 119 L (.double (FP.dmul x y) :: st) h := G_dmul f210_118 hn
theorem f210_119 : fetch 210 119 = some (.dcmp .l, 1) := vtab tk210 75 rfl
theorem e210_119 (L : VL) (st : List Value) (h : VG) (x y : UInt64) : ev 210 119 L (.double y :: .double x :: st) h = ev 210 120 L (.int (Op.cmpValue (FP.dcmp x y) .l) :: st) h := G_dcmp f210_119
theorem f210_120 : fetch 210 120 = some (.ifCond .lt 17, 3) := vtab tk210 76 rfl
theorem e210_120 (L : VL) (st : List Value) (h : VG) (x : Int32) : ev 210 120 L (.int x :: st) h = if x < 0 then ev 210 137 L st h else ev 210 123 L st h := G_if_lt f210_120 (by decide)
theorem f210_123 : fetch 210 123 = some (.dload 8, 2) := vtab tk210 77 rfl
theorem e210_123 (l0 l1 l2 l3 l4 l5 l6 l7 : Option Value) (L : VL) (st : List Value) (h : VG) (x : UInt64) : ev 210 123 (l0 :: l1 :: l2 :: l3 :: l4 :: l5 :: l6 :: l7 :: some (.double x) :: L) (st) h = ev 210 125 (l0 :: l1 :: l2 :: l3 :: l4 :: l5 :: l6 :: l7 :: some (.double x) :: L) (.double x :: st) h := G_dload f210_123 rfl
theorem f210_125 : fetch 210 125 = some (.ldc2_w 388, 3) := vtab tk210 78 rfl
theorem e210_125 (L : VL) (st : List Value) (h : VG) : ev 210 125 L (st) h = ev 210 128 L (.double 4611686018427387904 :: st) h := G_ldc2d (p := 1488) f210_125 lkK_12_388
theorem f210_128 : fetch 210 128 = some (.ddiv, 1) := vtab tk210 79 rfl
theorem e210_128 (L : VL) (st : List Value) (h : VG) (x y : UInt64) (hn : vf_n64 (FP.ddiv x y)) : ev 210 128 L (.double y :: .double x :: st) h = ev 210 129 L (.double (FP.ddiv x y) :: st) h := G_ddiv f210_128 hn
theorem f210_129 : fetch 210 129 = some (.dstore 8, 2) := vtab tk210 80 rfl
theorem e210_129 (l0 l1 l2 l3 l4 l5 l6 l7 l8 l9 : Option Value) (L : VL) (st : List Value) (h : VG) (x : UInt64) : ev 210 129 (l0 :: l1 :: l2 :: l3 :: l4 :: l5 :: l6 :: l7 :: l8 :: l9 :: L) (.double x :: st) h = ev 210 131 (l0 :: l1 :: l2 :: l3 :: l4 :: l5 :: l6 :: vkk l7 :: some (.double x) :: none :: L) (st) h := G_dstore f210_129 rfl (S2_8 l0 l1 l2 l3 l4 l5 l6 l7 l8 l9 L _)
theorem f210_131 : fetch 210 131 = some (.iinc 12 1, 3) := vtab tk210 81 rfl
theorem e210_131 (l0 l1 l2 l3 l4 l5 l6 l7 l8 l9 l10 l11 : Option Value) (L : VL) (st : List Value) (h : VG) (x : Int32) : ev 210 131 (l0 :: l1 :: l2 :: l3 :: l4 :: l5 :: l6 :: l7 :: l8 :: l9 :: l10 :: l11 :: some (.int x) :: L) (st) h = ev 210 134 (l0 :: l1 :: l2 :: l3 :: l4 :: l5 :: l6 :: l7 :: l8 :: l9 :: l10 :: vkk l11 :: some (.int (x + (1 : Int32))) :: L) (st) h := G_iinc f210_131 rfl (by decide) (S1_12 l0 l1 l2 l3 l4 l5 l6 l7 l8 l9 l10 l11 (some (.int x)) L _)
theorem f210_134 : fetch 210 134 = some (.goto (-23), 3) := vtab tk210 82 rfl
theorem e210_134 (L : VL) (st : List Value) (h : VG) : ev 210 134 L (st) h = ev 210 111 L (st) h := G_goto f210_134 (by decide)
theorem f210_137 : fetch 210 137 = some (.dload 8, 2) := vtab tk210 83 rfl
theorem e210_137 (l0 l1 l2 l3 l4 l5 l6 l7 : Option Value) (L : VL) (st : List Value) (h : VG) (x : UInt64) : ev 210 137 (l0 :: l1 :: l2 :: l3 :: l4 :: l5 :: l6 :: l7 :: some (.double x) :: L) (st) h = ev 210 139 (l0 :: l1 :: l2 :: l3 :: l4 :: l5 :: l6 :: l7 :: some (.double x) :: L) (.double x :: st) h := G_dload f210_137 rfl
theorem f210_139 : fetch 210 139 = some (.dload 13, 2) := vtab tk210 84 rfl
theorem e210_139 (l0 l1 l2 l3 l4 l5 l6 l7 l8 l9 l10 l11 l12 : Option Value) (L : VL) (st : List Value) (h : VG) (x : UInt64) : ev 210 139 (l0 :: l1 :: l2 :: l3 :: l4 :: l5 :: l6 :: l7 :: l8 :: l9 :: l10 :: l11 :: l12 :: some (.double x) :: L) (st) h = ev 210 141 (l0 :: l1 :: l2 :: l3 :: l4 :: l5 :: l6 :: l7 :: l8 :: l9 :: l10 :: l11 :: l12 :: some (.double x) :: L) (.double x :: st) h := G_dload f210_139 rfl
theorem f210_141 : fetch 210 141 = some (.dcmp .g, 1) := vtab tk210 85 rfl
theorem e210_141 (L : VL) (st : List Value) (h : VG) (x y : UInt64) : ev 210 141 L (.double y :: .double x :: st) h = ev 210 142 L (.int (Op.cmpValue (FP.dcmp x y) .g) :: st) h := G_dcmp f210_141
theorem f210_142 : fetch 210 142 = some (.ifCond .ge 23, 3) := vtab tk210 86 rfl
theorem e210_142 (L : VL) (st : List Value) (h : VG) (x : Int32) : ev 210 142 L (.int x :: st) h = if x < 0 then ev 210 145 L st h else ev 210 165 L st h := G_if_ge f210_142 (by decide)
theorem f210_145 : fetch 210 145 = some (.iload 12, 2) := vtab tk210 87 rfl
theorem e210_145 (l0 l1 l2 l3 l4 l5 l6 l7 l8 l9 l10 l11 : Option Value) (L : VL) (st : List Value) (h : VG) (x : Int32) : ev 210 145 (l0 :: l1 :: l2 :: l3 :: l4 :: l5 :: l6 :: l7 :: l8 :: l9 :: l10 :: l11 :: some (.int x) :: L) (st) h = ev 210 147 (l0 :: l1 :: l2 :: l3 :: l4 :: l5 :: l6 :: l7 :: l8 :: l9 :: l10 :: l11 :: some (.int x) :: L) (.int x :: st) h := G_iload f210_145 rfl
theorem f210_147 : fetch 210 147 = some (.iconst 1, 1) := vtab tk210 88 rfl
theorem e210_147 (L : VL) (st : List Value) (h : VG) : ev 210 147 L (st) h = ev 210 148 L (.int (1 : Int32) :: st) h := G_iconst f210_147 (by decide)
theorem f210_148 : fetch 210 148 = some (.if_icmp .le 17, 3) := vtab tk210 89 rfl
theorem e210_148 (L : VL) (st : List Value) (h : VG) (x y : Int32) : ev 210 148 L (.int y :: .int x :: st) h = if x ≤ y then ev 210 165 L st h else ev 210 151 L st h := G_icmp_le f210_148 (by decide)
theorem f210_151 : fetch 210 151 = some (.dload 8, 2) := vtab tk210 90 rfl
theorem e210_151 (l0 l1 l2 l3 l4 l5 l6 l7 : Option Value) (L : VL) (st : List Value) (h : VG) (x : UInt64) : ev 210 151 (l0 :: l1 :: l2 :: l3 :: l4 :: l5 :: l6 :: l7 :: some (.double x) :: L) (st) h = ev 210 153 (l0 :: l1 :: l2 :: l3 :: l4 :: l5 :: l6 :: l7 :: some (.double x) :: L) (.double x :: st) h := G_dload f210_151 rfl
theorem f210_153 : fetch 210 153 = some (.ldc2_w 388, 3) := vtab tk210 91 rfl
theorem e210_153 (L : VL) (st : List Value) (h : VG) : ev 210 153 L (st) h = ev 210 156 L (.double 4611686018427387904 :: st) h := G_ldc2d (p := 1488) f210_153 lkK_12_388
theorem f210_156 : fetch 210 156 = some (.dmul, 1) := vtab tk210 92 rfl
theorem e210_156 (L : VL) (st : List Value) (h : VG) (x y : UInt64) (hn : vf_n64 (FP.dmul x y)) : ev 210 156 L (.double y :: .double x :: st) h = ev 210 157 L (.double (FP.dmul x y) :: st) h := G_dmul f210_156 hn
theorem f210_157 : fetch 210 157 = some (.dstore 8, 2) := vtab tk210 93 rfl
theorem e210_157 (l0 l1 l2 l3 l4 l5 l6 l7 l8 l9 : Option Value) (L : VL) (st : List Value) (h : VG) (x : UInt64) : ev 210 157 (l0 :: l1 :: l2 :: l3 :: l4 :: l5 :: l6 :: l7 :: l8 :: l9 :: L) (.double x :: st) h = ev 210 159 (l0 :: l1 :: l2 :: l3 :: l4 :: l5 :: l6 :: vkk l7 :: some (.double x) :: none :: L) (st) h := G_dstore f210_157 rfl (S2_8 l0 l1 l2 l3 l4 l5 l6 l7 l8 l9 L _)
theorem f210_159 : fetch 210 159 = some (.iinc 12 (-1), 3) := vtab tk210 94 rfl
theorem e210_159 (l0 l1 l2 l3 l4 l5 l6 l7 l8 l9 l10 l11 : Option Value) (L : VL) (st : List Value) (h : VG) (x : Int32) : ev 210 159 (l0 :: l1 :: l2 :: l3 :: l4 :: l5 :: l6 :: l7 :: l8 :: l9 :: l10 :: l11 :: some (.int x) :: L) (st) h = ev 210 162 (l0 :: l1 :: l2 :: l3 :: l4 :: l5 :: l6 :: l7 :: l8 :: l9 :: l10 :: vkk l11 :: some (.int (x + (-1 : Int32))) :: L) (st) h := G_iinc f210_159 rfl (by decide) (S1_12 l0 l1 l2 l3 l4 l5 l6 l7 l8 l9 l10 l11 (some (.int x)) L _)
theorem f210_162 : fetch 210 162 = some (.goto (-25), 3) := vtab tk210 95 rfl
theorem e210_162 (L : VL) (st : List Value) (h : VG) : ev 210 162 L (st) h = ev 210 137 L (st) h := G_goto f210_162 (by decide)
theorem f210_165 : fetch 210 165 = some (.dload 8, 2) := vtab tk210 96 rfl
theorem e210_165 (l0 l1 l2 l3 l4 l5 l6 l7 : Option Value) (L : VL) (st : List Value) (h : VG) (x : UInt64) : ev 210 165 (l0 :: l1 :: l2 :: l3 :: l4 :: l5 :: l6 :: l7 :: some (.double x) :: L) (st) h = ev 210 167 (l0 :: l1 :: l2 :: l3 :: l4 :: l5 :: l6 :: l7 :: some (.double x) :: L) (.double x :: st) h := G_dload f210_165 rfl
theorem f210_167 : fetch 210 167 = some (.dload 13, 2) := vtab tk210 97 rfl
theorem e210_167 (l0 l1 l2 l3 l4 l5 l6 l7 l8 l9 l10 l11 l12 : Option Value) (L : VL) (st : List Value) (h : VG) (x : UInt64) : ev 210 167 (l0 :: l1 :: l2 :: l3 :: l4 :: l5 :: l6 :: l7 :: l8 :: l9 :: l10 :: l11 :: l12 :: some (.double x) :: L) (st) h = ev 210 169 (l0 :: l1 :: l2 :: l3 :: l4 :: l5 :: l6 :: l7 :: l8 :: l9 :: l10 :: l11 :: l12 :: some (.double x) :: L) (.double x :: st) h := G_dload f210_167 rfl
theorem f210_169 : fetch 210 169 = some (.dcmp .g, 1) := vtab tk210 98 rfl
theorem e210_169 (L : VL) (st : List Value) (h : VG) (x y : UInt64) : ev 210 169 L (.double y :: .double x :: st) h = ev 210 170 L (.int (Op.cmpValue (FP.dcmp x y) .g) :: st) h := G_dcmp f210_169
theorem f210_170 : fetch 210 170 = some (.ifCond .ge 10, 3) := vtab tk210 99 rfl
theorem e210_170 (L : VL) (st : List Value) (h : VG) (x : Int32) : ev 210 170 L (.int x :: st) h = if x < 0 then ev 210 173 L st h else ev 210 180 L st h := G_if_ge f210_170 (by decide)
theorem f210_173 : fetch 210 173 = some (.lload 10, 2) := vtab tk210 100 rfl
theorem e210_173 (l0 l1 l2 l3 l4 l5 l6 l7 l8 l9 : Option Value) (L : VL) (st : List Value) (h : VG) (x : Int64) : ev 210 173 (l0 :: l1 :: l2 :: l3 :: l4 :: l5 :: l6 :: l7 :: l8 :: l9 :: some (.long x) :: L) (st) h = ev 210 175 (l0 :: l1 :: l2 :: l3 :: l4 :: l5 :: l6 :: l7 :: l8 :: l9 :: some (.long x) :: L) (.long x :: st) h := G_lload f210_173 rfl
theorem f210_175 : fetch 210 175 = some (.dload 8, 2) := vtab tk210 101 rfl
theorem e210_175 (l0 l1 l2 l3 l4 l5 l6 l7 : Option Value) (L : VL) (st : List Value) (h : VG) (x : UInt64) : ev 210 175 (l0 :: l1 :: l2 :: l3 :: l4 :: l5 :: l6 :: l7 :: some (.double x) :: L) (st) h = ev 210 177 (l0 :: l1 :: l2 :: l3 :: l4 :: l5 :: l6 :: l7 :: some (.double x) :: L) (.double x :: st) h := G_dload f210_175 rfl
theorem f210_177 : fetch 210 177 = some (.d2l, 1) := vtab tk210 102 rfl
theorem e210_177 (L : VL) (st : List Value) (h : VG) (x : UInt64) : ev 210 177 L (.double x :: st) h = ev 210 178 L (.long (FP.d2l x) :: st) h := G_d2l f210_177
theorem f210_178 : fetch 210 178 = some (.lor, 1) := vtab tk210 103 rfl
theorem e210_178 (L : VL) (st : List Value) (h : VG) (x y : Int64) : ev 210 178 L (.long y :: .long x :: st) h = ev 210 179 L (.long (x ||| y) :: st) h := G_lor f210_178
theorem f210_179 : fetch 210 179 = some (.lreturn, 1) := vtab tk210 104 rfl
theorem e210_179 (L : VL) (h : VG) (x : Int64) : ev 210 179 L [.long x] h = some (some (.long x), h) := G_lret f210_179 (by decide)
theorem f210_180 : fetch 210 180 = some (.lload 10, 2) := vtab tk210 105 rfl
theorem e210_180 (l0 l1 l2 l3 l4 l5 l6 l7 l8 l9 : Option Value) (L : VL) (st : List Value) (h : VG) (x : Int64) : ev 210 180 (l0 :: l1 :: l2 :: l3 :: l4 :: l5 :: l6 :: l7 :: l8 :: l9 :: some (.long x) :: L) (st) h = ev 210 182 (l0 :: l1 :: l2 :: l3 :: l4 :: l5 :: l6 :: l7 :: l8 :: l9 :: some (.long x) :: L) (.long x :: st) h := G_lload f210_180 rfl
theorem f210_182 : fetch 210 182 = some (.iload 12, 2) := vtab tk210 106 rfl
theorem e210_182 (l0 l1 l2 l3 l4 l5 l6 l7 l8 l9 l10 l11 : Option Value) (L : VL) (st : List Value) (h : VG) (x : Int32) : ev 210 182 (l0 :: l1 :: l2 :: l3 :: l4 :: l5 :: l6 :: l7 :: l8 :: l9 :: l10 :: l11 :: some (.int x) :: L) (st) h = ev 210 184 (l0 :: l1 :: l2 :: l3 :: l4 :: l5 :: l6 :: l7 :: l8 :: l9 :: l10 :: l11 :: some (.int x) :: L) (.int x :: st) h := G_iload f210_182 rfl
theorem f210_184 : fetch 210 184 = some (.i2l, 1) := vtab tk210 107 rfl
theorem e210_184 (L : VL) (st : List Value) (h : VG) (x : Int32) : ev 210 184 L (.int x :: st) h = ev 210 185 L (.long x.toInt64 :: st) h := G_i2l f210_184
theorem f210_185 : fetch 210 185 = some (.iload_n 2, 1) := vtab tk210 108 rfl
theorem e210_185 (l0 l1 : Option Value) (L : VL) (st : List Value) (h : VG) (x : Int32) : ev 210 185 (l0 :: l1 :: some (.int x) :: L) (st) h = ev 210 186 (l0 :: l1 :: some (.int x) :: L) (.int x :: st) h := G_iload_n f210_185 rfl
theorem f210_186 : fetch 210 186 = some (.lshl, 1) := vtab tk210 109 rfl
theorem e210_186 (L : VL) (st : List Value) (h : VG) (x : Int64) (y : Int32) : ev 210 186 L (.int y :: .long x :: st) h = ev 210 187 L (.long (x <<< (y.toInt64 &&& 63)) :: st) h := G_lshl f210_186
theorem f210_187 : fetch 210 187 = some (.lor, 1) := vtab tk210 110 rfl
theorem e210_187 (L : VL) (st : List Value) (h : VG) (x y : Int64) : ev 210 187 L (.long y :: .long x :: st) h = ev 210 188 L (.long (x ||| y) :: st) h := G_lor f210_187
theorem f210_188 : fetch 210 188 = some (.dload 8, 2) := vtab tk210 111 rfl
theorem e210_188 (l0 l1 l2 l3 l4 l5 l6 l7 : Option Value) (L : VL) (st : List Value) (h : VG) (x : UInt64) : ev 210 188 (l0 :: l1 :: l2 :: l3 :: l4 :: l5 :: l6 :: l7 :: some (.double x) :: L) (st) h = ev 210 190 (l0 :: l1 :: l2 :: l3 :: l4 :: l5 :: l6 :: l7 :: some (.double x) :: L) (.double x :: st) h := G_dload f210_188 rfl
theorem f210_190 : fetch 210 190 = some (.d2l, 1) := vtab tk210 112 rfl
theorem e210_190 (L : VL) (st : List Value) (h : VG) (x : UInt64) : ev 210 190 L (.double x :: st) h = ev 210 191 L (.long (FP.d2l x) :: st) h := G_d2l f210_190
theorem f210_191 : fetch 210 191 = some (.lconst 1, 1) := vtab tk210 113 rfl
theorem e210_191 (L : VL) (st : List Value) (h : VG) : ev 210 191 L (st) h = ev 210 192 L (.long 1 :: st) h := G_lconst f210_191 (by decide)
theorem f210_192 : fetch 210 192 = some (.iload_n 2, 1) := vtab tk210 114 rfl
theorem e210_192 (l0 l1 : Option Value) (L : VL) (st : List Value) (h : VG) (x : Int32) : ev 210 192 (l0 :: l1 :: some (.int x) :: L) (st) h = ev 210 193 (l0 :: l1 :: some (.int x) :: L) (.int x :: st) h := G_iload_n f210_192 rfl
theorem f210_193 : fetch 210 193 = some (.lshl, 1) := vtab tk210 115 rfl
theorem e210_193 (L : VL) (st : List Value) (h : VG) (x : Int64) (y : Int32) : ev 210 193 L (.int y :: .long x :: st) h = ev 210 194 L (.long (x <<< (y.toInt64 &&& 63)) :: st) h := G_lshl f210_193
theorem f210_194 : fetch 210 194 = some (.lsub, 1) := vtab tk210 116 rfl
theorem e210_194 (L : VL) (st : List Value) (h : VG) (x y : Int64) : ev 210 194 L (.long y :: .long x :: st) h = ev 210 195 L (.long (x - y) :: st) h := G_lsub f210_194
theorem f210_195 : fetch 210 195 = some (.lor, 1) := vtab tk210 117 rfl
theorem e210_195 (L : VL) (st : List Value) (h : VG) (x y : Int64) : ev 210 195 L (.long y :: .long x :: st) h = ev 210 196 L (.long (x ||| y) :: st) h := G_lor f210_195
theorem f210_196 : fetch 210 196 = some (.lreturn, 1) := vtab tk210 118 rfl
theorem e210_196 (L : VL) (h : VG) (x : Int64) : ev 210 196 L [.long x] h = some (some (.long x), h) := G_lret f210_196 (by decide)
/-! 211 GuestCallsModel.loads(II)V -/
def tb211 : List (Nat × Instr × Nat) := [(0, .aload_n 0, 1), (1, .iload_n 1, 1), (2, .aload_n 0, 1), (3, .getfield 67, 3), (6, .iload_n 2, 1), (7, .iaload, 1), (8, .invokevirtual 398, 3), (11, .lstore_n 3, 1), (12, .iload_n 2, 1), (13, .bipush 6, 2), (15, .if_icmp .ne 21, 3), (18, .aload_n 0, 1), (19, .lload_n 3, 1), (20, .bipush 23, 2), (22, .bipush 8, 2), (24, .invokevirtual 402, 3), (27, .aload_n 0, 1), (28, .bipush 6, 2), (30, .putfield 309, 3), (33, .goto 67, 3), (36, .iload_n 2, 1), (37, .bipush 7, 2), (39, .if_icmp .ne 21, 3), (42, .aload_n 0, 1), (43, .lload_n 3, 1), (44, .bipush 52, 2), (46, .bipush 11, 2), (48, .invokevirtual 402, 3), (51, .aload_n 0, 1), (52, .bipush 7, 2), (54, .putfield 309, 3), (57, .goto 43, 3), (60, .iload_n 2, 1), (61, .bipush 9, 2), (63, .if_icmp .ne 12, 3), (66, .aload_n 0, 1), (67, .iconst 5, 1), (68, .lload_n 3, 1), (69, .invokevirtual 361, 3), (72, .goto 28, 3), (75, .aload_n 0, 1), (76, .iload_n 2, 1), (77, .bipush 8, 2), (79, .if_icmp .ne 7, 3), (82, .iconst 5, 1), (83, .goto 4, 3), (86, .iload_n 2, 1), (87, .lload_n 3, 1), (88, .aload_n 0, 1), (89, .getfield 67, 3), (92, .iload_n 2, 1), (93, .iaload, 1), (94, .invokestatic 406, 3), (97, .invokevirtual 361, 3), (100, .return_, 1)]
theorem tk211 : tb211.all (fun q => decide (fetch 211 q.1 = some q.2)) = true := by decide +kernel
theorem f211_0 : fetch 211 0 = some (.aload_n 0, 1) := vtab tk211 0 rfl
theorem e211_0 (L : VL) (st : List Value) (h : VG) (x : Nat) : ev 211 0 (some (.ref x) :: L) (st) h = ev 211 1 (some (.ref x) :: L) (.ref x :: st) h := G_aload_n f211_0 rfl
theorem f211_1 : fetch 211 1 = some (.iload_n 1, 1) := vtab tk211 1 rfl
theorem e211_1 (l0 : Option Value) (L : VL) (st : List Value) (h : VG) (x : Int32) : ev 211 1 (l0 :: some (.int x) :: L) (st) h = ev 211 2 (l0 :: some (.int x) :: L) (.int x :: st) h := G_iload_n f211_1 rfl
theorem f211_2 : fetch 211 2 = some (.aload_n 0, 1) := vtab tk211 2 rfl
theorem e211_2 (L : VL) (st : List Value) (h : VG) (x : Nat) : ev 211 2 (some (.ref x) :: L) (st) h = ev 211 3 (some (.ref x) :: L) (.ref x :: st) h := G_aload_n f211_2 rfl
theorem f211_3 : fetch 211 3 = some (.getfield 67, 3) := vtab tk211 3 rfl
theorem e211_3 (L : VL) (st : List Value) (h : VG) (a : Nat) (ho : ob h a 11) (hr : isR h a 33) : ev 211 3 L (.ref a :: st) h = ev 211 6 L (.ref (gR h a 33) :: st) h := G_getR (p := 1046) f211_3 lkF_12_67 (by decide) (by decide) ho hr
theorem f211_6 : fetch 211 6 = some (.iload_n 2, 1) := vtab tk211 4 rfl
theorem e211_6 (l0 l1 : Option Value) (L : VL) (st : List Value) (h : VG) (x : Int32) : ev 211 6 (l0 :: l1 :: some (.int x) :: L) (st) h = ev 211 7 (l0 :: l1 :: some (.int x) :: L) (.int x :: st) h := G_iload_n f211_6 rfl
theorem f211_7 : fetch 211 7 = some (.iaload, 1) := vtab tk211 5 rfl
theorem e211_7 (L : VL) (st : List Value) (h : VG) (a : Nat) (i : Int32) (ha : rdI h a) (hi : vp_in i (aln h a)) : ev 211 7 L (.int i :: .ref a :: st) h = ev 211 8 L (.int (aI h a i.toNatClampNeg) :: st) h := G_iald' f211_7 ha hi
theorem f211_8 : fetch 211 8 = some (.invokevirtual 398, 3) := vtab tk211 6 rfl
theorem e211_8 (L : VL) (st : List Value) (h : VG) (b : Nat) (x0 : Int32) (x1 : Int32) (ho : ob h b 11) (hs : catS st ≤ 8) : ev 211 8 L (.int x1 :: .int x0 :: .ref b :: st) h = (ev 203 0 [some (.ref b), some (.int x0), some (.int x1), none, none, none] [] h).bind fun q => ev 211 11 L (q.1.toList ++ st) q.2 := G_callv (k := 1) (p := 1475) (ars := [.int x0, .int x1]) f211_8 lkC_12_398 (by decide) (by decide +kernel) rfl (vcls_ob (ci := 11) (by decide) ho) (Nat.le_of_ble_eq_true rfl) hs rfl
theorem f211_11 : fetch 211 11 = some (.lstore_n 3, 1) := vtab tk211 7 rfl
theorem e211_11 (l0 l1 l2 l3 l4 : Option Value) (L : VL) (st : List Value) (h : VG) (x : Int64) : ev 211 11 (l0 :: l1 :: l2 :: l3 :: l4 :: L) (.long x :: st) h = ev 211 12 (l0 :: l1 :: vkk l2 :: some (.long x) :: none :: L) (st) h := G_lstore_n f211_11 rfl (S2_3 l0 l1 l2 l3 l4 L _)
theorem f211_12 : fetch 211 12 = some (.iload_n 2, 1) := vtab tk211 8 rfl
theorem e211_12 (l0 l1 : Option Value) (L : VL) (st : List Value) (h : VG) (x : Int32) : ev 211 12 (l0 :: l1 :: some (.int x) :: L) (st) h = ev 211 13 (l0 :: l1 :: some (.int x) :: L) (.int x :: st) h := G_iload_n f211_12 rfl
theorem f211_13 : fetch 211 13 = some (.bipush 6, 2) := vtab tk211 9 rfl
theorem e211_13 (L : VL) (st : List Value) (h : VG) : ev 211 13 L (st) h = ev 211 15 L (.int (6 : Int32) :: st) h := G_bipush f211_13 (by decide)
theorem f211_15 : fetch 211 15 = some (.if_icmp .ne 21, 3) := vtab tk211 10 rfl
theorem e211_15 (L : VL) (st : List Value) (h : VG) (x y : Int32) : ev 211 15 L (.int y :: .int x :: st) h = if x = y then ev 211 18 L st h else ev 211 36 L st h := G_icmp_ne f211_15 (by decide)
theorem f211_18 : fetch 211 18 = some (.aload_n 0, 1) := vtab tk211 11 rfl
theorem e211_18 (L : VL) (st : List Value) (h : VG) (x : Nat) : ev 211 18 (some (.ref x) :: L) (st) h = ev 211 19 (some (.ref x) :: L) (.ref x :: st) h := G_aload_n f211_18 rfl
theorem f211_19 : fetch 211 19 = some (.lload_n 3, 1) := vtab tk211 12 rfl
theorem e211_19 (l0 l1 l2 : Option Value) (L : VL) (st : List Value) (h : VG) (x : Int64) : ev 211 19 (l0 :: l1 :: l2 :: some (.long x) :: L) (st) h = ev 211 20 (l0 :: l1 :: l2 :: some (.long x) :: L) (.long x :: st) h := G_lload_n f211_19 rfl
theorem f211_20 : fetch 211 20 = some (.bipush 23, 2) := vtab tk211 13 rfl
theorem e211_20 (L : VL) (st : List Value) (h : VG) : ev 211 20 L (st) h = ev 211 22 L (.int (23 : Int32) :: st) h := G_bipush f211_20 (by decide)
theorem f211_22 : fetch 211 22 = some (.bipush 8, 2) := vtab tk211 14 rfl
theorem e211_22 (L : VL) (st : List Value) (h : VG) : ev 211 22 L (st) h = ev 211 24 L (.int (8 : Int32) :: st) h := G_bipush f211_22 (by decide)
theorem f211_24 : fetch 211 24 = some (.invokevirtual 402, 3) := vtab tk211 15 rfl
theorem e211_24 (L : VL) (st : List Value) (h : VG) (b : Nat) (x0 : Int64) (x1 : Int32) (x2 : Int32) (ho : ob h b 11) (hs : catS st ≤ 8) : ev 211 24 L (.int x2 :: .int x1 :: .long x0 :: .ref b :: st) h = (ev 209 0 [some (.ref b), some (.long x0), none, some (.int x1), some (.int x2), none, none, none, none, none, none, none] [] h).bind fun q => ev 211 27 L (q.1.toList ++ st) q.2 := G_callv (k := 1) (p := 1479) (ars := [.long x0, .int x1, .int x2]) f211_24 lkC_12_402 (by decide) (by decide +kernel) rfl (vcls_ob (ci := 11) (by decide) ho) (Nat.le_of_ble_eq_true rfl) hs rfl
theorem f211_27 : fetch 211 27 = some (.aload_n 0, 1) := vtab tk211 16 rfl
theorem e211_27 (L : VL) (st : List Value) (h : VG) (x : Nat) : ev 211 27 (some (.ref x) :: L) (st) h = ev 211 28 (some (.ref x) :: L) (.ref x :: st) h := G_aload_n f211_27 rfl
theorem f211_28 : fetch 211 28 = some (.bipush 6, 2) := vtab tk211 17 rfl
theorem e211_28 (L : VL) (st : List Value) (h : VG) : ev 211 28 L (st) h = ev 211 30 L (.int (6 : Int32) :: st) h := G_bipush f211_28 (by decide)
theorem f211_30 : fetch 211 30 = some (.putfield 309, 3) := vtab tk211 18 rfl
theorem e211_30 (L : VL) (st : List Value) (h : VG) (a : Nat) (x : Int32) (ho : ob h a 11) : ev 211 30 L (.int x :: .ref a :: st) h = ev 211 33 L (st) (pI h a 38 x) := G_putI (p := 1051) f211_30 lkF_12_309 (by decide) (by decide) (by decide +kernel) ⟨rfl, rfl⟩ ho
theorem f211_33 : fetch 211 33 = some (.goto 67, 3) := vtab tk211 19 rfl
theorem e211_33 (L : VL) (st : List Value) (h : VG) : ev 211 33 L (st) h = ev 211 100 L (st) h := G_goto f211_33 (by decide)
theorem f211_36 : fetch 211 36 = some (.iload_n 2, 1) := vtab tk211 20 rfl
theorem e211_36 (l0 l1 : Option Value) (L : VL) (st : List Value) (h : VG) (x : Int32) : ev 211 36 (l0 :: l1 :: some (.int x) :: L) (st) h = ev 211 37 (l0 :: l1 :: some (.int x) :: L) (.int x :: st) h := G_iload_n f211_36 rfl
theorem f211_37 : fetch 211 37 = some (.bipush 7, 2) := vtab tk211 21 rfl
theorem e211_37 (L : VL) (st : List Value) (h : VG) : ev 211 37 L (st) h = ev 211 39 L (.int (7 : Int32) :: st) h := G_bipush f211_37 (by decide)
theorem f211_39 : fetch 211 39 = some (.if_icmp .ne 21, 3) := vtab tk211 22 rfl
theorem e211_39 (L : VL) (st : List Value) (h : VG) (x y : Int32) : ev 211 39 L (.int y :: .int x :: st) h = if x = y then ev 211 42 L st h else ev 211 60 L st h := G_icmp_ne f211_39 (by decide)
theorem f211_42 : fetch 211 42 = some (.aload_n 0, 1) := vtab tk211 23 rfl
theorem e211_42 (L : VL) (st : List Value) (h : VG) (x : Nat) : ev 211 42 (some (.ref x) :: L) (st) h = ev 211 43 (some (.ref x) :: L) (.ref x :: st) h := G_aload_n f211_42 rfl
theorem f211_43 : fetch 211 43 = some (.lload_n 3, 1) := vtab tk211 24 rfl
theorem e211_43 (l0 l1 l2 : Option Value) (L : VL) (st : List Value) (h : VG) (x : Int64) : ev 211 43 (l0 :: l1 :: l2 :: some (.long x) :: L) (st) h = ev 211 44 (l0 :: l1 :: l2 :: some (.long x) :: L) (.long x :: st) h := G_lload_n f211_43 rfl
theorem f211_44 : fetch 211 44 = some (.bipush 52, 2) := vtab tk211 25 rfl
theorem e211_44 (L : VL) (st : List Value) (h : VG) : ev 211 44 L (st) h = ev 211 46 L (.int (52 : Int32) :: st) h := G_bipush f211_44 (by decide)
theorem f211_46 : fetch 211 46 = some (.bipush 11, 2) := vtab tk211 26 rfl
theorem e211_46 (L : VL) (st : List Value) (h : VG) : ev 211 46 L (st) h = ev 211 48 L (.int (11 : Int32) :: st) h := G_bipush f211_46 (by decide)
theorem f211_48 : fetch 211 48 = some (.invokevirtual 402, 3) := vtab tk211 27 rfl
theorem e211_48 (L : VL) (st : List Value) (h : VG) (b : Nat) (x0 : Int64) (x1 : Int32) (x2 : Int32) (ho : ob h b 11) (hs : catS st ≤ 8) : ev 211 48 L (.int x2 :: .int x1 :: .long x0 :: .ref b :: st) h = (ev 209 0 [some (.ref b), some (.long x0), none, some (.int x1), some (.int x2), none, none, none, none, none, none, none] [] h).bind fun q => ev 211 51 L (q.1.toList ++ st) q.2 := G_callv (k := 1) (p := 1479) (ars := [.long x0, .int x1, .int x2]) f211_48 lkC_12_402 (by decide) (by decide +kernel) rfl (vcls_ob (ci := 11) (by decide) ho) (Nat.le_of_ble_eq_true rfl) hs rfl
theorem f211_51 : fetch 211 51 = some (.aload_n 0, 1) := vtab tk211 28 rfl
theorem e211_51 (L : VL) (st : List Value) (h : VG) (x : Nat) : ev 211 51 (some (.ref x) :: L) (st) h = ev 211 52 (some (.ref x) :: L) (.ref x :: st) h := G_aload_n f211_51 rfl
theorem f211_52 : fetch 211 52 = some (.bipush 7, 2) := vtab tk211 29 rfl
theorem e211_52 (L : VL) (st : List Value) (h : VG) : ev 211 52 L (st) h = ev 211 54 L (.int (7 : Int32) :: st) h := G_bipush f211_52 (by decide)
theorem f211_54 : fetch 211 54 = some (.putfield 309, 3) := vtab tk211 30 rfl
theorem e211_54 (L : VL) (st : List Value) (h : VG) (a : Nat) (x : Int32) (ho : ob h a 11) : ev 211 54 L (.int x :: .ref a :: st) h = ev 211 57 L (st) (pI h a 38 x) := G_putI (p := 1051) f211_54 lkF_12_309 (by decide) (by decide) (by decide +kernel) ⟨rfl, rfl⟩ ho
theorem f211_57 : fetch 211 57 = some (.goto 43, 3) := vtab tk211 31 rfl
theorem e211_57 (L : VL) (st : List Value) (h : VG) : ev 211 57 L (st) h = ev 211 100 L (st) h := G_goto f211_57 (by decide)
theorem f211_60 : fetch 211 60 = some (.iload_n 2, 1) := vtab tk211 32 rfl
theorem e211_60 (l0 l1 : Option Value) (L : VL) (st : List Value) (h : VG) (x : Int32) : ev 211 60 (l0 :: l1 :: some (.int x) :: L) (st) h = ev 211 61 (l0 :: l1 :: some (.int x) :: L) (.int x :: st) h := G_iload_n f211_60 rfl
theorem f211_61 : fetch 211 61 = some (.bipush 9, 2) := vtab tk211 33 rfl
theorem e211_61 (L : VL) (st : List Value) (h : VG) : ev 211 61 L (st) h = ev 211 63 L (.int (9 : Int32) :: st) h := G_bipush f211_61 (by decide)
theorem f211_63 : fetch 211 63 = some (.if_icmp .ne 12, 3) := vtab tk211 34 rfl
theorem e211_63 (L : VL) (st : List Value) (h : VG) (x y : Int32) : ev 211 63 L (.int y :: .int x :: st) h = if x = y then ev 211 66 L st h else ev 211 75 L st h := G_icmp_ne f211_63 (by decide)
theorem f211_66 : fetch 211 66 = some (.aload_n 0, 1) := vtab tk211 35 rfl
theorem e211_66 (L : VL) (st : List Value) (h : VG) (x : Nat) : ev 211 66 (some (.ref x) :: L) (st) h = ev 211 67 (some (.ref x) :: L) (.ref x :: st) h := G_aload_n f211_66 rfl
theorem f211_67 : fetch 211 67 = some (.iconst 5, 1) := vtab tk211 36 rfl
theorem e211_67 (L : VL) (st : List Value) (h : VG) : ev 211 67 L (st) h = ev 211 68 L (.int (5 : Int32) :: st) h := G_iconst f211_67 (by decide)
theorem f211_68 : fetch 211 68 = some (.lload_n 3, 1) := vtab tk211 37 rfl
theorem e211_68 (l0 l1 l2 : Option Value) (L : VL) (st : List Value) (h : VG) (x : Int64) : ev 211 68 (l0 :: l1 :: l2 :: some (.long x) :: L) (st) h = ev 211 69 (l0 :: l1 :: l2 :: some (.long x) :: L) (.long x :: st) h := G_lload_n f211_68 rfl
theorem f211_69 : fetch 211 69 = some (.invokevirtual 361, 3) := vtab tk211 38 rfl
theorem e211_69 (L : VL) (st : List Value) (h : VG) (b : Nat) (x0 : Int32) (x1 : Int64) (ho : ob h b 11) (hs : catS st ≤ 8) : ev 211 69 L (.long x1 :: .int x0 :: .ref b :: st) h = (ev 178 0 [some (.ref b), some (.int x0), some (.long x1), none] [] h).bind fun q => ev 211 72 L (q.1.toList ++ st) q.2 := G_callv (k := 1) (p := 1408) (ars := [.int x0, .long x1]) f211_69 lkC_12_361 (by decide) (by decide +kernel) rfl (vcls_ob (ci := 11) (by decide) ho) (Nat.le_of_ble_eq_true rfl) hs rfl
theorem f211_72 : fetch 211 72 = some (.goto 28, 3) := vtab tk211 39 rfl
theorem e211_72 (L : VL) (st : List Value) (h : VG) : ev 211 72 L (st) h = ev 211 100 L (st) h := G_goto f211_72 (by decide)
theorem f211_75 : fetch 211 75 = some (.aload_n 0, 1) := vtab tk211 40 rfl
theorem e211_75 (L : VL) (st : List Value) (h : VG) (x : Nat) : ev 211 75 (some (.ref x) :: L) (st) h = ev 211 76 (some (.ref x) :: L) (.ref x :: st) h := G_aload_n f211_75 rfl
theorem f211_76 : fetch 211 76 = some (.iload_n 2, 1) := vtab tk211 41 rfl
theorem e211_76 (l0 l1 : Option Value) (L : VL) (st : List Value) (h : VG) (x : Int32) : ev 211 76 (l0 :: l1 :: some (.int x) :: L) (st) h = ev 211 77 (l0 :: l1 :: some (.int x) :: L) (.int x :: st) h := G_iload_n f211_76 rfl
theorem f211_77 : fetch 211 77 = some (.bipush 8, 2) := vtab tk211 42 rfl
theorem e211_77 (L : VL) (st : List Value) (h : VG) : ev 211 77 L (st) h = ev 211 79 L (.int (8 : Int32) :: st) h := G_bipush f211_77 (by decide)
theorem f211_79 : fetch 211 79 = some (.if_icmp .ne 7, 3) := vtab tk211 43 rfl
theorem e211_79 (L : VL) (st : List Value) (h : VG) (x y : Int32) : ev 211 79 L (.int y :: .int x :: st) h = if x = y then ev 211 82 L st h else ev 211 86 L st h := G_icmp_ne f211_79 (by decide)
theorem f211_82 : fetch 211 82 = some (.iconst 5, 1) := vtab tk211 44 rfl
theorem e211_82 (L : VL) (st : List Value) (h : VG) : ev 211 82 L (st) h = ev 211 83 L (.int (5 : Int32) :: st) h := G_iconst f211_82 (by decide)
theorem f211_83 : fetch 211 83 = some (.goto 4, 3) := vtab tk211 45 rfl
theorem e211_83 (L : VL) (st : List Value) (h : VG) : ev 211 83 L (st) h = ev 211 87 L (st) h := G_goto f211_83 (by decide)
theorem f211_86 : fetch 211 86 = some (.iload_n 2, 1) := vtab tk211 46 rfl
theorem e211_86 (l0 l1 : Option Value) (L : VL) (st : List Value) (h : VG) (x : Int32) : ev 211 86 (l0 :: l1 :: some (.int x) :: L) (st) h = ev 211 87 (l0 :: l1 :: some (.int x) :: L) (.int x :: st) h := G_iload_n f211_86 rfl
theorem f211_87 : fetch 211 87 = some (.lload_n 3, 1) := vtab tk211 47 rfl
theorem e211_87 (l0 l1 l2 : Option Value) (L : VL) (st : List Value) (h : VG) (x : Int64) : ev 211 87 (l0 :: l1 :: l2 :: some (.long x) :: L) (st) h = ev 211 88 (l0 :: l1 :: l2 :: some (.long x) :: L) (.long x :: st) h := G_lload_n f211_87 rfl
theorem f211_88 : fetch 211 88 = some (.aload_n 0, 1) := vtab tk211 48 rfl
theorem e211_88 (L : VL) (st : List Value) (h : VG) (x : Nat) : ev 211 88 (some (.ref x) :: L) (st) h = ev 211 89 (some (.ref x) :: L) (.ref x :: st) h := G_aload_n f211_88 rfl
theorem f211_89 : fetch 211 89 = some (.getfield 67, 3) := vtab tk211 49 rfl
theorem e211_89 (L : VL) (st : List Value) (h : VG) (a : Nat) (ho : ob h a 11) (hr : isR h a 33) : ev 211 89 L (.ref a :: st) h = ev 211 92 L (.ref (gR h a 33) :: st) h := G_getR (p := 1046) f211_89 lkF_12_67 (by decide) (by decide) ho hr
theorem f211_92 : fetch 211 92 = some (.iload_n 2, 1) := vtab tk211 50 rfl
theorem e211_92 (l0 l1 : Option Value) (L : VL) (st : List Value) (h : VG) (x : Int32) : ev 211 92 (l0 :: l1 :: some (.int x) :: L) (st) h = ev 211 93 (l0 :: l1 :: some (.int x) :: L) (.int x :: st) h := G_iload_n f211_92 rfl
theorem f211_93 : fetch 211 93 = some (.iaload, 1) := vtab tk211 51 rfl
theorem e211_93 (L : VL) (st : List Value) (h : VG) (a : Nat) (i : Int32) (ha : rdI h a) (hi : vp_in i (aln h a)) : ev 211 93 L (.int i :: .ref a :: st) h = ev 211 94 L (.int (aI h a i.toNatClampNeg) :: st) h := G_iald' f211_93 ha hi
theorem f211_94 : fetch 211 94 = some (.invokestatic 406, 3) := vtab tk211 52 rfl
theorem e211_94 (L : VL) (st : List Value) (h : VG) (x0 : Int64) (x1 : Int32) (hs : catS st ≤ 8) : ev 211 94 L (.int x1 :: .long x0 :: st) h = (ev 204 0 [some (.long x0), none, some (.int x1), none] [] h).bind fun q => ev 211 97 L (q.1.toList ++ st) q.2 := G_calls (k := 0) (p := 1489) (ars := [.long x0, .int x1]) f211_94 lkC_12_406 (by decide) (by decide +kernel) rfl (Nat.le_of_ble_eq_true rfl) hs rfl
theorem f211_97 : fetch 211 97 = some (.invokevirtual 361, 3) := vtab tk211 53 rfl
theorem e211_97 (L : VL) (st : List Value) (h : VG) (b : Nat) (x0 : Int32) (x1 : Int64) (ho : ob h b 11) (hs : catS st ≤ 8) : ev 211 97 L (.long x1 :: .int x0 :: .ref b :: st) h = (ev 178 0 [some (.ref b), some (.int x0), some (.long x1), none] [] h).bind fun q => ev 211 100 L (q.1.toList ++ st) q.2 := G_callv (k := 1) (p := 1408) (ars := [.int x0, .long x1]) f211_97 lkC_12_361 (by decide) (by decide +kernel) rfl (vcls_ob (ci := 11) (by decide) ho) (Nat.le_of_ble_eq_true rfl) hs rfl
theorem f211_100 : fetch 211 100 = some (.return_, 1) := vtab tk211 54 rfl
theorem e211_100 (L : VL) (h : VG) : ev 211 100 L [] h = some (none, h) := G_vret f211_100 (by decide)
/-! 212 GuestCallsModel.load(III)I -/
def tb212 : List (Nat × Instr × Nat) := [(0, .aload_n 0, 1), (1, .iconst 0, 1), (2, .putfield 244, 3), (5, .aload_n 0, 1), (6, .iload_n 1, 1), (7, .invokevirtual 293, 3), (10, .ifCond .eq 10, 3), (13, .iload_n 3, 1), (14, .invokestatic 325, 3), (17, .ifCond .ne 5, 3), (20, .iconst (-1), 1), (21, .ireturn, 1), (22, .aload_n 0, 1), (23, .iload_n 1, 1), (24, .iconst 0, 1), (25, .invokevirtual 296, 3), (28, .aload_n 0, 1), (29, .iload_n 2, 1), (30, .aload_n 0, 1), (31, .getfield 290, 3), (34, .invokevirtual 409, 3), (37, .ifCond .ne 11, 3), (40, .aload_n 0, 1), (41, .iconst 5, 1), (42, .invokevirtual 347, 3), (45, .pop, 1), (46, .iconst (-1), 1), (47, .ireturn, 1), (48, .iconst 0, 1), (49, .istore 4, 2), (51, .iconst 0, 1), (52, .istore 5, 2), (54, .iconst 0, 1), (55, .istore 6, 2), (57, .iload 6, 2), (59, .aload_n 0, 1), (60, .iload_n 1, 1), (61, .invokevirtual 300, 3), (64, .if_icmp .ge 59, 3), (67, .aload_n 0, 1), (68, .iload_n 2, 1), (69, .aload_n 0, 1), (70, .iload_n 1, 1), (71, .iload 6, 2), (73, .iconst 0, 1), (74, .invokevirtual 412, 3), (77, .iadd, 1), (78, .aload_n 0, 1), (79, .iload_n 1, 1), (80, .iload 6, 2), (82, .invokevirtual 306, 3), (85, .invokevirtual 416, 3), (88, .aload_n 0, 1), (89, .iload_n 3, 1), (90, .iload 6, 2), (92, .invokevirtual 365, 3), (95, .istore 7, 2), (97, .iload 7, 2), (99, .ifCond .ne 9, 3), (102, .iinc 4 1, 3), (105, .goto 12, 3), (108, .iload 5, 2), (110, .ifCond .ne 7, 3), (113, .iload 7, 2), (115, .istore 5, 2), (117, .iinc 6 1, 3), (120, .goto (-63), 3), (123, .aload_n 0, 1), (124, .iload 5, 2), (126, .invokevirtual 347, 3), (129, .pop, 1), (130, .iload 4, 2), (132, .ireturn, 1)]
theorem tk212 : tb212.all (fun q => decide (fetch 212 q.1 = some q.2)) = true := by decide +kernel
theorem f212_0 : fetch 212 0 = some (.aload_n 0, 1) := vtab tk212 0 rfl
theorem e212_0 (L : VL) (st : List Value) (h : VG) (x : Nat) : ev 212 0 (some (.ref x) :: L) (st) h = ev 212 1 (some (.ref x) :: L) (.ref x :: st) h := G_aload_n f212_0 rfl
theorem f212_1 : fetch 212 1 = some (.iconst 0, 1) := vtab tk212 1 rfl
theorem e212_1 (L : VL) (st : List Value) (h : VG) : ev 212 1 L (st) h = ev 212 2 L (.int (0 : Int32) :: st) h := G_iconst f212_1 (by decide)
theorem f212_2 : fetch 212 2 = some (.putfield 244, 3) := vtab tk212 2 rfl
theorem e212_2 (L : VL) (st : List Value) (h : VG) (a : Nat) (x : Int32) (ho : ob h a 11) : ev 212 2 L (.int x :: .ref a :: st) h = ev 212 5 L (st) (pI h a 31 x) := G_putI (p := 1044) f212_2 lkF_12_244 (by decide) (by decide) (by decide +kernel) ⟨rfl, rfl⟩ ho
theorem f212_5 : fetch 212 5 = some (.aload_n 0, 1) := vtab tk212 3 rfl
theorem e212_5 (L : VL) (st : List Value) (h : VG) (x : Nat) : ev 212 5 (some (.ref x) :: L) (st) h = ev 212 6 (some (.ref x) :: L) (.ref x :: st) h := G_aload_n f212_5 rfl
theorem f212_6 : fetch 212 6 = some (.iload_n 1, 1) := vtab tk212 4 rfl
theorem e212_6 (l0 : Option Value) (L : VL) (st : List Value) (h : VG) (x : Int32) : ev 212 6 (l0 :: some (.int x) :: L) (st) h = ev 212 7 (l0 :: some (.int x) :: L) (.int x :: st) h := G_iload_n f212_6 rfl
theorem f212_7 : fetch 212 7 = some (.invokevirtual 293, 3) := vtab tk212 5 rfl
theorem e212_7 (L : VL) (st : List Value) (h : VG) (b : Nat) (x0 : Int32) (ho : ob h b 11) (hs : catS st ≤ 8) : ev 212 7 L (.int x0 :: .ref b :: st) h = (ev 171 0 [some (.ref b), some (.int x0)] [] h).bind fun q => ev 212 10 L (q.1.toList ++ st) q.2 := G_callv (k := 1) (p := 1317) (ars := [.int x0]) f212_7 lkC_12_293 (by decide) (by decide +kernel) rfl (vcls_ob (ci := 11) (by decide) ho) (Nat.le_of_ble_eq_true rfl) hs rfl
theorem f212_10 : fetch 212 10 = some (.ifCond .eq 10, 3) := vtab tk212 6 rfl
theorem e212_10 (L : VL) (st : List Value) (h : VG) (x : Int32) : ev 212 10 L (.int x :: st) h = if x = 0 then ev 212 20 L st h else ev 212 13 L st h := G_if_eq f212_10 (by decide)
theorem f212_13 : fetch 212 13 = some (.iload_n 3, 1) := vtab tk212 7 rfl
theorem e212_13 (l0 l1 l2 : Option Value) (L : VL) (st : List Value) (h : VG) (x : Int32) : ev 212 13 (l0 :: l1 :: l2 :: some (.int x) :: L) (st) h = ev 212 14 (l0 :: l1 :: l2 :: some (.int x) :: L) (.int x :: st) h := G_iload_n f212_13 rfl
theorem f212_14 : fetch 212 14 = some (.invokestatic 325, 3) := vtab tk212 8 rfl
theorem e212_14 (L : VL) (st : List Value) (h : VG) (x0 : Int32) (hs : catS st ≤ 8) : ev 212 14 L (.int x0 :: st) h = (ev 181 0 [some (.int x0)] [] h).bind fun q => ev 212 17 L (q.1.toList ++ st) q.2 := G_calls (k := 0) (p := 1359) (ars := [.int x0]) f212_14 lkC_12_325 (by decide) (by decide +kernel) rfl (Nat.le_of_ble_eq_true rfl) hs rfl
theorem f212_17 : fetch 212 17 = some (.ifCond .ne 5, 3) := vtab tk212 9 rfl
theorem e212_17 (L : VL) (st : List Value) (h : VG) (x : Int32) : ev 212 17 L (.int x :: st) h = if x = 0 then ev 212 20 L st h else ev 212 22 L st h := G_if_ne f212_17 (by decide)
theorem f212_20 : fetch 212 20 = some (.iconst (-1), 1) := vtab tk212 10 rfl
theorem e212_20 (L : VL) (st : List Value) (h : VG) : ev 212 20 L (st) h = ev 212 21 L (.int (-1 : Int32) :: st) h := G_iconst f212_20 (by decide)
theorem f212_21 : fetch 212 21 = some (.ireturn, 1) := vtab tk212 11 rfl
theorem e212_21 (L : VL) (h : VG) (x : Int32) : ev 212 21 L [.int x] h = some (some (.int x), h) := G_iret f212_21 (ty := .int) (by decide) rfl
theorem f212_22 : fetch 212 22 = some (.aload_n 0, 1) := vtab tk212 12 rfl
theorem e212_22 (L : VL) (st : List Value) (h : VG) (x : Nat) : ev 212 22 (some (.ref x) :: L) (st) h = ev 212 23 (some (.ref x) :: L) (.ref x :: st) h := G_aload_n f212_22 rfl
theorem f212_23 : fetch 212 23 = some (.iload_n 1, 1) := vtab tk212 13 rfl
theorem e212_23 (l0 : Option Value) (L : VL) (st : List Value) (h : VG) (x : Int32) : ev 212 23 (l0 :: some (.int x) :: L) (st) h = ev 212 24 (l0 :: some (.int x) :: L) (.int x :: st) h := G_iload_n f212_23 rfl
theorem f212_24 : fetch 212 24 = some (.iconst 0, 1) := vtab tk212 14 rfl
theorem e212_24 (L : VL) (st : List Value) (h : VG) : ev 212 24 L (st) h = ev 212 25 L (.int (0 : Int32) :: st) h := G_iconst f212_24 (by decide)
theorem f212_25 : fetch 212 25 = some (.invokevirtual 296, 3) := vtab tk212 15 rfl
theorem e212_25 (L : VL) (st : List Value) (h : VG) (b : Nat) (x0 : Int32) (x1 : Int32) (ho : ob h b 11) (hs : catS st ≤ 8) : ev 212 25 L (.int x1 :: .int x0 :: .ref b :: st) h = (ev 169 0 [some (.ref b), some (.int x0), some (.int x1), none, none, none, none] [] h).bind fun q => ev 212 28 L (q.1.toList ++ st) q.2 := G_callv (k := 1) (p := 1321) (ars := [.int x0, .int x1]) f212_25 lkC_12_296 (by decide) (by decide +kernel) rfl (vcls_ob (ci := 11) (by decide) ho) (Nat.le_of_ble_eq_true rfl) hs rfl
theorem f212_28 : fetch 212 28 = some (.aload_n 0, 1) := vtab tk212 16 rfl
theorem e212_28 (L : VL) (st : List Value) (h : VG) (x : Nat) : ev 212 28 (some (.ref x) :: L) (st) h = ev 212 29 (some (.ref x) :: L) (.ref x :: st) h := G_aload_n f212_28 rfl
theorem f212_29 : fetch 212 29 = some (.iload_n 2, 1) := vtab tk212 17 rfl
theorem e212_29 (l0 l1 : Option Value) (L : VL) (st : List Value) (h : VG) (x : Int32) : ev 212 29 (l0 :: l1 :: some (.int x) :: L) (st) h = ev 212 30 (l0 :: l1 :: some (.int x) :: L) (.int x :: st) h := G_iload_n f212_29 rfl
theorem f212_30 : fetch 212 30 = some (.aload_n 0, 1) := vtab tk212 18 rfl
theorem e212_30 (L : VL) (st : List Value) (h : VG) (x : Nat) : ev 212 30 (some (.ref x) :: L) (st) h = ev 212 31 (some (.ref x) :: L) (.ref x :: st) h := G_aload_n f212_30 rfl
theorem f212_31 : fetch 212 31 = some (.getfield 290, 3) := vtab tk212 19 rfl
theorem e212_31 (L : VL) (st : List Value) (h : VG) (a : Nat) (ho : ob h a 11) : ev 212 31 L (.ref a :: st) h = ev 212 34 L (.int (gI h a 36) :: st) h := G_getI (p := 1049) f212_31 lkF_12_290 (by decide) (by decide) ho
theorem f212_34 : fetch 212 34 = some (.invokevirtual 409, 3) := vtab tk212 20 rfl
theorem e212_34 (L : VL) (st : List Value) (h : VG) (b : Nat) (x0 : Int32) (x1 : Int32) (ho : ob h b 11) (hs : catS st ≤ 8) : ev 212 34 L (.int x1 :: .int x0 :: .ref b :: st) h = (ev 202 0 [some (.ref b), some (.int x0), some (.int x1)] [] h).bind fun q => ev 212 37 L (q.1.toList ++ st) q.2 := G_callv (k := 1) (p := 1463) (ars := [.int x0, .int x1]) f212_34 lkC_12_409 (by decide) (by decide +kernel) rfl (vcls_ob (ci := 11) (by decide) ho) (Nat.le_of_ble_eq_true rfl) hs rfl
theorem f212_37 : fetch 212 37 = some (.ifCond .ne 11, 3) := vtab tk212 21 rfl
theorem e212_37 (L : VL) (st : List Value) (h : VG) (x : Int32) : ev 212 37 L (.int x :: st) h = if x = 0 then ev 212 40 L st h else ev 212 48 L st h := G_if_ne f212_37 (by decide)
theorem f212_40 : fetch 212 40 = some (.aload_n 0, 1) := vtab tk212 22 rfl
theorem e212_40 (L : VL) (st : List Value) (h : VG) (x : Nat) : ev 212 40 (some (.ref x) :: L) (st) h = ev 212 41 (some (.ref x) :: L) (.ref x :: st) h := G_aload_n f212_40 rfl
theorem f212_41 : fetch 212 41 = some (.iconst 5, 1) := vtab tk212 23 rfl
theorem e212_41 (L : VL) (st : List Value) (h : VG) : ev 212 41 L (st) h = ev 212 42 L (.int (5 : Int32) :: st) h := G_iconst f212_41 (by decide)
theorem f212_42 : fetch 212 42 = some (.invokevirtual 347, 3) := vtab tk212 24 rfl
theorem e212_42 (L : VL) (st : List Value) (h : VG) (b : Nat) (x0 : Int32) (ho : ob h b 11) (hs : catS st ≤ 8) : ev 212 42 L (.int x0 :: .ref b :: st) h = (ev 164 0 [some (.ref b), some (.int x0)] [] h).bind fun q => ev 212 45 L (q.1.toList ++ st) q.2 := G_callv (k := 1) (p := 1366) (ars := [.int x0]) f212_42 lkC_12_347 (by decide) (by decide +kernel) rfl (vcls_ob (ci := 11) (by decide) ho) (Nat.le_of_ble_eq_true rfl) hs rfl
theorem f212_45 : fetch 212 45 = some (.pop, 1) := vtab tk212 25 rfl
theorem e212_45 (L : VL) (st : List Value) (h : VG) (x : Int32) : ev 212 45 L (.int x :: st) h = ev 212 46 L (st) h := G_pop_int f212_45
theorem e212_45b (L : VL) (st : List Value) (h : VG) (x : Nat) : ev 212 45 L (.ref x :: st) h = ev 212 46 L (st) h := G_pop_ref f212_45
theorem f212_46 : fetch 212 46 = some (.iconst (-1), 1) := vtab tk212 26 rfl
theorem e212_46 (L : VL) (st : List Value) (h : VG) : ev 212 46 L (st) h = ev 212 47 L (.int (-1 : Int32) :: st) h := G_iconst f212_46 (by decide)
theorem f212_47 : fetch 212 47 = some (.ireturn, 1) := vtab tk212 27 rfl
theorem e212_47 (L : VL) (h : VG) (x : Int32) : ev 212 47 L [.int x] h = some (some (.int x), h) := G_iret f212_47 (ty := .int) (by decide) rfl
theorem f212_48 : fetch 212 48 = some (.iconst 0, 1) := vtab tk212 28 rfl
theorem e212_48 (L : VL) (st : List Value) (h : VG) : ev 212 48 L (st) h = ev 212 49 L (.int (0 : Int32) :: st) h := G_iconst f212_48 (by decide)
theorem f212_49 : fetch 212 49 = some (.istore 4, 2) := vtab tk212 29 rfl
theorem e212_49 (l0 l1 l2 l3 l4 : Option Value) (L : VL) (st : List Value) (h : VG) (x : Int32) : ev 212 49 (l0 :: l1 :: l2 :: l3 :: l4 :: L) (.int x :: st) h = ev 212 51 (l0 :: l1 :: l2 :: vkk l3 :: some (.int x) :: L) (st) h := G_istore f212_49 rfl (S1_4 l0 l1 l2 l3 l4 L _)
theorem f212_51 : fetch 212 51 = some (.iconst 0, 1) := vtab tk212 30 rfl
theorem e212_51 (L : VL) (st : List Value) (h : VG) : ev 212 51 L (st) h = ev 212 52 L (.int (0 : Int32) :: st) h := G_iconst f212_51 (by decide)
theorem f212_52 : fetch 212 52 = some (.istore 5, 2) := vtab tk212 31 rfl
theorem e212_52 (l0 l1 l2 l3 l4 l5 : Option Value) (L : VL) (st : List Value) (h : VG) (x : Int32) : ev 212 52 (l0 :: l1 :: l2 :: l3 :: l4 :: l5 :: L) (.int x :: st) h = ev 212 54 (l0 :: l1 :: l2 :: l3 :: vkk l4 :: some (.int x) :: L) (st) h := G_istore f212_52 rfl (S1_5 l0 l1 l2 l3 l4 l5 L _)
theorem f212_54 : fetch 212 54 = some (.iconst 0, 1) := vtab tk212 32 rfl
theorem e212_54 (L : VL) (st : List Value) (h : VG) : ev 212 54 L (st) h = ev 212 55 L (.int (0 : Int32) :: st) h := G_iconst f212_54 (by decide)
theorem f212_55 : fetch 212 55 = some (.istore 6, 2) := vtab tk212 33 rfl
theorem e212_55 (l0 l1 l2 l3 l4 l5 l6 : Option Value) (L : VL) (st : List Value) (h : VG) (x : Int32) : ev 212 55 (l0 :: l1 :: l2 :: l3 :: l4 :: l5 :: l6 :: L) (.int x :: st) h = ev 212 57 (l0 :: l1 :: l2 :: l3 :: l4 :: vkk l5 :: some (.int x) :: L) (st) h := G_istore f212_55 rfl (S1_6 l0 l1 l2 l3 l4 l5 l6 L _)
theorem f212_57 : fetch 212 57 = some (.iload 6, 2) := vtab tk212 34 rfl
theorem e212_57 (l0 l1 l2 l3 l4 l5 : Option Value) (L : VL) (st : List Value) (h : VG) (x : Int32) : ev 212 57 (l0 :: l1 :: l2 :: l3 :: l4 :: l5 :: some (.int x) :: L) (st) h = ev 212 59 (l0 :: l1 :: l2 :: l3 :: l4 :: l5 :: some (.int x) :: L) (.int x :: st) h := G_iload f212_57 rfl
theorem f212_59 : fetch 212 59 = some (.aload_n 0, 1) := vtab tk212 35 rfl
theorem e212_59 (L : VL) (st : List Value) (h : VG) (x : Nat) : ev 212 59 (some (.ref x) :: L) (st) h = ev 212 60 (some (.ref x) :: L) (.ref x :: st) h := G_aload_n f212_59 rfl
theorem f212_60 : fetch 212 60 = some (.iload_n 1, 1) := vtab tk212 36 rfl
theorem e212_60 (l0 : Option Value) (L : VL) (st : List Value) (h : VG) (x : Int32) : ev 212 60 (l0 :: some (.int x) :: L) (st) h = ev 212 61 (l0 :: some (.int x) :: L) (.int x :: st) h := G_iload_n f212_60 rfl
theorem f212_61 : fetch 212 61 = some (.invokevirtual 300, 3) := vtab tk212 37 rfl
theorem e212_61 (L : VL) (st : List Value) (h : VG) (b : Nat) (x0 : Int32) (ho : ob h b 11) (hs : catS st ≤ 8) : ev 212 61 L (.int x0 :: .ref b :: st) h = (ev 170 0 [some (.ref b), some (.int x0), none, none] [] h).bind fun q => ev 212 64 L (q.1.toList ++ st) q.2 := G_callv (k := 1) (p := 1339) (ars := [.int x0]) f212_61 lkC_12_300 (by decide) (by decide +kernel) rfl (vcls_ob (ci := 11) (by decide) ho) (Nat.le_of_ble_eq_true rfl) hs rfl
theorem f212_64 : fetch 212 64 = some (.if_icmp .ge 59, 3) := vtab tk212 38 rfl
theorem e212_64 (L : VL) (st : List Value) (h : VG) (x y : Int32) : ev 212 64 L (.int y :: .int x :: st) h = if x < y then ev 212 67 L st h else ev 212 123 L st h := G_icmp_ge f212_64 (by decide)
theorem f212_67 : fetch 212 67 = some (.aload_n 0, 1) := vtab tk212 39 rfl
theorem e212_67 (L : VL) (st : List Value) (h : VG) (x : Nat) : ev 212 67 (some (.ref x) :: L) (st) h = ev 212 68 (some (.ref x) :: L) (.ref x :: st) h := G_aload_n f212_67 rfl
theorem f212_68 : fetch 212 68 = some (.iload_n 2, 1) := vtab tk212 40 rfl
theorem e212_68 (l0 l1 : Option Value) (L : VL) (st : List Value) (h : VG) (x : Int32) : ev 212 68 (l0 :: l1 :: some (.int x) :: L) (st) h = ev 212 69 (l0 :: l1 :: some (.int x) :: L) (.int x :: st) h := G_iload_n f212_68 rfl
theorem f212_69 : fetch 212 69 = some (.aload_n 0, 1) := vtab tk212 41 rfl
theorem e212_69 (L : VL) (st : List Value) (h : VG) (x : Nat) : ev 212 69 (some (.ref x) :: L) (st) h = ev 212 70 (some (.ref x) :: L) (.ref x :: st) h := G_aload_n f212_69 rfl
theorem f212_70 : fetch 212 70 = some (.iload_n 1, 1) := vtab tk212 42 rfl
theorem e212_70 (l0 : Option Value) (L : VL) (st : List Value) (h : VG) (x : Int32) : ev 212 70 (l0 :: some (.int x) :: L) (st) h = ev 212 71 (l0 :: some (.int x) :: L) (.int x :: st) h := G_iload_n f212_70 rfl
theorem f212_71 : fetch 212 71 = some (.iload 6, 2) := vtab tk212 43 rfl
theorem e212_71 (l0 l1 l2 l3 l4 l5 : Option Value) (L : VL) (st : List Value) (h : VG) (x : Int32) : ev 212 71 (l0 :: l1 :: l2 :: l3 :: l4 :: l5 :: some (.int x) :: L) (st) h = ev 212 73 (l0 :: l1 :: l2 :: l3 :: l4 :: l5 :: some (.int x) :: L) (.int x :: st) h := G_iload f212_71 rfl
theorem f212_73 : fetch 212 73 = some (.iconst 0, 1) := vtab tk212 44 rfl
theorem e212_73 (L : VL) (st : List Value) (h : VG) : ev 212 73 L (st) h = ev 212 74 L (.int (0 : Int32) :: st) h := G_iconst f212_73 (by decide)
theorem f212_74 : fetch 212 74 = some (.invokevirtual 412, 3) := vtab tk212 45 rfl
theorem e212_74 (L : VL) (st : List Value) (h : VG) (b : Nat) (x0 : Int32) (x1 : Int32) (x2 : Int32) (ho : ob h b 11) (hs : catS st ≤ 8) : ev 212 74 L (.int x2 :: .int x1 :: .int x0 :: .ref b :: st) h = (ev 175 0 [some (.ref b), some (.int x0), some (.int x1), some (.int x2), none, none, none] [] h).bind fun q => ev 212 77 L (q.1.toList ++ st) q.2 := G_callv (k := 1) (p := 1467) (ars := [.int x0, .int x1, .int x2]) f212_74 lkC_12_412 (by decide) (by decide +kernel) rfl (vcls_ob (ci := 11) (by decide) ho) (Nat.le_of_ble_eq_true rfl) hs rfl
theorem f212_77 : fetch 212 77 = some (.iadd, 1) := vtab tk212 46 rfl
theorem e212_77 (L : VL) (st : List Value) (h : VG) (x y : Int32) : ev 212 77 L (.int y :: .int x :: st) h = ev 212 78 L (.int (x + y) :: st) h := G_iadd f212_77
theorem f212_78 : fetch 212 78 = some (.aload_n 0, 1) := vtab tk212 47 rfl
theorem e212_78 (L : VL) (st : List Value) (h : VG) (x : Nat) : ev 212 78 (some (.ref x) :: L) (st) h = ev 212 79 (some (.ref x) :: L) (.ref x :: st) h := G_aload_n f212_78 rfl
theorem f212_79 : fetch 212 79 = some (.iload_n 1, 1) := vtab tk212 48 rfl
theorem e212_79 (l0 : Option Value) (L : VL) (st : List Value) (h : VG) (x : Int32) : ev 212 79 (l0 :: some (.int x) :: L) (st) h = ev 212 80 (l0 :: some (.int x) :: L) (.int x :: st) h := G_iload_n f212_79 rfl
theorem f212_80 : fetch 212 80 = some (.iload 6, 2) := vtab tk212 49 rfl
theorem e212_80 (l0 l1 l2 l3 l4 l5 : Option Value) (L : VL) (st : List Value) (h : VG) (x : Int32) : ev 212 80 (l0 :: l1 :: l2 :: l3 :: l4 :: l5 :: some (.int x) :: L) (st) h = ev 212 82 (l0 :: l1 :: l2 :: l3 :: l4 :: l5 :: some (.int x) :: L) (.int x :: st) h := G_iload f212_80 rfl
theorem f212_82 : fetch 212 82 = some (.invokevirtual 306, 3) := vtab tk212 50 rfl
theorem e212_82 (L : VL) (st : List Value) (h : VG) (b : Nat) (x0 : Int32) (x1 : Int32) (ho : ob h b 11) (hs : catS st ≤ 8) : ev 212 82 L (.int x1 :: .int x0 :: .ref b :: st) h = (ev 174 0 [some (.ref b), some (.int x0), some (.int x1)] [] h).bind fun q => ev 212 85 L (q.1.toList ++ st) q.2 := G_callv (k := 1) (p := 1347) (ars := [.int x0, .int x1]) f212_82 lkC_12_306 (by decide) (by decide +kernel) rfl (vcls_ob (ci := 11) (by decide) ho) (Nat.le_of_ble_eq_true rfl) hs rfl
theorem f212_85 : fetch 212 85 = some (.invokevirtual 416, 3) := vtab tk212 51 rfl
theorem e212_85 (L : VL) (st : List Value) (h : VG) (b : Nat) (x0 : Int32) (x1 : Int32) (ho : ob h b 11) (hs : catS st ≤ 8) : ev 212 85 L (.int x1 :: .int x0 :: .ref b :: st) h = (ev 211 0 [some (.ref b), some (.int x0), some (.int x1), none, none] [] h).bind fun q => ev 212 88 L (q.1.toList ++ st) q.2 := G_callv (k := 1) (p := 1471) (ars := [.int x0, .int x1]) f212_85 lkC_12_416 (by decide) (by decide +kernel) rfl (vcls_ob (ci := 11) (by decide) ho) (Nat.le_of_ble_eq_true rfl) hs rfl
theorem f212_88 : fetch 212 88 = some (.aload_n 0, 1) := vtab tk212 52 rfl
theorem e212_88 (L : VL) (st : List Value) (h : VG) (x : Nat) : ev 212 88 (some (.ref x) :: L) (st) h = ev 212 89 (some (.ref x) :: L) (.ref x :: st) h := G_aload_n f212_88 rfl
theorem f212_89 : fetch 212 89 = some (.iload_n 3, 1) := vtab tk212 53 rfl
theorem e212_89 (l0 l1 l2 : Option Value) (L : VL) (st : List Value) (h : VG) (x : Int32) : ev 212 89 (l0 :: l1 :: l2 :: some (.int x) :: L) (st) h = ev 212 90 (l0 :: l1 :: l2 :: some (.int x) :: L) (.int x :: st) h := G_iload_n f212_89 rfl
theorem f212_90 : fetch 212 90 = some (.iload 6, 2) := vtab tk212 54 rfl
theorem e212_90 (l0 l1 l2 l3 l4 l5 : Option Value) (L : VL) (st : List Value) (h : VG) (x : Int32) : ev 212 90 (l0 :: l1 :: l2 :: l3 :: l4 :: l5 :: some (.int x) :: L) (st) h = ev 212 92 (l0 :: l1 :: l2 :: l3 :: l4 :: l5 :: some (.int x) :: L) (.int x :: st) h := G_iload f212_90 rfl
theorem f212_92 : fetch 212 92 = some (.invokevirtual 365, 3) := vtab tk212 55 rfl
theorem e212_92 (L : VL) (st : List Value) (h : VG) (b : Nat) (x0 : Int32) (x1 : Int32) (ho : ob h b 11) (hs : catS st ≤ 8) : ev 212 92 L (.int x1 :: .int x0 :: .ref b :: st) h = (ev 189 0 [some (.ref b), some (.int x0), some (.int x1), none] [] h).bind fun q => ev 212 95 L (q.1.toList ++ st) q.2 := G_callv (k := 1) (p := 1413) (ars := [.int x0, .int x1]) f212_92 lkC_12_365 (by decide) (by decide +kernel) rfl (vcls_ob (ci := 11) (by decide) ho) (Nat.le_of_ble_eq_true rfl) hs rfl
theorem f212_95 : fetch 212 95 = some (.istore 7, 2) := vtab tk212 56 rfl
theorem e212_95 (l0 l1 l2 l3 l4 l5 l6 l7 : Option Value) (L : VL) (st : List Value) (h : VG) (x : Int32) : ev 212 95 (l0 :: l1 :: l2 :: l3 :: l4 :: l5 :: l6 :: l7 :: L) (.int x :: st) h = ev 212 97 (l0 :: l1 :: l2 :: l3 :: l4 :: l5 :: vkk l6 :: some (.int x) :: L) (st) h := G_istore f212_95 rfl (S1_7 l0 l1 l2 l3 l4 l5 l6 l7 L _)
theorem f212_97 : fetch 212 97 = some (.iload 7, 2) := vtab tk212 57 rfl
theorem e212_97 (l0 l1 l2 l3 l4 l5 l6 : Option Value) (L : VL) (st : List Value) (h : VG) (x : Int32) : ev 212 97 (l0 :: l1 :: l2 :: l3 :: l4 :: l5 :: l6 :: some (.int x) :: L) (st) h = ev 212 99 (l0 :: l1 :: l2 :: l3 :: l4 :: l5 :: l6 :: some (.int x) :: L) (.int x :: st) h := G_iload f212_97 rfl
theorem f212_99 : fetch 212 99 = some (.ifCond .ne 9, 3) := vtab tk212 58 rfl
theorem e212_99 (L : VL) (st : List Value) (h : VG) (x : Int32) : ev 212 99 L (.int x :: st) h = if x = 0 then ev 212 102 L st h else ev 212 108 L st h := G_if_ne f212_99 (by decide)
theorem f212_102 : fetch 212 102 = some (.iinc 4 1, 3) := vtab tk212 59 rfl
theorem e212_102 (l0 l1 l2 l3 : Option Value) (L : VL) (st : List Value) (h : VG) (x : Int32) : ev 212 102 (l0 :: l1 :: l2 :: l3 :: some (.int x) :: L) (st) h = ev 212 105 (l0 :: l1 :: l2 :: vkk l3 :: some (.int (x + (1 : Int32))) :: L) (st) h := G_iinc f212_102 rfl (by decide) (S1_4 l0 l1 l2 l3 (some (.int x)) L _)
theorem f212_105 : fetch 212 105 = some (.goto 12, 3) := vtab tk212 60 rfl
theorem e212_105 (L : VL) (st : List Value) (h : VG) : ev 212 105 L (st) h = ev 212 117 L (st) h := G_goto f212_105 (by decide)
theorem f212_108 : fetch 212 108 = some (.iload 5, 2) := vtab tk212 61 rfl
theorem e212_108 (l0 l1 l2 l3 l4 : Option Value) (L : VL) (st : List Value) (h : VG) (x : Int32) : ev 212 108 (l0 :: l1 :: l2 :: l3 :: l4 :: some (.int x) :: L) (st) h = ev 212 110 (l0 :: l1 :: l2 :: l3 :: l4 :: some (.int x) :: L) (.int x :: st) h := G_iload f212_108 rfl
theorem f212_110 : fetch 212 110 = some (.ifCond .ne 7, 3) := vtab tk212 62 rfl
theorem e212_110 (L : VL) (st : List Value) (h : VG) (x : Int32) : ev 212 110 L (.int x :: st) h = if x = 0 then ev 212 113 L st h else ev 212 117 L st h := G_if_ne f212_110 (by decide)
theorem f212_113 : fetch 212 113 = some (.iload 7, 2) := vtab tk212 63 rfl
theorem e212_113 (l0 l1 l2 l3 l4 l5 l6 : Option Value) (L : VL) (st : List Value) (h : VG) (x : Int32) : ev 212 113 (l0 :: l1 :: l2 :: l3 :: l4 :: l5 :: l6 :: some (.int x) :: L) (st) h = ev 212 115 (l0 :: l1 :: l2 :: l3 :: l4 :: l5 :: l6 :: some (.int x) :: L) (.int x :: st) h := G_iload f212_113 rfl
theorem f212_115 : fetch 212 115 = some (.istore 5, 2) := vtab tk212 64 rfl
theorem e212_115 (l0 l1 l2 l3 l4 l5 : Option Value) (L : VL) (st : List Value) (h : VG) (x : Int32) : ev 212 115 (l0 :: l1 :: l2 :: l3 :: l4 :: l5 :: L) (.int x :: st) h = ev 212 117 (l0 :: l1 :: l2 :: l3 :: vkk l4 :: some (.int x) :: L) (st) h := G_istore f212_115 rfl (S1_5 l0 l1 l2 l3 l4 l5 L _)
theorem f212_117 : fetch 212 117 = some (.iinc 6 1, 3) := vtab tk212 65 rfl
theorem e212_117 (l0 l1 l2 l3 l4 l5 : Option Value) (L : VL) (st : List Value) (h : VG) (x : Int32) : ev 212 117 (l0 :: l1 :: l2 :: l3 :: l4 :: l5 :: some (.int x) :: L) (st) h = ev 212 120 (l0 :: l1 :: l2 :: l3 :: l4 :: vkk l5 :: some (.int (x + (1 : Int32))) :: L) (st) h := G_iinc f212_117 rfl (by decide) (S1_6 l0 l1 l2 l3 l4 l5 (some (.int x)) L _)
theorem f212_120 : fetch 212 120 = some (.goto (-63), 3) := vtab tk212 66 rfl
theorem e212_120 (L : VL) (st : List Value) (h : VG) : ev 212 120 L (st) h = ev 212 57 L (st) h := G_goto f212_120 (by decide)
theorem f212_123 : fetch 212 123 = some (.aload_n 0, 1) := vtab tk212 67 rfl
theorem e212_123 (L : VL) (st : List Value) (h : VG) (x : Nat) : ev 212 123 (some (.ref x) :: L) (st) h = ev 212 124 (some (.ref x) :: L) (.ref x :: st) h := G_aload_n f212_123 rfl
theorem f212_124 : fetch 212 124 = some (.iload 5, 2) := vtab tk212 68 rfl
theorem e212_124 (l0 l1 l2 l3 l4 : Option Value) (L : VL) (st : List Value) (h : VG) (x : Int32) : ev 212 124 (l0 :: l1 :: l2 :: l3 :: l4 :: some (.int x) :: L) (st) h = ev 212 126 (l0 :: l1 :: l2 :: l3 :: l4 :: some (.int x) :: L) (.int x :: st) h := G_iload f212_124 rfl
theorem f212_126 : fetch 212 126 = some (.invokevirtual 347, 3) := vtab tk212 69 rfl
theorem e212_126 (L : VL) (st : List Value) (h : VG) (b : Nat) (x0 : Int32) (ho : ob h b 11) (hs : catS st ≤ 8) : ev 212 126 L (.int x0 :: .ref b :: st) h = (ev 164 0 [some (.ref b), some (.int x0)] [] h).bind fun q => ev 212 129 L (q.1.toList ++ st) q.2 := G_callv (k := 1) (p := 1366) (ars := [.int x0]) f212_126 lkC_12_347 (by decide) (by decide +kernel) rfl (vcls_ob (ci := 11) (by decide) ho) (Nat.le_of_ble_eq_true rfl) hs rfl
theorem f212_129 : fetch 212 129 = some (.pop, 1) := vtab tk212 70 rfl
theorem e212_129 (L : VL) (st : List Value) (h : VG) (x : Int32) : ev 212 129 L (.int x :: st) h = ev 212 130 L (st) h := G_pop_int f212_129
theorem e212_129b (L : VL) (st : List Value) (h : VG) (x : Nat) : ev 212 129 L (.ref x :: st) h = ev 212 130 L (st) h := G_pop_ref f212_129
theorem f212_130 : fetch 212 130 = some (.iload 4, 2) := vtab tk212 71 rfl
theorem e212_130 (l0 l1 l2 l3 : Option Value) (L : VL) (st : List Value) (h : VG) (x : Int32) : ev 212 130 (l0 :: l1 :: l2 :: l3 :: some (.int x) :: L) (st) h = ev 212 132 (l0 :: l1 :: l2 :: l3 :: some (.int x) :: L) (.int x :: st) h := G_iload f212_130 rfl
theorem f212_132 : fetch 212 132 = some (.ireturn, 1) := vtab tk212 72 rfl
theorem e212_132 (L : VL) (h : VG) (x : Int32) : ev 212 132 L [.int x] h = some (some (.int x), h) := G_iret f212_132 (ty := .int) (by decide) rfl
/-! 213 GuestCallsModel.isInt(J)Z -/
def tb213 : List (Nat × Instr × Nat) := [(0, .lload_n 0, 1), (1, .lload_n 0, 1), (2, .l2i, 1), (3, .i2l, 1), (4, .lcmp, 1), (5, .ifCond .ne 7, 3), (8, .iconst 1, 1), (9, .goto 4, 3), (12, .iconst 0, 1), (13, .ireturn, 1)]
theorem tk213 : tb213.all (fun q => decide (fetch 213 q.1 = some q.2)) = true := by decide +kernel
theorem f213_0 : fetch 213 0 = some (.lload_n 0, 1) := vtab tk213 0 rfl
theorem e213_0 (L : VL) (st : List Value) (h : VG) (x : Int64) : ev 213 0 (some (.long x) :: L) (st) h = ev 213 1 (some (.long x) :: L) (.long x :: st) h := G_lload_n f213_0 rfl
theorem f213_1 : fetch 213 1 = some (.lload_n 0, 1) := vtab tk213 1 rfl
theorem e213_1 (L : VL) (st : List Value) (h : VG) (x : Int64) : ev 213 1 (some (.long x) :: L) (st) h = ev 213 2 (some (.long x) :: L) (.long x :: st) h := G_lload_n f213_1 rfl
theorem f213_2 : fetch 213 2 = some (.l2i, 1) := vtab tk213 2 rfl
theorem e213_2 (L : VL) (st : List Value) (h : VG) (x : Int64) : ev 213 2 L (.long x :: st) h = ev 213 3 L (.int x.toInt32 :: st) h := G_l2i f213_2
theorem f213_3 : fetch 213 3 = some (.i2l, 1) := vtab tk213 3 rfl
theorem e213_3 (L : VL) (st : List Value) (h : VG) (x : Int32) : ev 213 3 L (.int x :: st) h = ev 213 4 L (.long x.toInt64 :: st) h := G_i2l f213_3
theorem f213_4 : fetch 213 4 = some (.lcmp, 1) := vtab tk213 4 rfl
theorem e213_4 (L : VL) (st : List Value) (h : VG) (x y : Int64) : ev 213 4 L (.long y :: .long x :: st) h = ev 213 5 L (.int (lg_cmp x y) :: st) h := G_lcmp f213_4
theorem f213_5 : fetch 213 5 = some (.ifCond .ne 7, 3) := vtab tk213 5 rfl
theorem e213_5 (L : VL) (st : List Value) (h : VG) (x : Int32) : ev 213 5 L (.int x :: st) h = if x = 0 then ev 213 8 L st h else ev 213 12 L st h := G_if_ne f213_5 (by decide)
theorem f213_8 : fetch 213 8 = some (.iconst 1, 1) := vtab tk213 6 rfl
theorem e213_8 (L : VL) (st : List Value) (h : VG) : ev 213 8 L (st) h = ev 213 9 L (.int (1 : Int32) :: st) h := G_iconst f213_8 (by decide)
theorem f213_9 : fetch 213 9 = some (.goto 4, 3) := vtab tk213 7 rfl
theorem e213_9 (L : VL) (st : List Value) (h : VG) : ev 213 9 L (st) h = ev 213 13 L (st) h := G_goto f213_9 (by decide)
theorem f213_12 : fetch 213 12 = some (.iconst 0, 1) := vtab tk213 8 rfl
theorem e213_12 (L : VL) (st : List Value) (h : VG) : ev 213 12 L (st) h = ev 213 13 L (.int (0 : Int32) :: st) h := G_iconst f213_12 (by decide)
theorem f213_13 : fetch 213 13 = some (.ireturn, 1) := vtab tk213 9 rfl
theorem e213_13 (L : VL) (h : VG) (x : Int32) (hz : x = 0 ∨ x = 1) : ev 213 13 L [.int x] h = some (some (.int x), h) := G_iret f213_13 (ty := .boolean) (by decide) (vbool hz).1
/-! 214 GuestCallsModel.isLow(J)Z -/
def tb214 : List (Nat × Instr × Nat) := [(0, .lload_n 1, 1), (1, .lconst 0, 1), (2, .lcmp, 1), (3, .ifCond .lt 17, 3), (6, .lload_n 1, 1), (7, .aload_n 0, 1), (8, .getfield 40, 3), (11, .i2l, 1), (12, .lcmp, 1), (13, .ifCond .gt 7, 3), (16, .iconst 1, 1), (17, .goto 4, 3), (20, .iconst 0, 1), (21, .ireturn, 1)]
theorem tk214 : tb214.all (fun q => decide (fetch 214 q.1 = some q.2)) = true := by decide +kernel
theorem f214_0 : fetch 214 0 = some (.lload_n 1, 1) := vtab tk214 0 rfl
theorem e214_0 (l0 : Option Value) (L : VL) (st : List Value) (h : VG) (x : Int64) : ev 214 0 (l0 :: some (.long x) :: L) (st) h = ev 214 1 (l0 :: some (.long x) :: L) (.long x :: st) h := G_lload_n f214_0 rfl
theorem f214_1 : fetch 214 1 = some (.lconst 0, 1) := vtab tk214 1 rfl
theorem e214_1 (L : VL) (st : List Value) (h : VG) : ev 214 1 L (st) h = ev 214 2 L (.long 0 :: st) h := G_lconst f214_1 (by decide)
theorem f214_2 : fetch 214 2 = some (.lcmp, 1) := vtab tk214 2 rfl
theorem e214_2 (L : VL) (st : List Value) (h : VG) (x y : Int64) : ev 214 2 L (.long y :: .long x :: st) h = ev 214 3 L (.int (lg_cmp x y) :: st) h := G_lcmp f214_2
theorem f214_3 : fetch 214 3 = some (.ifCond .lt 17, 3) := vtab tk214 3 rfl
theorem e214_3 (L : VL) (st : List Value) (h : VG) (x : Int32) : ev 214 3 L (.int x :: st) h = if x < 0 then ev 214 20 L st h else ev 214 6 L st h := G_if_lt f214_3 (by decide)
theorem f214_6 : fetch 214 6 = some (.lload_n 1, 1) := vtab tk214 4 rfl
theorem e214_6 (l0 : Option Value) (L : VL) (st : List Value) (h : VG) (x : Int64) : ev 214 6 (l0 :: some (.long x) :: L) (st) h = ev 214 7 (l0 :: some (.long x) :: L) (.long x :: st) h := G_lload_n f214_6 rfl
theorem f214_7 : fetch 214 7 = some (.aload_n 0, 1) := vtab tk214 5 rfl
theorem e214_7 (L : VL) (st : List Value) (h : VG) (x : Nat) : ev 214 7 (some (.ref x) :: L) (st) h = ev 214 8 (some (.ref x) :: L) (.ref x :: st) h := G_aload_n f214_7 rfl
theorem f214_8 : fetch 214 8 = some (.getfield 40, 3) := vtab tk214 6 rfl
theorem e214_8 (L : VL) (st : List Value) (h : VG) (a : Nat) (ho : ob h a 11) : ev 214 8 L (.ref a :: st) h = ev 214 11 L (.int (gI h a 18) :: st) h := G_getI (p := 1031) f214_8 lkF_12_40 (by decide) (by decide) ho
theorem f214_11 : fetch 214 11 = some (.i2l, 1) := vtab tk214 7 rfl
theorem e214_11 (L : VL) (st : List Value) (h : VG) (x : Int32) : ev 214 11 L (.int x :: st) h = ev 214 12 L (.long x.toInt64 :: st) h := G_i2l f214_11
theorem f214_12 : fetch 214 12 = some (.lcmp, 1) := vtab tk214 8 rfl
theorem e214_12 (L : VL) (st : List Value) (h : VG) (x y : Int64) : ev 214 12 L (.long y :: .long x :: st) h = ev 214 13 L (.int (lg_cmp x y) :: st) h := G_lcmp f214_12
theorem f214_13 : fetch 214 13 = some (.ifCond .gt 7, 3) := vtab tk214 9 rfl
theorem e214_13 (L : VL) (st : List Value) (h : VG) (x : Int32) : ev 214 13 L (.int x :: st) h = if x ≤ 0 then ev 214 16 L st h else ev 214 20 L st h := G_if_gt f214_13 (by decide)
theorem f214_16 : fetch 214 16 = some (.iconst 1, 1) := vtab tk214 10 rfl
theorem e214_16 (L : VL) (st : List Value) (h : VG) : ev 214 16 L (st) h = ev 214 17 L (.int (1 : Int32) :: st) h := G_iconst f214_16 (by decide)
theorem f214_17 : fetch 214 17 = some (.goto 4, 3) := vtab tk214 11 rfl
theorem e214_17 (L : VL) (st : List Value) (h : VG) : ev 214 17 L (st) h = ev 214 21 L (st) h := G_goto f214_17 (by decide)
theorem f214_20 : fetch 214 20 = some (.iconst 0, 1) := vtab tk214 12 rfl
theorem e214_20 (L : VL) (st : List Value) (h : VG) : ev 214 20 L (st) h = ev 214 21 L (.int (0 : Int32) :: st) h := G_iconst f214_20 (by decide)
theorem f214_21 : fetch 214 21 = some (.ireturn, 1) := vtab tk214 13 rfl
theorem e214_21 (L : VL) (h : VG) (x : Int32) (hz : x = 0 ∨ x = 1) : ev 214 21 L [.int x] h = some (some (.int x), h) := G_iret f214_21 (ty := .boolean) (by decide) (vbool hz).1
/-! 215 GuestCallsModel.puts(II)I -/
def tb215 : List (Nat × Instr × Nat) := [(0, .iload_n 2, 1), (1, .iconst 5, 1), (2, .if_icmp .ne 13, 3), (5, .aload_n 0, 1), (6, .getfield 312, 3), (9, .invokestatic 419, 3), (12, .ifCond .eq 20, 3), (15, .iload_n 2, 1), (16, .bipush 9, 2), (18, .if_icmp .ne 17, 3), (21, .aload_n 0, 1), (22, .aload_n 0, 1), (23, .getfield 312, 3), (26, .invokevirtual 423, 3), (29, .ifCond .ne 6, 3), (32, .bipush 6, 2), (34, .ireturn, 1), (35, .iload_n 2, 1), (36, .bipush 6, 2), (38, .if_icmp .ne 17, 3), (41, .aload_n 0, 1), (42, .getfield 321, 3), (45, .bipush 23, 2), (47, .bipush 8, 2), (49, .invokestatic 426, 3), (52, .goto 27, 3), (55, .iload_n 2, 1), (56, .bipush 7, 2), (58, .if_icmp .ne 17, 3), (61, .aload_n 0, 1), (62, .getfield 321, 3), (65, .bipush 52, 2), (67, .bipush 11, 2), (69, .invokestatic 426, 3), (72, .goto 7, 3), (75, .aload_n 0, 1), (76, .getfield 312, 3), (79, .lstore_n 3, 1), (80, .aload_n 0, 1), (81, .iload_n 1, 1), (82, .aload_n 0, 1), (83, .getfield 67, 3), (86, .iload_n 2, 1), (87, .iaload, 1), (88, .lload_n 3, 1), (89, .invokevirtual 430, 3), (92, .iconst 0, 1), (93, .ireturn, 1)]
theorem tk215 : tb215.all (fun q => decide (fetch 215 q.1 = some q.2)) = true := by decide +kernel
theorem f215_0 : fetch 215 0 = some (.iload_n 2, 1) := vtab tk215 0 rfl
theorem e215_0 (l0 l1 : Option Value) (L : VL) (st : List Value) (h : VG) (x : Int32) : ev 215 0 (l0 :: l1 :: some (.int x) :: L) (st) h = ev 215 1 (l0 :: l1 :: some (.int x) :: L) (.int x :: st) h := G_iload_n f215_0 rfl
theorem f215_1 : fetch 215 1 = some (.iconst 5, 1) := vtab tk215 1 rfl
theorem e215_1 (L : VL) (st : List Value) (h : VG) : ev 215 1 L (st) h = ev 215 2 L (.int (5 : Int32) :: st) h := G_iconst f215_1 (by decide)
theorem f215_2 : fetch 215 2 = some (.if_icmp .ne 13, 3) := vtab tk215 2 rfl
theorem e215_2 (L : VL) (st : List Value) (h : VG) (x y : Int32) : ev 215 2 L (.int y :: .int x :: st) h = if x = y then ev 215 5 L st h else ev 215 15 L st h := G_icmp_ne f215_2 (by decide)
theorem f215_5 : fetch 215 5 = some (.aload_n 0, 1) := vtab tk215 3 rfl
theorem e215_5 (L : VL) (st : List Value) (h : VG) (x : Nat) : ev 215 5 (some (.ref x) :: L) (st) h = ev 215 6 (some (.ref x) :: L) (.ref x :: st) h := G_aload_n f215_5 rfl
theorem f215_6 : fetch 215 6 = some (.getfield 312, 3) := vtab tk215 4 rfl
theorem e215_6 (L : VL) (st : List Value) (h : VG) (a : Nat) (ho : ob h a 11) : ev 215 6 L (.ref a :: st) h = ev 215 9 L (.long (gL h a 39) :: st) h := G_getL (p := 1052) f215_6 lkF_12_312 (by decide) (by decide) ho
theorem f215_9 : fetch 215 9 = some (.invokestatic 419, 3) := vtab tk215 5 rfl
theorem e215_9 (L : VL) (st : List Value) (h : VG) (x0 : Int64) (hs : catS st ≤ 8) : ev 215 9 L (.long x0 :: st) h = (ev 213 0 [some (.long x0), none] [] h).bind fun q => ev 215 12 L (q.1.toList ++ st) q.2 := G_calls (k := 0) (p := 1504) (ars := [.long x0]) f215_9 lkC_12_419 (by decide) (by decide +kernel) rfl (Nat.le_of_ble_eq_true rfl) hs rfl
theorem f215_12 : fetch 215 12 = some (.ifCond .eq 20, 3) := vtab tk215 6 rfl
theorem e215_12 (L : VL) (st : List Value) (h : VG) (x : Int32) : ev 215 12 L (.int x :: st) h = if x = 0 then ev 215 32 L st h else ev 215 15 L st h := G_if_eq f215_12 (by decide)
theorem f215_15 : fetch 215 15 = some (.iload_n 2, 1) := vtab tk215 7 rfl
theorem e215_15 (l0 l1 : Option Value) (L : VL) (st : List Value) (h : VG) (x : Int32) : ev 215 15 (l0 :: l1 :: some (.int x) :: L) (st) h = ev 215 16 (l0 :: l1 :: some (.int x) :: L) (.int x :: st) h := G_iload_n f215_15 rfl
theorem f215_16 : fetch 215 16 = some (.bipush 9, 2) := vtab tk215 8 rfl
theorem e215_16 (L : VL) (st : List Value) (h : VG) : ev 215 16 L (st) h = ev 215 18 L (.int (9 : Int32) :: st) h := G_bipush f215_16 (by decide)
theorem f215_18 : fetch 215 18 = some (.if_icmp .ne 17, 3) := vtab tk215 9 rfl
theorem e215_18 (L : VL) (st : List Value) (h : VG) (x y : Int32) : ev 215 18 L (.int y :: .int x :: st) h = if x = y then ev 215 21 L st h else ev 215 35 L st h := G_icmp_ne f215_18 (by decide)
theorem f215_21 : fetch 215 21 = some (.aload_n 0, 1) := vtab tk215 10 rfl
theorem e215_21 (L : VL) (st : List Value) (h : VG) (x : Nat) : ev 215 21 (some (.ref x) :: L) (st) h = ev 215 22 (some (.ref x) :: L) (.ref x :: st) h := G_aload_n f215_21 rfl
theorem f215_22 : fetch 215 22 = some (.aload_n 0, 1) := vtab tk215 11 rfl
theorem e215_22 (L : VL) (st : List Value) (h : VG) (x : Nat) : ev 215 22 (some (.ref x) :: L) (st) h = ev 215 23 (some (.ref x) :: L) (.ref x :: st) h := G_aload_n f215_22 rfl
theorem f215_23 : fetch 215 23 = some (.getfield 312, 3) := vtab tk215 12 rfl
theorem e215_23 (L : VL) (st : List Value) (h : VG) (a : Nat) (ho : ob h a 11) : ev 215 23 L (.ref a :: st) h = ev 215 26 L (.long (gL h a 39) :: st) h := G_getL (p := 1052) f215_23 lkF_12_312 (by decide) (by decide) ho
theorem f215_26 : fetch 215 26 = some (.invokevirtual 423, 3) := vtab tk215 13 rfl
theorem e215_26 (L : VL) (st : List Value) (h : VG) (b : Nat) (x0 : Int64) (ho : ob h b 11) (hs : catS st ≤ 8) : ev 215 26 L (.long x0 :: .ref b :: st) h = (ev 214 0 [some (.ref b), some (.long x0), none] [] h).bind fun q => ev 215 29 L (q.1.toList ++ st) q.2 := G_callv (k := 1) (p := 1507) (ars := [.long x0]) f215_26 lkC_12_423 (by decide) (by decide +kernel) rfl (vcls_ob (ci := 11) (by decide) ho) (Nat.le_of_ble_eq_true rfl) hs rfl
theorem f215_29 : fetch 215 29 = some (.ifCond .ne 6, 3) := vtab tk215 14 rfl
theorem e215_29 (L : VL) (st : List Value) (h : VG) (x : Int32) : ev 215 29 L (.int x :: st) h = if x = 0 then ev 215 32 L st h else ev 215 35 L st h := G_if_ne f215_29 (by decide)
theorem f215_32 : fetch 215 32 = some (.bipush 6, 2) := vtab tk215 15 rfl
theorem e215_32 (L : VL) (st : List Value) (h : VG) : ev 215 32 L (st) h = ev 215 34 L (.int (6 : Int32) :: st) h := G_bipush f215_32 (by decide)
theorem f215_34 : fetch 215 34 = some (.ireturn, 1) := vtab tk215 16 rfl
theorem e215_34 (L : VL) (h : VG) (x : Int32) : ev 215 34 L [.int x] h = some (some (.int x), h) := G_iret f215_34 (ty := .int) (by decide) rfl
theorem f215_35 : fetch 215 35 = some (.iload_n 2, 1) := vtab tk215 17 rfl
theorem e215_35 (l0 l1 : Option Value) (L : VL) (st : List Value) (h : VG) (x : Int32) : ev 215 35 (l0 :: l1 :: some (.int x) :: L) (st) h = ev 215 36 (l0 :: l1 :: some (.int x) :: L) (.int x :: st) h := G_iload_n f215_35 rfl
theorem f215_36 : fetch 215 36 = some (.bipush 6, 2) := vtab tk215 18 rfl
theorem e215_36 (L : VL) (st : List Value) (h : VG) : ev 215 36 L (st) h = ev 215 38 L (.int (6 : Int32) :: st) h := G_bipush f215_36 (by decide)
theorem f215_38 : fetch 215 38 = some (.if_icmp .ne 17, 3) := vtab tk215 19 rfl
theorem e215_38 (L : VL) (st : List Value) (h : VG) (x y : Int32) : ev 215 38 L (.int y :: .int x :: st) h = if x = y then ev 215 41 L st h else ev 215 55 L st h := G_icmp_ne f215_38 (by decide)
theorem f215_41 : fetch 215 41 = some (.aload_n 0, 1) := vtab tk215 20 rfl
theorem e215_41 (L : VL) (st : List Value) (h : VG) (x : Nat) : ev 215 41 (some (.ref x) :: L) (st) h = ev 215 42 (some (.ref x) :: L) (.ref x :: st) h := G_aload_n f215_41 rfl
theorem f215_42 : fetch 215 42 = some (.getfield 321, 3) := vtab tk215 21 rfl
theorem e215_42 (L : VL) (st : List Value) (h : VG) (a : Nat) (ho : ob h a 11) : ev 215 42 L (.ref a :: st) h = ev 215 45 L (.double (gD h a 40) :: st) h := G_getD (p := 1053) f215_42 lkF_12_321 (by decide) (by decide) ho
theorem f215_45 : fetch 215 45 = some (.bipush 23, 2) := vtab tk215 22 rfl
theorem e215_45 (L : VL) (st : List Value) (h : VG) : ev 215 45 L (st) h = ev 215 47 L (.int (23 : Int32) :: st) h := G_bipush f215_45 (by decide)
theorem f215_47 : fetch 215 47 = some (.bipush 8, 2) := vtab tk215 23 rfl
theorem e215_47 (L : VL) (st : List Value) (h : VG) : ev 215 47 L (st) h = ev 215 49 L (.int (8 : Int32) :: st) h := G_bipush f215_47 (by decide)
theorem f215_49 : fetch 215 49 = some (.invokestatic 426, 3) := vtab tk215 24 rfl
theorem e215_49 (L : VL) (st : List Value) (h : VG) (x0 : UInt64) (x1 : Int32) (x2 : Int32) (hs : catS st ≤ 8) : ev 215 49 L (.int x2 :: .int x1 :: .double x0 :: st) h = (ev 210 0 [some (.double x0), none, some (.int x1), some (.int x2), none, none, none, none, none, none, none, none, none, none, none] [] h).bind fun q => ev 215 52 L (q.1.toList ++ st) q.2 := G_calls (k := 0) (p := 1511) (ars := [.double x0, .int x1, .int x2]) f215_49 lkC_12_426 (by decide) (by decide +kernel) rfl (Nat.le_of_ble_eq_true rfl) hs rfl
theorem f215_52 : fetch 215 52 = some (.goto 27, 3) := vtab tk215 25 rfl
theorem e215_52 (L : VL) (st : List Value) (h : VG) : ev 215 52 L (st) h = ev 215 79 L (st) h := G_goto f215_52 (by decide)
theorem f215_55 : fetch 215 55 = some (.iload_n 2, 1) := vtab tk215 26 rfl
theorem e215_55 (l0 l1 : Option Value) (L : VL) (st : List Value) (h : VG) (x : Int32) : ev 215 55 (l0 :: l1 :: some (.int x) :: L) (st) h = ev 215 56 (l0 :: l1 :: some (.int x) :: L) (.int x :: st) h := G_iload_n f215_55 rfl
theorem f215_56 : fetch 215 56 = some (.bipush 7, 2) := vtab tk215 27 rfl
theorem e215_56 (L : VL) (st : List Value) (h : VG) : ev 215 56 L (st) h = ev 215 58 L (.int (7 : Int32) :: st) h := G_bipush f215_56 (by decide)
theorem f215_58 : fetch 215 58 = some (.if_icmp .ne 17, 3) := vtab tk215 28 rfl
theorem e215_58 (L : VL) (st : List Value) (h : VG) (x y : Int32) : ev 215 58 L (.int y :: .int x :: st) h = if x = y then ev 215 61 L st h else ev 215 75 L st h := G_icmp_ne f215_58 (by decide)
theorem f215_61 : fetch 215 61 = some (.aload_n 0, 1) := vtab tk215 29 rfl
theorem e215_61 (L : VL) (st : List Value) (h : VG) (x : Nat) : ev 215 61 (some (.ref x) :: L) (st) h = ev 215 62 (some (.ref x) :: L) (.ref x :: st) h := G_aload_n f215_61 rfl
theorem f215_62 : fetch 215 62 = some (.getfield 321, 3) := vtab tk215 30 rfl
theorem e215_62 (L : VL) (st : List Value) (h : VG) (a : Nat) (ho : ob h a 11) : ev 215 62 L (.ref a :: st) h = ev 215 65 L (.double (gD h a 40) :: st) h := G_getD (p := 1053) f215_62 lkF_12_321 (by decide) (by decide) ho
theorem f215_65 : fetch 215 65 = some (.bipush 52, 2) := vtab tk215 31 rfl
theorem e215_65 (L : VL) (st : List Value) (h : VG) : ev 215 65 L (st) h = ev 215 67 L (.int (52 : Int32) :: st) h := G_bipush f215_65 (by decide)
theorem f215_67 : fetch 215 67 = some (.bipush 11, 2) := vtab tk215 32 rfl
theorem e215_67 (L : VL) (st : List Value) (h : VG) : ev 215 67 L (st) h = ev 215 69 L (.int (11 : Int32) :: st) h := G_bipush f215_67 (by decide)
theorem f215_69 : fetch 215 69 = some (.invokestatic 426, 3) := vtab tk215 33 rfl
theorem e215_69 (L : VL) (st : List Value) (h : VG) (x0 : UInt64) (x1 : Int32) (x2 : Int32) (hs : catS st ≤ 8) : ev 215 69 L (.int x2 :: .int x1 :: .double x0 :: st) h = (ev 210 0 [some (.double x0), none, some (.int x1), some (.int x2), none, none, none, none, none, none, none, none, none, none, none] [] h).bind fun q => ev 215 72 L (q.1.toList ++ st) q.2 := G_calls (k := 0) (p := 1511) (ars := [.double x0, .int x1, .int x2]) f215_69 lkC_12_426 (by decide) (by decide +kernel) rfl (Nat.le_of_ble_eq_true rfl) hs rfl
theorem f215_72 : fetch 215 72 = some (.goto 7, 3) := vtab tk215 34 rfl
theorem e215_72 (L : VL) (st : List Value) (h : VG) : ev 215 72 L (st) h = ev 215 79 L (st) h := G_goto f215_72 (by decide)
theorem f215_75 : fetch 215 75 = some (.aload_n 0, 1) := vtab tk215 35 rfl
theorem e215_75 (L : VL) (st : List Value) (h : VG) (x : Nat) : ev 215 75 (some (.ref x) :: L) (st) h = ev 215 76 (some (.ref x) :: L) (.ref x :: st) h := G_aload_n f215_75 rfl
theorem f215_76 : fetch 215 76 = some (.getfield 312, 3) := vtab tk215 36 rfl
theorem e215_76 (L : VL) (st : List Value) (h : VG) (a : Nat) (ho : ob h a 11) : ev 215 76 L (.ref a :: st) h = ev 215 79 L (.long (gL h a 39) :: st) h := G_getL (p := 1052) f215_76 lkF_12_312 (by decide) (by decide) ho
theorem f215_79 : fetch 215 79 = some (.lstore_n 3, 1) := vtab tk215 37 rfl
theorem e215_79 (l0 l1 l2 l3 l4 : Option Value) (L : VL) (st : List Value) (h : VG) (x : Int64) : ev 215 79 (l0 :: l1 :: l2 :: l3 :: l4 :: L) (.long x :: st) h = ev 215 80 (l0 :: l1 :: vkk l2 :: some (.long x) :: none :: L) (st) h := G_lstore_n f215_79 rfl (S2_3 l0 l1 l2 l3 l4 L _)
theorem f215_80 : fetch 215 80 = some (.aload_n 0, 1) := vtab tk215 38 rfl
theorem e215_80 (L : VL) (st : List Value) (h : VG) (x : Nat) : ev 215 80 (some (.ref x) :: L) (st) h = ev 215 81 (some (.ref x) :: L) (.ref x :: st) h := G_aload_n f215_80 rfl
theorem f215_81 : fetch 215 81 = some (.iload_n 1, 1) := vtab tk215 39 rfl
theorem e215_81 (l0 : Option Value) (L : VL) (st : List Value) (h : VG) (x : Int32) : ev 215 81 (l0 :: some (.int x) :: L) (st) h = ev 215 82 (l0 :: some (.int x) :: L) (.int x :: st) h := G_iload_n f215_81 rfl
theorem f215_82 : fetch 215 82 = some (.aload_n 0, 1) := vtab tk215 40 rfl
theorem e215_82 (L : VL) (st : List Value) (h : VG) (x : Nat) : ev 215 82 (some (.ref x) :: L) (st) h = ev 215 83 (some (.ref x) :: L) (.ref x :: st) h := G_aload_n f215_82 rfl
theorem f215_83 : fetch 215 83 = some (.getfield 67, 3) := vtab tk215 41 rfl
theorem e215_83 (L : VL) (st : List Value) (h : VG) (a : Nat) (ho : ob h a 11) (hr : isR h a 33) : ev 215 83 L (.ref a :: st) h = ev 215 86 L (.ref (gR h a 33) :: st) h := G_getR (p := 1046) f215_83 lkF_12_67 (by decide) (by decide) ho hr
theorem f215_86 : fetch 215 86 = some (.iload_n 2, 1) := vtab tk215 42 rfl
theorem e215_86 (l0 l1 : Option Value) (L : VL) (st : List Value) (h : VG) (x : Int32) : ev 215 86 (l0 :: l1 :: some (.int x) :: L) (st) h = ev 215 87 (l0 :: l1 :: some (.int x) :: L) (.int x :: st) h := G_iload_n f215_86 rfl
theorem f215_87 : fetch 215 87 = some (.iaload, 1) := vtab tk215 43 rfl
theorem e215_87 (L : VL) (st : List Value) (h : VG) (a : Nat) (i : Int32) (ha : rdI h a) (hi : vp_in i (aln h a)) : ev 215 87 L (.int i :: .ref a :: st) h = ev 215 88 L (.int (aI h a i.toNatClampNeg) :: st) h := G_iald' f215_87 ha hi
theorem f215_88 : fetch 215 88 = some (.lload_n 3, 1) := vtab tk215 44 rfl
theorem e215_88 (l0 l1 l2 : Option Value) (L : VL) (st : List Value) (h : VG) (x : Int64) : ev 215 88 (l0 :: l1 :: l2 :: some (.long x) :: L) (st) h = ev 215 89 (l0 :: l1 :: l2 :: some (.long x) :: L) (.long x :: st) h := G_lload_n f215_88 rfl
theorem f215_89 : fetch 215 89 = some (.invokevirtual 430, 3) := vtab tk215 45 rfl
theorem e215_89 (L : VL) (st : List Value) (h : VG) (b : Nat) (x0 : Int32) (x1 : Int32) (x2 : Int64) (ho : ob h b 11) (hs : catS st ≤ 8) : ev 215 89 L (.long x2 :: .int x1 :: .int x0 :: .ref b :: st) h = (ev 206 0 [some (.ref b), some (.int x0), some (.int x1), some (.long x2), none, none, none] [] h).bind fun q => ev 215 92 L (q.1.toList ++ st) q.2 := G_callv (k := 1) (p := 1514) (ars := [.int x0, .int x1, .long x2]) f215_89 lkC_12_430 (by decide) (by decide +kernel) rfl (vcls_ob (ci := 11) (by decide) ho) (Nat.le_of_ble_eq_true rfl) hs rfl
theorem f215_92 : fetch 215 92 = some (.iconst 0, 1) := vtab tk215 46 rfl
theorem e215_92 (L : VL) (st : List Value) (h : VG) : ev 215 92 L (st) h = ev 215 93 L (.int (0 : Int32) :: st) h := G_iconst f215_92 (by decide)
theorem f215_93 : fetch 215 93 = some (.ireturn, 1) := vtab tk215 47 rfl
theorem e215_93 (L : VL) (h : VG) (x : Int32) : ev 215 93 L [.int x] h = some (some (.int x), h) := G_iret f215_93 (ty := .int) (by decide) rfl
/-! 216 GuestCallsModel.store(III)I -/
def tb216 : List (Nat × Instr × Nat) := [(0, .aload_n 0, 1), (1, .iconst 0, 1), (2, .putfield 244, 3), (5, .aload_n 0, 1), (6, .iload_n 1, 1), (7, .invokevirtual 293, 3), (10, .ifCond .eq 10, 3), (13, .iload_n 2, 1), (14, .invokestatic 325, 3), (17, .ifCond .ne 5, 3), (20, .iconst (-1), 1), (21, .ireturn, 1), (22, .aload_n 0, 1), (23, .iload_n 1, 1), (24, .iconst 0, 1), (25, .invokevirtual 296, 3), (28, .aload_n 0, 1), (29, .iload_n 3, 1), (30, .aload_n 0, 1), (31, .getfield 290, 3), (34, .invokevirtual 409, 3), (37, .ifCond .eq 7, 3), (40, .iconst 0, 1), (41, .goto 4, 3), (44, .iconst 5, 1), (45, .istore 4, 2), (47, .aload_n 0, 1), (48, .invokevirtual 434, 3), (51, .iconst 0, 1), (52, .istore 5, 2), (54, .iload 5, 2), (56, .aload_n 0, 1), (57, .iload_n 1, 1), (58, .invokevirtual 300, 3), (61, .if_icmp .ge 66, 3), (64, .iload 4, 2), (66, .ifCond .ne 61, 3), (69, .aload_n 0, 1), (70, .iload_n 1, 1), (71, .iload 5, 2), (73, .invokevirtual 306, 3), (76, .istore 6, 2), (78, .aload_n 0, 1), (79, .iload_n 2, 1), (80, .iload 5, 2), (82, .iload 6, 2), (84, .bipush 8, 2), (86, .if_icmp .lt 7, 3), (89, .iconst 5, 1), (90, .goto 5, 3), (93, .iload 6, 2), (95, .invokevirtual 353, 3), (98, .istore 4, 2), (100, .iload 4, 2), (102, .ifCond .ne 19, 3), (105, .aload_n 0, 1), (106, .aload_n 0, 1), (107, .iload_n 1, 1), (108, .iload 5, 2), (110, .iconst 0, 1), (111, .invokevirtual 412, 3), (114, .iload 6, 2), (116, .invokevirtual 437, 3), (119, .istore 4, 2), (121, .iinc 5 1, 3), (124, .goto (-70), 3), (127, .aload_n 0, 1), (128, .iload 4, 2), (130, .invokevirtual 347, 3), (133, .ifCond .ne 5, 3), (136, .iconst (-1), 1), (137, .ireturn, 1), (138, .aload_n 0, 1), (139, .iload_n 3, 1), (140, .aload_n 0, 1), (141, .getfield 290, 3), (144, .invokevirtual 440, 3), (147, .aload_n 0, 1), (148, .getfield 290, 3), (151, .ireturn, 1)]
theorem tk216 : tb216.all (fun q => decide (fetch 216 q.1 = some q.2)) = true := by decide +kernel
theorem f216_0 : fetch 216 0 = some (.aload_n 0, 1) := vtab tk216 0 rfl
theorem e216_0 (L : VL) (st : List Value) (h : VG) (x : Nat) : ev 216 0 (some (.ref x) :: L) (st) h = ev 216 1 (some (.ref x) :: L) (.ref x :: st) h := G_aload_n f216_0 rfl
theorem f216_1 : fetch 216 1 = some (.iconst 0, 1) := vtab tk216 1 rfl
theorem e216_1 (L : VL) (st : List Value) (h : VG) : ev 216 1 L (st) h = ev 216 2 L (.int (0 : Int32) :: st) h := G_iconst f216_1 (by decide)
theorem f216_2 : fetch 216 2 = some (.putfield 244, 3) := vtab tk216 2 rfl
theorem e216_2 (L : VL) (st : List Value) (h : VG) (a : Nat) (x : Int32) (ho : ob h a 11) : ev 216 2 L (.int x :: .ref a :: st) h = ev 216 5 L (st) (pI h a 31 x) := G_putI (p := 1044) f216_2 lkF_12_244 (by decide) (by decide) (by decide +kernel) ⟨rfl, rfl⟩ ho
theorem f216_5 : fetch 216 5 = some (.aload_n 0, 1) := vtab tk216 3 rfl
theorem e216_5 (L : VL) (st : List Value) (h : VG) (x : Nat) : ev 216 5 (some (.ref x) :: L) (st) h = ev 216 6 (some (.ref x) :: L) (.ref x :: st) h := G_aload_n f216_5 rfl
theorem f216_6 : fetch 216 6 = some (.iload_n 1, 1) := vtab tk216 4 rfl
theorem e216_6 (l0 : Option Value) (L : VL) (st : List Value) (h : VG) (x : Int32) : ev 216 6 (l0 :: some (.int x) :: L) (st) h = ev 216 7 (l0 :: some (.int x) :: L) (.int x :: st) h := G_iload_n f216_6 rfl
theorem f216_7 : fetch 216 7 = some (.invokevirtual 293, 3) := vtab tk216 5 rfl
theorem e216_7 (L : VL) (st : List Value) (h : VG) (b : Nat) (x0 : Int32) (ho : ob h b 11) (hs : catS st ≤ 8) : ev 216 7 L (.int x0 :: .ref b :: st) h = (ev 171 0 [some (.ref b), some (.int x0)] [] h).bind fun q => ev 216 10 L (q.1.toList ++ st) q.2 := G_callv (k := 1) (p := 1317) (ars := [.int x0]) f216_7 lkC_12_293 (by decide) (by decide +kernel) rfl (vcls_ob (ci := 11) (by decide) ho) (Nat.le_of_ble_eq_true rfl) hs rfl
theorem f216_10 : fetch 216 10 = some (.ifCond .eq 10, 3) := vtab tk216 6 rfl
theorem e216_10 (L : VL) (st : List Value) (h : VG) (x : Int32) : ev 216 10 L (.int x :: st) h = if x = 0 then ev 216 20 L st h else ev 216 13 L st h := G_if_eq f216_10 (by decide)
theorem f216_13 : fetch 216 13 = some (.iload_n 2, 1) := vtab tk216 7 rfl
theorem e216_13 (l0 l1 : Option Value) (L : VL) (st : List Value) (h : VG) (x : Int32) : ev 216 13 (l0 :: l1 :: some (.int x) :: L) (st) h = ev 216 14 (l0 :: l1 :: some (.int x) :: L) (.int x :: st) h := G_iload_n f216_13 rfl
theorem f216_14 : fetch 216 14 = some (.invokestatic 325, 3) := vtab tk216 8 rfl
theorem e216_14 (L : VL) (st : List Value) (h : VG) (x0 : Int32) (hs : catS st ≤ 8) : ev 216 14 L (.int x0 :: st) h = (ev 181 0 [some (.int x0)] [] h).bind fun q => ev 216 17 L (q.1.toList ++ st) q.2 := G_calls (k := 0) (p := 1359) (ars := [.int x0]) f216_14 lkC_12_325 (by decide) (by decide +kernel) rfl (Nat.le_of_ble_eq_true rfl) hs rfl
theorem f216_17 : fetch 216 17 = some (.ifCond .ne 5, 3) := vtab tk216 9 rfl
theorem e216_17 (L : VL) (st : List Value) (h : VG) (x : Int32) : ev 216 17 L (.int x :: st) h = if x = 0 then ev 216 20 L st h else ev 216 22 L st h := G_if_ne f216_17 (by decide)
theorem f216_20 : fetch 216 20 = some (.iconst (-1), 1) := vtab tk216 10 rfl
theorem e216_20 (L : VL) (st : List Value) (h : VG) : ev 216 20 L (st) h = ev 216 21 L (.int (-1 : Int32) :: st) h := G_iconst f216_20 (by decide)
theorem f216_21 : fetch 216 21 = some (.ireturn, 1) := vtab tk216 11 rfl
theorem e216_21 (L : VL) (h : VG) (x : Int32) : ev 216 21 L [.int x] h = some (some (.int x), h) := G_iret f216_21 (ty := .int) (by decide) rfl
theorem f216_22 : fetch 216 22 = some (.aload_n 0, 1) := vtab tk216 12 rfl
theorem e216_22 (L : VL) (st : List Value) (h : VG) (x : Nat) : ev 216 22 (some (.ref x) :: L) (st) h = ev 216 23 (some (.ref x) :: L) (.ref x :: st) h := G_aload_n f216_22 rfl
theorem f216_23 : fetch 216 23 = some (.iload_n 1, 1) := vtab tk216 13 rfl
theorem e216_23 (l0 : Option Value) (L : VL) (st : List Value) (h : VG) (x : Int32) : ev 216 23 (l0 :: some (.int x) :: L) (st) h = ev 216 24 (l0 :: some (.int x) :: L) (.int x :: st) h := G_iload_n f216_23 rfl
theorem f216_24 : fetch 216 24 = some (.iconst 0, 1) := vtab tk216 14 rfl
theorem e216_24 (L : VL) (st : List Value) (h : VG) : ev 216 24 L (st) h = ev 216 25 L (.int (0 : Int32) :: st) h := G_iconst f216_24 (by decide)
theorem f216_25 : fetch 216 25 = some (.invokevirtual 296, 3) := vtab tk216 15 rfl
theorem e216_25 (L : VL) (st : List Value) (h : VG) (b : Nat) (x0 : Int32) (x1 : Int32) (ho : ob h b 11) (hs : catS st ≤ 8) : ev 216 25 L (.int x1 :: .int x0 :: .ref b :: st) h = (ev 169 0 [some (.ref b), some (.int x0), some (.int x1), none, none, none, none] [] h).bind fun q => ev 216 28 L (q.1.toList ++ st) q.2 := G_callv (k := 1) (p := 1321) (ars := [.int x0, .int x1]) f216_25 lkC_12_296 (by decide) (by decide +kernel) rfl (vcls_ob (ci := 11) (by decide) ho) (Nat.le_of_ble_eq_true rfl) hs rfl
theorem f216_28 : fetch 216 28 = some (.aload_n 0, 1) := vtab tk216 16 rfl
theorem e216_28 (L : VL) (st : List Value) (h : VG) (x : Nat) : ev 216 28 (some (.ref x) :: L) (st) h = ev 216 29 (some (.ref x) :: L) (.ref x :: st) h := G_aload_n f216_28 rfl
theorem f216_29 : fetch 216 29 = some (.iload_n 3, 1) := vtab tk216 17 rfl
theorem e216_29 (l0 l1 l2 : Option Value) (L : VL) (st : List Value) (h : VG) (x : Int32) : ev 216 29 (l0 :: l1 :: l2 :: some (.int x) :: L) (st) h = ev 216 30 (l0 :: l1 :: l2 :: some (.int x) :: L) (.int x :: st) h := G_iload_n f216_29 rfl
theorem f216_30 : fetch 216 30 = some (.aload_n 0, 1) := vtab tk216 18 rfl
theorem e216_30 (L : VL) (st : List Value) (h : VG) (x : Nat) : ev 216 30 (some (.ref x) :: L) (st) h = ev 216 31 (some (.ref x) :: L) (.ref x :: st) h := G_aload_n f216_30 rfl
theorem f216_31 : fetch 216 31 = some (.getfield 290, 3) := vtab tk216 19 rfl
theorem e216_31 (L : VL) (st : List Value) (h : VG) (a : Nat) (ho : ob h a 11) : ev 216 31 L (.ref a :: st) h = ev 216 34 L (.int (gI h a 36) :: st) h := G_getI (p := 1049) f216_31 lkF_12_290 (by decide) (by decide) ho
theorem f216_34 : fetch 216 34 = some (.invokevirtual 409, 3) := vtab tk216 20 rfl
theorem e216_34 (L : VL) (st : List Value) (h : VG) (b : Nat) (x0 : Int32) (x1 : Int32) (ho : ob h b 11) (hs : catS st ≤ 8) : ev 216 34 L (.int x1 :: .int x0 :: .ref b :: st) h = (ev 202 0 [some (.ref b), some (.int x0), some (.int x1)] [] h).bind fun q => ev 216 37 L (q.1.toList ++ st) q.2 := G_callv (k := 1) (p := 1463) (ars := [.int x0, .int x1]) f216_34 lkC_12_409 (by decide) (by decide +kernel) rfl (vcls_ob (ci := 11) (by decide) ho) (Nat.le_of_ble_eq_true rfl) hs rfl
theorem f216_37 : fetch 216 37 = some (.ifCond .eq 7, 3) := vtab tk216 21 rfl
theorem e216_37 (L : VL) (st : List Value) (h : VG) (x : Int32) : ev 216 37 L (.int x :: st) h = if x = 0 then ev 216 44 L st h else ev 216 40 L st h := G_if_eq f216_37 (by decide)
theorem f216_40 : fetch 216 40 = some (.iconst 0, 1) := vtab tk216 22 rfl
theorem e216_40 (L : VL) (st : List Value) (h : VG) : ev 216 40 L (st) h = ev 216 41 L (.int (0 : Int32) :: st) h := G_iconst f216_40 (by decide)
theorem f216_41 : fetch 216 41 = some (.goto 4, 3) := vtab tk216 23 rfl
theorem e216_41 (L : VL) (st : List Value) (h : VG) : ev 216 41 L (st) h = ev 216 45 L (st) h := G_goto f216_41 (by decide)
theorem f216_44 : fetch 216 44 = some (.iconst 5, 1) := vtab tk216 24 rfl
theorem e216_44 (L : VL) (st : List Value) (h : VG) : ev 216 44 L (st) h = ev 216 45 L (.int (5 : Int32) :: st) h := G_iconst f216_44 (by decide)
theorem f216_45 : fetch 216 45 = some (.istore 4, 2) := vtab tk216 25 rfl
theorem e216_45 (l0 l1 l2 l3 l4 : Option Value) (L : VL) (st : List Value) (h : VG) (x : Int32) : ev 216 45 (l0 :: l1 :: l2 :: l3 :: l4 :: L) (.int x :: st) h = ev 216 47 (l0 :: l1 :: l2 :: vkk l3 :: some (.int x) :: L) (st) h := G_istore f216_45 rfl (S1_4 l0 l1 l2 l3 l4 L _)
theorem f216_47 : fetch 216 47 = some (.aload_n 0, 1) := vtab tk216 26 rfl
theorem e216_47 (L : VL) (st : List Value) (h : VG) (x : Nat) : ev 216 47 (some (.ref x) :: L) (st) h = ev 216 48 (some (.ref x) :: L) (.ref x :: st) h := G_aload_n f216_47 rfl
theorem f216_48 : fetch 216 48 = some (.invokevirtual 434, 3) := vtab tk216 27 rfl
theorem e216_48 (L : VL) (st : List Value) (h : VG) (b : Nat)  (ho : ob h b 11) (hs : catS st ≤ 8) : ev 216 48 L (.ref b :: st) h = (ev 205 0 [some (.ref b), none] [] h).bind fun q => ev 216 51 L (q.1.toList ++ st) q.2 := G_callv (k := 1) (p := 1496) (ars := []) f216_48 lkC_12_434 (by decide) (by decide +kernel) rfl (vcls_ob (ci := 11) (by decide) ho) (Nat.le_of_ble_eq_true rfl) hs rfl
theorem f216_51 : fetch 216 51 = some (.iconst 0, 1) := vtab tk216 28 rfl
theorem e216_51 (L : VL) (st : List Value) (h : VG) : ev 216 51 L (st) h = ev 216 52 L (.int (0 : Int32) :: st) h := G_iconst f216_51 (by decide)
theorem f216_52 : fetch 216 52 = some (.istore 5, 2) := vtab tk216 29 rfl
theorem e216_52 (l0 l1 l2 l3 l4 l5 : Option Value) (L : VL) (st : List Value) (h : VG) (x : Int32) : ev 216 52 (l0 :: l1 :: l2 :: l3 :: l4 :: l5 :: L) (.int x :: st) h = ev 216 54 (l0 :: l1 :: l2 :: l3 :: vkk l4 :: some (.int x) :: L) (st) h := G_istore f216_52 rfl (S1_5 l0 l1 l2 l3 l4 l5 L _)
theorem f216_54 : fetch 216 54 = some (.iload 5, 2) := vtab tk216 30 rfl
theorem e216_54 (l0 l1 l2 l3 l4 : Option Value) (L : VL) (st : List Value) (h : VG) (x : Int32) : ev 216 54 (l0 :: l1 :: l2 :: l3 :: l4 :: some (.int x) :: L) (st) h = ev 216 56 (l0 :: l1 :: l2 :: l3 :: l4 :: some (.int x) :: L) (.int x :: st) h := G_iload f216_54 rfl
theorem f216_56 : fetch 216 56 = some (.aload_n 0, 1) := vtab tk216 31 rfl
theorem e216_56 (L : VL) (st : List Value) (h : VG) (x : Nat) : ev 216 56 (some (.ref x) :: L) (st) h = ev 216 57 (some (.ref x) :: L) (.ref x :: st) h := G_aload_n f216_56 rfl
theorem f216_57 : fetch 216 57 = some (.iload_n 1, 1) := vtab tk216 32 rfl
theorem e216_57 (l0 : Option Value) (L : VL) (st : List Value) (h : VG) (x : Int32) : ev 216 57 (l0 :: some (.int x) :: L) (st) h = ev 216 58 (l0 :: some (.int x) :: L) (.int x :: st) h := G_iload_n f216_57 rfl
theorem f216_58 : fetch 216 58 = some (.invokevirtual 300, 3) := vtab tk216 33 rfl
theorem e216_58 (L : VL) (st : List Value) (h : VG) (b : Nat) (x0 : Int32) (ho : ob h b 11) (hs : catS st ≤ 8) : ev 216 58 L (.int x0 :: .ref b :: st) h = (ev 170 0 [some (.ref b), some (.int x0), none, none] [] h).bind fun q => ev 216 61 L (q.1.toList ++ st) q.2 := G_callv (k := 1) (p := 1339) (ars := [.int x0]) f216_58 lkC_12_300 (by decide) (by decide +kernel) rfl (vcls_ob (ci := 11) (by decide) ho) (Nat.le_of_ble_eq_true rfl) hs rfl
theorem f216_61 : fetch 216 61 = some (.if_icmp .ge 66, 3) := vtab tk216 34 rfl
theorem e216_61 (L : VL) (st : List Value) (h : VG) (x y : Int32) : ev 216 61 L (.int y :: .int x :: st) h = if x < y then ev 216 64 L st h else ev 216 127 L st h := G_icmp_ge f216_61 (by decide)
theorem f216_64 : fetch 216 64 = some (.iload 4, 2) := vtab tk216 35 rfl
theorem e216_64 (l0 l1 l2 l3 : Option Value) (L : VL) (st : List Value) (h : VG) (x : Int32) : ev 216 64 (l0 :: l1 :: l2 :: l3 :: some (.int x) :: L) (st) h = ev 216 66 (l0 :: l1 :: l2 :: l3 :: some (.int x) :: L) (.int x :: st) h := G_iload f216_64 rfl
theorem f216_66 : fetch 216 66 = some (.ifCond .ne 61, 3) := vtab tk216 36 rfl
theorem e216_66 (L : VL) (st : List Value) (h : VG) (x : Int32) : ev 216 66 L (.int x :: st) h = if x = 0 then ev 216 69 L st h else ev 216 127 L st h := G_if_ne f216_66 (by decide)
theorem f216_69 : fetch 216 69 = some (.aload_n 0, 1) := vtab tk216 37 rfl
theorem e216_69 (L : VL) (st : List Value) (h : VG) (x : Nat) : ev 216 69 (some (.ref x) :: L) (st) h = ev 216 70 (some (.ref x) :: L) (.ref x :: st) h := G_aload_n f216_69 rfl
theorem f216_70 : fetch 216 70 = some (.iload_n 1, 1) := vtab tk216 38 rfl
theorem e216_70 (l0 : Option Value) (L : VL) (st : List Value) (h : VG) (x : Int32) : ev 216 70 (l0 :: some (.int x) :: L) (st) h = ev 216 71 (l0 :: some (.int x) :: L) (.int x :: st) h := G_iload_n f216_70 rfl
theorem f216_71 : fetch 216 71 = some (.iload 5, 2) := vtab tk216 39 rfl
theorem e216_71 (l0 l1 l2 l3 l4 : Option Value) (L : VL) (st : List Value) (h : VG) (x : Int32) : ev 216 71 (l0 :: l1 :: l2 :: l3 :: l4 :: some (.int x) :: L) (st) h = ev 216 73 (l0 :: l1 :: l2 :: l3 :: l4 :: some (.int x) :: L) (.int x :: st) h := G_iload f216_71 rfl
theorem f216_73 : fetch 216 73 = some (.invokevirtual 306, 3) := vtab tk216 40 rfl
theorem e216_73 (L : VL) (st : List Value) (h : VG) (b : Nat) (x0 : Int32) (x1 : Int32) (ho : ob h b 11) (hs : catS st ≤ 8) : ev 216 73 L (.int x1 :: .int x0 :: .ref b :: st) h = (ev 174 0 [some (.ref b), some (.int x0), some (.int x1)] [] h).bind fun q => ev 216 76 L (q.1.toList ++ st) q.2 := G_callv (k := 1) (p := 1347) (ars := [.int x0, .int x1]) f216_73 lkC_12_306 (by decide) (by decide +kernel) rfl (vcls_ob (ci := 11) (by decide) ho) (Nat.le_of_ble_eq_true rfl) hs rfl
theorem f216_76 : fetch 216 76 = some (.istore 6, 2) := vtab tk216 41 rfl
theorem e216_76 (l0 l1 l2 l3 l4 l5 l6 : Option Value) (L : VL) (st : List Value) (h : VG) (x : Int32) : ev 216 76 (l0 :: l1 :: l2 :: l3 :: l4 :: l5 :: l6 :: L) (.int x :: st) h = ev 216 78 (l0 :: l1 :: l2 :: l3 :: l4 :: vkk l5 :: some (.int x) :: L) (st) h := G_istore f216_76 rfl (S1_6 l0 l1 l2 l3 l4 l5 l6 L _)
theorem f216_78 : fetch 216 78 = some (.aload_n 0, 1) := vtab tk216 42 rfl
theorem e216_78 (L : VL) (st : List Value) (h : VG) (x : Nat) : ev 216 78 (some (.ref x) :: L) (st) h = ev 216 79 (some (.ref x) :: L) (.ref x :: st) h := G_aload_n f216_78 rfl
theorem f216_79 : fetch 216 79 = some (.iload_n 2, 1) := vtab tk216 43 rfl
theorem e216_79 (l0 l1 : Option Value) (L : VL) (st : List Value) (h : VG) (x : Int32) : ev 216 79 (l0 :: l1 :: some (.int x) :: L) (st) h = ev 216 80 (l0 :: l1 :: some (.int x) :: L) (.int x :: st) h := G_iload_n f216_79 rfl
theorem f216_80 : fetch 216 80 = some (.iload 5, 2) := vtab tk216 44 rfl
theorem e216_80 (l0 l1 l2 l3 l4 : Option Value) (L : VL) (st : List Value) (h : VG) (x : Int32) : ev 216 80 (l0 :: l1 :: l2 :: l3 :: l4 :: some (.int x) :: L) (st) h = ev 216 82 (l0 :: l1 :: l2 :: l3 :: l4 :: some (.int x) :: L) (.int x :: st) h := G_iload f216_80 rfl
theorem f216_82 : fetch 216 82 = some (.iload 6, 2) := vtab tk216 45 rfl
theorem e216_82 (l0 l1 l2 l3 l4 l5 : Option Value) (L : VL) (st : List Value) (h : VG) (x : Int32) : ev 216 82 (l0 :: l1 :: l2 :: l3 :: l4 :: l5 :: some (.int x) :: L) (st) h = ev 216 84 (l0 :: l1 :: l2 :: l3 :: l4 :: l5 :: some (.int x) :: L) (.int x :: st) h := G_iload f216_82 rfl
theorem f216_84 : fetch 216 84 = some (.bipush 8, 2) := vtab tk216 46 rfl
theorem e216_84 (L : VL) (st : List Value) (h : VG) : ev 216 84 L (st) h = ev 216 86 L (.int (8 : Int32) :: st) h := G_bipush f216_84 (by decide)
theorem f216_86 : fetch 216 86 = some (.if_icmp .lt 7, 3) := vtab tk216 47 rfl
theorem e216_86 (L : VL) (st : List Value) (h : VG) (x y : Int32) : ev 216 86 L (.int y :: .int x :: st) h = if x < y then ev 216 93 L st h else ev 216 89 L st h := G_icmp_lt f216_86 (by decide)
theorem f216_89 : fetch 216 89 = some (.iconst 5, 1) := vtab tk216 48 rfl
theorem e216_89 (L : VL) (st : List Value) (h : VG) : ev 216 89 L (st) h = ev 216 90 L (.int (5 : Int32) :: st) h := G_iconst f216_89 (by decide)
theorem f216_90 : fetch 216 90 = some (.goto 5, 3) := vtab tk216 49 rfl
theorem e216_90 (L : VL) (st : List Value) (h : VG) : ev 216 90 L (st) h = ev 216 95 L (st) h := G_goto f216_90 (by decide)
theorem f216_93 : fetch 216 93 = some (.iload 6, 2) := vtab tk216 50 rfl
theorem e216_93 (l0 l1 l2 l3 l4 l5 : Option Value) (L : VL) (st : List Value) (h : VG) (x : Int32) : ev 216 93 (l0 :: l1 :: l2 :: l3 :: l4 :: l5 :: some (.int x) :: L) (st) h = ev 216 95 (l0 :: l1 :: l2 :: l3 :: l4 :: l5 :: some (.int x) :: L) (.int x :: st) h := G_iload f216_93 rfl
theorem f216_95 : fetch 216 95 = some (.invokevirtual 353, 3) := vtab tk216 51 rfl
theorem e216_95 (L : VL) (st : List Value) (h : VG) (b : Nat) (x0 : Int32) (x1 : Int32) (x2 : Int32) (ho : ob h b 11) (hs : catS st ≤ 8) : ev 216 95 L (.int x2 :: .int x1 :: .int x0 :: .ref b :: st) h = (ev 188 0 [some (.ref b), some (.int x0), some (.int x1), some (.int x2), none] [] h).bind fun q => ev 216 98 L (q.1.toList ++ st) q.2 := G_callv (k := 1) (p := 1377) (ars := [.int x0, .int x1, .int x2]) f216_95 lkC_12_353 (by decide) (by decide +kernel) rfl (vcls_ob (ci := 11) (by decide) ho) (Nat.le_of_ble_eq_true rfl) hs rfl
theorem f216_98 : fetch 216 98 = some (.istore 4, 2) := vtab tk216 52 rfl
theorem e216_98 (l0 l1 l2 l3 l4 : Option Value) (L : VL) (st : List Value) (h : VG) (x : Int32) : ev 216 98 (l0 :: l1 :: l2 :: l3 :: l4 :: L) (.int x :: st) h = ev 216 100 (l0 :: l1 :: l2 :: vkk l3 :: some (.int x) :: L) (st) h := G_istore f216_98 rfl (S1_4 l0 l1 l2 l3 l4 L _)
theorem f216_100 : fetch 216 100 = some (.iload 4, 2) := vtab tk216 53 rfl
theorem e216_100 (l0 l1 l2 l3 : Option Value) (L : VL) (st : List Value) (h : VG) (x : Int32) : ev 216 100 (l0 :: l1 :: l2 :: l3 :: some (.int x) :: L) (st) h = ev 216 102 (l0 :: l1 :: l2 :: l3 :: some (.int x) :: L) (.int x :: st) h := G_iload f216_100 rfl
theorem f216_102 : fetch 216 102 = some (.ifCond .ne 19, 3) := vtab tk216 54 rfl
theorem e216_102 (L : VL) (st : List Value) (h : VG) (x : Int32) : ev 216 102 L (.int x :: st) h = if x = 0 then ev 216 105 L st h else ev 216 121 L st h := G_if_ne f216_102 (by decide)
theorem f216_105 : fetch 216 105 = some (.aload_n 0, 1) := vtab tk216 55 rfl
theorem e216_105 (L : VL) (st : List Value) (h : VG) (x : Nat) : ev 216 105 (some (.ref x) :: L) (st) h = ev 216 106 (some (.ref x) :: L) (.ref x :: st) h := G_aload_n f216_105 rfl
theorem f216_106 : fetch 216 106 = some (.aload_n 0, 1) := vtab tk216 56 rfl
theorem e216_106 (L : VL) (st : List Value) (h : VG) (x : Nat) : ev 216 106 (some (.ref x) :: L) (st) h = ev 216 107 (some (.ref x) :: L) (.ref x :: st) h := G_aload_n f216_106 rfl
theorem f216_107 : fetch 216 107 = some (.iload_n 1, 1) := vtab tk216 57 rfl
theorem e216_107 (l0 : Option Value) (L : VL) (st : List Value) (h : VG) (x : Int32) : ev 216 107 (l0 :: some (.int x) :: L) (st) h = ev 216 108 (l0 :: some (.int x) :: L) (.int x :: st) h := G_iload_n f216_107 rfl
theorem f216_108 : fetch 216 108 = some (.iload 5, 2) := vtab tk216 58 rfl
theorem e216_108 (l0 l1 l2 l3 l4 : Option Value) (L : VL) (st : List Value) (h : VG) (x : Int32) : ev 216 108 (l0 :: l1 :: l2 :: l3 :: l4 :: some (.int x) :: L) (st) h = ev 216 110 (l0 :: l1 :: l2 :: l3 :: l4 :: some (.int x) :: L) (.int x :: st) h := G_iload f216_108 rfl
theorem f216_110 : fetch 216 110 = some (.iconst 0, 1) := vtab tk216 59 rfl
theorem e216_110 (L : VL) (st : List Value) (h : VG) : ev 216 110 L (st) h = ev 216 111 L (.int (0 : Int32) :: st) h := G_iconst f216_110 (by decide)
theorem f216_111 : fetch 216 111 = some (.invokevirtual 412, 3) := vtab tk216 60 rfl
theorem e216_111 (L : VL) (st : List Value) (h : VG) (b : Nat) (x0 : Int32) (x1 : Int32) (x2 : Int32) (ho : ob h b 11) (hs : catS st ≤ 8) : ev 216 111 L (.int x2 :: .int x1 :: .int x0 :: .ref b :: st) h = (ev 175 0 [some (.ref b), some (.int x0), some (.int x1), some (.int x2), none, none, none] [] h).bind fun q => ev 216 114 L (q.1.toList ++ st) q.2 := G_callv (k := 1) (p := 1467) (ars := [.int x0, .int x1, .int x2]) f216_111 lkC_12_412 (by decide) (by decide +kernel) rfl (vcls_ob (ci := 11) (by decide) ho) (Nat.le_of_ble_eq_true rfl) hs rfl
theorem f216_114 : fetch 216 114 = some (.iload 6, 2) := vtab tk216 61 rfl
theorem e216_114 (l0 l1 l2 l3 l4 l5 : Option Value) (L : VL) (st : List Value) (h : VG) (x : Int32) : ev 216 114 (l0 :: l1 :: l2 :: l3 :: l4 :: l5 :: some (.int x) :: L) (st) h = ev 216 116 (l0 :: l1 :: l2 :: l3 :: l4 :: l5 :: some (.int x) :: L) (.int x :: st) h := G_iload f216_114 rfl
theorem f216_116 : fetch 216 116 = some (.invokevirtual 437, 3) := vtab tk216 62 rfl
theorem e216_116 (L : VL) (st : List Value) (h : VG) (b : Nat) (x0 : Int32) (x1 : Int32) (ho : ob h b 11) (hs : catS st ≤ 8) : ev 216 116 L (.int x1 :: .int x0 :: .ref b :: st) h = (ev 215 0 [some (.ref b), some (.int x0), some (.int x1), none, none] [] h).bind fun q => ev 216 119 L (q.1.toList ++ st) q.2 := G_callv (k := 1) (p := 1500) (ars := [.int x0, .int x1]) f216_116 lkC_12_437 (by decide) (by decide +kernel) rfl (vcls_ob (ci := 11) (by decide) ho) (Nat.le_of_ble_eq_true rfl) hs rfl
theorem f216_119 : fetch 216 119 = some (.istore 4, 2) := vtab tk216 63 rfl
theorem e216_119 (l0 l1 l2 l3 l4 : Option Value) (L : VL) (st : List Value) (h : VG) (x : Int32) : ev 216 119 (l0 :: l1 :: l2 :: l3 :: l4 :: L) (.int x :: st) h = ev 216 121 (l0 :: l1 :: l2 :: vkk l3 :: some (.int x) :: L) (st) h := G_istore f216_119 rfl (S1_4 l0 l1 l2 l3 l4 L _)
theorem f216_121 : fetch 216 121 = some (.iinc 5 1, 3) := vtab tk216 64 rfl
theorem e216_121 (l0 l1 l2 l3 l4 : Option Value) (L : VL) (st : List Value) (h : VG) (x : Int32) : ev 216 121 (l0 :: l1 :: l2 :: l3 :: l4 :: some (.int x) :: L) (st) h = ev 216 124 (l0 :: l1 :: l2 :: l3 :: vkk l4 :: some (.int (x + (1 : Int32))) :: L) (st) h := G_iinc f216_121 rfl (by decide) (S1_5 l0 l1 l2 l3 l4 (some (.int x)) L _)
theorem f216_124 : fetch 216 124 = some (.goto (-70), 3) := vtab tk216 65 rfl
theorem e216_124 (L : VL) (st : List Value) (h : VG) : ev 216 124 L (st) h = ev 216 54 L (st) h := G_goto f216_124 (by decide)
theorem f216_127 : fetch 216 127 = some (.aload_n 0, 1) := vtab tk216 66 rfl
theorem e216_127 (L : VL) (st : List Value) (h : VG) (x : Nat) : ev 216 127 (some (.ref x) :: L) (st) h = ev 216 128 (some (.ref x) :: L) (.ref x :: st) h := G_aload_n f216_127 rfl
theorem f216_128 : fetch 216 128 = some (.iload 4, 2) := vtab tk216 67 rfl
theorem e216_128 (l0 l1 l2 l3 : Option Value) (L : VL) (st : List Value) (h : VG) (x : Int32) : ev 216 128 (l0 :: l1 :: l2 :: l3 :: some (.int x) :: L) (st) h = ev 216 130 (l0 :: l1 :: l2 :: l3 :: some (.int x) :: L) (.int x :: st) h := G_iload f216_128 rfl
theorem f216_130 : fetch 216 130 = some (.invokevirtual 347, 3) := vtab tk216 68 rfl
theorem e216_130 (L : VL) (st : List Value) (h : VG) (b : Nat) (x0 : Int32) (ho : ob h b 11) (hs : catS st ≤ 8) : ev 216 130 L (.int x0 :: .ref b :: st) h = (ev 164 0 [some (.ref b), some (.int x0)] [] h).bind fun q => ev 216 133 L (q.1.toList ++ st) q.2 := G_callv (k := 1) (p := 1366) (ars := [.int x0]) f216_130 lkC_12_347 (by decide) (by decide +kernel) rfl (vcls_ob (ci := 11) (by decide) ho) (Nat.le_of_ble_eq_true rfl) hs rfl
theorem f216_133 : fetch 216 133 = some (.ifCond .ne 5, 3) := vtab tk216 69 rfl
theorem e216_133 (L : VL) (st : List Value) (h : VG) (x : Int32) : ev 216 133 L (.int x :: st) h = if x = 0 then ev 216 136 L st h else ev 216 138 L st h := G_if_ne f216_133 (by decide)
theorem f216_136 : fetch 216 136 = some (.iconst (-1), 1) := vtab tk216 70 rfl
theorem e216_136 (L : VL) (st : List Value) (h : VG) : ev 216 136 L (st) h = ev 216 137 L (.int (-1 : Int32) :: st) h := G_iconst f216_136 (by decide)
theorem f216_137 : fetch 216 137 = some (.ireturn, 1) := vtab tk216 71 rfl
theorem e216_137 (L : VL) (h : VG) (x : Int32) : ev 216 137 L [.int x] h = some (some (.int x), h) := G_iret f216_137 (ty := .int) (by decide) rfl
theorem f216_138 : fetch 216 138 = some (.aload_n 0, 1) := vtab tk216 72 rfl
theorem e216_138 (L : VL) (st : List Value) (h : VG) (x : Nat) : ev 216 138 (some (.ref x) :: L) (st) h = ev 216 139 (some (.ref x) :: L) (.ref x :: st) h := G_aload_n f216_138 rfl
theorem f216_139 : fetch 216 139 = some (.iload_n 3, 1) := vtab tk216 73 rfl
theorem e216_139 (l0 l1 l2 : Option Value) (L : VL) (st : List Value) (h : VG) (x : Int32) : ev 216 139 (l0 :: l1 :: l2 :: some (.int x) :: L) (st) h = ev 216 140 (l0 :: l1 :: l2 :: some (.int x) :: L) (.int x :: st) h := G_iload_n f216_139 rfl
theorem f216_140 : fetch 216 140 = some (.aload_n 0, 1) := vtab tk216 74 rfl
theorem e216_140 (L : VL) (st : List Value) (h : VG) (x : Nat) : ev 216 140 (some (.ref x) :: L) (st) h = ev 216 141 (some (.ref x) :: L) (.ref x :: st) h := G_aload_n f216_140 rfl
theorem f216_141 : fetch 216 141 = some (.getfield 290, 3) := vtab tk216 75 rfl
theorem e216_141 (L : VL) (st : List Value) (h : VG) (a : Nat) (ho : ob h a 11) : ev 216 141 L (.ref a :: st) h = ev 216 144 L (.int (gI h a 36) :: st) h := G_getI (p := 1049) f216_141 lkF_12_290 (by decide) (by decide) ho
theorem f216_144 : fetch 216 144 = some (.invokevirtual 440, 3) := vtab tk216 76 rfl
theorem e216_144 (L : VL) (st : List Value) (h : VG) (b : Nat) (x0 : Int32) (x1 : Int32) (ho : ob h b 11) (hs : catS st ≤ 8) : ev 216 144 L (.int x1 :: .int x0 :: .ref b :: st) h = (ev 207 0 [some (.ref b), some (.int x0), some (.int x1), none] [] h).bind fun q => ev 216 147 L (q.1.toList ++ st) q.2 := G_callv (k := 1) (p := 1519) (ars := [.int x0, .int x1]) f216_144 lkC_12_440 (by decide) (by decide +kernel) rfl (vcls_ob (ci := 11) (by decide) ho) (Nat.le_of_ble_eq_true rfl) hs rfl
theorem f216_147 : fetch 216 147 = some (.aload_n 0, 1) := vtab tk216 77 rfl
theorem e216_147 (L : VL) (st : List Value) (h : VG) (x : Nat) : ev 216 147 (some (.ref x) :: L) (st) h = ev 216 148 (some (.ref x) :: L) (.ref x :: st) h := G_aload_n f216_147 rfl
theorem f216_148 : fetch 216 148 = some (.getfield 290, 3) := vtab tk216 78 rfl
theorem e216_148 (L : VL) (st : List Value) (h : VG) (a : Nat) (ho : ob h a 11) : ev 216 148 L (.ref a :: st) h = ev 216 151 L (.int (gI h a 36) :: st) h := G_getI (p := 1049) f216_148 lkF_12_290 (by decide) (by decide) ho
theorem f216_151 : fetch 216 151 = some (.ireturn, 1) := vtab tk216 79 rfl
theorem e216_151 (L : VL) (h : VG) (x : Int32) : ev 216 151 L [.int x] h = some (some (.int x), h) := G_iret f216_151 (ty := .int) (by decide) rfl
/-! 217 GuestCallsModel.turn(IIIZ)I -/
def tb217 : List (Nat × Instr × Nat) := [(0, .aload_n 0, 1), (1, .iconst 0, 1), (2, .putfield 244, 3), (5, .aload_n 0, 1), (6, .iload_n 1, 1), (7, .invokevirtual 293, 3), (10, .ifCond .ne 5, 3), (13, .iconst (-1), 1), (14, .ireturn, 1), (15, .aload_n 0, 1), (16, .iload_n 1, 1), (17, .iload 4, 2), (19, .ifCond .ne 7, 3), (22, .iconst 1, 1), (23, .goto 4, 3), (26, .iconst 0, 1), (27, .invokevirtual 296, 3), (30, .aload_n 0, 1), (31, .getfield 290, 3), (34, .istore 5, 2), (36, .aload_n 0, 1), (37, .iload_n 2, 1), (38, .iload 5, 2), (40, .invokevirtual 409, 3), (43, .ifCond .eq 7, 3), (46, .iconst 0, 1), (47, .goto 4, 3), (50, .iconst 5, 1), (51, .istore 6, 2), (53, .aload_n 0, 1), (54, .iload_n 1, 1), (55, .iload 4, 2), (57, .invokevirtual 296, 3), (60, .aload_n 0, 1), (61, .getfield 290, 3), (64, .istore 7, 2), (66, .iload 6, 2), (68, .ifCond .ne 16, 3), (71, .aload_n 0, 1), (72, .iload_n 3, 1), (73, .iload 7, 2), (75, .invokevirtual 409, 3), (78, .ifCond .ne 6, 3), (81, .iconst 5, 1), (82, .istore 6, 2), (84, .aload_n 0, 1), (85, .invokevirtual 434, 3), (88, .iconst 0, 1), (89, .istore 8, 2), (91, .iload 8, 2), (93, .aload_n 0, 1), (94, .iload_n 1, 1), (95, .invokevirtual 300, 3), (98, .if_icmp .ge 26, 3), (101, .iload 6, 2), (103, .ifCond .ne 21, 3), (106, .aload_n 0, 1), (107, .iload_n 1, 1), (108, .iload 8, 2), (110, .iload_n 2, 1), (111, .iload 4, 2), (113, .invokevirtual 443, 3), (116, .istore 6, 2), (118, .iinc 8 1, 3), (121, .goto (-30), 3), (124, .aload_n 0, 1), (125, .iload 6, 2), (127, .invokevirtual 347, 3), (130, .ifCond .ne 5, 3), (133, .iconst (-1), 1), (134, .ireturn, 1), (135, .iconst 0, 1), (136, .istore 8, 2), (138, .iload 8, 2), (140, .iload 7, 2), (142, .if_icmp .ge 25, 3), (145, .aload_n 0, 1), (146, .getfield 52, 3), (149, .iload_n 3, 1), (150, .iload 8, 2), (152, .iadd, 1), (153, .aload_n 0, 1), (154, .getfield 101, 3), (157, .iload 8, 2), (159, .iaload, 1), (160, .iastore, 1), (161, .iinc 8 1, 3), (164, .goto (-26), 3), (167, .iload 7, 2), (169, .ireturn, 1)]
theorem tk217 : tb217.all (fun q => decide (fetch 217 q.1 = some q.2)) = true := by decide +kernel
theorem f217_0 : fetch 217 0 = some (.aload_n 0, 1) := vtab tk217 0 rfl
theorem e217_0 (L : VL) (st : List Value) (h : VG) (x : Nat) : ev 217 0 (some (.ref x) :: L) (st) h = ev 217 1 (some (.ref x) :: L) (.ref x :: st) h := G_aload_n f217_0 rfl
theorem f217_1 : fetch 217 1 = some (.iconst 0, 1) := vtab tk217 1 rfl
theorem e217_1 (L : VL) (st : List Value) (h : VG) : ev 217 1 L (st) h = ev 217 2 L (.int (0 : Int32) :: st) h := G_iconst f217_1 (by decide)
theorem f217_2 : fetch 217 2 = some (.putfield 244, 3) := vtab tk217 2 rfl
theorem e217_2 (L : VL) (st : List Value) (h : VG) (a : Nat) (x : Int32) (ho : ob h a 11) : ev 217 2 L (.int x :: .ref a :: st) h = ev 217 5 L (st) (pI h a 31 x) := G_putI (p := 1044) f217_2 lkF_12_244 (by decide) (by decide) (by decide +kernel) ⟨rfl, rfl⟩ ho
theorem f217_5 : fetch 217 5 = some (.aload_n 0, 1) := vtab tk217 3 rfl
theorem e217_5 (L : VL) (st : List Value) (h : VG) (x : Nat) : ev 217 5 (some (.ref x) :: L) (st) h = ev 217 6 (some (.ref x) :: L) (.ref x :: st) h := G_aload_n f217_5 rfl
theorem f217_6 : fetch 217 6 = some (.iload_n 1, 1) := vtab tk217 4 rfl
theorem e217_6 (l0 : Option Value) (L : VL) (st : List Value) (h : VG) (x : Int32) : ev 217 6 (l0 :: some (.int x) :: L) (st) h = ev 217 7 (l0 :: some (.int x) :: L) (.int x :: st) h := G_iload_n f217_6 rfl
theorem f217_7 : fetch 217 7 = some (.invokevirtual 293, 3) := vtab tk217 5 rfl
theorem e217_7 (L : VL) (st : List Value) (h : VG) (b : Nat) (x0 : Int32) (ho : ob h b 11) (hs : catS st ≤ 8) : ev 217 7 L (.int x0 :: .ref b :: st) h = (ev 171 0 [some (.ref b), some (.int x0)] [] h).bind fun q => ev 217 10 L (q.1.toList ++ st) q.2 := G_callv (k := 1) (p := 1317) (ars := [.int x0]) f217_7 lkC_12_293 (by decide) (by decide +kernel) rfl (vcls_ob (ci := 11) (by decide) ho) (Nat.le_of_ble_eq_true rfl) hs rfl
theorem f217_10 : fetch 217 10 = some (.ifCond .ne 5, 3) := vtab tk217 6 rfl
theorem e217_10 (L : VL) (st : List Value) (h : VG) (x : Int32) : ev 217 10 L (.int x :: st) h = if x = 0 then ev 217 13 L st h else ev 217 15 L st h := G_if_ne f217_10 (by decide)
theorem f217_13 : fetch 217 13 = some (.iconst (-1), 1) := vtab tk217 7 rfl
theorem e217_13 (L : VL) (st : List Value) (h : VG) : ev 217 13 L (st) h = ev 217 14 L (.int (-1 : Int32) :: st) h := G_iconst f217_13 (by decide)
theorem f217_14 : fetch 217 14 = some (.ireturn, 1) := vtab tk217 8 rfl
theorem e217_14 (L : VL) (h : VG) (x : Int32) : ev 217 14 L [.int x] h = some (some (.int x), h) := G_iret f217_14 (ty := .int) (by decide) rfl
theorem f217_15 : fetch 217 15 = some (.aload_n 0, 1) := vtab tk217 9 rfl
theorem e217_15 (L : VL) (st : List Value) (h : VG) (x : Nat) : ev 217 15 (some (.ref x) :: L) (st) h = ev 217 16 (some (.ref x) :: L) (.ref x :: st) h := G_aload_n f217_15 rfl
theorem f217_16 : fetch 217 16 = some (.iload_n 1, 1) := vtab tk217 10 rfl
theorem e217_16 (l0 : Option Value) (L : VL) (st : List Value) (h : VG) (x : Int32) : ev 217 16 (l0 :: some (.int x) :: L) (st) h = ev 217 17 (l0 :: some (.int x) :: L) (.int x :: st) h := G_iload_n f217_16 rfl
theorem f217_17 : fetch 217 17 = some (.iload 4, 2) := vtab tk217 11 rfl
theorem e217_17 (l0 l1 l2 l3 : Option Value) (L : VL) (st : List Value) (h : VG) (x : Int32) : ev 217 17 (l0 :: l1 :: l2 :: l3 :: some (.int x) :: L) (st) h = ev 217 19 (l0 :: l1 :: l2 :: l3 :: some (.int x) :: L) (.int x :: st) h := G_iload f217_17 rfl
theorem f217_19 : fetch 217 19 = some (.ifCond .ne 7, 3) := vtab tk217 12 rfl
theorem e217_19 (L : VL) (st : List Value) (h : VG) (x : Int32) : ev 217 19 L (.int x :: st) h = if x = 0 then ev 217 22 L st h else ev 217 26 L st h := G_if_ne f217_19 (by decide)
theorem f217_22 : fetch 217 22 = some (.iconst 1, 1) := vtab tk217 13 rfl
theorem e217_22 (L : VL) (st : List Value) (h : VG) : ev 217 22 L (st) h = ev 217 23 L (.int (1 : Int32) :: st) h := G_iconst f217_22 (by decide)
theorem f217_23 : fetch 217 23 = some (.goto 4, 3) := vtab tk217 14 rfl
theorem e217_23 (L : VL) (st : List Value) (h : VG) : ev 217 23 L (st) h = ev 217 27 L (st) h := G_goto f217_23 (by decide)
theorem f217_26 : fetch 217 26 = some (.iconst 0, 1) := vtab tk217 15 rfl
theorem e217_26 (L : VL) (st : List Value) (h : VG) : ev 217 26 L (st) h = ev 217 27 L (.int (0 : Int32) :: st) h := G_iconst f217_26 (by decide)
theorem f217_27 : fetch 217 27 = some (.invokevirtual 296, 3) := vtab tk217 16 rfl
theorem e217_27 (L : VL) (st : List Value) (h : VG) (b : Nat) (x0 : Int32) (x1 : Int32) (ho : ob h b 11) (hs : catS st ≤ 8) : ev 217 27 L (.int x1 :: .int x0 :: .ref b :: st) h = (ev 169 0 [some (.ref b), some (.int x0), some (.int x1), none, none, none, none] [] h).bind fun q => ev 217 30 L (q.1.toList ++ st) q.2 := G_callv (k := 1) (p := 1321) (ars := [.int x0, .int x1]) f217_27 lkC_12_296 (by decide) (by decide +kernel) rfl (vcls_ob (ci := 11) (by decide) ho) (Nat.le_of_ble_eq_true rfl) hs rfl
theorem f217_30 : fetch 217 30 = some (.aload_n 0, 1) := vtab tk217 17 rfl
theorem e217_30 (L : VL) (st : List Value) (h : VG) (x : Nat) : ev 217 30 (some (.ref x) :: L) (st) h = ev 217 31 (some (.ref x) :: L) (.ref x :: st) h := G_aload_n f217_30 rfl
theorem f217_31 : fetch 217 31 = some (.getfield 290, 3) := vtab tk217 18 rfl
theorem e217_31 (L : VL) (st : List Value) (h : VG) (a : Nat) (ho : ob h a 11) : ev 217 31 L (.ref a :: st) h = ev 217 34 L (.int (gI h a 36) :: st) h := G_getI (p := 1049) f217_31 lkF_12_290 (by decide) (by decide) ho
theorem f217_34 : fetch 217 34 = some (.istore 5, 2) := vtab tk217 19 rfl
theorem e217_34 (l0 l1 l2 l3 l4 l5 : Option Value) (L : VL) (st : List Value) (h : VG) (x : Int32) : ev 217 34 (l0 :: l1 :: l2 :: l3 :: l4 :: l5 :: L) (.int x :: st) h = ev 217 36 (l0 :: l1 :: l2 :: l3 :: vkk l4 :: some (.int x) :: L) (st) h := G_istore f217_34 rfl (S1_5 l0 l1 l2 l3 l4 l5 L _)
theorem f217_36 : fetch 217 36 = some (.aload_n 0, 1) := vtab tk217 20 rfl
theorem e217_36 (L : VL) (st : List Value) (h : VG) (x : Nat) : ev 217 36 (some (.ref x) :: L) (st) h = ev 217 37 (some (.ref x) :: L) (.ref x :: st) h := G_aload_n f217_36 rfl
theorem f217_37 : fetch 217 37 = some (.iload_n 2, 1) := vtab tk217 21 rfl
theorem e217_37 (l0 l1 : Option Value) (L : VL) (st : List Value) (h : VG) (x : Int32) : ev 217 37 (l0 :: l1 :: some (.int x) :: L) (st) h = ev 217 38 (l0 :: l1 :: some (.int x) :: L) (.int x :: st) h := G_iload_n f217_37 rfl
theorem f217_38 : fetch 217 38 = some (.iload 5, 2) := vtab tk217 22 rfl
theorem e217_38 (l0 l1 l2 l3 l4 : Option Value) (L : VL) (st : List Value) (h : VG) (x : Int32) : ev 217 38 (l0 :: l1 :: l2 :: l3 :: l4 :: some (.int x) :: L) (st) h = ev 217 40 (l0 :: l1 :: l2 :: l3 :: l4 :: some (.int x) :: L) (.int x :: st) h := G_iload f217_38 rfl
theorem f217_40 : fetch 217 40 = some (.invokevirtual 409, 3) := vtab tk217 23 rfl
theorem e217_40 (L : VL) (st : List Value) (h : VG) (b : Nat) (x0 : Int32) (x1 : Int32) (ho : ob h b 11) (hs : catS st ≤ 8) : ev 217 40 L (.int x1 :: .int x0 :: .ref b :: st) h = (ev 202 0 [some (.ref b), some (.int x0), some (.int x1)] [] h).bind fun q => ev 217 43 L (q.1.toList ++ st) q.2 := G_callv (k := 1) (p := 1463) (ars := [.int x0, .int x1]) f217_40 lkC_12_409 (by decide) (by decide +kernel) rfl (vcls_ob (ci := 11) (by decide) ho) (Nat.le_of_ble_eq_true rfl) hs rfl
theorem f217_43 : fetch 217 43 = some (.ifCond .eq 7, 3) := vtab tk217 24 rfl
theorem e217_43 (L : VL) (st : List Value) (h : VG) (x : Int32) : ev 217 43 L (.int x :: st) h = if x = 0 then ev 217 50 L st h else ev 217 46 L st h := G_if_eq f217_43 (by decide)
theorem f217_46 : fetch 217 46 = some (.iconst 0, 1) := vtab tk217 25 rfl
theorem e217_46 (L : VL) (st : List Value) (h : VG) : ev 217 46 L (st) h = ev 217 47 L (.int (0 : Int32) :: st) h := G_iconst f217_46 (by decide)
theorem f217_47 : fetch 217 47 = some (.goto 4, 3) := vtab tk217 26 rfl
theorem e217_47 (L : VL) (st : List Value) (h : VG) : ev 217 47 L (st) h = ev 217 51 L (st) h := G_goto f217_47 (by decide)
theorem f217_50 : fetch 217 50 = some (.iconst 5, 1) := vtab tk217 27 rfl
theorem e217_50 (L : VL) (st : List Value) (h : VG) : ev 217 50 L (st) h = ev 217 51 L (.int (5 : Int32) :: st) h := G_iconst f217_50 (by decide)
theorem f217_51 : fetch 217 51 = some (.istore 6, 2) := vtab tk217 28 rfl
theorem e217_51 (l0 l1 l2 l3 l4 l5 l6 : Option Value) (L : VL) (st : List Value) (h : VG) (x : Int32) : ev 217 51 (l0 :: l1 :: l2 :: l3 :: l4 :: l5 :: l6 :: L) (.int x :: st) h = ev 217 53 (l0 :: l1 :: l2 :: l3 :: l4 :: vkk l5 :: some (.int x) :: L) (st) h := G_istore f217_51 rfl (S1_6 l0 l1 l2 l3 l4 l5 l6 L _)
theorem f217_53 : fetch 217 53 = some (.aload_n 0, 1) := vtab tk217 29 rfl
theorem e217_53 (L : VL) (st : List Value) (h : VG) (x : Nat) : ev 217 53 (some (.ref x) :: L) (st) h = ev 217 54 (some (.ref x) :: L) (.ref x :: st) h := G_aload_n f217_53 rfl
theorem f217_54 : fetch 217 54 = some (.iload_n 1, 1) := vtab tk217 30 rfl
theorem e217_54 (l0 : Option Value) (L : VL) (st : List Value) (h : VG) (x : Int32) : ev 217 54 (l0 :: some (.int x) :: L) (st) h = ev 217 55 (l0 :: some (.int x) :: L) (.int x :: st) h := G_iload_n f217_54 rfl
theorem f217_55 : fetch 217 55 = some (.iload 4, 2) := vtab tk217 31 rfl
theorem e217_55 (l0 l1 l2 l3 : Option Value) (L : VL) (st : List Value) (h : VG) (x : Int32) : ev 217 55 (l0 :: l1 :: l2 :: l3 :: some (.int x) :: L) (st) h = ev 217 57 (l0 :: l1 :: l2 :: l3 :: some (.int x) :: L) (.int x :: st) h := G_iload f217_55 rfl
theorem f217_57 : fetch 217 57 = some (.invokevirtual 296, 3) := vtab tk217 32 rfl
theorem e217_57 (L : VL) (st : List Value) (h : VG) (b : Nat) (x0 : Int32) (x1 : Int32) (ho : ob h b 11) (hs : catS st ≤ 8) : ev 217 57 L (.int x1 :: .int x0 :: .ref b :: st) h = (ev 169 0 [some (.ref b), some (.int x0), some (.int x1), none, none, none, none] [] h).bind fun q => ev 217 60 L (q.1.toList ++ st) q.2 := G_callv (k := 1) (p := 1321) (ars := [.int x0, .int x1]) f217_57 lkC_12_296 (by decide) (by decide +kernel) rfl (vcls_ob (ci := 11) (by decide) ho) (Nat.le_of_ble_eq_true rfl) hs rfl
theorem f217_60 : fetch 217 60 = some (.aload_n 0, 1) := vtab tk217 33 rfl
theorem e217_60 (L : VL) (st : List Value) (h : VG) (x : Nat) : ev 217 60 (some (.ref x) :: L) (st) h = ev 217 61 (some (.ref x) :: L) (.ref x :: st) h := G_aload_n f217_60 rfl
theorem f217_61 : fetch 217 61 = some (.getfield 290, 3) := vtab tk217 34 rfl
theorem e217_61 (L : VL) (st : List Value) (h : VG) (a : Nat) (ho : ob h a 11) : ev 217 61 L (.ref a :: st) h = ev 217 64 L (.int (gI h a 36) :: st) h := G_getI (p := 1049) f217_61 lkF_12_290 (by decide) (by decide) ho
theorem f217_64 : fetch 217 64 = some (.istore 7, 2) := vtab tk217 35 rfl
theorem e217_64 (l0 l1 l2 l3 l4 l5 l6 l7 : Option Value) (L : VL) (st : List Value) (h : VG) (x : Int32) : ev 217 64 (l0 :: l1 :: l2 :: l3 :: l4 :: l5 :: l6 :: l7 :: L) (.int x :: st) h = ev 217 66 (l0 :: l1 :: l2 :: l3 :: l4 :: l5 :: vkk l6 :: some (.int x) :: L) (st) h := G_istore f217_64 rfl (S1_7 l0 l1 l2 l3 l4 l5 l6 l7 L _)
theorem f217_66 : fetch 217 66 = some (.iload 6, 2) := vtab tk217 36 rfl
theorem e217_66 (l0 l1 l2 l3 l4 l5 : Option Value) (L : VL) (st : List Value) (h : VG) (x : Int32) : ev 217 66 (l0 :: l1 :: l2 :: l3 :: l4 :: l5 :: some (.int x) :: L) (st) h = ev 217 68 (l0 :: l1 :: l2 :: l3 :: l4 :: l5 :: some (.int x) :: L) (.int x :: st) h := G_iload f217_66 rfl
theorem f217_68 : fetch 217 68 = some (.ifCond .ne 16, 3) := vtab tk217 37 rfl
theorem e217_68 (L : VL) (st : List Value) (h : VG) (x : Int32) : ev 217 68 L (.int x :: st) h = if x = 0 then ev 217 71 L st h else ev 217 84 L st h := G_if_ne f217_68 (by decide)
theorem f217_71 : fetch 217 71 = some (.aload_n 0, 1) := vtab tk217 38 rfl
theorem e217_71 (L : VL) (st : List Value) (h : VG) (x : Nat) : ev 217 71 (some (.ref x) :: L) (st) h = ev 217 72 (some (.ref x) :: L) (.ref x :: st) h := G_aload_n f217_71 rfl
theorem f217_72 : fetch 217 72 = some (.iload_n 3, 1) := vtab tk217 39 rfl
theorem e217_72 (l0 l1 l2 : Option Value) (L : VL) (st : List Value) (h : VG) (x : Int32) : ev 217 72 (l0 :: l1 :: l2 :: some (.int x) :: L) (st) h = ev 217 73 (l0 :: l1 :: l2 :: some (.int x) :: L) (.int x :: st) h := G_iload_n f217_72 rfl
theorem f217_73 : fetch 217 73 = some (.iload 7, 2) := vtab tk217 40 rfl
theorem e217_73 (l0 l1 l2 l3 l4 l5 l6 : Option Value) (L : VL) (st : List Value) (h : VG) (x : Int32) : ev 217 73 (l0 :: l1 :: l2 :: l3 :: l4 :: l5 :: l6 :: some (.int x) :: L) (st) h = ev 217 75 (l0 :: l1 :: l2 :: l3 :: l4 :: l5 :: l6 :: some (.int x) :: L) (.int x :: st) h := G_iload f217_73 rfl
theorem f217_75 : fetch 217 75 = some (.invokevirtual 409, 3) := vtab tk217 41 rfl
theorem e217_75 (L : VL) (st : List Value) (h : VG) (b : Nat) (x0 : Int32) (x1 : Int32) (ho : ob h b 11) (hs : catS st ≤ 8) : ev 217 75 L (.int x1 :: .int x0 :: .ref b :: st) h = (ev 202 0 [some (.ref b), some (.int x0), some (.int x1)] [] h).bind fun q => ev 217 78 L (q.1.toList ++ st) q.2 := G_callv (k := 1) (p := 1463) (ars := [.int x0, .int x1]) f217_75 lkC_12_409 (by decide) (by decide +kernel) rfl (vcls_ob (ci := 11) (by decide) ho) (Nat.le_of_ble_eq_true rfl) hs rfl
theorem f217_78 : fetch 217 78 = some (.ifCond .ne 6, 3) := vtab tk217 42 rfl
theorem e217_78 (L : VL) (st : List Value) (h : VG) (x : Int32) : ev 217 78 L (.int x :: st) h = if x = 0 then ev 217 81 L st h else ev 217 84 L st h := G_if_ne f217_78 (by decide)
theorem f217_81 : fetch 217 81 = some (.iconst 5, 1) := vtab tk217 43 rfl
theorem e217_81 (L : VL) (st : List Value) (h : VG) : ev 217 81 L (st) h = ev 217 82 L (.int (5 : Int32) :: st) h := G_iconst f217_81 (by decide)
theorem f217_82 : fetch 217 82 = some (.istore 6, 2) := vtab tk217 44 rfl
theorem e217_82 (l0 l1 l2 l3 l4 l5 l6 : Option Value) (L : VL) (st : List Value) (h : VG) (x : Int32) : ev 217 82 (l0 :: l1 :: l2 :: l3 :: l4 :: l5 :: l6 :: L) (.int x :: st) h = ev 217 84 (l0 :: l1 :: l2 :: l3 :: l4 :: vkk l5 :: some (.int x) :: L) (st) h := G_istore f217_82 rfl (S1_6 l0 l1 l2 l3 l4 l5 l6 L _)
theorem f217_84 : fetch 217 84 = some (.aload_n 0, 1) := vtab tk217 45 rfl
theorem e217_84 (L : VL) (st : List Value) (h : VG) (x : Nat) : ev 217 84 (some (.ref x) :: L) (st) h = ev 217 85 (some (.ref x) :: L) (.ref x :: st) h := G_aload_n f217_84 rfl
theorem f217_85 : fetch 217 85 = some (.invokevirtual 434, 3) := vtab tk217 46 rfl
theorem e217_85 (L : VL) (st : List Value) (h : VG) (b : Nat)  (ho : ob h b 11) (hs : catS st ≤ 8) : ev 217 85 L (.ref b :: st) h = (ev 205 0 [some (.ref b), none] [] h).bind fun q => ev 217 88 L (q.1.toList ++ st) q.2 := G_callv (k := 1) (p := 1496) (ars := []) f217_85 lkC_12_434 (by decide) (by decide +kernel) rfl (vcls_ob (ci := 11) (by decide) ho) (Nat.le_of_ble_eq_true rfl) hs rfl
theorem f217_88 : fetch 217 88 = some (.iconst 0, 1) := vtab tk217 47 rfl
theorem e217_88 (L : VL) (st : List Value) (h : VG) : ev 217 88 L (st) h = ev 217 89 L (.int (0 : Int32) :: st) h := G_iconst f217_88 (by decide)
theorem f217_89 : fetch 217 89 = some (.istore 8, 2) := vtab tk217 48 rfl
theorem e217_89 (l0 l1 l2 l3 l4 l5 l6 l7 l8 : Option Value) (L : VL) (st : List Value) (h : VG) (x : Int32) : ev 217 89 (l0 :: l1 :: l2 :: l3 :: l4 :: l5 :: l6 :: l7 :: l8 :: L) (.int x :: st) h = ev 217 91 (l0 :: l1 :: l2 :: l3 :: l4 :: l5 :: l6 :: vkk l7 :: some (.int x) :: L) (st) h := G_istore f217_89 rfl (S1_8 l0 l1 l2 l3 l4 l5 l6 l7 l8 L _)
theorem f217_91 : fetch 217 91 = some (.iload 8, 2) := vtab tk217 49 rfl
theorem e217_91 (l0 l1 l2 l3 l4 l5 l6 l7 : Option Value) (L : VL) (st : List Value) (h : VG) (x : Int32) : ev 217 91 (l0 :: l1 :: l2 :: l3 :: l4 :: l5 :: l6 :: l7 :: some (.int x) :: L) (st) h = ev 217 93 (l0 :: l1 :: l2 :: l3 :: l4 :: l5 :: l6 :: l7 :: some (.int x) :: L) (.int x :: st) h := G_iload f217_91 rfl
theorem f217_93 : fetch 217 93 = some (.aload_n 0, 1) := vtab tk217 50 rfl
theorem e217_93 (L : VL) (st : List Value) (h : VG) (x : Nat) : ev 217 93 (some (.ref x) :: L) (st) h = ev 217 94 (some (.ref x) :: L) (.ref x :: st) h := G_aload_n f217_93 rfl
theorem f217_94 : fetch 217 94 = some (.iload_n 1, 1) := vtab tk217 51 rfl
theorem e217_94 (l0 : Option Value) (L : VL) (st : List Value) (h : VG) (x : Int32) : ev 217 94 (l0 :: some (.int x) :: L) (st) h = ev 217 95 (l0 :: some (.int x) :: L) (.int x :: st) h := G_iload_n f217_94 rfl
theorem f217_95 : fetch 217 95 = some (.invokevirtual 300, 3) := vtab tk217 52 rfl
theorem e217_95 (L : VL) (st : List Value) (h : VG) (b : Nat) (x0 : Int32) (ho : ob h b 11) (hs : catS st ≤ 8) : ev 217 95 L (.int x0 :: .ref b :: st) h = (ev 170 0 [some (.ref b), some (.int x0), none, none] [] h).bind fun q => ev 217 98 L (q.1.toList ++ st) q.2 := G_callv (k := 1) (p := 1339) (ars := [.int x0]) f217_95 lkC_12_300 (by decide) (by decide +kernel) rfl (vcls_ob (ci := 11) (by decide) ho) (Nat.le_of_ble_eq_true rfl) hs rfl
theorem f217_98 : fetch 217 98 = some (.if_icmp .ge 26, 3) := vtab tk217 53 rfl
theorem e217_98 (L : VL) (st : List Value) (h : VG) (x y : Int32) : ev 217 98 L (.int y :: .int x :: st) h = if x < y then ev 217 101 L st h else ev 217 124 L st h := G_icmp_ge f217_98 (by decide)
theorem f217_101 : fetch 217 101 = some (.iload 6, 2) := vtab tk217 54 rfl
theorem e217_101 (l0 l1 l2 l3 l4 l5 : Option Value) (L : VL) (st : List Value) (h : VG) (x : Int32) : ev 217 101 (l0 :: l1 :: l2 :: l3 :: l4 :: l5 :: some (.int x) :: L) (st) h = ev 217 103 (l0 :: l1 :: l2 :: l3 :: l4 :: l5 :: some (.int x) :: L) (.int x :: st) h := G_iload f217_101 rfl
theorem f217_103 : fetch 217 103 = some (.ifCond .ne 21, 3) := vtab tk217 55 rfl
theorem e217_103 (L : VL) (st : List Value) (h : VG) (x : Int32) : ev 217 103 L (.int x :: st) h = if x = 0 then ev 217 106 L st h else ev 217 124 L st h := G_if_ne f217_103 (by decide)
theorem f217_106 : fetch 217 106 = some (.aload_n 0, 1) := vtab tk217 56 rfl
theorem e217_106 (L : VL) (st : List Value) (h : VG) (x : Nat) : ev 217 106 (some (.ref x) :: L) (st) h = ev 217 107 (some (.ref x) :: L) (.ref x :: st) h := G_aload_n f217_106 rfl
theorem f217_107 : fetch 217 107 = some (.iload_n 1, 1) := vtab tk217 57 rfl
theorem e217_107 (l0 : Option Value) (L : VL) (st : List Value) (h : VG) (x : Int32) : ev 217 107 (l0 :: some (.int x) :: L) (st) h = ev 217 108 (l0 :: some (.int x) :: L) (.int x :: st) h := G_iload_n f217_107 rfl
theorem f217_108 : fetch 217 108 = some (.iload 8, 2) := vtab tk217 58 rfl
theorem e217_108 (l0 l1 l2 l3 l4 l5 l6 l7 : Option Value) (L : VL) (st : List Value) (h : VG) (x : Int32) : ev 217 108 (l0 :: l1 :: l2 :: l3 :: l4 :: l5 :: l6 :: l7 :: some (.int x) :: L) (st) h = ev 217 110 (l0 :: l1 :: l2 :: l3 :: l4 :: l5 :: l6 :: l7 :: some (.int x) :: L) (.int x :: st) h := G_iload f217_108 rfl
theorem f217_110 : fetch 217 110 = some (.iload_n 2, 1) := vtab tk217 59 rfl
theorem e217_110 (l0 l1 : Option Value) (L : VL) (st : List Value) (h : VG) (x : Int32) : ev 217 110 (l0 :: l1 :: some (.int x) :: L) (st) h = ev 217 111 (l0 :: l1 :: some (.int x) :: L) (.int x :: st) h := G_iload_n f217_110 rfl
theorem f217_111 : fetch 217 111 = some (.iload 4, 2) := vtab tk217 60 rfl
theorem e217_111 (l0 l1 l2 l3 : Option Value) (L : VL) (st : List Value) (h : VG) (x : Int32) : ev 217 111 (l0 :: l1 :: l2 :: l3 :: some (.int x) :: L) (st) h = ev 217 113 (l0 :: l1 :: l2 :: l3 :: some (.int x) :: L) (.int x :: st) h := G_iload f217_111 rfl
theorem f217_113 : fetch 217 113 = some (.invokevirtual 443, 3) := vtab tk217 61 rfl
theorem e217_113 (L : VL) (st : List Value) (h : VG) (b : Nat) (x0 : Int32) (x1 : Int32) (x2 : Int32) (x3 : Int32) (ho : ob h b 11) (hs : catS st ≤ 8) : ev 217 113 L (.int x3 :: .int x2 :: .int x1 :: .int x0 :: .ref b :: st) h = (ev 218 0 [some (.ref b), some (.int x0), some (.int x1), some (.int x2), some (.int x3), none, none, none, none] [] h).bind fun q => ev 217 116 L (q.1.toList ++ st) q.2 := G_callv (k := 1) (p := 1527) (ars := [.int x0, .int x1, .int x2, .int x3]) f217_113 lkC_12_443 (by decide) (by decide +kernel) rfl (vcls_ob (ci := 11) (by decide) ho) (Nat.le_of_ble_eq_true rfl) hs rfl
theorem f217_116 : fetch 217 116 = some (.istore 6, 2) := vtab tk217 62 rfl
theorem e217_116 (l0 l1 l2 l3 l4 l5 l6 : Option Value) (L : VL) (st : List Value) (h : VG) (x : Int32) : ev 217 116 (l0 :: l1 :: l2 :: l3 :: l4 :: l5 :: l6 :: L) (.int x :: st) h = ev 217 118 (l0 :: l1 :: l2 :: l3 :: l4 :: vkk l5 :: some (.int x) :: L) (st) h := G_istore f217_116 rfl (S1_6 l0 l1 l2 l3 l4 l5 l6 L _)
theorem f217_118 : fetch 217 118 = some (.iinc 8 1, 3) := vtab tk217 63 rfl
theorem e217_118 (l0 l1 l2 l3 l4 l5 l6 l7 : Option Value) (L : VL) (st : List Value) (h : VG) (x : Int32) : ev 217 118 (l0 :: l1 :: l2 :: l3 :: l4 :: l5 :: l6 :: l7 :: some (.int x) :: L) (st) h = ev 217 121 (l0 :: l1 :: l2 :: l3 :: l4 :: l5 :: l6 :: vkk l7 :: some (.int (x + (1 : Int32))) :: L) (st) h := G_iinc f217_118 rfl (by decide) (S1_8 l0 l1 l2 l3 l4 l5 l6 l7 (some (.int x)) L _)
theorem f217_121 : fetch 217 121 = some (.goto (-30), 3) := vtab tk217 64 rfl
theorem e217_121 (L : VL) (st : List Value) (h : VG) : ev 217 121 L (st) h = ev 217 91 L (st) h := G_goto f217_121 (by decide)
theorem f217_124 : fetch 217 124 = some (.aload_n 0, 1) := vtab tk217 65 rfl
theorem e217_124 (L : VL) (st : List Value) (h : VG) (x : Nat) : ev 217 124 (some (.ref x) :: L) (st) h = ev 217 125 (some (.ref x) :: L) (.ref x :: st) h := G_aload_n f217_124 rfl
theorem f217_125 : fetch 217 125 = some (.iload 6, 2) := vtab tk217 66 rfl
theorem e217_125 (l0 l1 l2 l3 l4 l5 : Option Value) (L : VL) (st : List Value) (h : VG) (x : Int32) : ev 217 125 (l0 :: l1 :: l2 :: l3 :: l4 :: l5 :: some (.int x) :: L) (st) h = ev 217 127 (l0 :: l1 :: l2 :: l3 :: l4 :: l5 :: some (.int x) :: L) (.int x :: st) h := G_iload f217_125 rfl
theorem f217_127 : fetch 217 127 = some (.invokevirtual 347, 3) := vtab tk217 67 rfl
theorem e217_127 (L : VL) (st : List Value) (h : VG) (b : Nat) (x0 : Int32) (ho : ob h b 11) (hs : catS st ≤ 8) : ev 217 127 L (.int x0 :: .ref b :: st) h = (ev 164 0 [some (.ref b), some (.int x0)] [] h).bind fun q => ev 217 130 L (q.1.toList ++ st) q.2 := G_callv (k := 1) (p := 1366) (ars := [.int x0]) f217_127 lkC_12_347 (by decide) (by decide +kernel) rfl (vcls_ob (ci := 11) (by decide) ho) (Nat.le_of_ble_eq_true rfl) hs rfl
theorem f217_130 : fetch 217 130 = some (.ifCond .ne 5, 3) := vtab tk217 68 rfl
theorem e217_130 (L : VL) (st : List Value) (h : VG) (x : Int32) : ev 217 130 L (.int x :: st) h = if x = 0 then ev 217 133 L st h else ev 217 135 L st h := G_if_ne f217_130 (by decide)
theorem f217_133 : fetch 217 133 = some (.iconst (-1), 1) := vtab tk217 69 rfl
theorem e217_133 (L : VL) (st : List Value) (h : VG) : ev 217 133 L (st) h = ev 217 134 L (.int (-1 : Int32) :: st) h := G_iconst f217_133 (by decide)
theorem f217_134 : fetch 217 134 = some (.ireturn, 1) := vtab tk217 70 rfl
theorem e217_134 (L : VL) (h : VG) (x : Int32) : ev 217 134 L [.int x] h = some (some (.int x), h) := G_iret f217_134 (ty := .int) (by decide) rfl
theorem f217_135 : fetch 217 135 = some (.iconst 0, 1) := vtab tk217 71 rfl
theorem e217_135 (L : VL) (st : List Value) (h : VG) : ev 217 135 L (st) h = ev 217 136 L (.int (0 : Int32) :: st) h := G_iconst f217_135 (by decide)
theorem f217_136 : fetch 217 136 = some (.istore 8, 2) := vtab tk217 72 rfl
theorem e217_136 (l0 l1 l2 l3 l4 l5 l6 l7 l8 : Option Value) (L : VL) (st : List Value) (h : VG) (x : Int32) : ev 217 136 (l0 :: l1 :: l2 :: l3 :: l4 :: l5 :: l6 :: l7 :: l8 :: L) (.int x :: st) h = ev 217 138 (l0 :: l1 :: l2 :: l3 :: l4 :: l5 :: l6 :: vkk l7 :: some (.int x) :: L) (st) h := G_istore f217_136 rfl (S1_8 l0 l1 l2 l3 l4 l5 l6 l7 l8 L _)
theorem f217_138 : fetch 217 138 = some (.iload 8, 2) := vtab tk217 73 rfl
theorem e217_138 (l0 l1 l2 l3 l4 l5 l6 l7 : Option Value) (L : VL) (st : List Value) (h : VG) (x : Int32) : ev 217 138 (l0 :: l1 :: l2 :: l3 :: l4 :: l5 :: l6 :: l7 :: some (.int x) :: L) (st) h = ev 217 140 (l0 :: l1 :: l2 :: l3 :: l4 :: l5 :: l6 :: l7 :: some (.int x) :: L) (.int x :: st) h := G_iload f217_138 rfl
theorem f217_140 : fetch 217 140 = some (.iload 7, 2) := vtab tk217 74 rfl
theorem e217_140 (l0 l1 l2 l3 l4 l5 l6 : Option Value) (L : VL) (st : List Value) (h : VG) (x : Int32) : ev 217 140 (l0 :: l1 :: l2 :: l3 :: l4 :: l5 :: l6 :: some (.int x) :: L) (st) h = ev 217 142 (l0 :: l1 :: l2 :: l3 :: l4 :: l5 :: l6 :: some (.int x) :: L) (.int x :: st) h := G_iload f217_140 rfl
theorem f217_142 : fetch 217 142 = some (.if_icmp .ge 25, 3) := vtab tk217 75 rfl
theorem e217_142 (L : VL) (st : List Value) (h : VG) (x y : Int32) : ev 217 142 L (.int y :: .int x :: st) h = if x < y then ev 217 145 L st h else ev 217 167 L st h := G_icmp_ge f217_142 (by decide)
theorem f217_145 : fetch 217 145 = some (.aload_n 0, 1) := vtab tk217 76 rfl
theorem e217_145 (L : VL) (st : List Value) (h : VG) (x : Nat) : ev 217 145 (some (.ref x) :: L) (st) h = ev 217 146 (some (.ref x) :: L) (.ref x :: st) h := G_aload_n f217_145 rfl
theorem f217_146 : fetch 217 146 = some (.getfield 52, 3) := vtab tk217 77 rfl
theorem e217_146 (L : VL) (st : List Value) (h : VG) (a : Nat) (ho : ob h a 11) (hr : isR h a 23) : ev 217 146 L (.ref a :: st) h = ev 217 149 L (.ref (gR h a 23) :: st) h := G_getR (p := 1036) f217_146 lkF_12_52 (by decide) (by decide) ho hr
theorem f217_149 : fetch 217 149 = some (.iload_n 3, 1) := vtab tk217 78 rfl
theorem e217_149 (l0 l1 l2 : Option Value) (L : VL) (st : List Value) (h : VG) (x : Int32) : ev 217 149 (l0 :: l1 :: l2 :: some (.int x) :: L) (st) h = ev 217 150 (l0 :: l1 :: l2 :: some (.int x) :: L) (.int x :: st) h := G_iload_n f217_149 rfl
theorem f217_150 : fetch 217 150 = some (.iload 8, 2) := vtab tk217 79 rfl
theorem e217_150 (l0 l1 l2 l3 l4 l5 l6 l7 : Option Value) (L : VL) (st : List Value) (h : VG) (x : Int32) : ev 217 150 (l0 :: l1 :: l2 :: l3 :: l4 :: l5 :: l6 :: l7 :: some (.int x) :: L) (st) h = ev 217 152 (l0 :: l1 :: l2 :: l3 :: l4 :: l5 :: l6 :: l7 :: some (.int x) :: L) (.int x :: st) h := G_iload f217_150 rfl
theorem f217_152 : fetch 217 152 = some (.iadd, 1) := vtab tk217 80 rfl
theorem e217_152 (L : VL) (st : List Value) (h : VG) (x y : Int32) : ev 217 152 L (.int y :: .int x :: st) h = ev 217 153 L (.int (x + y) :: st) h := G_iadd f217_152
theorem f217_153 : fetch 217 153 = some (.aload_n 0, 1) := vtab tk217 81 rfl
theorem e217_153 (L : VL) (st : List Value) (h : VG) (x : Nat) : ev 217 153 (some (.ref x) :: L) (st) h = ev 217 154 (some (.ref x) :: L) (.ref x :: st) h := G_aload_n f217_153 rfl
theorem f217_154 : fetch 217 154 = some (.getfield 101, 3) := vtab tk217 82 rfl
theorem e217_154 (L : VL) (st : List Value) (h : VG) (a : Nat) (ho : ob h a 11) (hr : isR h a 50) : ev 217 154 L (.ref a :: st) h = ev 217 157 L (.ref (gR h a 50) :: st) h := G_getR (p := 1063) f217_154 lkF_12_101 (by decide) (by decide) ho hr
theorem f217_157 : fetch 217 157 = some (.iload 8, 2) := vtab tk217 83 rfl
theorem e217_157 (l0 l1 l2 l3 l4 l5 l6 l7 : Option Value) (L : VL) (st : List Value) (h : VG) (x : Int32) : ev 217 157 (l0 :: l1 :: l2 :: l3 :: l4 :: l5 :: l6 :: l7 :: some (.int x) :: L) (st) h = ev 217 159 (l0 :: l1 :: l2 :: l3 :: l4 :: l5 :: l6 :: l7 :: some (.int x) :: L) (.int x :: st) h := G_iload f217_157 rfl
theorem f217_159 : fetch 217 159 = some (.iaload, 1) := vtab tk217 84 rfl
theorem e217_159 (L : VL) (st : List Value) (h : VG) (a : Nat) (i : Int32) (ha : rdI h a) (hi : vp_in i (aln h a)) : ev 217 159 L (.int i :: .ref a :: st) h = ev 217 160 L (.int (aI h a i.toNatClampNeg) :: st) h := G_iald' f217_159 ha hi
theorem f217_160 : fetch 217 160 = some (.iastore, 1) := vtab tk217 85 rfl
theorem e217_160 (L : VL) (st : List Value) (h : VG) (a : Nat) (i : Int32) (x : Int32) (ha : arI h a 0) (hi : vp_in i (aln h a)) : ev 217 160 L (.int x :: .int i :: .ref a :: st) h = ev 217 161 L (st) (wI h a i.toNatClampNeg x) := G_iast f217_160 ha hi
theorem f217_161 : fetch 217 161 = some (.iinc 8 1, 3) := vtab tk217 86 rfl
theorem e217_161 (l0 l1 l2 l3 l4 l5 l6 l7 : Option Value) (L : VL) (st : List Value) (h : VG) (x : Int32) : ev 217 161 (l0 :: l1 :: l2 :: l3 :: l4 :: l5 :: l6 :: l7 :: some (.int x) :: L) (st) h = ev 217 164 (l0 :: l1 :: l2 :: l3 :: l4 :: l5 :: l6 :: vkk l7 :: some (.int (x + (1 : Int32))) :: L) (st) h := G_iinc f217_161 rfl (by decide) (S1_8 l0 l1 l2 l3 l4 l5 l6 l7 (some (.int x)) L _)
theorem f217_164 : fetch 217 164 = some (.goto (-26), 3) := vtab tk217 87 rfl
theorem e217_164 (L : VL) (st : List Value) (h : VG) : ev 217 164 L (st) h = ev 217 138 L (st) h := G_goto f217_164 (by decide)
theorem f217_167 : fetch 217 167 = some (.iload 7, 2) := vtab tk217 88 rfl
theorem e217_167 (l0 l1 l2 l3 l4 l5 l6 : Option Value) (L : VL) (st : List Value) (h : VG) (x : Int32) : ev 217 167 (l0 :: l1 :: l2 :: l3 :: l4 :: l5 :: l6 :: some (.int x) :: L) (st) h = ev 217 169 (l0 :: l1 :: l2 :: l3 :: l4 :: l5 :: l6 :: some (.int x) :: L) (.int x :: st) h := G_iload f217_167 rfl
theorem f217_169 : fetch 217 169 = some (.ireturn, 1) := vtab tk217 89 rfl
theorem e217_169 (L : VL) (h : VG) (x : Int32) : ev 217 169 L [.int x] h = some (some (.int x), h) := G_iret f217_169 (ty := .int) (by decide) rfl
/-! 218 GuestCallsModel.turnsCell(IIIZ)I -/
def tb218 : List (Nat × Instr × Nat) := [(0, .aload_n 0, 1), (1, .iload_n 1, 1), (2, .iload_n 2, 1), (3, .invokevirtual 306, 3), (6, .istore 5, 2), (8, .aload_n 0, 1), (9, .iload_n 1, 1), (10, .iload 4, 2), (12, .ifCond .ne 7, 3), (15, .iconst 1, 1), (16, .goto 4, 3), (19, .iconst 0, 1), (20, .invokevirtual 296, 3), (23, .aload_n 0, 1), (24, .iload 5, 2), (26, .iload 4, 2), (28, .ifCond .ne 7, 3), (31, .iconst 1, 1), (32, .goto 4, 3), (35, .iconst 0, 1), (36, .invokevirtual 287, 3), (39, .istore 6, 2), (41, .aload_n 0, 1), (42, .iload_n 3, 1), (43, .aload_n 0, 1), (44, .iload_n 1, 1), (45, .iload_n 2, 1), (46, .iload 4, 2), (48, .ifCond .ne 7, 3), (51, .iconst 1, 1), (52, .goto 4, 3), (55, .iconst 0, 1), (56, .invokevirtual 412, 3), (59, .iadd, 1), (60, .iload 6, 2), (62, .invokevirtual 398, 3), (65, .lstore 7, 2), (67, .iload 5, 2), (69, .iconst 5, 1), (70, .if_icmp .ne 12, 3), (73, .lload 7, 2), (75, .iload 6, 2), (77, .invokestatic 406, 3), (80, .lstore 7, 2), (82, .iload 4, 2), (84, .ifCond .ne 36, 3), (87, .iload 5, 2), (89, .iconst 5, 1), (90, .if_icmp .ne 11, 3), (93, .lload 7, 2), (95, .invokestatic 419, 3), (98, .ifCond .eq 19, 3), (101, .iload 5, 2), (103, .bipush 9, 2), (105, .if_icmp .ne 15, 3), (108, .aload_n 0, 1), (109, .lload 7, 2), (111, .invokevirtual 423, 3), (114, .ifCond .ne 6, 3), (117, .bipush 6, 2), (119, .ireturn, 1), (120, .aload_n 0, 1), (121, .iload_n 1, 1), (122, .iload 4, 2), (124, .invokevirtual 296, 3), (127, .aload_n 0, 1), (128, .aload_n 0, 1), (129, .iload_n 1, 1), (130, .iload_n 2, 1), (131, .iload 4, 2), (133, .invokevirtual 412, 3), (136, .aload_n 0, 1), (137, .iload 5, 2), (139, .iload 4, 2), (141, .invokevirtual 287, 3), (144, .lload 7, 2), (146, .invokevirtual 430, 3), (149, .iconst 0, 1), (150, .ireturn, 1)]
theorem tk218 : tb218.all (fun q => decide (fetch 218 q.1 = some q.2)) = true := by decide +kernel
theorem f218_0 : fetch 218 0 = some (.aload_n 0, 1) := vtab tk218 0 rfl
theorem e218_0 (L : VL) (st : List Value) (h : VG) (x : Nat) : ev 218 0 (some (.ref x) :: L) (st) h = ev 218 1 (some (.ref x) :: L) (.ref x :: st) h := G_aload_n f218_0 rfl
theorem f218_1 : fetch 218 1 = some (.iload_n 1, 1) := vtab tk218 1 rfl
theorem e218_1 (l0 : Option Value) (L : VL) (st : List Value) (h : VG) (x : Int32) : ev 218 1 (l0 :: some (.int x) :: L) (st) h = ev 218 2 (l0 :: some (.int x) :: L) (.int x :: st) h := G_iload_n f218_1 rfl
theorem f218_2 : fetch 218 2 = some (.iload_n 2, 1) := vtab tk218 2 rfl
theorem e218_2 (l0 l1 : Option Value) (L : VL) (st : List Value) (h : VG) (x : Int32) : ev 218 2 (l0 :: l1 :: some (.int x) :: L) (st) h = ev 218 3 (l0 :: l1 :: some (.int x) :: L) (.int x :: st) h := G_iload_n f218_2 rfl
theorem f218_3 : fetch 218 3 = some (.invokevirtual 306, 3) := vtab tk218 3 rfl
theorem e218_3 (L : VL) (st : List Value) (h : VG) (b : Nat) (x0 : Int32) (x1 : Int32) (ho : ob h b 11) (hs : catS st ≤ 8) : ev 218 3 L (.int x1 :: .int x0 :: .ref b :: st) h = (ev 174 0 [some (.ref b), some (.int x0), some (.int x1)] [] h).bind fun q => ev 218 6 L (q.1.toList ++ st) q.2 := G_callv (k := 1) (p := 1347) (ars := [.int x0, .int x1]) f218_3 lkC_12_306 (by decide) (by decide +kernel) rfl (vcls_ob (ci := 11) (by decide) ho) (Nat.le_of_ble_eq_true rfl) hs rfl
theorem f218_6 : fetch 218 6 = some (.istore 5, 2) := vtab tk218 4 rfl
theorem e218_6 (l0 l1 l2 l3 l4 l5 : Option Value) (L : VL) (st : List Value) (h : VG) (x : Int32) : ev 218 6 (l0 :: l1 :: l2 :: l3 :: l4 :: l5 :: L) (.int x :: st) h = ev 218 8 (l0 :: l1 :: l2 :: l3 :: vkk l4 :: some (.int x) :: L) (st) h := G_istore f218_6 rfl (S1_5 l0 l1 l2 l3 l4 l5 L _)
theorem f218_8 : fetch 218 8 = some (.aload_n 0, 1) := vtab tk218 5 rfl
theorem e218_8 (L : VL) (st : List Value) (h : VG) (x : Nat) : ev 218 8 (some (.ref x) :: L) (st) h = ev 218 9 (some (.ref x) :: L) (.ref x :: st) h := G_aload_n f218_8 rfl
theorem f218_9 : fetch 218 9 = some (.iload_n 1, 1) := vtab tk218 6 rfl
theorem e218_9 (l0 : Option Value) (L : VL) (st : List Value) (h : VG) (x : Int32) : ev 218 9 (l0 :: some (.int x) :: L) (st) h = ev 218 10 (l0 :: some (.int x) :: L) (.int x :: st) h := G_iload_n f218_9 rfl
theorem f218_10 : fetch 218 10 = some (.iload 4, 2) := vtab tk218 7 rfl
theorem e218_10 (l0 l1 l2 l3 : Option Value) (L : VL) (st : List Value) (h : VG) (x : Int32) : ev 218 10 (l0 :: l1 :: l2 :: l3 :: some (.int x) :: L) (st) h = ev 218 12 (l0 :: l1 :: l2 :: l3 :: some (.int x) :: L) (.int x :: st) h := G_iload f218_10 rfl
theorem f218_12 : fetch 218 12 = some (.ifCond .ne 7, 3) := vtab tk218 8 rfl
theorem e218_12 (L : VL) (st : List Value) (h : VG) (x : Int32) : ev 218 12 L (.int x :: st) h = if x = 0 then ev 218 15 L st h else ev 218 19 L st h := G_if_ne f218_12 (by decide)
theorem f218_15 : fetch 218 15 = some (.iconst 1, 1) := vtab tk218 9 rfl
theorem e218_15 (L : VL) (st : List Value) (h : VG) : ev 218 15 L (st) h = ev 218 16 L (.int (1 : Int32) :: st) h := G_iconst f218_15 (by decide)
theorem f218_16 : fetch 218 16 = some (.goto 4, 3) := vtab tk218 10 rfl
theorem e218_16 (L : VL) (st : List Value) (h : VG) : ev 218 16 L (st) h = ev 218 20 L (st) h := G_goto f218_16 (by decide)
theorem f218_19 : fetch 218 19 = some (.iconst 0, 1) := vtab tk218 11 rfl
theorem e218_19 (L : VL) (st : List Value) (h : VG) : ev 218 19 L (st) h = ev 218 20 L (.int (0 : Int32) :: st) h := G_iconst f218_19 (by decide)
theorem f218_20 : fetch 218 20 = some (.invokevirtual 296, 3) := vtab tk218 12 rfl
theorem e218_20 (L : VL) (st : List Value) (h : VG) (b : Nat) (x0 : Int32) (x1 : Int32) (ho : ob h b 11) (hs : catS st ≤ 8) : ev 218 20 L (.int x1 :: .int x0 :: .ref b :: st) h = (ev 169 0 [some (.ref b), some (.int x0), some (.int x1), none, none, none, none] [] h).bind fun q => ev 218 23 L (q.1.toList ++ st) q.2 := G_callv (k := 1) (p := 1321) (ars := [.int x0, .int x1]) f218_20 lkC_12_296 (by decide) (by decide +kernel) rfl (vcls_ob (ci := 11) (by decide) ho) (Nat.le_of_ble_eq_true rfl) hs rfl
theorem f218_23 : fetch 218 23 = some (.aload_n 0, 1) := vtab tk218 13 rfl
theorem e218_23 (L : VL) (st : List Value) (h : VG) (x : Nat) : ev 218 23 (some (.ref x) :: L) (st) h = ev 218 24 (some (.ref x) :: L) (.ref x :: st) h := G_aload_n f218_23 rfl
theorem f218_24 : fetch 218 24 = some (.iload 5, 2) := vtab tk218 14 rfl
theorem e218_24 (l0 l1 l2 l3 l4 : Option Value) (L : VL) (st : List Value) (h : VG) (x : Int32) : ev 218 24 (l0 :: l1 :: l2 :: l3 :: l4 :: some (.int x) :: L) (st) h = ev 218 26 (l0 :: l1 :: l2 :: l3 :: l4 :: some (.int x) :: L) (.int x :: st) h := G_iload f218_24 rfl
theorem f218_26 : fetch 218 26 = some (.iload 4, 2) := vtab tk218 15 rfl
theorem e218_26 (l0 l1 l2 l3 : Option Value) (L : VL) (st : List Value) (h : VG) (x : Int32) : ev 218 26 (l0 :: l1 :: l2 :: l3 :: some (.int x) :: L) (st) h = ev 218 28 (l0 :: l1 :: l2 :: l3 :: some (.int x) :: L) (.int x :: st) h := G_iload f218_26 rfl
theorem f218_28 : fetch 218 28 = some (.ifCond .ne 7, 3) := vtab tk218 16 rfl
theorem e218_28 (L : VL) (st : List Value) (h : VG) (x : Int32) : ev 218 28 L (.int x :: st) h = if x = 0 then ev 218 31 L st h else ev 218 35 L st h := G_if_ne f218_28 (by decide)
theorem f218_31 : fetch 218 31 = some (.iconst 1, 1) := vtab tk218 17 rfl
theorem e218_31 (L : VL) (st : List Value) (h : VG) : ev 218 31 L (st) h = ev 218 32 L (.int (1 : Int32) :: st) h := G_iconst f218_31 (by decide)
theorem f218_32 : fetch 218 32 = some (.goto 4, 3) := vtab tk218 18 rfl
theorem e218_32 (L : VL) (st : List Value) (h : VG) : ev 218 32 L (st) h = ev 218 36 L (st) h := G_goto f218_32 (by decide)
theorem f218_35 : fetch 218 35 = some (.iconst 0, 1) := vtab tk218 19 rfl
theorem e218_35 (L : VL) (st : List Value) (h : VG) : ev 218 35 L (st) h = ev 218 36 L (.int (0 : Int32) :: st) h := G_iconst f218_35 (by decide)
theorem f218_36 : fetch 218 36 = some (.invokevirtual 287, 3) := vtab tk218 20 rfl
theorem e218_36 (L : VL) (st : List Value) (h : VG) (b : Nat) (x0 : Int32) (x1 : Int32) (ho : ob h b 11) (hs : catS st ≤ 8) : ev 218 36 L (.int x1 :: .int x0 :: .ref b :: st) h = (ev 166 0 [some (.ref b), some (.int x0), some (.int x1)] [] h).bind fun q => ev 218 39 L (q.1.toList ++ st) q.2 := G_callv (k := 1) (p := 1335) (ars := [.int x0, .int x1]) f218_36 lkC_12_287 (by decide) (by decide +kernel) rfl (vcls_ob (ci := 11) (by decide) ho) (Nat.le_of_ble_eq_true rfl) hs rfl
theorem f218_39 : fetch 218 39 = some (.istore 6, 2) := vtab tk218 21 rfl
theorem e218_39 (l0 l1 l2 l3 l4 l5 l6 : Option Value) (L : VL) (st : List Value) (h : VG) (x : Int32) : ev 218 39 (l0 :: l1 :: l2 :: l3 :: l4 :: l5 :: l6 :: L) (.int x :: st) h = ev 218 41 (l0 :: l1 :: l2 :: l3 :: l4 :: vkk l5 :: some (.int x) :: L) (st) h := G_istore f218_39 rfl (S1_6 l0 l1 l2 l3 l4 l5 l6 L _)
theorem f218_41 : fetch 218 41 = some (.aload_n 0, 1) := vtab tk218 22 rfl
theorem e218_41 (L : VL) (st : List Value) (h : VG) (x : Nat) : ev 218 41 (some (.ref x) :: L) (st) h = ev 218 42 (some (.ref x) :: L) (.ref x :: st) h := G_aload_n f218_41 rfl
theorem f218_42 : fetch 218 42 = some (.iload_n 3, 1) := vtab tk218 23 rfl
theorem e218_42 (l0 l1 l2 : Option Value) (L : VL) (st : List Value) (h : VG) (x : Int32) : ev 218 42 (l0 :: l1 :: l2 :: some (.int x) :: L) (st) h = ev 218 43 (l0 :: l1 :: l2 :: some (.int x) :: L) (.int x :: st) h := G_iload_n f218_42 rfl
theorem f218_43 : fetch 218 43 = some (.aload_n 0, 1) := vtab tk218 24 rfl
theorem e218_43 (L : VL) (st : List Value) (h : VG) (x : Nat) : ev 218 43 (some (.ref x) :: L) (st) h = ev 218 44 (some (.ref x) :: L) (.ref x :: st) h := G_aload_n f218_43 rfl
theorem f218_44 : fetch 218 44 = some (.iload_n 1, 1) := vtab tk218 25 rfl
theorem e218_44 (l0 : Option Value) (L : VL) (st : List Value) (h : VG) (x : Int32) : ev 218 44 (l0 :: some (.int x) :: L) (st) h = ev 218 45 (l0 :: some (.int x) :: L) (.int x :: st) h := G_iload_n f218_44 rfl
theorem f218_45 : fetch 218 45 = some (.iload_n 2, 1) := vtab tk218 26 rfl
theorem e218_45 (l0 l1 : Option Value) (L : VL) (st : List Value) (h : VG) (x : Int32) : ev 218 45 (l0 :: l1 :: some (.int x) :: L) (st) h = ev 218 46 (l0 :: l1 :: some (.int x) :: L) (.int x :: st) h := G_iload_n f218_45 rfl
theorem f218_46 : fetch 218 46 = some (.iload 4, 2) := vtab tk218 27 rfl
theorem e218_46 (l0 l1 l2 l3 : Option Value) (L : VL) (st : List Value) (h : VG) (x : Int32) : ev 218 46 (l0 :: l1 :: l2 :: l3 :: some (.int x) :: L) (st) h = ev 218 48 (l0 :: l1 :: l2 :: l3 :: some (.int x) :: L) (.int x :: st) h := G_iload f218_46 rfl
theorem f218_48 : fetch 218 48 = some (.ifCond .ne 7, 3) := vtab tk218 28 rfl
theorem e218_48 (L : VL) (st : List Value) (h : VG) (x : Int32) : ev 218 48 L (.int x :: st) h = if x = 0 then ev 218 51 L st h else ev 218 55 L st h := G_if_ne f218_48 (by decide)
theorem f218_51 : fetch 218 51 = some (.iconst 1, 1) := vtab tk218 29 rfl
theorem e218_51 (L : VL) (st : List Value) (h : VG) : ev 218 51 L (st) h = ev 218 52 L (.int (1 : Int32) :: st) h := G_iconst f218_51 (by decide)
theorem f218_52 : fetch 218 52 = some (.goto 4, 3) := vtab tk218 30 rfl
theorem e218_52 (L : VL) (st : List Value) (h : VG) : ev 218 52 L (st) h = ev 218 56 L (st) h := G_goto f218_52 (by decide)
theorem f218_55 : fetch 218 55 = some (.iconst 0, 1) := vtab tk218 31 rfl
theorem e218_55 (L : VL) (st : List Value) (h : VG) : ev 218 55 L (st) h = ev 218 56 L (.int (0 : Int32) :: st) h := G_iconst f218_55 (by decide)
theorem f218_56 : fetch 218 56 = some (.invokevirtual 412, 3) := vtab tk218 32 rfl
theorem e218_56 (L : VL) (st : List Value) (h : VG) (b : Nat) (x0 : Int32) (x1 : Int32) (x2 : Int32) (ho : ob h b 11) (hs : catS st ≤ 8) : ev 218 56 L (.int x2 :: .int x1 :: .int x0 :: .ref b :: st) h = (ev 175 0 [some (.ref b), some (.int x0), some (.int x1), some (.int x2), none, none, none] [] h).bind fun q => ev 218 59 L (q.1.toList ++ st) q.2 := G_callv (k := 1) (p := 1467) (ars := [.int x0, .int x1, .int x2]) f218_56 lkC_12_412 (by decide) (by decide +kernel) rfl (vcls_ob (ci := 11) (by decide) ho) (Nat.le_of_ble_eq_true rfl) hs rfl
theorem f218_59 : fetch 218 59 = some (.iadd, 1) := vtab tk218 33 rfl
theorem e218_59 (L : VL) (st : List Value) (h : VG) (x y : Int32) : ev 218 59 L (.int y :: .int x :: st) h = ev 218 60 L (.int (x + y) :: st) h := G_iadd f218_59
theorem f218_60 : fetch 218 60 = some (.iload 6, 2) := vtab tk218 34 rfl
theorem e218_60 (l0 l1 l2 l3 l4 l5 : Option Value) (L : VL) (st : List Value) (h : VG) (x : Int32) : ev 218 60 (l0 :: l1 :: l2 :: l3 :: l4 :: l5 :: some (.int x) :: L) (st) h = ev 218 62 (l0 :: l1 :: l2 :: l3 :: l4 :: l5 :: some (.int x) :: L) (.int x :: st) h := G_iload f218_60 rfl
theorem f218_62 : fetch 218 62 = some (.invokevirtual 398, 3) := vtab tk218 35 rfl
theorem e218_62 (L : VL) (st : List Value) (h : VG) (b : Nat) (x0 : Int32) (x1 : Int32) (ho : ob h b 11) (hs : catS st ≤ 8) : ev 218 62 L (.int x1 :: .int x0 :: .ref b :: st) h = (ev 203 0 [some (.ref b), some (.int x0), some (.int x1), none, none, none] [] h).bind fun q => ev 218 65 L (q.1.toList ++ st) q.2 := G_callv (k := 1) (p := 1475) (ars := [.int x0, .int x1]) f218_62 lkC_12_398 (by decide) (by decide +kernel) rfl (vcls_ob (ci := 11) (by decide) ho) (Nat.le_of_ble_eq_true rfl) hs rfl
theorem f218_65 : fetch 218 65 = some (.lstore 7, 2) := vtab tk218 36 rfl
theorem e218_65 (l0 l1 l2 l3 l4 l5 l6 l7 l8 : Option Value) (L : VL) (st : List Value) (h : VG) (x : Int64) : ev 218 65 (l0 :: l1 :: l2 :: l3 :: l4 :: l5 :: l6 :: l7 :: l8 :: L) (.long x :: st) h = ev 218 67 (l0 :: l1 :: l2 :: l3 :: l4 :: l5 :: vkk l6 :: some (.long x) :: none :: L) (st) h := G_lstore f218_65 rfl (S2_7 l0 l1 l2 l3 l4 l5 l6 l7 l8 L _)
theorem f218_67 : fetch 218 67 = some (.iload 5, 2) := vtab tk218 37 rfl
theorem e218_67 (l0 l1 l2 l3 l4 : Option Value) (L : VL) (st : List Value) (h : VG) (x : Int32) : ev 218 67 (l0 :: l1 :: l2 :: l3 :: l4 :: some (.int x) :: L) (st) h = ev 218 69 (l0 :: l1 :: l2 :: l3 :: l4 :: some (.int x) :: L) (.int x :: st) h := G_iload f218_67 rfl
theorem f218_69 : fetch 218 69 = some (.iconst 5, 1) := vtab tk218 38 rfl
theorem e218_69 (L : VL) (st : List Value) (h : VG) : ev 218 69 L (st) h = ev 218 70 L (.int (5 : Int32) :: st) h := G_iconst f218_69 (by decide)
theorem f218_70 : fetch 218 70 = some (.if_icmp .ne 12, 3) := vtab tk218 39 rfl
theorem e218_70 (L : VL) (st : List Value) (h : VG) (x y : Int32) : ev 218 70 L (.int y :: .int x :: st) h = if x = y then ev 218 73 L st h else ev 218 82 L st h := G_icmp_ne f218_70 (by decide)
theorem f218_73 : fetch 218 73 = some (.lload 7, 2) := vtab tk218 40 rfl
theorem e218_73 (l0 l1 l2 l3 l4 l5 l6 : Option Value) (L : VL) (st : List Value) (h : VG) (x : Int64) : ev 218 73 (l0 :: l1 :: l2 :: l3 :: l4 :: l5 :: l6 :: some (.long x) :: L) (st) h = ev 218 75 (l0 :: l1 :: l2 :: l3 :: l4 :: l5 :: l6 :: some (.long x) :: L) (.long x :: st) h := G_lload f218_73 rfl
theorem f218_75 : fetch 218 75 = some (.iload 6, 2) := vtab tk218 41 rfl
theorem e218_75 (l0 l1 l2 l3 l4 l5 : Option Value) (L : VL) (st : List Value) (h : VG) (x : Int32) : ev 218 75 (l0 :: l1 :: l2 :: l3 :: l4 :: l5 :: some (.int x) :: L) (st) h = ev 218 77 (l0 :: l1 :: l2 :: l3 :: l4 :: l5 :: some (.int x) :: L) (.int x :: st) h := G_iload f218_75 rfl
theorem f218_77 : fetch 218 77 = some (.invokestatic 406, 3) := vtab tk218 42 rfl
theorem e218_77 (L : VL) (st : List Value) (h : VG) (x0 : Int64) (x1 : Int32) (hs : catS st ≤ 8) : ev 218 77 L (.int x1 :: .long x0 :: st) h = (ev 204 0 [some (.long x0), none, some (.int x1), none] [] h).bind fun q => ev 218 80 L (q.1.toList ++ st) q.2 := G_calls (k := 0) (p := 1489) (ars := [.long x0, .int x1]) f218_77 lkC_12_406 (by decide) (by decide +kernel) rfl (Nat.le_of_ble_eq_true rfl) hs rfl
theorem f218_80 : fetch 218 80 = some (.lstore 7, 2) := vtab tk218 43 rfl
theorem e218_80 (l0 l1 l2 l3 l4 l5 l6 l7 l8 : Option Value) (L : VL) (st : List Value) (h : VG) (x : Int64) : ev 218 80 (l0 :: l1 :: l2 :: l3 :: l4 :: l5 :: l6 :: l7 :: l8 :: L) (.long x :: st) h = ev 218 82 (l0 :: l1 :: l2 :: l3 :: l4 :: l5 :: vkk l6 :: some (.long x) :: none :: L) (st) h := G_lstore f218_80 rfl (S2_7 l0 l1 l2 l3 l4 l5 l6 l7 l8 L _)
theorem f218_82 : fetch 218 82 = some (.iload 4, 2) := vtab tk218 44 rfl
theorem e218_82 (l0 l1 l2 l3 : Option Value) (L : VL) (st : List Value) (h : VG) (x : Int32) : ev 218 82 (l0 :: l1 :: l2 :: l3 :: some (.int x) :: L) (st) h = ev 218 84 (l0 :: l1 :: l2 :: l3 :: some (.int x) :: L) (.int x :: st) h := G_iload f218_82 rfl
theorem f218_84 : fetch 218 84 = some (.ifCond .ne 36, 3) := vtab tk218 45 rfl
theorem e218_84 (L : VL) (st : List Value) (h : VG) (x : Int32) : ev 218 84 L (.int x :: st) h = if x = 0 then ev 218 87 L st h else ev 218 120 L st h := G_if_ne f218_84 (by decide)
theorem f218_87 : fetch 218 87 = some (.iload 5, 2) := vtab tk218 46 rfl
theorem e218_87 (l0 l1 l2 l3 l4 : Option Value) (L : VL) (st : List Value) (h : VG) (x : Int32) : ev 218 87 (l0 :: l1 :: l2 :: l3 :: l4 :: some (.int x) :: L) (st) h = ev 218 89 (l0 :: l1 :: l2 :: l3 :: l4 :: some (.int x) :: L) (.int x :: st) h := G_iload f218_87 rfl
theorem f218_89 : fetch 218 89 = some (.iconst 5, 1) := vtab tk218 47 rfl
theorem e218_89 (L : VL) (st : List Value) (h : VG) : ev 218 89 L (st) h = ev 218 90 L (.int (5 : Int32) :: st) h := G_iconst f218_89 (by decide)
theorem f218_90 : fetch 218 90 = some (.if_icmp .ne 11, 3) := vtab tk218 48 rfl
theorem e218_90 (L : VL) (st : List Value) (h : VG) (x y : Int32) : ev 218 90 L (.int y :: .int x :: st) h = if x = y then ev 218 93 L st h else ev 218 101 L st h := G_icmp_ne f218_90 (by decide)
theorem f218_93 : fetch 218 93 = some (.lload 7, 2) := vtab tk218 49 rfl
theorem e218_93 (l0 l1 l2 l3 l4 l5 l6 : Option Value) (L : VL) (st : List Value) (h : VG) (x : Int64) : ev 218 93 (l0 :: l1 :: l2 :: l3 :: l4 :: l5 :: l6 :: some (.long x) :: L) (st) h = ev 218 95 (l0 :: l1 :: l2 :: l3 :: l4 :: l5 :: l6 :: some (.long x) :: L) (.long x :: st) h := G_lload f218_93 rfl
theorem f218_95 : fetch 218 95 = some (.invokestatic 419, 3) := vtab tk218 50 rfl
theorem e218_95 (L : VL) (st : List Value) (h : VG) (x0 : Int64) (hs : catS st ≤ 8) : ev 218 95 L (.long x0 :: st) h = (ev 213 0 [some (.long x0), none] [] h).bind fun q => ev 218 98 L (q.1.toList ++ st) q.2 := G_calls (k := 0) (p := 1504) (ars := [.long x0]) f218_95 lkC_12_419 (by decide) (by decide +kernel) rfl (Nat.le_of_ble_eq_true rfl) hs rfl
theorem f218_98 : fetch 218 98 = some (.ifCond .eq 19, 3) := vtab tk218 51 rfl
theorem e218_98 (L : VL) (st : List Value) (h : VG) (x : Int32) : ev 218 98 L (.int x :: st) h = if x = 0 then ev 218 117 L st h else ev 218 101 L st h := G_if_eq f218_98 (by decide)
theorem f218_101 : fetch 218 101 = some (.iload 5, 2) := vtab tk218 52 rfl
theorem e218_101 (l0 l1 l2 l3 l4 : Option Value) (L : VL) (st : List Value) (h : VG) (x : Int32) : ev 218 101 (l0 :: l1 :: l2 :: l3 :: l4 :: some (.int x) :: L) (st) h = ev 218 103 (l0 :: l1 :: l2 :: l3 :: l4 :: some (.int x) :: L) (.int x :: st) h := G_iload f218_101 rfl
theorem f218_103 : fetch 218 103 = some (.bipush 9, 2) := vtab tk218 53 rfl
theorem e218_103 (L : VL) (st : List Value) (h : VG) : ev 218 103 L (st) h = ev 218 105 L (.int (9 : Int32) :: st) h := G_bipush f218_103 (by decide)
theorem f218_105 : fetch 218 105 = some (.if_icmp .ne 15, 3) := vtab tk218 54 rfl
theorem e218_105 (L : VL) (st : List Value) (h : VG) (x y : Int32) : ev 218 105 L (.int y :: .int x :: st) h = if x = y then ev 218 108 L st h else ev 218 120 L st h := G_icmp_ne f218_105 (by decide)
theorem f218_108 : fetch 218 108 = some (.aload_n 0, 1) := vtab tk218 55 rfl
theorem e218_108 (L : VL) (st : List Value) (h : VG) (x : Nat) : ev 218 108 (some (.ref x) :: L) (st) h = ev 218 109 (some (.ref x) :: L) (.ref x :: st) h := G_aload_n f218_108 rfl
theorem f218_109 : fetch 218 109 = some (.lload 7, 2) := vtab tk218 56 rfl
theorem e218_109 (l0 l1 l2 l3 l4 l5 l6 : Option Value) (L : VL) (st : List Value) (h : VG) (x : Int64) : ev 218 109 (l0 :: l1 :: l2 :: l3 :: l4 :: l5 :: l6 :: some (.long x) :: L) (st) h = ev 218 111 (l0 :: l1 :: l2 :: l3 :: l4 :: l5 :: l6 :: some (.long x) :: L) (.long x :: st) h := G_lload f218_109 rfl
theorem f218_111 : fetch 218 111 = some (.invokevirtual 423, 3) := vtab tk218 57 rfl
theorem e218_111 (L : VL) (st : List Value) (h : VG) (b : Nat) (x0 : Int64) (ho : ob h b 11) (hs : catS st ≤ 8) : ev 218 111 L (.long x0 :: .ref b :: st) h = (ev 214 0 [some (.ref b), some (.long x0), none] [] h).bind fun q => ev 218 114 L (q.1.toList ++ st) q.2 := G_callv (k := 1) (p := 1507) (ars := [.long x0]) f218_111 lkC_12_423 (by decide) (by decide +kernel) rfl (vcls_ob (ci := 11) (by decide) ho) (Nat.le_of_ble_eq_true rfl) hs rfl
theorem f218_114 : fetch 218 114 = some (.ifCond .ne 6, 3) := vtab tk218 58 rfl
theorem e218_114 (L : VL) (st : List Value) (h : VG) (x : Int32) : ev 218 114 L (.int x :: st) h = if x = 0 then ev 218 117 L st h else ev 218 120 L st h := G_if_ne f218_114 (by decide)
theorem f218_117 : fetch 218 117 = some (.bipush 6, 2) := vtab tk218 59 rfl
theorem e218_117 (L : VL) (st : List Value) (h : VG) : ev 218 117 L (st) h = ev 218 119 L (.int (6 : Int32) :: st) h := G_bipush f218_117 (by decide)
theorem f218_119 : fetch 218 119 = some (.ireturn, 1) := vtab tk218 60 rfl
theorem e218_119 (L : VL) (h : VG) (x : Int32) : ev 218 119 L [.int x] h = some (some (.int x), h) := G_iret f218_119 (ty := .int) (by decide) rfl
theorem f218_120 : fetch 218 120 = some (.aload_n 0, 1) := vtab tk218 61 rfl
theorem e218_120 (L : VL) (st : List Value) (h : VG) (x : Nat) : ev 218 120 (some (.ref x) :: L) (st) h = ev 218 121 (some (.ref x) :: L) (.ref x :: st) h := G_aload_n f218_120 rfl
theorem f218_121 : fetch 218 121 = some (.iload_n 1, 1) := vtab tk218 62 rfl
theorem e218_121 (l0 : Option Value) (L : VL) (st : List Value) (h : VG) (x : Int32) : ev 218 121 (l0 :: some (.int x) :: L) (st) h = ev 218 122 (l0 :: some (.int x) :: L) (.int x :: st) h := G_iload_n f218_121 rfl
theorem f218_122 : fetch 218 122 = some (.iload 4, 2) := vtab tk218 63 rfl
theorem e218_122 (l0 l1 l2 l3 : Option Value) (L : VL) (st : List Value) (h : VG) (x : Int32) : ev 218 122 (l0 :: l1 :: l2 :: l3 :: some (.int x) :: L) (st) h = ev 218 124 (l0 :: l1 :: l2 :: l3 :: some (.int x) :: L) (.int x :: st) h := G_iload f218_122 rfl
theorem f218_124 : fetch 218 124 = some (.invokevirtual 296, 3) := vtab tk218 64 rfl
theorem e218_124 (L : VL) (st : List Value) (h : VG) (b : Nat) (x0 : Int32) (x1 : Int32) (ho : ob h b 11) (hs : catS st ≤ 8) : ev 218 124 L (.int x1 :: .int x0 :: .ref b :: st) h = (ev 169 0 [some (.ref b), some (.int x0), some (.int x1), none, none, none, none] [] h).bind fun q => ev 218 127 L (q.1.toList ++ st) q.2 := G_callv (k := 1) (p := 1321) (ars := [.int x0, .int x1]) f218_124 lkC_12_296 (by decide) (by decide +kernel) rfl (vcls_ob (ci := 11) (by decide) ho) (Nat.le_of_ble_eq_true rfl) hs rfl
theorem f218_127 : fetch 218 127 = some (.aload_n 0, 1) := vtab tk218 65 rfl
theorem e218_127 (L : VL) (st : List Value) (h : VG) (x : Nat) : ev 218 127 (some (.ref x) :: L) (st) h = ev 218 128 (some (.ref x) :: L) (.ref x :: st) h := G_aload_n f218_127 rfl
theorem f218_128 : fetch 218 128 = some (.aload_n 0, 1) := vtab tk218 66 rfl
theorem e218_128 (L : VL) (st : List Value) (h : VG) (x : Nat) : ev 218 128 (some (.ref x) :: L) (st) h = ev 218 129 (some (.ref x) :: L) (.ref x :: st) h := G_aload_n f218_128 rfl
theorem f218_129 : fetch 218 129 = some (.iload_n 1, 1) := vtab tk218 67 rfl
theorem e218_129 (l0 : Option Value) (L : VL) (st : List Value) (h : VG) (x : Int32) : ev 218 129 (l0 :: some (.int x) :: L) (st) h = ev 218 130 (l0 :: some (.int x) :: L) (.int x :: st) h := G_iload_n f218_129 rfl
theorem f218_130 : fetch 218 130 = some (.iload_n 2, 1) := vtab tk218 68 rfl
theorem e218_130 (l0 l1 : Option Value) (L : VL) (st : List Value) (h : VG) (x : Int32) : ev 218 130 (l0 :: l1 :: some (.int x) :: L) (st) h = ev 218 131 (l0 :: l1 :: some (.int x) :: L) (.int x :: st) h := G_iload_n f218_130 rfl
theorem f218_131 : fetch 218 131 = some (.iload 4, 2) := vtab tk218 69 rfl
theorem e218_131 (l0 l1 l2 l3 : Option Value) (L : VL) (st : List Value) (h : VG) (x : Int32) : ev 218 131 (l0 :: l1 :: l2 :: l3 :: some (.int x) :: L) (st) h = ev 218 133 (l0 :: l1 :: l2 :: l3 :: some (.int x) :: L) (.int x :: st) h := G_iload f218_131 rfl
theorem f218_133 : fetch 218 133 = some (.invokevirtual 412, 3) := vtab tk218 70 rfl
theorem e218_133 (L : VL) (st : List Value) (h : VG) (b : Nat) (x0 : Int32) (x1 : Int32) (x2 : Int32) (ho : ob h b 11) (hs : catS st ≤ 8) : ev 218 133 L (.int x2 :: .int x1 :: .int x0 :: .ref b :: st) h = (ev 175 0 [some (.ref b), some (.int x0), some (.int x1), some (.int x2), none, none, none] [] h).bind fun q => ev 218 136 L (q.1.toList ++ st) q.2 := G_callv (k := 1) (p := 1467) (ars := [.int x0, .int x1, .int x2]) f218_133 lkC_12_412 (by decide) (by decide +kernel) rfl (vcls_ob (ci := 11) (by decide) ho) (Nat.le_of_ble_eq_true rfl) hs rfl
theorem f218_136 : fetch 218 136 = some (.aload_n 0, 1) := vtab tk218 71 rfl
theorem e218_136 (L : VL) (st : List Value) (h : VG) (x : Nat) : ev 218 136 (some (.ref x) :: L) (st) h = ev 218 137 (some (.ref x) :: L) (.ref x :: st) h := G_aload_n f218_136 rfl
theorem f218_137 : fetch 218 137 = some (.iload 5, 2) := vtab tk218 72 rfl
theorem e218_137 (l0 l1 l2 l3 l4 : Option Value) (L : VL) (st : List Value) (h : VG) (x : Int32) : ev 218 137 (l0 :: l1 :: l2 :: l3 :: l4 :: some (.int x) :: L) (st) h = ev 218 139 (l0 :: l1 :: l2 :: l3 :: l4 :: some (.int x) :: L) (.int x :: st) h := G_iload f218_137 rfl
theorem f218_139 : fetch 218 139 = some (.iload 4, 2) := vtab tk218 73 rfl
theorem e218_139 (l0 l1 l2 l3 : Option Value) (L : VL) (st : List Value) (h : VG) (x : Int32) : ev 218 139 (l0 :: l1 :: l2 :: l3 :: some (.int x) :: L) (st) h = ev 218 141 (l0 :: l1 :: l2 :: l3 :: some (.int x) :: L) (.int x :: st) h := G_iload f218_139 rfl
theorem f218_141 : fetch 218 141 = some (.invokevirtual 287, 3) := vtab tk218 74 rfl
theorem e218_141 (L : VL) (st : List Value) (h : VG) (b : Nat) (x0 : Int32) (x1 : Int32) (ho : ob h b 11) (hs : catS st ≤ 8) : ev 218 141 L (.int x1 :: .int x0 :: .ref b :: st) h = (ev 166 0 [some (.ref b), some (.int x0), some (.int x1)] [] h).bind fun q => ev 218 144 L (q.1.toList ++ st) q.2 := G_callv (k := 1) (p := 1335) (ars := [.int x0, .int x1]) f218_141 lkC_12_287 (by decide) (by decide +kernel) rfl (vcls_ob (ci := 11) (by decide) ho) (Nat.le_of_ble_eq_true rfl) hs rfl
theorem f218_144 : fetch 218 144 = some (.lload 7, 2) := vtab tk218 75 rfl
theorem e218_144 (l0 l1 l2 l3 l4 l5 l6 : Option Value) (L : VL) (st : List Value) (h : VG) (x : Int64) : ev 218 144 (l0 :: l1 :: l2 :: l3 :: l4 :: l5 :: l6 :: some (.long x) :: L) (st) h = ev 218 146 (l0 :: l1 :: l2 :: l3 :: l4 :: l5 :: l6 :: some (.long x) :: L) (.long x :: st) h := G_lload f218_144 rfl
theorem f218_146 : fetch 218 146 = some (.invokevirtual 430, 3) := vtab tk218 76 rfl
theorem e218_146 (L : VL) (st : List Value) (h : VG) (b : Nat) (x0 : Int32) (x1 : Int32) (x2 : Int64) (ho : ob h b 11) (hs : catS st ≤ 8) : ev 218 146 L (.long x2 :: .int x1 :: .int x0 :: .ref b :: st) h = (ev 206 0 [some (.ref b), some (.int x0), some (.int x1), some (.long x2), none, none, none] [] h).bind fun q => ev 218 149 L (q.1.toList ++ st) q.2 := G_callv (k := 1) (p := 1514) (ars := [.int x0, .int x1, .long x2]) f218_146 lkC_12_430 (by decide) (by decide +kernel) rfl (vcls_ob (ci := 11) (by decide) ho) (Nat.le_of_ble_eq_true rfl) hs rfl
theorem f218_149 : fetch 218 149 = some (.iconst 0, 1) := vtab tk218 77 rfl
theorem e218_149 (L : VL) (st : List Value) (h : VG) : ev 218 149 L (st) h = ev 218 150 L (.int (0 : Int32) :: st) h := G_iconst f218_149 (by decide)
theorem f218_150 : fetch 218 150 = some (.ireturn, 1) := vtab tk218 78 rfl
theorem e218_150 (L : VL) (h : VG) (x : Int32) : ev 218 150 L [.int x] h = some (some (.int x), h) := G_iret f218_150 (ty := .int) (by decide) rfl
/-! 219 GuestCallsModel.laysList(II)I -/
def tb219 : List (Nat × Instr × Nat) := [(0, .aload_n 0, 1), (1, .iconst 0, 1), (2, .putfield 447, 3), (5, .aload_n 0, 1), (6, .iload_n 1, 1), (7, .bipush 8, 2), (9, .iload_n 2, 1), (10, .imul, 1), (11, .invokevirtual 409, 3), (14, .ifCond .ne 5, 3), (17, .iconst 5, 1), (18, .ireturn, 1), (19, .iconst 0, 1), (20, .istore_n 3, 1), (21, .iload_n 3, 1), (22, .iload_n 2, 1), (23, .if_icmp .ge 107, 3), (26, .aload_n 0, 1), (27, .iload_n 1, 1), (28, .bipush 8, 2), (30, .iload_n 3, 1), (31, .imul, 1), (32, .iadd, 1), (33, .iconst 4, 1), (34, .invokevirtual 398, 3), (37, .lstore 4, 2), (39, .aload_n 0, 1), (40, .iload_n 1, 1), (41, .bipush 8, 2), (43, .iload_n 3, 1), (44, .imul, 1), (45, .iadd, 1), (46, .iconst 4, 1), (47, .iadd, 1), (48, .iconst 4, 1), (49, .invokevirtual 398, 3), (52, .iconst 4, 1), (53, .invokestatic 406, 3), (56, .lstore 6, 2), (58, .lload 6, 2), (60, .lconst 0, 1), (61, .lcmp, 1), (62, .ifCond .ge 6, 3), (65, .bipush 6, 2), (67, .ireturn, 1), (68, .lload 6, 2), (70, .lconst 0, 1), (71, .lcmp, 1), (72, .ifCond .le 19, 3), (75, .lload 4, 2), (77, .lload 6, 2), (79, .ladd, 1), (80, .aload_n 0, 1), (81, .getfield 40, 3), (84, .i2l, 1), (85, .lcmp, 1), (86, .ifCond .le 5, 3), (89, .iconst 5, 1), (90, .ireturn, 1), (91, .aload_n 0, 1), (92, .getfield 108, 3), (95, .iload_n 3, 1), (96, .lload 4, 2), (98, .l2i, 1), (99, .iastore, 1), (100, .aload_n 0, 1), (101, .getfield 111, 3), (104, .iload_n 3, 1), (105, .lload 6, 2), (107, .l2i, 1), (108, .iastore, 1), (109, .aload_n 0, 1), (110, .dup, 1), (111, .getfield 447, 3), (114, .aload_n 0, 1), (115, .getfield 111, 3), (118, .iload_n 3, 1), (119, .iaload, 1), (120, .iadd, 1), (121, .putfield 447, 3), (124, .iinc 3 1, 3), (127, .goto (-106), 3), (130, .iconst 0, 1), (131, .ireturn, 1)]
theorem tk219 : tb219.all (fun q => decide (fetch 219 q.1 = some q.2)) = true := by decide +kernel
theorem f219_0 : fetch 219 0 = some (.aload_n 0, 1) := vtab tk219 0 rfl
theorem e219_0 (L : VL) (st : List Value) (h : VG) (x : Nat) : ev 219 0 (some (.ref x) :: L) (st) h = ev 219 1 (some (.ref x) :: L) (.ref x :: st) h := G_aload_n f219_0 rfl
theorem f219_1 : fetch 219 1 = some (.iconst 0, 1) := vtab tk219 1 rfl
theorem e219_1 (L : VL) (st : List Value) (h : VG) : ev 219 1 L (st) h = ev 219 2 L (.int (0 : Int32) :: st) h := G_iconst f219_1 (by decide)
theorem f219_2 : fetch 219 2 = some (.putfield 447, 3) := vtab tk219 2 rfl
theorem e219_2 (L : VL) (st : List Value) (h : VG) (a : Nat) (x : Int32) (ho : ob h a 11) : ev 219 2 L (.int x :: .ref a :: st) h = ev 219 5 L (st) (pI h a 54 x) := G_putI (p := 1067) f219_2 lkF_12_447 (by decide) (by decide) (by decide +kernel) ⟨rfl, rfl⟩ ho
theorem f219_5 : fetch 219 5 = some (.aload_n 0, 1) := vtab tk219 3 rfl
theorem e219_5 (L : VL) (st : List Value) (h : VG) (x : Nat) : ev 219 5 (some (.ref x) :: L) (st) h = ev 219 6 (some (.ref x) :: L) (.ref x :: st) h := G_aload_n f219_5 rfl
theorem f219_6 : fetch 219 6 = some (.iload_n 1, 1) := vtab tk219 4 rfl
theorem e219_6 (l0 : Option Value) (L : VL) (st : List Value) (h : VG) (x : Int32) : ev 219 6 (l0 :: some (.int x) :: L) (st) h = ev 219 7 (l0 :: some (.int x) :: L) (.int x :: st) h := G_iload_n f219_6 rfl
theorem f219_7 : fetch 219 7 = some (.bipush 8, 2) := vtab tk219 5 rfl
theorem e219_7 (L : VL) (st : List Value) (h : VG) : ev 219 7 L (st) h = ev 219 9 L (.int (8 : Int32) :: st) h := G_bipush f219_7 (by decide)
theorem f219_9 : fetch 219 9 = some (.iload_n 2, 1) := vtab tk219 6 rfl
theorem e219_9 (l0 l1 : Option Value) (L : VL) (st : List Value) (h : VG) (x : Int32) : ev 219 9 (l0 :: l1 :: some (.int x) :: L) (st) h = ev 219 10 (l0 :: l1 :: some (.int x) :: L) (.int x :: st) h := G_iload_n f219_9 rfl
theorem f219_10 : fetch 219 10 = some (.imul, 1) := vtab tk219 7 rfl
theorem e219_10 (L : VL) (st : List Value) (h : VG) (x y : Int32) : ev 219 10 L (.int y :: .int x :: st) h = ev 219 11 L (.int (x * y) :: st) h := G_imul f219_10
theorem f219_11 : fetch 219 11 = some (.invokevirtual 409, 3) := vtab tk219 8 rfl
theorem e219_11 (L : VL) (st : List Value) (h : VG) (b : Nat) (x0 : Int32) (x1 : Int32) (ho : ob h b 11) (hs : catS st ≤ 8) : ev 219 11 L (.int x1 :: .int x0 :: .ref b :: st) h = (ev 202 0 [some (.ref b), some (.int x0), some (.int x1)] [] h).bind fun q => ev 219 14 L (q.1.toList ++ st) q.2 := G_callv (k := 1) (p := 1463) (ars := [.int x0, .int x1]) f219_11 lkC_12_409 (by decide) (by decide +kernel) rfl (vcls_ob (ci := 11) (by decide) ho) (Nat.le_of_ble_eq_true rfl) hs rfl
theorem f219_14 : fetch 219 14 = some (.ifCond .ne 5, 3) := vtab tk219 9 rfl
theorem e219_14 (L : VL) (st : List Value) (h : VG) (x : Int32) : ev 219 14 L (.int x :: st) h = if x = 0 then ev 219 17 L st h else ev 219 19 L st h := G_if_ne f219_14 (by decide)
theorem f219_17 : fetch 219 17 = some (.iconst 5, 1) := vtab tk219 10 rfl
theorem e219_17 (L : VL) (st : List Value) (h : VG) : ev 219 17 L (st) h = ev 219 18 L (.int (5 : Int32) :: st) h := G_iconst f219_17 (by decide)
theorem f219_18 : fetch 219 18 = some (.ireturn, 1) := vtab tk219 11 rfl
theorem e219_18 (L : VL) (h : VG) (x : Int32) : ev 219 18 L [.int x] h = some (some (.int x), h) := G_iret f219_18 (ty := .int) (by decide) rfl
theorem f219_19 : fetch 219 19 = some (.iconst 0, 1) := vtab tk219 12 rfl
theorem e219_19 (L : VL) (st : List Value) (h : VG) : ev 219 19 L (st) h = ev 219 20 L (.int (0 : Int32) :: st) h := G_iconst f219_19 (by decide)
theorem f219_20 : fetch 219 20 = some (.istore_n 3, 1) := vtab tk219 13 rfl
theorem e219_20 (l0 l1 l2 l3 : Option Value) (L : VL) (st : List Value) (h : VG) (x : Int32) : ev 219 20 (l0 :: l1 :: l2 :: l3 :: L) (.int x :: st) h = ev 219 21 (l0 :: l1 :: vkk l2 :: some (.int x) :: L) (st) h := G_istore_n f219_20 rfl (S1_3 l0 l1 l2 l3 L _)
theorem f219_21 : fetch 219 21 = some (.iload_n 3, 1) := vtab tk219 14 rfl
theorem e219_21 (l0 l1 l2 : Option Value) (L : VL) (st : List Value) (h : VG) (x : Int32) : ev 219 21 (l0 :: l1 :: l2 :: some (.int x) :: L) (st) h = ev 219 22 (l0 :: l1 :: l2 :: some (.int x) :: L) (.int x :: st) h := G_iload_n f219_21 rfl
theorem f219_22 : fetch 219 22 = some (.iload_n 2, 1) := vtab tk219 15 rfl
theorem e219_22 (l0 l1 : Option Value) (L : VL) (st : List Value) (h : VG) (x : Int32) : ev 219 22 (l0 :: l1 :: some (.int x) :: L) (st) h = ev 219 23 (l0 :: l1 :: some (.int x) :: L) (.int x :: st) h := G_iload_n f219_22 rfl
theorem f219_23 : fetch 219 23 = some (.if_icmp .ge 107, 3) := vtab tk219 16 rfl
theorem e219_23 (L : VL) (st : List Value) (h : VG) (x y : Int32) : ev 219 23 L (.int y :: .int x :: st) h = if x < y then ev 219 26 L st h else ev 219 130 L st h := G_icmp_ge f219_23 (by decide)
theorem f219_26 : fetch 219 26 = some (.aload_n 0, 1) := vtab tk219 17 rfl
theorem e219_26 (L : VL) (st : List Value) (h : VG) (x : Nat) : ev 219 26 (some (.ref x) :: L) (st) h = ev 219 27 (some (.ref x) :: L) (.ref x :: st) h := G_aload_n f219_26 rfl
theorem f219_27 : fetch 219 27 = some (.iload_n 1, 1) := vtab tk219 18 rfl
theorem e219_27 (l0 : Option Value) (L : VL) (st : List Value) (h : VG) (x : Int32) : ev 219 27 (l0 :: some (.int x) :: L) (st) h = ev 219 28 (l0 :: some (.int x) :: L) (.int x :: st) h := G_iload_n f219_27 rfl
theorem f219_28 : fetch 219 28 = some (.bipush 8, 2) := vtab tk219 19 rfl
theorem e219_28 (L : VL) (st : List Value) (h : VG) : ev 219 28 L (st) h = ev 219 30 L (.int (8 : Int32) :: st) h := G_bipush f219_28 (by decide)
theorem f219_30 : fetch 219 30 = some (.iload_n 3, 1) := vtab tk219 20 rfl
theorem e219_30 (l0 l1 l2 : Option Value) (L : VL) (st : List Value) (h : VG) (x : Int32) : ev 219 30 (l0 :: l1 :: l2 :: some (.int x) :: L) (st) h = ev 219 31 (l0 :: l1 :: l2 :: some (.int x) :: L) (.int x :: st) h := G_iload_n f219_30 rfl
theorem f219_31 : fetch 219 31 = some (.imul, 1) := vtab tk219 21 rfl
theorem e219_31 (L : VL) (st : List Value) (h : VG) (x y : Int32) : ev 219 31 L (.int y :: .int x :: st) h = ev 219 32 L (.int (x * y) :: st) h := G_imul f219_31
theorem f219_32 : fetch 219 32 = some (.iadd, 1) := vtab tk219 22 rfl
theorem e219_32 (L : VL) (st : List Value) (h : VG) (x y : Int32) : ev 219 32 L (.int y :: .int x :: st) h = ev 219 33 L (.int (x + y) :: st) h := G_iadd f219_32
theorem f219_33 : fetch 219 33 = some (.iconst 4, 1) := vtab tk219 23 rfl
theorem e219_33 (L : VL) (st : List Value) (h : VG) : ev 219 33 L (st) h = ev 219 34 L (.int (4 : Int32) :: st) h := G_iconst f219_33 (by decide)
theorem f219_34 : fetch 219 34 = some (.invokevirtual 398, 3) := vtab tk219 24 rfl
theorem e219_34 (L : VL) (st : List Value) (h : VG) (b : Nat) (x0 : Int32) (x1 : Int32) (ho : ob h b 11) (hs : catS st ≤ 8) : ev 219 34 L (.int x1 :: .int x0 :: .ref b :: st) h = (ev 203 0 [some (.ref b), some (.int x0), some (.int x1), none, none, none] [] h).bind fun q => ev 219 37 L (q.1.toList ++ st) q.2 := G_callv (k := 1) (p := 1475) (ars := [.int x0, .int x1]) f219_34 lkC_12_398 (by decide) (by decide +kernel) rfl (vcls_ob (ci := 11) (by decide) ho) (Nat.le_of_ble_eq_true rfl) hs rfl
theorem f219_37 : fetch 219 37 = some (.lstore 4, 2) := vtab tk219 25 rfl
theorem e219_37 (l0 l1 l2 l3 l4 l5 : Option Value) (L : VL) (st : List Value) (h : VG) (x : Int64) : ev 219 37 (l0 :: l1 :: l2 :: l3 :: l4 :: l5 :: L) (.long x :: st) h = ev 219 39 (l0 :: l1 :: l2 :: vkk l3 :: some (.long x) :: none :: L) (st) h := G_lstore f219_37 rfl (S2_4 l0 l1 l2 l3 l4 l5 L _)
theorem f219_39 : fetch 219 39 = some (.aload_n 0, 1) := vtab tk219 26 rfl
theorem e219_39 (L : VL) (st : List Value) (h : VG) (x : Nat) : ev 219 39 (some (.ref x) :: L) (st) h = ev 219 40 (some (.ref x) :: L) (.ref x :: st) h := G_aload_n f219_39 rfl
theorem f219_40 : fetch 219 40 = some (.iload_n 1, 1) := vtab tk219 27 rfl
theorem e219_40 (l0 : Option Value) (L : VL) (st : List Value) (h : VG) (x : Int32) : ev 219 40 (l0 :: some (.int x) :: L) (st) h = ev 219 41 (l0 :: some (.int x) :: L) (.int x :: st) h := G_iload_n f219_40 rfl
theorem f219_41 : fetch 219 41 = some (.bipush 8, 2) := vtab tk219 28 rfl
theorem e219_41 (L : VL) (st : List Value) (h : VG) : ev 219 41 L (st) h = ev 219 43 L (.int (8 : Int32) :: st) h := G_bipush f219_41 (by decide)
theorem f219_43 : fetch 219 43 = some (.iload_n 3, 1) := vtab tk219 29 rfl
theorem e219_43 (l0 l1 l2 : Option Value) (L : VL) (st : List Value) (h : VG) (x : Int32) : ev 219 43 (l0 :: l1 :: l2 :: some (.int x) :: L) (st) h = ev 219 44 (l0 :: l1 :: l2 :: some (.int x) :: L) (.int x :: st) h := G_iload_n f219_43 rfl
theorem f219_44 : fetch 219 44 = some (.imul, 1) := vtab tk219 30 rfl
theorem e219_44 (L : VL) (st : List Value) (h : VG) (x y : Int32) : ev 219 44 L (.int y :: .int x :: st) h = ev 219 45 L (.int (x * y) :: st) h := G_imul f219_44
theorem f219_45 : fetch 219 45 = some (.iadd, 1) := vtab tk219 31 rfl
theorem e219_45 (L : VL) (st : List Value) (h : VG) (x y : Int32) : ev 219 45 L (.int y :: .int x :: st) h = ev 219 46 L (.int (x + y) :: st) h := G_iadd f219_45
theorem f219_46 : fetch 219 46 = some (.iconst 4, 1) := vtab tk219 32 rfl
theorem e219_46 (L : VL) (st : List Value) (h : VG) : ev 219 46 L (st) h = ev 219 47 L (.int (4 : Int32) :: st) h := G_iconst f219_46 (by decide)
theorem f219_47 : fetch 219 47 = some (.iadd, 1) := vtab tk219 33 rfl
theorem e219_47 (L : VL) (st : List Value) (h : VG) (x y : Int32) : ev 219 47 L (.int y :: .int x :: st) h = ev 219 48 L (.int (x + y) :: st) h := G_iadd f219_47
theorem f219_48 : fetch 219 48 = some (.iconst 4, 1) := vtab tk219 34 rfl
theorem e219_48 (L : VL) (st : List Value) (h : VG) : ev 219 48 L (st) h = ev 219 49 L (.int (4 : Int32) :: st) h := G_iconst f219_48 (by decide)
theorem f219_49 : fetch 219 49 = some (.invokevirtual 398, 3) := vtab tk219 35 rfl
theorem e219_49 (L : VL) (st : List Value) (h : VG) (b : Nat) (x0 : Int32) (x1 : Int32) (ho : ob h b 11) (hs : catS st ≤ 8) : ev 219 49 L (.int x1 :: .int x0 :: .ref b :: st) h = (ev 203 0 [some (.ref b), some (.int x0), some (.int x1), none, none, none] [] h).bind fun q => ev 219 52 L (q.1.toList ++ st) q.2 := G_callv (k := 1) (p := 1475) (ars := [.int x0, .int x1]) f219_49 lkC_12_398 (by decide) (by decide +kernel) rfl (vcls_ob (ci := 11) (by decide) ho) (Nat.le_of_ble_eq_true rfl) hs rfl
theorem f219_52 : fetch 219 52 = some (.iconst 4, 1) := vtab tk219 36 rfl
theorem e219_52 (L : VL) (st : List Value) (h : VG) : ev 219 52 L (st) h = ev 219 53 L (.int (4 : Int32) :: st) h := G_iconst f219_52 (by decide)
theorem f219_53 : fetch 219 53 = some (.invokestatic 406, 3) := vtab tk219 37 rfl
theorem e219_53 (L : VL) (st : List Value) (h : VG) (x0 : Int64) (x1 : Int32) (hs : catS st ≤ 8) : ev 219 53 L (.int x1 :: .long x0 :: st) h = (ev 204 0 [some (.long x0), none, some (.int x1), none] [] h).bind fun q => ev 219 56 L (q.1.toList ++ st) q.2 := G_calls (k := 0) (p := 1489) (ars := [.long x0, .int x1]) f219_53 lkC_12_406 (by decide) (by decide +kernel) rfl (Nat.le_of_ble_eq_true rfl) hs rfl
theorem f219_56 : fetch 219 56 = some (.lstore 6, 2) := vtab tk219 38 rfl
theorem e219_56 (l0 l1 l2 l3 l4 l5 l6 l7 : Option Value) (L : VL) (st : List Value) (h : VG) (x : Int64) : ev 219 56 (l0 :: l1 :: l2 :: l3 :: l4 :: l5 :: l6 :: l7 :: L) (.long x :: st) h = ev 219 58 (l0 :: l1 :: l2 :: l3 :: l4 :: vkk l5 :: some (.long x) :: none :: L) (st) h := G_lstore f219_56 rfl (S2_6 l0 l1 l2 l3 l4 l5 l6 l7 L _)
theorem f219_58 : fetch 219 58 = some (.lload 6, 2) := vtab tk219 39 rfl
theorem e219_58 (l0 l1 l2 l3 l4 l5 : Option Value) (L : VL) (st : List Value) (h : VG) (x : Int64) : ev 219 58 (l0 :: l1 :: l2 :: l3 :: l4 :: l5 :: some (.long x) :: L) (st) h = ev 219 60 (l0 :: l1 :: l2 :: l3 :: l4 :: l5 :: some (.long x) :: L) (.long x :: st) h := G_lload f219_58 rfl
theorem f219_60 : fetch 219 60 = some (.lconst 0, 1) := vtab tk219 40 rfl
theorem e219_60 (L : VL) (st : List Value) (h : VG) : ev 219 60 L (st) h = ev 219 61 L (.long 0 :: st) h := G_lconst f219_60 (by decide)
theorem f219_61 : fetch 219 61 = some (.lcmp, 1) := vtab tk219 41 rfl
theorem e219_61 (L : VL) (st : List Value) (h : VG) (x y : Int64) : ev 219 61 L (.long y :: .long x :: st) h = ev 219 62 L (.int (lg_cmp x y) :: st) h := G_lcmp f219_61
theorem f219_62 : fetch 219 62 = some (.ifCond .ge 6, 3) := vtab tk219 42 rfl
theorem e219_62 (L : VL) (st : List Value) (h : VG) (x : Int32) : ev 219 62 L (.int x :: st) h = if x < 0 then ev 219 65 L st h else ev 219 68 L st h := G_if_ge f219_62 (by decide)
theorem f219_65 : fetch 219 65 = some (.bipush 6, 2) := vtab tk219 43 rfl
theorem e219_65 (L : VL) (st : List Value) (h : VG) : ev 219 65 L (st) h = ev 219 67 L (.int (6 : Int32) :: st) h := G_bipush f219_65 (by decide)
theorem f219_67 : fetch 219 67 = some (.ireturn, 1) := vtab tk219 44 rfl
theorem e219_67 (L : VL) (h : VG) (x : Int32) : ev 219 67 L [.int x] h = some (some (.int x), h) := G_iret f219_67 (ty := .int) (by decide) rfl
theorem f219_68 : fetch 219 68 = some (.lload 6, 2) := vtab tk219 45 rfl
theorem e219_68 (l0 l1 l2 l3 l4 l5 : Option Value) (L : VL) (st : List Value) (h : VG) (x : Int64) : ev 219 68 (l0 :: l1 :: l2 :: l3 :: l4 :: l5 :: some (.long x) :: L) (st) h = ev 219 70 (l0 :: l1 :: l2 :: l3 :: l4 :: l5 :: some (.long x) :: L) (.long x :: st) h := G_lload f219_68 rfl
theorem f219_70 : fetch 219 70 = some (.lconst 0, 1) := vtab tk219 46 rfl
theorem e219_70 (L : VL) (st : List Value) (h : VG) : ev 219 70 L (st) h = ev 219 71 L (.long 0 :: st) h := G_lconst f219_70 (by decide)
theorem f219_71 : fetch 219 71 = some (.lcmp, 1) := vtab tk219 47 rfl
theorem e219_71 (L : VL) (st : List Value) (h : VG) (x y : Int64) : ev 219 71 L (.long y :: .long x :: st) h = ev 219 72 L (.int (lg_cmp x y) :: st) h := G_lcmp f219_71
theorem f219_72 : fetch 219 72 = some (.ifCond .le 19, 3) := vtab tk219 48 rfl
theorem e219_72 (L : VL) (st : List Value) (h : VG) (x : Int32) : ev 219 72 L (.int x :: st) h = if x ≤ 0 then ev 219 91 L st h else ev 219 75 L st h := G_if_le f219_72 (by decide)
theorem f219_75 : fetch 219 75 = some (.lload 4, 2) := vtab tk219 49 rfl
theorem e219_75 (l0 l1 l2 l3 : Option Value) (L : VL) (st : List Value) (h : VG) (x : Int64) : ev 219 75 (l0 :: l1 :: l2 :: l3 :: some (.long x) :: L) (st) h = ev 219 77 (l0 :: l1 :: l2 :: l3 :: some (.long x) :: L) (.long x :: st) h := G_lload f219_75 rfl
theorem f219_77 : fetch 219 77 = some (.lload 6, 2) := vtab tk219 50 rfl
theorem e219_77 (l0 l1 l2 l3 l4 l5 : Option Value) (L : VL) (st : List Value) (h : VG) (x : Int64) : ev 219 77 (l0 :: l1 :: l2 :: l3 :: l4 :: l5 :: some (.long x) :: L) (st) h = ev 219 79 (l0 :: l1 :: l2 :: l3 :: l4 :: l5 :: some (.long x) :: L) (.long x :: st) h := G_lload f219_77 rfl
theorem f219_79 : fetch 219 79 = some (.ladd, 1) := vtab tk219 51 rfl
theorem e219_79 (L : VL) (st : List Value) (h : VG) (x y : Int64) : ev 219 79 L (.long y :: .long x :: st) h = ev 219 80 L (.long (x + y) :: st) h := G_ladd f219_79
theorem f219_80 : fetch 219 80 = some (.aload_n 0, 1) := vtab tk219 52 rfl
theorem e219_80 (L : VL) (st : List Value) (h : VG) (x : Nat) : ev 219 80 (some (.ref x) :: L) (st) h = ev 219 81 (some (.ref x) :: L) (.ref x :: st) h := G_aload_n f219_80 rfl
theorem f219_81 : fetch 219 81 = some (.getfield 40, 3) := vtab tk219 53 rfl
theorem e219_81 (L : VL) (st : List Value) (h : VG) (a : Nat) (ho : ob h a 11) : ev 219 81 L (.ref a :: st) h = ev 219 84 L (.int (gI h a 18) :: st) h := G_getI (p := 1031) f219_81 lkF_12_40 (by decide) (by decide) ho
theorem f219_84 : fetch 219 84 = some (.i2l, 1) := vtab tk219 54 rfl
theorem e219_84 (L : VL) (st : List Value) (h : VG) (x : Int32) : ev 219 84 L (.int x :: st) h = ev 219 85 L (.long x.toInt64 :: st) h := G_i2l f219_84
theorem f219_85 : fetch 219 85 = some (.lcmp, 1) := vtab tk219 55 rfl
theorem e219_85 (L : VL) (st : List Value) (h : VG) (x y : Int64) : ev 219 85 L (.long y :: .long x :: st) h = ev 219 86 L (.int (lg_cmp x y) :: st) h := G_lcmp f219_85
theorem f219_86 : fetch 219 86 = some (.ifCond .le 5, 3) := vtab tk219 56 rfl
theorem e219_86 (L : VL) (st : List Value) (h : VG) (x : Int32) : ev 219 86 L (.int x :: st) h = if x ≤ 0 then ev 219 91 L st h else ev 219 89 L st h := G_if_le f219_86 (by decide)
theorem f219_89 : fetch 219 89 = some (.iconst 5, 1) := vtab tk219 57 rfl
theorem e219_89 (L : VL) (st : List Value) (h : VG) : ev 219 89 L (st) h = ev 219 90 L (.int (5 : Int32) :: st) h := G_iconst f219_89 (by decide)
theorem f219_90 : fetch 219 90 = some (.ireturn, 1) := vtab tk219 58 rfl
theorem e219_90 (L : VL) (h : VG) (x : Int32) : ev 219 90 L [.int x] h = some (some (.int x), h) := G_iret f219_90 (ty := .int) (by decide) rfl
theorem f219_91 : fetch 219 91 = some (.aload_n 0, 1) := vtab tk219 59 rfl
theorem e219_91 (L : VL) (st : List Value) (h : VG) (x : Nat) : ev 219 91 (some (.ref x) :: L) (st) h = ev 219 92 (some (.ref x) :: L) (.ref x :: st) h := G_aload_n f219_91 rfl
theorem f219_92 : fetch 219 92 = some (.getfield 108, 3) := vtab tk219 60 rfl
theorem e219_92 (L : VL) (st : List Value) (h : VG) (a : Nat) (ho : ob h a 11) (hr : isR h a 52) : ev 219 92 L (.ref a :: st) h = ev 219 95 L (.ref (gR h a 52) :: st) h := G_getR (p := 1065) f219_92 lkF_12_108 (by decide) (by decide) ho hr
theorem f219_95 : fetch 219 95 = some (.iload_n 3, 1) := vtab tk219 61 rfl
theorem e219_95 (l0 l1 l2 : Option Value) (L : VL) (st : List Value) (h : VG) (x : Int32) : ev 219 95 (l0 :: l1 :: l2 :: some (.int x) :: L) (st) h = ev 219 96 (l0 :: l1 :: l2 :: some (.int x) :: L) (.int x :: st) h := G_iload_n f219_95 rfl
theorem f219_96 : fetch 219 96 = some (.lload 4, 2) := vtab tk219 62 rfl
theorem e219_96 (l0 l1 l2 l3 : Option Value) (L : VL) (st : List Value) (h : VG) (x : Int64) : ev 219 96 (l0 :: l1 :: l2 :: l3 :: some (.long x) :: L) (st) h = ev 219 98 (l0 :: l1 :: l2 :: l3 :: some (.long x) :: L) (.long x :: st) h := G_lload f219_96 rfl
theorem f219_98 : fetch 219 98 = some (.l2i, 1) := vtab tk219 63 rfl
theorem e219_98 (L : VL) (st : List Value) (h : VG) (x : Int64) : ev 219 98 L (.long x :: st) h = ev 219 99 L (.int x.toInt32 :: st) h := G_l2i f219_98
theorem f219_99 : fetch 219 99 = some (.iastore, 1) := vtab tk219 64 rfl
theorem e219_99 (L : VL) (st : List Value) (h : VG) (a : Nat) (i : Int32) (x : Int32) (ha : arI h a 0) (hi : vp_in i (aln h a)) : ev 219 99 L (.int x :: .int i :: .ref a :: st) h = ev 219 100 L (st) (wI h a i.toNatClampNeg x) := G_iast f219_99 ha hi
theorem f219_100 : fetch 219 100 = some (.aload_n 0, 1) := vtab tk219 65 rfl
theorem e219_100 (L : VL) (st : List Value) (h : VG) (x : Nat) : ev 219 100 (some (.ref x) :: L) (st) h = ev 219 101 (some (.ref x) :: L) (.ref x :: st) h := G_aload_n f219_100 rfl
theorem f219_101 : fetch 219 101 = some (.getfield 111, 3) := vtab tk219 66 rfl
theorem e219_101 (L : VL) (st : List Value) (h : VG) (a : Nat) (ho : ob h a 11) (hr : isR h a 53) : ev 219 101 L (.ref a :: st) h = ev 219 104 L (.ref (gR h a 53) :: st) h := G_getR (p := 1066) f219_101 lkF_12_111 (by decide) (by decide) ho hr
theorem f219_104 : fetch 219 104 = some (.iload_n 3, 1) := vtab tk219 67 rfl
theorem e219_104 (l0 l1 l2 : Option Value) (L : VL) (st : List Value) (h : VG) (x : Int32) : ev 219 104 (l0 :: l1 :: l2 :: some (.int x) :: L) (st) h = ev 219 105 (l0 :: l1 :: l2 :: some (.int x) :: L) (.int x :: st) h := G_iload_n f219_104 rfl
theorem f219_105 : fetch 219 105 = some (.lload 6, 2) := vtab tk219 68 rfl
theorem e219_105 (l0 l1 l2 l3 l4 l5 : Option Value) (L : VL) (st : List Value) (h : VG) (x : Int64) : ev 219 105 (l0 :: l1 :: l2 :: l3 :: l4 :: l5 :: some (.long x) :: L) (st) h = ev 219 107 (l0 :: l1 :: l2 :: l3 :: l4 :: l5 :: some (.long x) :: L) (.long x :: st) h := G_lload f219_105 rfl
theorem f219_107 : fetch 219 107 = some (.l2i, 1) := vtab tk219 69 rfl
theorem e219_107 (L : VL) (st : List Value) (h : VG) (x : Int64) : ev 219 107 L (.long x :: st) h = ev 219 108 L (.int x.toInt32 :: st) h := G_l2i f219_107
theorem f219_108 : fetch 219 108 = some (.iastore, 1) := vtab tk219 70 rfl
theorem e219_108 (L : VL) (st : List Value) (h : VG) (a : Nat) (i : Int32) (x : Int32) (ha : arI h a 0) (hi : vp_in i (aln h a)) : ev 219 108 L (.int x :: .int i :: .ref a :: st) h = ev 219 109 L (st) (wI h a i.toNatClampNeg x) := G_iast f219_108 ha hi
theorem f219_109 : fetch 219 109 = some (.aload_n 0, 1) := vtab tk219 71 rfl
theorem e219_109 (L : VL) (st : List Value) (h : VG) (x : Nat) : ev 219 109 (some (.ref x) :: L) (st) h = ev 219 110 (some (.ref x) :: L) (.ref x :: st) h := G_aload_n f219_109 rfl
theorem f219_110 : fetch 219 110 = some (.dup, 1) := vtab tk219 72 rfl
theorem e219_110b (L : VL) (st : List Value) (h : VG) (x : Int32) : ev 219 110 L (.int x :: st) h = ev 219 111 L (.int x :: .int x :: st) h := G_dup_int f219_110
theorem e219_110 (L : VL) (st : List Value) (h : VG) (x : Nat) : ev 219 110 L (.ref x :: st) h = ev 219 111 L (.ref x :: .ref x :: st) h := G_dup_ref f219_110
theorem f219_111 : fetch 219 111 = some (.getfield 447, 3) := vtab tk219 73 rfl
theorem e219_111 (L : VL) (st : List Value) (h : VG) (a : Nat) (ho : ob h a 11) : ev 219 111 L (.ref a :: st) h = ev 219 114 L (.int (gI h a 54) :: st) h := G_getI (p := 1067) f219_111 lkF_12_447 (by decide) (by decide) ho
theorem f219_114 : fetch 219 114 = some (.aload_n 0, 1) := vtab tk219 74 rfl
theorem e219_114 (L : VL) (st : List Value) (h : VG) (x : Nat) : ev 219 114 (some (.ref x) :: L) (st) h = ev 219 115 (some (.ref x) :: L) (.ref x :: st) h := G_aload_n f219_114 rfl
theorem f219_115 : fetch 219 115 = some (.getfield 111, 3) := vtab tk219 75 rfl
theorem e219_115 (L : VL) (st : List Value) (h : VG) (a : Nat) (ho : ob h a 11) (hr : isR h a 53) : ev 219 115 L (.ref a :: st) h = ev 219 118 L (.ref (gR h a 53) :: st) h := G_getR (p := 1066) f219_115 lkF_12_111 (by decide) (by decide) ho hr
theorem f219_118 : fetch 219 118 = some (.iload_n 3, 1) := vtab tk219 76 rfl
theorem e219_118 (l0 l1 l2 : Option Value) (L : VL) (st : List Value) (h : VG) (x : Int32) : ev 219 118 (l0 :: l1 :: l2 :: some (.int x) :: L) (st) h = ev 219 119 (l0 :: l1 :: l2 :: some (.int x) :: L) (.int x :: st) h := G_iload_n f219_118 rfl
theorem f219_119 : fetch 219 119 = some (.iaload, 1) := vtab tk219 77 rfl
theorem e219_119 (L : VL) (st : List Value) (h : VG) (a : Nat) (i : Int32) (ha : rdI h a) (hi : vp_in i (aln h a)) : ev 219 119 L (.int i :: .ref a :: st) h = ev 219 120 L (.int (aI h a i.toNatClampNeg) :: st) h := G_iald' f219_119 ha hi
theorem f219_120 : fetch 219 120 = some (.iadd, 1) := vtab tk219 78 rfl
theorem e219_120 (L : VL) (st : List Value) (h : VG) (x y : Int32) : ev 219 120 L (.int y :: .int x :: st) h = ev 219 121 L (.int (x + y) :: st) h := G_iadd f219_120
theorem f219_121 : fetch 219 121 = some (.putfield 447, 3) := vtab tk219 79 rfl
theorem e219_121 (L : VL) (st : List Value) (h : VG) (a : Nat) (x : Int32) (ho : ob h a 11) : ev 219 121 L (.int x :: .ref a :: st) h = ev 219 124 L (st) (pI h a 54 x) := G_putI (p := 1067) f219_121 lkF_12_447 (by decide) (by decide) (by decide +kernel) ⟨rfl, rfl⟩ ho
theorem f219_124 : fetch 219 124 = some (.iinc 3 1, 3) := vtab tk219 80 rfl
theorem e219_124 (l0 l1 l2 : Option Value) (L : VL) (st : List Value) (h : VG) (x : Int32) : ev 219 124 (l0 :: l1 :: l2 :: some (.int x) :: L) (st) h = ev 219 127 (l0 :: l1 :: vkk l2 :: some (.int (x + (1 : Int32))) :: L) (st) h := G_iinc f219_124 rfl (by decide) (S1_3 l0 l1 l2 (some (.int x)) L _)
theorem f219_127 : fetch 219 127 = some (.goto (-106), 3) := vtab tk219 81 rfl
theorem e219_127 (L : VL) (st : List Value) (h : VG) : ev 219 127 L (st) h = ev 219 21 L (st) h := G_goto f219_127 (by decide)
theorem f219_130 : fetch 219 130 = some (.iconst 0, 1) := vtab tk219 82 rfl
theorem e219_130 (L : VL) (st : List Value) (h : VG) : ev 219 130 L (st) h = ev 219 131 L (.int (0 : Int32) :: st) h := G_iconst f219_130 (by decide)
theorem f219_131 : fetch 219 131 = some (.ireturn, 1) := vtab tk219 83 rfl
theorem e219_131 (L : VL) (h : VG) (x : Int32) : ev 219 131 L [.int x] h = some (some (.int x), h) := G_iret f219_131 (ty := .int) (by decide) rfl
/-! 220 GuestCallsModel.list(III)I -/
def tb220 : List (Nat × Instr × Nat) := [(0, .aload_n 0, 1), (1, .iconst 0, 1), (2, .putfield 244, 3), (5, .iload_n 2, 1), (6, .iconst 0, 1), (7, .bipush 8, 2), (9, .invokestatic 260, 3), (12, .ifCond .eq 12, 3), (15, .iload_n 3, 1), (16, .iconst 0, 1), (17, .iconst 2, 1), (18, .invokestatic 260, 3), (21, .ifCond .ne 5, 3), (24, .iconst (-1), 1), (25, .ireturn, 1), (26, .aload_n 0, 1), (27, .aload_n 0, 1), (28, .iload_n 1, 1), (29, .iload_n 2, 1), (30, .invokevirtual 450, 3), (33, .invokevirtual 347, 3), (36, .ifCond .ne 5, 3), (39, .iconst (-1), 1), (40, .ireturn, 1), (41, .iconst 0, 1), (42, .istore 4, 2), (44, .iconst 0, 1), (45, .istore 5, 2), (47, .iconst 0, 1), (48, .istore 6, 2), (50, .iload 6, 2), (52, .iload_n 2, 1), (53, .if_icmp .ge 43, 3), (56, .aload_n 0, 1), (57, .getfield 111, 3), (60, .iload 6, 2), (62, .iaload, 1), (63, .ifCond .ne 6, 3), (66, .iinc 4 1, 3), (69, .aload_n 0, 1), (70, .getfield 111, 3), (73, .iload 6, 2), (75, .iaload, 1), (76, .iload 5, 2), (78, .if_icmp .le 12, 3), (81, .aload_n 0, 1), (82, .getfield 111, 3), (85, .iload 6, 2), (87, .iaload, 1), (88, .istore 5, 2), (90, .iinc 6 1, 3), (93, .goto (-43), 3), (96, .iload_n 3, 1), (97, .ifCond .ne 10, 3), (100, .aload_n 0, 1), (101, .getfield 447, 3), (104, .goto 15, 3), (107, .iload_n 3, 1), (108, .iconst 1, 1), (109, .if_icmp .ne 8, 3), (112, .iload 4, 2), (114, .goto 5, 3), (117, .iload 5, 2), (119, .ireturn, 1)]
theorem tk220 : tb220.all (fun q => decide (fetch 220 q.1 = some q.2)) = true := by decide +kernel
theorem f220_0 : fetch 220 0 = some (.aload_n 0, 1) := vtab tk220 0 rfl
theorem e220_0 (L : VL) (st : List Value) (h : VG) (x : Nat) : ev 220 0 (some (.ref x) :: L) (st) h = ev 220 1 (some (.ref x) :: L) (.ref x :: st) h := G_aload_n f220_0 rfl
theorem f220_1 : fetch 220 1 = some (.iconst 0, 1) := vtab tk220 1 rfl
theorem e220_1 (L : VL) (st : List Value) (h : VG) : ev 220 1 L (st) h = ev 220 2 L (.int (0 : Int32) :: st) h := G_iconst f220_1 (by decide)
theorem f220_2 : fetch 220 2 = some (.putfield 244, 3) := vtab tk220 2 rfl
theorem e220_2 (L : VL) (st : List Value) (h : VG) (a : Nat) (x : Int32) (ho : ob h a 11) : ev 220 2 L (.int x :: .ref a :: st) h = ev 220 5 L (st) (pI h a 31 x) := G_putI (p := 1044) f220_2 lkF_12_244 (by decide) (by decide) (by decide +kernel) ⟨rfl, rfl⟩ ho
theorem f220_5 : fetch 220 5 = some (.iload_n 2, 1) := vtab tk220 3 rfl
theorem e220_5 (l0 l1 : Option Value) (L : VL) (st : List Value) (h : VG) (x : Int32) : ev 220 5 (l0 :: l1 :: some (.int x) :: L) (st) h = ev 220 6 (l0 :: l1 :: some (.int x) :: L) (.int x :: st) h := G_iload_n f220_5 rfl
theorem f220_6 : fetch 220 6 = some (.iconst 0, 1) := vtab tk220 4 rfl
theorem e220_6 (L : VL) (st : List Value) (h : VG) : ev 220 6 L (st) h = ev 220 7 L (.int (0 : Int32) :: st) h := G_iconst f220_6 (by decide)
theorem f220_7 : fetch 220 7 = some (.bipush 8, 2) := vtab tk220 5 rfl
theorem e220_7 (L : VL) (st : List Value) (h : VG) : ev 220 7 L (st) h = ev 220 9 L (.int (8 : Int32) :: st) h := G_bipush f220_7 (by decide)
theorem f220_9 : fetch 220 9 = some (.invokestatic 260, 3) := vtab tk220 6 rfl
theorem e220_9 (L : VL) (st : List Value) (h : VG) (x0 : Int32) (x1 : Int32) (x2 : Int32) (hs : catS st ≤ 8) : ev 220 9 L (.int x2 :: .int x1 :: .int x0 :: st) h = (ev 162 0 [some (.int x0), some (.int x1), some (.int x2)] [] h).bind fun q => ev 220 12 L (q.1.toList ++ st) q.2 := G_calls (k := 0) (p := 1286) (ars := [.int x0, .int x1, .int x2]) f220_9 lkC_12_260 (by decide) (by decide +kernel) rfl (Nat.le_of_ble_eq_true rfl) hs rfl
theorem f220_12 : fetch 220 12 = some (.ifCond .eq 12, 3) := vtab tk220 7 rfl
theorem e220_12 (L : VL) (st : List Value) (h : VG) (x : Int32) : ev 220 12 L (.int x :: st) h = if x = 0 then ev 220 24 L st h else ev 220 15 L st h := G_if_eq f220_12 (by decide)
theorem f220_15 : fetch 220 15 = some (.iload_n 3, 1) := vtab tk220 8 rfl
theorem e220_15 (l0 l1 l2 : Option Value) (L : VL) (st : List Value) (h : VG) (x : Int32) : ev 220 15 (l0 :: l1 :: l2 :: some (.int x) :: L) (st) h = ev 220 16 (l0 :: l1 :: l2 :: some (.int x) :: L) (.int x :: st) h := G_iload_n f220_15 rfl
theorem f220_16 : fetch 220 16 = some (.iconst 0, 1) := vtab tk220 9 rfl
theorem e220_16 (L : VL) (st : List Value) (h : VG) : ev 220 16 L (st) h = ev 220 17 L (.int (0 : Int32) :: st) h := G_iconst f220_16 (by decide)
theorem f220_17 : fetch 220 17 = some (.iconst 2, 1) := vtab tk220 10 rfl
theorem e220_17 (L : VL) (st : List Value) (h : VG) : ev 220 17 L (st) h = ev 220 18 L (.int (2 : Int32) :: st) h := G_iconst f220_17 (by decide)
theorem f220_18 : fetch 220 18 = some (.invokestatic 260, 3) := vtab tk220 11 rfl
theorem e220_18 (L : VL) (st : List Value) (h : VG) (x0 : Int32) (x1 : Int32) (x2 : Int32) (hs : catS st ≤ 8) : ev 220 18 L (.int x2 :: .int x1 :: .int x0 :: st) h = (ev 162 0 [some (.int x0), some (.int x1), some (.int x2)] [] h).bind fun q => ev 220 21 L (q.1.toList ++ st) q.2 := G_calls (k := 0) (p := 1286) (ars := [.int x0, .int x1, .int x2]) f220_18 lkC_12_260 (by decide) (by decide +kernel) rfl (Nat.le_of_ble_eq_true rfl) hs rfl
theorem f220_21 : fetch 220 21 = some (.ifCond .ne 5, 3) := vtab tk220 12 rfl
theorem e220_21 (L : VL) (st : List Value) (h : VG) (x : Int32) : ev 220 21 L (.int x :: st) h = if x = 0 then ev 220 24 L st h else ev 220 26 L st h := G_if_ne f220_21 (by decide)
theorem f220_24 : fetch 220 24 = some (.iconst (-1), 1) := vtab tk220 13 rfl
theorem e220_24 (L : VL) (st : List Value) (h : VG) : ev 220 24 L (st) h = ev 220 25 L (.int (-1 : Int32) :: st) h := G_iconst f220_24 (by decide)
theorem f220_25 : fetch 220 25 = some (.ireturn, 1) := vtab tk220 14 rfl
theorem e220_25 (L : VL) (h : VG) (x : Int32) : ev 220 25 L [.int x] h = some (some (.int x), h) := G_iret f220_25 (ty := .int) (by decide) rfl
theorem f220_26 : fetch 220 26 = some (.aload_n 0, 1) := vtab tk220 15 rfl
theorem e220_26 (L : VL) (st : List Value) (h : VG) (x : Nat) : ev 220 26 (some (.ref x) :: L) (st) h = ev 220 27 (some (.ref x) :: L) (.ref x :: st) h := G_aload_n f220_26 rfl
theorem f220_27 : fetch 220 27 = some (.aload_n 0, 1) := vtab tk220 16 rfl
theorem e220_27 (L : VL) (st : List Value) (h : VG) (x : Nat) : ev 220 27 (some (.ref x) :: L) (st) h = ev 220 28 (some (.ref x) :: L) (.ref x :: st) h := G_aload_n f220_27 rfl
theorem f220_28 : fetch 220 28 = some (.iload_n 1, 1) := vtab tk220 17 rfl
theorem e220_28 (l0 : Option Value) (L : VL) (st : List Value) (h : VG) (x : Int32) : ev 220 28 (l0 :: some (.int x) :: L) (st) h = ev 220 29 (l0 :: some (.int x) :: L) (.int x :: st) h := G_iload_n f220_28 rfl
theorem f220_29 : fetch 220 29 = some (.iload_n 2, 1) := vtab tk220 18 rfl
theorem e220_29 (l0 l1 : Option Value) (L : VL) (st : List Value) (h : VG) (x : Int32) : ev 220 29 (l0 :: l1 :: some (.int x) :: L) (st) h = ev 220 30 (l0 :: l1 :: some (.int x) :: L) (.int x :: st) h := G_iload_n f220_29 rfl
theorem f220_30 : fetch 220 30 = some (.invokevirtual 450, 3) := vtab tk220 19 rfl
theorem e220_30 (L : VL) (st : List Value) (h : VG) (b : Nat) (x0 : Int32) (x1 : Int32) (ho : ob h b 11) (hs : catS st ≤ 8) : ev 220 30 L (.int x1 :: .int x0 :: .ref b :: st) h = (ev 219 0 [some (.ref b), some (.int x0), some (.int x1), none, none, none, none, none] [] h).bind fun q => ev 220 33 L (q.1.toList ++ st) q.2 := G_callv (k := 1) (p := 1535) (ars := [.int x0, .int x1]) f220_30 lkC_12_450 (by decide) (by decide +kernel) rfl (vcls_ob (ci := 11) (by decide) ho) (Nat.le_of_ble_eq_true rfl) hs rfl
theorem f220_33 : fetch 220 33 = some (.invokevirtual 347, 3) := vtab tk220 20 rfl
theorem e220_33 (L : VL) (st : List Value) (h : VG) (b : Nat) (x0 : Int32) (ho : ob h b 11) (hs : catS st ≤ 8) : ev 220 33 L (.int x0 :: .ref b :: st) h = (ev 164 0 [some (.ref b), some (.int x0)] [] h).bind fun q => ev 220 36 L (q.1.toList ++ st) q.2 := G_callv (k := 1) (p := 1366) (ars := [.int x0]) f220_33 lkC_12_347 (by decide) (by decide +kernel) rfl (vcls_ob (ci := 11) (by decide) ho) (Nat.le_of_ble_eq_true rfl) hs rfl
theorem f220_36 : fetch 220 36 = some (.ifCond .ne 5, 3) := vtab tk220 21 rfl
theorem e220_36 (L : VL) (st : List Value) (h : VG) (x : Int32) : ev 220 36 L (.int x :: st) h = if x = 0 then ev 220 39 L st h else ev 220 41 L st h := G_if_ne f220_36 (by decide)
theorem f220_39 : fetch 220 39 = some (.iconst (-1), 1) := vtab tk220 22 rfl
theorem e220_39 (L : VL) (st : List Value) (h : VG) : ev 220 39 L (st) h = ev 220 40 L (.int (-1 : Int32) :: st) h := G_iconst f220_39 (by decide)
theorem f220_40 : fetch 220 40 = some (.ireturn, 1) := vtab tk220 23 rfl
theorem e220_40 (L : VL) (h : VG) (x : Int32) : ev 220 40 L [.int x] h = some (some (.int x), h) := G_iret f220_40 (ty := .int) (by decide) rfl
theorem f220_41 : fetch 220 41 = some (.iconst 0, 1) := vtab tk220 24 rfl
theorem e220_41 (L : VL) (st : List Value) (h : VG) : ev 220 41 L (st) h = ev 220 42 L (.int (0 : Int32) :: st) h := G_iconst f220_41 (by decide)
theorem f220_42 : fetch 220 42 = some (.istore 4, 2) := vtab tk220 25 rfl
theorem e220_42 (l0 l1 l2 l3 l4 : Option Value) (L : VL) (st : List Value) (h : VG) (x : Int32) : ev 220 42 (l0 :: l1 :: l2 :: l3 :: l4 :: L) (.int x :: st) h = ev 220 44 (l0 :: l1 :: l2 :: vkk l3 :: some (.int x) :: L) (st) h := G_istore f220_42 rfl (S1_4 l0 l1 l2 l3 l4 L _)
theorem f220_44 : fetch 220 44 = some (.iconst 0, 1) := vtab tk220 26 rfl
theorem e220_44 (L : VL) (st : List Value) (h : VG) : ev 220 44 L (st) h = ev 220 45 L (.int (0 : Int32) :: st) h := G_iconst f220_44 (by decide)
theorem f220_45 : fetch 220 45 = some (.istore 5, 2) := vtab tk220 27 rfl
theorem e220_45 (l0 l1 l2 l3 l4 l5 : Option Value) (L : VL) (st : List Value) (h : VG) (x : Int32) : ev 220 45 (l0 :: l1 :: l2 :: l3 :: l4 :: l5 :: L) (.int x :: st) h = ev 220 47 (l0 :: l1 :: l2 :: l3 :: vkk l4 :: some (.int x) :: L) (st) h := G_istore f220_45 rfl (S1_5 l0 l1 l2 l3 l4 l5 L _)
theorem f220_47 : fetch 220 47 = some (.iconst 0, 1) := vtab tk220 28 rfl
theorem e220_47 (L : VL) (st : List Value) (h : VG) : ev 220 47 L (st) h = ev 220 48 L (.int (0 : Int32) :: st) h := G_iconst f220_47 (by decide)
theorem f220_48 : fetch 220 48 = some (.istore 6, 2) := vtab tk220 29 rfl
theorem e220_48 (l0 l1 l2 l3 l4 l5 l6 : Option Value) (L : VL) (st : List Value) (h : VG) (x : Int32) : ev 220 48 (l0 :: l1 :: l2 :: l3 :: l4 :: l5 :: l6 :: L) (.int x :: st) h = ev 220 50 (l0 :: l1 :: l2 :: l3 :: l4 :: vkk l5 :: some (.int x) :: L) (st) h := G_istore f220_48 rfl (S1_6 l0 l1 l2 l3 l4 l5 l6 L _)
theorem f220_50 : fetch 220 50 = some (.iload 6, 2) := vtab tk220 30 rfl
theorem e220_50 (l0 l1 l2 l3 l4 l5 : Option Value) (L : VL) (st : List Value) (h : VG) (x : Int32) : ev 220 50 (l0 :: l1 :: l2 :: l3 :: l4 :: l5 :: some (.int x) :: L) (st) h = ev 220 52 (l0 :: l1 :: l2 :: l3 :: l4 :: l5 :: some (.int x) :: L) (.int x :: st) h := G_iload f220_50 rfl
theorem f220_52 : fetch 220 52 = some (.iload_n 2, 1) := vtab tk220 31 rfl
theorem e220_52 (l0 l1 : Option Value) (L : VL) (st : List Value) (h : VG) (x : Int32) : ev 220 52 (l0 :: l1 :: some (.int x) :: L) (st) h = ev 220 53 (l0 :: l1 :: some (.int x) :: L) (.int x :: st) h := G_iload_n f220_52 rfl
theorem f220_53 : fetch 220 53 = some (.if_icmp .ge 43, 3) := vtab tk220 32 rfl
theorem e220_53 (L : VL) (st : List Value) (h : VG) (x y : Int32) : ev 220 53 L (.int y :: .int x :: st) h = if x < y then ev 220 56 L st h else ev 220 96 L st h := G_icmp_ge f220_53 (by decide)
theorem f220_56 : fetch 220 56 = some (.aload_n 0, 1) := vtab tk220 33 rfl
theorem e220_56 (L : VL) (st : List Value) (h : VG) (x : Nat) : ev 220 56 (some (.ref x) :: L) (st) h = ev 220 57 (some (.ref x) :: L) (.ref x :: st) h := G_aload_n f220_56 rfl
theorem f220_57 : fetch 220 57 = some (.getfield 111, 3) := vtab tk220 34 rfl
theorem e220_57 (L : VL) (st : List Value) (h : VG) (a : Nat) (ho : ob h a 11) (hr : isR h a 53) : ev 220 57 L (.ref a :: st) h = ev 220 60 L (.ref (gR h a 53) :: st) h := G_getR (p := 1066) f220_57 lkF_12_111 (by decide) (by decide) ho hr
theorem f220_60 : fetch 220 60 = some (.iload 6, 2) := vtab tk220 35 rfl
theorem e220_60 (l0 l1 l2 l3 l4 l5 : Option Value) (L : VL) (st : List Value) (h : VG) (x : Int32) : ev 220 60 (l0 :: l1 :: l2 :: l3 :: l4 :: l5 :: some (.int x) :: L) (st) h = ev 220 62 (l0 :: l1 :: l2 :: l3 :: l4 :: l5 :: some (.int x) :: L) (.int x :: st) h := G_iload f220_60 rfl
theorem f220_62 : fetch 220 62 = some (.iaload, 1) := vtab tk220 36 rfl
theorem e220_62 (L : VL) (st : List Value) (h : VG) (a : Nat) (i : Int32) (ha : rdI h a) (hi : vp_in i (aln h a)) : ev 220 62 L (.int i :: .ref a :: st) h = ev 220 63 L (.int (aI h a i.toNatClampNeg) :: st) h := G_iald' f220_62 ha hi
theorem f220_63 : fetch 220 63 = some (.ifCond .ne 6, 3) := vtab tk220 37 rfl
theorem e220_63 (L : VL) (st : List Value) (h : VG) (x : Int32) : ev 220 63 L (.int x :: st) h = if x = 0 then ev 220 66 L st h else ev 220 69 L st h := G_if_ne f220_63 (by decide)
theorem f220_66 : fetch 220 66 = some (.iinc 4 1, 3) := vtab tk220 38 rfl
theorem e220_66 (l0 l1 l2 l3 : Option Value) (L : VL) (st : List Value) (h : VG) (x : Int32) : ev 220 66 (l0 :: l1 :: l2 :: l3 :: some (.int x) :: L) (st) h = ev 220 69 (l0 :: l1 :: l2 :: vkk l3 :: some (.int (x + (1 : Int32))) :: L) (st) h := G_iinc f220_66 rfl (by decide) (S1_4 l0 l1 l2 l3 (some (.int x)) L _)
theorem f220_69 : fetch 220 69 = some (.aload_n 0, 1) := vtab tk220 39 rfl
theorem e220_69 (L : VL) (st : List Value) (h : VG) (x : Nat) : ev 220 69 (some (.ref x) :: L) (st) h = ev 220 70 (some (.ref x) :: L) (.ref x :: st) h := G_aload_n f220_69 rfl
theorem f220_70 : fetch 220 70 = some (.getfield 111, 3) := vtab tk220 40 rfl
theorem e220_70 (L : VL) (st : List Value) (h : VG) (a : Nat) (ho : ob h a 11) (hr : isR h a 53) : ev 220 70 L (.ref a :: st) h = ev 220 73 L (.ref (gR h a 53) :: st) h := G_getR (p := 1066) f220_70 lkF_12_111 (by decide) (by decide) ho hr
theorem f220_73 : fetch 220 73 = some (.iload 6, 2) := vtab tk220 41 rfl
theorem e220_73 (l0 l1 l2 l3 l4 l5 : Option Value) (L : VL) (st : List Value) (h : VG) (x : Int32) : ev 220 73 (l0 :: l1 :: l2 :: l3 :: l4 :: l5 :: some (.int x) :: L) (st) h = ev 220 75 (l0 :: l1 :: l2 :: l3 :: l4 :: l5 :: some (.int x) :: L) (.int x :: st) h := G_iload f220_73 rfl
theorem f220_75 : fetch 220 75 = some (.iaload, 1) := vtab tk220 42 rfl
theorem e220_75 (L : VL) (st : List Value) (h : VG) (a : Nat) (i : Int32) (ha : rdI h a) (hi : vp_in i (aln h a)) : ev 220 75 L (.int i :: .ref a :: st) h = ev 220 76 L (.int (aI h a i.toNatClampNeg) :: st) h := G_iald' f220_75 ha hi
theorem f220_76 : fetch 220 76 = some (.iload 5, 2) := vtab tk220 43 rfl
theorem e220_76 (l0 l1 l2 l3 l4 : Option Value) (L : VL) (st : List Value) (h : VG) (x : Int32) : ev 220 76 (l0 :: l1 :: l2 :: l3 :: l4 :: some (.int x) :: L) (st) h = ev 220 78 (l0 :: l1 :: l2 :: l3 :: l4 :: some (.int x) :: L) (.int x :: st) h := G_iload f220_76 rfl
theorem f220_78 : fetch 220 78 = some (.if_icmp .le 12, 3) := vtab tk220 44 rfl
theorem e220_78 (L : VL) (st : List Value) (h : VG) (x y : Int32) : ev 220 78 L (.int y :: .int x :: st) h = if x ≤ y then ev 220 90 L st h else ev 220 81 L st h := G_icmp_le f220_78 (by decide)
theorem f220_81 : fetch 220 81 = some (.aload_n 0, 1) := vtab tk220 45 rfl
theorem e220_81 (L : VL) (st : List Value) (h : VG) (x : Nat) : ev 220 81 (some (.ref x) :: L) (st) h = ev 220 82 (some (.ref x) :: L) (.ref x :: st) h := G_aload_n f220_81 rfl
theorem f220_82 : fetch 220 82 = some (.getfield 111, 3) := vtab tk220 46 rfl
theorem e220_82 (L : VL) (st : List Value) (h : VG) (a : Nat) (ho : ob h a 11) (hr : isR h a 53) : ev 220 82 L (.ref a :: st) h = ev 220 85 L (.ref (gR h a 53) :: st) h := G_getR (p := 1066) f220_82 lkF_12_111 (by decide) (by decide) ho hr
theorem f220_85 : fetch 220 85 = some (.iload 6, 2) := vtab tk220 47 rfl
theorem e220_85 (l0 l1 l2 l3 l4 l5 : Option Value) (L : VL) (st : List Value) (h : VG) (x : Int32) : ev 220 85 (l0 :: l1 :: l2 :: l3 :: l4 :: l5 :: some (.int x) :: L) (st) h = ev 220 87 (l0 :: l1 :: l2 :: l3 :: l4 :: l5 :: some (.int x) :: L) (.int x :: st) h := G_iload f220_85 rfl
theorem f220_87 : fetch 220 87 = some (.iaload, 1) := vtab tk220 48 rfl
theorem e220_87 (L : VL) (st : List Value) (h : VG) (a : Nat) (i : Int32) (ha : rdI h a) (hi : vp_in i (aln h a)) : ev 220 87 L (.int i :: .ref a :: st) h = ev 220 88 L (.int (aI h a i.toNatClampNeg) :: st) h := G_iald' f220_87 ha hi
theorem f220_88 : fetch 220 88 = some (.istore 5, 2) := vtab tk220 49 rfl
theorem e220_88 (l0 l1 l2 l3 l4 l5 : Option Value) (L : VL) (st : List Value) (h : VG) (x : Int32) : ev 220 88 (l0 :: l1 :: l2 :: l3 :: l4 :: l5 :: L) (.int x :: st) h = ev 220 90 (l0 :: l1 :: l2 :: l3 :: vkk l4 :: some (.int x) :: L) (st) h := G_istore f220_88 rfl (S1_5 l0 l1 l2 l3 l4 l5 L _)
theorem f220_90 : fetch 220 90 = some (.iinc 6 1, 3) := vtab tk220 50 rfl
theorem e220_90 (l0 l1 l2 l3 l4 l5 : Option Value) (L : VL) (st : List Value) (h : VG) (x : Int32) : ev 220 90 (l0 :: l1 :: l2 :: l3 :: l4 :: l5 :: some (.int x) :: L) (st) h = ev 220 93 (l0 :: l1 :: l2 :: l3 :: l4 :: vkk l5 :: some (.int (x + (1 : Int32))) :: L) (st) h := G_iinc f220_90 rfl (by decide) (S1_6 l0 l1 l2 l3 l4 l5 (some (.int x)) L _)
theorem f220_93 : fetch 220 93 = some (.goto (-43), 3) := vtab tk220 51 rfl
theorem e220_93 (L : VL) (st : List Value) (h : VG) : ev 220 93 L (st) h = ev 220 50 L (st) h := G_goto f220_93 (by decide)
theorem f220_96 : fetch 220 96 = some (.iload_n 3, 1) := vtab tk220 52 rfl
theorem e220_96 (l0 l1 l2 : Option Value) (L : VL) (st : List Value) (h : VG) (x : Int32) : ev 220 96 (l0 :: l1 :: l2 :: some (.int x) :: L) (st) h = ev 220 97 (l0 :: l1 :: l2 :: some (.int x) :: L) (.int x :: st) h := G_iload_n f220_96 rfl
theorem f220_97 : fetch 220 97 = some (.ifCond .ne 10, 3) := vtab tk220 53 rfl
theorem e220_97 (L : VL) (st : List Value) (h : VG) (x : Int32) : ev 220 97 L (.int x :: st) h = if x = 0 then ev 220 100 L st h else ev 220 107 L st h := G_if_ne f220_97 (by decide)
theorem f220_100 : fetch 220 100 = some (.aload_n 0, 1) := vtab tk220 54 rfl
theorem e220_100 (L : VL) (st : List Value) (h : VG) (x : Nat) : ev 220 100 (some (.ref x) :: L) (st) h = ev 220 101 (some (.ref x) :: L) (.ref x :: st) h := G_aload_n f220_100 rfl
theorem f220_101 : fetch 220 101 = some (.getfield 447, 3) := vtab tk220 55 rfl
theorem e220_101 (L : VL) (st : List Value) (h : VG) (a : Nat) (ho : ob h a 11) : ev 220 101 L (.ref a :: st) h = ev 220 104 L (.int (gI h a 54) :: st) h := G_getI (p := 1067) f220_101 lkF_12_447 (by decide) (by decide) ho
theorem f220_104 : fetch 220 104 = some (.goto 15, 3) := vtab tk220 56 rfl
theorem e220_104 (L : VL) (st : List Value) (h : VG) : ev 220 104 L (st) h = ev 220 119 L (st) h := G_goto f220_104 (by decide)
theorem f220_107 : fetch 220 107 = some (.iload_n 3, 1) := vtab tk220 57 rfl
theorem e220_107 (l0 l1 l2 : Option Value) (L : VL) (st : List Value) (h : VG) (x : Int32) : ev 220 107 (l0 :: l1 :: l2 :: some (.int x) :: L) (st) h = ev 220 108 (l0 :: l1 :: l2 :: some (.int x) :: L) (.int x :: st) h := G_iload_n f220_107 rfl
theorem f220_108 : fetch 220 108 = some (.iconst 1, 1) := vtab tk220 58 rfl
theorem e220_108 (L : VL) (st : List Value) (h : VG) : ev 220 108 L (st) h = ev 220 109 L (.int (1 : Int32) :: st) h := G_iconst f220_108 (by decide)
theorem f220_109 : fetch 220 109 = some (.if_icmp .ne 8, 3) := vtab tk220 59 rfl
theorem e220_109 (L : VL) (st : List Value) (h : VG) (x y : Int32) : ev 220 109 L (.int y :: .int x :: st) h = if x = y then ev 220 112 L st h else ev 220 117 L st h := G_icmp_ne f220_109 (by decide)
theorem f220_112 : fetch 220 112 = some (.iload 4, 2) := vtab tk220 60 rfl
theorem e220_112 (l0 l1 l2 l3 : Option Value) (L : VL) (st : List Value) (h : VG) (x : Int32) : ev 220 112 (l0 :: l1 :: l2 :: l3 :: some (.int x) :: L) (st) h = ev 220 114 (l0 :: l1 :: l2 :: l3 :: some (.int x) :: L) (.int x :: st) h := G_iload f220_112 rfl
theorem f220_114 : fetch 220 114 = some (.goto 5, 3) := vtab tk220 61 rfl
theorem e220_114 (L : VL) (st : List Value) (h : VG) : ev 220 114 L (st) h = ev 220 119 L (st) h := G_goto f220_114 (by decide)
theorem f220_117 : fetch 220 117 = some (.iload 5, 2) := vtab tk220 62 rfl
theorem e220_117 (l0 l1 l2 l3 l4 : Option Value) (L : VL) (st : List Value) (h : VG) (x : Int32) : ev 220 117 (l0 :: l1 :: l2 :: l3 :: l4 :: some (.int x) :: L) (st) h = ev 220 119 (l0 :: l1 :: l2 :: l3 :: l4 :: some (.int x) :: L) (.int x :: st) h := G_iload f220_117 rfl
theorem f220_119 : fetch 220 119 = some (.ireturn, 1) := vtab tk220 63 rfl
theorem e220_119 (L : VL) (h : VG) (x : Int32) : ev 220 119 L [.int x] h = some (some (.int x), h) := G_iret f220_119 (ty := .int) (by decide) rfl
/-! 221 GuestCallsModel.move(IIIZ)I -/
def tb221 : List (Nat × Instr × Nat) := [(0, .aload_n 0, 1), (1, .iconst 0, 1), (2, .putfield 244, 3), (5, .iload_n 2, 1), (6, .iconst 0, 1), (7, .bipush 8, 2), (9, .invokestatic 260, 3), (12, .ifCond .ne 5, 3), (15, .iconst (-1), 1), (16, .ireturn, 1), (17, .aload_n 0, 1), (18, .iload_n 1, 1), (19, .iload_n 2, 1), (20, .invokevirtual 450, 3), (23, .istore 5, 2), (25, .iload 5, 2), (27, .ifCond .ne 18, 3), (30, .aload_n 0, 1), (31, .iload_n 3, 1), (32, .aload_n 0, 1), (33, .getfield 447, 3), (36, .invokevirtual 409, 3), (39, .ifCond .ne 6, 3), (42, .iconst 5, 1), (43, .istore 5, 2), (45, .aload_n 0, 1), (46, .iload 5, 2), (48, .invokevirtual 347, 3), (51, .ifCond .ne 5, 3), (54, .iconst (-1), 1), (55, .ireturn, 1), (56, .iconst 0, 1), (57, .istore 6, 2), (59, .iconst 0, 1), (60, .istore 7, 2), (62, .iload 7, 2), (64, .iload_n 2, 1), (65, .if_icmp .ge 67, 3), (68, .iconst 0, 1), (69, .istore 8, 2), (71, .iload 8, 2), (73, .aload_n 0, 1), (74, .getfield 111, 3), (77, .iload 7, 2), (79, .iaload, 1), (80, .if_icmp .ge 46, 3), (83, .aload_n 0, 1), (84, .getfield 114, 3), (87, .iload 6, 2), (89, .aload_n 0, 1), (90, .getfield 52, 3), (93, .iload 4, 2), (95, .ifCond .eq 16, 3), (98, .aload_n 0, 1), (99, .getfield 108, 3), (102, .iload 7, 2), (104, .iaload, 1), (105, .iload 8, 2), (107, .iadd, 1), (108, .goto 7, 3), (111, .iload_n 3, 1), (112, .iload 6, 2), (114, .iadd, 1), (115, .iaload, 1), (116, .iastore, 1), (117, .iinc 6 1, 3), (120, .iinc 8 1, 3), (123, .goto (-52), 3), (126, .iinc 7 1, 3), (129, .goto (-67), 3), (132, .iconst 0, 1), (133, .istore 6, 2), (135, .iconst 0, 1), (136, .istore 7, 2), (138, .iload 7, 2), (140, .iload_n 2, 1), (141, .if_icmp .ge 67, 3), (144, .iconst 0, 1), (145, .istore 8, 2), (147, .iload 8, 2), (149, .aload_n 0, 1), (150, .getfield 111, 3), (153, .iload 7, 2), (155, .iaload, 1), (156, .if_icmp .ge 46, 3), (159, .aload_n 0, 1), (160, .getfield 52, 3), (163, .iload 4, 2), (165, .ifCond .eq 10, 3), (168, .iload_n 3, 1), (169, .iload 6, 2), (171, .iadd, 1), (172, .goto 13, 3), (175, .aload_n 0, 1), (176, .getfield 108, 3), (179, .iload 7, 2), (181, .iaload, 1), (182, .iload 8, 2), (184, .iadd, 1), (185, .aload_n 0, 1), (186, .getfield 114, 3), (189, .iload 6, 2), (191, .iaload, 1), (192, .iastore, 1), (193, .iinc 6 1, 3), (196, .iinc 8 1, 3), (199, .goto (-52), 3), (202, .iinc 7 1, 3), (205, .goto (-67), 3), (208, .aload_n 0, 1), (209, .getfield 447, 3), (212, .ireturn, 1)]
theorem tk221 : tb221.all (fun q => decide (fetch 221 q.1 = some q.2)) = true := by decide +kernel
theorem f221_0 : fetch 221 0 = some (.aload_n 0, 1) := vtab tk221 0 rfl
theorem e221_0 (L : VL) (st : List Value) (h : VG) (x : Nat) : ev 221 0 (some (.ref x) :: L) (st) h = ev 221 1 (some (.ref x) :: L) (.ref x :: st) h := G_aload_n f221_0 rfl
theorem f221_1 : fetch 221 1 = some (.iconst 0, 1) := vtab tk221 1 rfl
theorem e221_1 (L : VL) (st : List Value) (h : VG) : ev 221 1 L (st) h = ev 221 2 L (.int (0 : Int32) :: st) h := G_iconst f221_1 (by decide)
theorem f221_2 : fetch 221 2 = some (.putfield 244, 3) := vtab tk221 2 rfl
theorem e221_2 (L : VL) (st : List Value) (h : VG) (a : Nat) (x : Int32) (ho : ob h a 11) : ev 221 2 L (.int x :: .ref a :: st) h = ev 221 5 L (st) (pI h a 31 x) := G_putI (p := 1044) f221_2 lkF_12_244 (by decide) (by decide) (by decide +kernel) ⟨rfl, rfl⟩ ho
theorem f221_5 : fetch 221 5 = some (.iload_n 2, 1) := vtab tk221 3 rfl
theorem e221_5 (l0 l1 : Option Value) (L : VL) (st : List Value) (h : VG) (x : Int32) : ev 221 5 (l0 :: l1 :: some (.int x) :: L) (st) h = ev 221 6 (l0 :: l1 :: some (.int x) :: L) (.int x :: st) h := G_iload_n f221_5 rfl
theorem f221_6 : fetch 221 6 = some (.iconst 0, 1) := vtab tk221 4 rfl
theorem e221_6 (L : VL) (st : List Value) (h : VG) : ev 221 6 L (st) h = ev 221 7 L (.int (0 : Int32) :: st) h := G_iconst f221_6 (by decide)
theorem f221_7 : fetch 221 7 = some (.bipush 8, 2) := vtab tk221 5 rfl
theorem e221_7 (L : VL) (st : List Value) (h : VG) : ev 221 7 L (st) h = ev 221 9 L (.int (8 : Int32) :: st) h := G_bipush f221_7 (by decide)
theorem f221_9 : fetch 221 9 = some (.invokestatic 260, 3) := vtab tk221 6 rfl
theorem e221_9 (L : VL) (st : List Value) (h : VG) (x0 : Int32) (x1 : Int32) (x2 : Int32) (hs : catS st ≤ 8) : ev 221 9 L (.int x2 :: .int x1 :: .int x0 :: st) h = (ev 162 0 [some (.int x0), some (.int x1), some (.int x2)] [] h).bind fun q => ev 221 12 L (q.1.toList ++ st) q.2 := G_calls (k := 0) (p := 1286) (ars := [.int x0, .int x1, .int x2]) f221_9 lkC_12_260 (by decide) (by decide +kernel) rfl (Nat.le_of_ble_eq_true rfl) hs rfl
theorem f221_12 : fetch 221 12 = some (.ifCond .ne 5, 3) := vtab tk221 7 rfl
theorem e221_12 (L : VL) (st : List Value) (h : VG) (x : Int32) : ev 221 12 L (.int x :: st) h = if x = 0 then ev 221 15 L st h else ev 221 17 L st h := G_if_ne f221_12 (by decide)
theorem f221_15 : fetch 221 15 = some (.iconst (-1), 1) := vtab tk221 8 rfl
theorem e221_15 (L : VL) (st : List Value) (h : VG) : ev 221 15 L (st) h = ev 221 16 L (.int (-1 : Int32) :: st) h := G_iconst f221_15 (by decide)
theorem f221_16 : fetch 221 16 = some (.ireturn, 1) := vtab tk221 9 rfl
theorem e221_16 (L : VL) (h : VG) (x : Int32) : ev 221 16 L [.int x] h = some (some (.int x), h) := G_iret f221_16 (ty := .int) (by decide) rfl
theorem f221_17 : fetch 221 17 = some (.aload_n 0, 1) := vtab tk221 10 rfl
theorem e221_17 (L : VL) (st : List Value) (h : VG) (x : Nat) : ev 221 17 (some (.ref x) :: L) (st) h = ev 221 18 (some (.ref x) :: L) (.ref x :: st) h := G_aload_n f221_17 rfl
theorem f221_18 : fetch 221 18 = some (.iload_n 1, 1) := vtab tk221 11 rfl
theorem e221_18 (l0 : Option Value) (L : VL) (st : List Value) (h : VG) (x : Int32) : ev 221 18 (l0 :: some (.int x) :: L) (st) h = ev 221 19 (l0 :: some (.int x) :: L) (.int x :: st) h := G_iload_n f221_18 rfl
theorem f221_19 : fetch 221 19 = some (.iload_n 2, 1) := vtab tk221 12 rfl
theorem e221_19 (l0 l1 : Option Value) (L : VL) (st : List Value) (h : VG) (x : Int32) : ev 221 19 (l0 :: l1 :: some (.int x) :: L) (st) h = ev 221 20 (l0 :: l1 :: some (.int x) :: L) (.int x :: st) h := G_iload_n f221_19 rfl
theorem f221_20 : fetch 221 20 = some (.invokevirtual 450, 3) := vtab tk221 13 rfl
theorem e221_20 (L : VL) (st : List Value) (h : VG) (b : Nat) (x0 : Int32) (x1 : Int32) (ho : ob h b 11) (hs : catS st ≤ 8) : ev 221 20 L (.int x1 :: .int x0 :: .ref b :: st) h = (ev 219 0 [some (.ref b), some (.int x0), some (.int x1), none, none, none, none, none] [] h).bind fun q => ev 221 23 L (q.1.toList ++ st) q.2 := G_callv (k := 1) (p := 1535) (ars := [.int x0, .int x1]) f221_20 lkC_12_450 (by decide) (by decide +kernel) rfl (vcls_ob (ci := 11) (by decide) ho) (Nat.le_of_ble_eq_true rfl) hs rfl
theorem f221_23 : fetch 221 23 = some (.istore 5, 2) := vtab tk221 14 rfl
theorem e221_23 (l0 l1 l2 l3 l4 l5 : Option Value) (L : VL) (st : List Value) (h : VG) (x : Int32) : ev 221 23 (l0 :: l1 :: l2 :: l3 :: l4 :: l5 :: L) (.int x :: st) h = ev 221 25 (l0 :: l1 :: l2 :: l3 :: vkk l4 :: some (.int x) :: L) (st) h := G_istore f221_23 rfl (S1_5 l0 l1 l2 l3 l4 l5 L _)
theorem f221_25 : fetch 221 25 = some (.iload 5, 2) := vtab tk221 15 rfl
theorem e221_25 (l0 l1 l2 l3 l4 : Option Value) (L : VL) (st : List Value) (h : VG) (x : Int32) : ev 221 25 (l0 :: l1 :: l2 :: l3 :: l4 :: some (.int x) :: L) (st) h = ev 221 27 (l0 :: l1 :: l2 :: l3 :: l4 :: some (.int x) :: L) (.int x :: st) h := G_iload f221_25 rfl
theorem f221_27 : fetch 221 27 = some (.ifCond .ne 18, 3) := vtab tk221 16 rfl
theorem e221_27 (L : VL) (st : List Value) (h : VG) (x : Int32) : ev 221 27 L (.int x :: st) h = if x = 0 then ev 221 30 L st h else ev 221 45 L st h := G_if_ne f221_27 (by decide)
theorem f221_30 : fetch 221 30 = some (.aload_n 0, 1) := vtab tk221 17 rfl
theorem e221_30 (L : VL) (st : List Value) (h : VG) (x : Nat) : ev 221 30 (some (.ref x) :: L) (st) h = ev 221 31 (some (.ref x) :: L) (.ref x :: st) h := G_aload_n f221_30 rfl
theorem f221_31 : fetch 221 31 = some (.iload_n 3, 1) := vtab tk221 18 rfl
theorem e221_31 (l0 l1 l2 : Option Value) (L : VL) (st : List Value) (h : VG) (x : Int32) : ev 221 31 (l0 :: l1 :: l2 :: some (.int x) :: L) (st) h = ev 221 32 (l0 :: l1 :: l2 :: some (.int x) :: L) (.int x :: st) h := G_iload_n f221_31 rfl
theorem f221_32 : fetch 221 32 = some (.aload_n 0, 1) := vtab tk221 19 rfl
theorem e221_32 (L : VL) (st : List Value) (h : VG) (x : Nat) : ev 221 32 (some (.ref x) :: L) (st) h = ev 221 33 (some (.ref x) :: L) (.ref x :: st) h := G_aload_n f221_32 rfl
theorem f221_33 : fetch 221 33 = some (.getfield 447, 3) := vtab tk221 20 rfl
theorem e221_33 (L : VL) (st : List Value) (h : VG) (a : Nat) (ho : ob h a 11) : ev 221 33 L (.ref a :: st) h = ev 221 36 L (.int (gI h a 54) :: st) h := G_getI (p := 1067) f221_33 lkF_12_447 (by decide) (by decide) ho
theorem f221_36 : fetch 221 36 = some (.invokevirtual 409, 3) := vtab tk221 21 rfl
theorem e221_36 (L : VL) (st : List Value) (h : VG) (b : Nat) (x0 : Int32) (x1 : Int32) (ho : ob h b 11) (hs : catS st ≤ 8) : ev 221 36 L (.int x1 :: .int x0 :: .ref b :: st) h = (ev 202 0 [some (.ref b), some (.int x0), some (.int x1)] [] h).bind fun q => ev 221 39 L (q.1.toList ++ st) q.2 := G_callv (k := 1) (p := 1463) (ars := [.int x0, .int x1]) f221_36 lkC_12_409 (by decide) (by decide +kernel) rfl (vcls_ob (ci := 11) (by decide) ho) (Nat.le_of_ble_eq_true rfl) hs rfl
theorem f221_39 : fetch 221 39 = some (.ifCond .ne 6, 3) := vtab tk221 22 rfl
theorem e221_39 (L : VL) (st : List Value) (h : VG) (x : Int32) : ev 221 39 L (.int x :: st) h = if x = 0 then ev 221 42 L st h else ev 221 45 L st h := G_if_ne f221_39 (by decide)
theorem f221_42 : fetch 221 42 = some (.iconst 5, 1) := vtab tk221 23 rfl
theorem e221_42 (L : VL) (st : List Value) (h : VG) : ev 221 42 L (st) h = ev 221 43 L (.int (5 : Int32) :: st) h := G_iconst f221_42 (by decide)
theorem f221_43 : fetch 221 43 = some (.istore 5, 2) := vtab tk221 24 rfl
theorem e221_43 (l0 l1 l2 l3 l4 l5 : Option Value) (L : VL) (st : List Value) (h : VG) (x : Int32) : ev 221 43 (l0 :: l1 :: l2 :: l3 :: l4 :: l5 :: L) (.int x :: st) h = ev 221 45 (l0 :: l1 :: l2 :: l3 :: vkk l4 :: some (.int x) :: L) (st) h := G_istore f221_43 rfl (S1_5 l0 l1 l2 l3 l4 l5 L _)
theorem f221_45 : fetch 221 45 = some (.aload_n 0, 1) := vtab tk221 25 rfl
theorem e221_45 (L : VL) (st : List Value) (h : VG) (x : Nat) : ev 221 45 (some (.ref x) :: L) (st) h = ev 221 46 (some (.ref x) :: L) (.ref x :: st) h := G_aload_n f221_45 rfl
theorem f221_46 : fetch 221 46 = some (.iload 5, 2) := vtab tk221 26 rfl
theorem e221_46 (l0 l1 l2 l3 l4 : Option Value) (L : VL) (st : List Value) (h : VG) (x : Int32) : ev 221 46 (l0 :: l1 :: l2 :: l3 :: l4 :: some (.int x) :: L) (st) h = ev 221 48 (l0 :: l1 :: l2 :: l3 :: l4 :: some (.int x) :: L) (.int x :: st) h := G_iload f221_46 rfl
theorem f221_48 : fetch 221 48 = some (.invokevirtual 347, 3) := vtab tk221 27 rfl
theorem e221_48 (L : VL) (st : List Value) (h : VG) (b : Nat) (x0 : Int32) (ho : ob h b 11) (hs : catS st ≤ 8) : ev 221 48 L (.int x0 :: .ref b :: st) h = (ev 164 0 [some (.ref b), some (.int x0)] [] h).bind fun q => ev 221 51 L (q.1.toList ++ st) q.2 := G_callv (k := 1) (p := 1366) (ars := [.int x0]) f221_48 lkC_12_347 (by decide) (by decide +kernel) rfl (vcls_ob (ci := 11) (by decide) ho) (Nat.le_of_ble_eq_true rfl) hs rfl
theorem f221_51 : fetch 221 51 = some (.ifCond .ne 5, 3) := vtab tk221 28 rfl
theorem e221_51 (L : VL) (st : List Value) (h : VG) (x : Int32) : ev 221 51 L (.int x :: st) h = if x = 0 then ev 221 54 L st h else ev 221 56 L st h := G_if_ne f221_51 (by decide)
theorem f221_54 : fetch 221 54 = some (.iconst (-1), 1) := vtab tk221 29 rfl
theorem e221_54 (L : VL) (st : List Value) (h : VG) : ev 221 54 L (st) h = ev 221 55 L (.int (-1 : Int32) :: st) h := G_iconst f221_54 (by decide)
theorem f221_55 : fetch 221 55 = some (.ireturn, 1) := vtab tk221 30 rfl
theorem e221_55 (L : VL) (h : VG) (x : Int32) : ev 221 55 L [.int x] h = some (some (.int x), h) := G_iret f221_55 (ty := .int) (by decide) rfl
theorem f221_56 : fetch 221 56 = some (.iconst 0, 1) := vtab tk221 31 rfl
theorem e221_56 (L : VL) (st : List Value) (h : VG) : ev 221 56 L (st) h = ev 221 57 L (.int (0 : Int32) :: st) h := G_iconst f221_56 (by decide)
theorem f221_57 : fetch 221 57 = some (.istore 6, 2) := vtab tk221 32 rfl
theorem e221_57 (l0 l1 l2 l3 l4 l5 l6 : Option Value) (L : VL) (st : List Value) (h : VG) (x : Int32) : ev 221 57 (l0 :: l1 :: l2 :: l3 :: l4 :: l5 :: l6 :: L) (.int x :: st) h = ev 221 59 (l0 :: l1 :: l2 :: l3 :: l4 :: vkk l5 :: some (.int x) :: L) (st) h := G_istore f221_57 rfl (S1_6 l0 l1 l2 l3 l4 l5 l6 L _)
theorem f221_59 : fetch 221 59 = some (.iconst 0, 1) := vtab tk221 33 rfl
theorem e221_59 (L : VL) (st : List Value) (h : VG) : ev 221 59 L (st) h = ev 221 60 L (.int (0 : Int32) :: st) h := G_iconst f221_59 (by decide)
theorem f221_60 : fetch 221 60 = some (.istore 7, 2) := vtab tk221 34 rfl
theorem e221_60 (l0 l1 l2 l3 l4 l5 l6 l7 : Option Value) (L : VL) (st : List Value) (h : VG) (x : Int32) : ev 221 60 (l0 :: l1 :: l2 :: l3 :: l4 :: l5 :: l6 :: l7 :: L) (.int x :: st) h = ev 221 62 (l0 :: l1 :: l2 :: l3 :: l4 :: l5 :: vkk l6 :: some (.int x) :: L) (st) h := G_istore f221_60 rfl (S1_7 l0 l1 l2 l3 l4 l5 l6 l7 L _)
theorem f221_62 : fetch 221 62 = some (.iload 7, 2) := vtab tk221 35 rfl
theorem e221_62 (l0 l1 l2 l3 l4 l5 l6 : Option Value) (L : VL) (st : List Value) (h : VG) (x : Int32) : ev 221 62 (l0 :: l1 :: l2 :: l3 :: l4 :: l5 :: l6 :: some (.int x) :: L) (st) h = ev 221 64 (l0 :: l1 :: l2 :: l3 :: l4 :: l5 :: l6 :: some (.int x) :: L) (.int x :: st) h := G_iload f221_62 rfl
theorem f221_64 : fetch 221 64 = some (.iload_n 2, 1) := vtab tk221 36 rfl
theorem e221_64 (l0 l1 : Option Value) (L : VL) (st : List Value) (h : VG) (x : Int32) : ev 221 64 (l0 :: l1 :: some (.int x) :: L) (st) h = ev 221 65 (l0 :: l1 :: some (.int x) :: L) (.int x :: st) h := G_iload_n f221_64 rfl
theorem f221_65 : fetch 221 65 = some (.if_icmp .ge 67, 3) := vtab tk221 37 rfl
theorem e221_65 (L : VL) (st : List Value) (h : VG) (x y : Int32) : ev 221 65 L (.int y :: .int x :: st) h = if x < y then ev 221 68 L st h else ev 221 132 L st h := G_icmp_ge f221_65 (by decide)
theorem f221_68 : fetch 221 68 = some (.iconst 0, 1) := vtab tk221 38 rfl
theorem e221_68 (L : VL) (st : List Value) (h : VG) : ev 221 68 L (st) h = ev 221 69 L (.int (0 : Int32) :: st) h := G_iconst f221_68 (by decide)
theorem f221_69 : fetch 221 69 = some (.istore 8, 2) := vtab tk221 39 rfl
theorem e221_69 (l0 l1 l2 l3 l4 l5 l6 l7 l8 : Option Value) (L : VL) (st : List Value) (h : VG) (x : Int32) : ev 221 69 (l0 :: l1 :: l2 :: l3 :: l4 :: l5 :: l6 :: l7 :: l8 :: L) (.int x :: st) h = ev 221 71 (l0 :: l1 :: l2 :: l3 :: l4 :: l5 :: l6 :: vkk l7 :: some (.int x) :: L) (st) h := G_istore f221_69 rfl (S1_8 l0 l1 l2 l3 l4 l5 l6 l7 l8 L _)
theorem f221_71 : fetch 221 71 = some (.iload 8, 2) := vtab tk221 40 rfl
theorem e221_71 (l0 l1 l2 l3 l4 l5 l6 l7 : Option Value) (L : VL) (st : List Value) (h : VG) (x : Int32) : ev 221 71 (l0 :: l1 :: l2 :: l3 :: l4 :: l5 :: l6 :: l7 :: some (.int x) :: L) (st) h = ev 221 73 (l0 :: l1 :: l2 :: l3 :: l4 :: l5 :: l6 :: l7 :: some (.int x) :: L) (.int x :: st) h := G_iload f221_71 rfl
theorem f221_73 : fetch 221 73 = some (.aload_n 0, 1) := vtab tk221 41 rfl
theorem e221_73 (L : VL) (st : List Value) (h : VG) (x : Nat) : ev 221 73 (some (.ref x) :: L) (st) h = ev 221 74 (some (.ref x) :: L) (.ref x :: st) h := G_aload_n f221_73 rfl
theorem f221_74 : fetch 221 74 = some (.getfield 111, 3) := vtab tk221 42 rfl
theorem e221_74 (L : VL) (st : List Value) (h : VG) (a : Nat) (ho : ob h a 11) (hr : isR h a 53) : ev 221 74 L (.ref a :: st) h = ev 221 77 L (.ref (gR h a 53) :: st) h := G_getR (p := 1066) f221_74 lkF_12_111 (by decide) (by decide) ho hr
theorem f221_77 : fetch 221 77 = some (.iload 7, 2) := vtab tk221 43 rfl
theorem e221_77 (l0 l1 l2 l3 l4 l5 l6 : Option Value) (L : VL) (st : List Value) (h : VG) (x : Int32) : ev 221 77 (l0 :: l1 :: l2 :: l3 :: l4 :: l5 :: l6 :: some (.int x) :: L) (st) h = ev 221 79 (l0 :: l1 :: l2 :: l3 :: l4 :: l5 :: l6 :: some (.int x) :: L) (.int x :: st) h := G_iload f221_77 rfl
theorem f221_79 : fetch 221 79 = some (.iaload, 1) := vtab tk221 44 rfl
theorem e221_79 (L : VL) (st : List Value) (h : VG) (a : Nat) (i : Int32) (ha : rdI h a) (hi : vp_in i (aln h a)) : ev 221 79 L (.int i :: .ref a :: st) h = ev 221 80 L (.int (aI h a i.toNatClampNeg) :: st) h := G_iald' f221_79 ha hi
theorem f221_80 : fetch 221 80 = some (.if_icmp .ge 46, 3) := vtab tk221 45 rfl
theorem e221_80 (L : VL) (st : List Value) (h : VG) (x y : Int32) : ev 221 80 L (.int y :: .int x :: st) h = if x < y then ev 221 83 L st h else ev 221 126 L st h := G_icmp_ge f221_80 (by decide)
theorem f221_83 : fetch 221 83 = some (.aload_n 0, 1) := vtab tk221 46 rfl
theorem e221_83 (L : VL) (st : List Value) (h : VG) (x : Nat) : ev 221 83 (some (.ref x) :: L) (st) h = ev 221 84 (some (.ref x) :: L) (.ref x :: st) h := G_aload_n f221_83 rfl
theorem f221_84 : fetch 221 84 = some (.getfield 114, 3) := vtab tk221 47 rfl
theorem e221_84 (L : VL) (st : List Value) (h : VG) (a : Nat) (ho : ob h a 11) (hr : isR h a 55) : ev 221 84 L (.ref a :: st) h = ev 221 87 L (.ref (gR h a 55) :: st) h := G_getR (p := 1068) f221_84 lkF_12_114 (by decide) (by decide) ho hr
theorem f221_87 : fetch 221 87 = some (.iload 6, 2) := vtab tk221 48 rfl
theorem e221_87 (l0 l1 l2 l3 l4 l5 : Option Value) (L : VL) (st : List Value) (h : VG) (x : Int32) : ev 221 87 (l0 :: l1 :: l2 :: l3 :: l4 :: l5 :: some (.int x) :: L) (st) h = ev 221 89 (l0 :: l1 :: l2 :: l3 :: l4 :: l5 :: some (.int x) :: L) (.int x :: st) h := G_iload f221_87 rfl
theorem f221_89 : fetch 221 89 = some (.aload_n 0, 1) := vtab tk221 49 rfl
theorem e221_89 (L : VL) (st : List Value) (h : VG) (x : Nat) : ev 221 89 (some (.ref x) :: L) (st) h = ev 221 90 (some (.ref x) :: L) (.ref x :: st) h := G_aload_n f221_89 rfl
theorem f221_90 : fetch 221 90 = some (.getfield 52, 3) := vtab tk221 50 rfl
theorem e221_90 (L : VL) (st : List Value) (h : VG) (a : Nat) (ho : ob h a 11) (hr : isR h a 23) : ev 221 90 L (.ref a :: st) h = ev 221 93 L (.ref (gR h a 23) :: st) h := G_getR (p := 1036) f221_90 lkF_12_52 (by decide) (by decide) ho hr
theorem f221_93 : fetch 221 93 = some (.iload 4, 2) := vtab tk221 51 rfl
theorem e221_93 (l0 l1 l2 l3 : Option Value) (L : VL) (st : List Value) (h : VG) (x : Int32) : ev 221 93 (l0 :: l1 :: l2 :: l3 :: some (.int x) :: L) (st) h = ev 221 95 (l0 :: l1 :: l2 :: l3 :: some (.int x) :: L) (.int x :: st) h := G_iload f221_93 rfl
theorem f221_95 : fetch 221 95 = some (.ifCond .eq 16, 3) := vtab tk221 52 rfl
theorem e221_95 (L : VL) (st : List Value) (h : VG) (x : Int32) : ev 221 95 L (.int x :: st) h = if x = 0 then ev 221 111 L st h else ev 221 98 L st h := G_if_eq f221_95 (by decide)
theorem f221_98 : fetch 221 98 = some (.aload_n 0, 1) := vtab tk221 53 rfl
theorem e221_98 (L : VL) (st : List Value) (h : VG) (x : Nat) : ev 221 98 (some (.ref x) :: L) (st) h = ev 221 99 (some (.ref x) :: L) (.ref x :: st) h := G_aload_n f221_98 rfl
theorem f221_99 : fetch 221 99 = some (.getfield 108, 3) := vtab tk221 54 rfl
theorem e221_99 (L : VL) (st : List Value) (h : VG) (a : Nat) (ho : ob h a 11) (hr : isR h a 52) : ev 221 99 L (.ref a :: st) h = ev 221 102 L (.ref (gR h a 52) :: st) h := G_getR (p := 1065) f221_99 lkF_12_108 (by decide) (by decide) ho hr
theorem f221_102 : fetch 221 102 = some (.iload 7, 2) := vtab tk221 55 rfl
theorem e221_102 (l0 l1 l2 l3 l4 l5 l6 : Option Value) (L : VL) (st : List Value) (h : VG) (x : Int32) : ev 221 102 (l0 :: l1 :: l2 :: l3 :: l4 :: l5 :: l6 :: some (.int x) :: L) (st) h = ev 221 104 (l0 :: l1 :: l2 :: l3 :: l4 :: l5 :: l6 :: some (.int x) :: L) (.int x :: st) h := G_iload f221_102 rfl
theorem f221_104 : fetch 221 104 = some (.iaload, 1) := vtab tk221 56 rfl
theorem e221_104 (L : VL) (st : List Value) (h : VG) (a : Nat) (i : Int32) (ha : rdI h a) (hi : vp_in i (aln h a)) : ev 221 104 L (.int i :: .ref a :: st) h = ev 221 105 L (.int (aI h a i.toNatClampNeg) :: st) h := G_iald' f221_104 ha hi
theorem f221_105 : fetch 221 105 = some (.iload 8, 2) := vtab tk221 57 rfl
theorem e221_105 (l0 l1 l2 l3 l4 l5 l6 l7 : Option Value) (L : VL) (st : List Value) (h : VG) (x : Int32) : ev 221 105 (l0 :: l1 :: l2 :: l3 :: l4 :: l5 :: l6 :: l7 :: some (.int x) :: L) (st) h = ev 221 107 (l0 :: l1 :: l2 :: l3 :: l4 :: l5 :: l6 :: l7 :: some (.int x) :: L) (.int x :: st) h := G_iload f221_105 rfl
theorem f221_107 : fetch 221 107 = some (.iadd, 1) := vtab tk221 58 rfl
theorem e221_107 (L : VL) (st : List Value) (h : VG) (x y : Int32) : ev 221 107 L (.int y :: .int x :: st) h = ev 221 108 L (.int (x + y) :: st) h := G_iadd f221_107
theorem f221_108 : fetch 221 108 = some (.goto 7, 3) := vtab tk221 59 rfl
theorem e221_108 (L : VL) (st : List Value) (h : VG) : ev 221 108 L (st) h = ev 221 115 L (st) h := G_goto f221_108 (by decide)
theorem f221_111 : fetch 221 111 = some (.iload_n 3, 1) := vtab tk221 60 rfl
theorem e221_111 (l0 l1 l2 : Option Value) (L : VL) (st : List Value) (h : VG) (x : Int32) : ev 221 111 (l0 :: l1 :: l2 :: some (.int x) :: L) (st) h = ev 221 112 (l0 :: l1 :: l2 :: some (.int x) :: L) (.int x :: st) h := G_iload_n f221_111 rfl
theorem f221_112 : fetch 221 112 = some (.iload 6, 2) := vtab tk221 61 rfl
theorem e221_112 (l0 l1 l2 l3 l4 l5 : Option Value) (L : VL) (st : List Value) (h : VG) (x : Int32) : ev 221 112 (l0 :: l1 :: l2 :: l3 :: l4 :: l5 :: some (.int x) :: L) (st) h = ev 221 114 (l0 :: l1 :: l2 :: l3 :: l4 :: l5 :: some (.int x) :: L) (.int x :: st) h := G_iload f221_112 rfl
theorem f221_114 : fetch 221 114 = some (.iadd, 1) := vtab tk221 62 rfl
theorem e221_114 (L : VL) (st : List Value) (h : VG) (x y : Int32) : ev 221 114 L (.int y :: .int x :: st) h = ev 221 115 L (.int (x + y) :: st) h := G_iadd f221_114
theorem f221_115 : fetch 221 115 = some (.iaload, 1) := vtab tk221 63 rfl
theorem e221_115 (L : VL) (st : List Value) (h : VG) (a : Nat) (i : Int32) (ha : rdI h a) (hi : vp_in i (aln h a)) : ev 221 115 L (.int i :: .ref a :: st) h = ev 221 116 L (.int (aI h a i.toNatClampNeg) :: st) h := G_iald' f221_115 ha hi
theorem f221_116 : fetch 221 116 = some (.iastore, 1) := vtab tk221 64 rfl
theorem e221_116 (L : VL) (st : List Value) (h : VG) (a : Nat) (i : Int32) (x : Int32) (ha : arI h a 0) (hi : vp_in i (aln h a)) : ev 221 116 L (.int x :: .int i :: .ref a :: st) h = ev 221 117 L (st) (wI h a i.toNatClampNeg x) := G_iast f221_116 ha hi
theorem f221_117 : fetch 221 117 = some (.iinc 6 1, 3) := vtab tk221 65 rfl
theorem e221_117 (l0 l1 l2 l3 l4 l5 : Option Value) (L : VL) (st : List Value) (h : VG) (x : Int32) : ev 221 117 (l0 :: l1 :: l2 :: l3 :: l4 :: l5 :: some (.int x) :: L) (st) h = ev 221 120 (l0 :: l1 :: l2 :: l3 :: l4 :: vkk l5 :: some (.int (x + (1 : Int32))) :: L) (st) h := G_iinc f221_117 rfl (by decide) (S1_6 l0 l1 l2 l3 l4 l5 (some (.int x)) L _)
theorem f221_120 : fetch 221 120 = some (.iinc 8 1, 3) := vtab tk221 66 rfl
theorem e221_120 (l0 l1 l2 l3 l4 l5 l6 l7 : Option Value) (L : VL) (st : List Value) (h : VG) (x : Int32) : ev 221 120 (l0 :: l1 :: l2 :: l3 :: l4 :: l5 :: l6 :: l7 :: some (.int x) :: L) (st) h = ev 221 123 (l0 :: l1 :: l2 :: l3 :: l4 :: l5 :: l6 :: vkk l7 :: some (.int (x + (1 : Int32))) :: L) (st) h := G_iinc f221_120 rfl (by decide) (S1_8 l0 l1 l2 l3 l4 l5 l6 l7 (some (.int x)) L _)
theorem f221_123 : fetch 221 123 = some (.goto (-52), 3) := vtab tk221 67 rfl
theorem e221_123 (L : VL) (st : List Value) (h : VG) : ev 221 123 L (st) h = ev 221 71 L (st) h := G_goto f221_123 (by decide)
theorem f221_126 : fetch 221 126 = some (.iinc 7 1, 3) := vtab tk221 68 rfl
theorem e221_126 (l0 l1 l2 l3 l4 l5 l6 : Option Value) (L : VL) (st : List Value) (h : VG) (x : Int32) : ev 221 126 (l0 :: l1 :: l2 :: l3 :: l4 :: l5 :: l6 :: some (.int x) :: L) (st) h = ev 221 129 (l0 :: l1 :: l2 :: l3 :: l4 :: l5 :: vkk l6 :: some (.int (x + (1 : Int32))) :: L) (st) h := G_iinc f221_126 rfl (by decide) (S1_7 l0 l1 l2 l3 l4 l5 l6 (some (.int x)) L _)
theorem f221_129 : fetch 221 129 = some (.goto (-67), 3) := vtab tk221 69 rfl
theorem e221_129 (L : VL) (st : List Value) (h : VG) : ev 221 129 L (st) h = ev 221 62 L (st) h := G_goto f221_129 (by decide)
theorem f221_132 : fetch 221 132 = some (.iconst 0, 1) := vtab tk221 70 rfl
theorem e221_132 (L : VL) (st : List Value) (h : VG) : ev 221 132 L (st) h = ev 221 133 L (.int (0 : Int32) :: st) h := G_iconst f221_132 (by decide)
theorem f221_133 : fetch 221 133 = some (.istore 6, 2) := vtab tk221 71 rfl
theorem e221_133 (l0 l1 l2 l3 l4 l5 l6 : Option Value) (L : VL) (st : List Value) (h : VG) (x : Int32) : ev 221 133 (l0 :: l1 :: l2 :: l3 :: l4 :: l5 :: l6 :: L) (.int x :: st) h = ev 221 135 (l0 :: l1 :: l2 :: l3 :: l4 :: vkk l5 :: some (.int x) :: L) (st) h := G_istore f221_133 rfl (S1_6 l0 l1 l2 l3 l4 l5 l6 L _)
theorem f221_135 : fetch 221 135 = some (.iconst 0, 1) := vtab tk221 72 rfl
theorem e221_135 (L : VL) (st : List Value) (h : VG) : ev 221 135 L (st) h = ev 221 136 L (.int (0 : Int32) :: st) h := G_iconst f221_135 (by decide)
theorem f221_136 : fetch 221 136 = some (.istore 7, 2) := vtab tk221 73 rfl
theorem e221_136 (l0 l1 l2 l3 l4 l5 l6 l7 : Option Value) (L : VL) (st : List Value) (h : VG) (x : Int32) : ev 221 136 (l0 :: l1 :: l2 :: l3 :: l4 :: l5 :: l6 :: l7 :: L) (.int x :: st) h = ev 221 138 (l0 :: l1 :: l2 :: l3 :: l4 :: l5 :: vkk l6 :: some (.int x) :: L) (st) h := G_istore f221_136 rfl (S1_7 l0 l1 l2 l3 l4 l5 l6 l7 L _)
theorem f221_138 : fetch 221 138 = some (.iload 7, 2) := vtab tk221 74 rfl
theorem e221_138 (l0 l1 l2 l3 l4 l5 l6 : Option Value) (L : VL) (st : List Value) (h : VG) (x : Int32) : ev 221 138 (l0 :: l1 :: l2 :: l3 :: l4 :: l5 :: l6 :: some (.int x) :: L) (st) h = ev 221 140 (l0 :: l1 :: l2 :: l3 :: l4 :: l5 :: l6 :: some (.int x) :: L) (.int x :: st) h := G_iload f221_138 rfl
theorem f221_140 : fetch 221 140 = some (.iload_n 2, 1) := vtab tk221 75 rfl
theorem e221_140 (l0 l1 : Option Value) (L : VL) (st : List Value) (h : VG) (x : Int32) : ev 221 140 (l0 :: l1 :: some (.int x) :: L) (st) h = ev 221 141 (l0 :: l1 :: some (.int x) :: L) (.int x :: st) h := G_iload_n f221_140 rfl
theorem f221_141 : fetch 221 141 = some (.if_icmp .ge 67, 3) := vtab tk221 76 rfl
theorem e221_141 (L : VL) (st : List Value) (h : VG) (x y : Int32) : ev 221 141 L (.int y :: .int x :: st) h = if x < y then ev 221 144 L st h else ev 221 208 L st h := G_icmp_ge f221_141 (by decide)
theorem f221_144 : fetch 221 144 = some (.iconst 0, 1) := vtab tk221 77 rfl
theorem e221_144 (L : VL) (st : List Value) (h : VG) : ev 221 144 L (st) h = ev 221 145 L (.int (0 : Int32) :: st) h := G_iconst f221_144 (by decide)
theorem f221_145 : fetch 221 145 = some (.istore 8, 2) := vtab tk221 78 rfl
theorem e221_145 (l0 l1 l2 l3 l4 l5 l6 l7 l8 : Option Value) (L : VL) (st : List Value) (h : VG) (x : Int32) : ev 221 145 (l0 :: l1 :: l2 :: l3 :: l4 :: l5 :: l6 :: l7 :: l8 :: L) (.int x :: st) h = ev 221 147 (l0 :: l1 :: l2 :: l3 :: l4 :: l5 :: l6 :: vkk l7 :: some (.int x) :: L) (st) h := G_istore f221_145 rfl (S1_8 l0 l1 l2 l3 l4 l5 l6 l7 l8 L _)
theorem f221_147 : fetch 221 147 = some (.iload 8, 2) := vtab tk221 79 rfl
theorem e221_147 (l0 l1 l2 l3 l4 l5 l6 l7 : Option Value) (L : VL) (st : List Value) (h : VG) (x : Int32) : ev 221 147 (l0 :: l1 :: l2 :: l3 :: l4 :: l5 :: l6 :: l7 :: some (.int x) :: L) (st) h = ev 221 149 (l0 :: l1 :: l2 :: l3 :: l4 :: l5 :: l6 :: l7 :: some (.int x) :: L) (.int x :: st) h := G_iload f221_147 rfl
theorem f221_149 : fetch 221 149 = some (.aload_n 0, 1) := vtab tk221 80 rfl
theorem e221_149 (L : VL) (st : List Value) (h : VG) (x : Nat) : ev 221 149 (some (.ref x) :: L) (st) h = ev 221 150 (some (.ref x) :: L) (.ref x :: st) h := G_aload_n f221_149 rfl
theorem f221_150 : fetch 221 150 = some (.getfield 111, 3) := vtab tk221 81 rfl
theorem e221_150 (L : VL) (st : List Value) (h : VG) (a : Nat) (ho : ob h a 11) (hr : isR h a 53) : ev 221 150 L (.ref a :: st) h = ev 221 153 L (.ref (gR h a 53) :: st) h := G_getR (p := 1066) f221_150 lkF_12_111 (by decide) (by decide) ho hr
theorem f221_153 : fetch 221 153 = some (.iload 7, 2) := vtab tk221 82 rfl
theorem e221_153 (l0 l1 l2 l3 l4 l5 l6 : Option Value) (L : VL) (st : List Value) (h : VG) (x : Int32) : ev 221 153 (l0 :: l1 :: l2 :: l3 :: l4 :: l5 :: l6 :: some (.int x) :: L) (st) h = ev 221 155 (l0 :: l1 :: l2 :: l3 :: l4 :: l5 :: l6 :: some (.int x) :: L) (.int x :: st) h := G_iload f221_153 rfl
theorem f221_155 : fetch 221 155 = some (.iaload, 1) := vtab tk221 83 rfl
theorem e221_155 (L : VL) (st : List Value) (h : VG) (a : Nat) (i : Int32) (ha : rdI h a) (hi : vp_in i (aln h a)) : ev 221 155 L (.int i :: .ref a :: st) h = ev 221 156 L (.int (aI h a i.toNatClampNeg) :: st) h := G_iald' f221_155 ha hi
theorem f221_156 : fetch 221 156 = some (.if_icmp .ge 46, 3) := vtab tk221 84 rfl
theorem e221_156 (L : VL) (st : List Value) (h : VG) (x y : Int32) : ev 221 156 L (.int y :: .int x :: st) h = if x < y then ev 221 159 L st h else ev 221 202 L st h := G_icmp_ge f221_156 (by decide)
theorem f221_159 : fetch 221 159 = some (.aload_n 0, 1) := vtab tk221 85 rfl
theorem e221_159 (L : VL) (st : List Value) (h : VG) (x : Nat) : ev 221 159 (some (.ref x) :: L) (st) h = ev 221 160 (some (.ref x) :: L) (.ref x :: st) h := G_aload_n f221_159 rfl
theorem f221_160 : fetch 221 160 = some (.getfield 52, 3) := vtab tk221 86 rfl
theorem e221_160 (L : VL) (st : List Value) (h : VG) (a : Nat) (ho : ob h a 11) (hr : isR h a 23) : ev 221 160 L (.ref a :: st) h = ev 221 163 L (.ref (gR h a 23) :: st) h := G_getR (p := 1036) f221_160 lkF_12_52 (by decide) (by decide) ho hr
theorem f221_163 : fetch 221 163 = some (.iload 4, 2) := vtab tk221 87 rfl
theorem e221_163 (l0 l1 l2 l3 : Option Value) (L : VL) (st : List Value) (h : VG) (x : Int32) : ev 221 163 (l0 :: l1 :: l2 :: l3 :: some (.int x) :: L) (st) h = ev 221 165 (l0 :: l1 :: l2 :: l3 :: some (.int x) :: L) (.int x :: st) h := G_iload f221_163 rfl
theorem f221_165 : fetch 221 165 = some (.ifCond .eq 10, 3) := vtab tk221 88 rfl
theorem e221_165 (L : VL) (st : List Value) (h : VG) (x : Int32) : ev 221 165 L (.int x :: st) h = if x = 0 then ev 221 175 L st h else ev 221 168 L st h := G_if_eq f221_165 (by decide)
theorem f221_168 : fetch 221 168 = some (.iload_n 3, 1) := vtab tk221 89 rfl
theorem e221_168 (l0 l1 l2 : Option Value) (L : VL) (st : List Value) (h : VG) (x : Int32) : ev 221 168 (l0 :: l1 :: l2 :: some (.int x) :: L) (st) h = ev 221 169 (l0 :: l1 :: l2 :: some (.int x) :: L) (.int x :: st) h := G_iload_n f221_168 rfl
theorem f221_169 : fetch 221 169 = some (.iload 6, 2) := vtab tk221 90 rfl
theorem e221_169 (l0 l1 l2 l3 l4 l5 : Option Value) (L : VL) (st : List Value) (h : VG) (x : Int32) : ev 221 169 (l0 :: l1 :: l2 :: l3 :: l4 :: l5 :: some (.int x) :: L) (st) h = ev 221 171 (l0 :: l1 :: l2 :: l3 :: l4 :: l5 :: some (.int x) :: L) (.int x :: st) h := G_iload f221_169 rfl
theorem f221_171 : fetch 221 171 = some (.iadd, 1) := vtab tk221 91 rfl
theorem e221_171 (L : VL) (st : List Value) (h : VG) (x y : Int32) : ev 221 171 L (.int y :: .int x :: st) h = ev 221 172 L (.int (x + y) :: st) h := G_iadd f221_171
theorem f221_172 : fetch 221 172 = some (.goto 13, 3) := vtab tk221 92 rfl
theorem e221_172 (L : VL) (st : List Value) (h : VG) : ev 221 172 L (st) h = ev 221 185 L (st) h := G_goto f221_172 (by decide)
theorem f221_175 : fetch 221 175 = some (.aload_n 0, 1) := vtab tk221 93 rfl
theorem e221_175 (L : VL) (st : List Value) (h : VG) (x : Nat) : ev 221 175 (some (.ref x) :: L) (st) h = ev 221 176 (some (.ref x) :: L) (.ref x :: st) h := G_aload_n f221_175 rfl
theorem f221_176 : fetch 221 176 = some (.getfield 108, 3) := vtab tk221 94 rfl
theorem e221_176 (L : VL) (st : List Value) (h : VG) (a : Nat) (ho : ob h a 11) (hr : isR h a 52) : ev 221 176 L (.ref a :: st) h = ev 221 179 L (.ref (gR h a 52) :: st) h := G_getR (p := 1065) f221_176 lkF_12_108 (by decide) (by decide) ho hr
theorem f221_179 : fetch 221 179 = some (.iload 7, 2) := vtab tk221 95 rfl
theorem e221_179 (l0 l1 l2 l3 l4 l5 l6 : Option Value) (L : VL) (st : List Value) (h : VG) (x : Int32) : ev 221 179 (l0 :: l1 :: l2 :: l3 :: l4 :: l5 :: l6 :: some (.int x) :: L) (st) h = ev 221 181 (l0 :: l1 :: l2 :: l3 :: l4 :: l5 :: l6 :: some (.int x) :: L) (.int x :: st) h := G_iload f221_179 rfl
theorem f221_181 : fetch 221 181 = some (.iaload, 1) := vtab tk221 96 rfl
theorem e221_181 (L : VL) (st : List Value) (h : VG) (a : Nat) (i : Int32) (ha : rdI h a) (hi : vp_in i (aln h a)) : ev 221 181 L (.int i :: .ref a :: st) h = ev 221 182 L (.int (aI h a i.toNatClampNeg) :: st) h := G_iald' f221_181 ha hi
theorem f221_182 : fetch 221 182 = some (.iload 8, 2) := vtab tk221 97 rfl
theorem e221_182 (l0 l1 l2 l3 l4 l5 l6 l7 : Option Value) (L : VL) (st : List Value) (h : VG) (x : Int32) : ev 221 182 (l0 :: l1 :: l2 :: l3 :: l4 :: l5 :: l6 :: l7 :: some (.int x) :: L) (st) h = ev 221 184 (l0 :: l1 :: l2 :: l3 :: l4 :: l5 :: l6 :: l7 :: some (.int x) :: L) (.int x :: st) h := G_iload f221_182 rfl
theorem f221_184 : fetch 221 184 = some (.iadd, 1) := vtab tk221 98 rfl
theorem e221_184 (L : VL) (st : List Value) (h : VG) (x y : Int32) : ev 221 184 L (.int y :: .int x :: st) h = ev 221 185 L (.int (x + y) :: st) h := G_iadd f221_184
theorem f221_185 : fetch 221 185 = some (.aload_n 0, 1) := vtab tk221 99 rfl
theorem e221_185 (L : VL) (st : List Value) (h : VG) (x : Nat) : ev 221 185 (some (.ref x) :: L) (st) h = ev 221 186 (some (.ref x) :: L) (.ref x :: st) h := G_aload_n f221_185 rfl
theorem f221_186 : fetch 221 186 = some (.getfield 114, 3) := vtab tk221 100 rfl
theorem e221_186 (L : VL) (st : List Value) (h : VG) (a : Nat) (ho : ob h a 11) (hr : isR h a 55) : ev 221 186 L (.ref a :: st) h = ev 221 189 L (.ref (gR h a 55) :: st) h := G_getR (p := 1068) f221_186 lkF_12_114 (by decide) (by decide) ho hr
theorem f221_189 : fetch 221 189 = some (.iload 6, 2) := vtab tk221 101 rfl
theorem e221_189 (l0 l1 l2 l3 l4 l5 : Option Value) (L : VL) (st : List Value) (h : VG) (x : Int32) : ev 221 189 (l0 :: l1 :: l2 :: l3 :: l4 :: l5 :: some (.int x) :: L) (st) h = ev 221 191 (l0 :: l1 :: l2 :: l3 :: l4 :: l5 :: some (.int x) :: L) (.int x :: st) h := G_iload f221_189 rfl
theorem f221_191 : fetch 221 191 = some (.iaload, 1) := vtab tk221 102 rfl
theorem e221_191 (L : VL) (st : List Value) (h : VG) (a : Nat) (i : Int32) (ha : rdI h a) (hi : vp_in i (aln h a)) : ev 221 191 L (.int i :: .ref a :: st) h = ev 221 192 L (.int (aI h a i.toNatClampNeg) :: st) h := G_iald' f221_191 ha hi
theorem f221_192 : fetch 221 192 = some (.iastore, 1) := vtab tk221 103 rfl
theorem e221_192 (L : VL) (st : List Value) (h : VG) (a : Nat) (i : Int32) (x : Int32) (ha : arI h a 0) (hi : vp_in i (aln h a)) : ev 221 192 L (.int x :: .int i :: .ref a :: st) h = ev 221 193 L (st) (wI h a i.toNatClampNeg x) := G_iast f221_192 ha hi
theorem f221_193 : fetch 221 193 = some (.iinc 6 1, 3) := vtab tk221 104 rfl
theorem e221_193 (l0 l1 l2 l3 l4 l5 : Option Value) (L : VL) (st : List Value) (h : VG) (x : Int32) : ev 221 193 (l0 :: l1 :: l2 :: l3 :: l4 :: l5 :: some (.int x) :: L) (st) h = ev 221 196 (l0 :: l1 :: l2 :: l3 :: l4 :: vkk l5 :: some (.int (x + (1 : Int32))) :: L) (st) h := G_iinc f221_193 rfl (by decide) (S1_6 l0 l1 l2 l3 l4 l5 (some (.int x)) L _)
theorem f221_196 : fetch 221 196 = some (.iinc 8 1, 3) := vtab tk221 105 rfl
theorem e221_196 (l0 l1 l2 l3 l4 l5 l6 l7 : Option Value) (L : VL) (st : List Value) (h : VG) (x : Int32) : ev 221 196 (l0 :: l1 :: l2 :: l3 :: l4 :: l5 :: l6 :: l7 :: some (.int x) :: L) (st) h = ev 221 199 (l0 :: l1 :: l2 :: l3 :: l4 :: l5 :: l6 :: vkk l7 :: some (.int (x + (1 : Int32))) :: L) (st) h := G_iinc f221_196 rfl (by decide) (S1_8 l0 l1 l2 l3 l4 l5 l6 l7 (some (.int x)) L _)
theorem f221_199 : fetch 221 199 = some (.goto (-52), 3) := vtab tk221 106 rfl
theorem e221_199 (L : VL) (st : List Value) (h : VG) : ev 221 199 L (st) h = ev 221 147 L (st) h := G_goto f221_199 (by decide)
theorem f221_202 : fetch 221 202 = some (.iinc 7 1, 3) := vtab tk221 107 rfl
theorem e221_202 (l0 l1 l2 l3 l4 l5 l6 : Option Value) (L : VL) (st : List Value) (h : VG) (x : Int32) : ev 221 202 (l0 :: l1 :: l2 :: l3 :: l4 :: l5 :: l6 :: some (.int x) :: L) (st) h = ev 221 205 (l0 :: l1 :: l2 :: l3 :: l4 :: l5 :: vkk l6 :: some (.int (x + (1 : Int32))) :: L) (st) h := G_iinc f221_202 rfl (by decide) (S1_7 l0 l1 l2 l3 l4 l5 l6 (some (.int x)) L _)
theorem f221_205 : fetch 221 205 = some (.goto (-67), 3) := vtab tk221 108 rfl
theorem e221_205 (L : VL) (st : List Value) (h : VG) : ev 221 205 L (st) h = ev 221 138 L (st) h := G_goto f221_205 (by decide)
theorem f221_208 : fetch 221 208 = some (.aload_n 0, 1) := vtab tk221 109 rfl
theorem e221_208 (L : VL) (st : List Value) (h : VG) (x : Nat) : ev 221 208 (some (.ref x) :: L) (st) h = ev 221 209 (some (.ref x) :: L) (.ref x :: st) h := G_aload_n f221_208 rfl
theorem f221_209 : fetch 221 209 = some (.getfield 447, 3) := vtab tk221 110 rfl
theorem e221_209 (L : VL) (st : List Value) (h : VG) (a : Nat) (ho : ob h a 11) : ev 221 209 L (.ref a :: st) h = ev 221 212 L (.int (gI h a 54) :: st) h := G_getI (p := 1067) f221_209 lkF_12_447 (by decide) (by decide) ho
theorem f221_212 : fetch 221 212 = some (.ireturn, 1) := vtab tk221 111 rfl
theorem e221_212 (L : VL) (h : VG) (x : Int32) : ev 221 212 L [.int x] h = some (some (.int x), h) := G_iret f221_212 (ty := .int) (by decide) rfl
/-! 222 GuestCallsModel.byteAt(I)I -/
def tb222 : List (Nat × Instr × Nat) := [(0, .iload_n 1, 1), (1, .iconst 0, 1), (2, .sipush 255, 3), (5, .invokestatic 260, 3), (8, .ifCond .eq 12, 3), (11, .aload_n 0, 1), (12, .getfield 52, 3), (15, .iload_n 1, 1), (16, .iaload, 1), (17, .goto 4, 3), (20, .iconst (-1), 1), (21, .ireturn, 1)]
theorem tk222 : tb222.all (fun q => decide (fetch 222 q.1 = some q.2)) = true := by decide +kernel
theorem f222_0 : fetch 222 0 = some (.iload_n 1, 1) := vtab tk222 0 rfl
theorem e222_0 (l0 : Option Value) (L : VL) (st : List Value) (h : VG) (x : Int32) : ev 222 0 (l0 :: some (.int x) :: L) (st) h = ev 222 1 (l0 :: some (.int x) :: L) (.int x :: st) h := G_iload_n f222_0 rfl
theorem f222_1 : fetch 222 1 = some (.iconst 0, 1) := vtab tk222 1 rfl
theorem e222_1 (L : VL) (st : List Value) (h : VG) : ev 222 1 L (st) h = ev 222 2 L (.int (0 : Int32) :: st) h := G_iconst f222_1 (by decide)
theorem f222_2 : fetch 222 2 = some (.sipush 255, 3) := vtab tk222 2 rfl
theorem e222_2 (L : VL) (st : List Value) (h : VG) : ev 222 2 L (st) h = ev 222 5 L (.int (255 : Int32) :: st) h := G_sipush f222_2 (by decide)
theorem f222_5 : fetch 222 5 = some (.invokestatic 260, 3) := vtab tk222 3 rfl
theorem e222_5 (L : VL) (st : List Value) (h : VG) (x0 : Int32) (x1 : Int32) (x2 : Int32) (hs : catS st ≤ 8) : ev 222 5 L (.int x2 :: .int x1 :: .int x0 :: st) h = (ev 162 0 [some (.int x0), some (.int x1), some (.int x2)] [] h).bind fun q => ev 222 8 L (q.1.toList ++ st) q.2 := G_calls (k := 0) (p := 1286) (ars := [.int x0, .int x1, .int x2]) f222_5 lkC_12_260 (by decide) (by decide +kernel) rfl (Nat.le_of_ble_eq_true rfl) hs rfl
theorem f222_8 : fetch 222 8 = some (.ifCond .eq 12, 3) := vtab tk222 4 rfl
theorem e222_8 (L : VL) (st : List Value) (h : VG) (x : Int32) : ev 222 8 L (.int x :: st) h = if x = 0 then ev 222 20 L st h else ev 222 11 L st h := G_if_eq f222_8 (by decide)
theorem f222_11 : fetch 222 11 = some (.aload_n 0, 1) := vtab tk222 5 rfl
theorem e222_11 (L : VL) (st : List Value) (h : VG) (x : Nat) : ev 222 11 (some (.ref x) :: L) (st) h = ev 222 12 (some (.ref x) :: L) (.ref x :: st) h := G_aload_n f222_11 rfl
theorem f222_12 : fetch 222 12 = some (.getfield 52, 3) := vtab tk222 6 rfl
theorem e222_12 (L : VL) (st : List Value) (h : VG) (a : Nat) (ho : ob h a 11) (hr : isR h a 23) : ev 222 12 L (.ref a :: st) h = ev 222 15 L (.ref (gR h a 23) :: st) h := G_getR (p := 1036) f222_12 lkF_12_52 (by decide) (by decide) ho hr
theorem f222_15 : fetch 222 15 = some (.iload_n 1, 1) := vtab tk222 7 rfl
theorem e222_15 (l0 : Option Value) (L : VL) (st : List Value) (h : VG) (x : Int32) : ev 222 15 (l0 :: some (.int x) :: L) (st) h = ev 222 16 (l0 :: some (.int x) :: L) (.int x :: st) h := G_iload_n f222_15 rfl
theorem f222_16 : fetch 222 16 = some (.iaload, 1) := vtab tk222 8 rfl
theorem e222_16 (L : VL) (st : List Value) (h : VG) (a : Nat) (i : Int32) (ha : rdI h a) (hi : vp_in i (aln h a)) : ev 222 16 L (.int i :: .ref a :: st) h = ev 222 17 L (.int (aI h a i.toNatClampNeg) :: st) h := G_iald' f222_16 ha hi
theorem f222_17 : fetch 222 17 = some (.goto 4, 3) := vtab tk222 9 rfl
theorem e222_17 (L : VL) (st : List Value) (h : VG) : ev 222 17 L (st) h = ev 222 21 L (st) h := G_goto f222_17 (by decide)
theorem f222_20 : fetch 222 20 = some (.iconst (-1), 1) := vtab tk222 10 rfl
theorem e222_20 (L : VL) (st : List Value) (h : VG) : ev 222 20 L (st) h = ev 222 21 L (.int (-1 : Int32) :: st) h := G_iconst f222_20 (by decide)
theorem f222_21 : fetch 222 21 = some (.ireturn, 1) := vtab tk222 11 rfl
theorem e222_21 (L : VL) (h : VG) (x : Int32) : ev 222 21 L [.int x] h = some (some (.int x), h) := G_iret f222_21 (ty := .int) (by decide) rfl
/-! 223 GuestCallsModel.poke(II)Z -/
def tb223 : List (Nat × Instr × Nat) := [(0, .aload_n 0, 1), (1, .aload_n 0, 1), (2, .iload_n 1, 1), (3, .iconst 1, 1), (4, .invokevirtual 409, 3), (7, .ifCond .eq 7, 3), (10, .iconst 0, 1), (11, .goto 4, 3), (14, .iconst 5, 1), (15, .invokevirtual 347, 3), (18, .ifCond .ne 5, 3), (21, .iconst 0, 1), (22, .ireturn, 1), (23, .aload_n 0, 1), (24, .getfield 52, 3), (27, .iload_n 1, 1), (28, .iload_n 2, 1), (29, .sipush 255, 3), (32, .iand, 1), (33, .iastore, 1), (34, .iconst 1, 1), (35, .ireturn, 1)]
theorem tk223 : tb223.all (fun q => decide (fetch 223 q.1 = some q.2)) = true := by decide +kernel
theorem f223_0 : fetch 223 0 = some (.aload_n 0, 1) := vtab tk223 0 rfl
theorem e223_0 (L : VL) (st : List Value) (h : VG) (x : Nat) : ev 223 0 (some (.ref x) :: L) (st) h = ev 223 1 (some (.ref x) :: L) (.ref x :: st) h := G_aload_n f223_0 rfl
theorem f223_1 : fetch 223 1 = some (.aload_n 0, 1) := vtab tk223 1 rfl
theorem e223_1 (L : VL) (st : List Value) (h : VG) (x : Nat) : ev 223 1 (some (.ref x) :: L) (st) h = ev 223 2 (some (.ref x) :: L) (.ref x :: st) h := G_aload_n f223_1 rfl
theorem f223_2 : fetch 223 2 = some (.iload_n 1, 1) := vtab tk223 2 rfl
theorem e223_2 (l0 : Option Value) (L : VL) (st : List Value) (h : VG) (x : Int32) : ev 223 2 (l0 :: some (.int x) :: L) (st) h = ev 223 3 (l0 :: some (.int x) :: L) (.int x :: st) h := G_iload_n f223_2 rfl
theorem f223_3 : fetch 223 3 = some (.iconst 1, 1) := vtab tk223 3 rfl
theorem e223_3 (L : VL) (st : List Value) (h : VG) : ev 223 3 L (st) h = ev 223 4 L (.int (1 : Int32) :: st) h := G_iconst f223_3 (by decide)
theorem f223_4 : fetch 223 4 = some (.invokevirtual 409, 3) := vtab tk223 4 rfl
theorem e223_4 (L : VL) (st : List Value) (h : VG) (b : Nat) (x0 : Int32) (x1 : Int32) (ho : ob h b 11) (hs : catS st ≤ 8) : ev 223 4 L (.int x1 :: .int x0 :: .ref b :: st) h = (ev 202 0 [some (.ref b), some (.int x0), some (.int x1)] [] h).bind fun q => ev 223 7 L (q.1.toList ++ st) q.2 := G_callv (k := 1) (p := 1463) (ars := [.int x0, .int x1]) f223_4 lkC_12_409 (by decide) (by decide +kernel) rfl (vcls_ob (ci := 11) (by decide) ho) (Nat.le_of_ble_eq_true rfl) hs rfl
theorem f223_7 : fetch 223 7 = some (.ifCond .eq 7, 3) := vtab tk223 5 rfl
theorem e223_7 (L : VL) (st : List Value) (h : VG) (x : Int32) : ev 223 7 L (.int x :: st) h = if x = 0 then ev 223 14 L st h else ev 223 10 L st h := G_if_eq f223_7 (by decide)
theorem f223_10 : fetch 223 10 = some (.iconst 0, 1) := vtab tk223 6 rfl
theorem e223_10 (L : VL) (st : List Value) (h : VG) : ev 223 10 L (st) h = ev 223 11 L (.int (0 : Int32) :: st) h := G_iconst f223_10 (by decide)
theorem f223_11 : fetch 223 11 = some (.goto 4, 3) := vtab tk223 7 rfl
theorem e223_11 (L : VL) (st : List Value) (h : VG) : ev 223 11 L (st) h = ev 223 15 L (st) h := G_goto f223_11 (by decide)
theorem f223_14 : fetch 223 14 = some (.iconst 5, 1) := vtab tk223 8 rfl
theorem e223_14 (L : VL) (st : List Value) (h : VG) : ev 223 14 L (st) h = ev 223 15 L (.int (5 : Int32) :: st) h := G_iconst f223_14 (by decide)
theorem f223_15 : fetch 223 15 = some (.invokevirtual 347, 3) := vtab tk223 9 rfl
theorem e223_15 (L : VL) (st : List Value) (h : VG) (b : Nat) (x0 : Int32) (ho : ob h b 11) (hs : catS st ≤ 8) : ev 223 15 L (.int x0 :: .ref b :: st) h = (ev 164 0 [some (.ref b), some (.int x0)] [] h).bind fun q => ev 223 18 L (q.1.toList ++ st) q.2 := G_callv (k := 1) (p := 1366) (ars := [.int x0]) f223_15 lkC_12_347 (by decide) (by decide +kernel) rfl (vcls_ob (ci := 11) (by decide) ho) (Nat.le_of_ble_eq_true rfl) hs rfl
theorem f223_18 : fetch 223 18 = some (.ifCond .ne 5, 3) := vtab tk223 10 rfl
theorem e223_18 (L : VL) (st : List Value) (h : VG) (x : Int32) : ev 223 18 L (.int x :: st) h = if x = 0 then ev 223 21 L st h else ev 223 23 L st h := G_if_ne f223_18 (by decide)
theorem f223_21 : fetch 223 21 = some (.iconst 0, 1) := vtab tk223 11 rfl
theorem e223_21 (L : VL) (st : List Value) (h : VG) : ev 223 21 L (st) h = ev 223 22 L (.int (0 : Int32) :: st) h := G_iconst f223_21 (by decide)
theorem f223_22 : fetch 223 22 = some (.ireturn, 1) := vtab tk223 12 rfl
theorem e223_22 (L : VL) (h : VG) (x : Int32) (hz : x = 0 ∨ x = 1) : ev 223 22 L [.int x] h = some (some (.int x), h) := G_iret f223_22 (ty := .boolean) (by decide) (vbool hz).1
theorem f223_23 : fetch 223 23 = some (.aload_n 0, 1) := vtab tk223 13 rfl
theorem e223_23 (L : VL) (st : List Value) (h : VG) (x : Nat) : ev 223 23 (some (.ref x) :: L) (st) h = ev 223 24 (some (.ref x) :: L) (.ref x :: st) h := G_aload_n f223_23 rfl
theorem f223_24 : fetch 223 24 = some (.getfield 52, 3) := vtab tk223 14 rfl
theorem e223_24 (L : VL) (st : List Value) (h : VG) (a : Nat) (ho : ob h a 11) (hr : isR h a 23) : ev 223 24 L (.ref a :: st) h = ev 223 27 L (.ref (gR h a 23) :: st) h := G_getR (p := 1036) f223_24 lkF_12_52 (by decide) (by decide) ho hr
theorem f223_27 : fetch 223 27 = some (.iload_n 1, 1) := vtab tk223 15 rfl
theorem e223_27 (l0 : Option Value) (L : VL) (st : List Value) (h : VG) (x : Int32) : ev 223 27 (l0 :: some (.int x) :: L) (st) h = ev 223 28 (l0 :: some (.int x) :: L) (.int x :: st) h := G_iload_n f223_27 rfl
theorem f223_28 : fetch 223 28 = some (.iload_n 2, 1) := vtab tk223 16 rfl
theorem e223_28 (l0 l1 : Option Value) (L : VL) (st : List Value) (h : VG) (x : Int32) : ev 223 28 (l0 :: l1 :: some (.int x) :: L) (st) h = ev 223 29 (l0 :: l1 :: some (.int x) :: L) (.int x :: st) h := G_iload_n f223_28 rfl
theorem f223_29 : fetch 223 29 = some (.sipush 255, 3) := vtab tk223 17 rfl
theorem e223_29 (L : VL) (st : List Value) (h : VG) : ev 223 29 L (st) h = ev 223 32 L (.int (255 : Int32) :: st) h := G_sipush f223_29 (by decide)
theorem f223_32 : fetch 223 32 = some (.iand, 1) := vtab tk223 18 rfl
theorem e223_32 (L : VL) (st : List Value) (h : VG) (x y : Int32) : ev 223 32 L (.int y :: .int x :: st) h = ev 223 33 L (.int (x &&& y) :: st) h := G_iand f223_32
theorem f223_33 : fetch 223 33 = some (.iastore, 1) := vtab tk223 19 rfl
theorem e223_33 (L : VL) (st : List Value) (h : VG) (a : Nat) (i : Int32) (x : Int32) (ha : arI h a 0) (hi : vp_in i (aln h a)) : ev 223 33 L (.int x :: .int i :: .ref a :: st) h = ev 223 34 L (st) (wI h a i.toNatClampNeg x) := G_iast f223_33 ha hi
theorem f223_34 : fetch 223 34 = some (.iconst 1, 1) := vtab tk223 20 rfl
theorem e223_34 (L : VL) (st : List Value) (h : VG) : ev 223 34 L (st) h = ev 223 35 L (.int (1 : Int32) :: st) h := G_iconst f223_34 (by decide)
theorem f223_35 : fetch 223 35 = some (.ireturn, 1) := vtab tk223 21 rfl
theorem e223_35 (L : VL) (h : VG) (x : Int32) (hz : x = 0 ∨ x = 1) : ev 223 35 L [.int x] h = some (some (.int x), h) := G_iret f223_35 (ty := .boolean) (by decide) (vbool hz).1
/-! 224 GuestCallsModel.register(I)J -/
def tb224 : List (Nat × Instr × Nat) := [(0, .iload_n 1, 1), (1, .invokestatic 325, 3), (4, .ifCond .eq 12, 3), (7, .aload_n 0, 1), (8, .getfield 117, 3), (11, .iload_n 1, 1), (12, .laload, 1), (13, .goto 4, 3), (16, .lconst 0, 1), (17, .lreturn, 1)]
theorem tk224 : tb224.all (fun q => decide (fetch 224 q.1 = some q.2)) = true := by decide +kernel
theorem f224_0 : fetch 224 0 = some (.iload_n 1, 1) := vtab tk224 0 rfl
theorem e224_0 (l0 : Option Value) (L : VL) (st : List Value) (h : VG) (x : Int32) : ev 224 0 (l0 :: some (.int x) :: L) (st) h = ev 224 1 (l0 :: some (.int x) :: L) (.int x :: st) h := G_iload_n f224_0 rfl
theorem f224_1 : fetch 224 1 = some (.invokestatic 325, 3) := vtab tk224 1 rfl
theorem e224_1 (L : VL) (st : List Value) (h : VG) (x0 : Int32) (hs : catS st ≤ 8) : ev 224 1 L (.int x0 :: st) h = (ev 181 0 [some (.int x0)] [] h).bind fun q => ev 224 4 L (q.1.toList ++ st) q.2 := G_calls (k := 0) (p := 1359) (ars := [.int x0]) f224_1 lkC_12_325 (by decide) (by decide +kernel) rfl (Nat.le_of_ble_eq_true rfl) hs rfl
theorem f224_4 : fetch 224 4 = some (.ifCond .eq 12, 3) := vtab tk224 2 rfl
theorem e224_4 (L : VL) (st : List Value) (h : VG) (x : Int32) : ev 224 4 L (.int x :: st) h = if x = 0 then ev 224 16 L st h else ev 224 7 L st h := G_if_eq f224_4 (by decide)
theorem f224_7 : fetch 224 7 = some (.aload_n 0, 1) := vtab tk224 3 rfl
theorem e224_7 (L : VL) (st : List Value) (h : VG) (x : Nat) : ev 224 7 (some (.ref x) :: L) (st) h = ev 224 8 (some (.ref x) :: L) (.ref x :: st) h := G_aload_n f224_7 rfl
theorem f224_8 : fetch 224 8 = some (.getfield 117, 3) := vtab tk224 4 rfl
theorem e224_8 (L : VL) (st : List Value) (h : VG) (a : Nat) (ho : ob h a 11) (hr : isR h a 56) : ev 224 8 L (.ref a :: st) h = ev 224 11 L (.ref (gR h a 56) :: st) h := G_getR (p := 1069) f224_8 lkF_12_117 (by decide) (by decide) ho hr
theorem f224_11 : fetch 224 11 = some (.iload_n 1, 1) := vtab tk224 5 rfl
theorem e224_11 (l0 : Option Value) (L : VL) (st : List Value) (h : VG) (x : Int32) : ev 224 11 (l0 :: some (.int x) :: L) (st) h = ev 224 12 (l0 :: some (.int x) :: L) (.int x :: st) h := G_iload_n f224_11 rfl
theorem f224_12 : fetch 224 12 = some (.laload, 1) := vtab tk224 6 rfl
theorem e224_12 (L : VL) (st : List Value) (h : VG) (a : Nat) (i : Int32) (ha : arL h a) (hi : vp_in i (aln h a)) : ev 224 12 L (.int i :: .ref a :: st) h = ev 224 13 L (.long (aL h a i.toNatClampNeg) :: st) h := G_lald f224_12 ha hi
theorem f224_13 : fetch 224 13 = some (.goto 4, 3) := vtab tk224 7 rfl
theorem e224_13 (L : VL) (st : List Value) (h : VG) : ev 224 13 L (st) h = ev 224 17 L (st) h := G_goto f224_13 (by decide)
theorem f224_16 : fetch 224 16 = some (.lconst 0, 1) := vtab tk224 8 rfl
theorem e224_16 (L : VL) (st : List Value) (h : VG) : ev 224 16 L (st) h = ev 224 17 L (.long 0 :: st) h := G_lconst f224_16 (by decide)
theorem f224_17 : fetch 224 17 = some (.lreturn, 1) := vtab tk224 9 rfl
theorem e224_17 (L : VL) (h : VG) (x : Int64) : ev 224 17 L [.long x] h = some (some (.long x), h) := G_lret f224_17 (by decide)
/-! 225 GuestCallsModel.sets(IJ)Z -/
def tb225 : List (Nat × Instr × Nat) := [(0, .iload_n 1, 1), (1, .invokestatic 325, 3), (4, .ifCond .ne 5, 3), (7, .iconst 0, 1), (8, .ireturn, 1), (9, .aload_n 0, 1), (10, .getfield 117, 3), (13, .iload_n 1, 1), (14, .lload_n 2, 1), (15, .lastore, 1), (16, .iconst 1, 1), (17, .ireturn, 1)]
theorem tk225 : tb225.all (fun q => decide (fetch 225 q.1 = some q.2)) = true := by decide +kernel
theorem f225_0 : fetch 225 0 = some (.iload_n 1, 1) := vtab tk225 0 rfl
theorem e225_0 (l0 : Option Value) (L : VL) (st : List Value) (h : VG) (x : Int32) : ev 225 0 (l0 :: some (.int x) :: L) (st) h = ev 225 1 (l0 :: some (.int x) :: L) (.int x :: st) h := G_iload_n f225_0 rfl
theorem f225_1 : fetch 225 1 = some (.invokestatic 325, 3) := vtab tk225 1 rfl
theorem e225_1 (L : VL) (st : List Value) (h : VG) (x0 : Int32) (hs : catS st ≤ 8) : ev 225 1 L (.int x0 :: st) h = (ev 181 0 [some (.int x0)] [] h).bind fun q => ev 225 4 L (q.1.toList ++ st) q.2 := G_calls (k := 0) (p := 1359) (ars := [.int x0]) f225_1 lkC_12_325 (by decide) (by decide +kernel) rfl (Nat.le_of_ble_eq_true rfl) hs rfl
theorem f225_4 : fetch 225 4 = some (.ifCond .ne 5, 3) := vtab tk225 2 rfl
theorem e225_4 (L : VL) (st : List Value) (h : VG) (x : Int32) : ev 225 4 L (.int x :: st) h = if x = 0 then ev 225 7 L st h else ev 225 9 L st h := G_if_ne f225_4 (by decide)
theorem f225_7 : fetch 225 7 = some (.iconst 0, 1) := vtab tk225 3 rfl
theorem e225_7 (L : VL) (st : List Value) (h : VG) : ev 225 7 L (st) h = ev 225 8 L (.int (0 : Int32) :: st) h := G_iconst f225_7 (by decide)
theorem f225_8 : fetch 225 8 = some (.ireturn, 1) := vtab tk225 4 rfl
theorem e225_8 (L : VL) (h : VG) (x : Int32) (hz : x = 0 ∨ x = 1) : ev 225 8 L [.int x] h = some (some (.int x), h) := G_iret f225_8 (ty := .boolean) (by decide) (vbool hz).1
theorem f225_9 : fetch 225 9 = some (.aload_n 0, 1) := vtab tk225 5 rfl
theorem e225_9 (L : VL) (st : List Value) (h : VG) (x : Nat) : ev 225 9 (some (.ref x) :: L) (st) h = ev 225 10 (some (.ref x) :: L) (.ref x :: st) h := G_aload_n f225_9 rfl
theorem f225_10 : fetch 225 10 = some (.getfield 117, 3) := vtab tk225 6 rfl
theorem e225_10 (L : VL) (st : List Value) (h : VG) (a : Nat) (ho : ob h a 11) (hr : isR h a 56) : ev 225 10 L (.ref a :: st) h = ev 225 13 L (.ref (gR h a 56) :: st) h := G_getR (p := 1069) f225_10 lkF_12_117 (by decide) (by decide) ho hr
theorem f225_13 : fetch 225 13 = some (.iload_n 1, 1) := vtab tk225 7 rfl
theorem e225_13 (l0 : Option Value) (L : VL) (st : List Value) (h : VG) (x : Int32) : ev 225 13 (l0 :: some (.int x) :: L) (st) h = ev 225 14 (l0 :: some (.int x) :: L) (.int x :: st) h := G_iload_n f225_13 rfl
theorem f225_14 : fetch 225 14 = some (.lload_n 2, 1) := vtab tk225 8 rfl
theorem e225_14 (l0 l1 : Option Value) (L : VL) (st : List Value) (h : VG) (x : Int64) : ev 225 14 (l0 :: l1 :: some (.long x) :: L) (st) h = ev 225 15 (l0 :: l1 :: some (.long x) :: L) (.long x :: st) h := G_lload_n f225_14 rfl
theorem f225_15 : fetch 225 15 = some (.lastore, 1) := vtab tk225 9 rfl
theorem e225_15 (L : VL) (st : List Value) (h : VG) (a : Nat) (i : Int32) (x : Int64) (ha : arL h a) (hi : vp_in i (aln h a)) : ev 225 15 L (.long x :: .int i :: .ref a :: st) h = ev 225 16 L (st) (wL h a i.toNatClampNeg x) := G_last f225_15 ha hi
theorem f225_16 : fetch 225 16 = some (.iconst 1, 1) := vtab tk225 10 rfl
theorem e225_16 (L : VL) (st : List Value) (h : VG) : ev 225 16 L (st) h = ev 225 17 L (.int (1 : Int32) :: st) h := G_iconst f225_16 (by decide)
theorem f225_17 : fetch 225 17 = some (.ireturn, 1) := vtab tk225 11 rfl
theorem e225_17 (L : VL) (h : VG) (x : Int32) (hz : x = 0 ∨ x = 1) : ev 225 17 L [.int x] h = some (some (.int x), h) := G_iret f225_17 (ty := .boolean) (by decide) (vbool hz).1
/-! 226 GuestCallsModel.stackAt()I -/
def tb226 : List (Nat × Instr × Nat) := [(0, .aload_n 0, 1), (1, .getfield 40, 3), (4, .bipush 36, 2), (6, .aload_n 0, 1), (7, .getfield 241, 3), (10, .imul, 1), (11, .isub, 1), (12, .ireturn, 1)]
theorem tk226 : tb226.all (fun q => decide (fetch 226 q.1 = some q.2)) = true := by decide +kernel
theorem f226_0 : fetch 226 0 = some (.aload_n 0, 1) := vtab tk226 0 rfl
theorem e226_0 (L : VL) (st : List Value) (h : VG) (x : Nat) : ev 226 0 (some (.ref x) :: L) (st) h = ev 226 1 (some (.ref x) :: L) (.ref x :: st) h := G_aload_n f226_0 rfl
theorem f226_1 : fetch 226 1 = some (.getfield 40, 3) := vtab tk226 1 rfl
theorem e226_1 (L : VL) (st : List Value) (h : VG) (a : Nat) (ho : ob h a 11) : ev 226 1 L (.ref a :: st) h = ev 226 4 L (.int (gI h a 18) :: st) h := G_getI (p := 1031) f226_1 lkF_12_40 (by decide) (by decide) ho
theorem f226_4 : fetch 226 4 = some (.bipush 36, 2) := vtab tk226 2 rfl
theorem e226_4 (L : VL) (st : List Value) (h : VG) : ev 226 4 L (st) h = ev 226 6 L (.int (36 : Int32) :: st) h := G_bipush f226_4 (by decide)
theorem f226_6 : fetch 226 6 = some (.aload_n 0, 1) := vtab tk226 3 rfl
theorem e226_6 (L : VL) (st : List Value) (h : VG) (x : Nat) : ev 226 6 (some (.ref x) :: L) (st) h = ev 226 7 (some (.ref x) :: L) (.ref x :: st) h := G_aload_n f226_6 rfl
theorem f226_7 : fetch 226 7 = some (.getfield 241, 3) := vtab tk226 4 rfl
theorem e226_7 (L : VL) (st : List Value) (h : VG) (a : Nat) (ho : ob h a 11) : ev 226 7 L (.ref a :: st) h = ev 226 10 L (.int (gI h a 57) :: st) h := G_getI (p := 1070) f226_7 lkF_12_241 (by decide) (by decide) ho
theorem f226_10 : fetch 226 10 = some (.imul, 1) := vtab tk226 5 rfl
theorem e226_10 (L : VL) (st : List Value) (h : VG) (x y : Int32) : ev 226 10 L (.int y :: .int x :: st) h = ev 226 11 L (.int (x * y) :: st) h := G_imul f226_10
theorem f226_11 : fetch 226 11 = some (.isub, 1) := vtab tk226 6 rfl
theorem e226_11 (L : VL) (st : List Value) (h : VG) (x y : Int32) : ev 226 11 L (.int y :: .int x :: st) h = ev 226 12 L (.int (x - y) :: st) h := G_isub f226_11
theorem f226_12 : fetch 226 12 = some (.ireturn, 1) := vtab tk226 7 rfl
theorem e226_12 (L : VL) (h : VG) (x : Int32) : ev 226 12 L [.int x] h = some (some (.int x), h) := G_iret f226_12 (ty := .int) (by decide) rfl
/-! 227 GuestCallsModel.frame()I -/
def tb227 : List (Nat × Instr × Nat) := [(0, .iconst 0, 1), (1, .istore_n 1, 1), (2, .iconst 0, 1), (3, .istore_n 2, 1), (4, .iload_n 2, 1), (5, .bipush 8, 2), (7, .if_icmp .ge 24, 3), (10, .aload_n 0, 1), (11, .getfield 117, 3), (14, .iload_n 2, 1), (15, .laload, 1), (16, .invokestatic 419, 3), (19, .ifCond .ne 6, 3), (22, .bipush 6, 2), (24, .istore_n 1, 1), (25, .iinc 2 1, 3), (28, .goto (-24), 3), (31, .iload_n 1, 1), (32, .ifCond .ne 14, 3), (35, .aload_n 0, 1), (36, .invokevirtual 453, 3), (39, .bipush 36, 2), (41, .if_icmp .ge 5, 3), (44, .iconst 5, 1), (45, .istore_n 1, 1), (46, .aload_n 0, 1), (47, .iload_n 1, 1), (48, .invokevirtual 347, 3), (51, .ifCond .ne 5, 3), (54, .iconst (-1), 1), (55, .ireturn, 1), (56, .aload_n 0, 1), (57, .invokevirtual 434, 3), (60, .iconst 0, 1), (61, .istore_n 2, 1), (62, .iload_n 2, 1), (63, .bipush 8, 2), (65, .if_icmp .ge 23, 3), (68, .aload_n 0, 1), (69, .iconst 4, 1), (70, .iload_n 2, 1), (71, .imul, 1), (72, .iconst 4, 1), (73, .aload_n 0, 1), (74, .getfield 117, 3), (77, .iload_n 2, 1), (78, .laload, 1), (79, .invokevirtual 430, 3), (82, .iinc 2 1, 3), (85, .goto (-23), 3), (88, .aload_n 0, 1), (89, .bipush 32, 2), (91, .iconst 4, 1), (92, .aload_n 0, 1), (93, .getfield 241, 3), (96, .i2l, 1), (97, .invokevirtual 430, 3), (100, .aload_n 0, 1), (101, .dup, 1), (102, .getfield 241, 3), (105, .iconst 1, 1), (106, .iadd, 1), (107, .putfield 241, 3), (110, .aload_n 0, 1), (111, .aload_n 0, 1), (112, .invokevirtual 453, 3), (115, .bipush 36, 2), (117, .invokevirtual 440, 3), (120, .aload_n 0, 1), (121, .invokevirtual 453, 3), (124, .ireturn, 1)]
theorem tk227 : tb227.all (fun q => decide (fetch 227 q.1 = some q.2)) = true := by decide +kernel
theorem f227_0 : fetch 227 0 = some (.iconst 0, 1) := vtab tk227 0 rfl
theorem e227_0 (L : VL) (st : List Value) (h : VG) : ev 227 0 L (st) h = ev 227 1 L (.int (0 : Int32) :: st) h := G_iconst f227_0 (by decide)
theorem f227_1 : fetch 227 1 = some (.istore_n 1, 1) := vtab tk227 1 rfl
theorem e227_1 (l0 l1 : Option Value) (L : VL) (st : List Value) (h : VG) (x : Int32) : ev 227 1 (l0 :: l1 :: L) (.int x :: st) h = ev 227 2 (vkk l0 :: some (.int x) :: L) (st) h := G_istore_n f227_1 rfl (S1_1 l0 l1 L _)
theorem f227_2 : fetch 227 2 = some (.iconst 0, 1) := vtab tk227 2 rfl
theorem e227_2 (L : VL) (st : List Value) (h : VG) : ev 227 2 L (st) h = ev 227 3 L (.int (0 : Int32) :: st) h := G_iconst f227_2 (by decide)
theorem f227_3 : fetch 227 3 = some (.istore_n 2, 1) := vtab tk227 3 rfl
theorem e227_3 (l0 l1 l2 : Option Value) (L : VL) (st : List Value) (h : VG) (x : Int32) : ev 227 3 (l0 :: l1 :: l2 :: L) (.int x :: st) h = ev 227 4 (l0 :: vkk l1 :: some (.int x) :: L) (st) h := G_istore_n f227_3 rfl (S1_2 l0 l1 l2 L _)
theorem f227_4 : fetch 227 4 = some (.iload_n 2, 1) := vtab tk227 4 rfl
theorem e227_4 (l0 l1 : Option Value) (L : VL) (st : List Value) (h : VG) (x : Int32) : ev 227 4 (l0 :: l1 :: some (.int x) :: L) (st) h = ev 227 5 (l0 :: l1 :: some (.int x) :: L) (.int x :: st) h := G_iload_n f227_4 rfl
theorem f227_5 : fetch 227 5 = some (.bipush 8, 2) := vtab tk227 5 rfl
theorem e227_5 (L : VL) (st : List Value) (h : VG) : ev 227 5 L (st) h = ev 227 7 L (.int (8 : Int32) :: st) h := G_bipush f227_5 (by decide)
theorem f227_7 : fetch 227 7 = some (.if_icmp .ge 24, 3) := vtab tk227 6 rfl
theorem e227_7 (L : VL) (st : List Value) (h : VG) (x y : Int32) : ev 227 7 L (.int y :: .int x :: st) h = if x < y then ev 227 10 L st h else ev 227 31 L st h := G_icmp_ge f227_7 (by decide)
theorem f227_10 : fetch 227 10 = some (.aload_n 0, 1) := vtab tk227 7 rfl
theorem e227_10 (L : VL) (st : List Value) (h : VG) (x : Nat) : ev 227 10 (some (.ref x) :: L) (st) h = ev 227 11 (some (.ref x) :: L) (.ref x :: st) h := G_aload_n f227_10 rfl
theorem f227_11 : fetch 227 11 = some (.getfield 117, 3) := vtab tk227 8 rfl
theorem e227_11 (L : VL) (st : List Value) (h : VG) (a : Nat) (ho : ob h a 11) (hr : isR h a 56) : ev 227 11 L (.ref a :: st) h = ev 227 14 L (.ref (gR h a 56) :: st) h := G_getR (p := 1069) f227_11 lkF_12_117 (by decide) (by decide) ho hr
theorem f227_14 : fetch 227 14 = some (.iload_n 2, 1) := vtab tk227 9 rfl
theorem e227_14 (l0 l1 : Option Value) (L : VL) (st : List Value) (h : VG) (x : Int32) : ev 227 14 (l0 :: l1 :: some (.int x) :: L) (st) h = ev 227 15 (l0 :: l1 :: some (.int x) :: L) (.int x :: st) h := G_iload_n f227_14 rfl
theorem f227_15 : fetch 227 15 = some (.laload, 1) := vtab tk227 10 rfl
theorem e227_15 (L : VL) (st : List Value) (h : VG) (a : Nat) (i : Int32) (ha : arL h a) (hi : vp_in i (aln h a)) : ev 227 15 L (.int i :: .ref a :: st) h = ev 227 16 L (.long (aL h a i.toNatClampNeg) :: st) h := G_lald f227_15 ha hi
theorem f227_16 : fetch 227 16 = some (.invokestatic 419, 3) := vtab tk227 11 rfl
theorem e227_16 (L : VL) (st : List Value) (h : VG) (x0 : Int64) (hs : catS st ≤ 8) : ev 227 16 L (.long x0 :: st) h = (ev 213 0 [some (.long x0), none] [] h).bind fun q => ev 227 19 L (q.1.toList ++ st) q.2 := G_calls (k := 0) (p := 1504) (ars := [.long x0]) f227_16 lkC_12_419 (by decide) (by decide +kernel) rfl (Nat.le_of_ble_eq_true rfl) hs rfl
theorem f227_19 : fetch 227 19 = some (.ifCond .ne 6, 3) := vtab tk227 12 rfl
theorem e227_19 (L : VL) (st : List Value) (h : VG) (x : Int32) : ev 227 19 L (.int x :: st) h = if x = 0 then ev 227 22 L st h else ev 227 25 L st h := G_if_ne f227_19 (by decide)
theorem f227_22 : fetch 227 22 = some (.bipush 6, 2) := vtab tk227 13 rfl
theorem e227_22 (L : VL) (st : List Value) (h : VG) : ev 227 22 L (st) h = ev 227 24 L (.int (6 : Int32) :: st) h := G_bipush f227_22 (by decide)
theorem f227_24 : fetch 227 24 = some (.istore_n 1, 1) := vtab tk227 14 rfl
theorem e227_24 (l0 l1 : Option Value) (L : VL) (st : List Value) (h : VG) (x : Int32) : ev 227 24 (l0 :: l1 :: L) (.int x :: st) h = ev 227 25 (vkk l0 :: some (.int x) :: L) (st) h := G_istore_n f227_24 rfl (S1_1 l0 l1 L _)
theorem f227_25 : fetch 227 25 = some (.iinc 2 1, 3) := vtab tk227 15 rfl
theorem e227_25 (l0 l1 : Option Value) (L : VL) (st : List Value) (h : VG) (x : Int32) : ev 227 25 (l0 :: l1 :: some (.int x) :: L) (st) h = ev 227 28 (l0 :: vkk l1 :: some (.int (x + (1 : Int32))) :: L) (st) h := G_iinc f227_25 rfl (by decide) (S1_2 l0 l1 (some (.int x)) L _)
theorem f227_28 : fetch 227 28 = some (.goto (-24), 3) := vtab tk227 16 rfl
theorem e227_28 (L : VL) (st : List Value) (h : VG) : ev 227 28 L (st) h = ev 227 4 L (st) h := G_goto f227_28 (by decide)
theorem f227_31 : fetch 227 31 = some (.iload_n 1, 1) := vtab tk227 17 rfl
theorem e227_31 (l0 : Option Value) (L : VL) (st : List Value) (h : VG) (x : Int32) : ev 227 31 (l0 :: some (.int x) :: L) (st) h = ev 227 32 (l0 :: some (.int x) :: L) (.int x :: st) h := G_iload_n f227_31 rfl
theorem f227_32 : fetch 227 32 = some (.ifCond .ne 14, 3) := vtab tk227 18 rfl
theorem e227_32 (L : VL) (st : List Value) (h : VG) (x : Int32) : ev 227 32 L (.int x :: st) h = if x = 0 then ev 227 35 L st h else ev 227 46 L st h := G_if_ne f227_32 (by decide)
theorem f227_35 : fetch 227 35 = some (.aload_n 0, 1) := vtab tk227 19 rfl
theorem e227_35 (L : VL) (st : List Value) (h : VG) (x : Nat) : ev 227 35 (some (.ref x) :: L) (st) h = ev 227 36 (some (.ref x) :: L) (.ref x :: st) h := G_aload_n f227_35 rfl
theorem f227_36 : fetch 227 36 = some (.invokevirtual 453, 3) := vtab tk227 20 rfl
theorem e227_36 (L : VL) (st : List Value) (h : VG) (b : Nat)  (ho : ob h b 11) (hs : catS st ≤ 8) : ev 227 36 L (.ref b :: st) h = (ev 226 0 [some (.ref b)] [] h).bind fun q => ev 227 39 L (q.1.toList ++ st) q.2 := G_callv (k := 1) (p := 1563) (ars := []) f227_36 lkC_12_453 (by decide) (by decide +kernel) rfl (vcls_ob (ci := 11) (by decide) ho) (Nat.le_of_ble_eq_true rfl) hs rfl
theorem f227_39 : fetch 227 39 = some (.bipush 36, 2) := vtab tk227 21 rfl
theorem e227_39 (L : VL) (st : List Value) (h : VG) : ev 227 39 L (st) h = ev 227 41 L (.int (36 : Int32) :: st) h := G_bipush f227_39 (by decide)
theorem f227_41 : fetch 227 41 = some (.if_icmp .ge 5, 3) := vtab tk227 22 rfl
theorem e227_41 (L : VL) (st : List Value) (h : VG) (x y : Int32) : ev 227 41 L (.int y :: .int x :: st) h = if x < y then ev 227 44 L st h else ev 227 46 L st h := G_icmp_ge f227_41 (by decide)
theorem f227_44 : fetch 227 44 = some (.iconst 5, 1) := vtab tk227 23 rfl
theorem e227_44 (L : VL) (st : List Value) (h : VG) : ev 227 44 L (st) h = ev 227 45 L (.int (5 : Int32) :: st) h := G_iconst f227_44 (by decide)
theorem f227_45 : fetch 227 45 = some (.istore_n 1, 1) := vtab tk227 24 rfl
theorem e227_45 (l0 l1 : Option Value) (L : VL) (st : List Value) (h : VG) (x : Int32) : ev 227 45 (l0 :: l1 :: L) (.int x :: st) h = ev 227 46 (vkk l0 :: some (.int x) :: L) (st) h := G_istore_n f227_45 rfl (S1_1 l0 l1 L _)
theorem f227_46 : fetch 227 46 = some (.aload_n 0, 1) := vtab tk227 25 rfl
theorem e227_46 (L : VL) (st : List Value) (h : VG) (x : Nat) : ev 227 46 (some (.ref x) :: L) (st) h = ev 227 47 (some (.ref x) :: L) (.ref x :: st) h := G_aload_n f227_46 rfl
theorem f227_47 : fetch 227 47 = some (.iload_n 1, 1) := vtab tk227 26 rfl
theorem e227_47 (l0 : Option Value) (L : VL) (st : List Value) (h : VG) (x : Int32) : ev 227 47 (l0 :: some (.int x) :: L) (st) h = ev 227 48 (l0 :: some (.int x) :: L) (.int x :: st) h := G_iload_n f227_47 rfl
theorem f227_48 : fetch 227 48 = some (.invokevirtual 347, 3) := vtab tk227 27 rfl
theorem e227_48 (L : VL) (st : List Value) (h : VG) (b : Nat) (x0 : Int32) (ho : ob h b 11) (hs : catS st ≤ 8) : ev 227 48 L (.int x0 :: .ref b :: st) h = (ev 164 0 [some (.ref b), some (.int x0)] [] h).bind fun q => ev 227 51 L (q.1.toList ++ st) q.2 := G_callv (k := 1) (p := 1366) (ars := [.int x0]) f227_48 lkC_12_347 (by decide) (by decide +kernel) rfl (vcls_ob (ci := 11) (by decide) ho) (Nat.le_of_ble_eq_true rfl) hs rfl
theorem f227_51 : fetch 227 51 = some (.ifCond .ne 5, 3) := vtab tk227 28 rfl
theorem e227_51 (L : VL) (st : List Value) (h : VG) (x : Int32) : ev 227 51 L (.int x :: st) h = if x = 0 then ev 227 54 L st h else ev 227 56 L st h := G_if_ne f227_51 (by decide)
theorem f227_54 : fetch 227 54 = some (.iconst (-1), 1) := vtab tk227 29 rfl
theorem e227_54 (L : VL) (st : List Value) (h : VG) : ev 227 54 L (st) h = ev 227 55 L (.int (-1 : Int32) :: st) h := G_iconst f227_54 (by decide)
theorem f227_55 : fetch 227 55 = some (.ireturn, 1) := vtab tk227 30 rfl
theorem e227_55 (L : VL) (h : VG) (x : Int32) : ev 227 55 L [.int x] h = some (some (.int x), h) := G_iret f227_55 (ty := .int) (by decide) rfl
theorem f227_56 : fetch 227 56 = some (.aload_n 0, 1) := vtab tk227 31 rfl
theorem e227_56 (L : VL) (st : List Value) (h : VG) (x : Nat) : ev 227 56 (some (.ref x) :: L) (st) h = ev 227 57 (some (.ref x) :: L) (.ref x :: st) h := G_aload_n f227_56 rfl
theorem f227_57 : fetch 227 57 = some (.invokevirtual 434, 3) := vtab tk227 32 rfl
theorem e227_57 (L : VL) (st : List Value) (h : VG) (b : Nat)  (ho : ob h b 11) (hs : catS st ≤ 8) : ev 227 57 L (.ref b :: st) h = (ev 205 0 [some (.ref b), none] [] h).bind fun q => ev 227 60 L (q.1.toList ++ st) q.2 := G_callv (k := 1) (p := 1496) (ars := []) f227_57 lkC_12_434 (by decide) (by decide +kernel) rfl (vcls_ob (ci := 11) (by decide) ho) (Nat.le_of_ble_eq_true rfl) hs rfl
theorem f227_60 : fetch 227 60 = some (.iconst 0, 1) := vtab tk227 33 rfl
theorem e227_60 (L : VL) (st : List Value) (h : VG) : ev 227 60 L (st) h = ev 227 61 L (.int (0 : Int32) :: st) h := G_iconst f227_60 (by decide)
theorem f227_61 : fetch 227 61 = some (.istore_n 2, 1) := vtab tk227 34 rfl
theorem e227_61 (l0 l1 l2 : Option Value) (L : VL) (st : List Value) (h : VG) (x : Int32) : ev 227 61 (l0 :: l1 :: l2 :: L) (.int x :: st) h = ev 227 62 (l0 :: vkk l1 :: some (.int x) :: L) (st) h := G_istore_n f227_61 rfl (S1_2 l0 l1 l2 L _)
theorem f227_62 : fetch 227 62 = some (.iload_n 2, 1) := vtab tk227 35 rfl
theorem e227_62 (l0 l1 : Option Value) (L : VL) (st : List Value) (h : VG) (x : Int32) : ev 227 62 (l0 :: l1 :: some (.int x) :: L) (st) h = ev 227 63 (l0 :: l1 :: some (.int x) :: L) (.int x :: st) h := G_iload_n f227_62 rfl
theorem f227_63 : fetch 227 63 = some (.bipush 8, 2) := vtab tk227 36 rfl
theorem e227_63 (L : VL) (st : List Value) (h : VG) : ev 227 63 L (st) h = ev 227 65 L (.int (8 : Int32) :: st) h := G_bipush f227_63 (by decide)
theorem f227_65 : fetch 227 65 = some (.if_icmp .ge 23, 3) := vtab tk227 37 rfl
theorem e227_65 (L : VL) (st : List Value) (h : VG) (x y : Int32) : ev 227 65 L (.int y :: .int x :: st) h = if x < y then ev 227 68 L st h else ev 227 88 L st h := G_icmp_ge f227_65 (by decide)
theorem f227_68 : fetch 227 68 = some (.aload_n 0, 1) := vtab tk227 38 rfl
theorem e227_68 (L : VL) (st : List Value) (h : VG) (x : Nat) : ev 227 68 (some (.ref x) :: L) (st) h = ev 227 69 (some (.ref x) :: L) (.ref x :: st) h := G_aload_n f227_68 rfl
theorem f227_69 : fetch 227 69 = some (.iconst 4, 1) := vtab tk227 39 rfl
theorem e227_69 (L : VL) (st : List Value) (h : VG) : ev 227 69 L (st) h = ev 227 70 L (.int (4 : Int32) :: st) h := G_iconst f227_69 (by decide)
theorem f227_70 : fetch 227 70 = some (.iload_n 2, 1) := vtab tk227 40 rfl
theorem e227_70 (l0 l1 : Option Value) (L : VL) (st : List Value) (h : VG) (x : Int32) : ev 227 70 (l0 :: l1 :: some (.int x) :: L) (st) h = ev 227 71 (l0 :: l1 :: some (.int x) :: L) (.int x :: st) h := G_iload_n f227_70 rfl
theorem f227_71 : fetch 227 71 = some (.imul, 1) := vtab tk227 41 rfl
theorem e227_71 (L : VL) (st : List Value) (h : VG) (x y : Int32) : ev 227 71 L (.int y :: .int x :: st) h = ev 227 72 L (.int (x * y) :: st) h := G_imul f227_71
theorem f227_72 : fetch 227 72 = some (.iconst 4, 1) := vtab tk227 42 rfl
theorem e227_72 (L : VL) (st : List Value) (h : VG) : ev 227 72 L (st) h = ev 227 73 L (.int (4 : Int32) :: st) h := G_iconst f227_72 (by decide)
theorem f227_73 : fetch 227 73 = some (.aload_n 0, 1) := vtab tk227 43 rfl
theorem e227_73 (L : VL) (st : List Value) (h : VG) (x : Nat) : ev 227 73 (some (.ref x) :: L) (st) h = ev 227 74 (some (.ref x) :: L) (.ref x :: st) h := G_aload_n f227_73 rfl
theorem f227_74 : fetch 227 74 = some (.getfield 117, 3) := vtab tk227 44 rfl
theorem e227_74 (L : VL) (st : List Value) (h : VG) (a : Nat) (ho : ob h a 11) (hr : isR h a 56) : ev 227 74 L (.ref a :: st) h = ev 227 77 L (.ref (gR h a 56) :: st) h := G_getR (p := 1069) f227_74 lkF_12_117 (by decide) (by decide) ho hr
theorem f227_77 : fetch 227 77 = some (.iload_n 2, 1) := vtab tk227 45 rfl
theorem e227_77 (l0 l1 : Option Value) (L : VL) (st : List Value) (h : VG) (x : Int32) : ev 227 77 (l0 :: l1 :: some (.int x) :: L) (st) h = ev 227 78 (l0 :: l1 :: some (.int x) :: L) (.int x :: st) h := G_iload_n f227_77 rfl
theorem f227_78 : fetch 227 78 = some (.laload, 1) := vtab tk227 46 rfl
theorem e227_78 (L : VL) (st : List Value) (h : VG) (a : Nat) (i : Int32) (ha : arL h a) (hi : vp_in i (aln h a)) : ev 227 78 L (.int i :: .ref a :: st) h = ev 227 79 L (.long (aL h a i.toNatClampNeg) :: st) h := G_lald f227_78 ha hi
theorem f227_79 : fetch 227 79 = some (.invokevirtual 430, 3) := vtab tk227 47 rfl
theorem e227_79 (L : VL) (st : List Value) (h : VG) (b : Nat) (x0 : Int32) (x1 : Int32) (x2 : Int64) (ho : ob h b 11) (hs : catS st ≤ 8) : ev 227 79 L (.long x2 :: .int x1 :: .int x0 :: .ref b :: st) h = (ev 206 0 [some (.ref b), some (.int x0), some (.int x1), some (.long x2), none, none, none] [] h).bind fun q => ev 227 82 L (q.1.toList ++ st) q.2 := G_callv (k := 1) (p := 1514) (ars := [.int x0, .int x1, .long x2]) f227_79 lkC_12_430 (by decide) (by decide +kernel) rfl (vcls_ob (ci := 11) (by decide) ho) (Nat.le_of_ble_eq_true rfl) hs rfl
theorem f227_82 : fetch 227 82 = some (.iinc 2 1, 3) := vtab tk227 48 rfl
theorem e227_82 (l0 l1 : Option Value) (L : VL) (st : List Value) (h : VG) (x : Int32) : ev 227 82 (l0 :: l1 :: some (.int x) :: L) (st) h = ev 227 85 (l0 :: vkk l1 :: some (.int (x + (1 : Int32))) :: L) (st) h := G_iinc f227_82 rfl (by decide) (S1_2 l0 l1 (some (.int x)) L _)
theorem f227_85 : fetch 227 85 = some (.goto (-23), 3) := vtab tk227 49 rfl
theorem e227_85 (L : VL) (st : List Value) (h : VG) : ev 227 85 L (st) h = ev 227 62 L (st) h := G_goto f227_85 (by decide)
theorem f227_88 : fetch 227 88 = some (.aload_n 0, 1) := vtab tk227 50 rfl
theorem e227_88 (L : VL) (st : List Value) (h : VG) (x : Nat) : ev 227 88 (some (.ref x) :: L) (st) h = ev 227 89 (some (.ref x) :: L) (.ref x :: st) h := G_aload_n f227_88 rfl
theorem f227_89 : fetch 227 89 = some (.bipush 32, 2) := vtab tk227 51 rfl
theorem e227_89 (L : VL) (st : List Value) (h : VG) : ev 227 89 L (st) h = ev 227 91 L (.int (32 : Int32) :: st) h := G_bipush f227_89 (by decide)
theorem f227_91 : fetch 227 91 = some (.iconst 4, 1) := vtab tk227 52 rfl
theorem e227_91 (L : VL) (st : List Value) (h : VG) : ev 227 91 L (st) h = ev 227 92 L (.int (4 : Int32) :: st) h := G_iconst f227_91 (by decide)
theorem f227_92 : fetch 227 92 = some (.aload_n 0, 1) := vtab tk227 53 rfl
theorem e227_92 (L : VL) (st : List Value) (h : VG) (x : Nat) : ev 227 92 (some (.ref x) :: L) (st) h = ev 227 93 (some (.ref x) :: L) (.ref x :: st) h := G_aload_n f227_92 rfl
theorem f227_93 : fetch 227 93 = some (.getfield 241, 3) := vtab tk227 54 rfl
theorem e227_93 (L : VL) (st : List Value) (h : VG) (a : Nat) (ho : ob h a 11) : ev 227 93 L (.ref a :: st) h = ev 227 96 L (.int (gI h a 57) :: st) h := G_getI (p := 1070) f227_93 lkF_12_241 (by decide) (by decide) ho
theorem f227_96 : fetch 227 96 = some (.i2l, 1) := vtab tk227 55 rfl
theorem e227_96 (L : VL) (st : List Value) (h : VG) (x : Int32) : ev 227 96 L (.int x :: st) h = ev 227 97 L (.long x.toInt64 :: st) h := G_i2l f227_96
theorem f227_97 : fetch 227 97 = some (.invokevirtual 430, 3) := vtab tk227 56 rfl
theorem e227_97 (L : VL) (st : List Value) (h : VG) (b : Nat) (x0 : Int32) (x1 : Int32) (x2 : Int64) (ho : ob h b 11) (hs : catS st ≤ 8) : ev 227 97 L (.long x2 :: .int x1 :: .int x0 :: .ref b :: st) h = (ev 206 0 [some (.ref b), some (.int x0), some (.int x1), some (.long x2), none, none, none] [] h).bind fun q => ev 227 100 L (q.1.toList ++ st) q.2 := G_callv (k := 1) (p := 1514) (ars := [.int x0, .int x1, .long x2]) f227_97 lkC_12_430 (by decide) (by decide +kernel) rfl (vcls_ob (ci := 11) (by decide) ho) (Nat.le_of_ble_eq_true rfl) hs rfl
theorem f227_100 : fetch 227 100 = some (.aload_n 0, 1) := vtab tk227 57 rfl
theorem e227_100 (L : VL) (st : List Value) (h : VG) (x : Nat) : ev 227 100 (some (.ref x) :: L) (st) h = ev 227 101 (some (.ref x) :: L) (.ref x :: st) h := G_aload_n f227_100 rfl
theorem f227_101 : fetch 227 101 = some (.dup, 1) := vtab tk227 58 rfl
theorem e227_101b (L : VL) (st : List Value) (h : VG) (x : Int32) : ev 227 101 L (.int x :: st) h = ev 227 102 L (.int x :: .int x :: st) h := G_dup_int f227_101
theorem e227_101 (L : VL) (st : List Value) (h : VG) (x : Nat) : ev 227 101 L (.ref x :: st) h = ev 227 102 L (.ref x :: .ref x :: st) h := G_dup_ref f227_101
theorem f227_102 : fetch 227 102 = some (.getfield 241, 3) := vtab tk227 59 rfl
theorem e227_102 (L : VL) (st : List Value) (h : VG) (a : Nat) (ho : ob h a 11) : ev 227 102 L (.ref a :: st) h = ev 227 105 L (.int (gI h a 57) :: st) h := G_getI (p := 1070) f227_102 lkF_12_241 (by decide) (by decide) ho
theorem f227_105 : fetch 227 105 = some (.iconst 1, 1) := vtab tk227 60 rfl
theorem e227_105 (L : VL) (st : List Value) (h : VG) : ev 227 105 L (st) h = ev 227 106 L (.int (1 : Int32) :: st) h := G_iconst f227_105 (by decide)
theorem f227_106 : fetch 227 106 = some (.iadd, 1) := vtab tk227 61 rfl
theorem e227_106 (L : VL) (st : List Value) (h : VG) (x y : Int32) : ev 227 106 L (.int y :: .int x :: st) h = ev 227 107 L (.int (x + y) :: st) h := G_iadd f227_106
theorem f227_107 : fetch 227 107 = some (.putfield 241, 3) := vtab tk227 62 rfl
theorem e227_107 (L : VL) (st : List Value) (h : VG) (a : Nat) (x : Int32) (ho : ob h a 11) : ev 227 107 L (.int x :: .ref a :: st) h = ev 227 110 L (st) (pI h a 57 x) := G_putI (p := 1070) f227_107 lkF_12_241 (by decide) (by decide) (by decide +kernel) ⟨rfl, rfl⟩ ho
theorem f227_110 : fetch 227 110 = some (.aload_n 0, 1) := vtab tk227 63 rfl
theorem e227_110 (L : VL) (st : List Value) (h : VG) (x : Nat) : ev 227 110 (some (.ref x) :: L) (st) h = ev 227 111 (some (.ref x) :: L) (.ref x :: st) h := G_aload_n f227_110 rfl
theorem f227_111 : fetch 227 111 = some (.aload_n 0, 1) := vtab tk227 64 rfl
theorem e227_111 (L : VL) (st : List Value) (h : VG) (x : Nat) : ev 227 111 (some (.ref x) :: L) (st) h = ev 227 112 (some (.ref x) :: L) (.ref x :: st) h := G_aload_n f227_111 rfl
theorem f227_112 : fetch 227 112 = some (.invokevirtual 453, 3) := vtab tk227 65 rfl
theorem e227_112 (L : VL) (st : List Value) (h : VG) (b : Nat)  (ho : ob h b 11) (hs : catS st ≤ 8) : ev 227 112 L (.ref b :: st) h = (ev 226 0 [some (.ref b)] [] h).bind fun q => ev 227 115 L (q.1.toList ++ st) q.2 := G_callv (k := 1) (p := 1563) (ars := []) f227_112 lkC_12_453 (by decide) (by decide +kernel) rfl (vcls_ob (ci := 11) (by decide) ho) (Nat.le_of_ble_eq_true rfl) hs rfl
theorem f227_115 : fetch 227 115 = some (.bipush 36, 2) := vtab tk227 66 rfl
theorem e227_115 (L : VL) (st : List Value) (h : VG) : ev 227 115 L (st) h = ev 227 117 L (.int (36 : Int32) :: st) h := G_bipush f227_115 (by decide)
theorem f227_117 : fetch 227 117 = some (.invokevirtual 440, 3) := vtab tk227 67 rfl
theorem e227_117 (L : VL) (st : List Value) (h : VG) (b : Nat) (x0 : Int32) (x1 : Int32) (ho : ob h b 11) (hs : catS st ≤ 8) : ev 227 117 L (.int x1 :: .int x0 :: .ref b :: st) h = (ev 207 0 [some (.ref b), some (.int x0), some (.int x1), none] [] h).bind fun q => ev 227 120 L (q.1.toList ++ st) q.2 := G_callv (k := 1) (p := 1519) (ars := [.int x0, .int x1]) f227_117 lkC_12_440 (by decide) (by decide +kernel) rfl (vcls_ob (ci := 11) (by decide) ho) (Nat.le_of_ble_eq_true rfl) hs rfl
theorem f227_120 : fetch 227 120 = some (.aload_n 0, 1) := vtab tk227 68 rfl
theorem e227_120 (L : VL) (st : List Value) (h : VG) (x : Nat) : ev 227 120 (some (.ref x) :: L) (st) h = ev 227 121 (some (.ref x) :: L) (.ref x :: st) h := G_aload_n f227_120 rfl
theorem f227_121 : fetch 227 121 = some (.invokevirtual 453, 3) := vtab tk227 69 rfl
theorem e227_121 (L : VL) (st : List Value) (h : VG) (b : Nat)  (ho : ob h b 11) (hs : catS st ≤ 8) : ev 227 121 L (.ref b :: st) h = (ev 226 0 [some (.ref b)] [] h).bind fun q => ev 227 124 L (q.1.toList ++ st) q.2 := G_callv (k := 1) (p := 1563) (ars := []) f227_121 lkC_12_453 (by decide) (by decide +kernel) rfl (vcls_ob (ci := 11) (by decide) ho) (Nat.le_of_ble_eq_true rfl) hs rfl
theorem f227_124 : fetch 227 124 = some (.ireturn, 1) := vtab tk227 70 rfl
theorem e227_124 (L : VL) (h : VG) (x : Int32) : ev 227 124 L [.int x] h = some (some (.int x), h) := G_iret f227_124 (ty := .int) (by decide) rfl
/-! 228 GuestCallsModel.returns()I -/
def tb228 : List (Nat × Instr × Nat) := [(0, .aload_n 0, 1), (1, .getfield 241, 3), (4, .ifCond .ne 8, 3), (7, .bipush 7, 2), (9, .goto 35, 3), (12, .aload_n 0, 1), (13, .aload_n 0, 1), (14, .invokevirtual 453, 3), (17, .bipush 32, 2), (19, .iadd, 1), (20, .iconst 4, 1), (21, .invokevirtual 398, 3), (24, .iconst 4, 1), (25, .invokestatic 406, 3), (28, .aload_n 0, 1), (29, .getfield 241, 3), (32, .iconst 1, 1), (33, .isub, 1), (34, .i2l, 1), (35, .lcmp, 1), (36, .ifCond .ne 7, 3), (39, .iconst 0, 1), (40, .goto 4, 3), (43, .iconst 2, 1), (44, .istore_n 1, 1), (45, .aload_n 0, 1), (46, .iload_n 1, 1), (47, .invokevirtual 347, 3), (50, .ifCond .ne 5, 3), (53, .iconst (-1), 1), (54, .ireturn, 1), (55, .iconst 0, 1), (56, .istore_n 2, 1), (57, .iload_n 2, 1), (58, .bipush 8, 2), (60, .if_icmp .ge 32, 3), (63, .aload_n 0, 1), (64, .getfield 117, 3), (67, .iload_n 2, 1), (68, .aload_n 0, 1), (69, .aload_n 0, 1), (70, .invokevirtual 453, 3), (73, .iconst 4, 1), (74, .iload_n 2, 1), (75, .imul, 1), (76, .iadd, 1), (77, .iconst 4, 1), (78, .invokevirtual 398, 3), (81, .iconst 4, 1), (82, .invokestatic 406, 3), (85, .lastore, 1), (86, .iinc 2 1, 3), (89, .goto (-32), 3), (92, .aload_n 0, 1), (93, .dup, 1), (94, .getfield 241, 3), (97, .iconst 1, 1), (98, .isub, 1), (99, .putfield 241, 3), (102, .aload_n 0, 1), (103, .getfield 241, 3), (106, .ireturn, 1)]
theorem tk228 : tb228.all (fun q => decide (fetch 228 q.1 = some q.2)) = true := by decide +kernel
theorem f228_0 : fetch 228 0 = some (.aload_n 0, 1) := vtab tk228 0 rfl
theorem e228_0 (L : VL) (st : List Value) (h : VG) (x : Nat) : ev 228 0 (some (.ref x) :: L) (st) h = ev 228 1 (some (.ref x) :: L) (.ref x :: st) h := G_aload_n f228_0 rfl
theorem f228_1 : fetch 228 1 = some (.getfield 241, 3) := vtab tk228 1 rfl
theorem e228_1 (L : VL) (st : List Value) (h : VG) (a : Nat) (ho : ob h a 11) : ev 228 1 L (.ref a :: st) h = ev 228 4 L (.int (gI h a 57) :: st) h := G_getI (p := 1070) f228_1 lkF_12_241 (by decide) (by decide) ho
theorem f228_4 : fetch 228 4 = some (.ifCond .ne 8, 3) := vtab tk228 2 rfl
theorem e228_4 (L : VL) (st : List Value) (h : VG) (x : Int32) : ev 228 4 L (.int x :: st) h = if x = 0 then ev 228 7 L st h else ev 228 12 L st h := G_if_ne f228_4 (by decide)
theorem f228_7 : fetch 228 7 = some (.bipush 7, 2) := vtab tk228 3 rfl
theorem e228_7 (L : VL) (st : List Value) (h : VG) : ev 228 7 L (st) h = ev 228 9 L (.int (7 : Int32) :: st) h := G_bipush f228_7 (by decide)
theorem f228_9 : fetch 228 9 = some (.goto 35, 3) := vtab tk228 4 rfl
theorem e228_9 (L : VL) (st : List Value) (h : VG) : ev 228 9 L (st) h = ev 228 44 L (st) h := G_goto f228_9 (by decide)
theorem f228_12 : fetch 228 12 = some (.aload_n 0, 1) := vtab tk228 5 rfl
theorem e228_12 (L : VL) (st : List Value) (h : VG) (x : Nat) : ev 228 12 (some (.ref x) :: L) (st) h = ev 228 13 (some (.ref x) :: L) (.ref x :: st) h := G_aload_n f228_12 rfl
theorem f228_13 : fetch 228 13 = some (.aload_n 0, 1) := vtab tk228 6 rfl
theorem e228_13 (L : VL) (st : List Value) (h : VG) (x : Nat) : ev 228 13 (some (.ref x) :: L) (st) h = ev 228 14 (some (.ref x) :: L) (.ref x :: st) h := G_aload_n f228_13 rfl
theorem f228_14 : fetch 228 14 = some (.invokevirtual 453, 3) := vtab tk228 7 rfl
theorem e228_14 (L : VL) (st : List Value) (h : VG) (b : Nat)  (ho : ob h b 11) (hs : catS st ≤ 8) : ev 228 14 L (.ref b :: st) h = (ev 226 0 [some (.ref b)] [] h).bind fun q => ev 228 17 L (q.1.toList ++ st) q.2 := G_callv (k := 1) (p := 1563) (ars := []) f228_14 lkC_12_453 (by decide) (by decide +kernel) rfl (vcls_ob (ci := 11) (by decide) ho) (Nat.le_of_ble_eq_true rfl) hs rfl
theorem f228_17 : fetch 228 17 = some (.bipush 32, 2) := vtab tk228 8 rfl
theorem e228_17 (L : VL) (st : List Value) (h : VG) : ev 228 17 L (st) h = ev 228 19 L (.int (32 : Int32) :: st) h := G_bipush f228_17 (by decide)
theorem f228_19 : fetch 228 19 = some (.iadd, 1) := vtab tk228 9 rfl
theorem e228_19 (L : VL) (st : List Value) (h : VG) (x y : Int32) : ev 228 19 L (.int y :: .int x :: st) h = ev 228 20 L (.int (x + y) :: st) h := G_iadd f228_19
theorem f228_20 : fetch 228 20 = some (.iconst 4, 1) := vtab tk228 10 rfl
theorem e228_20 (L : VL) (st : List Value) (h : VG) : ev 228 20 L (st) h = ev 228 21 L (.int (4 : Int32) :: st) h := G_iconst f228_20 (by decide)
theorem f228_21 : fetch 228 21 = some (.invokevirtual 398, 3) := vtab tk228 11 rfl
theorem e228_21 (L : VL) (st : List Value) (h : VG) (b : Nat) (x0 : Int32) (x1 : Int32) (ho : ob h b 11) (hs : catS st ≤ 8) : ev 228 21 L (.int x1 :: .int x0 :: .ref b :: st) h = (ev 203 0 [some (.ref b), some (.int x0), some (.int x1), none, none, none] [] h).bind fun q => ev 228 24 L (q.1.toList ++ st) q.2 := G_callv (k := 1) (p := 1475) (ars := [.int x0, .int x1]) f228_21 lkC_12_398 (by decide) (by decide +kernel) rfl (vcls_ob (ci := 11) (by decide) ho) (Nat.le_of_ble_eq_true rfl) hs rfl
theorem f228_24 : fetch 228 24 = some (.iconst 4, 1) := vtab tk228 12 rfl
theorem e228_24 (L : VL) (st : List Value) (h : VG) : ev 228 24 L (st) h = ev 228 25 L (.int (4 : Int32) :: st) h := G_iconst f228_24 (by decide)
theorem f228_25 : fetch 228 25 = some (.invokestatic 406, 3) := vtab tk228 13 rfl
theorem e228_25 (L : VL) (st : List Value) (h : VG) (x0 : Int64) (x1 : Int32) (hs : catS st ≤ 8) : ev 228 25 L (.int x1 :: .long x0 :: st) h = (ev 204 0 [some (.long x0), none, some (.int x1), none] [] h).bind fun q => ev 228 28 L (q.1.toList ++ st) q.2 := G_calls (k := 0) (p := 1489) (ars := [.long x0, .int x1]) f228_25 lkC_12_406 (by decide) (by decide +kernel) rfl (Nat.le_of_ble_eq_true rfl) hs rfl
theorem f228_28 : fetch 228 28 = some (.aload_n 0, 1) := vtab tk228 14 rfl
theorem e228_28 (L : VL) (st : List Value) (h : VG) (x : Nat) : ev 228 28 (some (.ref x) :: L) (st) h = ev 228 29 (some (.ref x) :: L) (.ref x :: st) h := G_aload_n f228_28 rfl
theorem f228_29 : fetch 228 29 = some (.getfield 241, 3) := vtab tk228 15 rfl
theorem e228_29 (L : VL) (st : List Value) (h : VG) (a : Nat) (ho : ob h a 11) : ev 228 29 L (.ref a :: st) h = ev 228 32 L (.int (gI h a 57) :: st) h := G_getI (p := 1070) f228_29 lkF_12_241 (by decide) (by decide) ho
theorem f228_32 : fetch 228 32 = some (.iconst 1, 1) := vtab tk228 16 rfl
theorem e228_32 (L : VL) (st : List Value) (h : VG) : ev 228 32 L (st) h = ev 228 33 L (.int (1 : Int32) :: st) h := G_iconst f228_32 (by decide)
theorem f228_33 : fetch 228 33 = some (.isub, 1) := vtab tk228 17 rfl
theorem e228_33 (L : VL) (st : List Value) (h : VG) (x y : Int32) : ev 228 33 L (.int y :: .int x :: st) h = ev 228 34 L (.int (x - y) :: st) h := G_isub f228_33
theorem f228_34 : fetch 228 34 = some (.i2l, 1) := vtab tk228 18 rfl
theorem e228_34 (L : VL) (st : List Value) (h : VG) (x : Int32) : ev 228 34 L (.int x :: st) h = ev 228 35 L (.long x.toInt64 :: st) h := G_i2l f228_34
theorem f228_35 : fetch 228 35 = some (.lcmp, 1) := vtab tk228 19 rfl
theorem e228_35 (L : VL) (st : List Value) (h : VG) (x y : Int64) : ev 228 35 L (.long y :: .long x :: st) h = ev 228 36 L (.int (lg_cmp x y) :: st) h := G_lcmp f228_35
theorem f228_36 : fetch 228 36 = some (.ifCond .ne 7, 3) := vtab tk228 20 rfl
theorem e228_36 (L : VL) (st : List Value) (h : VG) (x : Int32) : ev 228 36 L (.int x :: st) h = if x = 0 then ev 228 39 L st h else ev 228 43 L st h := G_if_ne f228_36 (by decide)
theorem f228_39 : fetch 228 39 = some (.iconst 0, 1) := vtab tk228 21 rfl
theorem e228_39 (L : VL) (st : List Value) (h : VG) : ev 228 39 L (st) h = ev 228 40 L (.int (0 : Int32) :: st) h := G_iconst f228_39 (by decide)
theorem f228_40 : fetch 228 40 = some (.goto 4, 3) := vtab tk228 22 rfl
theorem e228_40 (L : VL) (st : List Value) (h : VG) : ev 228 40 L (st) h = ev 228 44 L (st) h := G_goto f228_40 (by decide)
theorem f228_43 : fetch 228 43 = some (.iconst 2, 1) := vtab tk228 23 rfl
theorem e228_43 (L : VL) (st : List Value) (h : VG) : ev 228 43 L (st) h = ev 228 44 L (.int (2 : Int32) :: st) h := G_iconst f228_43 (by decide)
theorem f228_44 : fetch 228 44 = some (.istore_n 1, 1) := vtab tk228 24 rfl
theorem e228_44 (l0 l1 : Option Value) (L : VL) (st : List Value) (h : VG) (x : Int32) : ev 228 44 (l0 :: l1 :: L) (.int x :: st) h = ev 228 45 (vkk l0 :: some (.int x) :: L) (st) h := G_istore_n f228_44 rfl (S1_1 l0 l1 L _)
theorem f228_45 : fetch 228 45 = some (.aload_n 0, 1) := vtab tk228 25 rfl
theorem e228_45 (L : VL) (st : List Value) (h : VG) (x : Nat) : ev 228 45 (some (.ref x) :: L) (st) h = ev 228 46 (some (.ref x) :: L) (.ref x :: st) h := G_aload_n f228_45 rfl
theorem f228_46 : fetch 228 46 = some (.iload_n 1, 1) := vtab tk228 26 rfl
theorem e228_46 (l0 : Option Value) (L : VL) (st : List Value) (h : VG) (x : Int32) : ev 228 46 (l0 :: some (.int x) :: L) (st) h = ev 228 47 (l0 :: some (.int x) :: L) (.int x :: st) h := G_iload_n f228_46 rfl
theorem f228_47 : fetch 228 47 = some (.invokevirtual 347, 3) := vtab tk228 27 rfl
theorem e228_47 (L : VL) (st : List Value) (h : VG) (b : Nat) (x0 : Int32) (ho : ob h b 11) (hs : catS st ≤ 8) : ev 228 47 L (.int x0 :: .ref b :: st) h = (ev 164 0 [some (.ref b), some (.int x0)] [] h).bind fun q => ev 228 50 L (q.1.toList ++ st) q.2 := G_callv (k := 1) (p := 1366) (ars := [.int x0]) f228_47 lkC_12_347 (by decide) (by decide +kernel) rfl (vcls_ob (ci := 11) (by decide) ho) (Nat.le_of_ble_eq_true rfl) hs rfl
theorem f228_50 : fetch 228 50 = some (.ifCond .ne 5, 3) := vtab tk228 28 rfl
theorem e228_50 (L : VL) (st : List Value) (h : VG) (x : Int32) : ev 228 50 L (.int x :: st) h = if x = 0 then ev 228 53 L st h else ev 228 55 L st h := G_if_ne f228_50 (by decide)
theorem f228_53 : fetch 228 53 = some (.iconst (-1), 1) := vtab tk228 29 rfl
theorem e228_53 (L : VL) (st : List Value) (h : VG) : ev 228 53 L (st) h = ev 228 54 L (.int (-1 : Int32) :: st) h := G_iconst f228_53 (by decide)
theorem f228_54 : fetch 228 54 = some (.ireturn, 1) := vtab tk228 30 rfl
theorem e228_54 (L : VL) (h : VG) (x : Int32) : ev 228 54 L [.int x] h = some (some (.int x), h) := G_iret f228_54 (ty := .int) (by decide) rfl
theorem f228_55 : fetch 228 55 = some (.iconst 0, 1) := vtab tk228 31 rfl
theorem e228_55 (L : VL) (st : List Value) (h : VG) : ev 228 55 L (st) h = ev 228 56 L (.int (0 : Int32) :: st) h := G_iconst f228_55 (by decide)
theorem f228_56 : fetch 228 56 = some (.istore_n 2, 1) := vtab tk228 32 rfl
theorem e228_56 (l0 l1 l2 : Option Value) (L : VL) (st : List Value) (h : VG) (x : Int32) : ev 228 56 (l0 :: l1 :: l2 :: L) (.int x :: st) h = ev 228 57 (l0 :: vkk l1 :: some (.int x) :: L) (st) h := G_istore_n f228_56 rfl (S1_2 l0 l1 l2 L _)
theorem f228_57 : fetch 228 57 = some (.iload_n 2, 1) := vtab tk228 33 rfl
theorem e228_57 (l0 l1 : Option Value) (L : VL) (st : List Value) (h : VG) (x : Int32) : ev 228 57 (l0 :: l1 :: some (.int x) :: L) (st) h = ev 228 58 (l0 :: l1 :: some (.int x) :: L) (.int x :: st) h := G_iload_n f228_57 rfl
theorem f228_58 : fetch 228 58 = some (.bipush 8, 2) := vtab tk228 34 rfl
theorem e228_58 (L : VL) (st : List Value) (h : VG) : ev 228 58 L (st) h = ev 228 60 L (.int (8 : Int32) :: st) h := G_bipush f228_58 (by decide)
theorem f228_60 : fetch 228 60 = some (.if_icmp .ge 32, 3) := vtab tk228 35 rfl
theorem e228_60 (L : VL) (st : List Value) (h : VG) (x y : Int32) : ev 228 60 L (.int y :: .int x :: st) h = if x < y then ev 228 63 L st h else ev 228 92 L st h := G_icmp_ge f228_60 (by decide)
theorem f228_63 : fetch 228 63 = some (.aload_n 0, 1) := vtab tk228 36 rfl
theorem e228_63 (L : VL) (st : List Value) (h : VG) (x : Nat) : ev 228 63 (some (.ref x) :: L) (st) h = ev 228 64 (some (.ref x) :: L) (.ref x :: st) h := G_aload_n f228_63 rfl
theorem f228_64 : fetch 228 64 = some (.getfield 117, 3) := vtab tk228 37 rfl
theorem e228_64 (L : VL) (st : List Value) (h : VG) (a : Nat) (ho : ob h a 11) (hr : isR h a 56) : ev 228 64 L (.ref a :: st) h = ev 228 67 L (.ref (gR h a 56) :: st) h := G_getR (p := 1069) f228_64 lkF_12_117 (by decide) (by decide) ho hr
theorem f228_67 : fetch 228 67 = some (.iload_n 2, 1) := vtab tk228 38 rfl
theorem e228_67 (l0 l1 : Option Value) (L : VL) (st : List Value) (h : VG) (x : Int32) : ev 228 67 (l0 :: l1 :: some (.int x) :: L) (st) h = ev 228 68 (l0 :: l1 :: some (.int x) :: L) (.int x :: st) h := G_iload_n f228_67 rfl
theorem f228_68 : fetch 228 68 = some (.aload_n 0, 1) := vtab tk228 39 rfl
theorem e228_68 (L : VL) (st : List Value) (h : VG) (x : Nat) : ev 228 68 (some (.ref x) :: L) (st) h = ev 228 69 (some (.ref x) :: L) (.ref x :: st) h := G_aload_n f228_68 rfl
theorem f228_69 : fetch 228 69 = some (.aload_n 0, 1) := vtab tk228 40 rfl
theorem e228_69 (L : VL) (st : List Value) (h : VG) (x : Nat) : ev 228 69 (some (.ref x) :: L) (st) h = ev 228 70 (some (.ref x) :: L) (.ref x :: st) h := G_aload_n f228_69 rfl
theorem f228_70 : fetch 228 70 = some (.invokevirtual 453, 3) := vtab tk228 41 rfl
theorem e228_70 (L : VL) (st : List Value) (h : VG) (b : Nat)  (ho : ob h b 11) (hs : catS st ≤ 8) : ev 228 70 L (.ref b :: st) h = (ev 226 0 [some (.ref b)] [] h).bind fun q => ev 228 73 L (q.1.toList ++ st) q.2 := G_callv (k := 1) (p := 1563) (ars := []) f228_70 lkC_12_453 (by decide) (by decide +kernel) rfl (vcls_ob (ci := 11) (by decide) ho) (Nat.le_of_ble_eq_true rfl) hs rfl
theorem f228_73 : fetch 228 73 = some (.iconst 4, 1) := vtab tk228 42 rfl
theorem e228_73 (L : VL) (st : List Value) (h : VG) : ev 228 73 L (st) h = ev 228 74 L (.int (4 : Int32) :: st) h := G_iconst f228_73 (by decide)
theorem f228_74 : fetch 228 74 = some (.iload_n 2, 1) := vtab tk228 43 rfl
theorem e228_74 (l0 l1 : Option Value) (L : VL) (st : List Value) (h : VG) (x : Int32) : ev 228 74 (l0 :: l1 :: some (.int x) :: L) (st) h = ev 228 75 (l0 :: l1 :: some (.int x) :: L) (.int x :: st) h := G_iload_n f228_74 rfl
theorem f228_75 : fetch 228 75 = some (.imul, 1) := vtab tk228 44 rfl
theorem e228_75 (L : VL) (st : List Value) (h : VG) (x y : Int32) : ev 228 75 L (.int y :: .int x :: st) h = ev 228 76 L (.int (x * y) :: st) h := G_imul f228_75
theorem f228_76 : fetch 228 76 = some (.iadd, 1) := vtab tk228 45 rfl
theorem e228_76 (L : VL) (st : List Value) (h : VG) (x y : Int32) : ev 228 76 L (.int y :: .int x :: st) h = ev 228 77 L (.int (x + y) :: st) h := G_iadd f228_76
theorem f228_77 : fetch 228 77 = some (.iconst 4, 1) := vtab tk228 46 rfl
theorem e228_77 (L : VL) (st : List Value) (h : VG) : ev 228 77 L (st) h = ev 228 78 L (.int (4 : Int32) :: st) h := G_iconst f228_77 (by decide)
theorem f228_78 : fetch 228 78 = some (.invokevirtual 398, 3) := vtab tk228 47 rfl
theorem e228_78 (L : VL) (st : List Value) (h : VG) (b : Nat) (x0 : Int32) (x1 : Int32) (ho : ob h b 11) (hs : catS st ≤ 8) : ev 228 78 L (.int x1 :: .int x0 :: .ref b :: st) h = (ev 203 0 [some (.ref b), some (.int x0), some (.int x1), none, none, none] [] h).bind fun q => ev 228 81 L (q.1.toList ++ st) q.2 := G_callv (k := 1) (p := 1475) (ars := [.int x0, .int x1]) f228_78 lkC_12_398 (by decide) (by decide +kernel) rfl (vcls_ob (ci := 11) (by decide) ho) (Nat.le_of_ble_eq_true rfl) hs rfl
theorem f228_81 : fetch 228 81 = some (.iconst 4, 1) := vtab tk228 48 rfl
theorem e228_81 (L : VL) (st : List Value) (h : VG) : ev 228 81 L (st) h = ev 228 82 L (.int (4 : Int32) :: st) h := G_iconst f228_81 (by decide)
theorem f228_82 : fetch 228 82 = some (.invokestatic 406, 3) := vtab tk228 49 rfl
theorem e228_82 (L : VL) (st : List Value) (h : VG) (x0 : Int64) (x1 : Int32) (hs : catS st ≤ 8) : ev 228 82 L (.int x1 :: .long x0 :: st) h = (ev 204 0 [some (.long x0), none, some (.int x1), none] [] h).bind fun q => ev 228 85 L (q.1.toList ++ st) q.2 := G_calls (k := 0) (p := 1489) (ars := [.long x0, .int x1]) f228_82 lkC_12_406 (by decide) (by decide +kernel) rfl (Nat.le_of_ble_eq_true rfl) hs rfl
theorem f228_85 : fetch 228 85 = some (.lastore, 1) := vtab tk228 50 rfl
theorem e228_85 (L : VL) (st : List Value) (h : VG) (a : Nat) (i : Int32) (x : Int64) (ha : arL h a) (hi : vp_in i (aln h a)) : ev 228 85 L (.long x :: .int i :: .ref a :: st) h = ev 228 86 L (st) (wL h a i.toNatClampNeg x) := G_last f228_85 ha hi
theorem f228_86 : fetch 228 86 = some (.iinc 2 1, 3) := vtab tk228 51 rfl
theorem e228_86 (l0 l1 : Option Value) (L : VL) (st : List Value) (h : VG) (x : Int32) : ev 228 86 (l0 :: l1 :: some (.int x) :: L) (st) h = ev 228 89 (l0 :: vkk l1 :: some (.int (x + (1 : Int32))) :: L) (st) h := G_iinc f228_86 rfl (by decide) (S1_2 l0 l1 (some (.int x)) L _)
theorem f228_89 : fetch 228 89 = some (.goto (-32), 3) := vtab tk228 52 rfl
theorem e228_89 (L : VL) (st : List Value) (h : VG) : ev 228 89 L (st) h = ev 228 57 L (st) h := G_goto f228_89 (by decide)
theorem f228_92 : fetch 228 92 = some (.aload_n 0, 1) := vtab tk228 53 rfl
theorem e228_92 (L : VL) (st : List Value) (h : VG) (x : Nat) : ev 228 92 (some (.ref x) :: L) (st) h = ev 228 93 (some (.ref x) :: L) (.ref x :: st) h := G_aload_n f228_92 rfl
theorem f228_93 : fetch 228 93 = some (.dup, 1) := vtab tk228 54 rfl
theorem e228_93b (L : VL) (st : List Value) (h : VG) (x : Int32) : ev 228 93 L (.int x :: st) h = ev 228 94 L (.int x :: .int x :: st) h := G_dup_int f228_93
theorem e228_93 (L : VL) (st : List Value) (h : VG) (x : Nat) : ev 228 93 L (.ref x :: st) h = ev 228 94 L (.ref x :: .ref x :: st) h := G_dup_ref f228_93
theorem f228_94 : fetch 228 94 = some (.getfield 241, 3) := vtab tk228 55 rfl
theorem e228_94 (L : VL) (st : List Value) (h : VG) (a : Nat) (ho : ob h a 11) : ev 228 94 L (.ref a :: st) h = ev 228 97 L (.int (gI h a 57) :: st) h := G_getI (p := 1070) f228_94 lkF_12_241 (by decide) (by decide) ho
theorem f228_97 : fetch 228 97 = some (.iconst 1, 1) := vtab tk228 56 rfl
theorem e228_97 (L : VL) (st : List Value) (h : VG) : ev 228 97 L (st) h = ev 228 98 L (.int (1 : Int32) :: st) h := G_iconst f228_97 (by decide)
theorem f228_98 : fetch 228 98 = some (.isub, 1) := vtab tk228 57 rfl
theorem e228_98 (L : VL) (st : List Value) (h : VG) (x y : Int32) : ev 228 98 L (.int y :: .int x :: st) h = ev 228 99 L (.int (x - y) :: st) h := G_isub f228_98
theorem f228_99 : fetch 228 99 = some (.putfield 241, 3) := vtab tk228 58 rfl
theorem e228_99 (L : VL) (st : List Value) (h : VG) (a : Nat) (x : Int32) (ho : ob h a 11) : ev 228 99 L (.int x :: .ref a :: st) h = ev 228 102 L (st) (pI h a 57 x) := G_putI (p := 1070) f228_99 lkF_12_241 (by decide) (by decide) (by decide +kernel) ⟨rfl, rfl⟩ ho
theorem f228_102 : fetch 228 102 = some (.aload_n 0, 1) := vtab tk228 59 rfl
theorem e228_102 (L : VL) (st : List Value) (h : VG) (x : Nat) : ev 228 102 (some (.ref x) :: L) (st) h = ev 228 103 (some (.ref x) :: L) (.ref x :: st) h := G_aload_n f228_102 rfl
theorem f228_103 : fetch 228 103 = some (.getfield 241, 3) := vtab tk228 60 rfl
theorem e228_103 (L : VL) (st : List Value) (h : VG) (a : Nat) (ho : ob h a 11) : ev 228 103 L (.ref a :: st) h = ev 228 106 L (.int (gI h a 57) :: st) h := G_getI (p := 1070) f228_103 lkF_12_241 (by decide) (by decide) ho
theorem f228_106 : fetch 228 106 = some (.ireturn, 1) := vtab tk228 61 rfl
theorem e228_106 (L : VL) (h : VG) (x : Int32) : ev 228 106 L [.int x] h = some (some (.int x), h) := G_iret f228_106 (ty := .int) (by decide) rfl
