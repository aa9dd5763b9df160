/-! 147 GuestCallsModel.sign(II)I -/
def tb147 : List (Nat × Instr × Nat) := [(0, .aload_n 0, 1), (1, .iload_n 2, 1), (2, .bipush 59, 2), (4, .if_icmp .ne 7, 3), (7, .iconst 4, 1), (8, .goto 4, 3), (11, .iconst 3, 1), (12, .iload_n 1, 1), (13, .iconst 0, 1), (14, .lconst 0, 1), (15, .invokevirtual 174, 3), (18, .iconst 1, 1), (19, .ireturn, 1)]
theorem tk147 : tb147.all (fun q => decide (fetch 147 q.1 = some q.2)) = true := by decide +kernel
theorem f147_0 : fetch 147 0 = some (.aload_n 0, 1) := vtab tk147 0 rfl
theorem e147_0 (L : VL) (st : List Value) (h : VG) (x : Nat) : ev 147 0 (some (.ref x) :: L) (st) h = ev 147 1 (some (.ref x) :: L) (.ref x :: st) h := G_aload_n f147_0 rfl
theorem f147_1 : fetch 147 1 = some (.iload_n 2, 1) := vtab tk147 1 rfl
theorem e147_1 (l0 l1 : Option Value) (L : VL) (st : List Value) (h : VG) (x : Int32) : ev 147 1 (l0 :: l1 :: some (.int x) :: L) (st) h = ev 147 2 (l0 :: l1 :: some (.int x) :: L) (.int x :: st) h := G_iload_n f147_1 rfl
theorem f147_2 : fetch 147 2 = some (.bipush 59, 2) := vtab tk147 2 rfl
theorem e147_2 (L : VL) (st : List Value) (h : VG) : ev 147 2 L (st) h = ev 147 4 L (.int (59 : Int32) :: st) h := G_bipush f147_2 (by decide)
theorem f147_4 : fetch 147 4 = some (.if_icmp .ne 7, 3) := vtab tk147 3 rfl
theorem e147_4 (L : VL) (st : List Value) (h : VG) (x y : Int32) : ev 147 4 L (.int y :: .int x :: st) h = if x = y then ev 147 7 L st h else ev 147 11 L st h := G_icmp_ne f147_4 (by decide)
theorem f147_7 : fetch 147 7 = some (.iconst 4, 1) := vtab tk147 4 rfl
theorem e147_7 (L : VL) (st : List Value) (h : VG) : ev 147 7 L (st) h = ev 147 8 L (.int (4 : Int32) :: st) h := G_iconst f147_7 (by decide)
theorem f147_8 : fetch 147 8 = some (.goto 4, 3) := vtab tk147 5 rfl
theorem e147_8 (L : VL) (st : List Value) (h : VG) : ev 147 8 L (st) h = ev 147 12 L (st) h := G_goto f147_8 (by decide)
theorem f147_11 : fetch 147 11 = some (.iconst 3, 1) := vtab tk147 6 rfl
theorem e147_11 (L : VL) (st : List Value) (h : VG) : ev 147 11 L (st) h = ev 147 12 L (.int (3 : Int32) :: st) h := G_iconst f147_11 (by decide)
theorem f147_12 : fetch 147 12 = some (.iload_n 1, 1) := vtab tk147 7 rfl
theorem e147_12 (l0 : Option Value) (L : VL) (st : List Value) (h : VG) (x : Int32) : ev 147 12 (l0 :: some (.int x) :: L) (st) h = ev 147 13 (l0 :: some (.int x) :: L) (.int x :: st) h := G_iload_n f147_12 rfl
theorem f147_13 : fetch 147 13 = some (.iconst 0, 1) := vtab tk147 8 rfl
theorem e147_13 (L : VL) (st : List Value) (h : VG) : ev 147 13 L (st) h = ev 147 14 L (.int (0 : Int32) :: st) h := G_iconst f147_13 (by decide)
theorem f147_14 : fetch 147 14 = some (.lconst 0, 1) := vtab tk147 9 rfl
theorem e147_14 (L : VL) (st : List Value) (h : VG) : ev 147 14 L (st) h = ev 147 15 L (.long 0 :: st) h := G_lconst f147_14 (by decide)
theorem f147_15 : fetch 147 15 = some (.invokevirtual 174, 3) := vtab tk147 10 rfl
theorem e147_15 (L : VL) (st : List Value) (h : VG) (b : Nat) (x0 : Int32) (x1 : Int32) (x2 : Int32) (x3 : Int64) (ho : ob h b 11) (hs : catS st ≤ 8) : ev 147 15 L (.long x3 :: .int x2 :: .int x1 :: .int x0 :: .ref b :: st) h = (ev 145 0 [some (.ref b), some (.int x0), some (.int x1), some (.int x2), some (.long x3), none] [] h).bind fun q => ev 147 18 L (q.1.toList ++ st) q.2 := G_callv (k := 1) (p := 1240) (ars := [.int x0, .int x1, .int x2, .long x3]) f147_15 lkC_12_174 (by decide) (by decide +kernel) rfl (vcls_ob (ci := 11) (by decide) ho) (Nat.le_of_ble_eq_true rfl) hs rfl
theorem f147_18 : fetch 147 18 = some (.iconst 1, 1) := vtab tk147 11 rfl
theorem e147_18 (L : VL) (st : List Value) (h : VG) : ev 147 18 L (st) h = ev 147 19 L (.int (1 : Int32) :: st) h := G_iconst f147_18 (by decide)
theorem f147_19 : fetch 147 19 = some (.ireturn, 1) := vtab tk147 12 rfl
theorem e147_19 (L : VL) (h : VG) (x : Int32) : ev 147 19 L [.int x] h = some (some (.int x), h) := G_iret f147_19 (ty := .int) (by decide) rfl
/-! 148 GuestCallsModel.is(I)Z -/
def tb148 : List (Nat × Instr × Nat) := [(0, .aload_n 0, 1), (1, .getfield 189, 3), (4, .ifCond .ne 20, 3), (7, .aload_n 0, 1), (8, .getfield 20, 3), (11, .aload_n 0, 1), (12, .getfield 192, 3), (15, .iaload, 1), (16, .iload_n 1, 1), (17, .if_icmp .ne 7, 3), (20, .iconst 1, 1), (21, .goto 4, 3), (24, .iconst 0, 1), (25, .ireturn, 1)]
theorem tk148 : tb148.all (fun q => decide (fetch 148 q.1 = some q.2)) = true := by decide +kernel
theorem f148_0 : fetch 148 0 = some (.aload_n 0, 1) := vtab tk148 0 rfl
theorem e148_0 (L : VL) (st : List Value) (h : VG) (x : Nat) : ev 148 0 (some (.ref x) :: L) (st) h = ev 148 1 (some (.ref x) :: L) (.ref x :: st) h := G_aload_n f148_0 rfl
theorem f148_1 : fetch 148 1 = some (.getfield 189, 3) := vtab tk148 1 rfl
theorem e148_1 (L : VL) (st : List Value) (h : VG) (a : Nat) (ho : ob h a 11) : ev 148 1 L (.ref a :: st) h = ev 148 4 L (.int (gI h a 12) :: st) h := G_getI (p := 1025) f148_1 lkF_12_189 (by decide) (by decide) ho
theorem f148_4 : fetch 148 4 = some (.ifCond .ne 20, 3) := vtab tk148 2 rfl
theorem e148_4 (L : VL) (st : List Value) (h : VG) (x : Int32) : ev 148 4 L (.int x :: st) h = if x = 0 then ev 148 7 L st h else ev 148 24 L st h := G_if_ne f148_4 (by decide)
theorem f148_7 : fetch 148 7 = some (.aload_n 0, 1) := vtab tk148 3 rfl
theorem e148_7 (L : VL) (st : List Value) (h : VG) (x : Nat) : ev 148 7 (some (.ref x) :: L) (st) h = ev 148 8 (some (.ref x) :: L) (.ref x :: st) h := G_aload_n f148_7 rfl
theorem f148_8 : fetch 148 8 = some (.getfield 20, 3) := vtab tk148 4 rfl
theorem e148_8 (L : VL) (st : List Value) (h : VG) (a : Nat) (ho : ob h a 11) (hr : isR h a 5) : ev 148 8 L (.ref a :: st) h = ev 148 11 L (.ref (gR h a 5) :: st) h := G_getR (p := 1018) f148_8 lkF_12_20 (by decide) (by decide) ho hr
theorem f148_11 : fetch 148 11 = some (.aload_n 0, 1) := vtab tk148 5 rfl
theorem e148_11 (L : VL) (st : List Value) (h : VG) (x : Nat) : ev 148 11 (some (.ref x) :: L) (st) h = ev 148 12 (some (.ref x) :: L) (.ref x :: st) h := G_aload_n f148_11 rfl
theorem f148_12 : fetch 148 12 = some (.getfield 192, 3) := vtab tk148 6 rfl
theorem e148_12 (L : VL) (st : List Value) (h : VG) (a : Nat) (ho : ob h a 11) : ev 148 12 L (.ref a :: st) h = ev 148 15 L (.int (gI h a 11) :: st) h := G_getI (p := 1024) f148_12 lkF_12_192 (by decide) (by decide) ho
theorem f148_15 : fetch 148 15 = some (.iaload, 1) := vtab tk148 7 rfl
theorem e148_15 (L : VL) (st : List Value) (h : VG) (a : Nat) (i : Int32) (ha : rdI h a) (hi : vp_in i (aln h a)) : ev 148 15 L (.int i :: .ref a :: st) h = ev 148 16 L (.int (aI h a i.toNatClampNeg) :: st) h := G_iald' f148_15 ha hi
theorem f148_16 : fetch 148 16 = some (.iload_n 1, 1) := vtab tk148 8 rfl
theorem e148_16 (l0 : Option Value) (L : VL) (st : List Value) (h : VG) (x : Int32) : ev 148 16 (l0 :: some (.int x) :: L) (st) h = ev 148 17 (l0 :: some (.int x) :: L) (.int x :: st) h := G_iload_n f148_16 rfl
theorem f148_17 : fetch 148 17 = some (.if_icmp .ne 7, 3) := vtab tk148 9 rfl
theorem e148_17 (L : VL) (st : List Value) (h : VG) (x y : Int32) : ev 148 17 L (.int y :: .int x :: st) h = if x = y then ev 148 20 L st h else ev 148 24 L st h := G_icmp_ne f148_17 (by decide)
theorem f148_20 : fetch 148 20 = some (.iconst 1, 1) := vtab tk148 10 rfl
theorem e148_20 (L : VL) (st : List Value) (h : VG) : ev 148 20 L (st) h = ev 148 21 L (.int (1 : Int32) :: st) h := G_iconst f148_20 (by decide)
theorem f148_21 : fetch 148 21 = some (.goto 4, 3) := vtab tk148 11 rfl
theorem e148_21 (L : VL) (st : List Value) (h : VG) : ev 148 21 L (st) h = ev 148 25 L (st) h := G_goto f148_21 (by decide)
theorem f148_24 : fetch 148 24 = some (.iconst 0, 1) := vtab tk148 12 rfl
theorem e148_24 (L : VL) (st : List Value) (h : VG) : ev 148 24 L (st) h = ev 148 25 L (.int (0 : Int32) :: st) h := G_iconst f148_24 (by decide)
theorem f148_25 : fetch 148 25 = some (.ireturn, 1) := vtab tk148 13 rfl
theorem e148_25 (L : VL) (h : VG) (x : Int32) (hz : x = 0 ∨ x = 1) : ev 148 25 L [.int x] h = some (some (.int x), h) := G_iret f148_25 (ty := .boolean) (by decide) (vbool hz).1
/-! 149 GuestCallsModel.fail(I)V -/
def tb149 : List (Nat × Instr × Nat) := [(0, .aload_n 0, 1), (1, .getfield 189, 3), (4, .ifCond .le 4, 3), (7, .return_, 1), (8, .aload_n 0, 1), (9, .iload_n 1, 1), (10, .putfield 189, 3), (13, .aload_n 0, 1), (14, .aload_n 0, 1), (15, .getfield 24, 3), (18, .aload_n 0, 1), (19, .getfield 192, 3), (22, .iaload, 1), (23, .putfield 195, 3), (26, .return_, 1)]
theorem tk149 : tb149.all (fun q => decide (fetch 149 q.1 = some q.2)) = true := by decide +kernel
theorem f149_0 : fetch 149 0 = some (.aload_n 0, 1) := vtab tk149 0 rfl
theorem e149_0 (L : VL) (st : List Value) (h : VG) (x : Nat) : ev 149 0 (some (.ref x) :: L) (st) h = ev 149 1 (some (.ref x) :: L) (.ref x :: st) h := G_aload_n f149_0 rfl
theorem f149_1 : fetch 149 1 = some (.getfield 189, 3) := vtab tk149 1 rfl
theorem e149_1 (L : VL) (st : List Value) (h : VG) (a : Nat) (ho : ob h a 11) : ev 149 1 L (.ref a :: st) h = ev 149 4 L (.int (gI h a 12) :: st) h := G_getI (p := 1025) f149_1 lkF_12_189 (by decide) (by decide) ho
theorem f149_4 : fetch 149 4 = some (.ifCond .le 4, 3) := vtab tk149 2 rfl
theorem e149_4 (L : VL) (st : List Value) (h : VG) (x : Int32) : ev 149 4 L (.int x :: st) h = if x ≤ 0 then ev 149 8 L st h else ev 149 7 L st h := G_if_le f149_4 (by decide)
theorem f149_7 : fetch 149 7 = some (.return_, 1) := vtab tk149 3 rfl
theorem e149_7 (L : VL) (h : VG) : ev 149 7 L [] h = some (none, h) := G_vret f149_7 (by decide)
theorem f149_8 : fetch 149 8 = some (.aload_n 0, 1) := vtab tk149 4 rfl
theorem e149_8 (L : VL) (st : List Value) (h : VG) (x : Nat) : ev 149 8 (some (.ref x) :: L) (st) h = ev 149 9 (some (.ref x) :: L) (.ref x :: st) h := G_aload_n f149_8 rfl
theorem f149_9 : fetch 149 9 = some (.iload_n 1, 1) := vtab tk149 5 rfl
theorem e149_9 (l0 : Option Value) (L : VL) (st : List Value) (h : VG) (x : Int32) : ev 149 9 (l0 :: some (.int x) :: L) (st) h = ev 149 10 (l0 :: some (.int x) :: L) (.int x :: st) h := G_iload_n f149_9 rfl
theorem f149_10 : fetch 149 10 = some (.putfield 189, 3) := vtab tk149 6 rfl
theorem e149_10 (L : VL) (st : List Value) (h : VG) (a : Nat) (x : Int32) (ho : ob h a 11) : ev 149 10 L (.int x :: .ref a :: st) h = ev 149 13 L (st) (pI h a 12 x) := G_putI (p := 1025) f149_10 lkF_12_189 (by decide) (by decide) (by decide +kernel) ⟨rfl, rfl⟩ ho
theorem f149_13 : fetch 149 13 = some (.aload_n 0, 1) := vtab tk149 7 rfl
theorem e149_13 (L : VL) (st : List Value) (h : VG) (x : Nat) : ev 149 13 (some (.ref x) :: L) (st) h = ev 149 14 (some (.ref x) :: L) (.ref x :: st) h := G_aload_n f149_13 rfl
theorem f149_14 : fetch 149 14 = some (.aload_n 0, 1) := vtab tk149 8 rfl
theorem e149_14 (L : VL) (st : List Value) (h : VG) (x : Nat) : ev 149 14 (some (.ref x) :: L) (st) h = ev 149 15 (some (.ref x) :: L) (.ref x :: st) h := G_aload_n f149_14 rfl
theorem f149_15 : fetch 149 15 = some (.getfield 24, 3) := vtab tk149 9 rfl
theorem e149_15 (L : VL) (st : List Value) (h : VG) (a : Nat) (ho : ob h a 11) (hr : isR h a 6) : ev 149 15 L (.ref a :: st) h = ev 149 18 L (.ref (gR h a 6) :: st) h := G_getR (p := 1019) f149_15 lkF_12_24 (by decide) (by decide) ho hr
theorem f149_18 : fetch 149 18 = some (.aload_n 0, 1) := vtab tk149 10 rfl
theorem e149_18 (L : VL) (st : List Value) (h : VG) (x : Nat) : ev 149 18 (some (.ref x) :: L) (st) h = ev 149 19 (some (.ref x) :: L) (.ref x :: st) h := G_aload_n f149_18 rfl
theorem f149_19 : fetch 149 19 = some (.getfield 192, 3) := vtab tk149 11 rfl
theorem e149_19 (L : VL) (st : List Value) (h : VG) (a : Nat) (ho : ob h a 11) : ev 149 19 L (.ref a :: st) h = ev 149 22 L (.int (gI h a 11) :: st) h := G_getI (p := 1024) f149_19 lkF_12_192 (by decide) (by decide) ho
theorem f149_22 : fetch 149 22 = some (.iaload, 1) := vtab tk149 12 rfl
theorem e149_22 (L : VL) (st : List Value) (h : VG) (a : Nat) (i : Int32) (ha : rdI h a) (hi : vp_in i (aln h a)) : ev 149 22 L (.int i :: .ref a :: st) h = ev 149 23 L (.int (aI h a i.toNatClampNeg) :: st) h := G_iald' f149_22 ha hi
theorem f149_23 : fetch 149 23 = some (.putfield 195, 3) := vtab tk149 13 rfl
theorem e149_23 (L : VL) (st : List Value) (h : VG) (a : Nat) (x : Int32) (ho : ob h a 11) : ev 149 23 L (.int x :: .ref a :: st) h = ev 149 26 L (st) (pI h a 13 x) := G_putI (p := 1026) f149_23 lkF_12_195 (by decide) (by decide) (by decide +kernel) ⟨rfl, rfl⟩ ho
theorem f149_26 : fetch 149 26 = some (.return_, 1) := vtab tk149 14 rfl
theorem e149_26 (L : VL) (h : VG) : ev 149 26 L [] h = some (none, h) := G_vret f149_26 (by decide)
/-! 150 GuestCallsModel.wrong(II)V -/
def tb150 : List (Nat × Instr × Nat) := [(0, .aload_n 0, 1), (1, .getfield 24, 3), (4, .iload_n 2, 1), (5, .iaload, 1), (6, .istore_n 3, 1), (7, .aload_n 0, 1), (8, .getfield 189, 3), (11, .ifCond .gt 34, 3), (14, .aload_n 0, 1), (15, .getfield 198, 3), (18, .ifCond .eq 28, 3), (21, .iload_n 3, 1), (22, .aload_n 0, 1), (23, .getfield 201, 3), (26, .if_icmp .gt 19, 3), (29, .iload_n 3, 1), (30, .aload_n 0, 1), (31, .getfield 201, 3), (34, .if_icmp .ne 12, 3), (37, .iload_n 1, 1), (38, .aload_n 0, 1), (39, .getfield 198, 3), (42, .if_icmp .lt 4, 3), (45, .return_, 1), (46, .aload_n 0, 1), (47, .iload_n 1, 1), (48, .putfield 198, 3), (51, .aload_n 0, 1), (52, .iload_n 3, 1), (53, .putfield 201, 3), (56, .return_, 1)]
theorem tk150 : tb150.all (fun q => decide (fetch 150 q.1 = some q.2)) = true := by decide +kernel
theorem f150_0 : fetch 150 0 = some (.aload_n 0, 1) := vtab tk150 0 rfl
theorem e150_0 (L : VL) (st : List Value) (h : VG) (x : Nat) : ev 150 0 (some (.ref x) :: L) (st) h = ev 150 1 (some (.ref x) :: L) (.ref x :: st) h := G_aload_n f150_0 rfl
theorem f150_1 : fetch 150 1 = some (.getfield 24, 3) := vtab tk150 1 rfl
theorem e150_1 (L : VL) (st : List Value) (h : VG) (a : Nat) (ho : ob h a 11) (hr : isR h a 6) : ev 150 1 L (.ref a :: st) h = ev 150 4 L (.ref (gR h a 6) :: st) h := G_getR (p := 1019) f150_1 lkF_12_24 (by decide) (by decide) ho hr
theorem f150_4 : fetch 150 4 = some (.iload_n 2, 1) := vtab tk150 2 rfl
theorem e150_4 (l0 l1 : Option Value) (L : VL) (st : List Value) (h : VG) (x : Int32) : ev 150 4 (l0 :: l1 :: some (.int x) :: L) (st) h = ev 150 5 (l0 :: l1 :: some (.int x) :: L) (.int x :: st) h := G_iload_n f150_4 rfl
theorem f150_5 : fetch 150 5 = some (.iaload, 1) := vtab tk150 3 rfl
theorem e150_5 (L : VL) (st : List Value) (h : VG) (a : Nat) (i : Int32) (ha : rdI h a) (hi : vp_in i (aln h a)) : ev 150 5 L (.int i :: .ref a :: st) h = ev 150 6 L (.int (aI h a i.toNatClampNeg) :: st) h := G_iald' f150_5 ha hi
theorem f150_6 : fetch 150 6 = some (.istore_n 3, 1) := vtab tk150 4 rfl
theorem e150_6 (l0 l1 l2 l3 : Option Value) (L : VL) (st : List Value) (h : VG) (x : Int32) : ev 150 6 (l0 :: l1 :: l2 :: l3 :: L) (.int x :: st) h = ev 150 7 (l0 :: l1 :: vkk l2 :: some (.int x) :: L) (st) h := G_istore_n f150_6 rfl (S1_3 l0 l1 l2 l3 L _)
theorem f150_7 : fetch 150 7 = some (.aload_n 0, 1) := vtab tk150 5 rfl
theorem e150_7 (L : VL) (st : List Value) (h : VG) (x : Nat) : ev 150 7 (some (.ref x) :: L) (st) h = ev 150 8 (some (.ref x) :: L) (.ref x :: st) h := G_aload_n f150_7 rfl
theorem f150_8 : fetch 150 8 = some (.getfield 189, 3) := vtab tk150 6 rfl
theorem e150_8 (L : VL) (st : List Value) (h : VG) (a : Nat) (ho : ob h a 11) : ev 150 8 L (.ref a :: st) h = ev 150 11 L (.int (gI h a 12) :: st) h := G_getI (p := 1025) f150_8 lkF_12_189 (by decide) (by decide) ho
theorem f150_11 : fetch 150 11 = some (.ifCond .gt 34, 3) := vtab tk150 7 rfl
theorem e150_11 (L : VL) (st : List Value) (h : VG) (x : Int32) : ev 150 11 L (.int x :: st) h = if x ≤ 0 then ev 150 14 L st h else ev 150 45 L st h := G_if_gt f150_11 (by decide)
theorem f150_14 : fetch 150 14 = some (.aload_n 0, 1) := vtab tk150 8 rfl
theorem e150_14 (L : VL) (st : List Value) (h : VG) (x : Nat) : ev 150 14 (some (.ref x) :: L) (st) h = ev 150 15 (some (.ref x) :: L) (.ref x :: st) h := G_aload_n f150_14 rfl
theorem f150_15 : fetch 150 15 = some (.getfield 198, 3) := vtab tk150 9 rfl
theorem e150_15 (L : VL) (st : List Value) (h : VG) (a : Nat) (ho : ob h a 11) : ev 150 15 L (.ref a :: st) h = ev 150 18 L (.int (gI h a 14) :: st) h := G_getI (p := 1027) f150_15 lkF_12_198 (by decide) (by decide) ho
theorem f150_18 : fetch 150 18 = some (.ifCond .eq 28, 3) := vtab tk150 10 rfl
theorem e150_18 (L : VL) (st : List Value) (h : VG) (x : Int32) : ev 150 18 L (.int x :: st) h = if x = 0 then ev 150 46 L st h else ev 150 21 L st h := G_if_eq f150_18 (by decide)
theorem f150_21 : fetch 150 21 = some (.iload_n 3, 1) := vtab tk150 11 rfl
theorem e150_21 (l0 l1 l2 : Option Value) (L : VL) (st : List Value) (h : VG) (x : Int32) : ev 150 21 (l0 :: l1 :: l2 :: some (.int x) :: L) (st) h = ev 150 22 (l0 :: l1 :: l2 :: some (.int x) :: L) (.int x :: st) h := G_iload_n f150_21 rfl
theorem f150_22 : fetch 150 22 = some (.aload_n 0, 1) := vtab tk150 12 rfl
theorem e150_22 (L : VL) (st : List Value) (h : VG) (x : Nat) : ev 150 22 (some (.ref x) :: L) (st) h = ev 150 23 (some (.ref x) :: L) (.ref x :: st) h := G_aload_n f150_22 rfl
theorem f150_23 : fetch 150 23 = some (.getfield 201, 3) := vtab tk150 13 rfl
theorem e150_23 (L : VL) (st : List Value) (h : VG) (a : Nat) (ho : ob h a 11) : ev 150 23 L (.ref a :: st) h = ev 150 26 L (.int (gI h a 15) :: st) h := G_getI (p := 1028) f150_23 lkF_12_201 (by decide) (by decide) ho
theorem f150_26 : fetch 150 26 = some (.if_icmp .gt 19, 3) := vtab tk150 14 rfl
theorem e150_26 (L : VL) (st : List Value) (h : VG) (x y : Int32) : ev 150 26 L (.int y :: .int x :: st) h = if x ≤ y then ev 150 29 L st h else ev 150 45 L st h := G_icmp_gt f150_26 (by decide)
theorem f150_29 : fetch 150 29 = some (.iload_n 3, 1) := vtab tk150 15 rfl
theorem e150_29 (l0 l1 l2 : Option Value) (L : VL) (st : List Value) (h : VG) (x : Int32) : ev 150 29 (l0 :: l1 :: l2 :: some (.int x) :: L) (st) h = ev 150 30 (l0 :: l1 :: l2 :: some (.int x) :: L) (.int x :: st) h := G_iload_n f150_29 rfl
theorem f150_30 : fetch 150 30 = some (.aload_n 0, 1) := vtab tk150 16 rfl
theorem e150_30 (L : VL) (st : List Value) (h : VG) (x : Nat) : ev 150 30 (some (.ref x) :: L) (st) h = ev 150 31 (some (.ref x) :: L) (.ref x :: st) h := G_aload_n f150_30 rfl
theorem f150_31 : fetch 150 31 = some (.getfield 201, 3) := vtab tk150 17 rfl
theorem e150_31 (L : VL) (st : List Value) (h : VG) (a : Nat) (ho : ob h a 11) : ev 150 31 L (.ref a :: st) h = ev 150 34 L (.int (gI h a 15) :: st) h := G_getI (p := 1028) f150_31 lkF_12_201 (by decide) (by decide) ho
theorem f150_34 : fetch 150 34 = some (.if_icmp .ne 12, 3) := vtab tk150 18 rfl
theorem e150_34 (L : VL) (st : List Value) (h : VG) (x y : Int32) : ev 150 34 L (.int y :: .int x :: st) h = if x = y then ev 150 37 L st h else ev 150 46 L st h := G_icmp_ne f150_34 (by decide)
theorem f150_37 : fetch 150 37 = some (.iload_n 1, 1) := vtab tk150 19 rfl
theorem e150_37 (l0 : Option Value) (L : VL) (st : List Value) (h : VG) (x : Int32) : ev 150 37 (l0 :: some (.int x) :: L) (st) h = ev 150 38 (l0 :: some (.int x) :: L) (.int x :: st) h := G_iload_n f150_37 rfl
theorem f150_38 : fetch 150 38 = some (.aload_n 0, 1) := vtab tk150 20 rfl
theorem e150_38 (L : VL) (st : List Value) (h : VG) (x : Nat) : ev 150 38 (some (.ref x) :: L) (st) h = ev 150 39 (some (.ref x) :: L) (.ref x :: st) h := G_aload_n f150_38 rfl
theorem f150_39 : fetch 150 39 = some (.getfield 198, 3) := vtab tk150 21 rfl
theorem e150_39 (L : VL) (st : List Value) (h : VG) (a : Nat) (ho : ob h a 11) : ev 150 39 L (.ref a :: st) h = ev 150 42 L (.int (gI h a 14) :: st) h := G_getI (p := 1027) f150_39 lkF_12_198 (by decide) (by decide) ho
theorem f150_42 : fetch 150 42 = some (.if_icmp .lt 4, 3) := vtab tk150 22 rfl
theorem e150_42 (L : VL) (st : List Value) (h : VG) (x y : Int32) : ev 150 42 L (.int y :: .int x :: st) h = if x < y then ev 150 46 L st h else ev 150 45 L st h := G_icmp_lt f150_42 (by decide)
theorem f150_45 : fetch 150 45 = some (.return_, 1) := vtab tk150 23 rfl
theorem e150_45 (L : VL) (h : VG) : ev 150 45 L [] h = some (none, h) := G_vret f150_45 (by decide)
theorem f150_46 : fetch 150 46 = some (.aload_n 0, 1) := vtab tk150 24 rfl
theorem e150_46 (L : VL) (st : List Value) (h : VG) (x : Nat) : ev 150 46 (some (.ref x) :: L) (st) h = ev 150 47 (some (.ref x) :: L) (.ref x :: st) h := G_aload_n f150_46 rfl
theorem f150_47 : fetch 150 47 = some (.iload_n 1, 1) := vtab tk150 25 rfl
theorem e150_47 (l0 : Option Value) (L : VL) (st : List Value) (h : VG) (x : Int32) : ev 150 47 (l0 :: some (.int x) :: L) (st) h = ev 150 48 (l0 :: some (.int x) :: L) (.int x :: st) h := G_iload_n f150_47 rfl
theorem f150_48 : fetch 150 48 = some (.putfield 198, 3) := vtab tk150 26 rfl
theorem e150_48 (L : VL) (st : List Value) (h : VG) (a : Nat) (x : Int32) (ho : ob h a 11) : ev 150 48 L (.int x :: .ref a :: st) h = ev 150 51 L (st) (pI h a 14 x) := G_putI (p := 1027) f150_48 lkF_12_198 (by decide) (by decide) (by decide +kernel) ⟨rfl, rfl⟩ ho
theorem f150_51 : fetch 150 51 = some (.aload_n 0, 1) := vtab tk150 27 rfl
theorem e150_51 (L : VL) (st : List Value) (h : VG) (x : Nat) : ev 150 51 (some (.ref x) :: L) (st) h = ev 150 52 (some (.ref x) :: L) (.ref x :: st) h := G_aload_n f150_51 rfl
theorem f150_52 : fetch 150 52 = some (.iload_n 3, 1) := vtab tk150 28 rfl
theorem e150_52 (l0 l1 l2 : Option Value) (L : VL) (st : List Value) (h : VG) (x : Int32) : ev 150 52 (l0 :: l1 :: l2 :: some (.int x) :: L) (st) h = ev 150 53 (l0 :: l1 :: l2 :: some (.int x) :: L) (.int x :: st) h := G_iload_n f150_52 rfl
theorem f150_53 : fetch 150 53 = some (.putfield 201, 3) := vtab tk150 29 rfl
theorem e150_53 (L : VL) (st : List Value) (h : VG) (a : Nat) (x : Int32) (ho : ob h a 11) : ev 150 53 L (.int x :: .ref a :: st) h = ev 150 56 L (st) (pI h a 15 x) := G_putI (p := 1028) f150_53 lkF_12_201 (by decide) (by decide) (by decide +kernel) ⟨rfl, rfl⟩ ho
theorem f150_56 : fetch 150 56 = some (.return_, 1) := vtab tk150 30 rfl
theorem e150_56 (L : VL) (h : VG) : ev 150 56 L [] h = some (none, h) := G_vret f150_56 (by decide)
/-! 151 GuestCallsModel.passes()V -/
def tb151 : List (Nat × Instr × Nat) := [(0, .aload_n 0, 1), (1, .getfield 192, 3), (4, .sipush 400, 3), (7, .if_icmp .ne 11, 3), (10, .aload_n 0, 1), (11, .iconst 2, 1), (12, .invokevirtual 204, 3), (15, .goto 13, 3), (18, .aload_n 0, 1), (19, .dup, 1), (20, .getfield 192, 3), (23, .iconst 1, 1), (24, .iadd, 1), (25, .putfield 192, 3), (28, .return_, 1)]
theorem tk151 : tb151.all (fun q => decide (fetch 151 q.1 = some q.2)) = true := by decide +kernel
theorem f151_0 : fetch 151 0 = some (.aload_n 0, 1) := vtab tk151 0 rfl
theorem e151_0 (L : VL) (st : List Value) (h : VG) (x : Nat) : ev 151 0 (some (.ref x) :: L) (st) h = ev 151 1 (some (.ref x) :: L) (.ref x :: st) h := G_aload_n f151_0 rfl
theorem f151_1 : fetch 151 1 = some (.getfield 192, 3) := vtab tk151 1 rfl
theorem e151_1 (L : VL) (st : List Value) (h : VG) (a : Nat) (ho : ob h a 11) : ev 151 1 L (.ref a :: st) h = ev 151 4 L (.int (gI h a 11) :: st) h := G_getI (p := 1024) f151_1 lkF_12_192 (by decide) (by decide) ho
theorem f151_4 : fetch 151 4 = some (.sipush 400, 3) := vtab tk151 2 rfl
theorem e151_4 (L : VL) (st : List Value) (h : VG) : ev 151 4 L (st) h = ev 151 7 L (.int (400 : Int32) :: st) h := G_sipush f151_4 (by decide)
theorem f151_7 : fetch 151 7 = some (.if_icmp .ne 11, 3) := vtab tk151 3 rfl
theorem e151_7 (L : VL) (st : List Value) (h : VG) (x y : Int32) : ev 151 7 L (.int y :: .int x :: st) h = if x = y then ev 151 10 L st h else ev 151 18 L st h := G_icmp_ne f151_7 (by decide)
theorem f151_10 : fetch 151 10 = some (.aload_n 0, 1) := vtab tk151 4 rfl
theorem e151_10 (L : VL) (st : List Value) (h : VG) (x : Nat) : ev 151 10 (some (.ref x) :: L) (st) h = ev 151 11 (some (.ref x) :: L) (.ref x :: st) h := G_aload_n f151_10 rfl
theorem f151_11 : fetch 151 11 = some (.iconst 2, 1) := vtab tk151 5 rfl
theorem e151_11 (L : VL) (st : List Value) (h : VG) : ev 151 11 L (st) h = ev 151 12 L (.int (2 : Int32) :: st) h := G_iconst f151_11 (by decide)
theorem f151_12 : fetch 151 12 = some (.invokevirtual 204, 3) := vtab tk151 6 rfl
theorem e151_12 (L : VL) (st : List Value) (h : VG) (b : Nat) (x0 : Int32) (ho : ob h b 11) (hs : catS st ≤ 8) : ev 151 12 L (.int x0 :: .ref b :: st) h = (ev 149 0 [some (.ref b), some (.int x0)] [] h).bind fun q => ev 151 15 L (q.1.toList ++ st) q.2 := G_callv (k := 1) (p := 1262) (ars := [.int x0]) f151_12 lkC_12_204 (by decide) (by decide +kernel) rfl (vcls_ob (ci := 11) (by decide) ho) (Nat.le_of_ble_eq_true rfl) hs rfl
theorem f151_15 : fetch 151 15 = some (.goto 13, 3) := vtab tk151 7 rfl
theorem e151_15 (L : VL) (st : List Value) (h : VG) : ev 151 15 L (st) h = ev 151 28 L (st) h := G_goto f151_15 (by decide)
theorem f151_18 : fetch 151 18 = some (.aload_n 0, 1) := vtab tk151 8 rfl
theorem e151_18 (L : VL) (st : List Value) (h : VG) (x : Nat) : ev 151 18 (some (.ref x) :: L) (st) h = ev 151 19 (some (.ref x) :: L) (.ref x :: st) h := G_aload_n f151_18 rfl
theorem f151_19 : fetch 151 19 = some (.dup, 1) := vtab tk151 9 rfl
theorem e151_19b (L : VL) (st : List Value) (h : VG) (x : Int32) : ev 151 19 L (.int x :: st) h = ev 151 20 L (.int x :: .int x :: st) h := G_dup_int f151_19
theorem e151_19 (L : VL) (st : List Value) (h : VG) (x : Nat) : ev 151 19 L (.ref x :: st) h = ev 151 20 L (.ref x :: .ref x :: st) h := G_dup_ref f151_19
theorem f151_20 : fetch 151 20 = some (.getfield 192, 3) := vtab tk151 10 rfl
theorem e151_20 (L : VL) (st : List Value) (h : VG) (a : Nat) (ho : ob h a 11) : ev 151 20 L (.ref a :: st) h = ev 151 23 L (.int (gI h a 11) :: st) h := G_getI (p := 1024) f151_20 lkF_12_192 (by decide) (by decide) ho
theorem f151_23 : fetch 151 23 = some (.iconst 1, 1) := vtab tk151 11 rfl
theorem e151_23 (L : VL) (st : List Value) (h : VG) : ev 151 23 L (st) h = ev 151 24 L (.int (1 : Int32) :: st) h := G_iconst f151_23 (by decide)
theorem f151_24 : fetch 151 24 = some (.iadd, 1) := vtab tk151 12 rfl
theorem e151_24 (L : VL) (st : List Value) (h : VG) (x y : Int32) : ev 151 24 L (.int y :: .int x :: st) h = ev 151 25 L (.int (x + y) :: st) h := G_iadd f151_24
theorem f151_25 : fetch 151 25 = some (.putfield 192, 3) := vtab tk151 13 rfl
theorem e151_25 (L : VL) (st : List Value) (h : VG) (a : Nat) (x : Int32) (ho : ob h a 11) : ev 151 25 L (.int x :: .ref a :: st) h = ev 151 28 L (st) (pI h a 11 x) := G_putI (p := 1024) f151_25 lkF_12_192 (by decide) (by decide) (by decide +kernel) ⟨rfl, rfl⟩ ho
theorem f151_28 : fetch 151 28 = some (.return_, 1) := vtab tk151 14 rfl
theorem e151_28 (L : VL) (h : VG) : ev 151 28 L [] h = some (none, h) := G_vret f151_28 (by decide)
/-! 152 GuestCallsModel.must(I)V -/
def tb152 : List (Nat × Instr × Nat) := [(0, .aload_n 0, 1), (1, .iload_n 1, 1), (2, .invokevirtual 207, 3), (5, .ifCond .eq 10, 3), (8, .aload_n 0, 1), (9, .invokevirtual 210, 3), (12, .goto 8, 3), (15, .aload_n 0, 1), (16, .iconst 1, 1), (17, .invokevirtual 204, 3), (20, .return_, 1)]
theorem tk152 : tb152.all (fun q => decide (fetch 152 q.1 = some q.2)) = true := by decide +kernel
theorem f152_0 : fetch 152 0 = some (.aload_n 0, 1) := vtab tk152 0 rfl
theorem e152_0 (L : VL) (st : List Value) (h : VG) (x : Nat) : ev 152 0 (some (.ref x) :: L) (st) h = ev 152 1 (some (.ref x) :: L) (.ref x :: st) h := G_aload_n f152_0 rfl
theorem f152_1 : fetch 152 1 = some (.iload_n 1, 1) := vtab tk152 1 rfl
theorem e152_1 (l0 : Option Value) (L : VL) (st : List Value) (h : VG) (x : Int32) : ev 152 1 (l0 :: some (.int x) :: L) (st) h = ev 152 2 (l0 :: some (.int x) :: L) (.int x :: st) h := G_iload_n f152_1 rfl
theorem f152_2 : fetch 152 2 = some (.invokevirtual 207, 3) := vtab tk152 2 rfl
theorem e152_2 (L : VL) (st : List Value) (h : VG) (b : Nat) (x0 : Int32) (ho : ob h b 11) (hs : catS st ≤ 8) : ev 152 2 L (.int x0 :: .ref b :: st) h = (ev 148 0 [some (.ref b), some (.int x0)] [] h).bind fun q => ev 152 5 L (q.1.toList ++ st) q.2 := G_callv (k := 1) (p := 1254) (ars := [.int x0]) f152_2 lkC_12_207 (by decide) (by decide +kernel) rfl (vcls_ob (ci := 11) (by decide) ho) (Nat.le_of_ble_eq_true rfl) hs rfl
theorem f152_5 : fetch 152 5 = some (.ifCond .eq 10, 3) := vtab tk152 3 rfl
theorem e152_5 (L : VL) (st : List Value) (h : VG) (x : Int32) : ev 152 5 L (.int x :: st) h = if x = 0 then ev 152 15 L st h else ev 152 8 L st h := G_if_eq f152_5 (by decide)
theorem f152_8 : fetch 152 8 = some (.aload_n 0, 1) := vtab tk152 4 rfl
theorem e152_8 (L : VL) (st : List Value) (h : VG) (x : Nat) : ev 152 8 (some (.ref x) :: L) (st) h = ev 152 9 (some (.ref x) :: L) (.ref x :: st) h := G_aload_n f152_8 rfl
theorem f152_9 : fetch 152 9 = some (.invokevirtual 210, 3) := vtab tk152 5 rfl
theorem e152_9 (L : VL) (st : List Value) (h : VG) (b : Nat)  (ho : ob h b 11) (hs : catS st ≤ 8) : ev 152 9 L (.ref b :: st) h = (ev 151 0 [some (.ref b)] [] h).bind fun q => ev 152 12 L (q.1.toList ++ st) q.2 := G_callv (k := 1) (p := 1266) (ars := []) f152_9 lkC_12_210 (by decide) (by decide +kernel) rfl (vcls_ob (ci := 11) (by decide) ho) (Nat.le_of_ble_eq_true rfl) hs rfl
theorem f152_12 : fetch 152 12 = some (.goto 8, 3) := vtab tk152 6 rfl
theorem e152_12 (L : VL) (st : List Value) (h : VG) : ev 152 12 L (st) h = ev 152 20 L (st) h := G_goto f152_12 (by decide)
theorem f152_15 : fetch 152 15 = some (.aload_n 0, 1) := vtab tk152 7 rfl
theorem e152_15 (L : VL) (st : List Value) (h : VG) (x : Nat) : ev 152 15 (some (.ref x) :: L) (st) h = ev 152 16 (some (.ref x) :: L) (.ref x :: st) h := G_aload_n f152_15 rfl
theorem f152_16 : fetch 152 16 = some (.iconst 1, 1) := vtab tk152 8 rfl
theorem e152_16 (L : VL) (st : List Value) (h : VG) : ev 152 16 L (st) h = ev 152 17 L (.int (1 : Int32) :: st) h := G_iconst f152_16 (by decide)
theorem f152_17 : fetch 152 17 = some (.invokevirtual 204, 3) := vtab tk152 9 rfl
theorem e152_17 (L : VL) (st : List Value) (h : VG) (b : Nat) (x0 : Int32) (ho : ob h b 11) (hs : catS st ≤ 8) : ev 152 17 L (.int x0 :: .ref b :: st) h = (ev 149 0 [some (.ref b), some (.int x0)] [] h).bind fun q => ev 152 20 L (q.1.toList ++ st) q.2 := G_callv (k := 1) (p := 1262) (ars := [.int x0]) f152_17 lkC_12_204 (by decide) (by decide +kernel) rfl (vcls_ob (ci := 11) (by decide) ho) (Nat.le_of_ble_eq_true rfl) hs rfl
theorem f152_20 : fetch 152 20 = some (.return_, 1) := vtab tk152 10 rfl
theorem e152_20 (L : VL) (h : VG) : ev 152 20 L [] h = some (none, h) := G_vret f152_20 (by decide)
/-! 153 GuestCallsModel.read()I -/
def tb153 : List (Nat × Instr × Nat) := [(0, .aload_n 0, 1), (1, .aload_n 0, 1), (2, .getfield 151, 3), (5, .putfield 158, 3), (8, .iconst 0, 1), (9, .istore_n 1, 1), (10, .iload_n 1, 1), (11, .aload_n 0, 1), (12, .getfield 158, 3), (15, .if_icmp .ge 21, 3), (18, .aload_n 0, 1), (19, .getfield 17, 3), (22, .iload_n 1, 1), (23, .aload_n 0, 1), (24, .getfield 13, 3), (27, .iload_n 1, 1), (28, .baload, 1), (29, .bastore, 1), (30, .iinc 1 1, 3), (33, .goto (-23), 3), (36, .aload_n 0, 1), (37, .iconst 0, 1), (38, .putfield 151, 3), (41, .aload_n 0, 1), (42, .invokevirtual 213, 3), (45, .aload_n 0, 1), (46, .iconst 0, 1), (47, .putfield 192, 3), (50, .aload_n 0, 1), (51, .iconst 0, 1), (52, .putfield 189, 3), (55, .aload_n 0, 1), (56, .iconst 0, 1), (57, .putfield 198, 3), (60, .aload_n 0, 1), (61, .iconst 0, 1), (62, .putfield 216, 3), (65, .aload_n 0, 1), (66, .getfield 189, 3), (69, .ifCond .ne 18, 3), (72, .aload_n 0, 1), (73, .iconst 0, 1), (74, .invokevirtual 207, 3), (77, .ifCond .ne 10, 3), (80, .aload_n 0, 1), (81, .invokevirtual 219, 3), (84, .goto (-19), 3), (87, .aload_n 0, 1), (88, .getfield 189, 3), (91, .ifCond .ne 7, 3), (94, .aload_n 0, 1), (95, .invokevirtual 222, 3), (98, .aload_n 0, 1), (99, .aload_n 0, 1), (100, .getfield 189, 3), (103, .ifCond .le 10, 3), (106, .aload_n 0, 1), (107, .getfield 195, 3), (110, .goto 18, 3), (113, .aload_n 0, 1), (114, .getfield 198, 3), (117, .ifCond .le 10, 3), (120, .aload_n 0, 1), (121, .getfield 201, 3), (124, .goto 4, 3), (127, .iconst (-1), 1), (128, .putfield 37, 3), (131, .aload_n 0, 1), (132, .getfield 189, 3), (135, .ifCond .le 8, 3), (138, .aload_n 0, 1), (139, .getfield 189, 3), (142, .ireturn, 1), (143, .aload_n 0, 1), (144, .getfield 198, 3), (147, .ifCond .le 8, 3), (150, .aload_n 0, 1), (151, .getfield 198, 3), (154, .ireturn, 1), (155, .aload_n 0, 1), (156, .aload_n 0, 1), (157, .getfield 225, 3), (160, .putfield 229, 3), (163, .aload_n 0, 1), (164, .aload_n 0, 1), (165, .getfield 232, 3), (168, .putfield 40, 3), (171, .aload_n 0, 1), (172, .aload_n 0, 1), (173, .getfield 216, 3), (176, .putfield 235, 3), (179, .iconst 0, 1), (180, .istore_n 1, 1), (181, .iload_n 1, 1), (182, .bipush 6, 2), (184, .if_icmp .ge 21, 3), (187, .aload_n 0, 1), (188, .getfield 43, 3), (191, .iload_n 1, 1), (192, .aload_n 0, 1), (193, .getfield 55, 3), (196, .iload_n 1, 1), (197, .iaload, 1), (198, .iastore, 1), (199, .iinc 1 1, 3), (202, .goto (-21), 3), (205, .iconst 0, 1), (206, .istore_n 1, 1), (207, .iload_n 1, 1), (208, .bipush 48, 2), (210, .if_icmp .ge 33, 3), (213, .aload_n 0, 1), (214, .getfield 46, 3), (217, .iload_n 1, 1), (218, .aload_n 0, 1), (219, .getfield 58, 3), (222, .iload_n 1, 1), (223, .iaload, 1), (224, .iastore, 1), (225, .aload_n 0, 1), (226, .getfield 49, 3), (229, .iload_n 1, 1), (230, .aload_n 0, 1), (231, .getfield 61, 3), (234, .iload_n 1, 1), (235, .iaload, 1), (236, .iastore, 1), (237, .iinc 1 1, 3), (240, .goto (-33), 3), (243, .iconst 0, 1), (244, .istore_n 1, 1), (245, .iload_n 1, 1), (246, .sipush 256, 3), (249, .if_icmp .ge 21, 3), (252, .aload_n 0, 1), (253, .getfield 52, 3), (256, .iload_n 1, 1), (257, .aload_n 0, 1), (258, .getfield 64, 3), (261, .iload_n 1, 1), (262, .iaload, 1), (263, .iastore, 1), (264, .iinc 1 1, 3), (267, .goto (-22), 3), (270, .aload_n 0, 1), (271, .invokevirtual 238, 3), (274, .iconst 0, 1), (275, .ireturn, 1)]
theorem tk153 : tb153.all (fun q => decide (fetch 153 q.1 = some q.2)) = true := by decide +kernel
theorem f153_0 : fetch 153 0 = some (.aload_n 0, 1) := vtab tk153 0 rfl
theorem e153_0 (L : VL) (st : List Value) (h : VG) (x : Nat) : ev 153 0 (some (.ref x) :: L) (st) h = ev 153 1 (some (.ref x) :: L) (.ref x :: st) h := G_aload_n f153_0 rfl
theorem f153_1 : fetch 153 1 = some (.aload_n 0, 1) := vtab tk153 1 rfl
theorem e153_1 (L : VL) (st : List Value) (h : VG) (x : Nat) : ev 153 1 (some (.ref x) :: L) (st) h = ev 153 2 (some (.ref x) :: L) (.ref x :: st) h := G_aload_n f153_1 rfl
theorem f153_2 : fetch 153 2 = some (.getfield 151, 3) := vtab tk153 2 rfl
theorem e153_2 (L : VL) (st : List Value) (h : VG) (a : Nat) (ho : ob h a 11) : ev 153 2 L (.ref a :: st) h = ev 153 5 L (.int (gI h a 2) :: st) h := G_getI (p := 1015) f153_2 lkF_12_151 (by decide) (by decide) ho
theorem f153_5 : fetch 153 5 = some (.putfield 158, 3) := vtab tk153 3 rfl
theorem e153_5 (L : VL) (st : List Value) (h : VG) (a : Nat) (x : Int32) (ho : ob h a 11) : ev 153 5 L (.int x :: .ref a :: st) h = ev 153 8 L (st) (pI h a 4 x) := G_putI (p := 1017) f153_5 lkF_12_158 (by decide) (by decide) (by decide +kernel) ⟨rfl, rfl⟩ ho
theorem f153_8 : fetch 153 8 = some (.iconst 0, 1) := vtab tk153 4 rfl
theorem e153_8 (L : VL) (st : List Value) (h : VG) : ev 153 8 L (st) h = ev 153 9 L (.int (0 : Int32) :: st) h := G_iconst f153_8 (by decide)
theorem f153_9 : fetch 153 9 = some (.istore_n 1, 1) := vtab tk153 5 rfl
theorem e153_9 (l0 l1 : Option Value) (L : VL) (st : List Value) (h : VG) (x : Int32) : ev 153 9 (l0 :: l1 :: L) (.int x :: st) h = ev 153 10 (vkk l0 :: some (.int x) :: L) (st) h := G_istore_n f153_9 rfl (S1_1 l0 l1 L _)
theorem f153_10 : fetch 153 10 = some (.iload_n 1, 1) := vtab tk153 6 rfl
theorem e153_10 (l0 : Option Value) (L : VL) (st : List Value) (h : VG) (x : Int32) : ev 153 10 (l0 :: some (.int x) :: L) (st) h = ev 153 11 (l0 :: some (.int x) :: L) (.int x :: st) h := G_iload_n f153_10 rfl
theorem f153_11 : fetch 153 11 = some (.aload_n 0, 1) := vtab tk153 7 rfl
theorem e153_11 (L : VL) (st : List Value) (h : VG) (x : Nat) : ev 153 11 (some (.ref x) :: L) (st) h = ev 153 12 (some (.ref x) :: L) (.ref x :: st) h := G_aload_n f153_11 rfl
theorem f153_12 : fetch 153 12 = some (.getfield 158, 3) := vtab tk153 8 rfl
theorem e153_12 (L : VL) (st : List Value) (h : VG) (a : Nat) (ho : ob h a 11) : ev 153 12 L (.ref a :: st) h = ev 153 15 L (.int (gI h a 4) :: st) h := G_getI (p := 1017) f153_12 lkF_12_158 (by decide) (by decide) ho
theorem f153_15 : fetch 153 15 = some (.if_icmp .ge 21, 3) := vtab tk153 9 rfl
theorem e153_15 (L : VL) (st : List Value) (h : VG) (x y : Int32) : ev 153 15 L (.int y :: .int x :: st) h = if x < y then ev 153 18 L st h else ev 153 36 L st h := G_icmp_ge f153_15 (by decide)
theorem f153_18 : fetch 153 18 = some (.aload_n 0, 1) := vtab tk153 10 rfl
theorem e153_18 (L : VL) (st : List Value) (h : VG) (x : Nat) : ev 153 18 (some (.ref x) :: L) (st) h = ev 153 19 (some (.ref x) :: L) (.ref x :: st) h := G_aload_n f153_18 rfl
theorem f153_19 : fetch 153 19 = some (.getfield 17, 3) := vtab tk153 11 rfl
theorem e153_19 (L : VL) (st : List Value) (h : VG) (a : Nat) (ho : ob h a 11) (hr : isR h a 3) : ev 153 19 L (.ref a :: st) h = ev 153 22 L (.ref (gR h a 3) :: st) h := G_getR (p := 1016) f153_19 lkF_12_17 (by decide) (by decide) ho hr
theorem f153_22 : fetch 153 22 = some (.iload_n 1, 1) := vtab tk153 12 rfl
theorem e153_22 (l0 : Option Value) (L : VL) (st : List Value) (h : VG) (x : Int32) : ev 153 22 (l0 :: some (.int x) :: L) (st) h = ev 153 23 (l0 :: some (.int x) :: L) (.int x :: st) h := G_iload_n f153_22 rfl
theorem f153_23 : fetch 153 23 = some (.aload_n 0, 1) := vtab tk153 13 rfl
theorem e153_23 (L : VL) (st : List Value) (h : VG) (x : Nat) : ev 153 23 (some (.ref x) :: L) (st) h = ev 153 24 (some (.ref x) :: L) (.ref x :: st) h := G_aload_n f153_23 rfl
theorem f153_24 : fetch 153 24 = some (.getfield 13, 3) := vtab tk153 14 rfl
theorem e153_24 (L : VL) (st : List Value) (h : VG) (a : Nat) (ho : ob h a 11) (hr : isR h a 1) : ev 153 24 L (.ref a :: st) h = ev 153 27 L (.ref (gR h a 1) :: st) h := G_getR (p := 1014) f153_24 lkF_12_13 (by decide) (by decide) ho hr
theorem f153_27 : fetch 153 27 = some (.iload_n 1, 1) := vtab tk153 15 rfl
theorem e153_27 (l0 : Option Value) (L : VL) (st : List Value) (h : VG) (x : Int32) : ev 153 27 (l0 :: some (.int x) :: L) (st) h = ev 153 28 (l0 :: some (.int x) :: L) (.int x :: st) h := G_iload_n f153_27 rfl
theorem f153_28 : fetch 153 28 = some (.baload, 1) := vtab tk153 16 rfl
theorem e153_28 (L : VL) (st : List Value) (h : VG) (a : Nat) (i : Int32) (ha : rdB h a) (hi : vp_in i (aln h a)) : ev 153 28 L (.int i :: .ref a :: st) h = ev 153 29 L (.int (aI h a i.toNatClampNeg) :: st) h := G_bald' f153_28 ha hi
theorem f153_29 : fetch 153 29 = some (.bastore, 1) := vtab tk153 17 rfl
theorem e153_29 (L : VL) (st : List Value) (h : VG) (a : Nat) (i : Int32) (x : Int32) (ha : arI h a 2) (hi : vp_in i (aln h a)) : ev 153 29 L (.int x :: .int i :: .ref a :: st) h = ev 153 30 L (st) (wI h a i.toNatClampNeg (vp_nar .byte x)) := G_bast f153_29 ha hi
theorem e153_29z (L : VL) (st : List Value) (h : VG) (a : Nat) (i : Int32) (x : Int32) (ha : arI h a 3) (hi : vp_in i (aln h a)) : ev 153 29 L (.int x :: .int i :: .ref a :: st) h = ev 153 30 L (st) (wI h a i.toNatClampNeg (vp_nar .boolean x)) := G_zast f153_29 ha hi
theorem f153_30 : fetch 153 30 = some (.iinc 1 1, 3) := vtab tk153 18 rfl
theorem e153_30 (l0 : Option Value) (L : VL) (st : List Value) (h : VG) (x : Int32) : ev 153 30 (l0 :: some (.int x) :: L) (st) h = ev 153 33 (vkk l0 :: some (.int (x + (1 : Int32))) :: L) (st) h := G_iinc f153_30 rfl (by decide) (S1_1 l0 (some (.int x)) L _)
theorem f153_33 : fetch 153 33 = some (.goto (-23), 3) := vtab tk153 19 rfl
theorem e153_33 (L : VL) (st : List Value) (h : VG) : ev 153 33 L (st) h = ev 153 10 L (st) h := G_goto f153_33 (by decide)
theorem f153_36 : fetch 153 36 = some (.aload_n 0, 1) := vtab tk153 20 rfl
theorem e153_36 (L : VL) (st : List Value) (h : VG) (x : Nat) : ev 153 36 (some (.ref x) :: L) (st) h = ev 153 37 (some (.ref x) :: L) (.ref x :: st) h := G_aload_n f153_36 rfl
theorem f153_37 : fetch 153 37 = some (.iconst 0, 1) := vtab tk153 21 rfl
theorem e153_37 (L : VL) (st : List Value) (h : VG) : ev 153 37 L (st) h = ev 153 38 L (.int (0 : Int32) :: st) h := G_iconst f153_37 (by decide)
theorem f153_38 : fetch 153 38 = some (.putfield 151, 3) := vtab tk153 22 rfl
theorem e153_38 (L : VL) (st : List Value) (h : VG) (a : Nat) (x : Int32) (ho : ob h a 11) : ev 153 38 L (.int x :: .ref a :: st) h = ev 153 41 L (st) (pI h a 2 x) := G_putI (p := 1015) f153_38 lkF_12_151 (by decide) (by decide) (by decide +kernel) ⟨rfl, rfl⟩ ho
theorem f153_41 : fetch 153 41 = some (.aload_n 0, 1) := vtab tk153 23 rfl
theorem e153_41 (L : VL) (st : List Value) (h : VG) (x : Nat) : ev 153 41 (some (.ref x) :: L) (st) h = ev 153 42 (some (.ref x) :: L) (.ref x :: st) h := G_aload_n f153_41 rfl
theorem f153_42 : fetch 153 42 = some (.invokevirtual 213, 3) := vtab tk153 24 rfl
theorem e153_42 (L : VL) (st : List Value) (h : VG) (b : Nat)  (ho : ob h b 11) (hs : catS st ≤ 8) : ev 153 42 L (.ref b :: st) h = (ev 146 0 [some (.ref b), none, none, none, none, none, none, none] [] h).bind fun q => ev 153 45 L (q.1.toList ++ st) q.2 := G_callv (k := 1) (p := 1232) (ars := []) f153_42 lkC_12_213 (by decide) (by decide +kernel) rfl (vcls_ob (ci := 11) (by decide) ho) (Nat.le_of_ble_eq_true rfl) hs rfl
theorem f153_45 : fetch 153 45 = some (.aload_n 0, 1) := vtab tk153 25 rfl
theorem e153_45 (L : VL) (st : List Value) (h : VG) (x : Nat) : ev 153 45 (some (.ref x) :: L) (st) h = ev 153 46 (some (.ref x) :: L) (.ref x :: st) h := G_aload_n f153_45 rfl
theorem f153_46 : fetch 153 46 = some (.iconst 0, 1) := vtab tk153 26 rfl
theorem e153_46 (L : VL) (st : List Value) (h : VG) : ev 153 46 L (st) h = ev 153 47 L (.int (0 : Int32) :: st) h := G_iconst f153_46 (by decide)
theorem f153_47 : fetch 153 47 = some (.putfield 192, 3) := vtab tk153 27 rfl
theorem e153_47 (L : VL) (st : List Value) (h : VG) (a : Nat) (x : Int32) (ho : ob h a 11) : ev 153 47 L (.int x :: .ref a :: st) h = ev 153 50 L (st) (pI h a 11 x) := G_putI (p := 1024) f153_47 lkF_12_192 (by decide) (by decide) (by decide +kernel) ⟨rfl, rfl⟩ ho
theorem f153_50 : fetch 153 50 = some (.aload_n 0, 1) := vtab tk153 28 rfl
theorem e153_50 (L : VL) (st : List Value) (h : VG) (x : Nat) : ev 153 50 (some (.ref x) :: L) (st) h = ev 153 51 (some (.ref x) :: L) (.ref x :: st) h := G_aload_n f153_50 rfl
theorem f153_51 : fetch 153 51 = some (.iconst 0, 1) := vtab tk153 29 rfl
theorem e153_51 (L : VL) (st : List Value) (h : VG) : ev 153 51 L (st) h = ev 153 52 L (.int (0 : Int32) :: st) h := G_iconst f153_51 (by decide)
theorem f153_52 : fetch 153 52 = some (.putfield 189, 3) := vtab tk153 30 rfl
theorem e153_52 (L : VL) (st : List Value) (h : VG) (a : Nat) (x : Int32) (ho : ob h a 11) : ev 153 52 L (.int x :: .ref a :: st) h = ev 153 55 L (st) (pI h a 12 x) := G_putI (p := 1025) f153_52 lkF_12_189 (by decide) (by decide) (by decide +kernel) ⟨rfl, rfl⟩ ho
theorem f153_55 : fetch 153 55 = some (.aload_n 0, 1) := vtab tk153 31 rfl
theorem e153_55 (L : VL) (st : List Value) (h : VG) (x : Nat) : ev 153 55 (some (.ref x) :: L) (st) h = ev 153 56 (some (.ref x) :: L) (.ref x :: st) h := G_aload_n f153_55 rfl
theorem f153_56 : fetch 153 56 = some (.iconst 0, 1) := vtab tk153 32 rfl
theorem e153_56 (L : VL) (st : List Value) (h : VG) : ev 153 56 L (st) h = ev 153 57 L (.int (0 : Int32) :: st) h := G_iconst f153_56 (by decide)
theorem f153_57 : fetch 153 57 = some (.putfield 198, 3) := vtab tk153 33 rfl
theorem e153_57 (L : VL) (st : List Value) (h : VG) (a : Nat) (x : Int32) (ho : ob h a 11) : ev 153 57 L (.int x :: .ref a :: st) h = ev 153 60 L (st) (pI h a 14 x) := G_putI (p := 1027) f153_57 lkF_12_198 (by decide) (by decide) (by decide +kernel) ⟨rfl, rfl⟩ ho
theorem f153_60 : fetch 153 60 = some (.aload_n 0, 1) := vtab tk153 34 rfl
theorem e153_60 (L : VL) (st : List Value) (h : VG) (x : Nat) : ev 153 60 (some (.ref x) :: L) (st) h = ev 153 61 (some (.ref x) :: L) (.ref x :: st) h := G_aload_n f153_60 rfl
theorem f153_61 : fetch 153 61 = some (.iconst 0, 1) := vtab tk153 35 rfl
theorem e153_61 (L : VL) (st : List Value) (h : VG) : ev 153 61 L (st) h = ev 153 62 L (.int (0 : Int32) :: st) h := G_iconst f153_61 (by decide)
theorem f153_62 : fetch 153 62 = some (.putfield 216, 3) := vtab tk153 36 rfl
theorem e153_62 (L : VL) (st : List Value) (h : VG) (a : Nat) (x : Int32) (ho : ob h a 11) : ev 153 62 L (.int x :: .ref a :: st) h = ev 153 65 L (st) (pI h a 26 x) := G_putI (p := 1039) f153_62 lkF_12_216 (by decide) (by decide) (by decide +kernel) ⟨rfl, rfl⟩ ho
theorem f153_65 : fetch 153 65 = some (.aload_n 0, 1) := vtab tk153 37 rfl
theorem e153_65 (L : VL) (st : List Value) (h : VG) (x : Nat) : ev 153 65 (some (.ref x) :: L) (st) h = ev 153 66 (some (.ref x) :: L) (.ref x :: st) h := G_aload_n f153_65 rfl
theorem f153_66 : fetch 153 66 = some (.getfield 189, 3) := vtab tk153 38 rfl
theorem e153_66 (L : VL) (st : List Value) (h : VG) (a : Nat) (ho : ob h a 11) : ev 153 66 L (.ref a :: st) h = ev 153 69 L (.int (gI h a 12) :: st) h := G_getI (p := 1025) f153_66 lkF_12_189 (by decide) (by decide) ho
theorem f153_69 : fetch 153 69 = some (.ifCond .ne 18, 3) := vtab tk153 39 rfl
theorem e153_69 (L : VL) (st : List Value) (h : VG) (x : Int32) : ev 153 69 L (.int x :: st) h = if x = 0 then ev 153 72 L st h else ev 153 87 L st h := G_if_ne f153_69 (by decide)
theorem f153_72 : fetch 153 72 = some (.aload_n 0, 1) := vtab tk153 40 rfl
theorem e153_72 (L : VL) (st : List Value) (h : VG) (x : Nat) : ev 153 72 (some (.ref x) :: L) (st) h = ev 153 73 (some (.ref x) :: L) (.ref x :: st) h := G_aload_n f153_72 rfl
theorem f153_73 : fetch 153 73 = some (.iconst 0, 1) := vtab tk153 41 rfl
theorem e153_73 (L : VL) (st : List Value) (h : VG) : ev 153 73 L (st) h = ev 153 74 L (.int (0 : Int32) :: st) h := G_iconst f153_73 (by decide)
theorem f153_74 : fetch 153 74 = some (.invokevirtual 207, 3) := vtab tk153 42 rfl
theorem e153_74 (L : VL) (st : List Value) (h : VG) (b : Nat) (x0 : Int32) (ho : ob h b 11) (hs : catS st ≤ 8) : ev 153 74 L (.int x0 :: .ref b :: st) h = (ev 148 0 [some (.ref b), some (.int x0)] [] h).bind fun q => ev 153 77 L (q.1.toList ++ st) q.2 := G_callv (k := 1) (p := 1254) (ars := [.int x0]) f153_74 lkC_12_207 (by decide) (by decide +kernel) rfl (vcls_ob (ci := 11) (by decide) ho) (Nat.le_of_ble_eq_true rfl) hs rfl
theorem f153_77 : fetch 153 77 = some (.ifCond .ne 10, 3) := vtab tk153 43 rfl
theorem e153_77 (L : VL) (st : List Value) (h : VG) (x : Int32) : ev 153 77 L (.int x :: st) h = if x = 0 then ev 153 80 L st h else ev 153 87 L st h := G_if_ne f153_77 (by decide)
theorem f153_80 : fetch 153 80 = some (.aload_n 0, 1) := vtab tk153 44 rfl
theorem e153_80 (L : VL) (st : List Value) (h : VG) (x : Nat) : ev 153 80 (some (.ref x) :: L) (st) h = ev 153 81 (some (.ref x) :: L) (.ref x :: st) h := G_aload_n f153_80 rfl
theorem f153_81 : fetch 153 81 = some (.invokevirtual 219, 3) := vtab tk153 45 rfl
theorem e153_81 (L : VL) (st : List Value) (h : VG) (b : Nat)  (ho : ob h b 11) (hs : catS st ≤ 8) : ev 153 81 L (.ref b :: st) h = (ev 157 0 [some (.ref b), none, none] [] h).bind fun q => ev 153 84 L (q.1.toList ++ st) q.2 := G_callv (k := 1) (p := 1258) (ars := []) f153_81 lkC_12_219 (by decide) (by decide +kernel) rfl (vcls_ob (ci := 11) (by decide) ho) (Nat.le_of_ble_eq_true rfl) hs rfl
theorem f153_84 : fetch 153 84 = some (.goto (-19), 3) := vtab tk153 46 rfl
theorem e153_84 (L : VL) (st : List Value) (h : VG) : ev 153 84 L (st) h = ev 153 65 L (st) h := G_goto f153_84 (by decide)
theorem f153_87 : fetch 153 87 = some (.aload_n 0, 1) := vtab tk153 47 rfl
theorem e153_87 (L : VL) (st : List Value) (h : VG) (x : Nat) : ev 153 87 (some (.ref x) :: L) (st) h = ev 153 88 (some (.ref x) :: L) (.ref x :: st) h := G_aload_n f153_87 rfl
theorem f153_88 : fetch 153 88 = some (.getfield 189, 3) := vtab tk153 48 rfl
theorem e153_88 (L : VL) (st : List Value) (h : VG) (a : Nat) (ho : ob h a 11) : ev 153 88 L (.ref a :: st) h = ev 153 91 L (.int (gI h a 12) :: st) h := G_getI (p := 1025) f153_88 lkF_12_189 (by decide) (by decide) ho
theorem f153_91 : fetch 153 91 = some (.ifCond .ne 7, 3) := vtab tk153 49 rfl
theorem e153_91 (L : VL) (st : List Value) (h : VG) (x : Int32) : ev 153 91 L (.int x :: st) h = if x = 0 then ev 153 94 L st h else ev 153 98 L st h := G_if_ne f153_91 (by decide)
theorem f153_94 : fetch 153 94 = some (.aload_n 0, 1) := vtab tk153 50 rfl
theorem e153_94 (L : VL) (st : List Value) (h : VG) (x : Nat) : ev 153 94 (some (.ref x) :: L) (st) h = ev 153 95 (some (.ref x) :: L) (.ref x :: st) h := G_aload_n f153_94 rfl
theorem f153_95 : fetch 153 95 = some (.invokevirtual 222, 3) := vtab tk153 51 rfl
theorem e153_95 (L : VL) (st : List Value) (h : VG) (b : Nat)  (ho : ob h b 11) (hs : catS st ≤ 8) : ev 153 95 L (.ref b :: st) h = (ev 159 0 [some (.ref b), none] [] h).bind fun q => ev 153 98 L (q.1.toList ++ st) q.2 := G_callv (k := 1) (p := 1282) (ars := []) f153_95 lkC_12_222 (by decide) (by decide +kernel) rfl (vcls_ob (ci := 11) (by decide) ho) (Nat.le_of_ble_eq_true rfl) hs rfl
theorem f153_98 : fetch 153 98 = some (.aload_n 0, 1) := vtab tk153 52 rfl
theorem e153_98 (L : VL) (st : List Value) (h : VG) (x : Nat) : ev 153 98 (some (.ref x) :: L) (st) h = ev 153 99 (some (.ref x) :: L) (.ref x :: st) h := G_aload_n f153_98 rfl
theorem f153_99 : fetch 153 99 = some (.aload_n 0, 1) := vtab tk153 53 rfl
theorem e153_99 (L : VL) (st : List Value) (h : VG) (x : Nat) : ev 153 99 (some (.ref x) :: L) (st) h = ev 153 100 (some (.ref x) :: L) (.ref x :: st) h := G_aload_n f153_99 rfl
theorem f153_100 : fetch 153 100 = some (.getfield 189, 3) := vtab tk153 54 rfl
theorem e153_100 (L : VL) (st : List Value) (h : VG) (a : Nat) (ho : ob h a 11) : ev 153 100 L (.ref a :: st) h = ev 153 103 L (.int (gI h a 12) :: st) h := G_getI (p := 1025) f153_100 lkF_12_189 (by decide) (by decide) ho
theorem f153_103 : fetch 153 103 = some (.ifCond .le 10, 3) := vtab tk153 55 rfl
theorem e153_103 (L : VL) (st : List Value) (h : VG) (x : Int32) : ev 153 103 L (.int x :: st) h = if x ≤ 0 then ev 153 113 L st h else ev 153 106 L st h := G_if_le f153_103 (by decide)
theorem f153_106 : fetch 153 106 = some (.aload_n 0, 1) := vtab tk153 56 rfl
theorem e153_106 (L : VL) (st : List Value) (h : VG) (x : Nat) : ev 153 106 (some (.ref x) :: L) (st) h = ev 153 107 (some (.ref x) :: L) (.ref x :: st) h := G_aload_n f153_106 rfl
theorem f153_107 : fetch 153 107 = some (.getfield 195, 3) := vtab tk153 57 rfl
theorem e153_107 (L : VL) (st : List Value) (h : VG) (a : Nat) (ho : ob h a 11) : ev 153 107 L (.ref a :: st) h = ev 153 110 L (.int (gI h a 13) :: st) h := G_getI (p := 1026) f153_107 lkF_12_195 (by decide) (by decide) ho
theorem f153_110 : fetch 153 110 = some (.goto 18, 3) := vtab tk153 58 rfl
theorem e153_110 (L : VL) (st : List Value) (h : VG) : ev 153 110 L (st) h = ev 153 128 L (st) h := G_goto f153_110 (by decide)
theorem f153_113 : fetch 153 113 = some (.aload_n 0, 1) := vtab tk153 59 rfl
theorem e153_113 (L : VL) (st : List Value) (h : VG) (x : Nat) : ev 153 113 (some (.ref x) :: L) (st) h = ev 153 114 (some (.ref x) :: L) (.ref x :: st) h := G_aload_n f153_113 rfl
theorem f153_114 : fetch 153 114 = some (.getfield 198, 3) := vtab tk153 60 rfl
theorem e153_114 (L : VL) (st : List Value) (h : VG) (a : Nat) (ho : ob h a 11) : ev 153 114 L (.ref a :: st) h = ev 153 117 L (.int (gI h a 14) :: st) h := G_getI (p := 1027) f153_114 lkF_12_198 (by decide) (by decide) ho
theorem f153_117 : fetch 153 117 = some (.ifCond .le 10, 3) := vtab tk153 61 rfl
theorem e153_117 (L : VL) (st : List Value) (h : VG) (x : Int32) : ev 153 117 L (.int x :: st) h = if x ≤ 0 then ev 153 127 L st h else ev 153 120 L st h := G_if_le f153_117 (by decide)
theorem f153_120 : fetch 153 120 = some (.aload_n 0, 1) := vtab tk153 62 rfl
theorem e153_120 (L : VL) (st : List Value) (h : VG) (x : Nat) : ev 153 120 (some (.ref x) :: L) (st) h = ev 153 121 (some (.ref x) :: L) (.ref x :: st) h := G_aload_n f153_120 rfl
theorem f153_121 : fetch 153 121 = some (.getfield 201, 3) := vtab tk153 63 rfl
theorem e153_121 (L : VL) (st : List Value) (h : VG) (a : Nat) (ho : ob h a 11) : ev 153 121 L (.ref a :: st) h = ev 153 124 L (.int (gI h a 15) :: st) h := G_getI (p := 1028) f153_121 lkF_12_201 (by decide) (by decide) ho
theorem f153_124 : fetch 153 124 = some (.goto 4, 3) := vtab tk153 64 rfl
theorem e153_124 (L : VL) (st : List Value) (h : VG) : ev 153 124 L (st) h = ev 153 128 L (st) h := G_goto f153_124 (by decide)
theorem f153_127 : fetch 153 127 = some (.iconst (-1), 1) := vtab tk153 65 rfl
theorem e153_127 (L : VL) (st : List Value) (h : VG) : ev 153 127 L (st) h = ev 153 128 L (.int (-1 : Int32) :: st) h := G_iconst f153_127 (by decide)
theorem f153_128 : fetch 153 128 = some (.putfield 37, 3) := vtab tk153 66 rfl
theorem e153_128 (L : VL) (st : List Value) (h : VG) (a : Nat) (x : Int32) (ho : ob h a 11) : ev 153 128 L (.int x :: .ref a :: st) h = ev 153 131 L (st) (pI h a 16 x) := G_putI (p := 1029) f153_128 lkF_12_37 (by decide) (by decide) (by decide +kernel) ⟨rfl, rfl⟩ ho
theorem f153_131 : fetch 153 131 = some (.aload_n 0, 1) := vtab tk153 67 rfl
theorem e153_131 (L : VL) (st : List Value) (h : VG) (x : Nat) : ev 153 131 (some (.ref x) :: L) (st) h = ev 153 132 (some (.ref x) :: L) (.ref x :: st) h := G_aload_n f153_131 rfl
theorem f153_132 : fetch 153 132 = some (.getfield 189, 3) := vtab tk153 68 rfl
theorem e153_132 (L : VL) (st : List Value) (h : VG) (a : Nat) (ho : ob h a 11) : ev 153 132 L (.ref a :: st) h = ev 153 135 L (.int (gI h a 12) :: st) h := G_getI (p := 1025) f153_132 lkF_12_189 (by decide) (by decide) ho
theorem f153_135 : fetch 153 135 = some (.ifCond .le 8, 3) := vtab tk153 69 rfl
theorem e153_135 (L : VL) (st : List Value) (h : VG) (x : Int32) : ev 153 135 L (.int x :: st) h = if x ≤ 0 then ev 153 143 L st h else ev 153 138 L st h := G_if_le f153_135 (by decide)
theorem f153_138 : fetch 153 138 = some (.aload_n 0, 1) := vtab tk153 70 rfl
theorem e153_138 (L : VL) (st : List Value) (h : VG) (x : Nat) : ev 153 138 (some (.ref x) :: L) (st) h = ev 153 139 (some (.ref x) :: L) (.ref x :: st) h := G_aload_n f153_138 rfl
theorem f153_139 : fetch 153 139 = some (.getfield 189, 3) := vtab tk153 71 rfl
theorem e153_139 (L : VL) (st : List Value) (h : VG) (a : Nat) (ho : ob h a 11) : ev 153 139 L (.ref a :: st) h = ev 153 142 L (.int (gI h a 12) :: st) h := G_getI (p := 1025) f153_139 lkF_12_189 (by decide) (by decide) ho
theorem f153_142 : fetch 153 142 = some (.ireturn, 1) := vtab tk153 72 rfl
theorem e153_142 (L : VL) (h : VG) (x : Int32) : ev 153 142 L [.int x] h = some (some (.int x), h) := G_iret f153_142 (ty := .int) (by decide) rfl
theorem f153_143 : fetch 153 143 = some (.aload_n 0, 1) := vtab tk153 73 rfl
theorem e153_143 (L : VL) (st : List Value) (h : VG) (x : Nat) : ev 153 143 (some (.ref x) :: L) (st) h = ev 153 144 (some (.ref x) :: L) (.ref x :: st) h := G_aload_n f153_143 rfl
theorem f153_144 : fetch 153 144 = some (.getfield 198, 3) := vtab tk153 74 rfl
theorem e153_144 (L : VL) (st : List Value) (h : VG) (a : Nat) (ho : ob h a 11) : ev 153 144 L (.ref a :: st) h = ev 153 147 L (.int (gI h a 14) :: st) h := G_getI (p := 1027) f153_144 lkF_12_198 (by decide) (by decide) ho
theorem f153_147 : fetch 153 147 = some (.ifCond .le 8, 3) := vtab tk153 75 rfl
theorem e153_147 (L : VL) (st : List Value) (h : VG) (x : Int32) : ev 153 147 L (.int x :: st) h = if x ≤ 0 then ev 153 155 L st h else ev 153 150 L st h := G_if_le f153_147 (by decide)
theorem f153_150 : fetch 153 150 = some (.aload_n 0, 1) := vtab tk153 76 rfl
theorem e153_150 (L : VL) (st : List Value) (h : VG) (x : Nat) : ev 153 150 (some (.ref x) :: L) (st) h = ev 153 151 (some (.ref x) :: L) (.ref x :: st) h := G_aload_n f153_150 rfl
theorem f153_151 : fetch 153 151 = some (.getfield 198, 3) := vtab tk153 77 rfl
theorem e153_151 (L : VL) (st : List Value) (h : VG) (a : Nat) (ho : ob h a 11) : ev 153 151 L (.ref a :: st) h = ev 153 154 L (.int (gI h a 14) :: st) h := G_getI (p := 1027) f153_151 lkF_12_198 (by decide) (by decide) ho
theorem f153_154 : fetch 153 154 = some (.ireturn, 1) := vtab tk153 78 rfl
theorem e153_154 (L : VL) (h : VG) (x : Int32) : ev 153 154 L [.int x] h = some (some (.int x), h) := G_iret f153_154 (ty := .int) (by decide) rfl
theorem f153_155 : fetch 153 155 = some (.aload_n 0, 1) := vtab tk153 79 rfl
theorem e153_155 (L : VL) (st : List Value) (h : VG) (x : Nat) : ev 153 155 (some (.ref x) :: L) (st) h = ev 153 156 (some (.ref x) :: L) (.ref x :: st) h := G_aload_n f153_155 rfl
theorem f153_156 : fetch 153 156 = some (.aload_n 0, 1) := vtab tk153 80 rfl
theorem e153_156 (L : VL) (st : List Value) (h : VG) (x : Nat) : ev 153 156 (some (.ref x) :: L) (st) h = ev 153 157 (some (.ref x) :: L) (.ref x :: st) h := G_aload_n f153_156 rfl
theorem f153_157 : fetch 153 157 = some (.getfield 225, 3) := vtab tk153 81 rfl
theorem e153_157 (L : VL) (st : List Value) (h : VG) (a : Nat) (ho : ob h a 11) : ev 153 157 L (.ref a :: st) h = ev 153 160 L (.int (gI h a 24) :: st) h := G_getI (p := 1037) f153_157 lkF_12_225 (by decide) (by decide) ho
theorem f153_160 : fetch 153 160 = some (.putfield 229, 3) := vtab tk153 82 rfl
theorem e153_160 (L : VL) (st : List Value) (h : VG) (a : Nat) (x : Int32) (ho : ob h a 11) (hz : x = 0 ∨ x = 1) : ev 153 160 L (.int x :: .ref a :: st) h = ev 153 163 L (st) (pI h a 17 x) := G_putI (ci := 11) (p := 1030) f153_160 lkF_12_229 (by decide) (by decide) (by decide +kernel) (vbool hz) ho
theorem f153_163 : fetch 153 163 = some (.aload_n 0, 1) := vtab tk153 83 rfl
theorem e153_163 (L : VL) (st : List Value) (h : VG) (x : Nat) : ev 153 163 (some (.ref x) :: L) (st) h = ev 153 164 (some (.ref x) :: L) (.ref x :: st) h := G_aload_n f153_163 rfl
theorem f153_164 : fetch 153 164 = some (.aload_n 0, 1) := vtab tk153 84 rfl
theorem e153_164 (L : VL) (st : List Value) (h : VG) (x : Nat) : ev 153 164 (some (.ref x) :: L) (st) h = ev 153 165 (some (.ref x) :: L) (.ref x :: st) h := G_aload_n f153_164 rfl
theorem f153_165 : fetch 153 165 = some (.getfield 232, 3) := vtab tk153 85 rfl
theorem e153_165 (L : VL) (st : List Value) (h : VG) (a : Nat) (ho : ob h a 11) : ev 153 165 L (.ref a :: st) h = ev 153 168 L (.int (gI h a 25) :: st) h := G_getI (p := 1038) f153_165 lkF_12_232 (by decide) (by decide) ho
theorem f153_168 : fetch 153 168 = some (.putfield 40, 3) := vtab tk153 86 rfl
theorem e153_168 (L : VL) (st : List Value) (h : VG) (a : Nat) (x : Int32) (ho : ob h a 11) : ev 153 168 L (.int x :: .ref a :: st) h = ev 153 171 L (st) (pI h a 18 x) := G_putI (p := 1031) f153_168 lkF_12_40 (by decide) (by decide) (by decide +kernel) ⟨rfl, rfl⟩ ho
theorem f153_171 : fetch 153 171 = some (.aload_n 0, 1) := vtab tk153 87 rfl
theorem e153_171 (L : VL) (st : List Value) (h : VG) (x : Nat) : ev 153 171 (some (.ref x) :: L) (st) h = ev 153 172 (some (.ref x) :: L) (.ref x :: st) h := G_aload_n f153_171 rfl
theorem f153_172 : fetch 153 172 = some (.aload_n 0, 1) := vtab tk153 88 rfl
theorem e153_172 (L : VL) (st : List Value) (h : VG) (x : Nat) : ev 153 172 (some (.ref x) :: L) (st) h = ev 153 173 (some (.ref x) :: L) (.ref x :: st) h := G_aload_n f153_172 rfl
theorem f153_173 : fetch 153 173 = some (.getfield 216, 3) := vtab tk153 89 rfl
theorem e153_173 (L : VL) (st : List Value) (h : VG) (a : Nat) (ho : ob h a 11) : ev 153 173 L (.ref a :: st) h = ev 153 176 L (.int (gI h a 26) :: st) h := G_getI (p := 1039) f153_173 lkF_12_216 (by decide) (by decide) ho
theorem f153_176 : fetch 153 176 = some (.putfield 235, 3) := vtab tk153 90 rfl
theorem e153_176 (L : VL) (st : List Value) (h : VG) (a : Nat) (x : Int32) (ho : ob h a 11) : ev 153 176 L (.int x :: .ref a :: st) h = ev 153 179 L (st) (pI h a 19 x) := G_putI (p := 1032) f153_176 lkF_12_235 (by decide) (by decide) (by decide +kernel) ⟨rfl, rfl⟩ ho
theorem f153_179 : fetch 153 179 = some (.iconst 0, 1) := vtab tk153 91 rfl
theorem e153_179 (L : VL) (st : List Value) (h : VG) : ev 153 179 L (st) h = ev 153 180 L (.int (0 : Int32) :: st) h := G_iconst f153_179 (by decide)
theorem f153_180 : fetch 153 180 = some (.istore_n 1, 1) := vtab tk153 92 rfl
theorem e153_180 (l0 l1 : Option Value) (L : VL) (st : List Value) (h : VG) (x : Int32) : ev 153 180 (l0 :: l1 :: L) (.int x :: st) h = ev 153 181 (vkk l0 :: some (.int x) :: L) (st) h := G_istore_n f153_180 rfl (S1_1 l0 l1 L _)
theorem f153_181 : fetch 153 181 = some (.iload_n 1, 1) := vtab tk153 93 rfl
theorem e153_181 (l0 : Option Value) (L : VL) (st : List Value) (h : VG) (x : Int32) : ev 153 181 (l0 :: some (.int x) :: L) (st) h = ev 153 182 (l0 :: some (.int x) :: L) (.int x :: st) h := G_iload_n f153_181 rfl
theorem f153_182 : fetch 153 182 = some (.bipush 6, 2) := vtab tk153 94 rfl
theorem e153_182 (L : VL) (st : List Value) (h : VG) : ev 153 182 L (st) h = ev 153 184 L (.int (6 : Int32) :: st) h := G_bipush f153_182 (by decide)
theorem f153_184 : fetch 153 184 = some (.if_icmp .ge 21, 3) := vtab tk153 95 rfl
theorem e153_184 (L : VL) (st : List Value) (h : VG) (x y : Int32) : ev 153 184 L (.int y :: .int x :: st) h = if x < y then ev 153 187 L st h else ev 153 205 L st h := G_icmp_ge f153_184 (by decide)
theorem f153_187 : fetch 153 187 = some (.aload_n 0, 1) := vtab tk153 96 rfl
theorem e153_187 (L : VL) (st : List Value) (h : VG) (x : Nat) : ev 153 187 (some (.ref x) :: L) (st) h = ev 153 188 (some (.ref x) :: L) (.ref x :: st) h := G_aload_n f153_187 rfl
theorem f153_188 : fetch 153 188 = some (.getfield 43, 3) := vtab tk153 97 rfl
theorem e153_188 (L : VL) (st : List Value) (h : VG) (a : Nat) (ho : ob h a 11) (hr : isR h a 20) : ev 153 188 L (.ref a :: st) h = ev 153 191 L (.ref (gR h a 20) :: st) h := G_getR (p := 1033) f153_188 lkF_12_43 (by decide) (by decide) ho hr
theorem f153_191 : fetch 153 191 = some (.iload_n 1, 1) := vtab tk153 98 rfl
theorem e153_191 (l0 : Option Value) (L : VL) (st : List Value) (h : VG) (x : Int32) : ev 153 191 (l0 :: some (.int x) :: L) (st) h = ev 153 192 (l0 :: some (.int x) :: L) (.int x :: st) h := G_iload_n f153_191 rfl
theorem f153_192 : fetch 153 192 = some (.aload_n 0, 1) := vtab tk153 99 rfl
theorem e153_192 (L : VL) (st : List Value) (h : VG) (x : Nat) : ev 153 192 (some (.ref x) :: L) (st) h = ev 153 193 (some (.ref x) :: L) (.ref x :: st) h := G_aload_n f153_192 rfl
theorem f153_193 : fetch 153 193 = some (.getfield 55, 3) := vtab tk153 100 rfl
theorem e153_193 (L : VL) (st : List Value) (h : VG) (a : Nat) (ho : ob h a 11) (hr : isR h a 27) : ev 153 193 L (.ref a :: st) h = ev 153 196 L (.ref (gR h a 27) :: st) h := G_getR (p := 1040) f153_193 lkF_12_55 (by decide) (by decide) ho hr
theorem f153_196 : fetch 153 196 = some (.iload_n 1, 1) := vtab tk153 101 rfl
theorem e153_196 (l0 : Option Value) (L : VL) (st : List Value) (h : VG) (x : Int32) : ev 153 196 (l0 :: some (.int x) :: L) (st) h = ev 153 197 (l0 :: some (.int x) :: L) (.int x :: st) h := G_iload_n f153_196 rfl
theorem f153_197 : fetch 153 197 = some (.iaload, 1) := vtab tk153 102 rfl
theorem e153_197 (L : VL) (st : List Value) (h : VG) (a : Nat) (i : Int32) (ha : rdI h a) (hi : vp_in i (aln h a)) : ev 153 197 L (.int i :: .ref a :: st) h = ev 153 198 L (.int (aI h a i.toNatClampNeg) :: st) h := G_iald' f153_197 ha hi
theorem f153_198 : fetch 153 198 = some (.iastore, 1) := vtab tk153 103 rfl
theorem e153_198 (L : VL) (st : List Value) (h : VG) (a : Nat) (i : Int32) (x : Int32) (ha : arI h a 0) (hi : vp_in i (aln h a)) : ev 153 198 L (.int x :: .int i :: .ref a :: st) h = ev 153 199 L (st) (wI h a i.toNatClampNeg x) := G_iast f153_198 ha hi
theorem f153_199 : fetch 153 199 = some (.iinc 1 1, 3) := vtab tk153 104 rfl
theorem e153_199 (l0 : Option Value) (L : VL) (st : List Value) (h : VG) (x : Int32) : ev 153 199 (l0 :: some (.int x) :: L) (st) h = ev 153 202 (vkk l0 :: some (.int (x + (1 : Int32))) :: L) (st) h := G_iinc f153_199 rfl (by decide) (S1_1 l0 (some (.int x)) L _)
theorem f153_202 : fetch 153 202 = some (.goto (-21), 3) := vtab tk153 105 rfl
theorem e153_202 (L : VL) (st : List Value) (h : VG) : ev 153 202 L (st) h = ev 153 181 L (st) h := G_goto f153_202 (by decide)
theorem f153_205 : fetch 153 205 = some (.iconst 0, 1) := vtab tk153 106 rfl
theorem e153_205 (L : VL) (st : List Value) (h : VG) : ev 153 205 L (st) h = ev 153 206 L (.int (0 : Int32) :: st) h := G_iconst f153_205 (by decide)
theorem f153_206 : fetch 153 206 = some (.istore_n 1, 1) := vtab tk153 107 rfl
theorem e153_206 (l0 l1 : Option Value) (L : VL) (st : List Value) (h : VG) (x : Int32) : ev 153 206 (l0 :: l1 :: L) (.int x :: st) h = ev 153 207 (vkk l0 :: some (.int x) :: L) (st) h := G_istore_n f153_206 rfl (S1_1 l0 l1 L _)
theorem f153_207 : fetch 153 207 = some (.iload_n 1, 1) := vtab tk153 108 rfl
theorem e153_207 (l0 : Option Value) (L : VL) (st : List Value) (h : VG) (x : Int32) : ev 153 207 (l0 :: some (.int x) :: L) (st) h = ev 153 208 (l0 :: some (.int x) :: L) (.int x :: st) h := G_iload_n f153_207 rfl
theorem f153_208 : fetch 153 208 = some (.bipush 48, 2) := vtab tk153 109 rfl
theorem e153_208 (L : VL) (st : List Value) (h : VG) : ev 153 208 L (st) h = ev 153 210 L (.int (48 : Int32) :: st) h := G_bipush f153_208 (by decide)
theorem f153_210 : fetch 153 210 = some (.if_icmp .ge 33, 3) := vtab tk153 110 rfl
theorem e153_210 (L : VL) (st : List Value) (h : VG) (x y : Int32) : ev 153 210 L (.int y :: .int x :: st) h = if x < y then ev 153 213 L st h else ev 153 243 L st h := G_icmp_ge f153_210 (by decide)
theorem f153_213 : fetch 153 213 = some (.aload_n 0, 1) := vtab tk153 111 rfl
theorem e153_213 (L : VL) (st : List Value) (h : VG) (x : Nat) : ev 153 213 (some (.ref x) :: L) (st) h = ev 153 214 (some (.ref x) :: L) (.ref x :: st) h := G_aload_n f153_213 rfl
theorem f153_214 : fetch 153 214 = some (.getfield 46, 3) := vtab tk153 112 rfl
theorem e153_214 (L : VL) (st : List Value) (h : VG) (a : Nat) (ho : ob h a 11) (hr : isR h a 21) : ev 153 214 L (.ref a :: st) h = ev 153 217 L (.ref (gR h a 21) :: st) h := G_getR (p := 1034) f153_214 lkF_12_46 (by decide) (by decide) ho hr
theorem f153_217 : fetch 153 217 = some (.iload_n 1, 1) := vtab tk153 113 rfl
theorem e153_217 (l0 : Option Value) (L : VL) (st : List Value) (h : VG) (x : Int32) : ev 153 217 (l0 :: some (.int x) :: L) (st) h = ev 153 218 (l0 :: some (.int x) :: L) (.int x :: st) h := G_iload_n f153_217 rfl
theorem f153_218 : fetch 153 218 = some (.aload_n 0, 1) := vtab tk153 114 rfl
theorem e153_218 (L : VL) (st : List Value) (h : VG) (x : Nat) : ev 153 218 (some (.ref x) :: L) (st) h = ev 153 219 (some (.ref x) :: L) (.ref x :: st) h := G_aload_n f153_218 rfl
theorem f153_219 : fetch 153 219 = some (.getfield 58, 3) := vtab tk153 115 rfl
theorem e153_219 (L : VL) (st : List Value) (h : VG) (a : Nat) (ho : ob h a 11) (hr : isR h a 28) : ev 153 219 L (.ref a :: st) h = ev 153 222 L (.ref (gR h a 28) :: st) h := G_getR (p := 1041) f153_219 lkF_12_58 (by decide) (by decide) ho hr
theorem f153_222 : fetch 153 222 = some (.iload_n 1, 1) := vtab tk153 116 rfl
theorem e153_222 (l0 : Option Value) (L : VL) (st : List Value) (h : VG) (x : Int32) : ev 153 222 (l0 :: some (.int x) :: L) (st) h = ev 153 223 (l0 :: some (.int x) :: L) (.int x :: st) h := G_iload_n f153_222 rfl
theorem f153_223 : fetch 153 223 = some (.iaload, 1) := vtab tk153 117 rfl
theorem e153_223 (L : VL) (st : List Value) (h : VG) (a : Nat) (i : Int32) (ha : rdI h a) (hi : vp_in i (aln h a)) : ev 153 223 L (.int i :: .ref a :: st) h = ev 153 224 L (.int (aI h a i.toNatClampNeg) :: st) h := G_iald' f153_223 ha hi
theorem f153_224 : fetch 153 224 = some (.iastore, 1) := vtab tk153 118 rfl
theorem e153_224 (L : VL) (st : List Value) (h : VG) (a : Nat) (i : Int32) (x : Int32) (ha : arI h a 0) (hi : vp_in i (aln h a)) : ev 153 224 L (.int x :: .int i :: .ref a :: st) h = ev 153 225 L (st) (wI h a i.toNatClampNeg x) := G_iast f153_224 ha hi
theorem f153_225 : fetch 153 225 = some (.aload_n 0, 1) := vtab tk153 119 rfl
theorem e153_225 (L : VL) (st : List Value) (h : VG) (x : Nat) : ev 153 225 (some (.ref x) :: L) (st) h = ev 153 226 (some (.ref x) :: L) (.ref x :: st) h := G_aload_n f153_225 rfl
theorem f153_226 : fetch 153 226 = some (.getfield 49, 3) := vtab tk153 120 rfl
theorem e153_226 (L : VL) (st : List Value) (h : VG) (a : Nat) (ho : ob h a 11) (hr : isR h a 22) : ev 153 226 L (.ref a :: st) h = ev 153 229 L (.ref (gR h a 22) :: st) h := G_getR (p := 1035) f153_226 lkF_12_49 (by decide) (by decide) ho hr
theorem f153_229 : fetch 153 229 = some (.iload_n 1, 1) := vtab tk153 121 rfl
theorem e153_229 (l0 : Option Value) (L : VL) (st : List Value) (h : VG) (x : Int32) : ev 153 229 (l0 :: some (.int x) :: L) (st) h = ev 153 230 (l0 :: some (.int x) :: L) (.int x :: st) h := G_iload_n f153_229 rfl
theorem f153_230 : fetch 153 230 = some (.aload_n 0, 1) := vtab tk153 122 rfl
theorem e153_230 (L : VL) (st : List Value) (h : VG) (x : Nat) : ev 153 230 (some (.ref x) :: L) (st) h = ev 153 231 (some (.ref x) :: L) (.ref x :: st) h := G_aload_n f153_230 rfl
theorem f153_231 : fetch 153 231 = some (.getfield 61, 3) := vtab tk153 123 rfl
theorem e153_231 (L : VL) (st : List Value) (h : VG) (a : Nat) (ho : ob h a 11) (hr : isR h a 29) : ev 153 231 L (.ref a :: st) h = ev 153 234 L (.ref (gR h a 29) :: st) h := G_getR (p := 1042) f153_231 lkF_12_61 (by decide) (by decide) ho hr
theorem f153_234 : fetch 153 234 = some (.iload_n 1, 1) := vtab tk153 124 rfl
theorem e153_234 (l0 : Option Value) (L : VL) (st : List Value) (h : VG) (x : Int32) : ev 153 234 (l0 :: some (.int x) :: L) (st) h = ev 153 235 (l0 :: some (.int x) :: L) (.int x :: st) h := G_iload_n f153_234 rfl
theorem f153_235 : fetch 153 235 = some (.iaload, 1) := vtab tk153 125 rfl
theorem e153_235 (L : VL) (st : List Value) (h : VG) (a : Nat) (i : Int32) (ha : rdI h a) (hi : vp_in i (aln h a)) : ev 153 235 L (.int i :: .ref a :: st) h = ev 153 236 L (.int (aI h a i.toNatClampNeg) :: st) h := G_iald' f153_235 ha hi
theorem f153_236 : fetch 153 236 = some (.iastore, 1) := vtab tk153 126 rfl
theorem e153_236 (L : VL) (st : List Value) (h : VG) (a : Nat) (i : Int32) (x : Int32) (ha : arI h a 0) (hi : vp_in i (aln h a)) : ev 153 236 L (.int x :: .int i :: .ref a :: st) h = ev 153 237 L (st) (wI h a i.toNatClampNeg x) := G_iast f153_236 ha hi
theorem f153_237 : fetch 153 237 = some (.iinc 1 1, 3) := vtab tk153 127 rfl
theorem e153_237 (l0 : Option Value) (L : VL) (st : List Value) (h : VG) (x : Int32) : ev 153 237 (l0 :: some (.int x) :: L) (st) h = ev 153 240 (vkk l0 :: some (.int (x + (1 : Int32))) :: L) (st) h := G_iinc f153_237 rfl (by decide) (S1_1 l0 (some (.int x)) L _)
theorem f153_240 : fetch 153 240 = some (.goto (-33), 3) := vtab tk153 128 rfl
theorem e153_240 (L : VL) (st : List Value) (h : VG) : ev 153 240 L (st) h = ev 153 207 L (st) h := G_goto f153_240 (by decide)
theorem f153_243 : fetch 153 243 = some (.iconst 0, 1) := vtab tk153 129 rfl
theorem e153_243 (L : VL) (st : List Value) (h : VG) : ev 153 243 L (st) h = ev 153 244 L (.int (0 : Int32) :: st) h := G_iconst f153_243 (by decide)
theorem f153_244 : fetch 153 244 = some (.istore_n 1, 1) := vtab tk153 130 rfl
theorem e153_244 (l0 l1 : Option Value) (L : VL) (st : List Value) (h : VG) (x : Int32) : ev 153 244 (l0 :: l1 :: L) (.int x :: st) h = ev 153 245 (vkk l0 :: some (.int x) :: L) (st) h := G_istore_n f153_244 rfl (S1_1 l0 l1 L _)
theorem f153_245 : fetch 153 245 = some (.iload_n 1, 1) := vtab tk153 131 rfl
theorem e153_245 (l0 : Option Value) (L : VL) (st : List Value) (h : VG) (x : Int32) : ev 153 245 (l0 :: some (.int x) :: L) (st) h = ev 153 246 (l0 :: some (.int x) :: L) (.int x :: st) h := G_iload_n f153_245 rfl
theorem f153_246 : fetch 153 246 = some (.sipush 256, 3) := vtab tk153 132 rfl
theorem e153_246 (L : VL) (st : List Value) (h : VG) : ev 153 246 L (st) h = ev 153 249 L (.int (256 : Int32) :: st) h := G_sipush f153_246 (by decide)
theorem f153_249 : fetch 153 249 = some (.if_icmp .ge 21, 3) := vtab tk153 133 rfl
theorem e153_249 (L : VL) (st : List Value) (h : VG) (x y : Int32) : ev 153 249 L (.int y :: .int x :: st) h = if x < y then ev 153 252 L st h else ev 153 270 L st h := G_icmp_ge f153_249 (by decide)
theorem f153_252 : fetch 153 252 = some (.aload_n 0, 1) := vtab tk153 134 rfl
theorem e153_252 (L : VL) (st : List Value) (h : VG) (x : Nat) : ev 153 252 (some (.ref x) :: L) (st) h = ev 153 253 (some (.ref x) :: L) (.ref x :: st) h := G_aload_n f153_252 rfl
theorem f153_253 : fetch 153 253 = some (.getfield 52, 3) := vtab tk153 135 rfl
theorem e153_253 (L : VL) (st : List Value) (h : VG) (a : Nat) (ho : ob h a 11) (hr : isR h a 23) : ev 153 253 L (.ref a :: st) h = ev 153 256 L (.ref (gR h a 23) :: st) h := G_getR (p := 1036) f153_253 lkF_12_52 (by decide) (by decide) ho hr
theorem f153_256 : fetch 153 256 = some (.iload_n 1, 1) := vtab tk153 136 rfl
theorem e153_256 (l0 : Option Value) (L : VL) (st : List Value) (h : VG) (x : Int32) : ev 153 256 (l0 :: some (.int x) :: L) (st) h = ev 153 257 (l0 :: some (.int x) :: L) (.int x :: st) h := G_iload_n f153_256 rfl
theorem f153_257 : fetch 153 257 = some (.aload_n 0, 1) := vtab tk153 137 rfl
theorem e153_257 (L : VL) (st : List Value) (h : VG) (x : Nat) : ev 153 257 (some (.ref x) :: L) (st) h = ev 153 258 (some (.ref x) :: L) (.ref x :: st) h := G_aload_n f153_257 rfl
theorem f153_258 : fetch 153 258 = some (.getfield 64, 3) := vtab tk153 138 rfl
theorem e153_258 (L : VL) (st : List Value) (h : VG) (a : Nat) (ho : ob h a 11) (hr : isR h a 30) : ev 153 258 L (.ref a :: st) h = ev 153 261 L (.ref (gR h a 30) :: st) h := G_getR (p := 1043) f153_258 lkF_12_64 (by decide) (by decide) ho hr
theorem f153_261 : fetch 153 261 = some (.iload_n 1, 1) := vtab tk153 139 rfl
theorem e153_261 (l0 : Option Value) (L : VL) (st : List Value) (h : VG) (x : Int32) : ev 153 261 (l0 :: some (.int x) :: L) (st) h = ev 153 262 (l0 :: some (.int x) :: L) (.int x :: st) h := G_iload_n f153_261 rfl
theorem f153_262 : fetch 153 262 = some (.iaload, 1) := vtab tk153 140 rfl
theorem e153_262 (L : VL) (st : List Value) (h : VG) (a : Nat) (i : Int32) (ha : rdI h a) (hi : vp_in i (aln h a)) : ev 153 262 L (.int i :: .ref a :: st) h = ev 153 263 L (.int (aI h a i.toNatClampNeg) :: st) h := G_iald' f153_262 ha hi
theorem f153_263 : fetch 153 263 = some (.iastore, 1) := vtab tk153 141 rfl
theorem e153_263 (L : VL) (st : List Value) (h : VG) (a : Nat) (i : Int32) (x : Int32) (ha : arI h a 0) (hi : vp_in i (aln h a)) : ev 153 263 L (.int x :: .int i :: .ref a :: st) h = ev 153 264 L (st) (wI h a i.toNatClampNeg x) := G_iast f153_263 ha hi
theorem f153_264 : fetch 153 264 = some (.iinc 1 1, 3) := vtab tk153 142 rfl
theorem e153_264 (l0 : Option Value) (L : VL) (st : List Value) (h : VG) (x : Int32) : ev 153 264 (l0 :: some (.int x) :: L) (st) h = ev 153 267 (vkk l0 :: some (.int (x + (1 : Int32))) :: L) (st) h := G_iinc f153_264 rfl (by decide) (S1_1 l0 (some (.int x)) L _)
theorem f153_267 : fetch 153 267 = some (.goto (-22), 3) := vtab tk153 143 rfl
theorem e153_267 (L : VL) (st : List Value) (h : VG) : ev 153 267 L (st) h = ev 153 245 L (st) h := G_goto f153_267 (by decide)
theorem f153_270 : fetch 153 270 = some (.aload_n 0, 1) := vtab tk153 144 rfl
theorem e153_270 (L : VL) (st : List Value) (h : VG) (x : Nat) : ev 153 270 (some (.ref x) :: L) (st) h = ev 153 271 (some (.ref x) :: L) (.ref x :: st) h := G_aload_n f153_270 rfl
theorem f153_271 : fetch 153 271 = some (.invokevirtual 238, 3) := vtab tk153 145 rfl
theorem e153_271 (L : VL) (st : List Value) (h : VG) (b : Nat)  (ho : ob h b 11) (hs : catS st ≤ 8) : ev 153 271 L (.ref b :: st) h = (ev 154 0 [some (.ref b), none] [] h).bind fun q => ev 153 274 L (q.1.toList ++ st) q.2 := G_callv (k := 1) (p := 1301) (ars := []) f153_271 lkC_12_238 (by decide) (by decide +kernel) rfl (vcls_ob (ci := 11) (by decide) ho) (Nat.le_of_ble_eq_true rfl) hs rfl
theorem f153_274 : fetch 153 274 = some (.iconst 0, 1) := vtab tk153 146 rfl
theorem e153_274 (L : VL) (st : List Value) (h : VG) : ev 153 274 L (st) h = ev 153 275 L (.int (0 : Int32) :: st) h := G_iconst f153_274 (by decide)
theorem f153_275 : fetch 153 275 = some (.ireturn, 1) := vtab tk153 147 rfl
theorem e153_275 (L : VL) (h : VG) (x : Int32) : ev 153 275 L [.int x] h = some (some (.int x), h) := G_iret f153_275 (ty := .int) (by decide) rfl
/-! 154 GuestCallsModel.startsAnew()V -/
def tb154 : List (Nat × Instr × Nat) := [(0, .iconst 0, 1), (1, .istore_n 1, 1), (2, .iload_n 1, 1), (3, .bipush 8, 2), (5, .if_icmp .ge 31, 3), (8, .aload_n 0, 1), (9, .getfield 76, 3), (12, .iload_n 1, 1), (13, .bipush 11, 2), (15, .iastore, 1), (16, .aload_n 0, 1), (17, .getfield 79, 3), (20, .iload_n 1, 1), (21, .iconst 0, 1), (22, .iastore, 1), (23, .aload_n 0, 1), (24, .getfield 117, 3), (27, .iload_n 1, 1), (28, .lconst 0, 1), (29, .lastore, 1), (30, .iinc 1 1, 3), (33, .goto (-31), 3), (36, .aload_n 0, 1), (37, .iconst 0, 1), (38, .putfield 241, 3), (41, .aload_n 0, 1), (42, .iconst 0, 1), (43, .putfield 244, 3), (46, .aload_n 0, 1), (47, .iconst 0, 1), (48, .putfield 247, 3), (51, .aload_n 0, 1), (52, .getfield 120, 3), (55, .iconst 0, 1), (56, .iconst 0, 1), (57, .bastore, 1), (58, .aload_n 0, 1), (59, .getfield 120, 3), (62, .iconst 1, 1), (63, .iconst 0, 1), (64, .bastore, 1), (65, .return_, 1)]
theorem tk154 : tb154.all (fun q => decide (fetch 154 q.1 = some q.2)) = true := by decide +kernel
theorem f154_0 : fetch 154 0 = some (.iconst 0, 1) := vtab tk154 0 rfl
theorem e154_0 (L : VL) (st : List Value) (h : VG) : ev 154 0 L (st) h = ev 154 1 L (.int (0 : Int32) :: st) h := G_iconst f154_0 (by decide)
theorem f154_1 : fetch 154 1 = some (.istore_n 1, 1) := vtab tk154 1 rfl
theorem e154_1 (l0 l1 : Option Value) (L : VL) (st : List Value) (h : VG) (x : Int32) : ev 154 1 (l0 :: l1 :: L) (.int x :: st) h = ev 154 2 (vkk l0 :: some (.int x) :: L) (st) h := G_istore_n f154_1 rfl (S1_1 l0 l1 L _)
theorem f154_2 : fetch 154 2 = some (.iload_n 1, 1) := vtab tk154 2 rfl
theorem e154_2 (l0 : Option Value) (L : VL) (st : List Value) (h : VG) (x : Int32) : ev 154 2 (l0 :: some (.int x) :: L) (st) h = ev 154 3 (l0 :: some (.int x) :: L) (.int x :: st) h := G_iload_n f154_2 rfl
theorem f154_3 : fetch 154 3 = some (.bipush 8, 2) := vtab tk154 3 rfl
theorem e154_3 (L : VL) (st : List Value) (h : VG) : ev 154 3 L (st) h = ev 154 5 L (.int (8 : Int32) :: st) h := G_bipush f154_3 (by decide)
theorem f154_5 : fetch 154 5 = some (.if_icmp .ge 31, 3) := vtab tk154 4 rfl
theorem e154_5 (L : VL) (st : List Value) (h : VG) (x y : Int32) : ev 154 5 L (.int y :: .int x :: st) h = if x < y then ev 154 8 L st h else ev 154 36 L st h := G_icmp_ge f154_5 (by decide)
theorem f154_8 : fetch 154 8 = some (.aload_n 0, 1) := vtab tk154 5 rfl
theorem e154_8 (L : VL) (st : List Value) (h : VG) (x : Nat) : ev 154 8 (some (.ref x) :: L) (st) h = ev 154 9 (some (.ref x) :: L) (.ref x :: st) h := G_aload_n f154_8 rfl
theorem f154_9 : fetch 154 9 = some (.getfield 76, 3) := vtab tk154 6 rfl
theorem e154_9 (L : VL) (st : List Value) (h : VG) (a : Nat) (ho : ob h a 11) (hr : isR h a 42) : ev 154 9 L (.ref a :: st) h = ev 154 12 L (.ref (gR h a 42) :: st) h := G_getR (p := 1055) f154_9 lkF_12_76 (by decide) (by decide) ho hr
theorem f154_12 : fetch 154 12 = some (.iload_n 1, 1) := vtab tk154 7 rfl
theorem e154_12 (l0 : Option Value) (L : VL) (st : List Value) (h : VG) (x : Int32) : ev 154 12 (l0 :: some (.int x) :: L) (st) h = ev 154 13 (l0 :: some (.int x) :: L) (.int x :: st) h := G_iload_n f154_12 rfl
theorem f154_13 : fetch 154 13 = some (.bipush 11, 2) := vtab tk154 8 rfl
theorem e154_13 (L : VL) (st : List Value) (h : VG) : ev 154 13 L (st) h = ev 154 15 L (.int (11 : Int32) :: st) h := G_bipush f154_13 (by decide)
theorem f154_15 : fetch 154 15 = some (.iastore, 1) := vtab tk154 9 rfl
theorem e154_15 (L : VL) (st : List Value) (h : VG) (a : Nat) (i : Int32) (x : Int32) (ha : arI h a 0) (hi : vp_in i (aln h a)) : ev 154 15 L (.int x :: .int i :: .ref a :: st) h = ev 154 16 L (st) (wI h a i.toNatClampNeg x) := G_iast f154_15 ha hi
theorem f154_16 : fetch 154 16 = some (.aload_n 0, 1) := vtab tk154 10 rfl
theorem e154_16 (L : VL) (st : List Value) (h : VG) (x : Nat) : ev 154 16 (some (.ref x) :: L) (st) h = ev 154 17 (some (.ref x) :: L) (.ref x :: st) h := G_aload_n f154_16 rfl
theorem f154_17 : fetch 154 17 = some (.getfield 79, 3) := vtab tk154 11 rfl
theorem e154_17 (L : VL) (st : List Value) (h : VG) (a : Nat) (ho : ob h a 11) (hr : isR h a 43) : ev 154 17 L (.ref a :: st) h = ev 154 20 L (.ref (gR h a 43) :: st) h := G_getR (p := 1056) f154_17 lkF_12_79 (by decide) (by decide) ho hr
theorem f154_20 : fetch 154 20 = some (.iload_n 1, 1) := vtab tk154 12 rfl
theorem e154_20 (l0 : Option Value) (L : VL) (st : List Value) (h : VG) (x : Int32) : ev 154 20 (l0 :: some (.int x) :: L) (st) h = ev 154 21 (l0 :: some (.int x) :: L) (.int x :: st) h := G_iload_n f154_20 rfl
theorem f154_21 : fetch 154 21 = some (.iconst 0, 1) := vtab tk154 13 rfl
theorem e154_21 (L : VL) (st : List Value) (h : VG) : ev 154 21 L (st) h = ev 154 22 L (.int (0 : Int32) :: st) h := G_iconst f154_21 (by decide)
theorem f154_22 : fetch 154 22 = some (.iastore, 1) := vtab tk154 14 rfl
theorem e154_22 (L : VL) (st : List Value) (h : VG) (a : Nat) (i : Int32) (x : Int32) (ha : arI h a 0) (hi : vp_in i (aln h a)) : ev 154 22 L (.int x :: .int i :: .ref a :: st) h = ev 154 23 L (st) (wI h a i.toNatClampNeg x) := G_iast f154_22 ha hi
theorem f154_23 : fetch 154 23 = some (.aload_n 0, 1) := vtab tk154 15 rfl
theorem e154_23 (L : VL) (st : List Value) (h : VG) (x : Nat) : ev 154 23 (some (.ref x) :: L) (st) h = ev 154 24 (some (.ref x) :: L) (.ref x :: st) h := G_aload_n f154_23 rfl
theorem f154_24 : fetch 154 24 = some (.getfield 117, 3) := vtab tk154 16 rfl
theorem e154_24 (L : VL) (st : List Value) (h : VG) (a : Nat) (ho : ob h a 11) (hr : isR h a 56) : ev 154 24 L (.ref a :: st) h = ev 154 27 L (.ref (gR h a 56) :: st) h := G_getR (p := 1069) f154_24 lkF_12_117 (by decide) (by decide) ho hr
theorem f154_27 : fetch 154 27 = some (.iload_n 1, 1) := vtab tk154 17 rfl
theorem e154_27 (l0 : Option Value) (L : VL) (st : List Value) (h : VG) (x : Int32) : ev 154 27 (l0 :: some (.int x) :: L) (st) h = ev 154 28 (l0 :: some (.int x) :: L) (.int x :: st) h := G_iload_n f154_27 rfl
theorem f154_28 : fetch 154 28 = some (.lconst 0, 1) := vtab tk154 18 rfl
theorem e154_28 (L : VL) (st : List Value) (h : VG) : ev 154 28 L (st) h = ev 154 29 L (.long 0 :: st) h := G_lconst f154_28 (by decide)
theorem f154_29 : fetch 154 29 = some (.lastore, 1) := vtab tk154 19 rfl
theorem e154_29 (L : VL) (st : List Value) (h : VG) (a : Nat) (i : Int32) (x : Int64) (ha : arL h a) (hi : vp_in i (aln h a)) : ev 154 29 L (.long x :: .int i :: .ref a :: st) h = ev 154 30 L (st) (wL h a i.toNatClampNeg x) := G_last f154_29 ha hi
theorem f154_30 : fetch 154 30 = some (.iinc 1 1, 3) := vtab tk154 20 rfl
theorem e154_30 (l0 : Option Value) (L : VL) (st : List Value) (h : VG) (x : Int32) : ev 154 30 (l0 :: some (.int x) :: L) (st) h = ev 154 33 (vkk l0 :: some (.int (x + (1 : Int32))) :: L) (st) h := G_iinc f154_30 rfl (by decide) (S1_1 l0 (some (.int x)) L _)
theorem f154_33 : fetch 154 33 = some (.goto (-31), 3) := vtab tk154 21 rfl
theorem e154_33 (L : VL) (st : List Value) (h : VG) : ev 154 33 L (st) h = ev 154 2 L (st) h := G_goto f154_33 (by decide)
theorem f154_36 : fetch 154 36 = some (.aload_n 0, 1) := vtab tk154 22 rfl
theorem e154_36 (L : VL) (st : List Value) (h : VG) (x : Nat) : ev 154 36 (some (.ref x) :: L) (st) h = ev 154 37 (some (.ref x) :: L) (.ref x :: st) h := G_aload_n f154_36 rfl
theorem f154_37 : fetch 154 37 = some (.iconst 0, 1) := vtab tk154 23 rfl
theorem e154_37 (L : VL) (st : List Value) (h : VG) : ev 154 37 L (st) h = ev 154 38 L (.int (0 : Int32) :: st) h := G_iconst f154_37 (by decide)
theorem f154_38 : fetch 154 38 = some (.putfield 241, 3) := vtab tk154 24 rfl
theorem e154_38 (L : VL) (st : List Value) (h : VG) (a : Nat) (x : Int32) (ho : ob h a 11) : ev 154 38 L (.int x :: .ref a :: st) h = ev 154 41 L (st) (pI h a 57 x) := G_putI (p := 1070) f154_38 lkF_12_241 (by decide) (by decide) (by decide +kernel) ⟨rfl, rfl⟩ ho
theorem f154_41 : fetch 154 41 = some (.aload_n 0, 1) := vtab tk154 25 rfl
theorem e154_41 (L : VL) (st : List Value) (h : VG) (x : Nat) : ev 154 41 (some (.ref x) :: L) (st) h = ev 154 42 (some (.ref x) :: L) (.ref x :: st) h := G_aload_n f154_41 rfl
theorem f154_42 : fetch 154 42 = some (.iconst 0, 1) := vtab tk154 26 rfl
theorem e154_42 (L : VL) (st : List Value) (h : VG) : ev 154 42 L (st) h = ev 154 43 L (.int (0 : Int32) :: st) h := G_iconst f154_42 (by decide)
theorem f154_43 : fetch 154 43 = some (.putfield 244, 3) := vtab tk154 27 rfl
theorem e154_43 (L : VL) (st : List Value) (h : VG) (a : Nat) (x : Int32) (ho : ob h a 11) : ev 154 43 L (.int x :: .ref a :: st) h = ev 154 46 L (st) (pI h a 31 x) := G_putI (p := 1044) f154_43 lkF_12_244 (by decide) (by decide) (by decide +kernel) ⟨rfl, rfl⟩ ho
theorem f154_46 : fetch 154 46 = some (.aload_n 0, 1) := vtab tk154 28 rfl
theorem e154_46 (L : VL) (st : List Value) (h : VG) (x : Nat) : ev 154 46 (some (.ref x) :: L) (st) h = ev 154 47 (some (.ref x) :: L) (.ref x :: st) h := G_aload_n f154_46 rfl
theorem f154_47 : fetch 154 47 = some (.iconst 0, 1) := vtab tk154 29 rfl
theorem e154_47 (L : VL) (st : List Value) (h : VG) : ev 154 47 L (st) h = ev 154 48 L (.int (0 : Int32) :: st) h := G_iconst f154_47 (by decide)
theorem f154_48 : fetch 154 48 = some (.putfield 247, 3) := vtab tk154 30 rfl
theorem e154_48 (L : VL) (st : List Value) (h : VG) (a : Nat) (x : Int32) (ho : ob h a 11) : ev 154 48 L (.int x :: .ref a :: st) h = ev 154 51 L (st) (pI h a 32 x) := G_putI (p := 1045) f154_48 lkF_12_247 (by decide) (by decide) (by decide +kernel) ⟨rfl, rfl⟩ ho
theorem f154_51 : fetch 154 51 = some (.aload_n 0, 1) := vtab tk154 31 rfl
theorem e154_51 (L : VL) (st : List Value) (h : VG) (x : Nat) : ev 154 51 (some (.ref x) :: L) (st) h = ev 154 52 (some (.ref x) :: L) (.ref x :: st) h := G_aload_n f154_51 rfl
theorem f154_52 : fetch 154 52 = some (.getfield 120, 3) := vtab tk154 32 rfl
theorem e154_52 (L : VL) (st : List Value) (h : VG) (a : Nat) (ho : ob h a 11) (hr : isR h a 58) : ev 154 52 L (.ref a :: st) h = ev 154 55 L (.ref (gR h a 58) :: st) h := G_getR (p := 1071) f154_52 lkF_12_120 (by decide) (by decide) ho hr
theorem f154_55 : fetch 154 55 = some (.iconst 0, 1) := vtab tk154 33 rfl
theorem e154_55 (L : VL) (st : List Value) (h : VG) : ev 154 55 L (st) h = ev 154 56 L (.int (0 : Int32) :: st) h := G_iconst f154_55 (by decide)
theorem f154_56 : fetch 154 56 = some (.iconst 0, 1) := vtab tk154 34 rfl
theorem e154_56 (L : VL) (st : List Value) (h : VG) : ev 154 56 L (st) h = ev 154 57 L (.int (0 : Int32) :: st) h := G_iconst f154_56 (by decide)
theorem f154_57 : fetch 154 57 = some (.bastore, 1) := vtab tk154 35 rfl
theorem e154_57 (L : VL) (st : List Value) (h : VG) (a : Nat) (i : Int32) (x : Int32) (ha : arI h a 2) (hi : vp_in i (aln h a)) : ev 154 57 L (.int x :: .int i :: .ref a :: st) h = ev 154 58 L (st) (wI h a i.toNatClampNeg (vp_nar .byte x)) := G_bast f154_57 ha hi
theorem e154_57z (L : VL) (st : List Value) (h : VG) (a : Nat) (i : Int32) (x : Int32) (ha : arI h a 3) (hi : vp_in i (aln h a)) : ev 154 57 L (.int x :: .int i :: .ref a :: st) h = ev 154 58 L (st) (wI h a i.toNatClampNeg (vp_nar .boolean x)) := G_zast f154_57 ha hi
theorem f154_58 : fetch 154 58 = some (.aload_n 0, 1) := vtab tk154 36 rfl
theorem e154_58 (L : VL) (st : List Value) (h : VG) (x : Nat) : ev 154 58 (some (.ref x) :: L) (st) h = ev 154 59 (some (.ref x) :: L) (.ref x :: st) h := G_aload_n f154_58 rfl
theorem f154_59 : fetch 154 59 = some (.getfield 120, 3) := vtab tk154 37 rfl
theorem e154_59 (L : VL) (st : List Value) (h : VG) (a : Nat) (ho : ob h a 11) (hr : isR h a 58) : ev 154 59 L (.ref a :: st) h = ev 154 62 L (.ref (gR h a 58) :: st) h := G_getR (p := 1071) f154_59 lkF_12_120 (by decide) (by decide) ho hr
theorem f154_62 : fetch 154 62 = some (.iconst 1, 1) := vtab tk154 38 rfl
theorem e154_62 (L : VL) (st : List Value) (h : VG) : ev 154 62 L (st) h = ev 154 63 L (.int (1 : Int32) :: st) h := G_iconst f154_62 (by decide)
theorem f154_63 : fetch 154 63 = some (.iconst 0, 1) := vtab tk154 39 rfl
theorem e154_63 (L : VL) (st : List Value) (h : VG) : ev 154 63 L (st) h = ev 154 64 L (.int (0 : Int32) :: st) h := G_iconst f154_63 (by decide)
theorem f154_64 : fetch 154 64 = some (.bastore, 1) := vtab tk154 40 rfl
theorem e154_64 (L : VL) (st : List Value) (h : VG) (a : Nat) (i : Int32) (x : Int32) (ha : arI h a 2) (hi : vp_in i (aln h a)) : ev 154 64 L (.int x :: .int i :: .ref a :: st) h = ev 154 65 L (st) (wI h a i.toNatClampNeg (vp_nar .byte x)) := G_bast f154_64 ha hi
theorem e154_64z (L : VL) (st : List Value) (h : VG) (a : Nat) (i : Int32) (x : Int32) (ha : arI h a 3) (hi : vp_in i (aln h a)) : ev 154 64 L (.int x :: .int i :: .ref a :: st) h = ev 154 65 L (st) (wI h a i.toNatClampNeg (vp_nar .boolean x)) := G_zast f154_64 ha hi
theorem f154_65 : fetch 154 65 = some (.return_, 1) := vtab tk154 41 rfl
theorem e154_65 (L : VL) (h : VG) : ev 154 65 L [] h = some (none, h) := G_vret f154_65 (by decide)
/-! 155 GuestCallsModel.place()I -/
def tb155 : List (Nat × Instr × Nat) := [(0, .aload_n 0, 1), (1, .getfield 37, 3), (4, .ireturn, 1)]
theorem tk155 : tb155.all (fun q => decide (fetch 155 q.1 = some q.2)) = true := by decide +kernel
theorem f155_0 : fetch 155 0 = some (.aload_n 0, 1) := vtab tk155 0 rfl
theorem e155_0 (L : VL) (st : List Value) (h : VG) (x : Nat) : ev 155 0 (some (.ref x) :: L) (st) h = ev 155 1 (some (.ref x) :: L) (.ref x :: st) h := G_aload_n f155_0 rfl
theorem f155_1 : fetch 155 1 = some (.getfield 37, 3) := vtab tk155 1 rfl
theorem e155_1 (L : VL) (st : List Value) (h : VG) (a : Nat) (ho : ob h a 11) : ev 155 1 L (.ref a :: st) h = ev 155 4 L (.int (gI h a 16) :: st) h := G_getI (p := 1029) f155_1 lkF_12_37 (by decide) (by decide) ho
theorem f155_4 : fetch 155 4 = some (.ireturn, 1) := vtab tk155 2 rfl
theorem e155_4 (L : VL) (h : VG) (x : Int32) : ev 155 4 L [.int x] h = some (some (.int x), h) := G_iret f155_4 (ty := .int) (by decide) rfl
/-! 156 GuestCallsModel.isKind()Z -/
def tb156 : List (Nat × Instr × Nat) := [(0, .aload_n 0, 1), (1, .getfield 189, 3), (4, .ifCond .ne 35, 3), (7, .aload_n 0, 1), (8, .getfield 20, 3), (11, .aload_n 0, 1), (12, .getfield 192, 3), (15, .iaload, 1), (16, .bipush 24, 2), (18, .if_icmp .lt 21, 3), (21, .aload_n 0, 1), (22, .getfield 20, 3), (25, .aload_n 0, 1), (26, .getfield 192, 3), (29, .iaload, 1), (30, .bipush 33, 2), (32, .if_icmp .gt 7, 3), (35, .iconst 1, 1), (36, .goto 4, 3), (39, .iconst 0, 1), (40, .ireturn, 1)]
theorem tk156 : tb156.all (fun q => decide (fetch 156 q.1 = some q.2)) = true := by decide +kernel
theorem f156_0 : fetch 156 0 = some (.aload_n 0, 1) := vtab tk156 0 rfl
theorem e156_0 (L : VL) (st : List Value) (h : VG) (x : Nat) : ev 156 0 (some (.ref x) :: L) (st) h = ev 156 1 (some (.ref x) :: L) (.ref x :: st) h := G_aload_n f156_0 rfl
theorem f156_1 : fetch 156 1 = some (.getfield 189, 3) := vtab tk156 1 rfl
theorem e156_1 (L : VL) (st : List Value) (h : VG) (a : Nat) (ho : ob h a 11) : ev 156 1 L (.ref a :: st) h = ev 156 4 L (.int (gI h a 12) :: st) h := G_getI (p := 1025) f156_1 lkF_12_189 (by decide) (by decide) ho
theorem f156_4 : fetch 156 4 = some (.ifCond .ne 35, 3) := vtab tk156 2 rfl
theorem e156_4 (L : VL) (st : List Value) (h : VG) (x : Int32) : ev 156 4 L (.int x :: st) h = if x = 0 then ev 156 7 L st h else ev 156 39 L st h := G_if_ne f156_4 (by decide)
theorem f156_7 : fetch 156 7 = some (.aload_n 0, 1) := vtab tk156 3 rfl
theorem e156_7 (L : VL) (st : List Value) (h : VG) (x : Nat) : ev 156 7 (some (.ref x) :: L) (st) h = ev 156 8 (some (.ref x) :: L) (.ref x :: st) h := G_aload_n f156_7 rfl
theorem f156_8 : fetch 156 8 = some (.getfield 20, 3) := vtab tk156 4 rfl
theorem e156_8 (L : VL) (st : List Value) (h : VG) (a : Nat) (ho : ob h a 11) (hr : isR h a 5) : ev 156 8 L (.ref a :: st) h = ev 156 11 L (.ref (gR h a 5) :: st) h := G_getR (p := 1018) f156_8 lkF_12_20 (by decide) (by decide) ho hr
theorem f156_11 : fetch 156 11 = some (.aload_n 0, 1) := vtab tk156 5 rfl
theorem e156_11 (L : VL) (st : List Value) (h : VG) (x : Nat) : ev 156 11 (some (.ref x) :: L) (st) h = ev 156 12 (some (.ref x) :: L) (.ref x :: st) h := G_aload_n f156_11 rfl
theorem f156_12 : fetch 156 12 = some (.getfield 192, 3) := vtab tk156 6 rfl
theorem e156_12 (L : VL) (st : List Value) (h : VG) (a : Nat) (ho : ob h a 11) : ev 156 12 L (.ref a :: st) h = ev 156 15 L (.int (gI h a 11) :: st) h := G_getI (p := 1024) f156_12 lkF_12_192 (by decide) (by decide) ho
theorem f156_15 : fetch 156 15 = some (.iaload, 1) := vtab tk156 7 rfl
theorem e156_15 (L : VL) (st : List Value) (h : VG) (a : Nat) (i : Int32) (ha : rdI h a) (hi : vp_in i (aln h a)) : ev 156 15 L (.int i :: .ref a :: st) h = ev 156 16 L (.int (aI h a i.toNatClampNeg) :: st) h := G_iald' f156_15 ha hi
theorem f156_16 : fetch 156 16 = some (.bipush 24, 2) := vtab tk156 8 rfl
theorem e156_16 (L : VL) (st : List Value) (h : VG) : ev 156 16 L (st) h = ev 156 18 L (.int (24 : Int32) :: st) h := G_bipush f156_16 (by decide)
theorem f156_18 : fetch 156 18 = some (.if_icmp .lt 21, 3) := vtab tk156 9 rfl
theorem e156_18 (L : VL) (st : List Value) (h : VG) (x y : Int32) : ev 156 18 L (.int y :: .int x :: st) h = if x < y then ev 156 39 L st h else ev 156 21 L st h := G_icmp_lt f156_18 (by decide)
theorem f156_21 : fetch 156 21 = some (.aload_n 0, 1) := vtab tk156 10 rfl
theorem e156_21 (L : VL) (st : List Value) (h : VG) (x : Nat) : ev 156 21 (some (.ref x) :: L) (st) h = ev 156 22 (some (.ref x) :: L) (.ref x :: st) h := G_aload_n f156_21 rfl
theorem f156_22 : fetch 156 22 = some (.getfield 20, 3) := vtab tk156 11 rfl
theorem e156_22 (L : VL) (st : List Value) (h : VG) (a : Nat) (ho : ob h a 11) (hr : isR h a 5) : ev 156 22 L (.ref a :: st) h = ev 156 25 L (.ref (gR h a 5) :: st) h := G_getR (p := 1018) f156_22 lkF_12_20 (by decide) (by decide) ho hr
theorem f156_25 : fetch 156 25 = some (.aload_n 0, 1) := vtab tk156 12 rfl
theorem e156_25 (L : VL) (st : List Value) (h : VG) (x : Nat) : ev 156 25 (some (.ref x) :: L) (st) h = ev 156 26 (some (.ref x) :: L) (.ref x :: st) h := G_aload_n f156_25 rfl
theorem f156_26 : fetch 156 26 = some (.getfield 192, 3) := vtab tk156 13 rfl
theorem e156_26 (L : VL) (st : List Value) (h : VG) (a : Nat) (ho : ob h a 11) : ev 156 26 L (.ref a :: st) h = ev 156 29 L (.int (gI h a 11) :: st) h := G_getI (p := 1024) f156_26 lkF_12_192 (by decide) (by decide) ho
theorem f156_29 : fetch 156 29 = some (.iaload, 1) := vtab tk156 14 rfl
theorem e156_29 (L : VL) (st : List Value) (h : VG) (a : Nat) (i : Int32) (ha : rdI h a) (hi : vp_in i (aln h a)) : ev 156 29 L (.int i :: .ref a :: st) h = ev 156 30 L (.int (aI h a i.toNatClampNeg) :: st) h := G_iald' f156_29 ha hi
theorem f156_30 : fetch 156 30 = some (.bipush 33, 2) := vtab tk156 15 rfl
theorem e156_30 (L : VL) (st : List Value) (h : VG) : ev 156 30 L (st) h = ev 156 32 L (.int (33 : Int32) :: st) h := G_bipush f156_30 (by decide)
theorem f156_32 : fetch 156 32 = some (.if_icmp .gt 7, 3) := vtab tk156 16 rfl
theorem e156_32 (L : VL) (st : List Value) (h : VG) (x y : Int32) : ev 156 32 L (.int y :: .int x :: st) h = if x ≤ y then ev 156 35 L st h else ev 156 39 L st h := G_icmp_gt f156_32 (by decide)
theorem f156_35 : fetch 156 35 = some (.iconst 1, 1) := vtab tk156 17 rfl
theorem e156_35 (L : VL) (st : List Value) (h : VG) : ev 156 35 L (st) h = ev 156 36 L (.int (1 : Int32) :: st) h := G_iconst f156_35 (by decide)
theorem f156_36 : fetch 156 36 = some (.goto 4, 3) := vtab tk156 18 rfl
theorem e156_36 (L : VL) (st : List Value) (h : VG) : ev 156 36 L (st) h = ev 156 40 L (st) h := G_goto f156_36 (by decide)
theorem f156_39 : fetch 156 39 = some (.iconst 0, 1) := vtab tk156 19 rfl
theorem e156_39 (L : VL) (st : List Value) (h : VG) : ev 156 39 L (st) h = ev 156 40 L (.int (0 : Int32) :: st) h := G_iconst f156_39 (by decide)
theorem f156_40 : fetch 156 40 = some (.ireturn, 1) := vtab tk156 20 rfl
theorem e156_40 (L : VL) (h : VG) (x : Int32) (hz : x = 0 ∨ x = 1) : ev 156 40 L [.int x] h = some (some (.int x), h) := G_iret f156_40 (ty := .boolean) (by decide) (vbool hz).1
/-! 157 GuestCallsModel.line()V -/
def tb157 : List (Nat × Instr × Nat) := [(0, .aload_n 0, 1), (1, .getfield 20, 3), (4, .aload_n 0, 1), (5, .getfield 192, 3), (8, .iaload, 1), (9, .istore_n 1, 1), (10, .iload_n 1, 1), (11, .bipush 20, 2), (13, .if_icmp .lt 9, 3), (16, .iload_n 1, 1), (17, .bipush 23, 2), (19, .if_icmp .le 9, 3), (22, .aload_n 0, 1), (23, .iconst 1, 1), (24, .invokevirtual 204, 3), (27, .return_, 1), (28, .iload_n 1, 1), (29, .bipush 22, 2), (31, .if_icmp .ne 18, 3), (34, .aload_n 0, 1), (35, .getfield 216, 3), (38, .bipush 6, 2), (40, .if_icmp .ne 9, 3), (43, .aload_n 0, 1), (44, .iconst 2, 1), (45, .invokevirtual 204, 3), (48, .return_, 1), (49, .aload_n 0, 1), (50, .invokevirtual 210, 3), (53, .iload_n 1, 1), (54, .bipush 21, 2), (56, .if_icmp .ne 8, 3), (59, .aload_n 0, 1), (60, .iconst 2, 1), (61, .invokevirtual 250, 3), (64, .iload_n 1, 1), (65, .bipush 22, 2), (67, .if_icmp .ne 50, 3), (70, .aload_n 0, 1), (71, .dup, 1), (72, .getfield 216, 3), (75, .iconst 1, 1), (76, .iadd, 1), (77, .putfield 216, 3), (80, .aload_n 0, 1), (81, .iconst 1, 1), (82, .invokevirtual 250, 3), (85, .aload_n 0, 1), (86, .invokevirtual 253, 3), (89, .ifCond .ne 8, 3), (92, .aload_n 0, 1), (93, .iconst 1, 1), (94, .invokevirtual 204, 3), (97, .iconst 0, 1), (98, .istore_n 2, 1), (99, .aload_n 0, 1), (100, .invokevirtual 253, 3), (103, .ifCond .eq 14, 3), (106, .aload_n 0, 1), (107, .iload_n 2, 1), (108, .invokevirtual 257, 3), (111, .iinc 2 1, 3), (114, .goto (-15), 3), (117, .iload_n 1, 1), (118, .bipush 23, 2), (120, .if_icmp .ne 47, 3), (123, .aload_n 0, 1), (124, .iconst 2, 1), (125, .invokevirtual 250, 3), (128, .aload_n 0, 1), (129, .iconst 2, 1), (130, .invokevirtual 250, 3), (133, .iconst 1, 1), (134, .istore_n 2, 1), (135, .aload_n 0, 1), (136, .iconst 2, 1), (137, .invokevirtual 207, 3), (140, .ifCond .eq 27, 3), (143, .iload_n 2, 1), (144, .bipush 16, 2), (146, .if_icmp .ne 11, 3), (149, .aload_n 0, 1), (150, .iconst 2, 1), (151, .invokevirtual 204, 3), (154, .goto 7, 3), (157, .aload_n 0, 1), (158, .invokevirtual 210, 3), (161, .iinc 2 1, 3), (164, .goto (-29), 3), (167, .aload_n 0, 1), (168, .iconst 4, 1), (169, .invokevirtual 250, 3), (172, .return_, 1)]
theorem tk157 : tb157.all (fun q => decide (fetch 157 q.1 = some q.2)) = true := by decide +kernel
theorem f157_0 : fetch 157 0 = some (.aload_n 0, 1) := vtab tk157 0 rfl
theorem e157_0 (L : VL) (st : List Value) (h : VG) (x : Nat) : ev 157 0 (some (.ref x) :: L) (st) h = ev 157 1 (some (.ref x) :: L) (.ref x :: st) h := G_aload_n f157_0 rfl
theorem f157_1 : fetch 157 1 = some (.getfield 20, 3) := vtab tk157 1 rfl
theorem e157_1 (L : VL) (st : List Value) (h : VG) (a : Nat) (ho : ob h a 11) (hr : isR h a 5) : ev 157 1 L (.ref a :: st) h = ev 157 4 L (.ref (gR h a 5) :: st) h := G_getR (p := 1018) f157_1 lkF_12_20 (by decide) (by decide) ho hr
theorem f157_4 : fetch 157 4 = some (.aload_n 0, 1) := vtab tk157 2 rfl
theorem e157_4 (L : VL) (st : List Value) (h : VG) (x : Nat) : ev 157 4 (some (.ref x) :: L) (st) h = ev 157 5 (some (.ref x) :: L) (.ref x :: st) h := G_aload_n f157_4 rfl
theorem f157_5 : fetch 157 5 = some (.getfield 192, 3) := vtab tk157 3 rfl
theorem e157_5 (L : VL) (st : List Value) (h : VG) (a : Nat) (ho : ob h a 11) : ev 157 5 L (.ref a :: st) h = ev 157 8 L (.int (gI h a 11) :: st) h := G_getI (p := 1024) f157_5 lkF_12_192 (by decide) (by decide) ho
theorem f157_8 : fetch 157 8 = some (.iaload, 1) := vtab tk157 4 rfl
theorem e157_8 (L : VL) (st : List Value) (h : VG) (a : Nat) (i : Int32) (ha : rdI h a) (hi : vp_in i (aln h a)) : ev 157 8 L (.int i :: .ref a :: st) h = ev 157 9 L (.int (aI h a i.toNatClampNeg) :: st) h := G_iald' f157_8 ha hi
theorem f157_9 : fetch 157 9 = some (.istore_n 1, 1) := vtab tk157 5 rfl
theorem e157_9 (l0 l1 : Option Value) (L : VL) (st : List Value) (h : VG) (x : Int32) : ev 157 9 (l0 :: l1 :: L) (.int x :: st) h = ev 157 10 (vkk l0 :: some (.int x) :: L) (st) h := G_istore_n f157_9 rfl (S1_1 l0 l1 L _)
theorem f157_10 : fetch 157 10 = some (.iload_n 1, 1) := vtab tk157 6 rfl
theorem e157_10 (l0 : Option Value) (L : VL) (st : List Value) (h : VG) (x : Int32) : ev 157 10 (l0 :: some (.int x) :: L) (st) h = ev 157 11 (l0 :: some (.int x) :: L) (.int x :: st) h := G_iload_n f157_10 rfl
theorem f157_11 : fetch 157 11 = some (.bipush 20, 2) := vtab tk157 7 rfl
theorem e157_11 (L : VL) (st : List Value) (h : VG) : ev 157 11 L (st) h = ev 157 13 L (.int (20 : Int32) :: st) h := G_bipush f157_11 (by decide)
theorem f157_13 : fetch 157 13 = some (.if_icmp .lt 9, 3) := vtab tk157 8 rfl
theorem e157_13 (L : VL) (st : List Value) (h : VG) (x y : Int32) : ev 157 13 L (.int y :: .int x :: st) h = if x < y then ev 157 22 L st h else ev 157 16 L st h := G_icmp_lt f157_13 (by decide)
theorem f157_16 : fetch 157 16 = some (.iload_n 1, 1) := vtab tk157 9 rfl
theorem e157_16 (l0 : Option Value) (L : VL) (st : List Value) (h : VG) (x : Int32) : ev 157 16 (l0 :: some (.int x) :: L) (st) h = ev 157 17 (l0 :: some (.int x) :: L) (.int x :: st) h := G_iload_n f157_16 rfl
theorem f157_17 : fetch 157 17 = some (.bipush 23, 2) := vtab tk157 10 rfl
theorem e157_17 (L : VL) (st : List Value) (h : VG) : ev 157 17 L (st) h = ev 157 19 L (.int (23 : Int32) :: st) h := G_bipush f157_17 (by decide)
theorem f157_19 : fetch 157 19 = some (.if_icmp .le 9, 3) := vtab tk157 11 rfl
theorem e157_19 (L : VL) (st : List Value) (h : VG) (x y : Int32) : ev 157 19 L (.int y :: .int x :: st) h = if x ≤ y then ev 157 28 L st h else ev 157 22 L st h := G_icmp_le f157_19 (by decide)
theorem f157_22 : fetch 157 22 = some (.aload_n 0, 1) := vtab tk157 12 rfl
theorem e157_22 (L : VL) (st : List Value) (h : VG) (x : Nat) : ev 157 22 (some (.ref x) :: L) (st) h = ev 157 23 (some (.ref x) :: L) (.ref x :: st) h := G_aload_n f157_22 rfl
theorem f157_23 : fetch 157 23 = some (.iconst 1, 1) := vtab tk157 13 rfl
theorem e157_23 (L : VL) (st : List Value) (h : VG) : ev 157 23 L (st) h = ev 157 24 L (.int (1 : Int32) :: st) h := G_iconst f157_23 (by decide)
theorem f157_24 : fetch 157 24 = some (.invokevirtual 204, 3) := vtab tk157 14 rfl
theorem e157_24 (L : VL) (st : List Value) (h : VG) (b : Nat) (x0 : Int32) (ho : ob h b 11) (hs : catS st ≤ 8) : ev 157 24 L (.int x0 :: .ref b :: st) h = (ev 149 0 [some (.ref b), some (.int x0)] [] h).bind fun q => ev 157 27 L (q.1.toList ++ st) q.2 := G_callv (k := 1) (p := 1262) (ars := [.int x0]) f157_24 lkC_12_204 (by decide) (by decide +kernel) rfl (vcls_ob (ci := 11) (by decide) ho) (Nat.le_of_ble_eq_true rfl) hs rfl
theorem f157_27 : fetch 157 27 = some (.return_, 1) := vtab tk157 15 rfl
theorem e157_27 (L : VL) (h : VG) : ev 157 27 L [] h = some (none, h) := G_vret f157_27 (by decide)
theorem f157_28 : fetch 157 28 = some (.iload_n 1, 1) := vtab tk157 16 rfl
theorem e157_28 (l0 : Option Value) (L : VL) (st : List Value) (h : VG) (x : Int32) : ev 157 28 (l0 :: some (.int x) :: L) (st) h = ev 157 29 (l0 :: some (.int x) :: L) (.int x :: st) h := G_iload_n f157_28 rfl
theorem f157_29 : fetch 157 29 = some (.bipush 22, 2) := vtab tk157 17 rfl
theorem e157_29 (L : VL) (st : List Value) (h : VG) : ev 157 29 L (st) h = ev 157 31 L (.int (22 : Int32) :: st) h := G_bipush f157_29 (by decide)
theorem f157_31 : fetch 157 31 = some (.if_icmp .ne 18, 3) := vtab tk157 18 rfl
theorem e157_31 (L : VL) (st : List Value) (h : VG) (x y : Int32) : ev 157 31 L (.int y :: .int x :: st) h = if x = y then ev 157 34 L st h else ev 157 49 L st h := G_icmp_ne f157_31 (by decide)
theorem f157_34 : fetch 157 34 = some (.aload_n 0, 1) := vtab tk157 19 rfl
theorem e157_34 (L : VL) (st : List Value) (h : VG) (x : Nat) : ev 157 34 (some (.ref x) :: L) (st) h = ev 157 35 (some (.ref x) :: L) (.ref x :: st) h := G_aload_n f157_34 rfl
theorem f157_35 : fetch 157 35 = some (.getfield 216, 3) := vtab tk157 20 rfl
theorem e157_35 (L : VL) (st : List Value) (h : VG) (a : Nat) (ho : ob h a 11) : ev 157 35 L (.ref a :: st) h = ev 157 38 L (.int (gI h a 26) :: st) h := G_getI (p := 1039) f157_35 lkF_12_216 (by decide) (by decide) ho
theorem f157_38 : fetch 157 38 = some (.bipush 6, 2) := vtab tk157 21 rfl
theorem e157_38 (L : VL) (st : List Value) (h : VG) : ev 157 38 L (st) h = ev 157 40 L (.int (6 : Int32) :: st) h := G_bipush f157_38 (by decide)
theorem f157_40 : fetch 157 40 = some (.if_icmp .ne 9, 3) := vtab tk157 22 rfl
theorem e157_40 (L : VL) (st : List Value) (h : VG) (x y : Int32) : ev 157 40 L (.int y :: .int x :: st) h = if x = y then ev 157 43 L st h else ev 157 49 L st h := G_icmp_ne f157_40 (by decide)
theorem f157_43 : fetch 157 43 = some (.aload_n 0, 1) := vtab tk157 23 rfl
theorem e157_43 (L : VL) (st : List Value) (h : VG) (x : Nat) : ev 157 43 (some (.ref x) :: L) (st) h = ev 157 44 (some (.ref x) :: L) (.ref x :: st) h := G_aload_n f157_43 rfl
theorem f157_44 : fetch 157 44 = some (.iconst 2, 1) := vtab tk157 24 rfl
theorem e157_44 (L : VL) (st : List Value) (h : VG) : ev 157 44 L (st) h = ev 157 45 L (.int (2 : Int32) :: st) h := G_iconst f157_44 (by decide)
theorem f157_45 : fetch 157 45 = some (.invokevirtual 204, 3) := vtab tk157 25 rfl
theorem e157_45 (L : VL) (st : List Value) (h : VG) (b : Nat) (x0 : Int32) (ho : ob h b 11) (hs : catS st ≤ 8) : ev 157 45 L (.int x0 :: .ref b :: st) h = (ev 149 0 [some (.ref b), some (.int x0)] [] h).bind fun q => ev 157 48 L (q.1.toList ++ st) q.2 := G_callv (k := 1) (p := 1262) (ars := [.int x0]) f157_45 lkC_12_204 (by decide) (by decide +kernel) rfl (vcls_ob (ci := 11) (by decide) ho) (Nat.le_of_ble_eq_true rfl) hs rfl
theorem f157_48 : fetch 157 48 = some (.return_, 1) := vtab tk157 26 rfl
theorem e157_48 (L : VL) (h : VG) : ev 157 48 L [] h = some (none, h) := G_vret f157_48 (by decide)
theorem f157_49 : fetch 157 49 = some (.aload_n 0, 1) := vtab tk157 27 rfl
theorem e157_49 (L : VL) (st : List Value) (h : VG) (x : Nat) : ev 157 49 (some (.ref x) :: L) (st) h = ev 157 50 (some (.ref x) :: L) (.ref x :: st) h := G_aload_n f157_49 rfl
theorem f157_50 : fetch 157 50 = some (.invokevirtual 210, 3) := vtab tk157 28 rfl
theorem e157_50 (L : VL) (st : List Value) (h : VG) (b : Nat)  (ho : ob h b 11) (hs : catS st ≤ 8) : ev 157 50 L (.ref b :: st) h = (ev 151 0 [some (.ref b)] [] h).bind fun q => ev 157 53 L (q.1.toList ++ st) q.2 := G_callv (k := 1) (p := 1266) (ars := []) f157_50 lkC_12_210 (by decide) (by decide +kernel) rfl (vcls_ob (ci := 11) (by decide) ho) (Nat.le_of_ble_eq_true rfl) hs rfl
theorem f157_53 : fetch 157 53 = some (.iload_n 1, 1) := vtab tk157 29 rfl
theorem e157_53 (l0 : Option Value) (L : VL) (st : List Value) (h : VG) (x : Int32) : ev 157 53 (l0 :: some (.int x) :: L) (st) h = ev 157 54 (l0 :: some (.int x) :: L) (.int x :: st) h := G_iload_n f157_53 rfl
theorem f157_54 : fetch 157 54 = some (.bipush 21, 2) := vtab tk157 30 rfl
theorem e157_54 (L : VL) (st : List Value) (h : VG) : ev 157 54 L (st) h = ev 157 56 L (.int (21 : Int32) :: st) h := G_bipush f157_54 (by decide)
theorem f157_56 : fetch 157 56 = some (.if_icmp .ne 8, 3) := vtab tk157 31 rfl
theorem e157_56 (L : VL) (st : List Value) (h : VG) (x y : Int32) : ev 157 56 L (.int y :: .int x :: st) h = if x = y then ev 157 59 L st h else ev 157 64 L st h := G_icmp_ne f157_56 (by decide)
theorem f157_59 : fetch 157 59 = some (.aload_n 0, 1) := vtab tk157 32 rfl
theorem e157_59 (L : VL) (st : List Value) (h : VG) (x : Nat) : ev 157 59 (some (.ref x) :: L) (st) h = ev 157 60 (some (.ref x) :: L) (.ref x :: st) h := G_aload_n f157_59 rfl
theorem f157_60 : fetch 157 60 = some (.iconst 2, 1) := vtab tk157 33 rfl
theorem e157_60 (L : VL) (st : List Value) (h : VG) : ev 157 60 L (st) h = ev 157 61 L (.int (2 : Int32) :: st) h := G_iconst f157_60 (by decide)
theorem f157_61 : fetch 157 61 = some (.invokevirtual 250, 3) := vtab tk157 34 rfl
theorem e157_61 (L : VL) (st : List Value) (h : VG) (b : Nat) (x0 : Int32) (ho : ob h b 11) (hs : catS st ≤ 8) : ev 157 61 L (.int x0 :: .ref b :: st) h = (ev 152 0 [some (.ref b), some (.int x0)] [] h).bind fun q => ev 157 64 L (q.1.toList ++ st) q.2 := G_callv (k := 1) (p := 1270) (ars := [.int x0]) f157_61 lkC_12_250 (by decide) (by decide +kernel) rfl (vcls_ob (ci := 11) (by decide) ho) (Nat.le_of_ble_eq_true rfl) hs rfl
theorem f157_64 : fetch 157 64 = some (.iload_n 1, 1) := vtab tk157 35 rfl
theorem e157_64 (l0 : Option Value) (L : VL) (st : List Value) (h : VG) (x : Int32) : ev 157 64 (l0 :: some (.int x) :: L) (st) h = ev 157 65 (l0 :: some (.int x) :: L) (.int x :: st) h := G_iload_n f157_64 rfl
theorem f157_65 : fetch 157 65 = some (.bipush 22, 2) := vtab tk157 36 rfl
theorem e157_65 (L : VL) (st : List Value) (h : VG) : ev 157 65 L (st) h = ev 157 67 L (.int (22 : Int32) :: st) h := G_bipush f157_65 (by decide)
theorem f157_67 : fetch 157 67 = some (.if_icmp .ne 50, 3) := vtab tk157 37 rfl
theorem e157_67 (L : VL) (st : List Value) (h : VG) (x y : Int32) : ev 157 67 L (.int y :: .int x :: st) h = if x = y then ev 157 70 L st h else ev 157 117 L st h := G_icmp_ne f157_67 (by decide)
theorem f157_70 : fetch 157 70 = some (.aload_n 0, 1) := vtab tk157 38 rfl
theorem e157_70 (L : VL) (st : List Value) (h : VG) (x : Nat) : ev 157 70 (some (.ref x) :: L) (st) h = ev 157 71 (some (.ref x) :: L) (.ref x :: st) h := G_aload_n f157_70 rfl
theorem f157_71 : fetch 157 71 = some (.dup, 1) := vtab tk157 39 rfl
theorem e157_71b (L : VL) (st : List Value) (h : VG) (x : Int32) : ev 157 71 L (.int x :: st) h = ev 157 72 L (.int x :: .int x :: st) h := G_dup_int f157_71
theorem e157_71 (L : VL) (st : List Value) (h : VG) (x : Nat) : ev 157 71 L (.ref x :: st) h = ev 157 72 L (.ref x :: .ref x :: st) h := G_dup_ref f157_71
theorem f157_72 : fetch 157 72 = some (.getfield 216, 3) := vtab tk157 40 rfl
theorem e157_72 (L : VL) (st : List Value) (h : VG) (a : Nat) (ho : ob h a 11) : ev 157 72 L (.ref a :: st) h = ev 157 75 L (.int (gI h a 26) :: st) h := G_getI (p := 1039) f157_72 lkF_12_216 (by decide) (by decide) ho
theorem f157_75 : fetch 157 75 = some (.iconst 1, 1) := vtab tk157 41 rfl
theorem e157_75 (L : VL) (st : List Value) (h : VG) : ev 157 75 L (st) h = ev 157 76 L (.int (1 : Int32) :: st) h := G_iconst f157_75 (by decide)
theorem f157_76 : fetch 157 76 = some (.iadd, 1) := vtab tk157 42 rfl
theorem e157_76 (L : VL) (st : List Value) (h : VG) (x y : Int32) : ev 157 76 L (.int y :: .int x :: st) h = ev 157 77 L (.int (x + y) :: st) h := G_iadd f157_76
theorem f157_77 : fetch 157 77 = some (.putfield 216, 3) := vtab tk157 43 rfl
theorem e157_77 (L : VL) (st : List Value) (h : VG) (a : Nat) (x : Int32) (ho : ob h a 11) : ev 157 77 L (.int x :: .ref a :: st) h = ev 157 80 L (st) (pI h a 26 x) := G_putI (p := 1039) f157_77 lkF_12_216 (by decide) (by decide) (by decide +kernel) ⟨rfl, rfl⟩ ho
theorem f157_80 : fetch 157 80 = some (.aload_n 0, 1) := vtab tk157 44 rfl
theorem e157_80 (L : VL) (st : List Value) (h : VG) (x : Nat) : ev 157 80 (some (.ref x) :: L) (st) h = ev 157 81 (some (.ref x) :: L) (.ref x :: st) h := G_aload_n f157_80 rfl
theorem f157_81 : fetch 157 81 = some (.iconst 1, 1) := vtab tk157 45 rfl
theorem e157_81 (L : VL) (st : List Value) (h : VG) : ev 157 81 L (st) h = ev 157 82 L (.int (1 : Int32) :: st) h := G_iconst f157_81 (by decide)
theorem f157_82 : fetch 157 82 = some (.invokevirtual 250, 3) := vtab tk157 46 rfl
theorem e157_82 (L : VL) (st : List Value) (h : VG) (b : Nat) (x0 : Int32) (ho : ob h b 11) (hs : catS st ≤ 8) : ev 157 82 L (.int x0 :: .ref b :: st) h = (ev 152 0 [some (.ref b), some (.int x0)] [] h).bind fun q => ev 157 85 L (q.1.toList ++ st) q.2 := G_callv (k := 1) (p := 1270) (ars := [.int x0]) f157_82 lkC_12_250 (by decide) (by decide +kernel) rfl (vcls_ob (ci := 11) (by decide) ho) (Nat.le_of_ble_eq_true rfl) hs rfl
theorem f157_85 : fetch 157 85 = some (.aload_n 0, 1) := vtab tk157 47 rfl
theorem e157_85 (L : VL) (st : List Value) (h : VG) (x : Nat) : ev 157 85 (some (.ref x) :: L) (st) h = ev 157 86 (some (.ref x) :: L) (.ref x :: st) h := G_aload_n f157_85 rfl
theorem f157_86 : fetch 157 86 = some (.invokevirtual 253, 3) := vtab tk157 48 rfl
theorem e157_86 (L : VL) (st : List Value) (h : VG) (b : Nat)  (ho : ob h b 11) (hs : catS st ≤ 8) : ev 157 86 L (.ref b :: st) h = (ev 156 0 [some (.ref b)] [] h).bind fun q => ev 157 89 L (q.1.toList ++ st) q.2 := G_callv (k := 1) (p := 1274) (ars := []) f157_86 lkC_12_253 (by decide) (by decide +kernel) rfl (vcls_ob (ci := 11) (by decide) ho) (Nat.le_of_ble_eq_true rfl) hs rfl
theorem f157_89 : fetch 157 89 = some (.ifCond .ne 8, 3) := vtab tk157 49 rfl
theorem e157_89 (L : VL) (st : List Value) (h : VG) (x : Int32) : ev 157 89 L (.int x :: st) h = if x = 0 then ev 157 92 L st h else ev 157 97 L st h := G_if_ne f157_89 (by decide)
theorem f157_92 : fetch 157 92 = some (.aload_n 0, 1) := vtab tk157 50 rfl
theorem e157_92 (L : VL) (st : List Value) (h : VG) (x : Nat) : ev 157 92 (some (.ref x) :: L) (st) h = ev 157 93 (some (.ref x) :: L) (.ref x :: st) h := G_aload_n f157_92 rfl
theorem f157_93 : fetch 157 93 = some (.iconst 1, 1) := vtab tk157 51 rfl
theorem e157_93 (L : VL) (st : List Value) (h : VG) : ev 157 93 L (st) h = ev 157 94 L (.int (1 : Int32) :: st) h := G_iconst f157_93 (by decide)
theorem f157_94 : fetch 157 94 = some (.invokevirtual 204, 3) := vtab tk157 52 rfl
theorem e157_94 (L : VL) (st : List Value) (h : VG) (b : Nat) (x0 : Int32) (ho : ob h b 11) (hs : catS st ≤ 8) : ev 157 94 L (.int x0 :: .ref b :: st) h = (ev 149 0 [some (.ref b), some (.int x0)] [] h).bind fun q => ev 157 97 L (q.1.toList ++ st) q.2 := G_callv (k := 1) (p := 1262) (ars := [.int x0]) f157_94 lkC_12_204 (by decide) (by decide +kernel) rfl (vcls_ob (ci := 11) (by decide) ho) (Nat.le_of_ble_eq_true rfl) hs rfl
theorem f157_97 : fetch 157 97 = some (.iconst 0, 1) := vtab tk157 53 rfl
theorem e157_97 (L : VL) (st : List Value) (h : VG) : ev 157 97 L (st) h = ev 157 98 L (.int (0 : Int32) :: st) h := G_iconst f157_97 (by decide)
theorem f157_98 : fetch 157 98 = some (.istore_n 2, 1) := vtab tk157 54 rfl
theorem e157_98 (l0 l1 l2 : Option Value) (L : VL) (st : List Value) (h : VG) (x : Int32) : ev 157 98 (l0 :: l1 :: l2 :: L) (.int x :: st) h = ev 157 99 (l0 :: vkk l1 :: some (.int x) :: L) (st) h := G_istore_n f157_98 rfl (S1_2 l0 l1 l2 L _)
theorem f157_99 : fetch 157 99 = some (.aload_n 0, 1) := vtab tk157 55 rfl
theorem e157_99 (L : VL) (st : List Value) (h : VG) (x : Nat) : ev 157 99 (some (.ref x) :: L) (st) h = ev 157 100 (some (.ref x) :: L) (.ref x :: st) h := G_aload_n f157_99 rfl
theorem f157_100 : fetch 157 100 = some (.invokevirtual 253, 3) := vtab tk157 56 rfl
theorem e157_100 (L : VL) (st : List Value) (h : VG) (b : Nat)  (ho : ob h b 11) (hs : catS st ≤ 8) : ev 157 100 L (.ref b :: st) h = (ev 156 0 [some (.ref b)] [] h).bind fun q => ev 157 103 L (q.1.toList ++ st) q.2 := G_callv (k := 1) (p := 1274) (ars := []) f157_100 lkC_12_253 (by decide) (by decide +kernel) rfl (vcls_ob (ci := 11) (by decide) ho) (Nat.le_of_ble_eq_true rfl) hs rfl
theorem f157_103 : fetch 157 103 = some (.ifCond .eq 14, 3) := vtab tk157 57 rfl
theorem e157_103 (L : VL) (st : List Value) (h : VG) (x : Int32) : ev 157 103 L (.int x :: st) h = if x = 0 then ev 157 117 L st h else ev 157 106 L st h := G_if_eq f157_103 (by decide)
theorem f157_106 : fetch 157 106 = some (.aload_n 0, 1) := vtab tk157 58 rfl
theorem e157_106 (L : VL) (st : List Value) (h : VG) (x : Nat) : ev 157 106 (some (.ref x) :: L) (st) h = ev 157 107 (some (.ref x) :: L) (.ref x :: st) h := G_aload_n f157_106 rfl
theorem f157_107 : fetch 157 107 = some (.iload_n 2, 1) := vtab tk157 59 rfl
theorem e157_107 (l0 l1 : Option Value) (L : VL) (st : List Value) (h : VG) (x : Int32) : ev 157 107 (l0 :: l1 :: some (.int x) :: L) (st) h = ev 157 108 (l0 :: l1 :: some (.int x) :: L) (.int x :: st) h := G_iload_n f157_107 rfl
theorem f157_108 : fetch 157 108 = some (.invokevirtual 257, 3) := vtab tk157 60 rfl
theorem e157_108 (L : VL) (st : List Value) (h : VG) (b : Nat) (x0 : Int32) (ho : ob h b 11) (hs : catS st ≤ 8) : ev 157 108 L (.int x0 :: .ref b :: st) h = (ev 158 0 [some (.ref b), some (.int x0)] [] h).bind fun q => ev 157 111 L (q.1.toList ++ st) q.2 := G_callv (k := 1) (p := 1278) (ars := [.int x0]) f157_108 lkC_12_257 (by decide) (by decide +kernel) rfl (vcls_ob (ci := 11) (by decide) ho) (Nat.le_of_ble_eq_true rfl) hs rfl
theorem f157_111 : fetch 157 111 = some (.iinc 2 1, 3) := vtab tk157 61 rfl
theorem e157_111 (l0 l1 : Option Value) (L : VL) (st : List Value) (h : VG) (x : Int32) : ev 157 111 (l0 :: l1 :: some (.int x) :: L) (st) h = ev 157 114 (l0 :: vkk l1 :: some (.int (x + (1 : Int32))) :: L) (st) h := G_iinc f157_111 rfl (by decide) (S1_2 l0 l1 (some (.int x)) L _)
theorem f157_114 : fetch 157 114 = some (.goto (-15), 3) := vtab tk157 62 rfl
theorem e157_114 (L : VL) (st : List Value) (h : VG) : ev 157 114 L (st) h = ev 157 99 L (st) h := G_goto f157_114 (by decide)
theorem f157_117 : fetch 157 117 = some (.iload_n 1, 1) := vtab tk157 63 rfl
theorem e157_117 (l0 : Option Value) (L : VL) (st : List Value) (h : VG) (x : Int32) : ev 157 117 (l0 :: some (.int x) :: L) (st) h = ev 157 118 (l0 :: some (.int x) :: L) (.int x :: st) h := G_iload_n f157_117 rfl
theorem f157_118 : fetch 157 118 = some (.bipush 23, 2) := vtab tk157 64 rfl
theorem e157_118 (L : VL) (st : List Value) (h : VG) : ev 157 118 L (st) h = ev 157 120 L (.int (23 : Int32) :: st) h := G_bipush f157_118 (by decide)
theorem f157_120 : fetch 157 120 = some (.if_icmp .ne 47, 3) := vtab tk157 65 rfl
theorem e157_120 (L : VL) (st : List Value) (h : VG) (x y : Int32) : ev 157 120 L (.int y :: .int x :: st) h = if x = y then ev 157 123 L st h else ev 157 167 L st h := G_icmp_ne f157_120 (by decide)
theorem f157_123 : fetch 157 123 = some (.aload_n 0, 1) := vtab tk157 66 rfl
theorem e157_123 (L : VL) (st : List Value) (h : VG) (x : Nat) : ev 157 123 (some (.ref x) :: L) (st) h = ev 157 124 (some (.ref x) :: L) (.ref x :: st) h := G_aload_n f157_123 rfl
theorem f157_124 : fetch 157 124 = some (.iconst 2, 1) := vtab tk157 67 rfl
theorem e157_124 (L : VL) (st : List Value) (h : VG) : ev 157 124 L (st) h = ev 157 125 L (.int (2 : Int32) :: st) h := G_iconst f157_124 (by decide)
theorem f157_125 : fetch 157 125 = some (.invokevirtual 250, 3) := vtab tk157 68 rfl
theorem e157_125 (L : VL) (st : List Value) (h : VG) (b : Nat) (x0 : Int32) (ho : ob h b 11) (hs : catS st ≤ 8) : ev 157 125 L (.int x0 :: .ref b :: st) h = (ev 152 0 [some (.ref b), some (.int x0)] [] h).bind fun q => ev 157 128 L (q.1.toList ++ st) q.2 := G_callv (k := 1) (p := 1270) (ars := [.int x0]) f157_125 lkC_12_250 (by decide) (by decide +kernel) rfl (vcls_ob (ci := 11) (by decide) ho) (Nat.le_of_ble_eq_true rfl) hs rfl
theorem f157_128 : fetch 157 128 = some (.aload_n 0, 1) := vtab tk157 69 rfl
theorem e157_128 (L : VL) (st : List Value) (h : VG) (x : Nat) : ev 157 128 (some (.ref x) :: L) (st) h = ev 157 129 (some (.ref x) :: L) (.ref x :: st) h := G_aload_n f157_128 rfl
theorem f157_129 : fetch 157 129 = some (.iconst 2, 1) := vtab tk157 70 rfl
theorem e157_129 (L : VL) (st : List Value) (h : VG) : ev 157 129 L (st) h = ev 157 130 L (.int (2 : Int32) :: st) h := G_iconst f157_129 (by decide)
theorem f157_130 : fetch 157 130 = some (.invokevirtual 250, 3) := vtab tk157 71 rfl
theorem e157_130 (L : VL) (st : List Value) (h : VG) (b : Nat) (x0 : Int32) (ho : ob h b 11) (hs : catS st ≤ 8) : ev 157 130 L (.int x0 :: .ref b :: st) h = (ev 152 0 [some (.ref b), some (.int x0)] [] h).bind fun q => ev 157 133 L (q.1.toList ++ st) q.2 := G_callv (k := 1) (p := 1270) (ars := [.int x0]) f157_130 lkC_12_250 (by decide) (by decide +kernel) rfl (vcls_ob (ci := 11) (by decide) ho) (Nat.le_of_ble_eq_true rfl) hs rfl
theorem f157_133 : fetch 157 133 = some (.iconst 1, 1) := vtab tk157 72 rfl
theorem e157_133 (L : VL) (st : List Value) (h : VG) : ev 157 133 L (st) h = ev 157 134 L (.int (1 : Int32) :: st) h := G_iconst f157_133 (by decide)
theorem f157_134 : fetch 157 134 = some (.istore_n 2, 1) := vtab tk157 73 rfl
theorem e157_134 (l0 l1 l2 : Option Value) (L : VL) (st : List Value) (h : VG) (x : Int32) : ev 157 134 (l0 :: l1 :: l2 :: L) (.int x :: st) h = ev 157 135 (l0 :: vkk l1 :: some (.int x) :: L) (st) h := G_istore_n f157_134 rfl (S1_2 l0 l1 l2 L _)
theorem f157_135 : fetch 157 135 = some (.aload_n 0, 1) := vtab tk157 74 rfl
theorem e157_135 (L : VL) (st : List Value) (h : VG) (x : Nat) : ev 157 135 (some (.ref x) :: L) (st) h = ev 157 136 (some (.ref x) :: L) (.ref x :: st) h := G_aload_n f157_135 rfl
theorem f157_136 : fetch 157 136 = some (.iconst 2, 1) := vtab tk157 75 rfl
theorem e157_136 (L : VL) (st : List Value) (h : VG) : ev 157 136 L (st) h = ev 157 137 L (.int (2 : Int32) :: st) h := G_iconst f157_136 (by decide)
theorem f157_137 : fetch 157 137 = some (.invokevirtual 207, 3) := vtab tk157 76 rfl
theorem e157_137 (L : VL) (st : List Value) (h : VG) (b : Nat) (x0 : Int32) (ho : ob h b 11) (hs : catS st ≤ 8) : ev 157 137 L (.int x0 :: .ref b :: st) h = (ev 148 0 [some (.ref b), some (.int x0)] [] h).bind fun q => ev 157 140 L (q.1.toList ++ st) q.2 := G_callv (k := 1) (p := 1254) (ars := [.int x0]) f157_137 lkC_12_207 (by decide) (by decide +kernel) rfl (vcls_ob (ci := 11) (by decide) ho) (Nat.le_of_ble_eq_true rfl) hs rfl
theorem f157_140 : fetch 157 140 = some (.ifCond .eq 27, 3) := vtab tk157 77 rfl
theorem e157_140 (L : VL) (st : List Value) (h : VG) (x : Int32) : ev 157 140 L (.int x :: st) h = if x = 0 then ev 157 167 L st h else ev 157 143 L st h := G_if_eq f157_140 (by decide)
theorem f157_143 : fetch 157 143 = some (.iload_n 2, 1) := vtab tk157 78 rfl
theorem e157_143 (l0 l1 : Option Value) (L : VL) (st : List Value) (h : VG) (x : Int32) : ev 157 143 (l0 :: l1 :: some (.int x) :: L) (st) h = ev 157 144 (l0 :: l1 :: some (.int x) :: L) (.int x :: st) h := G_iload_n f157_143 rfl
theorem f157_144 : fetch 157 144 = some (.bipush 16, 2) := vtab tk157 79 rfl
theorem e157_144 (L : VL) (st : List Value) (h : VG) : ev 157 144 L (st) h = ev 157 146 L (.int (16 : Int32) :: st) h := G_bipush f157_144 (by decide)
theorem f157_146 : fetch 157 146 = some (.if_icmp .ne 11, 3) := vtab tk157 80 rfl
theorem e157_146 (L : VL) (st : List Value) (h : VG) (x y : Int32) : ev 157 146 L (.int y :: .int x :: st) h = if x = y then ev 157 149 L st h else ev 157 157 L st h := G_icmp_ne f157_146 (by decide)
theorem f157_149 : fetch 157 149 = some (.aload_n 0, 1) := vtab tk157 81 rfl
theorem e157_149 (L : VL) (st : List Value) (h : VG) (x : Nat) : ev 157 149 (some (.ref x) :: L) (st) h = ev 157 150 (some (.ref x) :: L) (.ref x :: st) h := G_aload_n f157_149 rfl
theorem f157_150 : fetch 157 150 = some (.iconst 2, 1) := vtab tk157 82 rfl
theorem e157_150 (L : VL) (st : List Value) (h : VG) : ev 157 150 L (st) h = ev 157 151 L (.int (2 : Int32) :: st) h := G_iconst f157_150 (by decide)
theorem f157_151 : fetch 157 151 = some (.invokevirtual 204, 3) := vtab tk157 83 rfl
theorem e157_151 (L : VL) (st : List Value) (h : VG) (b : Nat) (x0 : Int32) (ho : ob h b 11) (hs : catS st ≤ 8) : ev 157 151 L (.int x0 :: .ref b :: st) h = (ev 149 0 [some (.ref b), some (.int x0)] [] h).bind fun q => ev 157 154 L (q.1.toList ++ st) q.2 := G_callv (k := 1) (p := 1262) (ars := [.int x0]) f157_151 lkC_12_204 (by decide) (by decide +kernel) rfl (vcls_ob (ci := 11) (by decide) ho) (Nat.le_of_ble_eq_true rfl) hs rfl
theorem f157_154 : fetch 157 154 = some (.goto 7, 3) := vtab tk157 84 rfl
theorem e157_154 (L : VL) (st : List Value) (h : VG) : ev 157 154 L (st) h = ev 157 161 L (st) h := G_goto f157_154 (by decide)
theorem f157_157 : fetch 157 157 = some (.aload_n 0, 1) := vtab tk157 85 rfl
theorem e157_157 (L : VL) (st : List Value) (h : VG) (x : Nat) : ev 157 157 (some (.ref x) :: L) (st) h = ev 157 158 (some (.ref x) :: L) (.ref x :: st) h := G_aload_n f157_157 rfl
theorem f157_158 : fetch 157 158 = some (.invokevirtual 210, 3) := vtab tk157 86 rfl
theorem e157_158 (L : VL) (st : List Value) (h : VG) (b : Nat)  (ho : ob h b 11) (hs : catS st ≤ 8) : ev 157 158 L (.ref b :: st) h = (ev 151 0 [some (.ref b)] [] h).bind fun q => ev 157 161 L (q.1.toList ++ st) q.2 := G_callv (k := 1) (p := 1266) (ars := []) f157_158 lkC_12_210 (by decide) (by decide +kernel) rfl (vcls_ob (ci := 11) (by decide) ho) (Nat.le_of_ble_eq_true rfl) hs rfl
theorem f157_161 : fetch 157 161 = some (.iinc 2 1, 3) := vtab tk157 87 rfl
theorem e157_161 (l0 l1 : Option Value) (L : VL) (st : List Value) (h : VG) (x : Int32) : ev 157 161 (l0 :: l1 :: some (.int x) :: L) (st) h = ev 157 164 (l0 :: vkk l1 :: some (.int (x + (1 : Int32))) :: L) (st) h := G_iinc f157_161 rfl (by decide) (S1_2 l0 l1 (some (.int x)) L _)
theorem f157_164 : fetch 157 164 = some (.goto (-29), 3) := vtab tk157 88 rfl
theorem e157_164 (L : VL) (st : List Value) (h : VG) : ev 157 164 L (st) h = ev 157 135 L (st) h := G_goto f157_164 (by decide)
theorem f157_167 : fetch 157 167 = some (.aload_n 0, 1) := vtab tk157 89 rfl
theorem e157_167 (L : VL) (st : List Value) (h : VG) (x : Nat) : ev 157 167 (some (.ref x) :: L) (st) h = ev 157 168 (some (.ref x) :: L) (.ref x :: st) h := G_aload_n f157_167 rfl
theorem f157_168 : fetch 157 168 = some (.iconst 4, 1) := vtab tk157 90 rfl
theorem e157_168 (L : VL) (st : List Value) (h : VG) : ev 157 168 L (st) h = ev 157 169 L (.int (4 : Int32) :: st) h := G_iconst f157_168 (by decide)
theorem f157_169 : fetch 157 169 = some (.invokevirtual 250, 3) := vtab tk157 91 rfl
theorem e157_169 (L : VL) (st : List Value) (h : VG) (b : Nat) (x0 : Int32) (ho : ob h b 11) (hs : catS st ≤ 8) : ev 157 169 L (.int x0 :: .ref b :: st) h = (ev 152 0 [some (.ref b), some (.int x0)] [] h).bind fun q => ev 157 172 L (q.1.toList ++ st) q.2 := G_callv (k := 1) (p := 1270) (ars := [.int x0]) f157_169 lkC_12_250 (by decide) (by decide +kernel) rfl (vcls_ob (ci := 11) (by decide) ho) (Nat.le_of_ble_eq_true rfl) hs rfl
theorem f157_172 : fetch 157 172 = some (.return_, 1) := vtab tk157 92 rfl
theorem e157_172 (L : VL) (h : VG) : ev 157 172 L [] h = some (none, h) := G_vret f157_172 (by decide)
/-! 158 GuestCallsModel.member(I)V -/
def tb158 : List (Nat × Instr × Nat) := [(0, .iload_n 1, 1), (1, .bipush 8, 2), (3, .if_icmp .ne 9, 3), (6, .aload_n 0, 1), (7, .iconst 2, 1), (8, .invokevirtual 204, 3), (11, .return_, 1), (12, .aload_n 0, 1), (13, .invokevirtual 210, 3), (16, .aload_n 0, 1), (17, .iconst 2, 1), (18, .invokevirtual 207, 3), (21, .ifCond .eq 7, 3), (24, .aload_n 0, 1), (25, .invokevirtual 210, 3), (28, .return_, 1)]
theorem tk158 : tb158.all (fun q => decide (fetch 158 q.1 = some q.2)) = true := by decide +kernel
theorem f158_0 : fetch 158 0 = some (.iload_n 1, 1) := vtab tk158 0 rfl
theorem e158_0 (l0 : Option Value) (L : VL) (st : List Value) (h : VG) (x : Int32) : ev 158 0 (l0 :: some (.int x) :: L) (st) h = ev 158 1 (l0 :: some (.int x) :: L) (.int x :: st) h := G_iload_n f158_0 rfl
theorem f158_1 : fetch 158 1 = some (.bipush 8, 2) := vtab tk158 1 rfl
theorem e158_1 (L : VL) (st : List Value) (h : VG) : ev 158 1 L (st) h = ev 158 3 L (.int (8 : Int32) :: st) h := G_bipush f158_1 (by decide)
theorem f158_3 : fetch 158 3 = some (.if_icmp .ne 9, 3) := vtab tk158 2 rfl
theorem e158_3 (L : VL) (st : List Value) (h : VG) (x y : Int32) : ev 158 3 L (.int y :: .int x :: st) h = if x = y then ev 158 6 L st h else ev 158 12 L st h := G_icmp_ne f158_3 (by decide)
theorem f158_6 : fetch 158 6 = some (.aload_n 0, 1) := vtab tk158 3 rfl
theorem e158_6 (L : VL) (st : List Value) (h : VG) (x : Nat) : ev 158 6 (some (.ref x) :: L) (st) h = ev 158 7 (some (.ref x) :: L) (.ref x :: st) h := G_aload_n f158_6 rfl
theorem f158_7 : fetch 158 7 = some (.iconst 2, 1) := vtab tk158 4 rfl
theorem e158_7 (L : VL) (st : List Value) (h : VG) : ev 158 7 L (st) h = ev 158 8 L (.int (2 : Int32) :: st) h := G_iconst f158_7 (by decide)
theorem f158_8 : fetch 158 8 = some (.invokevirtual 204, 3) := vtab tk158 5 rfl
theorem e158_8 (L : VL) (st : List Value) (h : VG) (b : Nat) (x0 : Int32) (ho : ob h b 11) (hs : catS st ≤ 8) : ev 158 8 L (.int x0 :: .ref b :: st) h = (ev 149 0 [some (.ref b), some (.int x0)] [] h).bind fun q => ev 158 11 L (q.1.toList ++ st) q.2 := G_callv (k := 1) (p := 1262) (ars := [.int x0]) f158_8 lkC_12_204 (by decide) (by decide +kernel) rfl (vcls_ob (ci := 11) (by decide) ho) (Nat.le_of_ble_eq_true rfl) hs rfl
theorem f158_11 : fetch 158 11 = some (.return_, 1) := vtab tk158 6 rfl
theorem e158_11 (L : VL) (h : VG) : ev 158 11 L [] h = some (none, h) := G_vret f158_11 (by decide)
theorem f158_12 : fetch 158 12 = some (.aload_n 0, 1) := vtab tk158 7 rfl
theorem e158_12 (L : VL) (st : List Value) (h : VG) (x : Nat) : ev 158 12 (some (.ref x) :: L) (st) h = ev 158 13 (some (.ref x) :: L) (.ref x :: st) h := G_aload_n f158_12 rfl
theorem f158_13 : fetch 158 13 = some (.invokevirtual 210, 3) := vtab tk158 8 rfl
theorem e158_13 (L : VL) (st : List Value) (h : VG) (b : Nat)  (ho : ob h b 11) (hs : catS st ≤ 8) : ev 158 13 L (.ref b :: st) h = (ev 151 0 [some (.ref b)] [] h).bind fun q => ev 158 16 L (q.1.toList ++ st) q.2 := G_callv (k := 1) (p := 1266) (ars := []) f158_13 lkC_12_210 (by decide) (by decide +kernel) rfl (vcls_ob (ci := 11) (by decide) ho) (Nat.le_of_ble_eq_true rfl) hs rfl
theorem f158_16 : fetch 158 16 = some (.aload_n 0, 1) := vtab tk158 9 rfl
theorem e158_16 (L : VL) (st : List Value) (h : VG) (x : Nat) : ev 158 16 (some (.ref x) :: L) (st) h = ev 158 17 (some (.ref x) :: L) (.ref x :: st) h := G_aload_n f158_16 rfl
theorem f158_17 : fetch 158 17 = some (.iconst 2, 1) := vtab tk158 10 rfl
theorem e158_17 (L : VL) (st : List Value) (h : VG) : ev 158 17 L (st) h = ev 158 18 L (.int (2 : Int32) :: st) h := G_iconst f158_17 (by decide)
theorem f158_18 : fetch 158 18 = some (.invokevirtual 207, 3) := vtab tk158 11 rfl
theorem e158_18 (L : VL) (st : List Value) (h : VG) (b : Nat) (x0 : Int32) (ho : ob h b 11) (hs : catS st ≤ 8) : ev 158 18 L (.int x0 :: .ref b :: st) h = (ev 148 0 [some (.ref b), some (.int x0)] [] h).bind fun q => ev 158 21 L (q.1.toList ++ st) q.2 := G_callv (k := 1) (p := 1254) (ars := [.int x0]) f158_18 lkC_12_207 (by decide) (by decide +kernel) rfl (vcls_ob (ci := 11) (by decide) ho) (Nat.le_of_ble_eq_true rfl) hs rfl
theorem f158_21 : fetch 158 21 = some (.ifCond .eq 7, 3) := vtab tk158 12 rfl
theorem e158_21 (L : VL) (st : List Value) (h : VG) (x : Int32) : ev 158 21 L (.int x :: st) h = if x = 0 then ev 158 28 L st h else ev 158 24 L st h := G_if_eq f158_21 (by decide)
theorem f158_24 : fetch 158 24 = some (.aload_n 0, 1) := vtab tk158 13 rfl
theorem e158_24 (L : VL) (st : List Value) (h : VG) (x : Nat) : ev 158 24 (some (.ref x) :: L) (st) h = ev 158 25 (some (.ref x) :: L) (.ref x :: st) h := G_aload_n f158_24 rfl
theorem f158_25 : fetch 158 25 = some (.invokevirtual 210, 3) := vtab tk158 14 rfl
theorem e158_25 (L : VL) (st : List Value) (h : VG) (b : Nat)  (ho : ob h b 11) (hs : catS st ≤ 8) : ev 158 25 L (.ref b :: st) h = (ev 151 0 [some (.ref b)] [] h).bind fun q => ev 158 28 L (q.1.toList ++ st) q.2 := G_callv (k := 1) (p := 1266) (ars := []) f158_25 lkC_12_210 (by decide) (by decide +kernel) rfl (vcls_ob (ci := 11) (by decide) ho) (Nat.le_of_ble_eq_true rfl) hs rfl
theorem f158_28 : fetch 158 28 = some (.return_, 1) := vtab tk158 15 rfl
theorem e158_28 (L : VL) (h : VG) : ev 158 28 L [] h = some (none, h) := G_vret f158_28 (by decide)
/-! 159 GuestCallsModel.means()V -/
def tb159 : List (Nat × Instr × Nat) := [(0, .aload_n 0, 1), (1, .iconst 0, 1), (2, .putfield 225, 3), (5, .aload_n 0, 1), (6, .sipush 256, 3), (9, .putfield 232, 3), (12, .aload_n 0, 1), (13, .iconst 0, 1), (14, .putfield 216, 3), (17, .iconst 0, 1), (18, .istore_n 1, 1), (19, .iload_n 1, 1), (20, .sipush 256, 3), (23, .if_icmp .ge 16, 3), (26, .aload_n 0, 1), (27, .getfield 64, 3), (30, .iload_n 1, 1), (31, .iconst 0, 1), (32, .iastore, 1), (33, .iinc 1 1, 3), (36, .goto (-17), 3), (39, .iconst 0, 1), (40, .istore_n 1, 1), (41, .iload_n 1, 1), (42, .aload_n 0, 1), (43, .getfield 167, 3), (46, .if_icmp .ge 121, 3), (49, .iload_n 1, 1), (50, .ifCond .le 18, 3), (53, .aload_n 0, 1), (54, .getfield 20, 3), (57, .iload_n 1, 1), (58, .iconst 1, 1), (59, .isub, 1), (60, .iaload, 1), (61, .iconst 4, 1), (62, .if_icmp .eq 6, 3), (65, .goto 96, 3), (68, .aload_n 0, 1), (69, .getfield 20, 3), (72, .iload_n 1, 1), (73, .iaload, 1), (74, .bipush 20, 2), (76, .if_icmp .ne 8, 3), (79, .aload_n 0, 1), (80, .iconst 1, 1), (81, .putfield 225, 3), (84, .aload_n 0, 1), (85, .getfield 20, 3), (88, .iload_n 1, 1), (89, .iaload, 1), (90, .bipush 21, 2), (92, .if_icmp .ne 37, 3), (95, .aload_n 0, 1), (96, .aload_n 0, 1), (97, .getfield 27, 3), (100, .iload_n 1, 1), (101, .iconst 1, 1), (102, .iadd, 1), (103, .iaload, 1), (104, .putfield 232, 3), (107, .aload_n 0, 1), (108, .getfield 232, 3), (111, .iconst 1, 1), (112, .sipush 256, 3), (115, .invokestatic 260, 3), (118, .ifCond .ne 11, 3), (121, .aload_n 0, 1), (122, .iconst 5, 1), (123, .iload_n 1, 1), (124, .iconst 1, 1), (125, .iadd, 1), (126, .invokevirtual 264, 3), (129, .aload_n 0, 1), (130, .getfield 20, 3), (133, .iload_n 1, 1), (134, .iaload, 1), (135, .bipush 22, 2), (137, .if_icmp .ne 8, 3), (140, .aload_n 0, 1), (141, .iload_n 1, 1), (142, .invokevirtual 268, 3), (145, .aload_n 0, 1), (146, .getfield 20, 3), (149, .iload_n 1, 1), (150, .iaload, 1), (151, .bipush 23, 2), (153, .if_icmp .ne 8, 3), (156, .aload_n 0, 1), (157, .iload_n 1, 1), (158, .invokevirtual 271, 3), (161, .iinc 1 1, 3), (164, .goto (-123), 3), (167, .return_, 1)]
theorem tk159 : tb159.all (fun q => decide (fetch 159 q.1 = some q.2)) = true := by decide +kernel
theorem f159_0 : fetch 159 0 = some (.aload_n 0, 1) := vtab tk159 0 rfl
theorem e159_0 (L : VL) (st : List Value) (h : VG) (x : Nat) : ev 159 0 (some (.ref x) :: L) (st) h = ev 159 1 (some (.ref x) :: L) (.ref x :: st) h := G_aload_n f159_0 rfl
theorem f159_1 : fetch 159 1 = some (.iconst 0, 1) := vtab tk159 1 rfl
theorem e159_1 (L : VL) (st : List Value) (h : VG) : ev 159 1 L (st) h = ev 159 2 L (.int (0 : Int32) :: st) h := G_iconst f159_1 (by decide)
theorem f159_2 : fetch 159 2 = some (.putfield 225, 3) := vtab tk159 2 rfl
theorem e159_2 (L : VL) (st : List Value) (h : VG) (a : Nat) (x : Int32) (ho : ob h a 11) (hz : x = 0 ∨ x = 1) : ev 159 2 L (.int x :: .ref a :: st) h = ev 159 5 L (st) (pI h a 24 x) := G_putI (ci := 11) (p := 1037) f159_2 lkF_12_225 (by decide) (by decide) (by decide +kernel) (vbool hz) ho
theorem f159_5 : fetch 159 5 = some (.aload_n 0, 1) := vtab tk159 3 rfl
theorem e159_5 (L : VL) (st : List Value) (h : VG) (x : Nat) : ev 159 5 (some (.ref x) :: L) (st) h = ev 159 6 (some (.ref x) :: L) (.ref x :: st) h := G_aload_n f159_5 rfl
theorem f159_6 : fetch 159 6 = some (.sipush 256, 3) := vtab tk159 4 rfl
theorem e159_6 (L : VL) (st : List Value) (h : VG) : ev 159 6 L (st) h = ev 159 9 L (.int (256 : Int32) :: st) h := G_sipush f159_6 (by decide)
theorem f159_9 : fetch 159 9 = some (.putfield 232, 3) := vtab tk159 5 rfl
theorem e159_9 (L : VL) (st : List Value) (h : VG) (a : Nat) (x : Int32) (ho : ob h a 11) : ev 159 9 L (.int x :: .ref a :: st) h = ev 159 12 L (st) (pI h a 25 x) := G_putI (p := 1038) f159_9 lkF_12_232 (by decide) (by decide) (by decide +kernel) ⟨rfl, rfl⟩ ho
theorem f159_12 : fetch 159 12 = some (.aload_n 0, 1) := vtab tk159 6 rfl
theorem e159_12 (L : VL) (st : List Value) (h : VG) (x : Nat) : ev 159 12 (some (.ref x) :: L) (st) h = ev 159 13 (some (.ref x) :: L) (.ref x :: st) h := G_aload_n f159_12 rfl
theorem f159_13 : fetch 159 13 = some (.iconst 0, 1) := vtab tk159 7 rfl
theorem e159_13 (L : VL) (st : List Value) (h : VG) : ev 159 13 L (st) h = ev 159 14 L (.int (0 : Int32) :: st) h := G_iconst f159_13 (by decide)
theorem f159_14 : fetch 159 14 = some (.putfield 216, 3) := vtab tk159 8 rfl
theorem e159_14 (L : VL) (st : List Value) (h : VG) (a : Nat) (x : Int32) (ho : ob h a 11) : ev 159 14 L (.int x :: .ref a :: st) h = ev 159 17 L (st) (pI h a 26 x) := G_putI (p := 1039) f159_14 lkF_12_216 (by decide) (by decide) (by decide +kernel) ⟨rfl, rfl⟩ ho
theorem f159_17 : fetch 159 17 = some (.iconst 0, 1) := vtab tk159 9 rfl
theorem e159_17 (L : VL) (st : List Value) (h : VG) : ev 159 17 L (st) h = ev 159 18 L (.int (0 : Int32) :: st) h := G_iconst f159_17 (by decide)
theorem f159_18 : fetch 159 18 = some (.istore_n 1, 1) := vtab tk159 10 rfl
theorem e159_18 (l0 l1 : Option Value) (L : VL) (st : List Value) (h : VG) (x : Int32) : ev 159 18 (l0 :: l1 :: L) (.int x :: st) h = ev 159 19 (vkk l0 :: some (.int x) :: L) (st) h := G_istore_n f159_18 rfl (S1_1 l0 l1 L _)
theorem f159_19 : fetch 159 19 = some (.iload_n 1, 1) := vtab tk159 11 rfl
theorem e159_19 (l0 : Option Value) (L : VL) (st : List Value) (h : VG) (x : Int32) : ev 159 19 (l0 :: some (.int x) :: L) (st) h = ev 159 20 (l0 :: some (.int x) :: L) (.int x :: st) h := G_iload_n f159_19 rfl
theorem f159_20 : fetch 159 20 = some (.sipush 256, 3) := vtab tk159 12 rfl
theorem e159_20 (L : VL) (st : List Value) (h : VG) : ev 159 20 L (st) h = ev 159 23 L (.int (256 : Int32) :: st) h := G_sipush f159_20 (by decide)
theorem f159_23 : fetch 159 23 = some (.if_icmp .ge 16, 3) := vtab tk159 13 rfl
theorem e159_23 (L : VL) (st : List Value) (h : VG) (x y : Int32) : ev 159 23 L (.int y :: .int x :: st) h = if x < y then ev 159 26 L st h else ev 159 39 L st h := G_icmp_ge f159_23 (by decide)
theorem f159_26 : fetch 159 26 = some (.aload_n 0, 1) := vtab tk159 14 rfl
theorem e159_26 (L : VL) (st : List Value) (h : VG) (x : Nat) : ev 159 26 (some (.ref x) :: L) (st) h = ev 159 27 (some (.ref x) :: L) (.ref x :: st) h := G_aload_n f159_26 rfl
theorem f159_27 : fetch 159 27 = some (.getfield 64, 3) := vtab tk159 15 rfl
theorem e159_27 (L : VL) (st : List Value) (h : VG) (a : Nat) (ho : ob h a 11) (hr : isR h a 30) : ev 159 27 L (.ref a :: st) h = ev 159 30 L (.ref (gR h a 30) :: st) h := G_getR (p := 1043) f159_27 lkF_12_64 (by decide) (by decide) ho hr
theorem f159_30 : fetch 159 30 = some (.iload_n 1, 1) := vtab tk159 16 rfl
theorem e159_30 (l0 : Option Value) (L : VL) (st : List Value) (h : VG) (x : Int32) : ev 159 30 (l0 :: some (.int x) :: L) (st) h = ev 159 31 (l0 :: some (.int x) :: L) (.int x :: st) h := G_iload_n f159_30 rfl
theorem f159_31 : fetch 159 31 = some (.iconst 0, 1) := vtab tk159 17 rfl
theorem e159_31 (L : VL) (st : List Value) (h : VG) : ev 159 31 L (st) h = ev 159 32 L (.int (0 : Int32) :: st) h := G_iconst f159_31 (by decide)
theorem f159_32 : fetch 159 32 = some (.iastore, 1) := vtab tk159 18 rfl
theorem e159_32 (L : VL) (st : List Value) (h : VG) (a : Nat) (i : Int32) (x : Int32) (ha : arI h a 0) (hi : vp_in i (aln h a)) : ev 159 32 L (.int x :: .int i :: .ref a :: st) h = ev 159 33 L (st) (wI h a i.toNatClampNeg x) := G_iast f159_32 ha hi
theorem f159_33 : fetch 159 33 = some (.iinc 1 1, 3) := vtab tk159 19 rfl
theorem e159_33 (l0 : Option Value) (L : VL) (st : List Value) (h : VG) (x : Int32) : ev 159 33 (l0 :: some (.int x) :: L) (st) h = ev 159 36 (vkk l0 :: some (.int (x + (1 : Int32))) :: L) (st) h := G_iinc f159_33 rfl (by decide) (S1_1 l0 (some (.int x)) L _)
theorem f159_36 : fetch 159 36 = some (.goto (-17), 3) := vtab tk159 20 rfl
theorem e159_36 (L : VL) (st : List Value) (h : VG) : ev 159 36 L (st) h = ev 159 19 L (st) h := G_goto f159_36 (by decide)
theorem f159_39 : fetch 159 39 = some (.iconst 0, 1) := vtab tk159 21 rfl
theorem e159_39 (L : VL) (st : List Value) (h : VG) : ev 159 39 L (st) h = ev 159 40 L (.int (0 : Int32) :: st) h := G_iconst f159_39 (by decide)
theorem f159_40 : fetch 159 40 = some (.istore_n 1, 1) := vtab tk159 22 rfl
theorem e159_40 (l0 l1 : Option Value) (L : VL) (st : List Value) (h : VG) (x : Int32) : ev 159 40 (l0 :: l1 :: L) (.int x :: st) h = ev 159 41 (vkk l0 :: some (.int x) :: L) (st) h := G_istore_n f159_40 rfl (S1_1 l0 l1 L _)
theorem f159_41 : fetch 159 41 = some (.iload_n 1, 1) := vtab tk159 23 rfl
theorem e159_41 (l0 : Option Value) (L : VL) (st : List Value) (h : VG) (x : Int32) : ev 159 41 (l0 :: some (.int x) :: L) (st) h = ev 159 42 (l0 :: some (.int x) :: L) (.int x :: st) h := G_iload_n f159_41 rfl
theorem f159_42 : fetch 159 42 = some (.aload_n 0, 1) := vtab tk159 24 rfl
theorem e159_42 (L : VL) (st : List Value) (h : VG) (x : Nat) : ev 159 42 (some (.ref x) :: L) (st) h = ev 159 43 (some (.ref x) :: L) (.ref x :: st) h := G_aload_n f159_42 rfl
theorem f159_43 : fetch 159 43 = some (.getfield 167, 3) := vtab tk159 25 rfl
theorem e159_43 (L : VL) (st : List Value) (h : VG) (a : Nat) (ho : ob h a 11) : ev 159 43 L (.ref a :: st) h = ev 159 46 L (.int (gI h a 10) :: st) h := G_getI (p := 1023) f159_43 lkF_12_167 (by decide) (by decide) ho
theorem f159_46 : fetch 159 46 = some (.if_icmp .ge 121, 3) := vtab tk159 26 rfl
theorem e159_46 (L : VL) (st : List Value) (h : VG) (x y : Int32) : ev 159 46 L (.int y :: .int x :: st) h = if x < y then ev 159 49 L st h else ev 159 167 L st h := G_icmp_ge f159_46 (by decide)
theorem f159_49 : fetch 159 49 = some (.iload_n 1, 1) := vtab tk159 27 rfl
theorem e159_49 (l0 : Option Value) (L : VL) (st : List Value) (h : VG) (x : Int32) : ev 159 49 (l0 :: some (.int x) :: L) (st) h = ev 159 50 (l0 :: some (.int x) :: L) (.int x :: st) h := G_iload_n f159_49 rfl
theorem f159_50 : fetch 159 50 = some (.ifCond .le 18, 3) := vtab tk159 28 rfl
theorem e159_50 (L : VL) (st : List Value) (h : VG) (x : Int32) : ev 159 50 L (.int x :: st) h = if x ≤ 0 then ev 159 68 L st h else ev 159 53 L st h := G_if_le f159_50 (by decide)
theorem f159_53 : fetch 159 53 = some (.aload_n 0, 1) := vtab tk159 29 rfl
theorem e159_53 (L : VL) (st : List Value) (h : VG) (x : Nat) : ev 159 53 (some (.ref x) :: L) (st) h = ev 159 54 (some (.ref x) :: L) (.ref x :: st) h := G_aload_n f159_53 rfl
theorem f159_54 : fetch 159 54 = some (.getfield 20, 3) := vtab tk159 30 rfl
theorem e159_54 (L : VL) (st : List Value) (h : VG) (a : Nat) (ho : ob h a 11) (hr : isR h a 5) : ev 159 54 L (.ref a :: st) h = ev 159 57 L (.ref (gR h a 5) :: st) h := G_getR (p := 1018) f159_54 lkF_12_20 (by decide) (by decide) ho hr
theorem f159_57 : fetch 159 57 = some (.iload_n 1, 1) := vtab tk159 31 rfl
theorem e159_57 (l0 : Option Value) (L : VL) (st : List Value) (h : VG) (x : Int32) : ev 159 57 (l0 :: some (.int x) :: L) (st) h = ev 159 58 (l0 :: some (.int x) :: L) (.int x :: st) h := G_iload_n f159_57 rfl
theorem f159_58 : fetch 159 58 = some (.iconst 1, 1) := vtab tk159 32 rfl
theorem e159_58 (L : VL) (st : List Value) (h : VG) : ev 159 58 L (st) h = ev 159 59 L (.int (1 : Int32) :: st) h := G_iconst f159_58 (by decide)
theorem f159_59 : fetch 159 59 = some (.isub, 1) := vtab tk159 33 rfl
theorem e159_59 (L : VL) (st : List Value) (h : VG) (x y : Int32) : ev 159 59 L (.int y :: .int x :: st) h = ev 159 60 L (.int (x - y) :: st) h := G_isub f159_59
theorem f159_60 : fetch 159 60 = some (.iaload, 1) := vtab tk159 34 rfl
theorem e159_60 (L : VL) (st : List Value) (h : VG) (a : Nat) (i : Int32) (ha : rdI h a) (hi : vp_in i (aln h a)) : ev 159 60 L (.int i :: .ref a :: st) h = ev 159 61 L (.int (aI h a i.toNatClampNeg) :: st) h := G_iald' f159_60 ha hi
theorem f159_61 : fetch 159 61 = some (.iconst 4, 1) := vtab tk159 35 rfl
theorem e159_61 (L : VL) (st : List Value) (h : VG) : ev 159 61 L (st) h = ev 159 62 L (.int (4 : Int32) :: st) h := G_iconst f159_61 (by decide)
theorem f159_62 : fetch 159 62 = some (.if_icmp .eq 6, 3) := vtab tk159 36 rfl
theorem e159_62 (L : VL) (st : List Value) (h : VG) (x y : Int32) : ev 159 62 L (.int y :: .int x :: st) h = if x = y then ev 159 68 L st h else ev 159 65 L st h := G_icmp_eq f159_62 (by decide)
theorem f159_65 : fetch 159 65 = some (.goto 96, 3) := vtab tk159 37 rfl
theorem e159_65 (L : VL) (st : List Value) (h : VG) : ev 159 65 L (st) h = ev 159 161 L (st) h := G_goto f159_65 (by decide)
theorem f159_68 : fetch 159 68 = some (.aload_n 0, 1) := vtab tk159 38 rfl
theorem e159_68 (L : VL) (st : List Value) (h : VG) (x : Nat) : ev 159 68 (some (.ref x) :: L) (st) h = ev 159 69 (some (.ref x) :: L) (.ref x :: st) h := G_aload_n f159_68 rfl
theorem f159_69 : fetch 159 69 = some (.getfield 20, 3) := vtab tk159 39 rfl
theorem e159_69 (L : VL) (st : List Value) (h : VG) (a : Nat) (ho : ob h a 11) (hr : isR h a 5) : ev 159 69 L (.ref a :: st) h = ev 159 72 L (.ref (gR h a 5) :: st) h := G_getR (p := 1018) f159_69 lkF_12_20 (by decide) (by decide) ho hr
theorem f159_72 : fetch 159 72 = some (.iload_n 1, 1) := vtab tk159 40 rfl
theorem e159_72 (l0 : Option Value) (L : VL) (st : List Value) (h : VG) (x : Int32) : ev 159 72 (l0 :: some (.int x) :: L) (st) h = ev 159 73 (l0 :: some (.int x) :: L) (.int x :: st) h := G_iload_n f159_72 rfl
theorem f159_73 : fetch 159 73 = some (.iaload, 1) := vtab tk159 41 rfl
theorem e159_73 (L : VL) (st : List Value) (h : VG) (a : Nat) (i : Int32) (ha : rdI h a) (hi : vp_in i (aln h a)) : ev 159 73 L (.int i :: .ref a :: st) h = ev 159 74 L (.int (aI h a i.toNatClampNeg) :: st) h := G_iald' f159_73 ha hi
theorem f159_74 : fetch 159 74 = some (.bipush 20, 2) := vtab tk159 42 rfl
theorem e159_74 (L : VL) (st : List Value) (h : VG) : ev 159 74 L (st) h = ev 159 76 L (.int (20 : Int32) :: st) h := G_bipush f159_74 (by decide)
theorem f159_76 : fetch 159 76 = some (.if_icmp .ne 8, 3) := vtab tk159 43 rfl
theorem e159_76 (L : VL) (st : List Value) (h : VG) (x y : Int32) : ev 159 76 L (.int y :: .int x :: st) h = if x = y then ev 159 79 L st h else ev 159 84 L st h := G_icmp_ne f159_76 (by decide)
theorem f159_79 : fetch 159 79 = some (.aload_n 0, 1) := vtab tk159 44 rfl
theorem e159_79 (L : VL) (st : List Value) (h : VG) (x : Nat) : ev 159 79 (some (.ref x) :: L) (st) h = ev 159 80 (some (.ref x) :: L) (.ref x :: st) h := G_aload_n f159_79 rfl
theorem f159_80 : fetch 159 80 = some (.iconst 1, 1) := vtab tk159 45 rfl
theorem e159_80 (L : VL) (st : List Value) (h : VG) : ev 159 80 L (st) h = ev 159 81 L (.int (1 : Int32) :: st) h := G_iconst f159_80 (by decide)
theorem f159_81 : fetch 159 81 = some (.putfield 225, 3) := vtab tk159 46 rfl
theorem e159_81 (L : VL) (st : List Value) (h : VG) (a : Nat) (x : Int32) (ho : ob h a 11) (hz : x = 0 ∨ x = 1) : ev 159 81 L (.int x :: .ref a :: st) h = ev 159 84 L (st) (pI h a 24 x) := G_putI (ci := 11) (p := 1037) f159_81 lkF_12_225 (by decide) (by decide) (by decide +kernel) (vbool hz) ho
theorem f159_84 : fetch 159 84 = some (.aload_n 0, 1) := vtab tk159 47 rfl
theorem e159_84 (L : VL) (st : List Value) (h : VG) (x : Nat) : ev 159 84 (some (.ref x) :: L) (st) h = ev 159 85 (some (.ref x) :: L) (.ref x :: st) h := G_aload_n f159_84 rfl
theorem f159_85 : fetch 159 85 = some (.getfield 20, 3) := vtab tk159 48 rfl
theorem e159_85 (L : VL) (st : List Value) (h : VG) (a : Nat) (ho : ob h a 11) (hr : isR h a 5) : ev 159 85 L (.ref a :: st) h = ev 159 88 L (.ref (gR h a 5) :: st) h := G_getR (p := 1018) f159_85 lkF_12_20 (by decide) (by decide) ho hr
theorem f159_88 : fetch 159 88 = some (.iload_n 1, 1) := vtab tk159 49 rfl
theorem e159_88 (l0 : Option Value) (L : VL) (st : List Value) (h : VG) (x : Int32) : ev 159 88 (l0 :: some (.int x) :: L) (st) h = ev 159 89 (l0 :: some (.int x) :: L) (.int x :: st) h := G_iload_n f159_88 rfl
theorem f159_89 : fetch 159 89 = some (.iaload, 1) := vtab tk159 50 rfl
theorem e159_89 (L : VL) (st : List Value) (h : VG) (a : Nat) (i : Int32) (ha : rdI h a) (hi : vp_in i (aln h a)) : ev 159 89 L (.int i :: .ref a :: st) h = ev 159 90 L (.int (aI h a i.toNatClampNeg) :: st) h := G_iald' f159_89 ha hi
theorem f159_90 : fetch 159 90 = some (.bipush 21, 2) := vtab tk159 51 rfl
theorem e159_90 (L : VL) (st : List Value) (h : VG) : ev 159 90 L (st) h = ev 159 92 L (.int (21 : Int32) :: st) h := G_bipush f159_90 (by decide)
theorem f159_92 : fetch 159 92 = some (.if_icmp .ne 37, 3) := vtab tk159 52 rfl
theorem e159_92 (L : VL) (st : List Value) (h : VG) (x y : Int32) : ev 159 92 L (.int y :: .int x :: st) h = if x = y then ev 159 95 L st h else ev 159 129 L st h := G_icmp_ne f159_92 (by decide)
theorem f159_95 : fetch 159 95 = some (.aload_n 0, 1) := vtab tk159 53 rfl
theorem e159_95 (L : VL) (st : List Value) (h : VG) (x : Nat) : ev 159 95 (some (.ref x) :: L) (st) h = ev 159 96 (some (.ref x) :: L) (.ref x :: st) h := G_aload_n f159_95 rfl
theorem f159_96 : fetch 159 96 = some (.aload_n 0, 1) := vtab tk159 54 rfl
theorem e159_96 (L : VL) (st : List Value) (h : VG) (x : Nat) : ev 159 96 (some (.ref x) :: L) (st) h = ev 159 97 (some (.ref x) :: L) (.ref x :: st) h := G_aload_n f159_96 rfl
theorem f159_97 : fetch 159 97 = some (.getfield 27, 3) := vtab tk159 55 rfl
theorem e159_97 (L : VL) (st : List Value) (h : VG) (a : Nat) (ho : ob h a 11) (hr : isR h a 7) : ev 159 97 L (.ref a :: st) h = ev 159 100 L (.ref (gR h a 7) :: st) h := G_getR (p := 1020) f159_97 lkF_12_27 (by decide) (by decide) ho hr
theorem f159_100 : fetch 159 100 = some (.iload_n 1, 1) := vtab tk159 56 rfl
theorem e159_100 (l0 : Option Value) (L : VL) (st : List Value) (h : VG) (x : Int32) : ev 159 100 (l0 :: some (.int x) :: L) (st) h = ev 159 101 (l0 :: some (.int x) :: L) (.int x :: st) h := G_iload_n f159_100 rfl
theorem f159_101 : fetch 159 101 = some (.iconst 1, 1) := vtab tk159 57 rfl
theorem e159_101 (L : VL) (st : List Value) (h : VG) : ev 159 101 L (st) h = ev 159 102 L (.int (1 : Int32) :: st) h := G_iconst f159_101 (by decide)
theorem f159_102 : fetch 159 102 = some (.iadd, 1) := vtab tk159 58 rfl
theorem e159_102 (L : VL) (st : List Value) (h : VG) (x y : Int32) : ev 159 102 L (.int y :: .int x :: st) h = ev 159 103 L (.int (x + y) :: st) h := G_iadd f159_102
theorem f159_103 : fetch 159 103 = some (.iaload, 1) := vtab tk159 59 rfl
theorem e159_103 (L : VL) (st : List Value) (h : VG) (a : Nat) (i : Int32) (ha : rdI h a) (hi : vp_in i (aln h a)) : ev 159 103 L (.int i :: .ref a :: st) h = ev 159 104 L (.int (aI h a i.toNatClampNeg) :: st) h := G_iald' f159_103 ha hi
theorem f159_104 : fetch 159 104 = some (.putfield 232, 3) := vtab tk159 60 rfl
theorem e159_104 (L : VL) (st : List Value) (h : VG) (a : Nat) (x : Int32) (ho : ob h a 11) : ev 159 104 L (.int x :: .ref a :: st) h = ev 159 107 L (st) (pI h a 25 x) := G_putI (p := 1038) f159_104 lkF_12_232 (by decide) (by decide) (by decide +kernel) ⟨rfl, rfl⟩ ho
theorem f159_107 : fetch 159 107 = some (.aload_n 0, 1) := vtab tk159 61 rfl
theorem e159_107 (L : VL) (st : List Value) (h : VG) (x : Nat) : ev 159 107 (some (.ref x) :: L) (st) h = ev 159 108 (some (.ref x) :: L) (.ref x :: st) h := G_aload_n f159_107 rfl
theorem f159_108 : fetch 159 108 = some (.getfield 232, 3) := vtab tk159 62 rfl
theorem e159_108 (L : VL) (st : List Value) (h : VG) (a : Nat) (ho : ob h a 11) : ev 159 108 L (.ref a :: st) h = ev 159 111 L (.int (gI h a 25) :: st) h := G_getI (p := 1038) f159_108 lkF_12_232 (by decide) (by decide) ho
theorem f159_111 : fetch 159 111 = some (.iconst 1, 1) := vtab tk159 63 rfl
theorem e159_111 (L : VL) (st : List Value) (h : VG) : ev 159 111 L (st) h = ev 159 112 L (.int (1 : Int32) :: st) h := G_iconst f159_111 (by decide)
theorem f159_112 : fetch 159 112 = some (.sipush 256, 3) := vtab tk159 64 rfl
theorem e159_112 (L : VL) (st : List Value) (h : VG) : ev 159 112 L (st) h = ev 159 115 L (.int (256 : Int32) :: st) h := G_sipush f159_112 (by decide)
theorem f159_115 : fetch 159 115 = some (.invokestatic 260, 3) := vtab tk159 65 rfl
theorem e159_115 (L : VL) (st : List Value) (h : VG) (x0 : Int32) (x1 : Int32) (x2 : Int32) (hs : catS st ≤ 8) : ev 159 115 L (.int x2 :: .int x1 :: .int x0 :: st) h = (ev 162 0 [some (.int x0), some (.int x1), some (.int x2)] [] h).bind fun q => ev 159 118 L (q.1.toList ++ st) q.2 := G_calls (k := 0) (p := 1286) (ars := [.int x0, .int x1, .int x2]) f159_115 lkC_12_260 (by decide) (by decide +kernel) rfl (Nat.le_of_ble_eq_true rfl) hs rfl
theorem f159_118 : fetch 159 118 = some (.ifCond .ne 11, 3) := vtab tk159 66 rfl
theorem e159_118 (L : VL) (st : List Value) (h : VG) (x : Int32) : ev 159 118 L (.int x :: st) h = if x = 0 then ev 159 121 L st h else ev 159 129 L st h := G_if_ne f159_118 (by decide)
theorem f159_121 : fetch 159 121 = some (.aload_n 0, 1) := vtab tk159 67 rfl
theorem e159_121 (L : VL) (st : List Value) (h : VG) (x : Nat) : ev 159 121 (some (.ref x) :: L) (st) h = ev 159 122 (some (.ref x) :: L) (.ref x :: st) h := G_aload_n f159_121 rfl
theorem f159_122 : fetch 159 122 = some (.iconst 5, 1) := vtab tk159 68 rfl
theorem e159_122 (L : VL) (st : List Value) (h : VG) : ev 159 122 L (st) h = ev 159 123 L (.int (5 : Int32) :: st) h := G_iconst f159_122 (by decide)
theorem f159_123 : fetch 159 123 = some (.iload_n 1, 1) := vtab tk159 69 rfl
theorem e159_123 (l0 : Option Value) (L : VL) (st : List Value) (h : VG) (x : Int32) : ev 159 123 (l0 :: some (.int x) :: L) (st) h = ev 159 124 (l0 :: some (.int x) :: L) (.int x :: st) h := G_iload_n f159_123 rfl
theorem f159_124 : fetch 159 124 = some (.iconst 1, 1) := vtab tk159 70 rfl
theorem e159_124 (L : VL) (st : List Value) (h : VG) : ev 159 124 L (st) h = ev 159 125 L (.int (1 : Int32) :: st) h := G_iconst f159_124 (by decide)
theorem f159_125 : fetch 159 125 = some (.iadd, 1) := vtab tk159 71 rfl
theorem e159_125 (L : VL) (st : List Value) (h : VG) (x y : Int32) : ev 159 125 L (.int y :: .int x :: st) h = ev 159 126 L (.int (x + y) :: st) h := G_iadd f159_125
theorem f159_126 : fetch 159 126 = some (.invokevirtual 264, 3) := vtab tk159 72 rfl
theorem e159_126 (L : VL) (st : List Value) (h : VG) (b : Nat) (x0 : Int32) (x1 : Int32) (ho : ob h b 11) (hs : catS st ≤ 8) : ev 159 126 L (.int x1 :: .int x0 :: .ref b :: st) h = (ev 150 0 [some (.ref b), some (.int x0), some (.int x1), none] [] h).bind fun q => ev 159 129 L (q.1.toList ++ st) q.2 := G_callv (k := 1) (p := 1289) (ars := [.int x0, .int x1]) f159_126 lkC_12_264 (by decide) (by decide +kernel) rfl (vcls_ob (ci := 11) (by decide) ho) (Nat.le_of_ble_eq_true rfl) hs rfl
theorem f159_129 : fetch 159 129 = some (.aload_n 0, 1) := vtab tk159 73 rfl
theorem e159_129 (L : VL) (st : List Value) (h : VG) (x : Nat) : ev 159 129 (some (.ref x) :: L) (st) h = ev 159 130 (some (.ref x) :: L) (.ref x :: st) h := G_aload_n f159_129 rfl
theorem f159_130 : fetch 159 130 = some (.getfield 20, 3) := vtab tk159 74 rfl
theorem e159_130 (L : VL) (st : List Value) (h : VG) (a : Nat) (ho : ob h a 11) (hr : isR h a 5) : ev 159 130 L (.ref a :: st) h = ev 159 133 L (.ref (gR h a 5) :: st) h := G_getR (p := 1018) f159_130 lkF_12_20 (by decide) (by decide) ho hr
theorem f159_133 : fetch 159 133 = some (.iload_n 1, 1) := vtab tk159 75 rfl
theorem e159_133 (l0 : Option Value) (L : VL) (st : List Value) (h : VG) (x : Int32) : ev 159 133 (l0 :: some (.int x) :: L) (st) h = ev 159 134 (l0 :: some (.int x) :: L) (.int x :: st) h := G_iload_n f159_133 rfl
theorem f159_134 : fetch 159 134 = some (.iaload, 1) := vtab tk159 76 rfl
theorem e159_134 (L : VL) (st : List Value) (h : VG) (a : Nat) (i : Int32) (ha : rdI h a) (hi : vp_in i (aln h a)) : ev 159 134 L (.int i :: .ref a :: st) h = ev 159 135 L (.int (aI h a i.toNatClampNeg) :: st) h := G_iald' f159_134 ha hi
theorem f159_135 : fetch 159 135 = some (.bipush 22, 2) := vtab tk159 77 rfl
theorem e159_135 (L : VL) (st : List Value) (h : VG) : ev 159 135 L (st) h = ev 159 137 L (.int (22 : Int32) :: st) h := G_bipush f159_135 (by decide)
theorem f159_137 : fetch 159 137 = some (.if_icmp .ne 8, 3) := vtab tk159 78 rfl
theorem e159_137 (L : VL) (st : List Value) (h : VG) (x y : Int32) : ev 159 137 L (.int y :: .int x :: st) h = if x = y then ev 159 140 L st h else ev 159 145 L st h := G_icmp_ne f159_137 (by decide)
theorem f159_140 : fetch 159 140 = some (.aload_n 0, 1) := vtab tk159 79 rfl
theorem e159_140 (L : VL) (st : List Value) (h : VG) (x : Nat) : ev 159 140 (some (.ref x) :: L) (st) h = ev 159 141 (some (.ref x) :: L) (.ref x :: st) h := G_aload_n f159_140 rfl
theorem f159_141 : fetch 159 141 = some (.iload_n 1, 1) := vtab tk159 80 rfl
theorem e159_141 (l0 : Option Value) (L : VL) (st : List Value) (h : VG) (x : Int32) : ev 159 141 (l0 :: some (.int x) :: L) (st) h = ev 159 142 (l0 :: some (.int x) :: L) (.int x :: st) h := G_iload_n f159_141 rfl
theorem f159_142 : fetch 159 142 = some (.invokevirtual 268, 3) := vtab tk159 81 rfl
theorem e159_142 (L : VL) (st : List Value) (h : VG) (b : Nat) (x0 : Int32) (ho : ob h b 11) (hs : catS st ≤ 8) : ev 159 142 L (.int x0 :: .ref b :: st) h = (ev 160 0 [some (.ref b), some (.int x0), none, none] [] h).bind fun q => ev 159 145 L (q.1.toList ++ st) q.2 := G_callv (k := 1) (p := 1293) (ars := [.int x0]) f159_142 lkC_12_268 (by decide) (by decide +kernel) rfl (vcls_ob (ci := 11) (by decide) ho) (Nat.le_of_ble_eq_true rfl) hs rfl
theorem f159_145 : fetch 159 145 = some (.aload_n 0, 1) := vtab tk159 82 rfl
theorem e159_145 (L : VL) (st : List Value) (h : VG) (x : Nat) : ev 159 145 (some (.ref x) :: L) (st) h = ev 159 146 (some (.ref x) :: L) (.ref x :: st) h := G_aload_n f159_145 rfl
theorem f159_146 : fetch 159 146 = some (.getfield 20, 3) := vtab tk159 83 rfl
theorem e159_146 (L : VL) (st : List Value) (h : VG) (a : Nat) (ho : ob h a 11) (hr : isR h a 5) : ev 159 146 L (.ref a :: st) h = ev 159 149 L (.ref (gR h a 5) :: st) h := G_getR (p := 1018) f159_146 lkF_12_20 (by decide) (by decide) ho hr
theorem f159_149 : fetch 159 149 = some (.iload_n 1, 1) := vtab tk159 84 rfl
theorem e159_149 (l0 : Option Value) (L : VL) (st : List Value) (h : VG) (x : Int32) : ev 159 149 (l0 :: some (.int x) :: L) (st) h = ev 159 150 (l0 :: some (.int x) :: L) (.int x :: st) h := G_iload_n f159_149 rfl
theorem f159_150 : fetch 159 150 = some (.iaload, 1) := vtab tk159 85 rfl
theorem e159_150 (L : VL) (st : List Value) (h : VG) (a : Nat) (i : Int32) (ha : rdI h a) (hi : vp_in i (aln h a)) : ev 159 150 L (.int i :: .ref a :: st) h = ev 159 151 L (.int (aI h a i.toNatClampNeg) :: st) h := G_iald' f159_150 ha hi
theorem f159_151 : fetch 159 151 = some (.bipush 23, 2) := vtab tk159 86 rfl
theorem e159_151 (L : VL) (st : List Value) (h : VG) : ev 159 151 L (st) h = ev 159 153 L (.int (23 : Int32) :: st) h := G_bipush f159_151 (by decide)
theorem f159_153 : fetch 159 153 = some (.if_icmp .ne 8, 3) := vtab tk159 87 rfl
theorem e159_153 (L : VL) (st : List Value) (h : VG) (x y : Int32) : ev 159 153 L (.int y :: .int x :: st) h = if x = y then ev 159 156 L st h else ev 159 161 L st h := G_icmp_ne f159_153 (by decide)
theorem f159_156 : fetch 159 156 = some (.aload_n 0, 1) := vtab tk159 88 rfl
theorem e159_156 (L : VL) (st : List Value) (h : VG) (x : Nat) : ev 159 156 (some (.ref x) :: L) (st) h = ev 159 157 (some (.ref x) :: L) (.ref x :: st) h := G_aload_n f159_156 rfl
theorem f159_157 : fetch 159 157 = some (.iload_n 1, 1) := vtab tk159 89 rfl
theorem e159_157 (l0 : Option Value) (L : VL) (st : List Value) (h : VG) (x : Int32) : ev 159 157 (l0 :: some (.int x) :: L) (st) h = ev 159 158 (l0 :: some (.int x) :: L) (.int x :: st) h := G_iload_n f159_157 rfl
theorem f159_158 : fetch 159 158 = some (.invokevirtual 271, 3) := vtab tk159 90 rfl
theorem e159_158 (L : VL) (st : List Value) (h : VG) (b : Nat) (x0 : Int32) (ho : ob h b 11) (hs : catS st ≤ 8) : ev 159 158 L (.int x0 :: .ref b :: st) h = (ev 161 0 [some (.ref b), some (.int x0), none, none, none] [] h).bind fun q => ev 159 161 L (q.1.toList ++ st) q.2 := G_callv (k := 1) (p := 1297) (ars := [.int x0]) f159_158 lkC_12_271 (by decide) (by decide +kernel) rfl (vcls_ob (ci := 11) (by decide) ho) (Nat.le_of_ble_eq_true rfl) hs rfl
theorem f159_161 : fetch 159 161 = some (.iinc 1 1, 3) := vtab tk159 91 rfl
theorem e159_161 (l0 : Option Value) (L : VL) (st : List Value) (h : VG) (x : Int32) : ev 159 161 (l0 :: some (.int x) :: L) (st) h = ev 159 164 (vkk l0 :: some (.int (x + (1 : Int32))) :: L) (st) h := G_iinc f159_161 rfl (by decide) (S1_1 l0 (some (.int x)) L _)
theorem f159_164 : fetch 159 164 = some (.goto (-123), 3) := vtab tk159 92 rfl
theorem e159_164 (L : VL) (st : List Value) (h : VG) : ev 159 164 L (st) h = ev 159 41 L (st) h := G_goto f159_164 (by decide)
theorem f159_167 : fetch 159 167 = some (.return_, 1) := vtab tk159 93 rfl
theorem e159_167 (L : VL) (h : VG) : ev 159 167 L [] h = some (none, h) := G_vret f159_167 (by decide)
/-! 160 GuestCallsModel.meansForm(I)V -/
def tb160 : List (Nat × Instr × Nat) := [(0, .iconst 0, 1), (1, .istore_n 2, 1), (2, .iload_n 2, 1), (3, .iload_n 1, 1), (4, .if_icmp .ge 48, 3), (7, .aload_n 0, 1), (8, .getfield 20, 3), (11, .iload_n 2, 1), (12, .iaload, 1), (13, .bipush 22, 2), (15, .if_icmp .ne 31, 3), (18, .aload_n 0, 1), (19, .getfield 30, 3), (22, .iload_n 2, 1), (23, .iconst 1, 1), (24, .iadd, 1), (25, .laload, 1), (26, .aload_n 0, 1), (27, .getfield 30, 3), (30, .iload_n 1, 1), (31, .iconst 1, 1), (32, .iadd, 1), (33, .laload, 1), (34, .lcmp, 1), (35, .ifCond .ne 11, 3), (38, .aload_n 0, 1), (39, .iconst 3, 1), (40, .iload_n 1, 1), (41, .iconst 1, 1), (42, .iadd, 1), (43, .invokevirtual 264, 3), (46, .iinc 2 1, 3), (49, .goto (-47), 3), (52, .iconst 0, 1), (53, .istore_n 2, 1), (54, .iload_n 1, 1), (55, .iconst 2, 1), (56, .iadd, 1), (57, .istore_n 3, 1), (58, .aload_n 0, 1), (59, .getfield 20, 3), (62, .iload_n 3, 1), (63, .iaload, 1), (64, .iconst 4, 1), (65, .if_icmp .eq 105, 3), (68, .aload_n 0, 1), (69, .getfield 20, 3), (72, .iload_n 3, 1), (73, .iaload, 1), (74, .iconst 2, 1), (75, .if_icmp .ne 48, 3), (78, .aload_n 0, 1), (79, .getfield 61, 3), (82, .bipush 8, 2), (84, .aload_n 0, 1), (85, .getfield 216, 3), (88, .imul, 1), (89, .iload_n 2, 1), (90, .iadd, 1), (91, .iconst 1, 1), (92, .isub, 1), (93, .aload_n 0, 1), (94, .getfield 27, 3), (97, .iload_n 3, 1), (98, .iaload, 1), (99, .iastore, 1), (100, .aload_n 0, 1), (101, .getfield 27, 3), (104, .iload_n 3, 1), (105, .iaload, 1), (106, .iconst 1, 1), (107, .iconst 4, 1), (108, .invokestatic 260, 3), (111, .ifCond .ne 53, 3), (114, .aload_n 0, 1), (115, .iconst 5, 1), (116, .iload_n 3, 1), (117, .invokevirtual 264, 3), (120, .goto 44, 3), (123, .aload_n 0, 1), (124, .getfield 58, 3), (127, .bipush 8, 2), (129, .aload_n 0, 1), (130, .getfield 216, 3), (133, .imul, 1), (134, .iload_n 2, 1), (135, .iadd, 1), (136, .aload_n 0, 1), (137, .getfield 20, 3), (140, .iload_n 3, 1), (141, .iaload, 1), (142, .bipush 24, 2), (144, .isub, 1), (145, .iastore, 1), (146, .aload_n 0, 1), (147, .getfield 61, 3), (150, .bipush 8, 2), (152, .aload_n 0, 1), (153, .getfield 216, 3), (156, .imul, 1), (157, .iload_n 2, 1), (158, .iadd, 1), (159, .iconst 1, 1), (160, .iastore, 1), (161, .iinc 2 1, 3), (164, .iinc 3 1, 3), (167, .goto (-109), 3), (170, .aload_n 0, 1), (171, .getfield 55, 3), (174, .aload_n 0, 1), (175, .getfield 216, 3), (178, .iload_n 2, 1), (179, .iastore, 1), (180, .aload_n 0, 1), (181, .dup, 1), (182, .getfield 216, 3), (185, .iconst 1, 1), (186, .iadd, 1), (187, .putfield 216, 3), (190, .return_, 1)]
theorem tk160 : tb160.all (fun q => decide (fetch 160 q.1 = some q.2)) = true := by decide +kernel
theorem f160_0 : fetch 160 0 = some (.iconst 0, 1) := vtab tk160 0 rfl
theorem e160_0 (L : VL) (st : List Value) (h : VG) : ev 160 0 L (st) h = ev 160 1 L (.int (0 : Int32) :: st) h := G_iconst f160_0 (by decide)
theorem f160_1 : fetch 160 1 = some (.istore_n 2, 1) := vtab tk160 1 rfl
theorem e160_1 (l0 l1 l2 : Option Value) (L : VL) (st : List Value) (h : VG) (x : Int32) : ev 160 1 (l0 :: l1 :: l2 :: L) (.int x :: st) h = ev 160 2 (l0 :: vkk l1 :: some (.int x) :: L) (st) h := G_istore_n f160_1 rfl (S1_2 l0 l1 l2 L _)
theorem f160_2 : fetch 160 2 = some (.iload_n 2, 1) := vtab tk160 2 rfl
theorem e160_2 (l0 l1 : Option Value) (L : VL) (st : List Value) (h : VG) (x : Int32) : ev 160 2 (l0 :: l1 :: some (.int x) :: L) (st) h = ev 160 3 (l0 :: l1 :: some (.int x) :: L) (.int x :: st) h := G_iload_n f160_2 rfl
theorem f160_3 : fetch 160 3 = some (.iload_n 1, 1) := vtab tk160 3 rfl
theorem e160_3 (l0 : Option Value) (L : VL) (st : List Value) (h : VG) (x : Int32) : ev 160 3 (l0 :: some (.int x) :: L) (st) h = ev 160 4 (l0 :: some (.int x) :: L) (.int x :: st) h := G_iload_n f160_3 rfl
theorem f160_4 : fetch 160 4 = some (.if_icmp .ge 48, 3) := vtab tk160 4 rfl
theorem e160_4 (L : VL) (st : List Value) (h : VG) (x y : Int32) : ev 160 4 L (.int y :: .int x :: st) h = if x < y then ev 160 7 L st h else ev 160 52 L st h := G_icmp_ge f160_4 (by decide)
theorem f160_7 : fetch 160 7 = some (.aload_n 0, 1) := vtab tk160 5 rfl
theorem e160_7 (L : VL) (st : List Value) (h : VG) (x : Nat) : ev 160 7 (some (.ref x) :: L) (st) h = ev 160 8 (some (.ref x) :: L) (.ref x :: st) h := G_aload_n f160_7 rfl
theorem f160_8 : fetch 160 8 = some (.getfield 20, 3) := vtab tk160 6 rfl
theorem e160_8 (L : VL) (st : List Value) (h : VG) (a : Nat) (ho : ob h a 11) (hr : isR h a 5) : ev 160 8 L (.ref a :: st) h = ev 160 11 L (.ref (gR h a 5) :: st) h := G_getR (p := 1018) f160_8 lkF_12_20 (by decide) (by decide) ho hr
theorem f160_11 : fetch 160 11 = some (.iload_n 2, 1) := vtab tk160 7 rfl
theorem e160_11 (l0 l1 : Option Value) (L : VL) (st : List Value) (h : VG) (x : Int32) : ev 160 11 (l0 :: l1 :: some (.int x) :: L) (st) h = ev 160 12 (l0 :: l1 :: some (.int x) :: L) (.int x :: st) h := G_iload_n f160_11 rfl
theorem f160_12 : fetch 160 12 = some (.iaload, 1) := vtab tk160 8 rfl
theorem e160_12 (L : VL) (st : List Value) (h : VG) (a : Nat) (i : Int32) (ha : rdI h a) (hi : vp_in i (aln h a)) : ev 160 12 L (.int i :: .ref a :: st) h = ev 160 13 L (.int (aI h a i.toNatClampNeg) :: st) h := G_iald' f160_12 ha hi
theorem f160_13 : fetch 160 13 = some (.bipush 22, 2) := vtab tk160 9 rfl
theorem e160_13 (L : VL) (st : List Value) (h : VG) : ev 160 13 L (st) h = ev 160 15 L (.int (22 : Int32) :: st) h := G_bipush f160_13 (by decide)
theorem f160_15 : fetch 160 15 = some (.if_icmp .ne 31, 3) := vtab tk160 10 rfl
theorem e160_15 (L : VL) (st : List Value) (h : VG) (x y : Int32) : ev 160 15 L (.int y :: .int x :: st) h = if x = y then ev 160 18 L st h else ev 160 46 L st h := G_icmp_ne f160_15 (by decide)
theorem f160_18 : fetch 160 18 = some (.aload_n 0, 1) := vtab tk160 11 rfl
theorem e160_18 (L : VL) (st : List Value) (h : VG) (x : Nat) : ev 160 18 (some (.ref x) :: L) (st) h = ev 160 19 (some (.ref x) :: L) (.ref x :: st) h := G_aload_n f160_18 rfl
theorem f160_19 : fetch 160 19 = some (.getfield 30, 3) := vtab tk160 12 rfl
theorem e160_19 (L : VL) (st : List Value) (h : VG) (a : Nat) (ho : ob h a 11) (hr : isR h a 8) : ev 160 19 L (.ref a :: st) h = ev 160 22 L (.ref (gR h a 8) :: st) h := G_getR (p := 1021) f160_19 lkF_12_30 (by decide) (by decide) ho hr
theorem f160_22 : fetch 160 22 = some (.iload_n 2, 1) := vtab tk160 13 rfl
theorem e160_22 (l0 l1 : Option Value) (L : VL) (st : List Value) (h : VG) (x : Int32) : ev 160 22 (l0 :: l1 :: some (.int x) :: L) (st) h = ev 160 23 (l0 :: l1 :: some (.int x) :: L) (.int x :: st) h := G_iload_n f160_22 rfl
theorem f160_23 : fetch 160 23 = some (.iconst 1, 1) := vtab tk160 14 rfl
theorem e160_23 (L : VL) (st : List Value) (h : VG) : ev 160 23 L (st) h = ev 160 24 L (.int (1 : Int32) :: st) h := G_iconst f160_23 (by decide)
theorem f160_24 : fetch 160 24 = some (.iadd, 1) := vtab tk160 15 rfl
theorem e160_24 (L : VL) (st : List Value) (h : VG) (x y : Int32) : ev 160 24 L (.int y :: .int x :: st) h = ev 160 25 L (.int (x + y) :: st) h := G_iadd f160_24
theorem f160_25 : fetch 160 25 = some (.laload, 1) := vtab tk160 16 rfl
theorem e160_25 (L : VL) (st : List Value) (h : VG) (a : Nat) (i : Int32) (ha : arL h a) (hi : vp_in i (aln h a)) : ev 160 25 L (.int i :: .ref a :: st) h = ev 160 26 L (.long (aL h a i.toNatClampNeg) :: st) h := G_lald f160_25 ha hi
theorem f160_26 : fetch 160 26 = some (.aload_n 0, 1) := vtab tk160 17 rfl
theorem e160_26 (L : VL) (st : List Value) (h : VG) (x : Nat) : ev 160 26 (some (.ref x) :: L) (st) h = ev 160 27 (some (.ref x) :: L) (.ref x :: st) h := G_aload_n f160_26 rfl
theorem f160_27 : fetch 160 27 = some (.getfield 30, 3) := vtab tk160 18 rfl
theorem e160_27 (L : VL) (st : List Value) (h : VG) (a : Nat) (ho : ob h a 11) (hr : isR h a 8) : ev 160 27 L (.ref a :: st) h = ev 160 30 L (.ref (gR h a 8) :: st) h := G_getR (p := 1021) f160_27 lkF_12_30 (by decide) (by decide) ho hr
theorem f160_30 : fetch 160 30 = some (.iload_n 1, 1) := vtab tk160 19 rfl
theorem e160_30 (l0 : Option Value) (L : VL) (st : List Value) (h : VG) (x : Int32) : ev 160 30 (l0 :: some (.int x) :: L) (st) h = ev 160 31 (l0 :: some (.int x) :: L) (.int x :: st) h := G_iload_n f160_30 rfl
theorem f160_31 : fetch 160 31 = some (.iconst 1, 1) := vtab tk160 20 rfl
theorem e160_31 (L : VL) (st : List Value) (h : VG) : ev 160 31 L (st) h = ev 160 32 L (.int (1 : Int32) :: st) h := G_iconst f160_31 (by decide)
theorem f160_32 : fetch 160 32 = some (.iadd, 1) := vtab tk160 21 rfl
theorem e160_32 (L : VL) (st : List Value) (h : VG) (x y : Int32) : ev 160 32 L (.int y :: .int x :: st) h = ev 160 33 L (.int (x + y) :: st) h := G_iadd f160_32
theorem f160_33 : fetch 160 33 = some (.laload, 1) := vtab tk160 22 rfl
theorem e160_33 (L : VL) (st : List Value) (h : VG) (a : Nat) (i : Int32) (ha : arL h a) (hi : vp_in i (aln h a)) : ev 160 33 L (.int i :: .ref a :: st) h = ev 160 34 L (.long (aL h a i.toNatClampNeg) :: st) h := G_lald f160_33 ha hi
theorem f160_34 : fetch 160 34 = some (.lcmp, 1) := vtab tk160 23 rfl
theorem e160_34 (L : VL) (st : List Value) (h : VG) (x y : Int64) : ev 160 34 L (.long y :: .long x :: st) h = ev 160 35 L (.int (lg_cmp x y) :: st) h := G_lcmp f160_34
theorem f160_35 : fetch 160 35 = some (.ifCond .ne 11, 3) := vtab tk160 24 rfl
theorem e160_35 (L : VL) (st : List Value) (h : VG) (x : Int32) : ev 160 35 L (.int x :: st) h = if x = 0 then ev 160 38 L st h else ev 160 46 L st h := G_if_ne f160_35 (by decide)
theorem f160_38 : fetch 160 38 = some (.aload_n 0, 1) := vtab tk160 25 rfl
theorem e160_38 (L : VL) (st : List Value) (h : VG) (x : Nat) : ev 160 38 (some (.ref x) :: L) (st) h = ev 160 39 (some (.ref x) :: L) (.ref x :: st) h := G_aload_n f160_38 rfl
theorem f160_39 : fetch 160 39 = some (.iconst 3, 1) := vtab tk160 26 rfl
theorem e160_39 (L : VL) (st : List Value) (h : VG) : ev 160 39 L (st) h = ev 160 40 L (.int (3 : Int32) :: st) h := G_iconst f160_39 (by decide)
theorem f160_40 : fetch 160 40 = some (.iload_n 1, 1) := vtab tk160 27 rfl
theorem e160_40 (l0 : Option Value) (L : VL) (st : List Value) (h : VG) (x : Int32) : ev 160 40 (l0 :: some (.int x) :: L) (st) h = ev 160 41 (l0 :: some (.int x) :: L) (.int x :: st) h := G_iload_n f160_40 rfl
theorem f160_41 : fetch 160 41 = some (.iconst 1, 1) := vtab tk160 28 rfl
theorem e160_41 (L : VL) (st : List Value) (h : VG) : ev 160 41 L (st) h = ev 160 42 L (.int (1 : Int32) :: st) h := G_iconst f160_41 (by decide)
theorem f160_42 : fetch 160 42 = some (.iadd, 1) := vtab tk160 29 rfl
theorem e160_42 (L : VL) (st : List Value) (h : VG) (x y : Int32) : ev 160 42 L (.int y :: .int x :: st) h = ev 160 43 L (.int (x + y) :: st) h := G_iadd f160_42
theorem f160_43 : fetch 160 43 = some (.invokevirtual 264, 3) := vtab tk160 30 rfl
theorem e160_43 (L : VL) (st : List Value) (h : VG) (b : Nat) (x0 : Int32) (x1 : Int32) (ho : ob h b 11) (hs : catS st ≤ 8) : ev 160 43 L (.int x1 :: .int x0 :: .ref b :: st) h = (ev 150 0 [some (.ref b), some (.int x0), some (.int x1), none] [] h).bind fun q => ev 160 46 L (q.1.toList ++ st) q.2 := G_callv (k := 1) (p := 1289) (ars := [.int x0, .int x1]) f160_43 lkC_12_264 (by decide) (by decide +kernel) rfl (vcls_ob (ci := 11) (by decide) ho) (Nat.le_of_ble_eq_true rfl) hs rfl
theorem f160_46 : fetch 160 46 = some (.iinc 2 1, 3) := vtab tk160 31 rfl
theorem e160_46 (l0 l1 : Option Value) (L : VL) (st : List Value) (h : VG) (x : Int32) : ev 160 46 (l0 :: l1 :: some (.int x) :: L) (st) h = ev 160 49 (l0 :: vkk l1 :: some (.int (x + (1 : Int32))) :: L) (st) h := G_iinc f160_46 rfl (by decide) (S1_2 l0 l1 (some (.int x)) L _)
theorem f160_49 : fetch 160 49 = some (.goto (-47), 3) := vtab tk160 32 rfl
theorem e160_49 (L : VL) (st : List Value) (h : VG) : ev 160 49 L (st) h = ev 160 2 L (st) h := G_goto f160_49 (by decide)
theorem f160_52 : fetch 160 52 = some (.iconst 0, 1) := vtab tk160 33 rfl
theorem e160_52 (L : VL) (st : List Value) (h : VG) : ev 160 52 L (st) h = ev 160 53 L (.int (0 : Int32) :: st) h := G_iconst f160_52 (by decide)
theorem f160_53 : fetch 160 53 = some (.istore_n 2, 1) := vtab tk160 34 rfl
theorem e160_53 (l0 l1 l2 : Option Value) (L : VL) (st : List Value) (h : VG) (x : Int32) : ev 160 53 (l0 :: l1 :: l2 :: L) (.int x :: st) h = ev 160 54 (l0 :: vkk l1 :: some (.int x) :: L) (st) h := G_istore_n f160_53 rfl (S1_2 l0 l1 l2 L _)
theorem f160_54 : fetch 160 54 = some (.iload_n 1, 1) := vtab tk160 35 rfl
theorem e160_54 (l0 : Option Value) (L : VL) (st : List Value) (h : VG) (x : Int32) : ev 160 54 (l0 :: some (.int x) :: L) (st) h = ev 160 55 (l0 :: some (.int x) :: L) (.int x :: st) h := G_iload_n f160_54 rfl
theorem f160_55 : fetch 160 55 = some (.iconst 2, 1) := vtab tk160 36 rfl
theorem e160_55 (L : VL) (st : List Value) (h : VG) : ev 160 55 L (st) h = ev 160 56 L (.int (2 : Int32) :: st) h := G_iconst f160_55 (by decide)
theorem f160_56 : fetch 160 56 = some (.iadd, 1) := vtab tk160 37 rfl
theorem e160_56 (L : VL) (st : List Value) (h : VG) (x y : Int32) : ev 160 56 L (.int y :: .int x :: st) h = ev 160 57 L (.int (x + y) :: st) h := G_iadd f160_56
theorem f160_57 : fetch 160 57 = some (.istore_n 3, 1) := vtab tk160 38 rfl
theorem e160_57 (l0 l1 l2 l3 : Option Value) (L : VL) (st : List Value) (h : VG) (x : Int32) : ev 160 57 (l0 :: l1 :: l2 :: l3 :: L) (.int x :: st) h = ev 160 58 (l0 :: l1 :: vkk l2 :: some (.int x) :: L) (st) h := G_istore_n f160_57 rfl (S1_3 l0 l1 l2 l3 L _)
theorem f160_58 : fetch 160 58 = some (.aload_n 0, 1) := vtab tk160 39 rfl
theorem e160_58 (L : VL) (st : List Value) (h : VG) (x : Nat) : ev 160 58 (some (.ref x) :: L) (st) h = ev 160 59 (some (.ref x) :: L) (.ref x :: st) h := G_aload_n f160_58 rfl
theorem f160_59 : fetch 160 59 = some (.getfield 20, 3) := vtab tk160 40 rfl
theorem e160_59 (L : VL) (st : List Value) (h : VG) (a : Nat) (ho : ob h a 11) (hr : isR h a 5) : ev 160 59 L (.ref a :: st) h = ev 160 62 L (.ref (gR h a 5) :: st) h := G_getR (p := 1018) f160_59 lkF_12_20 (by decide) (by decide) ho hr
theorem f160_62 : fetch 160 62 = some (.iload_n 3, 1) := vtab tk160 41 rfl
theorem e160_62 (l0 l1 l2 : Option Value) (L : VL) (st : List Value) (h : VG) (x : Int32) : ev 160 62 (l0 :: l1 :: l2 :: some (.int x) :: L) (st) h = ev 160 63 (l0 :: l1 :: l2 :: some (.int x) :: L) (.int x :: st) h := G_iload_n f160_62 rfl
theorem f160_63 : fetch 160 63 = some (.iaload, 1) := vtab tk160 42 rfl
theorem e160_63 (L : VL) (st : List Value) (h : VG) (a : Nat) (i : Int32) (ha : rdI h a) (hi : vp_in i (aln h a)) : ev 160 63 L (.int i :: .ref a :: st) h = ev 160 64 L (.int (aI h a i.toNatClampNeg) :: st) h := G_iald' f160_63 ha hi
theorem f160_64 : fetch 160 64 = some (.iconst 4, 1) := vtab tk160 43 rfl
theorem e160_64 (L : VL) (st : List Value) (h : VG) : ev 160 64 L (st) h = ev 160 65 L (.int (4 : Int32) :: st) h := G_iconst f160_64 (by decide)
theorem f160_65 : fetch 160 65 = some (.if_icmp .eq 105, 3) := vtab tk160 44 rfl
theorem e160_65 (L : VL) (st : List Value) (h : VG) (x y : Int32) : ev 160 65 L (.int y :: .int x :: st) h = if x = y then ev 160 170 L st h else ev 160 68 L st h := G_icmp_eq f160_65 (by decide)
theorem f160_68 : fetch 160 68 = some (.aload_n 0, 1) := vtab tk160 45 rfl
theorem e160_68 (L : VL) (st : List Value) (h : VG) (x : Nat) : ev 160 68 (some (.ref x) :: L) (st) h = ev 160 69 (some (.ref x) :: L) (.ref x :: st) h := G_aload_n f160_68 rfl
theorem f160_69 : fetch 160 69 = some (.getfield 20, 3) := vtab tk160 46 rfl
theorem e160_69 (L : VL) (st : List Value) (h : VG) (a : Nat) (ho : ob h a 11) (hr : isR h a 5) : ev 160 69 L (.ref a :: st) h = ev 160 72 L (.ref (gR h a 5) :: st) h := G_getR (p := 1018) f160_69 lkF_12_20 (by decide) (by decide) ho hr
theorem f160_72 : fetch 160 72 = some (.iload_n 3, 1) := vtab tk160 47 rfl
theorem e160_72 (l0 l1 l2 : Option Value) (L : VL) (st : List Value) (h : VG) (x : Int32) : ev 160 72 (l0 :: l1 :: l2 :: some (.int x) :: L) (st) h = ev 160 73 (l0 :: l1 :: l2 :: some (.int x) :: L) (.int x :: st) h := G_iload_n f160_72 rfl
theorem f160_73 : fetch 160 73 = some (.iaload, 1) := vtab tk160 48 rfl
theorem e160_73 (L : VL) (st : List Value) (h : VG) (a : Nat) (i : Int32) (ha : rdI h a) (hi : vp_in i (aln h a)) : ev 160 73 L (.int i :: .ref a :: st) h = ev 160 74 L (.int (aI h a i.toNatClampNeg) :: st) h := G_iald' f160_73 ha hi
theorem f160_74 : fetch 160 74 = some (.iconst 2, 1) := vtab tk160 49 rfl
theorem e160_74 (L : VL) (st : List Value) (h : VG) : ev 160 74 L (st) h = ev 160 75 L (.int (2 : Int32) :: st) h := G_iconst f160_74 (by decide)
theorem f160_75 : fetch 160 75 = some (.if_icmp .ne 48, 3) := vtab tk160 50 rfl
theorem e160_75 (L : VL) (st : List Value) (h : VG) (x y : Int32) : ev 160 75 L (.int y :: .int x :: st) h = if x = y then ev 160 78 L st h else ev 160 123 L st h := G_icmp_ne f160_75 (by decide)
theorem f160_78 : fetch 160 78 = some (.aload_n 0, 1) := vtab tk160 51 rfl
theorem e160_78 (L : VL) (st : List Value) (h : VG) (x : Nat) : ev 160 78 (some (.ref x) :: L) (st) h = ev 160 79 (some (.ref x) :: L) (.ref x :: st) h := G_aload_n f160_78 rfl
theorem f160_79 : fetch 160 79 = some (.getfield 61, 3) := vtab tk160 52 rfl
theorem e160_79 (L : VL) (st : List Value) (h : VG) (a : Nat) (ho : ob h a 11) (hr : isR h a 29) : ev 160 79 L (.ref a :: st) h = ev 160 82 L (.ref (gR h a 29) :: st) h := G_getR (p := 1042) f160_79 lkF_12_61 (by decide) (by decide) ho hr
theorem f160_82 : fetch 160 82 = some (.bipush 8, 2) := vtab tk160 53 rfl
theorem e160_82 (L : VL) (st : List Value) (h : VG) : ev 160 82 L (st) h = ev 160 84 L (.int (8 : Int32) :: st) h := G_bipush f160_82 (by decide)
theorem f160_84 : fetch 160 84 = some (.aload_n 0, 1) := vtab tk160 54 rfl
theorem e160_84 (L : VL) (st : List Value) (h : VG) (x : Nat) : ev 160 84 (some (.ref x) :: L) (st) h = ev 160 85 (some (.ref x) :: L) (.ref x :: st) h := G_aload_n f160_84 rfl
theorem f160_85 : fetch 160 85 = some (.getfield 216, 3) := vtab tk160 55 rfl
theorem e160_85 (L : VL) (st : List Value) (h : VG) (a : Nat) (ho : ob h a 11) : ev 160 85 L (.ref a :: st) h = ev 160 88 L (.int (gI h a 26) :: st) h := G_getI (p := 1039) f160_85 lkF_12_216 (by decide) (by decide) ho
theorem f160_88 : fetch 160 88 = some (.imul, 1) := vtab tk160 56 rfl
theorem e160_88 (L : VL) (st : List Value) (h : VG) (x y : Int32) : ev 160 88 L (.int y :: .int x :: st) h = ev 160 89 L (.int (x * y) :: st) h := G_imul f160_88
theorem f160_89 : fetch 160 89 = some (.iload_n 2, 1) := vtab tk160 57 rfl
theorem e160_89 (l0 l1 : Option Value) (L : VL) (st : List Value) (h : VG) (x : Int32) : ev 160 89 (l0 :: l1 :: some (.int x) :: L) (st) h = ev 160 90 (l0 :: l1 :: some (.int x) :: L) (.int x :: st) h := G_iload_n f160_89 rfl
theorem f160_90 : fetch 160 90 = some (.iadd, 1) := vtab tk160 58 rfl
theorem e160_90 (L : VL) (st : List Value) (h : VG) (x y : Int32) : ev 160 90 L (.int y :: .int x :: st) h = ev 160 91 L (.int (x + y) :: st) h := G_iadd f160_90
theorem f160_91 : fetch 160 91 = some (.iconst 1, 1) := vtab tk160 59 rfl
theorem e160_91 (L : VL) (st : List Value) (h : VG) : ev 160 91 L (st) h = ev 160 92 L (.int (1 : Int32) :: st) h := G_iconst f160_91 (by decide)
theorem f160_92 : fetch 160 92 = some (.isub, 1) := vtab tk160 60 rfl
theorem e160_92 (L : VL) (st : List Value) (h : VG) (x y : Int32) : ev 160 92 L (.int y :: .int x :: st) h = ev 160 93 L (.int (x - y) :: st) h := G_isub f160_92
theorem f160_93 : fetch 160 93 = some (.aload_n 0, 1) := vtab tk160 61 rfl
theorem e160_93 (L : VL) (st : List Value) (h : VG) (x : Nat) : ev 160 93 (some (.ref x) :: L) (st) h = ev 160 94 (some (.ref x) :: L) (.ref x :: st) h := G_aload_n f160_93 rfl
theorem f160_94 : fetch 160 94 = some (.getfield 27, 3) := vtab tk160 62 rfl
theorem e160_94 (L : VL) (st : List Value) (h : VG) (a : Nat) (ho : ob h a 11) (hr : isR h a 7) : ev 160 94 L (.ref a :: st) h = ev 160 97 L (.ref (gR h a 7) :: st) h := G_getR (p := 1020) f160_94 lkF_12_27 (by decide) (by decide) ho hr
theorem f160_97 : fetch 160 97 = some (.iload_n 3, 1) := vtab tk160 63 rfl
theorem e160_97 (l0 l1 l2 : Option Value) (L : VL) (st : List Value) (h : VG) (x : Int32) : ev 160 97 (l0 :: l1 :: l2 :: some (.int x) :: L) (st) h = ev 160 98 (l0 :: l1 :: l2 :: some (.int x) :: L) (.int x :: st) h := G_iload_n f160_97 rfl
theorem f160_98 : fetch 160 98 = some (.iaload, 1) := vtab tk160 64 rfl
theorem e160_98 (L : VL) (st : List Value) (h : VG) (a : Nat) (i : Int32) (ha : rdI h a) (hi : vp_in i (aln h a)) : ev 160 98 L (.int i :: .ref a :: st) h = ev 160 99 L (.int (aI h a i.toNatClampNeg) :: st) h := G_iald' f160_98 ha hi
theorem f160_99 : fetch 160 99 = some (.iastore, 1) := vtab tk160 65 rfl
theorem e160_99 (L : VL) (st : List Value) (h : VG) (a : Nat) (i : Int32) (x : Int32) (ha : arI h a 0) (hi : vp_in i (aln h a)) : ev 160 99 L (.int x :: .int i :: .ref a :: st) h = ev 160 100 L (st) (wI h a i.toNatClampNeg x) := G_iast f160_99 ha hi
theorem f160_100 : fetch 160 100 = some (.aload_n 0, 1) := vtab tk160 66 rfl
theorem e160_100 (L : VL) (st : List Value) (h : VG) (x : Nat) : ev 160 100 (some (.ref x) :: L) (st) h = ev 160 101 (some (.ref x) :: L) (.ref x :: st) h := G_aload_n f160_100 rfl
theorem f160_101 : fetch 160 101 = some (.getfield 27, 3) := vtab tk160 67 rfl
theorem e160_101 (L : VL) (st : List Value) (h : VG) (a : Nat) (ho : ob h a 11) (hr : isR h a 7) : ev 160 101 L (.ref a :: st) h = ev 160 104 L (.ref (gR h a 7) :: st) h := G_getR (p := 1020) f160_101 lkF_12_27 (by decide) (by decide) ho hr
theorem f160_104 : fetch 160 104 = some (.iload_n 3, 1) := vtab tk160 68 rfl
theorem e160_104 (l0 l1 l2 : Option Value) (L : VL) (st : List Value) (h : VG) (x : Int32) : ev 160 104 (l0 :: l1 :: l2 :: some (.int x) :: L) (st) h = ev 160 105 (l0 :: l1 :: l2 :: some (.int x) :: L) (.int x :: st) h := G_iload_n f160_104 rfl
theorem f160_105 : fetch 160 105 = some (.iaload, 1) := vtab tk160 69 rfl
theorem e160_105 (L : VL) (st : List Value) (h : VG) (a : Nat) (i : Int32) (ha : rdI h a) (hi : vp_in i (aln h a)) : ev 160 105 L (.int i :: .ref a :: st) h = ev 160 106 L (.int (aI h a i.toNatClampNeg) :: st) h := G_iald' f160_105 ha hi
theorem f160_106 : fetch 160 106 = some (.iconst 1, 1) := vtab tk160 70 rfl
theorem e160_106 (L : VL) (st : List Value) (h : VG) : ev 160 106 L (st) h = ev 160 107 L (.int (1 : Int32) :: st) h := G_iconst f160_106 (by decide)
theorem f160_107 : fetch 160 107 = some (.iconst 4, 1) := vtab tk160 71 rfl
theorem e160_107 (L : VL) (st : List Value) (h : VG) : ev 160 107 L (st) h = ev 160 108 L (.int (4 : Int32) :: st) h := G_iconst f160_107 (by decide)
theorem f160_108 : fetch 160 108 = some (.invokestatic 260, 3) := vtab tk160 72 rfl
theorem e160_108 (L : VL) (st : List Value) (h : VG) (x0 : Int32) (x1 : Int32) (x2 : Int32) (hs : catS st ≤ 8) : ev 160 108 L (.int x2 :: .int x1 :: .int x0 :: st) h = (ev 162 0 [some (.int x0), some (.int x1), some (.int x2)] [] h).bind fun q => ev 160 111 L (q.1.toList ++ st) q.2 := G_calls (k := 0) (p := 1286) (ars := [.int x0, .int x1, .int x2]) f160_108 lkC_12_260 (by decide) (by decide +kernel) rfl (Nat.le_of_ble_eq_true rfl) hs rfl
theorem f160_111 : fetch 160 111 = some (.ifCond .ne 53, 3) := vtab tk160 73 rfl
theorem e160_111 (L : VL) (st : List Value) (h : VG) (x : Int32) : ev 160 111 L (.int x :: st) h = if x = 0 then ev 160 114 L st h else ev 160 164 L st h := G_if_ne f160_111 (by decide)
theorem f160_114 : fetch 160 114 = some (.aload_n 0, 1) := vtab tk160 74 rfl
theorem e160_114 (L : VL) (st : List Value) (h : VG) (x : Nat) : ev 160 114 (some (.ref x) :: L) (st) h = ev 160 115 (some (.ref x) :: L) (.ref x :: st) h := G_aload_n f160_114 rfl
theorem f160_115 : fetch 160 115 = some (.iconst 5, 1) := vtab tk160 75 rfl
theorem e160_115 (L : VL) (st : List Value) (h : VG) : ev 160 115 L (st) h = ev 160 116 L (.int (5 : Int32) :: st) h := G_iconst f160_115 (by decide)
theorem f160_116 : fetch 160 116 = some (.iload_n 3, 1) := vtab tk160 76 rfl
theorem e160_116 (l0 l1 l2 : Option Value) (L : VL) (st : List Value) (h : VG) (x : Int32) : ev 160 116 (l0 :: l1 :: l2 :: some (.int x) :: L) (st) h = ev 160 117 (l0 :: l1 :: l2 :: some (.int x) :: L) (.int x :: st) h := G_iload_n f160_116 rfl
theorem f160_117 : fetch 160 117 = some (.invokevirtual 264, 3) := vtab tk160 77 rfl
theorem e160_117 (L : VL) (st : List Value) (h : VG) (b : Nat) (x0 : Int32) (x1 : Int32) (ho : ob h b 11) (hs : catS st ≤ 8) : ev 160 117 L (.int x1 :: .int x0 :: .ref b :: st) h = (ev 150 0 [some (.ref b), some (.int x0), some (.int x1), none] [] h).bind fun q => ev 160 120 L (q.1.toList ++ st) q.2 := G_callv (k := 1) (p := 1289) (ars := [.int x0, .int x1]) f160_117 lkC_12_264 (by decide) (by decide +kernel) rfl (vcls_ob (ci := 11) (by decide) ho) (Nat.le_of_ble_eq_true rfl) hs rfl
theorem f160_120 : fetch 160 120 = some (.goto 44, 3) := vtab tk160 78 rfl
theorem e160_120 (L : VL) (st : List Value) (h : VG) : ev 160 120 L (st) h = ev 160 164 L (st) h := G_goto f160_120 (by decide)
theorem f160_123 : fetch 160 123 = some (.aload_n 0, 1) := vtab tk160 79 rfl
theorem e160_123 (L : VL) (st : List Value) (h : VG) (x : Nat) : ev 160 123 (some (.ref x) :: L) (st) h = ev 160 124 (some (.ref x) :: L) (.ref x :: st) h := G_aload_n f160_123 rfl
theorem f160_124 : fetch 160 124 = some (.getfield 58, 3) := vtab tk160 80 rfl
theorem e160_124 (L : VL) (st : List Value) (h : VG) (a : Nat) (ho : ob h a 11) (hr : isR h a 28) : ev 160 124 L (.ref a :: st) h = ev 160 127 L (.ref (gR h a 28) :: st) h := G_getR (p := 1041) f160_124 lkF_12_58 (by decide) (by decide) ho hr
theorem f160_127 : fetch 160 127 = some (.bipush 8, 2) := vtab tk160 81 rfl
theorem e160_127 (L : VL) (st : List Value) (h : VG) : ev 160 127 L (st) h = ev 160 129 L (.int (8 : Int32) :: st) h := G_bipush f160_127 (by decide)
theorem f160_129 : fetch 160 129 = some (.aload_n 0, 1) := vtab tk160 82 rfl
theorem e160_129 (L : VL) (st : List Value) (h : VG) (x : Nat) : ev 160 129 (some (.ref x) :: L) (st) h = ev 160 130 (some (.ref x) :: L) (.ref x :: st) h := G_aload_n f160_129 rfl
theorem f160_130 : fetch 160 130 = some (.getfield 216, 3) := vtab tk160 83 rfl
theorem e160_130 (L : VL) (st : List Value) (h : VG) (a : Nat) (ho : ob h a 11) : ev 160 130 L (.ref a :: st) h = ev 160 133 L (.int (gI h a 26) :: st) h := G_getI (p := 1039) f160_130 lkF_12_216 (by decide) (by decide) ho
theorem f160_133 : fetch 160 133 = some (.imul, 1) := vtab tk160 84 rfl
theorem e160_133 (L : VL) (st : List Value) (h : VG) (x y : Int32) : ev 160 133 L (.int y :: .int x :: st) h = ev 160 134 L (.int (x * y) :: st) h := G_imul f160_133
theorem f160_134 : fetch 160 134 = some (.iload_n 2, 1) := vtab tk160 85 rfl
theorem e160_134 (l0 l1 : Option Value) (L : VL) (st : List Value) (h : VG) (x : Int32) : ev 160 134 (l0 :: l1 :: some (.int x) :: L) (st) h = ev 160 135 (l0 :: l1 :: some (.int x) :: L) (.int x :: st) h := G_iload_n f160_134 rfl
theorem f160_135 : fetch 160 135 = some (.iadd, 1) := vtab tk160 86 rfl
theorem e160_135 (L : VL) (st : List Value) (h : VG) (x y : Int32) : ev 160 135 L (.int y :: .int x :: st) h = ev 160 136 L (.int (x + y) :: st) h := G_iadd f160_135
theorem f160_136 : fetch 160 136 = some (.aload_n 0, 1) := vtab tk160 87 rfl
theorem e160_136 (L : VL) (st : List Value) (h : VG) (x : Nat) : ev 160 136 (some (.ref x) :: L) (st) h = ev 160 137 (some (.ref x) :: L) (.ref x :: st) h := G_aload_n f160_136 rfl
theorem f160_137 : fetch 160 137 = some (.getfield 20, 3) := vtab tk160 88 rfl
theorem e160_137 (L : VL) (st : List Value) (h : VG) (a : Nat) (ho : ob h a 11) (hr : isR h a 5) : ev 160 137 L (.ref a :: st) h = ev 160 140 L (.ref (gR h a 5) :: st) h := G_getR (p := 1018) f160_137 lkF_12_20 (by decide) (by decide) ho hr
theorem f160_140 : fetch 160 140 = some (.iload_n 3, 1) := vtab tk160 89 rfl
theorem e160_140 (l0 l1 l2 : Option Value) (L : VL) (st : List Value) (h : VG) (x : Int32) : ev 160 140 (l0 :: l1 :: l2 :: some (.int x) :: L) (st) h = ev 160 141 (l0 :: l1 :: l2 :: some (.int x) :: L) (.int x :: st) h := G_iload_n f160_140 rfl
theorem f160_141 : fetch 160 141 = some (.iaload, 1) := vtab tk160 90 rfl
theorem e160_141 (L : VL) (st : List Value) (h : VG) (a : Nat) (i : Int32) (ha : rdI h a) (hi : vp_in i (aln h a)) : ev 160 141 L (.int i :: .ref a :: st) h = ev 160 142 L (.int (aI h a i.toNatClampNeg) :: st) h := G_iald' f160_141 ha hi
theorem f160_142 : fetch 160 142 = some (.bipush 24, 2) := vtab tk160 91 rfl
theorem e160_142 (L : VL) (st : List Value) (h : VG) : ev 160 142 L (st) h = ev 160 144 L (.int (24 : Int32) :: st) h := G_bipush f160_142 (by decide)
theorem f160_144 : fetch 160 144 = some (.isub, 1) := vtab tk160 92 rfl
theorem e160_144 (L : VL) (st : List Value) (h : VG) (x y : Int32) : ev 160 144 L (.int y :: .int x :: st) h = ev 160 145 L (.int (x - y) :: st) h := G_isub f160_144
theorem f160_145 : fetch 160 145 = some (.iastore, 1) := vtab tk160 93 rfl
theorem e160_145 (L : VL) (st : List Value) (h : VG) (a : Nat) (i : Int32) (x : Int32) (ha : arI h a 0) (hi : vp_in i (aln h a)) : ev 160 145 L (.int x :: .int i :: .ref a :: st) h = ev 160 146 L (st) (wI h a i.toNatClampNeg x) := G_iast f160_145 ha hi
theorem f160_146 : fetch 160 146 = some (.aload_n 0, 1) := vtab tk160 94 rfl
theorem e160_146 (L : VL) (st : List Value) (h : VG) (x : Nat) : ev 160 146 (some (.ref x) :: L) (st) h = ev 160 147 (some (.ref x) :: L) (.ref x :: st) h := G_aload_n f160_146 rfl
theorem f160_147 : fetch 160 147 = some (.getfield 61, 3) := vtab tk160 95 rfl
theorem e160_147 (L : VL) (st : List Value) (h : VG) (a : Nat) (ho : ob h a 11) (hr : isR h a 29) : ev 160 147 L (.ref a :: st) h = ev 160 150 L (.ref (gR h a 29) :: st) h := G_getR (p := 1042) f160_147 lkF_12_61 (by decide) (by decide) ho hr
theorem f160_150 : fetch 160 150 = some (.bipush 8, 2) := vtab tk160 96 rfl
theorem e160_150 (L : VL) (st : List Value) (h : VG) : ev 160 150 L (st) h = ev 160 152 L (.int (8 : Int32) :: st) h := G_bipush f160_150 (by decide)
theorem f160_152 : fetch 160 152 = some (.aload_n 0, 1) := vtab tk160 97 rfl
theorem e160_152 (L : VL) (st : List Value) (h : VG) (x : Nat) : ev 160 152 (some (.ref x) :: L) (st) h = ev 160 153 (some (.ref x) :: L) (.ref x :: st) h := G_aload_n f160_152 rfl
theorem f160_153 : fetch 160 153 = some (.getfield 216, 3) := vtab tk160 98 rfl
theorem e160_153 (L : VL) (st : List Value) (h : VG) (a : Nat) (ho : ob h a 11) : ev 160 153 L (.ref a :: st) h = ev 160 156 L (.int (gI h a 26) :: st) h := G_getI (p := 1039) f160_153 lkF_12_216 (by decide) (by decide) ho
theorem f160_156 : fetch 160 156 = some (.imul, 1) := vtab tk160 99 rfl
theorem e160_156 (L : VL) (st : List Value) (h : VG) (x y : Int32) : ev 160 156 L (.int y :: .int x :: st) h = ev 160 157 L (.int (x * y) :: st) h := G_imul f160_156
theorem f160_157 : fetch 160 157 = some (.iload_n 2, 1) := vtab tk160 100 rfl
theorem e160_157 (l0 l1 : Option Value) (L : VL) (st : List Value) (h : VG) (x : Int32) : ev 160 157 (l0 :: l1 :: some (.int x) :: L) (st) h = ev 160 158 (l0 :: l1 :: some (.int x) :: L) (.int x :: st) h := G_iload_n f160_157 rfl
theorem f160_158 : fetch 160 158 = some (.iadd, 1) := vtab tk160 101 rfl
theorem e160_158 (L : VL) (st : List Value) (h : VG) (x y : Int32) : ev 160 158 L (.int y :: .int x :: st) h = ev 160 159 L (.int (x + y) :: st) h := G_iadd f160_158
theorem f160_159 : fetch 160 159 = some (.iconst 1, 1) := vtab tk160 102 rfl
theorem e160_159 (L : VL) (st : List Value) (h : VG) : ev 160 159 L (st) h = ev 160 160 L (.int (1 : Int32) :: st) h := G_iconst f160_159 (by decide)
theorem f160_160 : fetch 160 160 = some (.iastore, 1) := vtab tk160 103 rfl
theorem e160_160 (L : VL) (st : List Value) (h : VG) (a : Nat) (i : Int32) (x : Int32) (ha : arI h a 0) (hi : vp_in i (aln h a)) : ev 160 160 L (.int x :: .int i :: .ref a :: st) h = ev 160 161 L (st) (wI h a i.toNatClampNeg x) := G_iast f160_160 ha hi
theorem f160_161 : fetch 160 161 = some (.iinc 2 1, 3) := vtab tk160 104 rfl
theorem e160_161 (l0 l1 : Option Value) (L : VL) (st : List Value) (h : VG) (x : Int32) : ev 160 161 (l0 :: l1 :: some (.int x) :: L) (st) h = ev 160 164 (l0 :: vkk l1 :: some (.int (x + (1 : Int32))) :: L) (st) h := G_iinc f160_161 rfl (by decide) (S1_2 l0 l1 (some (.int x)) L _)
theorem f160_164 : fetch 160 164 = some (.iinc 3 1, 3) := vtab tk160 105 rfl
theorem e160_164 (l0 l1 l2 : Option Value) (L : VL) (st : List Value) (h : VG) (x : Int32) : ev 160 164 (l0 :: l1 :: l2 :: some (.int x) :: L) (st) h = ev 160 167 (l0 :: l1 :: vkk l2 :: some (.int (x + (1 : Int32))) :: L) (st) h := G_iinc f160_164 rfl (by decide) (S1_3 l0 l1 l2 (some (.int x)) L _)
theorem f160_167 : fetch 160 167 = some (.goto (-109), 3) := vtab tk160 106 rfl
theorem e160_167 (L : VL) (st : List Value) (h : VG) : ev 160 167 L (st) h = ev 160 58 L (st) h := G_goto f160_167 (by decide)
theorem f160_170 : fetch 160 170 = some (.aload_n 0, 1) := vtab tk160 107 rfl
theorem e160_170 (L : VL) (st : List Value) (h : VG) (x : Nat) : ev 160 170 (some (.ref x) :: L) (st) h = ev 160 171 (some (.ref x) :: L) (.ref x :: st) h := G_aload_n f160_170 rfl
theorem f160_171 : fetch 160 171 = some (.getfield 55, 3) := vtab tk160 108 rfl
theorem e160_171 (L : VL) (st : List Value) (h : VG) (a : Nat) (ho : ob h a 11) (hr : isR h a 27) : ev 160 171 L (.ref a :: st) h = ev 160 174 L (.ref (gR h a 27) :: st) h := G_getR (p := 1040) f160_171 lkF_12_55 (by decide) (by decide) ho hr
theorem f160_174 : fetch 160 174 = some (.aload_n 0, 1) := vtab tk160 109 rfl
theorem e160_174 (L : VL) (st : List Value) (h : VG) (x : Nat) : ev 160 174 (some (.ref x) :: L) (st) h = ev 160 175 (some (.ref x) :: L) (.ref x :: st) h := G_aload_n f160_174 rfl
theorem f160_175 : fetch 160 175 = some (.getfield 216, 3) := vtab tk160 110 rfl
theorem e160_175 (L : VL) (st : List Value) (h : VG) (a : Nat) (ho : ob h a 11) : ev 160 175 L (.ref a :: st) h = ev 160 178 L (.int (gI h a 26) :: st) h := G_getI (p := 1039) f160_175 lkF_12_216 (by decide) (by decide) ho
theorem f160_178 : fetch 160 178 = some (.iload_n 2, 1) := vtab tk160 111 rfl
theorem e160_178 (l0 l1 : Option Value) (L : VL) (st : List Value) (h : VG) (x : Int32) : ev 160 178 (l0 :: l1 :: some (.int x) :: L) (st) h = ev 160 179 (l0 :: l1 :: some (.int x) :: L) (.int x :: st) h := G_iload_n f160_178 rfl
theorem f160_179 : fetch 160 179 = some (.iastore, 1) := vtab tk160 112 rfl
theorem e160_179 (L : VL) (st : List Value) (h : VG) (a : Nat) (i : Int32) (x : Int32) (ha : arI h a 0) (hi : vp_in i (aln h a)) : ev 160 179 L (.int x :: .int i :: .ref a :: st) h = ev 160 180 L (st) (wI h a i.toNatClampNeg x) := G_iast f160_179 ha hi
theorem f160_180 : fetch 160 180 = some (.aload_n 0, 1) := vtab tk160 113 rfl
theorem e160_180 (L : VL) (st : List Value) (h : VG) (x : Nat) : ev 160 180 (some (.ref x) :: L) (st) h = ev 160 181 (some (.ref x) :: L) (.ref x :: st) h := G_aload_n f160_180 rfl
theorem f160_181 : fetch 160 181 = some (.dup, 1) := vtab tk160 114 rfl
theorem e160_181b (L : VL) (st : List Value) (h : VG) (x : Int32) : ev 160 181 L (.int x :: st) h = ev 160 182 L (.int x :: .int x :: st) h := G_dup_int f160_181
theorem e160_181 (L : VL) (st : List Value) (h : VG) (x : Nat) : ev 160 181 L (.ref x :: st) h = ev 160 182 L (.ref x :: .ref x :: st) h := G_dup_ref f160_181
theorem f160_182 : fetch 160 182 = some (.getfield 216, 3) := vtab tk160 115 rfl
theorem e160_182 (L : VL) (st : List Value) (h : VG) (a : Nat) (ho : ob h a 11) : ev 160 182 L (.ref a :: st) h = ev 160 185 L (.int (gI h a 26) :: st) h := G_getI (p := 1039) f160_182 lkF_12_216 (by decide) (by decide) ho
theorem f160_185 : fetch 160 185 = some (.iconst 1, 1) := vtab tk160 116 rfl
theorem e160_185 (L : VL) (st : List Value) (h : VG) : ev 160 185 L (st) h = ev 160 186 L (.int (1 : Int32) :: st) h := G_iconst f160_185 (by decide)
theorem f160_186 : fetch 160 186 = some (.iadd, 1) := vtab tk160 117 rfl
theorem e160_186 (L : VL) (st : List Value) (h : VG) (x y : Int32) : ev 160 186 L (.int y :: .int x :: st) h = ev 160 187 L (.int (x + y) :: st) h := G_iadd f160_186
theorem f160_187 : fetch 160 187 = some (.putfield 216, 3) := vtab tk160 118 rfl
theorem e160_187 (L : VL) (st : List Value) (h : VG) (a : Nat) (x : Int32) (ho : ob h a 11) : ev 160 187 L (.int x :: .ref a :: st) h = ev 160 190 L (st) (pI h a 26 x) := G_putI (p := 1039) f160_187 lkF_12_216 (by decide) (by decide) (by decide +kernel) ⟨rfl, rfl⟩ ho
theorem f160_190 : fetch 160 190 = some (.return_, 1) := vtab tk160 119 rfl
theorem e160_190 (L : VL) (h : VG) : ev 160 190 L [] h = some (none, h) := G_vret f160_190 (by decide)
/-! 161 GuestCallsModel.meansFill(I)V -/
def tb161 : List (Nat × Instr × Nat) := [(0, .aload_n 0, 1), (1, .getfield 27, 3), (4, .iload_n 1, 1), (5, .iconst 1, 1), (6, .iadd, 1), (7, .iaload, 1), (8, .istore_n 2, 1), (9, .iload_n 2, 1), (10, .sipush 255, 3), (13, .if_icmp .le 11, 3), (16, .aload_n 0, 1), (17, .iconst 5, 1), (18, .iload_n 1, 1), (19, .iconst 1, 1), (20, .iadd, 1), (21, .invokevirtual 264, 3), (24, .iload_n 1, 1), (25, .iconst 2, 1), (26, .iadd, 1), (27, .istore_n 3, 1), (28, .aload_n 0, 1), (29, .getfield 20, 3), (32, .iload_n 3, 1), (33, .iaload, 1), (34, .iconst 2, 1), (35, .if_icmp .ne 60, 3), (38, .iload_n 2, 1), (39, .iload_n 3, 1), (40, .iadd, 1), (41, .iload_n 1, 1), (42, .isub, 1), (43, .iconst 2, 1), (44, .isub, 1), (45, .istore 4, 2), (47, .aload_n 0, 1), (48, .getfield 27, 3), (51, .iload_n 3, 1), (52, .iaload, 1), (53, .sipush 255, 3), (56, .if_icmp .gt 11, 3), (59, .iload 4, 2), (61, .sipush 255, 3), (64, .if_icmp .le 12, 3), (67, .aload_n 0, 1), (68, .iconst 5, 1), (69, .iload_n 3, 1), (70, .invokevirtual 264, 3), (73, .goto 16, 3), (76, .aload_n 0, 1), (77, .getfield 64, 3), (80, .iload 4, 2), (82, .aload_n 0, 1), (83, .getfield 27, 3), (86, .iload_n 3, 1), (87, .iaload, 1), (88, .iastore, 1), (89, .iinc 3 1, 3), (92, .goto (-64), 3), (95, .return_, 1)]
theorem tk161 : tb161.all (fun q => decide (fetch 161 q.1 = some q.2)) = true := by decide +kernel
theorem f161_0 : fetch 161 0 = some (.aload_n 0, 1) := vtab tk161 0 rfl
theorem e161_0 (L : VL) (st : List Value) (h : VG) (x : Nat) : ev 161 0 (some (.ref x) :: L) (st) h = ev 161 1 (some (.ref x) :: L) (.ref x :: st) h := G_aload_n f161_0 rfl
theorem f161_1 : fetch 161 1 = some (.getfield 27, 3) := vtab tk161 1 rfl
theorem e161_1 (L : VL) (st : List Value) (h : VG) (a : Nat) (ho : ob h a 11) (hr : isR h a 7) : ev 161 1 L (.ref a :: st) h = ev 161 4 L (.ref (gR h a 7) :: st) h := G_getR (p := 1020) f161_1 lkF_12_27 (by decide) (by decide) ho hr
theorem f161_4 : fetch 161 4 = some (.iload_n 1, 1) := vtab tk161 2 rfl
theorem e161_4 (l0 : Option Value) (L : VL) (st : List Value) (h : VG) (x : Int32) : ev 161 4 (l0 :: some (.int x) :: L) (st) h = ev 161 5 (l0 :: some (.int x) :: L) (.int x :: st) h := G_iload_n f161_4 rfl
theorem f161_5 : fetch 161 5 = some (.iconst 1, 1) := vtab tk161 3 rfl
theorem e161_5 (L : VL) (st : List Value) (h : VG) : ev 161 5 L (st) h = ev 161 6 L (.int (1 : Int32) :: st) h := G_iconst f161_5 (by decide)
theorem f161_6 : fetch 161 6 = some (.iadd, 1) := vtab tk161 4 rfl
theorem e161_6 (L : VL) (st : List Value) (h : VG) (x y : Int32) : ev 161 6 L (.int y :: .int x :: st) h = ev 161 7 L (.int (x + y) :: st) h := G_iadd f161_6
theorem f161_7 : fetch 161 7 = some (.iaload, 1) := vtab tk161 5 rfl
theorem e161_7 (L : VL) (st : List Value) (h : VG) (a : Nat) (i : Int32) (ha : rdI h a) (hi : vp_in i (aln h a)) : ev 161 7 L (.int i :: .ref a :: st) h = ev 161 8 L (.int (aI h a i.toNatClampNeg) :: st) h := G_iald' f161_7 ha hi
theorem f161_8 : fetch 161 8 = some (.istore_n 2, 1) := vtab tk161 6 rfl
theorem e161_8 (l0 l1 l2 : Option Value) (L : VL) (st : List Value) (h : VG) (x : Int32) : ev 161 8 (l0 :: l1 :: l2 :: L) (.int x :: st) h = ev 161 9 (l0 :: vkk l1 :: some (.int x) :: L) (st) h := G_istore_n f161_8 rfl (S1_2 l0 l1 l2 L _)
theorem f161_9 : fetch 161 9 = some (.iload_n 2, 1) := vtab tk161 7 rfl
theorem e161_9 (l0 l1 : Option Value) (L : VL) (st : List Value) (h : VG) (x : Int32) : ev 161 9 (l0 :: l1 :: some (.int x) :: L) (st) h = ev 161 10 (l0 :: l1 :: some (.int x) :: L) (.int x :: st) h := G_iload_n f161_9 rfl
theorem f161_10 : fetch 161 10 = some (.sipush 255, 3) := vtab tk161 8 rfl
theorem e161_10 (L : VL) (st : List Value) (h : VG) : ev 161 10 L (st) h = ev 161 13 L (.int (255 : Int32) :: st) h := G_sipush f161_10 (by decide)
theorem f161_13 : fetch 161 13 = some (.if_icmp .le 11, 3) := vtab tk161 9 rfl
theorem e161_13 (L : VL) (st : List Value) (h : VG) (x y : Int32) : ev 161 13 L (.int y :: .int x :: st) h = if x ≤ y then ev 161 24 L st h else ev 161 16 L st h := G_icmp_le f161_13 (by decide)
theorem f161_16 : fetch 161 16 = some (.aload_n 0, 1) := vtab tk161 10 rfl
theorem e161_16 (L : VL) (st : List Value) (h : VG) (x : Nat) : ev 161 16 (some (.ref x) :: L) (st) h = ev 161 17 (some (.ref x) :: L) (.ref x :: st) h := G_aload_n f161_16 rfl
theorem f161_17 : fetch 161 17 = some (.iconst 5, 1) := vtab tk161 11 rfl
theorem e161_17 (L : VL) (st : List Value) (h : VG) : ev 161 17 L (st) h = ev 161 18 L (.int (5 : Int32) :: st) h := G_iconst f161_17 (by decide)
theorem f161_18 : fetch 161 18 = some (.iload_n 1, 1) := vtab tk161 12 rfl
theorem e161_18 (l0 : Option Value) (L : VL) (st : List Value) (h : VG) (x : Int32) : ev 161 18 (l0 :: some (.int x) :: L) (st) h = ev 161 19 (l0 :: some (.int x) :: L) (.int x :: st) h := G_iload_n f161_18 rfl
theorem f161_19 : fetch 161 19 = some (.iconst 1, 1) := vtab tk161 13 rfl
theorem e161_19 (L : VL) (st : List Value) (h : VG) : ev 161 19 L (st) h = ev 161 20 L (.int (1 : Int32) :: st) h := G_iconst f161_19 (by decide)
theorem f161_20 : fetch 161 20 = some (.iadd, 1) := vtab tk161 14 rfl
theorem e161_20 (L : VL) (st : List Value) (h : VG) (x y : Int32) : ev 161 20 L (.int y :: .int x :: st) h = ev 161 21 L (.int (x + y) :: st) h := G_iadd f161_20
theorem f161_21 : fetch 161 21 = some (.invokevirtual 264, 3) := vtab tk161 15 rfl
theorem e161_21 (L : VL) (st : List Value) (h : VG) (b : Nat) (x0 : Int32) (x1 : Int32) (ho : ob h b 11) (hs : catS st ≤ 8) : ev 161 21 L (.int x1 :: .int x0 :: .ref b :: st) h = (ev 150 0 [some (.ref b), some (.int x0), some (.int x1), none] [] h).bind fun q => ev 161 24 L (q.1.toList ++ st) q.2 := G_callv (k := 1) (p := 1289) (ars := [.int x0, .int x1]) f161_21 lkC_12_264 (by decide) (by decide +kernel) rfl (vcls_ob (ci := 11) (by decide) ho) (Nat.le_of_ble_eq_true rfl) hs rfl
theorem f161_24 : fetch 161 24 = some (.iload_n 1, 1) := vtab tk161 16 rfl
theorem e161_24 (l0 : Option Value) (L : VL) (st : List Value) (h : VG) (x : Int32) : ev 161 24 (l0 :: some (.int x) :: L) (st) h = ev 161 25 (l0 :: some (.int x) :: L) (.int x :: st) h := G_iload_n f161_24 rfl
theorem f161_25 : fetch 161 25 = some (.iconst 2, 1) := vtab tk161 17 rfl
theorem e161_25 (L : VL) (st : List Value) (h : VG) : ev 161 25 L (st) h = ev 161 26 L (.int (2 : Int32) :: st) h := G_iconst f161_25 (by decide)
theorem f161_26 : fetch 161 26 = some (.iadd, 1) := vtab tk161 18 rfl
theorem e161_26 (L : VL) (st : List Value) (h : VG) (x y : Int32) : ev 161 26 L (.int y :: .int x :: st) h = ev 161 27 L (.int (x + y) :: st) h := G_iadd f161_26
theorem f161_27 : fetch 161 27 = some (.istore_n 3, 1) := vtab tk161 19 rfl
theorem e161_27 (l0 l1 l2 l3 : Option Value) (L : VL) (st : List Value) (h : VG) (x : Int32) : ev 161 27 (l0 :: l1 :: l2 :: l3 :: L) (.int x :: st) h = ev 161 28 (l0 :: l1 :: vkk l2 :: some (.int x) :: L) (st) h := G_istore_n f161_27 rfl (S1_3 l0 l1 l2 l3 L _)
theorem f161_28 : fetch 161 28 = some (.aload_n 0, 1) := vtab tk161 20 rfl
theorem e161_28 (L : VL) (st : List Value) (h : VG) (x : Nat) : ev 161 28 (some (.ref x) :: L) (st) h = ev 161 29 (some (.ref x) :: L) (.ref x :: st) h := G_aload_n f161_28 rfl
theorem f161_29 : fetch 161 29 = some (.getfield 20, 3) := vtab tk161 21 rfl
theorem e161_29 (L : VL) (st : List Value) (h : VG) (a : Nat) (ho : ob h a 11) (hr : isR h a 5) : ev 161 29 L (.ref a :: st) h = ev 161 32 L (.ref (gR h a 5) :: st) h := G_getR (p := 1018) f161_29 lkF_12_20 (by decide) (by decide) ho hr
theorem f161_32 : fetch 161 32 = some (.iload_n 3, 1) := vtab tk161 22 rfl
theorem e161_32 (l0 l1 l2 : Option Value) (L : VL) (st : List Value) (h : VG) (x : Int32) : ev 161 32 (l0 :: l1 :: l2 :: some (.int x) :: L) (st) h = ev 161 33 (l0 :: l1 :: l2 :: some (.int x) :: L) (.int x :: st) h := G_iload_n f161_32 rfl
theorem f161_33 : fetch 161 33 = some (.iaload, 1) := vtab tk161 23 rfl
theorem e161_33 (L : VL) (st : List Value) (h : VG) (a : Nat) (i : Int32) (ha : rdI h a) (hi : vp_in i (aln h a)) : ev 161 33 L (.int i :: .ref a :: st) h = ev 161 34 L (.int (aI h a i.toNatClampNeg) :: st) h := G_iald' f161_33 ha hi
theorem f161_34 : fetch 161 34 = some (.iconst 2, 1) := vtab tk161 24 rfl
theorem e161_34 (L : VL) (st : List Value) (h : VG) : ev 161 34 L (st) h = ev 161 35 L (.int (2 : Int32) :: st) h := G_iconst f161_34 (by decide)
theorem f161_35 : fetch 161 35 = some (.if_icmp .ne 60, 3) := vtab tk161 25 rfl
theorem e161_35 (L : VL) (st : List Value) (h : VG) (x y : Int32) : ev 161 35 L (.int y :: .int x :: st) h = if x = y then ev 161 38 L st h else ev 161 95 L st h := G_icmp_ne f161_35 (by decide)
theorem f161_38 : fetch 161 38 = some (.iload_n 2, 1) := vtab tk161 26 rfl
theorem e161_38 (l0 l1 : Option Value) (L : VL) (st : List Value) (h : VG) (x : Int32) : ev 161 38 (l0 :: l1 :: some (.int x) :: L) (st) h = ev 161 39 (l0 :: l1 :: some (.int x) :: L) (.int x :: st) h := G_iload_n f161_38 rfl
theorem f161_39 : fetch 161 39 = some (.iload_n 3, 1) := vtab tk161 27 rfl
theorem e161_39 (l0 l1 l2 : Option Value) (L : VL) (st : List Value) (h : VG) (x : Int32) : ev 161 39 (l0 :: l1 :: l2 :: some (.int x) :: L) (st) h = ev 161 40 (l0 :: l1 :: l2 :: some (.int x) :: L) (.int x :: st) h := G_iload_n f161_39 rfl
theorem f161_40 : fetch 161 40 = some (.iadd, 1) := vtab tk161 28 rfl
theorem e161_40 (L : VL) (st : List Value) (h : VG) (x y : Int32) : ev 161 40 L (.int y :: .int x :: st) h = ev 161 41 L (.int (x + y) :: st) h := G_iadd f161_40
theorem f161_41 : fetch 161 41 = some (.iload_n 1, 1) := vtab tk161 29 rfl
theorem e161_41 (l0 : Option Value) (L : VL) (st : List Value) (h : VG) (x : Int32) : ev 161 41 (l0 :: some (.int x) :: L) (st) h = ev 161 42 (l0 :: some (.int x) :: L) (.int x :: st) h := G_iload_n f161_41 rfl
theorem f161_42 : fetch 161 42 = some (.isub, 1) := vtab tk161 30 rfl
theorem e161_42 (L : VL) (st : List Value) (h : VG) (x y : Int32) : ev 161 42 L (.int y :: .int x :: st) h = ev 161 43 L (.int (x - y) :: st) h := G_isub f161_42
theorem f161_43 : fetch 161 43 = some (.iconst 2, 1) := vtab tk161 31 rfl
theorem e161_43 (L : VL) (st : List Value) (h : VG) : ev 161 43 L (st) h = ev 161 44 L (.int (2 : Int32) :: st) h := G_iconst f161_43 (by decide)
theorem f161_44 : fetch 161 44 = some (.isub, 1) := vtab tk161 32 rfl
theorem e161_44 (L : VL) (st : List Value) (h : VG) (x y : Int32) : ev 161 44 L (.int y :: .int x :: st) h = ev 161 45 L (.int (x - y) :: st) h := G_isub f161_44
theorem f161_45 : fetch 161 45 = some (.istore 4, 2) := vtab tk161 33 rfl
theorem e161_45 (l0 l1 l2 l3 l4 : Option Value) (L : VL) (st : List Value) (h : VG) (x : Int32) : ev 161 45 (l0 :: l1 :: l2 :: l3 :: l4 :: L) (.int x :: st) h = ev 161 47 (l0 :: l1 :: l2 :: vkk l3 :: some (.int x) :: L) (st) h := G_istore f161_45 rfl (S1_4 l0 l1 l2 l3 l4 L _)
theorem f161_47 : fetch 161 47 = some (.aload_n 0, 1) := vtab tk161 34 rfl
theorem e161_47 (L : VL) (st : List Value) (h : VG) (x : Nat) : ev 161 47 (some (.ref x) :: L) (st) h = ev 161 48 (some (.ref x) :: L) (.ref x :: st) h := G_aload_n f161_47 rfl
theorem f161_48 : fetch 161 48 = some (.getfield 27, 3) := vtab tk161 35 rfl
theorem e161_48 (L : VL) (st : List Value) (h : VG) (a : Nat) (ho : ob h a 11) (hr : isR h a 7) : ev 161 48 L (.ref a :: st) h = ev 161 51 L (.ref (gR h a 7) :: st) h := G_getR (p := 1020) f161_48 lkF_12_27 (by decide) (by decide) ho hr
theorem f161_51 : fetch 161 51 = some (.iload_n 3, 1) := vtab tk161 36 rfl
theorem e161_51 (l0 l1 l2 : Option Value) (L : VL) (st : List Value) (h : VG) (x : Int32) : ev 161 51 (l0 :: l1 :: l2 :: some (.int x) :: L) (st) h = ev 161 52 (l0 :: l1 :: l2 :: some (.int x) :: L) (.int x :: st) h := G_iload_n f161_51 rfl
theorem f161_52 : fetch 161 52 = some (.iaload, 1) := vtab tk161 37 rfl
theorem e161_52 (L : VL) (st : List Value) (h : VG) (a : Nat) (i : Int32) (ha : rdI h a) (hi : vp_in i (aln h a)) : ev 161 52 L (.int i :: .ref a :: st) h = ev 161 53 L (.int (aI h a i.toNatClampNeg) :: st) h := G_iald' f161_52 ha hi
theorem f161_53 : fetch 161 53 = some (.sipush 255, 3) := vtab tk161 38 rfl
theorem e161_53 (L : VL) (st : List Value) (h : VG) : ev 161 53 L (st) h = ev 161 56 L (.int (255 : Int32) :: st) h := G_sipush f161_53 (by decide)
theorem f161_56 : fetch 161 56 = some (.if_icmp .gt 11, 3) := vtab tk161 39 rfl
theorem e161_56 (L : VL) (st : List Value) (h : VG) (x y : Int32) : ev 161 56 L (.int y :: .int x :: st) h = if x ≤ y then ev 161 59 L st h else ev 161 67 L st h := G_icmp_gt f161_56 (by decide)
theorem f161_59 : fetch 161 59 = some (.iload 4, 2) := vtab tk161 40 rfl
theorem e161_59 (l0 l1 l2 l3 : Option Value) (L : VL) (st : List Value) (h : VG) (x : Int32) : ev 161 59 (l0 :: l1 :: l2 :: l3 :: some (.int x) :: L) (st) h = ev 161 61 (l0 :: l1 :: l2 :: l3 :: some (.int x) :: L) (.int x :: st) h := G_iload f161_59 rfl
theorem f161_61 : fetch 161 61 = some (.sipush 255, 3) := vtab tk161 41 rfl
theorem e161_61 (L : VL) (st : List Value) (h : VG) : ev 161 61 L (st) h = ev 161 64 L (.int (255 : Int32) :: st) h := G_sipush f161_61 (by decide)
theorem f161_64 : fetch 161 64 = some (.if_icmp .le 12, 3) := vtab tk161 42 rfl
theorem e161_64 (L : VL) (st : List Value) (h : VG) (x y : Int32) : ev 161 64 L (.int y :: .int x :: st) h = if x ≤ y then ev 161 76 L st h else ev 161 67 L st h := G_icmp_le f161_64 (by decide)
theorem f161_67 : fetch 161 67 = some (.aload_n 0, 1) := vtab tk161 43 rfl
theorem e161_67 (L : VL) (st : List Value) (h : VG) (x : Nat) : ev 161 67 (some (.ref x) :: L) (st) h = ev 161 68 (some (.ref x) :: L) (.ref x :: st) h := G_aload_n f161_67 rfl
theorem f161_68 : fetch 161 68 = some (.iconst 5, 1) := vtab tk161 44 rfl
theorem e161_68 (L : VL) (st : List Value) (h : VG) : ev 161 68 L (st) h = ev 161 69 L (.int (5 : Int32) :: st) h := G_iconst f161_68 (by decide)
theorem f161_69 : fetch 161 69 = some (.iload_n 3, 1) := vtab tk161 45 rfl
theorem e161_69 (l0 l1 l2 : Option Value) (L : VL) (st : List Value) (h : VG) (x : Int32) : ev 161 69 (l0 :: l1 :: l2 :: some (.int x) :: L) (st) h = ev 161 70 (l0 :: l1 :: l2 :: some (.int x) :: L) (.int x :: st) h := G_iload_n f161_69 rfl
theorem f161_70 : fetch 161 70 = some (.invokevirtual 264, 3) := vtab tk161 46 rfl
theorem e161_70 (L : VL) (st : List Value) (h : VG) (b : Nat) (x0 : Int32) (x1 : Int32) (ho : ob h b 11) (hs : catS st ≤ 8) : ev 161 70 L (.int x1 :: .int x0 :: .ref b :: st) h = (ev 150 0 [some (.ref b), some (.int x0), some (.int x1), none] [] h).bind fun q => ev 161 73 L (q.1.toList ++ st) q.2 := G_callv (k := 1) (p := 1289) (ars := [.int x0, .int x1]) f161_70 lkC_12_264 (by decide) (by decide +kernel) rfl (vcls_ob (ci := 11) (by decide) ho) (Nat.le_of_ble_eq_true rfl) hs rfl
theorem f161_73 : fetch 161 73 = some (.goto 16, 3) := vtab tk161 47 rfl
theorem e161_73 (L : VL) (st : List Value) (h : VG) : ev 161 73 L (st) h = ev 161 89 L (st) h := G_goto f161_73 (by decide)
theorem f161_76 : fetch 161 76 = some (.aload_n 0, 1) := vtab tk161 48 rfl
theorem e161_76 (L : VL) (st : List Value) (h : VG) (x : Nat) : ev 161 76 (some (.ref x) :: L) (st) h = ev 161 77 (some (.ref x) :: L) (.ref x :: st) h := G_aload_n f161_76 rfl
theorem f161_77 : fetch 161 77 = some (.getfield 64, 3) := vtab tk161 49 rfl
theorem e161_77 (L : VL) (st : List Value) (h : VG) (a : Nat) (ho : ob h a 11) (hr : isR h a 30) : ev 161 77 L (.ref a :: st) h = ev 161 80 L (.ref (gR h a 30) :: st) h := G_getR (p := 1043) f161_77 lkF_12_64 (by decide) (by decide) ho hr
theorem f161_80 : fetch 161 80 = some (.iload 4, 2) := vtab tk161 50 rfl
theorem e161_80 (l0 l1 l2 l3 : Option Value) (L : VL) (st : List Value) (h : VG) (x : Int32) : ev 161 80 (l0 :: l1 :: l2 :: l3 :: some (.int x) :: L) (st) h = ev 161 82 (l0 :: l1 :: l2 :: l3 :: some (.int x) :: L) (.int x :: st) h := G_iload f161_80 rfl
theorem f161_82 : fetch 161 82 = some (.aload_n 0, 1) := vtab tk161 51 rfl
theorem e161_82 (L : VL) (st : List Value) (h : VG) (x : Nat) : ev 161 82 (some (.ref x) :: L) (st) h = ev 161 83 (some (.ref x) :: L) (.ref x :: st) h := G_aload_n f161_82 rfl
theorem f161_83 : fetch 161 83 = some (.getfield 27, 3) := vtab tk161 52 rfl
theorem e161_83 (L : VL) (st : List Value) (h : VG) (a : Nat) (ho : ob h a 11) (hr : isR h a 7) : ev 161 83 L (.ref a :: st) h = ev 161 86 L (.ref (gR h a 7) :: st) h := G_getR (p := 1020) f161_83 lkF_12_27 (by decide) (by decide) ho hr
theorem f161_86 : fetch 161 86 = some (.iload_n 3, 1) := vtab tk161 53 rfl
theorem e161_86 (l0 l1 l2 : Option Value) (L : VL) (st : List Value) (h : VG) (x : Int32) : ev 161 86 (l0 :: l1 :: l2 :: some (.int x) :: L) (st) h = ev 161 87 (l0 :: l1 :: l2 :: some (.int x) :: L) (.int x :: st) h := G_iload_n f161_86 rfl
theorem f161_87 : fetch 161 87 = some (.iaload, 1) := vtab tk161 54 rfl
theorem e161_87 (L : VL) (st : List Value) (h : VG) (a : Nat) (i : Int32) (ha : rdI h a) (hi : vp_in i (aln h a)) : ev 161 87 L (.int i :: .ref a :: st) h = ev 161 88 L (.int (aI h a i.toNatClampNeg) :: st) h := G_iald' f161_87 ha hi
theorem f161_88 : fetch 161 88 = some (.iastore, 1) := vtab tk161 55 rfl
theorem e161_88 (L : VL) (st : List Value) (h : VG) (a : Nat) (i : Int32) (x : Int32) (ha : arI h a 0) (hi : vp_in i (aln h a)) : ev 161 88 L (.int x :: .int i :: .ref a :: st) h = ev 161 89 L (st) (wI h a i.toNatClampNeg x) := G_iast f161_88 ha hi
theorem f161_89 : fetch 161 89 = some (.iinc 3 1, 3) := vtab tk161 56 rfl
theorem e161_89 (l0 l1 l2 : Option Value) (L : VL) (st : List Value) (h : VG) (x : Int32) : ev 161 89 (l0 :: l1 :: l2 :: some (.int x) :: L) (st) h = ev 161 92 (l0 :: l1 :: vkk l2 :: some (.int (x + (1 : Int32))) :: L) (st) h := G_iinc f161_89 rfl (by decide) (S1_3 l0 l1 l2 (some (.int x)) L _)
theorem f161_92 : fetch 161 92 = some (.goto (-64), 3) := vtab tk161 57 rfl
theorem e161_92 (L : VL) (st : List Value) (h : VG) : ev 161 92 L (st) h = ev 161 28 L (st) h := G_goto f161_92 (by decide)
theorem f161_95 : fetch 161 95 = some (.return_, 1) := vtab tk161 58 rfl
theorem e161_95 (L : VL) (h : VG) : ev 161 95 L [] h = some (none, h) := G_vret f161_95 (by decide)
/-! 162 GuestCallsModel.in(III)Z -/
def tb162 : List (Nat × Instr × Nat) := [(0, .iload_n 0, 1), (1, .iload_n 1, 1), (2, .if_icmp .lt 12, 3), (5, .iload_n 0, 1), (6, .iload_n 2, 1), (7, .if_icmp .gt 7, 3), (10, .iconst 1, 1), (11, .goto 4, 3), (14, .iconst 0, 1), (15, .ireturn, 1)]
theorem tk162 : tb162.all (fun q => decide (fetch 162 q.1 = some q.2)) = true := by decide +kernel
theorem f162_0 : fetch 162 0 = some (.iload_n 0, 1) := vtab tk162 0 rfl
theorem e162_0 (L : VL) (st : List Value) (h : VG) (x : Int32) : ev 162 0 (some (.int x) :: L) (st) h = ev 162 1 (some (.int x) :: L) (.int x :: st) h := G_iload_n f162_0 rfl
theorem f162_1 : fetch 162 1 = some (.iload_n 1, 1) := vtab tk162 1 rfl
theorem e162_1 (l0 : Option Value) (L : VL) (st : List Value) (h : VG) (x : Int32) : ev 162 1 (l0 :: some (.int x) :: L) (st) h = ev 162 2 (l0 :: some (.int x) :: L) (.int x :: st) h := G_iload_n f162_1 rfl
theorem f162_2 : fetch 162 2 = some (.if_icmp .lt 12, 3) := vtab tk162 2 rfl
theorem e162_2 (L : VL) (st : List Value) (h : VG) (x y : Int32) : ev 162 2 L (.int y :: .int x :: st) h = if x < y then ev 162 14 L st h else ev 162 5 L st h := G_icmp_lt f162_2 (by decide)
theorem f162_5 : fetch 162 5 = some (.iload_n 0, 1) := vtab tk162 3 rfl
theorem e162_5 (L : VL) (st : List Value) (h : VG) (x : Int32) : ev 162 5 (some (.int x) :: L) (st) h = ev 162 6 (some (.int x) :: L) (.int x :: st) h := G_iload_n f162_5 rfl
theorem f162_6 : fetch 162 6 = some (.iload_n 2, 1) := vtab tk162 4 rfl
theorem e162_6 (l0 l1 : Option Value) (L : VL) (st : List Value) (h : VG) (x : Int32) : ev 162 6 (l0 :: l1 :: some (.int x) :: L) (st) h = ev 162 7 (l0 :: l1 :: some (.int x) :: L) (.int x :: st) h := G_iload_n f162_6 rfl
theorem f162_7 : fetch 162 7 = some (.if_icmp .gt 7, 3) := vtab tk162 5 rfl
theorem e162_7 (L : VL) (st : List Value) (h : VG) (x y : Int32) : ev 162 7 L (.int y :: .int x :: st) h = if x ≤ y then ev 162 10 L st h else ev 162 14 L st h := G_icmp_gt f162_7 (by decide)
theorem f162_10 : fetch 162 10 = some (.iconst 1, 1) := vtab tk162 6 rfl
theorem e162_10 (L : VL) (st : List Value) (h : VG) : ev 162 10 L (st) h = ev 162 11 L (.int (1 : Int32) :: st) h := G_iconst f162_10 (by decide)
theorem f162_11 : fetch 162 11 = some (.goto 4, 3) := vtab tk162 7 rfl
theorem e162_11 (L : VL) (st : List Value) (h : VG) : ev 162 11 L (st) h = ev 162 15 L (st) h := G_goto f162_11 (by decide)
theorem f162_14 : fetch 162 14 = some (.iconst 0, 1) := vtab tk162 8 rfl
theorem e162_14 (L : VL) (st : List Value) (h : VG) : ev 162 14 L (st) h = ev 162 15 L (.int (0 : Int32) :: st) h := G_iconst f162_14 (by decide)
theorem f162_15 : fetch 162 15 = some (.ireturn, 1) := vtab tk162 9 rfl
theorem e162_15 (L : VL) (h : VG) (x : Int32) (hz : x = 0 ∨ x = 1) : ev 162 15 L [.int x] h = some (some (.int x), h) := G_iret f162_15 (ty := .boolean) (by decide) (vbool hz).1
/-! 163 GuestCallsModel.less(II)I -/
def tb163 : List (Nat × Instr × Nat) := [(0, .iload_n 0, 1), (1, .iload_n 1, 1), (2, .if_icmp .ge 7, 3), (5, .iload_n 0, 1), (6, .goto 4, 3), (9, .iload_n 1, 1), (10, .ireturn, 1)]
theorem tk163 : tb163.all (fun q => decide (fetch 163 q.1 = some q.2)) = true := by decide +kernel
theorem f163_0 : fetch 163 0 = some (.iload_n 0, 1) := vtab tk163 0 rfl
theorem e163_0 (L : VL) (st : List Value) (h : VG) (x : Int32) : ev 163 0 (some (.int x) :: L) (st) h = ev 163 1 (some (.int x) :: L) (.int x :: st) h := G_iload_n f163_0 rfl
theorem f163_1 : fetch 163 1 = some (.iload_n 1, 1) := vtab tk163 1 rfl
theorem e163_1 (l0 : Option Value) (L : VL) (st : List Value) (h : VG) (x : Int32) : ev 163 1 (l0 :: some (.int x) :: L) (st) h = ev 163 2 (l0 :: some (.int x) :: L) (.int x :: st) h := G_iload_n f163_1 rfl
theorem f163_2 : fetch 163 2 = some (.if_icmp .ge 7, 3) := vtab tk163 2 rfl
theorem e163_2 (L : VL) (st : List Value) (h : VG) (x y : Int32) : ev 163 2 L (.int y :: .int x :: st) h = if x < y then ev 163 5 L st h else ev 163 9 L st h := G_icmp_ge f163_2 (by decide)
theorem f163_5 : fetch 163 5 = some (.iload_n 0, 1) := vtab tk163 3 rfl
theorem e163_5 (L : VL) (st : List Value) (h : VG) (x : Int32) : ev 163 5 (some (.int x) :: L) (st) h = ev 163 6 (some (.int x) :: L) (.int x :: st) h := G_iload_n f163_5 rfl
theorem f163_6 : fetch 163 6 = some (.goto 4, 3) := vtab tk163 4 rfl
theorem e163_6 (L : VL) (st : List Value) (h : VG) : ev 163 6 L (st) h = ev 163 10 L (st) h := G_goto f163_6 (by decide)
theorem f163_9 : fetch 163 9 = some (.iload_n 1, 1) := vtab tk163 5 rfl
theorem e163_9 (l0 : Option Value) (L : VL) (st : List Value) (h : VG) (x : Int32) : ev 163 9 (l0 :: some (.int x) :: L) (st) h = ev 163 10 (l0 :: some (.int x) :: L) (.int x :: st) h := G_iload_n f163_9 rfl
theorem f163_10 : fetch 163 10 = some (.ireturn, 1) := vtab tk163 6 rfl
theorem e163_10 (L : VL) (h : VG) (x : Int32) : ev 163 10 L [.int x] h = some (some (.int x), h) := G_iret f163_10 (ty := .int) (by decide) rfl
/-! 164 GuestCallsModel.says(I)Z -/
def tb164 : List (Nat × Instr × Nat) := [(0, .aload_n 0, 1), (1, .iload_n 1, 1), (2, .putfield 244, 3), (5, .iload_n 1, 1), (6, .ifCond .le 13, 3), (9, .aload_n 0, 1), (10, .dup, 1), (11, .getfield 247, 3), (14, .iconst 1, 1), (15, .iadd, 1), (16, .putfield 247, 3), (19, .iload_n 1, 1), (20, .ifCond .ne 7, 3), (23, .iconst 1, 1), (24, .goto 4, 3), (27, .iconst 0, 1), (28, .ireturn, 1)]
theorem tk164 : tb164.all (fun q => decide (fetch 164 q.1 = some q.2)) = true := by decide +kernel
theorem f164_0 : fetch 164 0 = some (.aload_n 0, 1) := vtab tk164 0 rfl
theorem e164_0 (L : VL) (st : List Value) (h : VG) (x : Nat) : ev 164 0 (some (.ref x) :: L) (st) h = ev 164 1 (some (.ref x) :: L) (.ref x :: st) h := G_aload_n f164_0 rfl
theorem f164_1 : fetch 164 1 = some (.iload_n 1, 1) := vtab tk164 1 rfl
theorem e164_1 (l0 : Option Value) (L : VL) (st : List Value) (h : VG) (x : Int32) : ev 164 1 (l0 :: some (.int x) :: L) (st) h = ev 164 2 (l0 :: some (.int x) :: L) (.int x :: st) h := G_iload_n f164_1 rfl
theorem f164_2 : fetch 164 2 = some (.putfield 244, 3) := vtab tk164 2 rfl
theorem e164_2 (L : VL) (st : List Value) (h : VG) (a : Nat) (x : Int32) (ho : ob h a 11) : ev 164 2 L (.int x :: .ref a :: st) h = ev 164 5 L (st) (pI h a 31 x) := G_putI (p := 1044) f164_2 lkF_12_244 (by decide) (by decide) (by decide +kernel) ⟨rfl, rfl⟩ ho
theorem f164_5 : fetch 164 5 = some (.iload_n 1, 1) := vtab tk164 3 rfl
theorem e164_5 (l0 : Option Value) (L : VL) (st : List Value) (h : VG) (x : Int32) : ev 164 5 (l0 :: some (.int x) :: L) (st) h = ev 164 6 (l0 :: some (.int x) :: L) (.int x :: st) h := G_iload_n f164_5 rfl
theorem f164_6 : fetch 164 6 = some (.ifCond .le 13, 3) := vtab tk164 4 rfl
theorem e164_6 (L : VL) (st : List Value) (h : VG) (x : Int32) : ev 164 6 L (.int x :: st) h = if x ≤ 0 then ev 164 19 L st h else ev 164 9 L st h := G_if_le f164_6 (by decide)
theorem f164_9 : fetch 164 9 = some (.aload_n 0, 1) := vtab tk164 5 rfl
theorem e164_9 (L : VL) (st : List Value) (h : VG) (x : Nat) : ev 164 9 (some (.ref x) :: L) (st) h = ev 164 10 (some (.ref x) :: L) (.ref x :: st) h := G_aload_n f164_9 rfl
theorem f164_10 : fetch 164 10 = some (.dup, 1) := vtab tk164 6 rfl
theorem e164_10b (L : VL) (st : List Value) (h : VG) (x : Int32) : ev 164 10 L (.int x :: st) h = ev 164 11 L (.int x :: .int x :: st) h := G_dup_int f164_10
theorem e164_10 (L : VL) (st : List Value) (h : VG) (x : Nat) : ev 164 10 L (.ref x :: st) h = ev 164 11 L (.ref x :: .ref x :: st) h := G_dup_ref f164_10
theorem f164_11 : fetch 164 11 = some (.getfield 247, 3) := vtab tk164 7 rfl
theorem e164_11 (L : VL) (st : List Value) (h : VG) (a : Nat) (ho : ob h a 11) : ev 164 11 L (.ref a :: st) h = ev 164 14 L (.int (gI h a 32) :: st) h := G_getI (p := 1045) f164_11 lkF_12_247 (by decide) (by decide) ho
theorem f164_14 : fetch 164 14 = some (.iconst 1, 1) := vtab tk164 8 rfl
theorem e164_14 (L : VL) (st : List Value) (h : VG) : ev 164 14 L (st) h = ev 164 15 L (.int (1 : Int32) :: st) h := G_iconst f164_14 (by decide)
theorem f164_15 : fetch 164 15 = some (.iadd, 1) := vtab tk164 9 rfl
theorem e164_15 (L : VL) (st : List Value) (h : VG) (x y : Int32) : ev 164 15 L (.int y :: .int x :: st) h = ev 164 16 L (.int (x + y) :: st) h := G_iadd f164_15
theorem f164_16 : fetch 164 16 = some (.putfield 247, 3) := vtab tk164 10 rfl
theorem e164_16 (L : VL) (st : List Value) (h : VG) (a : Nat) (x : Int32) (ho : ob h a 11) : ev 164 16 L (.int x :: .ref a :: st) h = ev 164 19 L (st) (pI h a 32 x) := G_putI (p := 1045) f164_16 lkF_12_247 (by decide) (by decide) (by decide +kernel) ⟨rfl, rfl⟩ ho
theorem f164_19 : fetch 164 19 = some (.iload_n 1, 1) := vtab tk164 11 rfl
theorem e164_19 (l0 : Option Value) (L : VL) (st : List Value) (h : VG) (x : Int32) : ev 164 19 (l0 :: some (.int x) :: L) (st) h = ev 164 20 (l0 :: some (.int x) :: L) (.int x :: st) h := G_iload_n f164_19 rfl
theorem f164_20 : fetch 164 20 = some (.ifCond .ne 7, 3) := vtab tk164 12 rfl
theorem e164_20 (L : VL) (st : List Value) (h : VG) (x : Int32) : ev 164 20 L (.int x :: st) h = if x = 0 then ev 164 23 L st h else ev 164 27 L st h := G_if_ne f164_20 (by decide)
theorem f164_23 : fetch 164 23 = some (.iconst 1, 1) := vtab tk164 13 rfl
theorem e164_23 (L : VL) (st : List Value) (h : VG) : ev 164 23 L (st) h = ev 164 24 L (.int (1 : Int32) :: st) h := G_iconst f164_23 (by decide)
theorem f164_24 : fetch 164 24 = some (.goto 4, 3) := vtab tk164 14 rfl
theorem e164_24 (L : VL) (st : List Value) (h : VG) : ev 164 24 L (st) h = ev 164 28 L (st) h := G_goto f164_24 (by decide)
theorem f164_27 : fetch 164 27 = some (.iconst 0, 1) := vtab tk164 15 rfl
theorem e164_27 (L : VL) (st : List Value) (h : VG) : ev 164 27 L (st) h = ev 164 28 L (.int (0 : Int32) :: st) h := G_iconst f164_27 (by decide)
theorem f164_28 : fetch 164 28 = some (.ireturn, 1) := vtab tk164 16 rfl
theorem e164_28 (L : VL) (h : VG) (x : Int32) (hz : x = 0 ∨ x = 1) : ev 164 28 L [.int x] h = some (some (.int x), h) := G_iret f164_28 (ty := .boolean) (by decide) (vbool hz).1
/-! 165 GuestCallsModel.why()I -/
def tb165 : List (Nat × Instr × Nat) := [(0, .aload_n 0, 1), (1, .getfield 244, 3), (4, .ireturn, 1)]
theorem tk165 : tb165.all (fun q => decide (fetch 165 q.1 = some q.2)) = true := by decide +kernel
theorem f165_0 : fetch 165 0 = some (.aload_n 0, 1) := vtab tk165 0 rfl
theorem e165_0 (L : VL) (st : List Value) (h : VG) (x : Nat) : ev 165 0 (some (.ref x) :: L) (st) h = ev 165 1 (some (.ref x) :: L) (.ref x :: st) h := G_aload_n f165_0 rfl
theorem f165_1 : fetch 165 1 = some (.getfield 244, 3) := vtab tk165 1 rfl
theorem e165_1 (L : VL) (st : List Value) (h : VG) (a : Nat) (ho : ob h a 11) : ev 165 1 L (.ref a :: st) h = ev 165 4 L (.int (gI h a 31) :: st) h := G_getI (p := 1044) f165_1 lkF_12_244 (by decide) (by decide) ho
theorem f165_4 : fetch 165 4 = some (.ireturn, 1) := vtab tk165 2 rfl
theorem e165_4 (L : VL) (h : VG) (x : Int32) : ev 165 4 L [.int x] h = some (some (.int x), h) := G_iret f165_4 (ty := .int) (by decide) rfl
/-! 166 GuestCallsModel.bytesOf(IZ)I -/
def tb166 : List (Nat × Instr × Nat) := [(0, .iload_n 2, 1), (1, .ifCond .eq 12, 3), (4, .aload_n 0, 1), (5, .getfield 70, 3), (8, .iload_n 1, 1), (9, .iaload, 1), (10, .goto 9, 3), (13, .aload_n 0, 1), (14, .getfield 67, 3), (17, .iload_n 1, 1), (18, .iaload, 1), (19, .ireturn, 1)]
theorem tk166 : tb166.all (fun q => decide (fetch 166 q.1 = some q.2)) = true := by decide +kernel
theorem f166_0 : fetch 166 0 = some (.iload_n 2, 1) := vtab tk166 0 rfl
theorem e166_0 (l0 l1 : Option Value) (L : VL) (st : List Value) (h : VG) (x : Int32) : ev 166 0 (l0 :: l1 :: some (.int x) :: L) (st) h = ev 166 1 (l0 :: l1 :: some (.int x) :: L) (.int x :: st) h := G_iload_n f166_0 rfl
theorem f166_1 : fetch 166 1 = some (.ifCond .eq 12, 3) := vtab tk166 1 rfl
theorem e166_1 (L : VL) (st : List Value) (h : VG) (x : Int32) : ev 166 1 L (.int x :: st) h = if x = 0 then ev 166 13 L st h else ev 166 4 L st h := G_if_eq f166_1 (by decide)
theorem f166_4 : fetch 166 4 = some (.aload_n 0, 1) := vtab tk166 2 rfl
theorem e166_4 (L : VL) (st : List Value) (h : VG) (x : Nat) : ev 166 4 (some (.ref x) :: L) (st) h = ev 166 5 (some (.ref x) :: L) (.ref x :: st) h := G_aload_n f166_4 rfl
theorem f166_5 : fetch 166 5 = some (.getfield 70, 3) := vtab tk166 3 rfl
theorem e166_5 (L : VL) (st : List Value) (h : VG) (a : Nat) (ho : ob h a 11) (hr : isR h a 34) : ev 166 5 L (.ref a :: st) h = ev 166 8 L (.ref (gR h a 34) :: st) h := G_getR (p := 1047) f166_5 lkF_12_70 (by decide) (by decide) ho hr
theorem f166_8 : fetch 166 8 = some (.iload_n 1, 1) := vtab tk166 4 rfl
theorem e166_8 (l0 : Option Value) (L : VL) (st : List Value) (h : VG) (x : Int32) : ev 166 8 (l0 :: some (.int x) :: L) (st) h = ev 166 9 (l0 :: some (.int x) :: L) (.int x :: st) h := G_iload_n f166_8 rfl
theorem f166_9 : fetch 166 9 = some (.iaload, 1) := vtab tk166 5 rfl
theorem e166_9 (L : VL) (st : List Value) (h : VG) (a : Nat) (i : Int32) (ha : rdI h a) (hi : vp_in i (aln h a)) : ev 166 9 L (.int i :: .ref a :: st) h = ev 166 10 L (.int (aI h a i.toNatClampNeg) :: st) h := G_iald' f166_9 ha hi
theorem f166_10 : fetch 166 10 = some (.goto 9, 3) := vtab tk166 6 rfl
theorem e166_10 (L : VL) (st : List Value) (h : VG) : ev 166 10 L (st) h = ev 166 19 L (st) h := G_goto f166_10 (by decide)
theorem f166_13 : fetch 166 13 = some (.aload_n 0, 1) := vtab tk166 7 rfl
theorem e166_13 (L : VL) (st : List Value) (h : VG) (x : Nat) : ev 166 13 (some (.ref x) :: L) (st) h = ev 166 14 (some (.ref x) :: L) (.ref x :: st) h := G_aload_n f166_13 rfl
theorem f166_14 : fetch 166 14 = some (.getfield 67, 3) := vtab tk166 8 rfl
theorem e166_14 (L : VL) (st : List Value) (h : VG) (a : Nat) (ho : ob h a 11) (hr : isR h a 33) : ev 166 14 L (.ref a :: st) h = ev 166 17 L (.ref (gR h a 33) :: st) h := G_getR (p := 1046) f166_14 lkF_12_67 (by decide) (by decide) ho hr
theorem f166_17 : fetch 166 17 = some (.iload_n 1, 1) := vtab tk166 9 rfl
theorem e166_17 (l0 : Option Value) (L : VL) (st : List Value) (h : VG) (x : Int32) : ev 166 17 (l0 :: some (.int x) :: L) (st) h = ev 166 18 (l0 :: some (.int x) :: L) (.int x :: st) h := G_iload_n f166_17 rfl
theorem f166_18 : fetch 166 18 = some (.iaload, 1) := vtab tk166 10 rfl
theorem e166_18 (L : VL) (st : List Value) (h : VG) (a : Nat) (i : Int32) (ha : rdI h a) (hi : vp_in i (aln h a)) : ev 166 18 L (.int i :: .ref a :: st) h = ev 166 19 L (.int (aI h a i.toNatClampNeg) :: st) h := G_iald' f166_18 ha hi
theorem f166_19 : fetch 166 19 = some (.ireturn, 1) := vtab tk166 11 rfl
theorem e166_19 (L : VL) (h : VG) (x : Int32) : ev 166 19 L [.int x] h = some (some (.int x), h) := G_iret f166_19 (ty := .int) (by decide) rfl
/-! 167 GuestCallsModel.liesAt(IZ)I -/
def tb167 : List (Nat × Instr × Nat) := [(0, .iload_n 2, 1), (1, .ifCond .eq 12, 3), (4, .aload_n 0, 1), (5, .getfield 70, 3), (8, .iload_n 1, 1), (9, .iaload, 1), (10, .goto 13, 3), (13, .aload_n 0, 1), (14, .getfield 67, 3), (17, .iload_n 1, 1), (18, .iaload, 1), (19, .iconst 4, 1), (20, .invokestatic 274, 3), (23, .ireturn, 1)]
theorem tk167 : tb167.all (fun q => decide (fetch 167 q.1 = some q.2)) = true := by decide +kernel
theorem f167_0 : fetch 167 0 = some (.iload_n 2, 1) := vtab tk167 0 rfl
theorem e167_0 (l0 l1 : Option Value) (L : VL) (st : List Value) (h : VG) (x : Int32) : ev 167 0 (l0 :: l1 :: some (.int x) :: L) (st) h = ev 167 1 (l0 :: l1 :: some (.int x) :: L) (.int x :: st) h := G_iload_n f167_0 rfl
theorem f167_1 : fetch 167 1 = some (.ifCond .eq 12, 3) := vtab tk167 1 rfl
theorem e167_1 (L : VL) (st : List Value) (h : VG) (x : Int32) : ev 167 1 L (.int x :: st) h = if x = 0 then ev 167 13 L st h else ev 167 4 L st h := G_if_eq f167_1 (by decide)
theorem f167_4 : fetch 167 4 = some (.aload_n 0, 1) := vtab tk167 2 rfl
theorem e167_4 (L : VL) (st : List Value) (h : VG) (x : Nat) : ev 167 4 (some (.ref x) :: L) (st) h = ev 167 5 (some (.ref x) :: L) (.ref x :: st) h := G_aload_n f167_4 rfl
theorem f167_5 : fetch 167 5 = some (.getfield 70, 3) := vtab tk167 3 rfl
theorem e167_5 (L : VL) (st : List Value) (h : VG) (a : Nat) (ho : ob h a 11) (hr : isR h a 34) : ev 167 5 L (.ref a :: st) h = ev 167 8 L (.ref (gR h a 34) :: st) h := G_getR (p := 1047) f167_5 lkF_12_70 (by decide) (by decide) ho hr
theorem f167_8 : fetch 167 8 = some (.iload_n 1, 1) := vtab tk167 4 rfl
theorem e167_8 (l0 : Option Value) (L : VL) (st : List Value) (h : VG) (x : Int32) : ev 167 8 (l0 :: some (.int x) :: L) (st) h = ev 167 9 (l0 :: some (.int x) :: L) (.int x :: st) h := G_iload_n f167_8 rfl
theorem f167_9 : fetch 167 9 = some (.iaload, 1) := vtab tk167 5 rfl
theorem e167_9 (L : VL) (st : List Value) (h : VG) (a : Nat) (i : Int32) (ha : rdI h a) (hi : vp_in i (aln h a)) : ev 167 9 L (.int i :: .ref a :: st) h = ev 167 10 L (.int (aI h a i.toNatClampNeg) :: st) h := G_iald' f167_9 ha hi
theorem f167_10 : fetch 167 10 = some (.goto 13, 3) := vtab tk167 6 rfl
theorem e167_10 (L : VL) (st : List Value) (h : VG) : ev 167 10 L (st) h = ev 167 23 L (st) h := G_goto f167_10 (by decide)
theorem f167_13 : fetch 167 13 = some (.aload_n 0, 1) := vtab tk167 7 rfl
theorem e167_13 (L : VL) (st : List Value) (h : VG) (x : Nat) : ev 167 13 (some (.ref x) :: L) (st) h = ev 167 14 (some (.ref x) :: L) (.ref x :: st) h := G_aload_n f167_13 rfl
theorem f167_14 : fetch 167 14 = some (.getfield 67, 3) := vtab tk167 8 rfl
theorem e167_14 (L : VL) (st : List Value) (h : VG) (a : Nat) (ho : ob h a 11) (hr : isR h a 33) : ev 167 14 L (.ref a :: st) h = ev 167 17 L (.ref (gR h a 33) :: st) h := G_getR (p := 1046) f167_14 lkF_12_67 (by decide) (by decide) ho hr
theorem f167_17 : fetch 167 17 = some (.iload_n 1, 1) := vtab tk167 9 rfl
theorem e167_17 (l0 : Option Value) (L : VL) (st : List Value) (h : VG) (x : Int32) : ev 167 17 (l0 :: some (.int x) :: L) (st) h = ev 167 18 (l0 :: some (.int x) :: L) (.int x :: st) h := G_iload_n f167_17 rfl
theorem f167_18 : fetch 167 18 = some (.iaload, 1) := vtab tk167 10 rfl
theorem e167_18 (L : VL) (st : List Value) (h : VG) (a : Nat) (i : Int32) (ha : rdI h a) (hi : vp_in i (aln h a)) : ev 167 18 L (.int i :: .ref a :: st) h = ev 167 19 L (.int (aI h a i.toNatClampNeg) :: st) h := G_iald' f167_18 ha hi
theorem f167_19 : fetch 167 19 = some (.iconst 4, 1) := vtab tk167 11 rfl
theorem e167_19 (L : VL) (st : List Value) (h : VG) : ev 167 19 L (st) h = ev 167 20 L (.int (4 : Int32) :: st) h := G_iconst f167_19 (by decide)
theorem f167_20 : fetch 167 20 = some (.invokestatic 274, 3) := vtab tk167 12 rfl
theorem e167_20 (L : VL) (st : List Value) (h : VG) (x0 : Int32) (x1 : Int32) (hs : catS st ≤ 8) : ev 167 20 L (.int x1 :: .int x0 :: st) h = (ev 163 0 [some (.int x0), some (.int x1)] [] h).bind fun q => ev 167 23 L (q.1.toList ++ st) q.2 := G_calls (k := 0) (p := 1329) (ars := [.int x0, .int x1]) f167_20 lkC_12_274 (by decide) (by decide +kernel) rfl (Nat.le_of_ble_eq_true rfl) hs rfl
theorem f167_23 : fetch 167 23 = some (.ireturn, 1) := vtab tk167 13 rfl
theorem e167_23 (L : VL) (h : VG) (x : Int32) : ev 167 23 L [.int x] h = some (some (.int x), h) := G_iret f167_23 (ty := .int) (by decide) rfl
/-! 168 GuestCallsModel.up(II)I -/
def tb168 : List (Nat × Instr × Nat) := [(0, .iload_n 0, 1), (1, .iload_n 1, 1), (2, .iadd, 1), (3, .iconst 1, 1), (4, .isub, 1), (5, .iload_n 1, 1), (6, .idiv, 1), (7, .iload_n 1, 1), (8, .imul, 1), (9, .ireturn, 1)]
theorem tk168 : tb168.all (fun q => decide (fetch 168 q.1 = some q.2)) = true := by decide +kernel
theorem f168_0 : fetch 168 0 = some (.iload_n 0, 1) := vtab tk168 0 rfl
theorem e168_0 (L : VL) (st : List Value) (h : VG) (x : Int32) : ev 168 0 (some (.int x) :: L) (st) h = ev 168 1 (some (.int x) :: L) (.int x :: st) h := G_iload_n f168_0 rfl
theorem f168_1 : fetch 168 1 = some (.iload_n 1, 1) := vtab tk168 1 rfl
theorem e168_1 (l0 : Option Value) (L : VL) (st : List Value) (h : VG) (x : Int32) : ev 168 1 (l0 :: some (.int x) :: L) (st) h = ev 168 2 (l0 :: some (.int x) :: L) (.int x :: st) h := G_iload_n f168_1 rfl
theorem f168_2 : fetch 168 2 = some (.iadd, 1) := vtab tk168 2 rfl
theorem e168_2 (L : VL) (st : List Value) (h : VG) (x y : Int32) : ev 168 2 L (.int y :: .int x :: st) h = ev 168 3 L (.int (x + y) :: st) h := G_iadd f168_2
theorem f168_3 : fetch 168 3 = some (.iconst 1, 1) := vtab tk168 3 rfl
theorem e168_3 (L : VL) (st : List Value) (h : VG) : ev 168 3 L (st) h = ev 168 4 L (.int (1 : Int32) :: st) h := G_iconst f168_3 (by decide)
theorem f168_4 : fetch 168 4 = some (.isub, 1) := vtab tk168 4 rfl
theorem e168_4 (L : VL) (st : List Value) (h : VG) (x y : Int32) : ev 168 4 L (.int y :: .int x :: st) h = ev 168 5 L (.int (x - y) :: st) h := G_isub f168_4
theorem f168_5 : fetch 168 5 = some (.iload_n 1, 1) := vtab tk168 5 rfl
theorem e168_5 (l0 : Option Value) (L : VL) (st : List Value) (h : VG) (x : Int32) : ev 168 5 (l0 :: some (.int x) :: L) (st) h = ev 168 6 (l0 :: some (.int x) :: L) (.int x :: st) h := G_iload_n f168_5 rfl
theorem f168_6 : fetch 168 6 = some (.idiv, 1) := vtab tk168 6 rfl
theorem e168_6 (L : VL) (st : List Value) (h : VG) (x y : Int32) (hy : ¬ y = 0) : ev 168 6 L (.int y :: .int x :: st) h = ev 168 7 L (.int (x / y) :: st) h := G_idiv f168_6 hy
theorem f168_7 : fetch 168 7 = some (.iload_n 1, 1) := vtab tk168 7 rfl
theorem e168_7 (l0 : Option Value) (L : VL) (st : List Value) (h : VG) (x : Int32) : ev 168 7 (l0 :: some (.int x) :: L) (st) h = ev 168 8 (l0 :: some (.int x) :: L) (.int x :: st) h := G_iload_n f168_7 rfl
theorem f168_8 : fetch 168 8 = some (.imul, 1) := vtab tk168 8 rfl
theorem e168_8 (L : VL) (st : List Value) (h : VG) (x y : Int32) : ev 168 8 L (.int y :: .int x :: st) h = ev 168 9 L (.int (x * y) :: st) h := G_imul f168_8
theorem f168_9 : fetch 168 9 = some (.ireturn, 1) := vtab tk168 9 rfl
theorem e168_9 (L : VL) (h : VG) (x : Int32) : ev 168 9 L [.int x] h = some (some (.int x), h) := G_iret f168_9 (ty := .int) (by decide) rfl
/-! 169 GuestCallsModel.laysOut(IZ)V -/
def tb169 : List (Nat × Instr × Nat) := [(0, .iconst 0, 1), (1, .istore_n 3, 1), (2, .aload_n 0, 1), (3, .iconst 1, 1), (4, .putfield 277, 3), (7, .iconst 0, 1), (8, .istore 4, 2), (10, .iload 4, 2), (12, .aload_n 0, 1), (13, .getfield 43, 3), (16, .iload_n 1, 1), (17, .iaload, 1), (18, .if_icmp .ge 89, 3), (21, .aload_n 0, 1), (22, .getfield 46, 3), (25, .bipush 8, 2), (27, .iload_n 1, 1), (28, .imul, 1), (29, .iload 4, 2), (31, .iadd, 1), (32, .iaload, 1), (33, .istore 5, 2), (35, .aload_n 0, 1), (36, .iload 5, 2), (38, .iload_n 2, 1), (39, .invokevirtual 280, 3), (42, .istore 6, 2), (44, .iload 6, 2), (46, .aload_n 0, 1), (47, .getfield 277, 3), (50, .if_icmp .le 9, 3), (53, .aload_n 0, 1), (54, .iload 6, 2), (56, .putfield 277, 3), (59, .aload_n 0, 1), (60, .getfield 73, 3), (63, .iload 4, 2), (65, .iload_n 3, 1), (66, .iload 6, 2), (68, .invokestatic 284, 3), (71, .iastore, 1), (72, .aload_n 0, 1), (73, .getfield 73, 3), (76, .iload 4, 2), (78, .iaload, 1), (79, .aload_n 0, 1), (80, .getfield 49, 3), (83, .bipush 8, 2), (85, .iload_n 1, 1), (86, .imul, 1), (87, .iload 4, 2), (89, .iadd, 1), (90, .iaload, 1), (91, .aload_n 0, 1), (92, .iload 5, 2), (94, .iload_n 2, 1), (95, .invokevirtual 287, 3), (98, .imul, 1), (99, .iadd, 1), (100, .istore_n 3, 1), (101, .iinc 4 1, 3), (104, .goto (-94), 3), (107, .aload_n 0, 1), (108, .iload_n 3, 1), (109, .aload_n 0, 1), (110, .getfield 277, 3), (113, .invokestatic 284, 3), (116, .putfield 290, 3), (119, .return_, 1)]
theorem tk169 : tb169.all (fun q => decide (fetch 169 q.1 = some q.2)) = true := by decide +kernel
theorem f169_0 : fetch 169 0 = some (.iconst 0, 1) := vtab tk169 0 rfl
theorem e169_0 (L : VL) (st : List Value) (h : VG) : ev 169 0 L (st) h = ev 169 1 L (.int (0 : Int32) :: st) h := G_iconst f169_0 (by decide)
theorem f169_1 : fetch 169 1 = some (.istore_n 3, 1) := vtab tk169 1 rfl
theorem e169_1 (l0 l1 l2 l3 : Option Value) (L : VL) (st : List Value) (h : VG) (x : Int32) : ev 169 1 (l0 :: l1 :: l2 :: l3 :: L) (.int x :: st) h = ev 169 2 (l0 :: l1 :: vkk l2 :: some (.int x) :: L) (st) h := G_istore_n f169_1 rfl (S1_3 l0 l1 l2 l3 L _)
theorem f169_2 : fetch 169 2 = some (.aload_n 0, 1) := vtab tk169 2 rfl
theorem e169_2 (L : VL) (st : List Value) (h : VG) (x : Nat) : ev 169 2 (some (.ref x) :: L) (st) h = ev 169 3 (some (.ref x) :: L) (.ref x :: st) h := G_aload_n f169_2 rfl
theorem f169_3 : fetch 169 3 = some (.iconst 1, 1) := vtab tk169 3 rfl
theorem e169_3 (L : VL) (st : List Value) (h : VG) : ev 169 3 L (st) h = ev 169 4 L (.int (1 : Int32) :: st) h := G_iconst f169_3 (by decide)
theorem f169_4 : fetch 169 4 = some (.putfield 277, 3) := vtab tk169 4 rfl
theorem e169_4 (L : VL) (st : List Value) (h : VG) (a : Nat) (x : Int32) (ho : ob h a 11) : ev 169 4 L (.int x :: .ref a :: st) h = ev 169 7 L (st) (pI h a 37 x) := G_putI (p := 1050) f169_4 lkF_12_277 (by decide) (by decide) (by decide +kernel) ⟨rfl, rfl⟩ ho
theorem f169_7 : fetch 169 7 = some (.iconst 0, 1) := vtab tk169 5 rfl
theorem e169_7 (L : VL) (st : List Value) (h : VG) : ev 169 7 L (st) h = ev 169 8 L (.int (0 : Int32) :: st) h := G_iconst f169_7 (by decide)
theorem f169_8 : fetch 169 8 = some (.istore 4, 2) := vtab tk169 6 rfl
theorem e169_8 (l0 l1 l2 l3 l4 : Option Value) (L : VL) (st : List Value) (h : VG) (x : Int32) : ev 169 8 (l0 :: l1 :: l2 :: l3 :: l4 :: L) (.int x :: st) h = ev 169 10 (l0 :: l1 :: l2 :: vkk l3 :: some (.int x) :: L) (st) h := G_istore f169_8 rfl (S1_4 l0 l1 l2 l3 l4 L _)
theorem f169_10 : fetch 169 10 = some (.iload 4, 2) := vtab tk169 7 rfl
theorem e169_10 (l0 l1 l2 l3 : Option Value) (L : VL) (st : List Value) (h : VG) (x : Int32) : ev 169 10 (l0 :: l1 :: l2 :: l3 :: some (.int x) :: L) (st) h = ev 169 12 (l0 :: l1 :: l2 :: l3 :: some (.int x) :: L) (.int x :: st) h := G_iload f169_10 rfl
theorem f169_12 : fetch 169 12 = some (.aload_n 0, 1) := vtab tk169 8 rfl
theorem e169_12 (L : VL) (st : List Value) (h : VG) (x : Nat) : ev 169 12 (some (.ref x) :: L) (st) h = ev 169 13 (some (.ref x) :: L) (.ref x :: st) h := G_aload_n f169_12 rfl
theorem f169_13 : fetch 169 13 = some (.getfield 43, 3) := vtab tk169 9 rfl
theorem e169_13 (L : VL) (st : List Value) (h : VG) (a : Nat) (ho : ob h a 11) (hr : isR h a 20) : ev 169 13 L (.ref a :: st) h = ev 169 16 L (.ref (gR h a 20) :: st) h := G_getR (p := 1033) f169_13 lkF_12_43 (by decide) (by decide) ho hr
theorem f169_16 : fetch 169 16 = some (.iload_n 1, 1) := vtab tk169 10 rfl
theorem e169_16 (l0 : Option Value) (L : VL) (st : List Value) (h : VG) (x : Int32) : ev 169 16 (l0 :: some (.int x) :: L) (st) h = ev 169 17 (l0 :: some (.int x) :: L) (.int x :: st) h := G_iload_n f169_16 rfl
theorem f169_17 : fetch 169 17 = some (.iaload, 1) := vtab tk169 11 rfl
theorem e169_17 (L : VL) (st : List Value) (h : VG) (a : Nat) (i : Int32) (ha : rdI h a) (hi : vp_in i (aln h a)) : ev 169 17 L (.int i :: .ref a :: st) h = ev 169 18 L (.int (aI h a i.toNatClampNeg) :: st) h := G_iald' f169_17 ha hi
theorem f169_18 : fetch 169 18 = some (.if_icmp .ge 89, 3) := vtab tk169 12 rfl
theorem e169_18 (L : VL) (st : List Value) (h : VG) (x y : Int32) : ev 169 18 L (.int y :: .int x :: st) h = if x < y then ev 169 21 L st h else ev 169 107 L st h := G_icmp_ge f169_18 (by decide)
theorem f169_21 : fetch 169 21 = some (.aload_n 0, 1) := vtab tk169 13 rfl
theorem e169_21 (L : VL) (st : List Value) (h : VG) (x : Nat) : ev 169 21 (some (.ref x) :: L) (st) h = ev 169 22 (some (.ref x) :: L) (.ref x :: st) h := G_aload_n f169_21 rfl
theorem f169_22 : fetch 169 22 = some (.getfield 46, 3) := vtab tk169 14 rfl
theorem e169_22 (L : VL) (st : List Value) (h : VG) (a : Nat) (ho : ob h a 11) (hr : isR h a 21) : ev 169 22 L (.ref a :: st) h = ev 169 25 L (.ref (gR h a 21) :: st) h := G_getR (p := 1034) f169_22 lkF_12_46 (by decide) (by decide) ho hr
theorem f169_25 : fetch 169 25 = some (.bipush 8, 2) := vtab tk169 15 rfl
theorem e169_25 (L : VL) (st : List Value) (h : VG) : ev 169 25 L (st) h = ev 169 27 L (.int (8 : Int32) :: st) h := G_bipush f169_25 (by decide)
theorem f169_27 : fetch 169 27 = some (.iload_n 1, 1) := vtab tk169 16 rfl
theorem e169_27 (l0 : Option Value) (L : VL) (st : List Value) (h : VG) (x : Int32) : ev 169 27 (l0 :: some (.int x) :: L) (st) h = ev 169 28 (l0 :: some (.int x) :: L) (.int x :: st) h := G_iload_n f169_27 rfl
theorem f169_28 : fetch 169 28 = some (.imul, 1) := vtab tk169 17 rfl
theorem e169_28 (L : VL) (st : List Value) (h : VG) (x y : Int32) : ev 169 28 L (.int y :: .int x :: st) h = ev 169 29 L (.int (x * y) :: st) h := G_imul f169_28
theorem f169_29 : fetch 169 29 = some (.iload 4, 2) := vtab tk169 18 rfl
theorem e169_29 (l0 l1 l2 l3 : Option Value) (L : VL) (st : List Value) (h : VG) (x : Int32) : ev 169 29 (l0 :: l1 :: l2 :: l3 :: some (.int x) :: L) (st) h = ev 169 31 (l0 :: l1 :: l2 :: l3 :: some (.int x) :: L) (.int x :: st) h := G_iload f169_29 rfl
theorem f169_31 : fetch 169 31 = some (.iadd, 1) := vtab tk169 19 rfl
theorem e169_31 (L : VL) (st : List Value) (h : VG) (x y : Int32) : ev 169 31 L (.int y :: .int x :: st) h = ev 169 32 L (.int (x + y) :: st) h := G_iadd f169_31
theorem f169_32 : fetch 169 32 = some (.iaload, 1) := vtab tk169 20 rfl
theorem e169_32 (L : VL) (st : List Value) (h : VG) (a : Nat) (i : Int32) (ha : rdI h a) (hi : vp_in i (aln h a)) : ev 169 32 L (.int i :: .ref a :: st) h = ev 169 33 L (.int (aI h a i.toNatClampNeg) :: st) h := G_iald' f169_32 ha hi
theorem f169_33 : fetch 169 33 = some (.istore 5, 2) := vtab tk169 21 rfl
theorem e169_33 (l0 l1 l2 l3 l4 l5 : Option Value) (L : VL) (st : List Value) (h : VG) (x : Int32) : ev 169 33 (l0 :: l1 :: l2 :: l3 :: l4 :: l5 :: L) (.int x :: st) h = ev 169 35 (l0 :: l1 :: l2 :: l3 :: vkk l4 :: some (.int x) :: L) (st) h := G_istore f169_33 rfl (S1_5 l0 l1 l2 l3 l4 l5 L _)
theorem f169_35 : fetch 169 35 = some (.aload_n 0, 1) := vtab tk169 22 rfl
theorem e169_35 (L : VL) (st : List Value) (h : VG) (x : Nat) : ev 169 35 (some (.ref x) :: L) (st) h = ev 169 36 (some (.ref x) :: L) (.ref x :: st) h := G_aload_n f169_35 rfl
theorem f169_36 : fetch 169 36 = some (.iload 5, 2) := vtab tk169 23 rfl
theorem e169_36 (l0 l1 l2 l3 l4 : Option Value) (L : VL) (st : List Value) (h : VG) (x : Int32) : ev 169 36 (l0 :: l1 :: l2 :: l3 :: l4 :: some (.int x) :: L) (st) h = ev 169 38 (l0 :: l1 :: l2 :: l3 :: l4 :: some (.int x) :: L) (.int x :: st) h := G_iload f169_36 rfl
theorem f169_38 : fetch 169 38 = some (.iload_n 2, 1) := vtab tk169 24 rfl
theorem e169_38 (l0 l1 : Option Value) (L : VL) (st : List Value) (h : VG) (x : Int32) : ev 169 38 (l0 :: l1 :: some (.int x) :: L) (st) h = ev 169 39 (l0 :: l1 :: some (.int x) :: L) (.int x :: st) h := G_iload_n f169_38 rfl
theorem f169_39 : fetch 169 39 = some (.invokevirtual 280, 3) := vtab tk169 25 rfl
theorem e169_39 (L : VL) (st : List Value) (h : VG) (b : Nat) (x0 : Int32) (x1 : Int32) (ho : ob h b 11) (hs : catS st ≤ 8) : ev 169 39 L (.int x1 :: .int x0 :: .ref b :: st) h = (ev 167 0 [some (.ref b), some (.int x0), some (.int x1)] [] h).bind fun q => ev 169 42 L (q.1.toList ++ st) q.2 := G_callv (k := 1) (p := 1325) (ars := [.int x0, .int x1]) f169_39 lkC_12_280 (by decide) (by decide +kernel) rfl (vcls_ob (ci := 11) (by decide) ho) (Nat.le_of_ble_eq_true rfl) hs rfl
theorem f169_42 : fetch 169 42 = some (.istore 6, 2) := vtab tk169 26 rfl
theorem e169_42 (l0 l1 l2 l3 l4 l5 l6 : Option Value) (L : VL) (st : List Value) (h : VG) (x : Int32) : ev 169 42 (l0 :: l1 :: l2 :: l3 :: l4 :: l5 :: l6 :: L) (.int x :: st) h = ev 169 44 (l0 :: l1 :: l2 :: l3 :: l4 :: vkk l5 :: some (.int x) :: L) (st) h := G_istore f169_42 rfl (S1_6 l0 l1 l2 l3 l4 l5 l6 L _)
theorem f169_44 : fetch 169 44 = some (.iload 6, 2) := vtab tk169 27 rfl
theorem e169_44 (l0 l1 l2 l3 l4 l5 : Option Value) (L : VL) (st : List Value) (h : VG) (x : Int32) : ev 169 44 (l0 :: l1 :: l2 :: l3 :: l4 :: l5 :: some (.int x) :: L) (st) h = ev 169 46 (l0 :: l1 :: l2 :: l3 :: l4 :: l5 :: some (.int x) :: L) (.int x :: st) h := G_iload f169_44 rfl
theorem f169_46 : fetch 169 46 = some (.aload_n 0, 1) := vtab tk169 28 rfl
theorem e169_46 (L : VL) (st : List Value) (h : VG) (x : Nat) : ev 169 46 (some (.ref x) :: L) (st) h = ev 169 47 (some (.ref x) :: L) (.ref x :: st) h := G_aload_n f169_46 rfl
theorem f169_47 : fetch 169 47 = some (.getfield 277, 3) := vtab tk169 29 rfl
theorem e169_47 (L : VL) (st : List Value) (h : VG) (a : Nat) (ho : ob h a 11) : ev 169 47 L (.ref a :: st) h = ev 169 50 L (.int (gI h a 37) :: st) h := G_getI (p := 1050) f169_47 lkF_12_277 (by decide) (by decide) ho
theorem f169_50 : fetch 169 50 = some (.if_icmp .le 9, 3) := vtab tk169 30 rfl
theorem e169_50 (L : VL) (st : List Value) (h : VG) (x y : Int32) : ev 169 50 L (.int y :: .int x :: st) h = if x ≤ y then ev 169 59 L st h else ev 169 53 L st h := G_icmp_le f169_50 (by decide)
theorem f169_53 : fetch 169 53 = some (.aload_n 0, 1) := vtab tk169 31 rfl
theorem e169_53 (L : VL) (st : List Value) (h : VG) (x : Nat) : ev 169 53 (some (.ref x) :: L) (st) h = ev 169 54 (some (.ref x) :: L) (.ref x :: st) h := G_aload_n f169_53 rfl
theorem f169_54 : fetch 169 54 = some (.iload 6, 2) := vtab tk169 32 rfl
theorem e169_54 (l0 l1 l2 l3 l4 l5 : Option Value) (L : VL) (st : List Value) (h : VG) (x : Int32) : ev 169 54 (l0 :: l1 :: l2 :: l3 :: l4 :: l5 :: some (.int x) :: L) (st) h = ev 169 56 (l0 :: l1 :: l2 :: l3 :: l4 :: l5 :: some (.int x) :: L) (.int x :: st) h := G_iload f169_54 rfl
theorem f169_56 : fetch 169 56 = some (.putfield 277, 3) := vtab tk169 33 rfl
theorem e169_56 (L : VL) (st : List Value) (h : VG) (a : Nat) (x : Int32) (ho : ob h a 11) : ev 169 56 L (.int x :: .ref a :: st) h = ev 169 59 L (st) (pI h a 37 x) := G_putI (p := 1050) f169_56 lkF_12_277 (by decide) (by decide) (by decide +kernel) ⟨rfl, rfl⟩ ho
theorem f169_59 : fetch 169 59 = some (.aload_n 0, 1) := vtab tk169 34 rfl
theorem e169_59 (L : VL) (st : List Value) (h : VG) (x : Nat) : ev 169 59 (some (.ref x) :: L) (st) h = ev 169 60 (some (.ref x) :: L) (.ref x :: st) h := G_aload_n f169_59 rfl
theorem f169_60 : fetch 169 60 = some (.getfield 73, 3) := vtab tk169 35 rfl
theorem e169_60 (L : VL) (st : List Value) (h : VG) (a : Nat) (ho : ob h a 11) (hr : isR h a 35) : ev 169 60 L (.ref a :: st) h = ev 169 63 L (.ref (gR h a 35) :: st) h := G_getR (p := 1048) f169_60 lkF_12_73 (by decide) (by decide) ho hr
theorem f169_63 : fetch 169 63 = some (.iload 4, 2) := vtab tk169 36 rfl
theorem e169_63 (l0 l1 l2 l3 : Option Value) (L : VL) (st : List Value) (h : VG) (x : Int32) : ev 169 63 (l0 :: l1 :: l2 :: l3 :: some (.int x) :: L) (st) h = ev 169 65 (l0 :: l1 :: l2 :: l3 :: some (.int x) :: L) (.int x :: st) h := G_iload f169_63 rfl
theorem f169_65 : fetch 169 65 = some (.iload_n 3, 1) := vtab tk169 37 rfl
theorem e169_65 (l0 l1 l2 : Option Value) (L : VL) (st : List Value) (h : VG) (x : Int32) : ev 169 65 (l0 :: l1 :: l2 :: some (.int x) :: L) (st) h = ev 169 66 (l0 :: l1 :: l2 :: some (.int x) :: L) (.int x :: st) h := G_iload_n f169_65 rfl
theorem f169_66 : fetch 169 66 = some (.iload 6, 2) := vtab tk169 38 rfl
theorem e169_66 (l0 l1 l2 l3 l4 l5 : Option Value) (L : VL) (st : List Value) (h : VG) (x : Int32) : ev 169 66 (l0 :: l1 :: l2 :: l3 :: l4 :: l5 :: some (.int x) :: L) (st) h = ev 169 68 (l0 :: l1 :: l2 :: l3 :: l4 :: l5 :: some (.int x) :: L) (.int x :: st) h := G_iload f169_66 rfl
theorem f169_68 : fetch 169 68 = some (.invokestatic 284, 3) := vtab tk169 39 rfl
theorem e169_68 (L : VL) (st : List Value) (h : VG) (x0 : Int32) (x1 : Int32) (hs : catS st ≤ 8) : ev 169 68 L (.int x1 :: .int x0 :: st) h = (ev 168 0 [some (.int x0), some (.int x1)] [] h).bind fun q => ev 169 71 L (q.1.toList ++ st) q.2 := G_calls (k := 0) (p := 1332) (ars := [.int x0, .int x1]) f169_68 lkC_12_284 (by decide) (by decide +kernel) rfl (Nat.le_of_ble_eq_true rfl) hs rfl
theorem f169_71 : fetch 169 71 = some (.iastore, 1) := vtab tk169 40 rfl
theorem e169_71 (L : VL) (st : List Value) (h : VG) (a : Nat) (i : Int32) (x : Int32) (ha : arI h a 0) (hi : vp_in i (aln h a)) : ev 169 71 L (.int x :: .int i :: .ref a :: st) h = ev 169 72 L (st) (wI h a i.toNatClampNeg x) := G_iast f169_71 ha hi
theorem f169_72 : fetch 169 72 = some (.aload_n 0, 1) := vtab tk169 41 rfl
theorem e169_72 (L : VL) (st : List Value) (h : VG) (x : Nat) : ev 169 72 (some (.ref x) :: L) (st) h = ev 169 73 (some (.ref x) :: L) (.ref x :: st) h := G_aload_n f169_72 rfl
theorem f169_73 : fetch 169 73 = some (.getfield 73, 3) := vtab tk169 42 rfl
theorem e169_73 (L : VL) (st : List Value) (h : VG) (a : Nat) (ho : ob h a 11) (hr : isR h a 35) : ev 169 73 L (.ref a :: st) h = ev 169 76 L (.ref (gR h a 35) :: st) h := G_getR (p := 1048) f169_73 lkF_12_73 (by decide) (by decide) ho hr
theorem f169_76 : fetch 169 76 = some (.iload 4, 2) := vtab tk169 43 rfl
theorem e169_76 (l0 l1 l2 l3 : Option Value) (L : VL) (st : List Value) (h : VG) (x : Int32) : ev 169 76 (l0 :: l1 :: l2 :: l3 :: some (.int x) :: L) (st) h = ev 169 78 (l0 :: l1 :: l2 :: l3 :: some (.int x) :: L) (.int x :: st) h := G_iload f169_76 rfl
theorem f169_78 : fetch 169 78 = some (.iaload, 1) := vtab tk169 44 rfl
theorem e169_78 (L : VL) (st : List Value) (h : VG) (a : Nat) (i : Int32) (ha : rdI h a) (hi : vp_in i (aln h a)) : ev 169 78 L (.int i :: .ref a :: st) h = ev 169 79 L (.int (aI h a i.toNatClampNeg) :: st) h := G_iald' f169_78 ha hi
theorem f169_79 : fetch 169 79 = some (.aload_n 0, 1) := vtab tk169 45 rfl
theorem e169_79 (L : VL) (st : List Value) (h : VG) (x : Nat) : ev 169 79 (some (.ref x) :: L) (st) h = ev 169 80 (some (.ref x) :: L) (.ref x :: st) h := G_aload_n f169_79 rfl
theorem f169_80 : fetch 169 80 = some (.getfield 49, 3) := vtab tk169 46 rfl
theorem e169_80 (L : VL) (st : List Value) (h : VG) (a : Nat) (ho : ob h a 11) (hr : isR h a 22) : ev 169 80 L (.ref a :: st) h = ev 169 83 L (.ref (gR h a 22) :: st) h := G_getR (p := 1035) f169_80 lkF_12_49 (by decide) (by decide) ho hr
theorem f169_83 : fetch 169 83 = some (.bipush 8, 2) := vtab tk169 47 rfl
theorem e169_83 (L : VL) (st : List Value) (h : VG) : ev 169 83 L (st) h = ev 169 85 L (.int (8 : Int32) :: st) h := G_bipush f169_83 (by decide)
theorem f169_85 : fetch 169 85 = some (.iload_n 1, 1) := vtab tk169 48 rfl
theorem e169_85 (l0 : Option Value) (L : VL) (st : List Value) (h : VG) (x : Int32) : ev 169 85 (l0 :: some (.int x) :: L) (st) h = ev 169 86 (l0 :: some (.int x) :: L) (.int x :: st) h := G_iload_n f169_85 rfl
theorem f169_86 : fetch 169 86 = some (.imul, 1) := vtab tk169 49 rfl
theorem e169_86 (L : VL) (st : List Value) (h : VG) (x y : Int32) : ev 169 86 L (.int y :: .int x :: st) h = ev 169 87 L (.int (x * y) :: st) h := G_imul f169_86
theorem f169_87 : fetch 169 87 = some (.iload 4, 2) := vtab tk169 50 rfl
theorem e169_87 (l0 l1 l2 l3 : Option Value) (L : VL) (st : List Value) (h : VG) (x : Int32) : ev 169 87 (l0 :: l1 :: l2 :: l3 :: some (.int x) :: L) (st) h = ev 169 89 (l0 :: l1 :: l2 :: l3 :: some (.int x) :: L) (.int x :: st) h := G_iload f169_87 rfl
theorem f169_89 : fetch 169 89 = some (.iadd, 1) := vtab tk169 51 rfl
theorem e169_89 (L : VL) (st : List Value) (h : VG) (x y : Int32) : ev 169 89 L (.int y :: .int x :: st) h = ev 169 90 L (.int (x + y) :: st) h := G_iadd f169_89
theorem f169_90 : fetch 169 90 = some (.iaload, 1) := vtab tk169 52 rfl
theorem e169_90 (L : VL) (st : List Value) (h : VG) (a : Nat) (i : Int32) (ha : rdI h a) (hi : vp_in i (aln h a)) : ev 169 90 L (.int i :: .ref a :: st) h = ev 169 91 L (.int (aI h a i.toNatClampNeg) :: st) h := G_iald' f169_90 ha hi
theorem f169_91 : fetch 169 91 = some (.aload_n 0, 1) := vtab tk169 53 rfl
theorem e169_91 (L : VL) (st : List Value) (h : VG) (x : Nat) : ev 169 91 (some (.ref x) :: L) (st) h = ev 169 92 (some (.ref x) :: L) (.ref x :: st) h := G_aload_n f169_91 rfl
theorem f169_92 : fetch 169 92 = some (.iload 5, 2) := vtab tk169 54 rfl
theorem e169_92 (l0 l1 l2 l3 l4 : Option Value) (L : VL) (st : List Value) (h : VG) (x : Int32) : ev 169 92 (l0 :: l1 :: l2 :: l3 :: l4 :: some (.int x) :: L) (st) h = ev 169 94 (l0 :: l1 :: l2 :: l3 :: l4 :: some (.int x) :: L) (.int x :: st) h := G_iload f169_92 rfl
theorem f169_94 : fetch 169 94 = some (.iload_n 2, 1) := vtab tk169 55 rfl
theorem e169_94 (l0 l1 : Option Value) (L : VL) (st : List Value) (h : VG) (x : Int32) : ev 169 94 (l0 :: l1 :: some (.int x) :: L) (st) h = ev 169 95 (l0 :: l1 :: some (.int x) :: L) (.int x :: st) h := G_iload_n f169_94 rfl
theorem f169_95 : fetch 169 95 = some (.invokevirtual 287, 3) := vtab tk169 56 rfl
theorem e169_95 (L : VL) (st : List Value) (h : VG) (b : Nat) (x0 : Int32) (x1 : Int32) (ho : ob h b 11) (hs : catS st ≤ 8) : ev 169 95 L (.int x1 :: .int x0 :: .ref b :: st) h = (ev 166 0 [some (.ref b), some (.int x0), some (.int x1)] [] h).bind fun q => ev 169 98 L (q.1.toList ++ st) q.2 := G_callv (k := 1) (p := 1335) (ars := [.int x0, .int x1]) f169_95 lkC_12_287 (by decide) (by decide +kernel) rfl (vcls_ob (ci := 11) (by decide) ho) (Nat.le_of_ble_eq_true rfl) hs rfl
theorem f169_98 : fetch 169 98 = some (.imul, 1) := vtab tk169 57 rfl
theorem e169_98 (L : VL) (st : List Value) (h : VG) (x y : Int32) : ev 169 98 L (.int y :: .int x :: st) h = ev 169 99 L (.int (x * y) :: st) h := G_imul f169_98
theorem f169_99 : fetch 169 99 = some (.iadd, 1) := vtab tk169 58 rfl
theorem e169_99 (L : VL) (st : List Value) (h : VG) (x y : Int32) : ev 169 99 L (.int y :: .int x :: st) h = ev 169 100 L (.int (x + y) :: st) h := G_iadd f169_99
theorem f169_100 : fetch 169 100 = some (.istore_n 3, 1) := vtab tk169 59 rfl
theorem e169_100 (l0 l1 l2 l3 : Option Value) (L : VL) (st : List Value) (h : VG) (x : Int32) : ev 169 100 (l0 :: l1 :: l2 :: l3 :: L) (.int x :: st) h = ev 169 101 (l0 :: l1 :: vkk l2 :: some (.int x) :: L) (st) h := G_istore_n f169_100 rfl (S1_3 l0 l1 l2 l3 L _)
theorem f169_101 : fetch 169 101 = some (.iinc 4 1, 3) := vtab tk169 60 rfl
theorem e169_101 (l0 l1 l2 l3 : Option Value) (L : VL) (st : List Value) (h : VG) (x : Int32) : ev 169 101 (l0 :: l1 :: l2 :: l3 :: some (.int x) :: L) (st) h = ev 169 104 (l0 :: l1 :: l2 :: vkk l3 :: some (.int (x + (1 : Int32))) :: L) (st) h := G_iinc f169_101 rfl (by decide) (S1_4 l0 l1 l2 l3 (some (.int x)) L _)
theorem f169_104 : fetch 169 104 = some (.goto (-94), 3) := vtab tk169 61 rfl
theorem e169_104 (L : VL) (st : List Value) (h : VG) : ev 169 104 L (st) h = ev 169 10 L (st) h := G_goto f169_104 (by decide)
theorem f169_107 : fetch 169 107 = some (.aload_n 0, 1) := vtab tk169 62 rfl
theorem e169_107 (L : VL) (st : List Value) (h : VG) (x : Nat) : ev 169 107 (some (.ref x) :: L) (st) h = ev 169 108 (some (.ref x) :: L) (.ref x :: st) h := G_aload_n f169_107 rfl
theorem f169_108 : fetch 169 108 = some (.iload_n 3, 1) := vtab tk169 63 rfl
theorem e169_108 (l0 l1 l2 : Option Value) (L : VL) (st : List Value) (h : VG) (x : Int32) : ev 169 108 (l0 :: l1 :: l2 :: some (.int x) :: L) (st) h = ev 169 109 (l0 :: l1 :: l2 :: some (.int x) :: L) (.int x :: st) h := G_iload_n f169_108 rfl
theorem f169_109 : fetch 169 109 = some (.aload_n 0, 1) := vtab tk169 64 rfl
theorem e169_109 (L : VL) (st : List Value) (h : VG) (x : Nat) : ev 169 109 (some (.ref x) :: L) (st) h = ev 169 110 (some (.ref x) :: L) (.ref x :: st) h := G_aload_n f169_109 rfl
theorem f169_110 : fetch 169 110 = some (.getfield 277, 3) := vtab tk169 65 rfl
theorem e169_110 (L : VL) (st : List Value) (h : VG) (a : Nat) (ho : ob h a 11) : ev 169 110 L (.ref a :: st) h = ev 169 113 L (.int (gI h a 37) :: st) h := G_getI (p := 1050) f169_110 lkF_12_277 (by decide) (by decide) ho
theorem f169_113 : fetch 169 113 = some (.invokestatic 284, 3) := vtab tk169 66 rfl
theorem e169_113 (L : VL) (st : List Value) (h : VG) (x0 : Int32) (x1 : Int32) (hs : catS st ≤ 8) : ev 169 113 L (.int x1 :: .int x0 :: st) h = (ev 168 0 [some (.int x0), some (.int x1)] [] h).bind fun q => ev 169 116 L (q.1.toList ++ st) q.2 := G_calls (k := 0) (p := 1332) (ars := [.int x0, .int x1]) f169_113 lkC_12_284 (by decide) (by decide +kernel) rfl (Nat.le_of_ble_eq_true rfl) hs rfl
theorem f169_116 : fetch 169 116 = some (.putfield 290, 3) := vtab tk169 67 rfl
theorem e169_116 (L : VL) (st : List Value) (h : VG) (a : Nat) (x : Int32) (ho : ob h a 11) : ev 169 116 L (.int x :: .ref a :: st) h = ev 169 119 L (st) (pI h a 36 x) := G_putI (p := 1049) f169_116 lkF_12_290 (by decide) (by decide) (by decide +kernel) ⟨rfl, rfl⟩ ho
theorem f169_119 : fetch 169 119 = some (.return_, 1) := vtab tk169 68 rfl
theorem e169_119 (L : VL) (h : VG) : ev 169 119 L [] h = some (none, h) := G_vret f169_119 (by decide)
/-! 170 GuestCallsModel.cellsOfForm(I)I -/
def tb170 : List (Nat × Instr × Nat) := [(0, .iconst 0, 1), (1, .istore_n 2, 1), (2, .iconst 0, 1), (3, .istore_n 3, 1), (4, .iload_n 3, 1), (5, .aload_n 0, 1), (6, .getfield 43, 3), (9, .iload_n 1, 1), (10, .iaload, 1), (11, .if_icmp .ge 23, 3), (14, .iload_n 2, 1), (15, .aload_n 0, 1), (16, .getfield 49, 3), (19, .bipush 8, 2), (21, .iload_n 1, 1), (22, .imul, 1), (23, .iload_n 3, 1), (24, .iadd, 1), (25, .iaload, 1), (26, .iadd, 1), (27, .istore_n 2, 1), (28, .iinc 3 1, 3), (31, .goto (-27), 3), (34, .iload_n 2, 1), (35, .ireturn, 1)]
theorem tk170 : tb170.all (fun q => decide (fetch 170 q.1 = some q.2)) = true := by decide +kernel
theorem f170_0 : fetch 170 0 = some (.iconst 0, 1) := vtab tk170 0 rfl
theorem e170_0 (L : VL) (st : List Value) (h : VG) : ev 170 0 L (st) h = ev 170 1 L (.int (0 : Int32) :: st) h := G_iconst f170_0 (by decide)
theorem f170_1 : fetch 170 1 = some (.istore_n 2, 1) := vtab tk170 1 rfl
theorem e170_1 (l0 l1 l2 : Option Value) (L : VL) (st : List Value) (h : VG) (x : Int32) : ev 170 1 (l0 :: l1 :: l2 :: L) (.int x :: st) h = ev 170 2 (l0 :: vkk l1 :: some (.int x) :: L) (st) h := G_istore_n f170_1 rfl (S1_2 l0 l1 l2 L _)
theorem f170_2 : fetch 170 2 = some (.iconst 0, 1) := vtab tk170 2 rfl
theorem e170_2 (L : VL) (st : List Value) (h : VG) : ev 170 2 L (st) h = ev 170 3 L (.int (0 : Int32) :: st) h := G_iconst f170_2 (by decide)
theorem f170_3 : fetch 170 3 = some (.istore_n 3, 1) := vtab tk170 3 rfl
theorem e170_3 (l0 l1 l2 l3 : Option Value) (L : VL) (st : List Value) (h : VG) (x : Int32) : ev 170 3 (l0 :: l1 :: l2 :: l3 :: L) (.int x :: st) h = ev 170 4 (l0 :: l1 :: vkk l2 :: some (.int x) :: L) (st) h := G_istore_n f170_3 rfl (S1_3 l0 l1 l2 l3 L _)
theorem f170_4 : fetch 170 4 = some (.iload_n 3, 1) := vtab tk170 4 rfl
theorem e170_4 (l0 l1 l2 : Option Value) (L : VL) (st : List Value) (h : VG) (x : Int32) : ev 170 4 (l0 :: l1 :: l2 :: some (.int x) :: L) (st) h = ev 170 5 (l0 :: l1 :: l2 :: some (.int x) :: L) (.int x :: st) h := G_iload_n f170_4 rfl
theorem f170_5 : fetch 170 5 = some (.aload_n 0, 1) := vtab tk170 5 rfl
theorem e170_5 (L : VL) (st : List Value) (h : VG) (x : Nat) : ev 170 5 (some (.ref x) :: L) (st) h = ev 170 6 (some (.ref x) :: L) (.ref x :: st) h := G_aload_n f170_5 rfl
theorem f170_6 : fetch 170 6 = some (.getfield 43, 3) := vtab tk170 6 rfl
theorem e170_6 (L : VL) (st : List Value) (h : VG) (a : Nat) (ho : ob h a 11) (hr : isR h a 20) : ev 170 6 L (.ref a :: st) h = ev 170 9 L (.ref (gR h a 20) :: st) h := G_getR (p := 1033) f170_6 lkF_12_43 (by decide) (by decide) ho hr
theorem f170_9 : fetch 170 9 = some (.iload_n 1, 1) := vtab tk170 7 rfl
theorem e170_9 (l0 : Option Value) (L : VL) (st : List Value) (h : VG) (x : Int32) : ev 170 9 (l0 :: some (.int x) :: L) (st) h = ev 170 10 (l0 :: some (.int x) :: L) (.int x :: st) h := G_iload_n f170_9 rfl
theorem f170_10 : fetch 170 10 = some (.iaload, 1) := vtab tk170 8 rfl
theorem e170_10 (L : VL) (st : List Value) (h : VG) (a : Nat) (i : Int32) (ha : rdI h a) (hi : vp_in i (aln h a)) : ev 170 10 L (.int i :: .ref a :: st) h = ev 170 11 L (.int (aI h a i.toNatClampNeg) :: st) h := G_iald' f170_10 ha hi
theorem f170_11 : fetch 170 11 = some (.if_icmp .ge 23, 3) := vtab tk170 9 rfl
theorem e170_11 (L : VL) (st : List Value) (h : VG) (x y : Int32) : ev 170 11 L (.int y :: .int x :: st) h = if x < y then ev 170 14 L st h else ev 170 34 L st h := G_icmp_ge f170_11 (by decide)
theorem f170_14 : fetch 170 14 = some (.iload_n 2, 1) := vtab tk170 10 rfl
theorem e170_14 (l0 l1 : Option Value) (L : VL) (st : List Value) (h : VG) (x : Int32) : ev 170 14 (l0 :: l1 :: some (.int x) :: L) (st) h = ev 170 15 (l0 :: l1 :: some (.int x) :: L) (.int x :: st) h := G_iload_n f170_14 rfl
theorem f170_15 : fetch 170 15 = some (.aload_n 0, 1) := vtab tk170 11 rfl
theorem e170_15 (L : VL) (st : List Value) (h : VG) (x : Nat) : ev 170 15 (some (.ref x) :: L) (st) h = ev 170 16 (some (.ref x) :: L) (.ref x :: st) h := G_aload_n f170_15 rfl
theorem f170_16 : fetch 170 16 = some (.getfield 49, 3) := vtab tk170 12 rfl
theorem e170_16 (L : VL) (st : List Value) (h : VG) (a : Nat) (ho : ob h a 11) (hr : isR h a 22) : ev 170 16 L (.ref a :: st) h = ev 170 19 L (.ref (gR h a 22) :: st) h := G_getR (p := 1035) f170_16 lkF_12_49 (by decide) (by decide) ho hr
theorem f170_19 : fetch 170 19 = some (.bipush 8, 2) := vtab tk170 13 rfl
theorem e170_19 (L : VL) (st : List Value) (h : VG) : ev 170 19 L (st) h = ev 170 21 L (.int (8 : Int32) :: st) h := G_bipush f170_19 (by decide)
theorem f170_21 : fetch 170 21 = some (.iload_n 1, 1) := vtab tk170 14 rfl
theorem e170_21 (l0 : Option Value) (L : VL) (st : List Value) (h : VG) (x : Int32) : ev 170 21 (l0 :: some (.int x) :: L) (st) h = ev 170 22 (l0 :: some (.int x) :: L) (.int x :: st) h := G_iload_n f170_21 rfl
theorem f170_22 : fetch 170 22 = some (.imul, 1) := vtab tk170 15 rfl
theorem e170_22 (L : VL) (st : List Value) (h : VG) (x y : Int32) : ev 170 22 L (.int y :: .int x :: st) h = ev 170 23 L (.int (x * y) :: st) h := G_imul f170_22
theorem f170_23 : fetch 170 23 = some (.iload_n 3, 1) := vtab tk170 16 rfl
theorem e170_23 (l0 l1 l2 : Option Value) (L : VL) (st : List Value) (h : VG) (x : Int32) : ev 170 23 (l0 :: l1 :: l2 :: some (.int x) :: L) (st) h = ev 170 24 (l0 :: l1 :: l2 :: some (.int x) :: L) (.int x :: st) h := G_iload_n f170_23 rfl
theorem f170_24 : fetch 170 24 = some (.iadd, 1) := vtab tk170 17 rfl
theorem e170_24 (L : VL) (st : List Value) (h : VG) (x y : Int32) : ev 170 24 L (.int y :: .int x :: st) h = ev 170 25 L (.int (x + y) :: st) h := G_iadd f170_24
theorem f170_25 : fetch 170 25 = some (.iaload, 1) := vtab tk170 18 rfl
theorem e170_25 (L : VL) (st : List Value) (h : VG) (a : Nat) (i : Int32) (ha : rdI h a) (hi : vp_in i (aln h a)) : ev 170 25 L (.int i :: .ref a :: st) h = ev 170 26 L (.int (aI h a i.toNatClampNeg) :: st) h := G_iald' f170_25 ha hi
theorem f170_26 : fetch 170 26 = some (.iadd, 1) := vtab tk170 19 rfl
theorem e170_26 (L : VL) (st : List Value) (h : VG) (x y : Int32) : ev 170 26 L (.int y :: .int x :: st) h = ev 170 27 L (.int (x + y) :: st) h := G_iadd f170_26
theorem f170_27 : fetch 170 27 = some (.istore_n 2, 1) := vtab tk170 20 rfl
theorem e170_27 (l0 l1 l2 : Option Value) (L : VL) (st : List Value) (h : VG) (x : Int32) : ev 170 27 (l0 :: l1 :: l2 :: L) (.int x :: st) h = ev 170 28 (l0 :: vkk l1 :: some (.int x) :: L) (st) h := G_istore_n f170_27 rfl (S1_2 l0 l1 l2 L _)
theorem f170_28 : fetch 170 28 = some (.iinc 3 1, 3) := vtab tk170 21 rfl
theorem e170_28 (l0 l1 l2 : Option Value) (L : VL) (st : List Value) (h : VG) (x : Int32) : ev 170 28 (l0 :: l1 :: l2 :: some (.int x) :: L) (st) h = ev 170 31 (l0 :: l1 :: vkk l2 :: some (.int (x + (1 : Int32))) :: L) (st) h := G_iinc f170_28 rfl (by decide) (S1_3 l0 l1 l2 (some (.int x)) L _)
theorem f170_31 : fetch 170 31 = some (.goto (-27), 3) := vtab tk170 22 rfl
theorem e170_31 (L : VL) (st : List Value) (h : VG) : ev 170 31 L (st) h = ev 170 4 L (st) h := G_goto f170_31 (by decide)
theorem f170_34 : fetch 170 34 = some (.iload_n 2, 1) := vtab tk170 23 rfl
theorem e170_34 (l0 l1 : Option Value) (L : VL) (st : List Value) (h : VG) (x : Int32) : ev 170 34 (l0 :: l1 :: some (.int x) :: L) (st) h = ev 170 35 (l0 :: l1 :: some (.int x) :: L) (.int x :: st) h := G_iload_n f170_34 rfl
theorem f170_35 : fetch 170 35 = some (.ireturn, 1) := vtab tk170 24 rfl
theorem e170_35 (L : VL) (h : VG) (x : Int32) : ev 170 35 L [.int x] h = some (some (.int x), h) := G_iret f170_35 (ty := .int) (by decide) rfl
/-! 171 GuestCallsModel.isForm(I)Z -/
def tb171 : List (Nat × Instr × Nat) := [(0, .iload_n 1, 1), (1, .iconst 0, 1), (2, .aload_n 0, 1), (3, .getfield 235, 3), (6, .iconst 1, 1), (7, .isub, 1), (8, .invokestatic 260, 3), (11, .ireturn, 1)]
theorem tk171 : tb171.all (fun q => decide (fetch 171 q.1 = some q.2)) = true := by decide +kernel
theorem f171_0 : fetch 171 0 = some (.iload_n 1, 1) := vtab tk171 0 rfl
theorem e171_0 (l0 : Option Value) (L : VL) (st : List Value) (h : VG) (x : Int32) : ev 171 0 (l0 :: some (.int x) :: L) (st) h = ev 171 1 (l0 :: some (.int x) :: L) (.int x :: st) h := G_iload_n f171_0 rfl
theorem f171_1 : fetch 171 1 = some (.iconst 0, 1) := vtab tk171 1 rfl
theorem e171_1 (L : VL) (st : List Value) (h : VG) : ev 171 1 L (st) h = ev 171 2 L (.int (0 : Int32) :: st) h := G_iconst f171_1 (by decide)
theorem f171_2 : fetch 171 2 = some (.aload_n 0, 1) := vtab tk171 2 rfl
theorem e171_2 (L : VL) (st : List Value) (h : VG) (x : Nat) : ev 171 2 (some (.ref x) :: L) (st) h = ev 171 3 (some (.ref x) :: L) (.ref x :: st) h := G_aload_n f171_2 rfl
theorem f171_3 : fetch 171 3 = some (.getfield 235, 3) := vtab tk171 3 rfl
theorem e171_3 (L : VL) (st : List Value) (h : VG) (a : Nat) (ho : ob h a 11) : ev 171 3 L (.ref a :: st) h = ev 171 6 L (.int (gI h a 19) :: st) h := G_getI (p := 1032) f171_3 lkF_12_235 (by decide) (by decide) ho
theorem f171_6 : fetch 171 6 = some (.iconst 1, 1) := vtab tk171 4 rfl
theorem e171_6 (L : VL) (st : List Value) (h : VG) : ev 171 6 L (st) h = ev 171 7 L (.int (1 : Int32) :: st) h := G_iconst f171_6 (by decide)
theorem f171_7 : fetch 171 7 = some (.isub, 1) := vtab tk171 5 rfl
theorem e171_7 (L : VL) (st : List Value) (h : VG) (x y : Int32) : ev 171 7 L (.int y :: .int x :: st) h = ev 171 8 L (.int (x - y) :: st) h := G_isub f171_7
theorem f171_8 : fetch 171 8 = some (.invokestatic 260, 3) := vtab tk171 6 rfl
theorem e171_8 (L : VL) (st : List Value) (h : VG) (x0 : Int32) (x1 : Int32) (x2 : Int32) (hs : catS st ≤ 8) : ev 171 8 L (.int x2 :: .int x1 :: .int x0 :: st) h = (ev 162 0 [some (.int x0), some (.int x1), some (.int x2)] [] h).bind fun q => ev 171 11 L (q.1.toList ++ st) q.2 := G_calls (k := 0) (p := 1286) (ars := [.int x0, .int x1, .int x2]) f171_8 lkC_12_260 (by decide) (by decide +kernel) rfl (Nat.le_of_ble_eq_true rfl) hs rfl
theorem f171_11 : fetch 171 11 = some (.ireturn, 1) := vtab tk171 7 rfl
theorem e171_11 (L : VL) (h : VG) (x : Int32) (hz : x = 0 ∨ x = 1) : ev 171 11 L [.int x] h = some (some (.int x), h) := G_iret f171_11 (ty := .boolean) (by decide) (vbool hz).1
/-! 172 GuestCallsModel.layout(IZII)I -/
def tb172 : List (Nat × Instr × Nat) := [(0, .aload_n 0, 1), (1, .iload_n 1, 1), (2, .invokevirtual 293, 3), (5, .ifCond .eq 29, 3), (8, .iload_n 3, 1), (9, .iconst (-1), 1), (10, .aload_n 0, 1), (11, .getfield 43, 3), (14, .iload_n 1, 1), (15, .iaload, 1), (16, .iconst 1, 1), (17, .isub, 1), (18, .invokestatic 260, 3), (21, .ifCond .eq 13, 3), (24, .iload 4, 2), (26, .iconst 0, 1), (27, .iconst 3, 1), (28, .invokestatic 260, 3), (31, .ifCond .ne 5, 3), (34, .iconst (-1), 1), (35, .ireturn, 1), (36, .aload_n 0, 1), (37, .iload_n 1, 1), (38, .iload_n 2, 1), (39, .invokevirtual 296, 3), (42, .iload_n 3, 1), (43, .iconst (-1), 1), (44, .if_icmp .ne 49, 3), (47, .iload 4, 2), (49, .ifCond .ne 12, 3), (52, .aload_n 0, 1), (53, .getfield 43, 3), (56, .iload_n 1, 1), (57, .iaload, 1), (58, .goto 34, 3), (61, .iload 4, 2), (63, .iconst 1, 1), (64, .if_icmp .ne 11, 3), (67, .aload_n 0, 1), (68, .iload_n 1, 1), (69, .invokevirtual 300, 3), (72, .goto 20, 3), (75, .iload 4, 2), (77, .iconst 2, 1), (78, .if_icmp .ne 10, 3), (81, .aload_n 0, 1), (82, .getfield 277, 3), (85, .goto 7, 3), (88, .aload_n 0, 1), (89, .getfield 290, 3), (92, .ireturn, 1), (93, .bipush 8, 2), (95, .iload_n 1, 1), (96, .imul, 1), (97, .iload_n 3, 1), (98, .iadd, 1), (99, .istore 5, 2), (101, .iload 4, 2), (103, .ifCond .ne 13, 3), (106, .aload_n 0, 1), (107, .getfield 46, 3), (110, .iload 5, 2), (112, .iaload, 1), (113, .goto 54, 3), (116, .iload 4, 2), (118, .iconst 1, 1), (119, .if_icmp .ne 13, 3), (122, .aload_n 0, 1), (123, .getfield 49, 3), (126, .iload 5, 2), (128, .iaload, 1), (129, .goto 38, 3), (132, .iload 4, 2), (134, .iconst 2, 1), (135, .if_icmp .ne 12, 3), (138, .aload_n 0, 1), (139, .getfield 73, 3), (142, .iload_n 3, 1), (143, .iaload, 1), (144, .goto 23, 3), (147, .aload_n 0, 1), (148, .getfield 49, 3), (151, .iload 5, 2), (153, .iaload, 1), (154, .aload_n 0, 1), (155, .aload_n 0, 1), (156, .getfield 46, 3), (159, .iload 5, 2), (161, .iaload, 1), (162, .iload_n 2, 1), (163, .invokevirtual 287, 3), (166, .imul, 1), (167, .ireturn, 1)]
theorem tk172 : tb172.all (fun q => decide (fetch 172 q.1 = some q.2)) = true := by decide +kernel
theorem f172_0 : fetch 172 0 = some (.aload_n 0, 1) := vtab tk172 0 rfl
theorem e172_0 (L : VL) (st : List Value) (h : VG) (x : Nat) : ev 172 0 (some (.ref x) :: L) (st) h = ev 172 1 (some (.ref x) :: L) (.ref x :: st) h := G_aload_n f172_0 rfl
theorem f172_1 : fetch 172 1 = some (.iload_n 1, 1) := vtab tk172 1 rfl
theorem e172_1 (l0 : Option Value) (L : VL) (st : List Value) (h : VG) (x : Int32) : ev 172 1 (l0 :: some (.int x) :: L) (st) h = ev 172 2 (l0 :: some (.int x) :: L) (.int x :: st) h := G_iload_n f172_1 rfl
theorem f172_2 : fetch 172 2 = some (.invokevirtual 293, 3) := vtab tk172 2 rfl
theorem e172_2 (L : VL) (st : List Value) (h : VG) (b : Nat) (x0 : Int32) (ho : ob h b 11) (hs : catS st ≤ 8) : ev 172 2 L (.int x0 :: .ref b :: st) h = (ev 171 0 [some (.ref b), some (.int x0)] [] h).bind fun q => ev 172 5 L (q.1.toList ++ st) q.2 := G_callv (k := 1) (p := 1317) (ars := [.int x0]) f172_2 lkC_12_293 (by decide) (by decide +kernel) rfl (vcls_ob (ci := 11) (by decide) ho) (Nat.le_of_ble_eq_true rfl) hs rfl
theorem f172_5 : fetch 172 5 = some (.ifCond .eq 29, 3) := vtab tk172 3 rfl
theorem e172_5 (L : VL) (st : List Value) (h : VG) (x : Int32) : ev 172 5 L (.int x :: st) h = if x = 0 then ev 172 34 L st h else ev 172 8 L st h := G_if_eq f172_5 (by decide)
theorem f172_8 : fetch 172 8 = some (.iload_n 3, 1) := vtab tk172 4 rfl
theorem e172_8 (l0 l1 l2 : Option Value) (L : VL) (st : List Value) (h : VG) (x : Int32) : ev 172 8 (l0 :: l1 :: l2 :: some (.int x) :: L) (st) h = ev 172 9 (l0 :: l1 :: l2 :: some (.int x) :: L) (.int x :: st) h := G_iload_n f172_8 rfl
theorem f172_9 : fetch 172 9 = some (.iconst (-1), 1) := vtab tk172 5 rfl
theorem e172_9 (L : VL) (st : List Value) (h : VG) : ev 172 9 L (st) h = ev 172 10 L (.int (-1 : Int32) :: st) h := G_iconst f172_9 (by decide)
theorem f172_10 : fetch 172 10 = some (.aload_n 0, 1) := vtab tk172 6 rfl
theorem e172_10 (L : VL) (st : List Value) (h : VG) (x : Nat) : ev 172 10 (some (.ref x) :: L) (st) h = ev 172 11 (some (.ref x) :: L) (.ref x :: st) h := G_aload_n f172_10 rfl
theorem f172_11 : fetch 172 11 = some (.getfield 43, 3) := vtab tk172 7 rfl
theorem e172_11 (L : VL) (st : List Value) (h : VG) (a : Nat) (ho : ob h a 11) (hr : isR h a 20) : ev 172 11 L (.ref a :: st) h = ev 172 14 L (.ref (gR h a 20) :: st) h := G_getR (p := 1033) f172_11 lkF_12_43 (by decide) (by decide) ho hr
theorem f172_14 : fetch 172 14 = some (.iload_n 1, 1) := vtab tk172 8 rfl
theorem e172_14 (l0 : Option Value) (L : VL) (st : List Value) (h : VG) (x : Int32) : ev 172 14 (l0 :: some (.int x) :: L) (st) h = ev 172 15 (l0 :: some (.int x) :: L) (.int x :: st) h := G_iload_n f172_14 rfl
theorem f172_15 : fetch 172 15 = some (.iaload, 1) := vtab tk172 9 rfl
theorem e172_15 (L : VL) (st : List Value) (h : VG) (a : Nat) (i : Int32) (ha : rdI h a) (hi : vp_in i (aln h a)) : ev 172 15 L (.int i :: .ref a :: st) h = ev 172 16 L (.int (aI h a i.toNatClampNeg) :: st) h := G_iald' f172_15 ha hi
theorem f172_16 : fetch 172 16 = some (.iconst 1, 1) := vtab tk172 10 rfl
theorem e172_16 (L : VL) (st : List Value) (h : VG) : ev 172 16 L (st) h = ev 172 17 L (.int (1 : Int32) :: st) h := G_iconst f172_16 (by decide)
theorem f172_17 : fetch 172 17 = some (.isub, 1) := vtab tk172 11 rfl
theorem e172_17 (L : VL) (st : List Value) (h : VG) (x y : Int32) : ev 172 17 L (.int y :: .int x :: st) h = ev 172 18 L (.int (x - y) :: st) h := G_isub f172_17
theorem f172_18 : fetch 172 18 = some (.invokestatic 260, 3) := vtab tk172 12 rfl
theorem e172_18 (L : VL) (st : List Value) (h : VG) (x0 : Int32) (x1 : Int32) (x2 : Int32) (hs : catS st ≤ 8) : ev 172 18 L (.int x2 :: .int x1 :: .int x0 :: st) h = (ev 162 0 [some (.int x0), some (.int x1), some (.int x2)] [] h).bind fun q => ev 172 21 L (q.1.toList ++ st) q.2 := G_calls (k := 0) (p := 1286) (ars := [.int x0, .int x1, .int x2]) f172_18 lkC_12_260 (by decide) (by decide +kernel) rfl (Nat.le_of_ble_eq_true rfl) hs rfl
theorem f172_21 : fetch 172 21 = some (.ifCond .eq 13, 3) := vtab tk172 13 rfl
theorem e172_21 (L : VL) (st : List Value) (h : VG) (x : Int32) : ev 172 21 L (.int x :: st) h = if x = 0 then ev 172 34 L st h else ev 172 24 L st h := G_if_eq f172_21 (by decide)
theorem f172_24 : fetch 172 24 = some (.iload 4, 2) := vtab tk172 14 rfl
theorem e172_24 (l0 l1 l2 l3 : Option Value) (L : VL) (st : List Value) (h : VG) (x : Int32) : ev 172 24 (l0 :: l1 :: l2 :: l3 :: some (.int x) :: L) (st) h = ev 172 26 (l0 :: l1 :: l2 :: l3 :: some (.int x) :: L) (.int x :: st) h := G_iload f172_24 rfl
theorem f172_26 : fetch 172 26 = some (.iconst 0, 1) := vtab tk172 15 rfl
theorem e172_26 (L : VL) (st : List Value) (h : VG) : ev 172 26 L (st) h = ev 172 27 L (.int (0 : Int32) :: st) h := G_iconst f172_26 (by decide)
theorem f172_27 : fetch 172 27 = some (.iconst 3, 1) := vtab tk172 16 rfl
theorem e172_27 (L : VL) (st : List Value) (h : VG) : ev 172 27 L (st) h = ev 172 28 L (.int (3 : Int32) :: st) h := G_iconst f172_27 (by decide)
theorem f172_28 : fetch 172 28 = some (.invokestatic 260, 3) := vtab tk172 17 rfl
theorem e172_28 (L : VL) (st : List Value) (h : VG) (x0 : Int32) (x1 : Int32) (x2 : Int32) (hs : catS st ≤ 8) : ev 172 28 L (.int x2 :: .int x1 :: .int x0 :: st) h = (ev 162 0 [some (.int x0), some (.int x1), some (.int x2)] [] h).bind fun q => ev 172 31 L (q.1.toList ++ st) q.2 := G_calls (k := 0) (p := 1286) (ars := [.int x0, .int x1, .int x2]) f172_28 lkC_12_260 (by decide) (by decide +kernel) rfl (Nat.le_of_ble_eq_true rfl) hs rfl
theorem f172_31 : fetch 172 31 = some (.ifCond .ne 5, 3) := vtab tk172 18 rfl
theorem e172_31 (L : VL) (st : List Value) (h : VG) (x : Int32) : ev 172 31 L (.int x :: st) h = if x = 0 then ev 172 34 L st h else ev 172 36 L st h := G_if_ne f172_31 (by decide)
theorem f172_34 : fetch 172 34 = some (.iconst (-1), 1) := vtab tk172 19 rfl
theorem e172_34 (L : VL) (st : List Value) (h : VG) : ev 172 34 L (st) h = ev 172 35 L (.int (-1 : Int32) :: st) h := G_iconst f172_34 (by decide)
theorem f172_35 : fetch 172 35 = some (.ireturn, 1) := vtab tk172 20 rfl
theorem e172_35 (L : VL) (h : VG) (x : Int32) : ev 172 35 L [.int x] h = some (some (.int x), h) := G_iret f172_35 (ty := .int) (by decide) rfl
theorem f172_36 : fetch 172 36 = some (.aload_n 0, 1) := vtab tk172 21 rfl
theorem e172_36 (L : VL) (st : List Value) (h : VG) (x : Nat) : ev 172 36 (some (.ref x) :: L) (st) h = ev 172 37 (some (.ref x) :: L) (.ref x :: st) h := G_aload_n f172_36 rfl
theorem f172_37 : fetch 172 37 = some (.iload_n 1, 1) := vtab tk172 22 rfl
theorem e172_37 (l0 : Option Value) (L : VL) (st : List Value) (h : VG) (x : Int32) : ev 172 37 (l0 :: some (.int x) :: L) (st) h = ev 172 38 (l0 :: some (.int x) :: L) (.int x :: st) h := G_iload_n f172_37 rfl
theorem f172_38 : fetch 172 38 = some (.iload_n 2, 1) := vtab tk172 23 rfl
theorem e172_38 (l0 l1 : Option Value) (L : VL) (st : List Value) (h : VG) (x : Int32) : ev 172 38 (l0 :: l1 :: some (.int x) :: L) (st) h = ev 172 39 (l0 :: l1 :: some (.int x) :: L) (.int x :: st) h := G_iload_n f172_38 rfl
theorem f172_39 : fetch 172 39 = some (.invokevirtual 296, 3) := vtab tk172 24 rfl
theorem e172_39 (L : VL) (st : List Value) (h : VG) (b : Nat) (x0 : Int32) (x1 : Int32) (ho : ob h b 11) (hs : catS st ≤ 8) : ev 172 39 L (.int x1 :: .int x0 :: .ref b :: st) h = (ev 169 0 [some (.ref b), some (.int x0), some (.int x1), none, none, none, none] [] h).bind fun q => ev 172 42 L (q.1.toList ++ st) q.2 := G_callv (k := 1) (p := 1321) (ars := [.int x0, .int x1]) f172_39 lkC_12_296 (by decide) (by decide +kernel) rfl (vcls_ob (ci := 11) (by decide) ho) (Nat.le_of_ble_eq_true rfl) hs rfl
theorem f172_42 : fetch 172 42 = some (.iload_n 3, 1) := vtab tk172 25 rfl
theorem e172_42 (l0 l1 l2 : Option Value) (L : VL) (st : List Value) (h : VG) (x : Int32) : ev 172 42 (l0 :: l1 :: l2 :: some (.int x) :: L) (st) h = ev 172 43 (l0 :: l1 :: l2 :: some (.int x) :: L) (.int x :: st) h := G_iload_n f172_42 rfl
theorem f172_43 : fetch 172 43 = some (.iconst (-1), 1) := vtab tk172 26 rfl
theorem e172_43 (L : VL) (st : List Value) (h : VG) : ev 172 43 L (st) h = ev 172 44 L (.int (-1 : Int32) :: st) h := G_iconst f172_43 (by decide)
theorem f172_44 : fetch 172 44 = some (.if_icmp .ne 49, 3) := vtab tk172 27 rfl
theorem e172_44 (L : VL) (st : List Value) (h : VG) (x y : Int32) : ev 172 44 L (.int y :: .int x :: st) h = if x = y then ev 172 47 L st h else ev 172 93 L st h := G_icmp_ne f172_44 (by decide)
theorem f172_47 : fetch 172 47 = some (.iload 4, 2) := vtab tk172 28 rfl
theorem e172_47 (l0 l1 l2 l3 : Option Value) (L : VL) (st : List Value) (h : VG) (x : Int32) : ev 172 47 (l0 :: l1 :: l2 :: l3 :: some (.int x) :: L) (st) h = ev 172 49 (l0 :: l1 :: l2 :: l3 :: some (.int x) :: L) (.int x :: st) h := G_iload f172_47 rfl
theorem f172_49 : fetch 172 49 = some (.ifCond .ne 12, 3) := vtab tk172 29 rfl
theorem e172_49 (L : VL) (st : List Value) (h : VG) (x : Int32) : ev 172 49 L (.int x :: st) h = if x = 0 then ev 172 52 L st h else ev 172 61 L st h := G_if_ne f172_49 (by decide)
theorem f172_52 : fetch 172 52 = some (.aload_n 0, 1) := vtab tk172 30 rfl
theorem e172_52 (L : VL) (st : List Value) (h : VG) (x : Nat) : ev 172 52 (some (.ref x) :: L) (st) h = ev 172 53 (some (.ref x) :: L) (.ref x :: st) h := G_aload_n f172_52 rfl
theorem f172_53 : fetch 172 53 = some (.getfield 43, 3) := vtab tk172 31 rfl
theorem e172_53 (L : VL) (st : List Value) (h : VG) (a : Nat) (ho : ob h a 11) (hr : isR h a 20) : ev 172 53 L (.ref a :: st) h = ev 172 56 L (.ref (gR h a 20) :: st) h := G_getR (p := 1033) f172_53 lkF_12_43 (by decide) (by decide) ho hr
theorem f172_56 : fetch 172 56 = some (.iload_n 1, 1) := vtab tk172 32 rfl
theorem e172_56 (l0 : Option Value) (L : VL) (st : List Value) (h : VG) (x : Int32) : ev 172 56 (l0 :: some (.int x) :: L) (st) h = ev 172 57 (l0 :: some (.int x) :: L) (.int x :: st) h := G_iload_n f172_56 rfl
theorem f172_57 : fetch 172 57 = some (.iaload, 1) := vtab tk172 33 rfl
theorem e172_57 (L : VL) (st : List Value) (h : VG) (a : Nat) (i : Int32) (ha : rdI h a) (hi : vp_in i (aln h a)) : ev 172 57 L (.int i :: .ref a :: st) h = ev 172 58 L (.int (aI h a i.toNatClampNeg) :: st) h := G_iald' f172_57 ha hi
theorem f172_58 : fetch 172 58 = some (.goto 34, 3) := vtab tk172 34 rfl
theorem e172_58 (L : VL) (st : List Value) (h : VG) : ev 172 58 L (st) h = ev 172 92 L (st) h := G_goto f172_58 (by decide)
theorem f172_61 : fetch 172 61 = some (.iload 4, 2) := vtab tk172 35 rfl
theorem e172_61 (l0 l1 l2 l3 : Option Value) (L : VL) (st : List Value) (h : VG) (x : Int32) : ev 172 61 (l0 :: l1 :: l2 :: l3 :: some (.int x) :: L) (st) h = ev 172 63 (l0 :: l1 :: l2 :: l3 :: some (.int x) :: L) (.int x :: st) h := G_iload f172_61 rfl
theorem f172_63 : fetch 172 63 = some (.iconst 1, 1) := vtab tk172 36 rfl
theorem e172_63 (L : VL) (st : List Value) (h : VG) : ev 172 63 L (st) h = ev 172 64 L (.int (1 : Int32) :: st) h := G_iconst f172_63 (by decide)
theorem f172_64 : fetch 172 64 = some (.if_icmp .ne 11, 3) := vtab tk172 37 rfl
theorem e172_64 (L : VL) (st : List Value) (h : VG) (x y : Int32) : ev 172 64 L (.int y :: .int x :: st) h = if x = y then ev 172 67 L st h else ev 172 75 L st h := G_icmp_ne f172_64 (by decide)
theorem f172_67 : fetch 172 67 = some (.aload_n 0, 1) := vtab tk172 38 rfl
theorem e172_67 (L : VL) (st : List Value) (h : VG) (x : Nat) : ev 172 67 (some (.ref x) :: L) (st) h = ev 172 68 (some (.ref x) :: L) (.ref x :: st) h := G_aload_n f172_67 rfl
theorem f172_68 : fetch 172 68 = some (.iload_n 1, 1) := vtab tk172 39 rfl
theorem e172_68 (l0 : Option Value) (L : VL) (st : List Value) (h : VG) (x : Int32) : ev 172 68 (l0 :: some (.int x) :: L) (st) h = ev 172 69 (l0 :: some (.int x) :: L) (.int x :: st) h := G_iload_n f172_68 rfl
theorem f172_69 : fetch 172 69 = some (.invokevirtual 300, 3) := vtab tk172 40 rfl
theorem e172_69 (L : VL) (st : List Value) (h : VG) (b : Nat) (x0 : Int32) (ho : ob h b 11) (hs : catS st ≤ 8) : ev 172 69 L (.int x0 :: .ref b :: st) h = (ev 170 0 [some (.ref b), some (.int x0), none, none] [] h).bind fun q => ev 172 72 L (q.1.toList ++ st) q.2 := G_callv (k := 1) (p := 1339) (ars := [.int x0]) f172_69 lkC_12_300 (by decide) (by decide +kernel) rfl (vcls_ob (ci := 11) (by decide) ho) (Nat.le_of_ble_eq_true rfl) hs rfl
theorem f172_72 : fetch 172 72 = some (.goto 20, 3) := vtab tk172 41 rfl
theorem e172_72 (L : VL) (st : List Value) (h : VG) : ev 172 72 L (st) h = ev 172 92 L (st) h := G_goto f172_72 (by decide)
theorem f172_75 : fetch 172 75 = some (.iload 4, 2) := vtab tk172 42 rfl
theorem e172_75 (l0 l1 l2 l3 : Option Value) (L : VL) (st : List Value) (h : VG) (x : Int32) : ev 172 75 (l0 :: l1 :: l2 :: l3 :: some (.int x) :: L) (st) h = ev 172 77 (l0 :: l1 :: l2 :: l3 :: some (.int x) :: L) (.int x :: st) h := G_iload f172_75 rfl
theorem f172_77 : fetch 172 77 = some (.iconst 2, 1) := vtab tk172 43 rfl
theorem e172_77 (L : VL) (st : List Value) (h : VG) : ev 172 77 L (st) h = ev 172 78 L (.int (2 : Int32) :: st) h := G_iconst f172_77 (by decide)
theorem f172_78 : fetch 172 78 = some (.if_icmp .ne 10, 3) := vtab tk172 44 rfl
theorem e172_78 (L : VL) (st : List Value) (h : VG) (x y : Int32) : ev 172 78 L (.int y :: .int x :: st) h = if x = y then ev 172 81 L st h else ev 172 88 L st h := G_icmp_ne f172_78 (by decide)
theorem f172_81 : fetch 172 81 = some (.aload_n 0, 1) := vtab tk172 45 rfl
theorem e172_81 (L : VL) (st : List Value) (h : VG) (x : Nat) : ev 172 81 (some (.ref x) :: L) (st) h = ev 172 82 (some (.ref x) :: L) (.ref x :: st) h := G_aload_n f172_81 rfl
theorem f172_82 : fetch 172 82 = some (.getfield 277, 3) := vtab tk172 46 rfl
theorem e172_82 (L : VL) (st : List Value) (h : VG) (a : Nat) (ho : ob h a 11) : ev 172 82 L (.ref a :: st) h = ev 172 85 L (.int (gI h a 37) :: st) h := G_getI (p := 1050) f172_82 lkF_12_277 (by decide) (by decide) ho
theorem f172_85 : fetch 172 85 = some (.goto 7, 3) := vtab tk172 47 rfl
theorem e172_85 (L : VL) (st : List Value) (h : VG) : ev 172 85 L (st) h = ev 172 92 L (st) h := G_goto f172_85 (by decide)
theorem f172_88 : fetch 172 88 = some (.aload_n 0, 1) := vtab tk172 48 rfl
theorem e172_88 (L : VL) (st : List Value) (h : VG) (x : Nat) : ev 172 88 (some (.ref x) :: L) (st) h = ev 172 89 (some (.ref x) :: L) (.ref x :: st) h := G_aload_n f172_88 rfl
theorem f172_89 : fetch 172 89 = some (.getfield 290, 3) := vtab tk172 49 rfl
theorem e172_89 (L : VL) (st : List Value) (h : VG) (a : Nat) (ho : ob h a 11) : ev 172 89 L (.ref a :: st) h = ev 172 92 L (.int (gI h a 36) :: st) h := G_getI (p := 1049) f172_89 lkF_12_290 (by decide) (by decide) ho
theorem f172_92 : fetch 172 92 = some (.ireturn, 1) := vtab tk172 50 rfl
theorem e172_92 (L : VL) (h : VG) (x : Int32) : ev 172 92 L [.int x] h = some (some (.int x), h) := G_iret f172_92 (ty := .int) (by decide) rfl
theorem f172_93 : fetch 172 93 = some (.bipush 8, 2) := vtab tk172 51 rfl
theorem e172_93 (L : VL) (st : List Value) (h : VG) : ev 172 93 L (st) h = ev 172 95 L (.int (8 : Int32) :: st) h := G_bipush f172_93 (by decide)
theorem f172_95 : fetch 172 95 = some (.iload_n 1, 1) := vtab tk172 52 rfl
theorem e172_95 (l0 : Option Value) (L : VL) (st : List Value) (h : VG) (x : Int32) : ev 172 95 (l0 :: some (.int x) :: L) (st) h = ev 172 96 (l0 :: some (.int x) :: L) (.int x :: st) h := G_iload_n f172_95 rfl
theorem f172_96 : fetch 172 96 = some (.imul, 1) := vtab tk172 53 rfl
theorem e172_96 (L : VL) (st : List Value) (h : VG) (x y : Int32) : ev 172 96 L (.int y :: .int x :: st) h = ev 172 97 L (.int (x * y) :: st) h := G_imul f172_96
theorem f172_97 : fetch 172 97 = some (.iload_n 3, 1) := vtab tk172 54 rfl
theorem e172_97 (l0 l1 l2 : Option Value) (L : VL) (st : List Value) (h : VG) (x : Int32) : ev 172 97 (l0 :: l1 :: l2 :: some (.int x) :: L) (st) h = ev 172 98 (l0 :: l1 :: l2 :: some (.int x) :: L) (.int x :: st) h := G_iload_n f172_97 rfl
theorem f172_98 : fetch 172 98 = some (.iadd, 1) := vtab tk172 55 rfl
theorem e172_98 (L : VL) (st : List Value) (h : VG) (x y : Int32) : ev 172 98 L (.int y :: .int x :: st) h = ev 172 99 L (.int (x + y) :: st) h := G_iadd f172_98
theorem f172_99 : fetch 172 99 = some (.istore 5, 2) := vtab tk172 56 rfl
theorem e172_99 (l0 l1 l2 l3 l4 l5 : Option Value) (L : VL) (st : List Value) (h : VG) (x : Int32) : ev 172 99 (l0 :: l1 :: l2 :: l3 :: l4 :: l5 :: L) (.int x :: st) h = ev 172 101 (l0 :: l1 :: l2 :: l3 :: vkk l4 :: some (.int x) :: L) (st) h := G_istore f172_99 rfl (S1_5 l0 l1 l2 l3 l4 l5 L _)
theorem f172_101 : fetch 172 101 = some (.iload 4, 2) := vtab tk172 57 rfl
theorem e172_101 (l0 l1 l2 l3 : Option Value) (L : VL) (st : List Value) (h : VG) (x : Int32) : ev 172 101 (l0 :: l1 :: l2 :: l3 :: some (.int x) :: L) (st) h = ev 172 103 (l0 :: l1 :: l2 :: l3 :: some (.int x) :: L) (.int x :: st) h := G_iload f172_101 rfl
theorem f172_103 : fetch 172 103 = some (.ifCond .ne 13, 3) := vtab tk172 58 rfl
theorem e172_103 (L : VL) (st : List Value) (h : VG) (x : Int32) : ev 172 103 L (.int x :: st) h = if x = 0 then ev 172 106 L st h else ev 172 116 L st h := G_if_ne f172_103 (by decide)
theorem f172_106 : fetch 172 106 = some (.aload_n 0, 1) := vtab tk172 59 rfl
theorem e172_106 (L : VL) (st : List Value) (h : VG) (x : Nat) : ev 172 106 (some (.ref x) :: L) (st) h = ev 172 107 (some (.ref x) :: L) (.ref x :: st) h := G_aload_n f172_106 rfl
theorem f172_107 : fetch 172 107 = some (.getfield 46, 3) := vtab tk172 60 rfl
theorem e172_107 (L : VL) (st : List Value) (h : VG) (a : Nat) (ho : ob h a 11) (hr : isR h a 21) : ev 172 107 L (.ref a :: st) h = ev 172 110 L (.ref (gR h a 21) :: st) h := G_getR (p := 1034) f172_107 lkF_12_46 (by decide) (by decide) ho hr
theorem f172_110 : fetch 172 110 = some (.iload 5, 2) := vtab tk172 61 rfl
theorem e172_110 (l0 l1 l2 l3 l4 : Option Value) (L : VL) (st : List Value) (h : VG) (x : Int32) : ev 172 110 (l0 :: l1 :: l2 :: l3 :: l4 :: some (.int x) :: L) (st) h = ev 172 112 (l0 :: l1 :: l2 :: l3 :: l4 :: some (.int x) :: L) (.int x :: st) h := G_iload f172_110 rfl
theorem f172_112 : fetch 172 112 = some (.iaload, 1) := vtab tk172 62 rfl
theorem e172_112 (L : VL) (st : List Value) (h : VG) (a : Nat) (i : Int32) (ha : rdI h a) (hi : vp_in i (aln h a)) : ev 172 112 L (.int i :: .ref a :: st) h = ev 172 113 L (.int (aI h a i.toNatClampNeg) :: st) h := G_iald' f172_112 ha hi
theorem f172_113 : fetch 172 113 = some (.goto 54, 3) := vtab tk172 63 rfl
theorem e172_113 (L : VL) (st : List Value) (h : VG) : ev 172 113 L (st) h = ev 172 167 L (st) h := G_goto f172_113 (by decide)
theorem f172_116 : fetch 172 116 = some (.iload 4, 2) := vtab tk172 64 rfl
theorem e172_116 (l0 l1 l2 l3 : Option Value) (L : VL) (st : List Value) (h : VG) (x : Int32) : ev 172 116 (l0 :: l1 :: l2 :: l3 :: some (.int x) :: L) (st) h = ev 172 118 (l0 :: l1 :: l2 :: l3 :: some (.int x) :: L) (.int x :: st) h := G_iload f172_116 rfl
theorem f172_118 : fetch 172 118 = some (.iconst 1, 1) := vtab tk172 65 rfl
theorem e172_118 (L : VL) (st : List Value) (h : VG) : ev 172 118 L (st) h = ev 172 119 L (.int (1 : Int32) :: st) h := G_iconst f172_118 (by decide)
theorem f172_119 : fetch 172 119 = some (.if_icmp .ne 13, 3) := vtab tk172 66 rfl
theorem e172_119 (L : VL) (st : List Value) (h : VG) (x y : Int32) : ev 172 119 L (.int y :: .int x :: st) h = if x = y then ev 172 122 L st h else ev 172 132 L st h := G_icmp_ne f172_119 (by decide)
theorem f172_122 : fetch 172 122 = some (.aload_n 0, 1) := vtab tk172 67 rfl
theorem e172_122 (L : VL) (st : List Value) (h : VG) (x : Nat) : ev 172 122 (some (.ref x) :: L) (st) h = ev 172 123 (some (.ref x) :: L) (.ref x :: st) h := G_aload_n f172_122 rfl
theorem f172_123 : fetch 172 123 = some (.getfield 49, 3) := vtab tk172 68 rfl
theorem e172_123 (L : VL) (st : List Value) (h : VG) (a : Nat) (ho : ob h a 11) (hr : isR h a 22) : ev 172 123 L (.ref a :: st) h = ev 172 126 L (.ref (gR h a 22) :: st) h := G_getR (p := 1035) f172_123 lkF_12_49 (by decide) (by decide) ho hr
theorem f172_126 : fetch 172 126 = some (.iload 5, 2) := vtab tk172 69 rfl
theorem e172_126 (l0 l1 l2 l3 l4 : Option Value) (L : VL) (st : List Value) (h : VG) (x : Int32) : ev 172 126 (l0 :: l1 :: l2 :: l3 :: l4 :: some (.int x) :: L) (st) h = ev 172 128 (l0 :: l1 :: l2 :: l3 :: l4 :: some (.int x) :: L) (.int x :: st) h := G_iload f172_126 rfl
theorem f172_128 : fetch 172 128 = some (.iaload, 1) := vtab tk172 70 rfl
theorem e172_128 (L : VL) (st : List Value) (h : VG) (a : Nat) (i : Int32) (ha : rdI h a) (hi : vp_in i (aln h a)) : ev 172 128 L (.int i :: .ref a :: st) h = ev 172 129 L (.int (aI h a i.toNatClampNeg) :: st) h := G_iald' f172_128 ha hi
theorem f172_129 : fetch 172 129 = some (.goto 38, 3) := vtab tk172 71 rfl
theorem e172_129 (L : VL) (st : List Value) (h : VG) : ev 172 129 L (st) h = ev 172 167 L (st) h := G_goto f172_129 (by decide)
theorem f172_132 : fetch 172 132 = some (.iload 4, 2) := vtab tk172 72 rfl
theorem e172_132 (l0 l1 l2 l3 : Option Value) (L : VL) (st : List Value) (h : VG) (x : Int32) : ev 172 132 (l0 :: l1 :: l2 :: l3 :: some (.int x) :: L) (st) h = ev 172 134 (l0 :: l1 :: l2 :: l3 :: some (.int x) :: L) (.int x :: st) h := G_iload f172_132 rfl
theorem f172_134 : fetch 172 134 = some (.iconst 2, 1) := vtab tk172 73 rfl
theorem e172_134 (L : VL) (st : List Value) (h : VG) : ev 172 134 L (st) h = ev 172 135 L (.int (2 : Int32) :: st) h := G_iconst f172_134 (by decide)
theorem f172_135 : fetch 172 135 = some (.if_icmp .ne 12, 3) := vtab tk172 74 rfl
theorem e172_135 (L : VL) (st : List Value) (h : VG) (x y : Int32) : ev 172 135 L (.int y :: .int x :: st) h = if x = y then ev 172 138 L st h else ev 172 147 L st h := G_icmp_ne f172_135 (by decide)
theorem f172_138 : fetch 172 138 = some (.aload_n 0, 1) := vtab tk172 75 rfl
theorem e172_138 (L : VL) (st : List Value) (h : VG) (x : Nat) : ev 172 138 (some (.ref x) :: L) (st) h = ev 172 139 (some (.ref x) :: L) (.ref x :: st) h := G_aload_n f172_138 rfl
theorem f172_139 : fetch 172 139 = some (.getfield 73, 3) := vtab tk172 76 rfl
theorem e172_139 (L : VL) (st : List Value) (h : VG) (a : Nat) (ho : ob h a 11) (hr : isR h a 35) : ev 172 139 L (.ref a :: st) h = ev 172 142 L (.ref (gR h a 35) :: st) h := G_getR (p := 1048) f172_139 lkF_12_73 (by decide) (by decide) ho hr
theorem f172_142 : fetch 172 142 = some (.iload_n 3, 1) := vtab tk172 77 rfl
theorem e172_142 (l0 l1 l2 : Option Value) (L : VL) (st : List Value) (h : VG) (x : Int32) : ev 172 142 (l0 :: l1 :: l2 :: some (.int x) :: L) (st) h = ev 172 143 (l0 :: l1 :: l2 :: some (.int x) :: L) (.int x :: st) h := G_iload_n f172_142 rfl
theorem f172_143 : fetch 172 143 = some (.iaload, 1) := vtab tk172 78 rfl
theorem e172_143 (L : VL) (st : List Value) (h : VG) (a : Nat) (i : Int32) (ha : rdI h a) (hi : vp_in i (aln h a)) : ev 172 143 L (.int i :: .ref a :: st) h = ev 172 144 L (.int (aI h a i.toNatClampNeg) :: st) h := G_iald' f172_143 ha hi
theorem f172_144 : fetch 172 144 = some (.goto 23, 3) := vtab tk172 79 rfl
theorem e172_144 (L : VL) (st : List Value) (h : VG) : ev 172 144 L (st) h = ev 172 167 L (st) h := G_goto f172_144 (by decide)
theorem f172_147 : fetch 172 147 = some (.aload_n 0, 1) := vtab tk172 80 rfl
theorem e172_147 (L : VL) (st : List Value) (h : VG) (x : Nat) : ev 172 147 (some (.ref x) :: L) (st) h = ev 172 148 (some (.ref x) :: L) (.ref x :: st) h := G_aload_n f172_147 rfl
theorem f172_148 : fetch 172 148 = some (.getfield 49, 3) := vtab tk172 81 rfl
theorem e172_148 (L : VL) (st : List Value) (h : VG) (a : Nat) (ho : ob h a 11) (hr : isR h a 22) : ev 172 148 L (.ref a :: st) h = ev 172 151 L (.ref (gR h a 22) :: st) h := G_getR (p := 1035) f172_148 lkF_12_49 (by decide) (by decide) ho hr
theorem f172_151 : fetch 172 151 = some (.iload 5, 2) := vtab tk172 82 rfl
theorem e172_151 (l0 l1 l2 l3 l4 : Option Value) (L : VL) (st : List Value) (h : VG) (x : Int32) : ev 172 151 (l0 :: l1 :: l2 :: l3 :: l4 :: some (.int x) :: L) (st) h = ev 172 153 (l0 :: l1 :: l2 :: l3 :: l4 :: some (.int x) :: L) (.int x :: st) h := G_iload f172_151 rfl
theorem f172_153 : fetch 172 153 = some (.iaload, 1) := vtab tk172 83 rfl
theorem e172_153 (L : VL) (st : List Value) (h : VG) (a : Nat) (i : Int32) (ha : rdI h a) (hi : vp_in i (aln h a)) : ev 172 153 L (.int i :: .ref a :: st) h = ev 172 154 L (.int (aI h a i.toNatClampNeg) :: st) h := G_iald' f172_153 ha hi
theorem f172_154 : fetch 172 154 = some (.aload_n 0, 1) := vtab tk172 84 rfl
theorem e172_154 (L : VL) (st : List Value) (h : VG) (x : Nat) : ev 172 154 (some (.ref x) :: L) (st) h = ev 172 155 (some (.ref x) :: L) (.ref x :: st) h := G_aload_n f172_154 rfl
theorem f172_155 : fetch 172 155 = some (.aload_n 0, 1) := vtab tk172 85 rfl
theorem e172_155 (L : VL) (st : List Value) (h : VG) (x : Nat) : ev 172 155 (some (.ref x) :: L) (st) h = ev 172 156 (some (.ref x) :: L) (.ref x :: st) h := G_aload_n f172_155 rfl
theorem f172_156 : fetch 172 156 = some (.getfield 46, 3) := vtab tk172 86 rfl
theorem e172_156 (L : VL) (st : List Value) (h : VG) (a : Nat) (ho : ob h a 11) (hr : isR h a 21) : ev 172 156 L (.ref a :: st) h = ev 172 159 L (.ref (gR h a 21) :: st) h := G_getR (p := 1034) f172_156 lkF_12_46 (by decide) (by decide) ho hr
theorem f172_159 : fetch 172 159 = some (.iload 5, 2) := vtab tk172 87 rfl
theorem e172_159 (l0 l1 l2 l3 l4 : Option Value) (L : VL) (st : List Value) (h : VG) (x : Int32) : ev 172 159 (l0 :: l1 :: l2 :: l3 :: l4 :: some (.int x) :: L) (st) h = ev 172 161 (l0 :: l1 :: l2 :: l3 :: l4 :: some (.int x) :: L) (.int x :: st) h := G_iload f172_159 rfl
theorem f172_161 : fetch 172 161 = some (.iaload, 1) := vtab tk172 88 rfl
theorem e172_161 (L : VL) (st : List Value) (h : VG) (a : Nat) (i : Int32) (ha : rdI h a) (hi : vp_in i (aln h a)) : ev 172 161 L (.int i :: .ref a :: st) h = ev 172 162 L (.int (aI h a i.toNatClampNeg) :: st) h := G_iald' f172_161 ha hi
theorem f172_162 : fetch 172 162 = some (.iload_n 2, 1) := vtab tk172 89 rfl
theorem e172_162 (l0 l1 : Option Value) (L : VL) (st : List Value) (h : VG) (x : Int32) : ev 172 162 (l0 :: l1 :: some (.int x) :: L) (st) h = ev 172 163 (l0 :: l1 :: some (.int x) :: L) (.int x :: st) h := G_iload_n f172_162 rfl
theorem f172_163 : fetch 172 163 = some (.invokevirtual 287, 3) := vtab tk172 90 rfl
theorem e172_163 (L : VL) (st : List Value) (h : VG) (b : Nat) (x0 : Int32) (x1 : Int32) (ho : ob h b 11) (hs : catS st ≤ 8) : ev 172 163 L (.int x1 :: .int x0 :: .ref b :: st) h = (ev 166 0 [some (.ref b), some (.int x0), some (.int x1)] [] h).bind fun q => ev 172 166 L (q.1.toList ++ st) q.2 := G_callv (k := 1) (p := 1335) (ars := [.int x0, .int x1]) f172_163 lkC_12_287 (by decide) (by decide +kernel) rfl (vcls_ob (ci := 11) (by decide) ho) (Nat.le_of_ble_eq_true rfl) hs rfl
theorem f172_166 : fetch 172 166 = some (.imul, 1) := vtab tk172 91 rfl
theorem e172_166 (L : VL) (st : List Value) (h : VG) (x y : Int32) : ev 172 166 L (.int y :: .int x :: st) h = ev 172 167 L (.int (x * y) :: st) h := G_imul f172_166
theorem f172_167 : fetch 172 167 = some (.ireturn, 1) := vtab tk172 92 rfl
theorem e172_167 (L : VL) (h : VG) (x : Int32) : ev 172 167 L [.int x] h = some (some (.int x), h) := G_iret f172_167 (ty := .int) (by decide) rfl
/-! 173 GuestCallsModel.memberOf(II)I -/
def tb173 : List (Nat × Instr × Nat) := [(0, .iconst 0, 1), (1, .istore_n 3, 1), (2, .iload_n 2, 1), (3, .istore 4, 2), (5, .iload 4, 2), (7, .aload_n 0, 1), (8, .getfield 49, 3), (11, .bipush 8, 2), (13, .iload_n 1, 1), (14, .imul, 1), (15, .iload_n 3, 1), (16, .iadd, 1), (17, .iaload, 1), (18, .if_icmp .lt 25, 3), (21, .iload 4, 2), (23, .aload_n 0, 1), (24, .getfield 49, 3), (27, .bipush 8, 2), (29, .iload_n 1, 1), (30, .imul, 1), (31, .iload_n 3, 1), (32, .iadd, 1), (33, .iaload, 1), (34, .isub, 1), (35, .istore 4, 2), (37, .iinc 3 1, 3), (40, .goto (-35), 3), (43, .iload_n 3, 1), (44, .ireturn, 1)]
theorem tk173 : tb173.all (fun q => decide (fetch 173 q.1 = some q.2)) = true := by decide +kernel
theorem f173_0 : fetch 173 0 = some (.iconst 0, 1) := vtab tk173 0 rfl
theorem e173_0 (L : VL) (st : List Value) (h : VG) : ev 173 0 L (st) h = ev 173 1 L (.int (0 : Int32) :: st) h := G_iconst f173_0 (by decide)
theorem f173_1 : fetch 173 1 = some (.istore_n 3, 1) := vtab tk173 1 rfl
theorem e173_1 (l0 l1 l2 l3 : Option Value) (L : VL) (st : List Value) (h : VG) (x : Int32) : ev 173 1 (l0 :: l1 :: l2 :: l3 :: L) (.int x :: st) h = ev 173 2 (l0 :: l1 :: vkk l2 :: some (.int x) :: L) (st) h := G_istore_n f173_1 rfl (S1_3 l0 l1 l2 l3 L _)
theorem f173_2 : fetch 173 2 = some (.iload_n 2, 1) := vtab tk173 2 rfl
theorem e173_2 (l0 l1 : Option Value) (L : VL) (st : List Value) (h : VG) (x : Int32) : ev 173 2 (l0 :: l1 :: some (.int x) :: L) (st) h = ev 173 3 (l0 :: l1 :: some (.int x) :: L) (.int x :: st) h := G_iload_n f173_2 rfl
theorem f173_3 : fetch 173 3 = some (.istore 4, 2) := vtab tk173 3 rfl
theorem e173_3 (l0 l1 l2 l3 l4 : Option Value) (L : VL) (st : List Value) (h : VG) (x : Int32) : ev 173 3 (l0 :: l1 :: l2 :: l3 :: l4 :: L) (.int x :: st) h = ev 173 5 (l0 :: l1 :: l2 :: vkk l3 :: some (.int x) :: L) (st) h := G_istore f173_3 rfl (S1_4 l0 l1 l2 l3 l4 L _)
theorem f173_5 : fetch 173 5 = some (.iload 4, 2) := vtab tk173 4 rfl
theorem e173_5 (l0 l1 l2 l3 : Option Value) (L : VL) (st : List Value) (h : VG) (x : Int32) : ev 173 5 (l0 :: l1 :: l2 :: l3 :: some (.int x) :: L) (st) h = ev 173 7 (l0 :: l1 :: l2 :: l3 :: some (.int x) :: L) (.int x :: st) h := G_iload f173_5 rfl
theorem f173_7 : fetch 173 7 = some (.aload_n 0, 1) := vtab tk173 5 rfl
theorem e173_7 (L : VL) (st : List Value) (h : VG) (x : Nat) : ev 173 7 (some (.ref x) :: L) (st) h = ev 173 8 (some (.ref x) :: L) (.ref x :: st) h := G_aload_n f173_7 rfl
theorem f173_8 : fetch 173 8 = some (.getfield 49, 3) := vtab tk173 6 rfl
theorem e173_8 (L : VL) (st : List Value) (h : VG) (a : Nat) (ho : ob h a 11) (hr : isR h a 22) : ev 173 8 L (.ref a :: st) h = ev 173 11 L (.ref (gR h a 22) :: st) h := G_getR (p := 1035) f173_8 lkF_12_49 (by decide) (by decide) ho hr
theorem f173_11 : fetch 173 11 = some (.bipush 8, 2) := vtab tk173 7 rfl
theorem e173_11 (L : VL) (st : List Value) (h : VG) : ev 173 11 L (st) h = ev 173 13 L (.int (8 : Int32) :: st) h := G_bipush f173_11 (by decide)
theorem f173_13 : fetch 173 13 = some (.iload_n 1, 1) := vtab tk173 8 rfl
theorem e173_13 (l0 : Option Value) (L : VL) (st : List Value) (h : VG) (x : Int32) : ev 173 13 (l0 :: some (.int x) :: L) (st) h = ev 173 14 (l0 :: some (.int x) :: L) (.int x :: st) h := G_iload_n f173_13 rfl
theorem f173_14 : fetch 173 14 = some (.imul, 1) := vtab tk173 9 rfl
theorem e173_14 (L : VL) (st : List Value) (h : VG) (x y : Int32) : ev 173 14 L (.int y :: .int x :: st) h = ev 173 15 L (.int (x * y) :: st) h := G_imul f173_14
theorem f173_15 : fetch 173 15 = some (.iload_n 3, 1) := vtab tk173 10 rfl
theorem e173_15 (l0 l1 l2 : Option Value) (L : VL) (st : List Value) (h : VG) (x : Int32) : ev 173 15 (l0 :: l1 :: l2 :: some (.int x) :: L) (st) h = ev 173 16 (l0 :: l1 :: l2 :: some (.int x) :: L) (.int x :: st) h := G_iload_n f173_15 rfl
theorem f173_16 : fetch 173 16 = some (.iadd, 1) := vtab tk173 11 rfl
theorem e173_16 (L : VL) (st : List Value) (h : VG) (x y : Int32) : ev 173 16 L (.int y :: .int x :: st) h = ev 173 17 L (.int (x + y) :: st) h := G_iadd f173_16
theorem f173_17 : fetch 173 17 = some (.iaload, 1) := vtab tk173 12 rfl
theorem e173_17 (L : VL) (st : List Value) (h : VG) (a : Nat) (i : Int32) (ha : rdI h a) (hi : vp_in i (aln h a)) : ev 173 17 L (.int i :: .ref a :: st) h = ev 173 18 L (.int (aI h a i.toNatClampNeg) :: st) h := G_iald' f173_17 ha hi
theorem f173_18 : fetch 173 18 = some (.if_icmp .lt 25, 3) := vtab tk173 13 rfl
theorem e173_18 (L : VL) (st : List Value) (h : VG) (x y : Int32) : ev 173 18 L (.int y :: .int x :: st) h = if x < y then ev 173 43 L st h else ev 173 21 L st h := G_icmp_lt f173_18 (by decide)
theorem f173_21 : fetch 173 21 = some (.iload 4, 2) := vtab tk173 14 rfl
theorem e173_21 (l0 l1 l2 l3 : Option Value) (L : VL) (st : List Value) (h : VG) (x : Int32) : ev 173 21 (l0 :: l1 :: l2 :: l3 :: some (.int x) :: L) (st) h = ev 173 23 (l0 :: l1 :: l2 :: l3 :: some (.int x) :: L) (.int x :: st) h := G_iload f173_21 rfl
theorem f173_23 : fetch 173 23 = some (.aload_n 0, 1) := vtab tk173 15 rfl
theorem e173_23 (L : VL) (st : List Value) (h : VG) (x : Nat) : ev 173 23 (some (.ref x) :: L) (st) h = ev 173 24 (some (.ref x) :: L) (.ref x :: st) h := G_aload_n f173_23 rfl
theorem f173_24 : fetch 173 24 = some (.getfield 49, 3) := vtab tk173 16 rfl
theorem e173_24 (L : VL) (st : List Value) (h : VG) (a : Nat) (ho : ob h a 11) (hr : isR h a 22) : ev 173 24 L (.ref a :: st) h = ev 173 27 L (.ref (gR h a 22) :: st) h := G_getR (p := 1035) f173_24 lkF_12_49 (by decide) (by decide) ho hr
theorem f173_27 : fetch 173 27 = some (.bipush 8, 2) := vtab tk173 17 rfl
theorem e173_27 (L : VL) (st : List Value) (h : VG) : ev 173 27 L (st) h = ev 173 29 L (.int (8 : Int32) :: st) h := G_bipush f173_27 (by decide)
theorem f173_29 : fetch 173 29 = some (.iload_n 1, 1) := vtab tk173 18 rfl
theorem e173_29 (l0 : Option Value) (L : VL) (st : List Value) (h : VG) (x : Int32) : ev 173 29 (l0 :: some (.int x) :: L) (st) h = ev 173 30 (l0 :: some (.int x) :: L) (.int x :: st) h := G_iload_n f173_29 rfl
theorem f173_30 : fetch 173 30 = some (.imul, 1) := vtab tk173 19 rfl
theorem e173_30 (L : VL) (st : List Value) (h : VG) (x y : Int32) : ev 173 30 L (.int y :: .int x :: st) h = ev 173 31 L (.int (x * y) :: st) h := G_imul f173_30
theorem f173_31 : fetch 173 31 = some (.iload_n 3, 1) := vtab tk173 20 rfl
theorem e173_31 (l0 l1 l2 : Option Value) (L : VL) (st : List Value) (h : VG) (x : Int32) : ev 173 31 (l0 :: l1 :: l2 :: some (.int x) :: L) (st) h = ev 173 32 (l0 :: l1 :: l2 :: some (.int x) :: L) (.int x :: st) h := G_iload_n f173_31 rfl
theorem f173_32 : fetch 173 32 = some (.iadd, 1) := vtab tk173 21 rfl
theorem e173_32 (L : VL) (st : List Value) (h : VG) (x y : Int32) : ev 173 32 L (.int y :: .int x :: st) h = ev 173 33 L (.int (x + y) :: st) h := G_iadd f173_32
theorem f173_33 : fetch 173 33 = some (.iaload, 1) := vtab tk173 22 rfl
theorem e173_33 (L : VL) (st : List Value) (h : VG) (a : Nat) (i : Int32) (ha : rdI h a) (hi : vp_in i (aln h a)) : ev 173 33 L (.int i :: .ref a :: st) h = ev 173 34 L (.int (aI h a i.toNatClampNeg) :: st) h := G_iald' f173_33 ha hi
theorem f173_34 : fetch 173 34 = some (.isub, 1) := vtab tk173 23 rfl
theorem e173_34 (L : VL) (st : List Value) (h : VG) (x y : Int32) : ev 173 34 L (.int y :: .int x :: st) h = ev 173 35 L (.int (x - y) :: st) h := G_isub f173_34
theorem f173_35 : fetch 173 35 = some (.istore 4, 2) := vtab tk173 24 rfl
theorem e173_35 (l0 l1 l2 l3 l4 : Option Value) (L : VL) (st : List Value) (h : VG) (x : Int32) : ev 173 35 (l0 :: l1 :: l2 :: l3 :: l4 :: L) (.int x :: st) h = ev 173 37 (l0 :: l1 :: l2 :: vkk l3 :: some (.int x) :: L) (st) h := G_istore f173_35 rfl (S1_4 l0 l1 l2 l3 l4 L _)
theorem f173_37 : fetch 173 37 = some (.iinc 3 1, 3) := vtab tk173 25 rfl
theorem e173_37 (l0 l1 l2 : Option Value) (L : VL) (st : List Value) (h : VG) (x : Int32) : ev 173 37 (l0 :: l1 :: l2 :: some (.int x) :: L) (st) h = ev 173 40 (l0 :: l1 :: vkk l2 :: some (.int (x + (1 : Int32))) :: L) (st) h := G_iinc f173_37 rfl (by decide) (S1_3 l0 l1 l2 (some (.int x)) L _)
theorem f173_40 : fetch 173 40 = some (.goto (-35), 3) := vtab tk173 26 rfl
theorem e173_40 (L : VL) (st : List Value) (h : VG) : ev 173 40 L (st) h = ev 173 5 L (st) h := G_goto f173_40 (by decide)
theorem f173_43 : fetch 173 43 = some (.iload_n 3, 1) := vtab tk173 27 rfl
theorem e173_43 (l0 l1 l2 : Option Value) (L : VL) (st : List Value) (h : VG) (x : Int32) : ev 173 43 (l0 :: l1 :: l2 :: some (.int x) :: L) (st) h = ev 173 44 (l0 :: l1 :: l2 :: some (.int x) :: L) (.int x :: st) h := G_iload_n f173_43 rfl
theorem f173_44 : fetch 173 44 = some (.ireturn, 1) := vtab tk173 28 rfl
theorem e173_44 (L : VL) (h : VG) (x : Int32) : ev 173 44 L [.int x] h = some (some (.int x), h) := G_iret f173_44 (ty := .int) (by decide) rfl
/-! 174 GuestCallsModel.kindAt(II)I -/
def tb174 : List (Nat × Instr × Nat) := [(0, .aload_n 0, 1), (1, .getfield 46, 3), (4, .bipush 8, 2), (6, .iload_n 1, 1), (7, .imul, 1), (8, .aload_n 0, 1), (9, .iload_n 1, 1), (10, .iload_n 2, 1), (11, .invokevirtual 303, 3), (14, .iadd, 1), (15, .iaload, 1), (16, .ireturn, 1)]
theorem tk174 : tb174.all (fun q => decide (fetch 174 q.1 = some q.2)) = true := by decide +kernel
theorem f174_0 : fetch 174 0 = some (.aload_n 0, 1) := vtab tk174 0 rfl
theorem e174_0 (L : VL) (st : List Value) (h : VG) (x : Nat) : ev 174 0 (some (.ref x) :: L) (st) h = ev 174 1 (some (.ref x) :: L) (.ref x :: st) h := G_aload_n f174_0 rfl
theorem f174_1 : fetch 174 1 = some (.getfield 46, 3) := vtab tk174 1 rfl
theorem e174_1 (L : VL) (st : List Value) (h : VG) (a : Nat) (ho : ob h a 11) (hr : isR h a 21) : ev 174 1 L (.ref a :: st) h = ev 174 4 L (.ref (gR h a 21) :: st) h := G_getR (p := 1034) f174_1 lkF_12_46 (by decide) (by decide) ho hr
theorem f174_4 : fetch 174 4 = some (.bipush 8, 2) := vtab tk174 2 rfl
theorem e174_4 (L : VL) (st : List Value) (h : VG) : ev 174 4 L (st) h = ev 174 6 L (.int (8 : Int32) :: st) h := G_bipush f174_4 (by decide)
theorem f174_6 : fetch 174 6 = some (.iload_n 1, 1) := vtab tk174 3 rfl
theorem e174_6 (l0 : Option Value) (L : VL) (st : List Value) (h : VG) (x : Int32) : ev 174 6 (l0 :: some (.int x) :: L) (st) h = ev 174 7 (l0 :: some (.int x) :: L) (.int x :: st) h := G_iload_n f174_6 rfl
theorem f174_7 : fetch 174 7 = some (.imul, 1) := vtab tk174 4 rfl
theorem e174_7 (L : VL) (st : List Value) (h : VG) (x y : Int32) : ev 174 7 L (.int y :: .int x :: st) h = ev 174 8 L (.int (x * y) :: st) h := G_imul f174_7
theorem f174_8 : fetch 174 8 = some (.aload_n 0, 1) := vtab tk174 5 rfl
theorem e174_8 (L : VL) (st : List Value) (h : VG) (x : Nat) : ev 174 8 (some (.ref x) :: L) (st) h = ev 174 9 (some (.ref x) :: L) (.ref x :: st) h := G_aload_n f174_8 rfl
theorem f174_9 : fetch 174 9 = some (.iload_n 1, 1) := vtab tk174 6 rfl
theorem e174_9 (l0 : Option Value) (L : VL) (st : List Value) (h : VG) (x : Int32) : ev 174 9 (l0 :: some (.int x) :: L) (st) h = ev 174 10 (l0 :: some (.int x) :: L) (.int x :: st) h := G_iload_n f174_9 rfl
theorem f174_10 : fetch 174 10 = some (.iload_n 2, 1) := vtab tk174 7 rfl
theorem e174_10 (l0 l1 : Option Value) (L : VL) (st : List Value) (h : VG) (x : Int32) : ev 174 10 (l0 :: l1 :: some (.int x) :: L) (st) h = ev 174 11 (l0 :: l1 :: some (.int x) :: L) (.int x :: st) h := G_iload_n f174_10 rfl
theorem f174_11 : fetch 174 11 = some (.invokevirtual 303, 3) := vtab tk174 8 rfl
theorem e174_11 (L : VL) (st : List Value) (h : VG) (b : Nat) (x0 : Int32) (x1 : Int32) (ho : ob h b 11) (hs : catS st ≤ 8) : ev 174 11 L (.int x1 :: .int x0 :: .ref b :: st) h = (ev 173 0 [some (.ref b), some (.int x0), some (.int x1), none, none] [] h).bind fun q => ev 174 14 L (q.1.toList ++ st) q.2 := G_callv (k := 1) (p := 1351) (ars := [.int x0, .int x1]) f174_11 lkC_12_303 (by decide) (by decide +kernel) rfl (vcls_ob (ci := 11) (by decide) ho) (Nat.le_of_ble_eq_true rfl) hs rfl
theorem f174_14 : fetch 174 14 = some (.iadd, 1) := vtab tk174 9 rfl
theorem e174_14 (L : VL) (st : List Value) (h : VG) (x y : Int32) : ev 174 14 L (.int y :: .int x :: st) h = ev 174 15 L (.int (x + y) :: st) h := G_iadd f174_14
theorem f174_15 : fetch 174 15 = some (.iaload, 1) := vtab tk174 10 rfl
theorem e174_15 (L : VL) (st : List Value) (h : VG) (a : Nat) (i : Int32) (ha : rdI h a) (hi : vp_in i (aln h a)) : ev 174 15 L (.int i :: .ref a :: st) h = ev 174 16 L (.int (aI h a i.toNatClampNeg) :: st) h := G_iald' f174_15 ha hi
theorem f174_16 : fetch 174 16 = some (.ireturn, 1) := vtab tk174 11 rfl
theorem e174_16 (L : VL) (h : VG) (x : Int32) : ev 174 16 L [.int x] h = some (some (.int x), h) := G_iret f174_16 (ty := .int) (by decide) rfl
/-! 175 GuestCallsModel.offsetAt(IIZ)I -/
def tb175 : List (Nat × Instr × Nat) := [(0, .aload_n 0, 1), (1, .iload_n 1, 1), (2, .iload_n 2, 1), (3, .invokevirtual 303, 3), (6, .istore 4, 2), (8, .iconst 0, 1), (9, .istore 5, 2), (11, .iconst 0, 1), (12, .istore 6, 2), (14, .iload 6, 2), (16, .iload 4, 2), (18, .if_icmp .ge 26, 3), (21, .iload 5, 2), (23, .aload_n 0, 1), (24, .getfield 49, 3), (27, .bipush 8, 2), (29, .iload_n 1, 1), (30, .imul, 1), (31, .iload 6, 2), (33, .iadd, 1), (34, .iaload, 1), (35, .iadd, 1), (36, .istore 5, 2), (38, .iinc 6 1, 3), (41, .goto (-27), 3), (44, .aload_n 0, 1), (45, .getfield 73, 3), (48, .iload 4, 2), (50, .iaload, 1), (51, .iload_n 2, 1), (52, .iload 5, 2), (54, .isub, 1), (55, .aload_n 0, 1), (56, .aload_n 0, 1), (57, .getfield 46, 3), (60, .bipush 8, 2), (62, .iload_n 1, 1), (63, .imul, 1), (64, .iload 4, 2), (66, .iadd, 1), (67, .iaload, 1), (68, .iload_n 3, 1), (69, .invokevirtual 287, 3), (72, .imul, 1), (73, .iadd, 1), (74, .ireturn, 1)]
theorem tk175 : tb175.all (fun q => decide (fetch 175 q.1 = some q.2)) = true := by decide +kernel
theorem f175_0 : fetch 175 0 = some (.aload_n 0, 1) := vtab tk175 0 rfl
theorem e175_0 (L : VL) (st : List Value) (h : VG) (x : Nat) : ev 175 0 (some (.ref x) :: L) (st) h = ev 175 1 (some (.ref x) :: L) (.ref x :: st) h := G_aload_n f175_0 rfl
theorem f175_1 : fetch 175 1 = some (.iload_n 1, 1) := vtab tk175 1 rfl
theorem e175_1 (l0 : Option Value) (L : VL) (st : List Value) (h : VG) (x : Int32) : ev 175 1 (l0 :: some (.int x) :: L) (st) h = ev 175 2 (l0 :: some (.int x) :: L) (.int x :: st) h := G_iload_n f175_1 rfl
theorem f175_2 : fetch 175 2 = some (.iload_n 2, 1) := vtab tk175 2 rfl
theorem e175_2 (l0 l1 : Option Value) (L : VL) (st : List Value) (h : VG) (x : Int32) : ev 175 2 (l0 :: l1 :: some (.int x) :: L) (st) h = ev 175 3 (l0 :: l1 :: some (.int x) :: L) (.int x :: st) h := G_iload_n f175_2 rfl
theorem f175_3 : fetch 175 3 = some (.invokevirtual 303, 3) := vtab tk175 3 rfl
theorem e175_3 (L : VL) (st : List Value) (h : VG) (b : Nat) (x0 : Int32) (x1 : Int32) (ho : ob h b 11) (hs : catS st ≤ 8) : ev 175 3 L (.int x1 :: .int x0 :: .ref b :: st) h = (ev 173 0 [some (.ref b), some (.int x0), some (.int x1), none, none] [] h).bind fun q => ev 175 6 L (q.1.toList ++ st) q.2 := G_callv (k := 1) (p := 1351) (ars := [.int x0, .int x1]) f175_3 lkC_12_303 (by decide) (by decide +kernel) rfl (vcls_ob (ci := 11) (by decide) ho) (Nat.le_of_ble_eq_true rfl) hs rfl
theorem f175_6 : fetch 175 6 = some (.istore 4, 2) := vtab tk175 4 rfl
theorem e175_6 (l0 l1 l2 l3 l4 : Option Value) (L : VL) (st : List Value) (h : VG) (x : Int32) : ev 175 6 (l0 :: l1 :: l2 :: l3 :: l4 :: L) (.int x :: st) h = ev 175 8 (l0 :: l1 :: l2 :: vkk l3 :: some (.int x) :: L) (st) h := G_istore f175_6 rfl (S1_4 l0 l1 l2 l3 l4 L _)
theorem f175_8 : fetch 175 8 = some (.iconst 0, 1) := vtab tk175 5 rfl
theorem e175_8 (L : VL) (st : List Value) (h : VG) : ev 175 8 L (st) h = ev 175 9 L (.int (0 : Int32) :: st) h := G_iconst f175_8 (by decide)
theorem f175_9 : fetch 175 9 = some (.istore 5, 2) := vtab tk175 6 rfl
theorem e175_9 (l0 l1 l2 l3 l4 l5 : Option Value) (L : VL) (st : List Value) (h : VG) (x : Int32) : ev 175 9 (l0 :: l1 :: l2 :: l3 :: l4 :: l5 :: L) (.int x :: st) h = ev 175 11 (l0 :: l1 :: l2 :: l3 :: vkk l4 :: some (.int x) :: L) (st) h := G_istore f175_9 rfl (S1_5 l0 l1 l2 l3 l4 l5 L _)
theorem f175_11 : fetch 175 11 = some (.iconst 0, 1) := vtab tk175 7 rfl
theorem e175_11 (L : VL) (st : List Value) (h : VG) : ev 175 11 L (st) h = ev 175 12 L (.int (0 : Int32) :: st) h := G_iconst f175_11 (by decide)
theorem f175_12 : fetch 175 12 = some (.istore 6, 2) := vtab tk175 8 rfl
theorem e175_12 (l0 l1 l2 l3 l4 l5 l6 : Option Value) (L : VL) (st : List Value) (h : VG) (x : Int32) : ev 175 12 (l0 :: l1 :: l2 :: l3 :: l4 :: l5 :: l6 :: L) (.int x :: st) h = ev 175 14 (l0 :: l1 :: l2 :: l3 :: l4 :: vkk l5 :: some (.int x) :: L) (st) h := G_istore f175_12 rfl (S1_6 l0 l1 l2 l3 l4 l5 l6 L _)
theorem f175_14 : fetch 175 14 = some (.iload 6, 2) := vtab tk175 9 rfl
theorem e175_14 (l0 l1 l2 l3 l4 l5 : Option Value) (L : VL) (st : List Value) (h : VG) (x : Int32) : ev 175 14 (l0 :: l1 :: l2 :: l3 :: l4 :: l5 :: some (.int x) :: L) (st) h = ev 175 16 (l0 :: l1 :: l2 :: l3 :: l4 :: l5 :: some (.int x) :: L) (.int x :: st) h := G_iload f175_14 rfl
theorem f175_16 : fetch 175 16 = some (.iload 4, 2) := vtab tk175 10 rfl
theorem e175_16 (l0 l1 l2 l3 : Option Value) (L : VL) (st : List Value) (h : VG) (x : Int32) : ev 175 16 (l0 :: l1 :: l2 :: l3 :: some (.int x) :: L) (st) h = ev 175 18 (l0 :: l1 :: l2 :: l3 :: some (.int x) :: L) (.int x :: st) h := G_iload f175_16 rfl
theorem f175_18 : fetch 175 18 = some (.if_icmp .ge 26, 3) := vtab tk175 11 rfl
theorem e175_18 (L : VL) (st : List Value) (h : VG) (x y : Int32) : ev 175 18 L (.int y :: .int x :: st) h = if x < y then ev 175 21 L st h else ev 175 44 L st h := G_icmp_ge f175_18 (by decide)
theorem f175_21 : fetch 175 21 = some (.iload 5, 2) := vtab tk175 12 rfl
theorem e175_21 (l0 l1 l2 l3 l4 : Option Value) (L : VL) (st : List Value) (h : VG) (x : Int32) : ev 175 21 (l0 :: l1 :: l2 :: l3 :: l4 :: some (.int x) :: L) (st) h = ev 175 23 (l0 :: l1 :: l2 :: l3 :: l4 :: some (.int x) :: L) (.int x :: st) h := G_iload f175_21 rfl
theorem f175_23 : fetch 175 23 = some (.aload_n 0, 1) := vtab tk175 13 rfl
theorem e175_23 (L : VL) (st : List Value) (h : VG) (x : Nat) : ev 175 23 (some (.ref x) :: L) (st) h = ev 175 24 (some (.ref x) :: L) (.ref x :: st) h := G_aload_n f175_23 rfl
theorem f175_24 : fetch 175 24 = some (.getfield 49, 3) := vtab tk175 14 rfl
theorem e175_24 (L : VL) (st : List Value) (h : VG) (a : Nat) (ho : ob h a 11) (hr : isR h a 22) : ev 175 24 L (.ref a :: st) h = ev 175 27 L (.ref (gR h a 22) :: st) h := G_getR (p := 1035) f175_24 lkF_12_49 (by decide) (by decide) ho hr
theorem f175_27 : fetch 175 27 = some (.bipush 8, 2) := vtab tk175 15 rfl
theorem e175_27 (L : VL) (st : List Value) (h : VG) : ev 175 27 L (st) h = ev 175 29 L (.int (8 : Int32) :: st) h := G_bipush f175_27 (by decide)
theorem f175_29 : fetch 175 29 = some (.iload_n 1, 1) := vtab tk175 16 rfl
theorem e175_29 (l0 : Option Value) (L : VL) (st : List Value) (h : VG) (x : Int32) : ev 175 29 (l0 :: some (.int x) :: L) (st) h = ev 175 30 (l0 :: some (.int x) :: L) (.int x :: st) h := G_iload_n f175_29 rfl
theorem f175_30 : fetch 175 30 = some (.imul, 1) := vtab tk175 17 rfl
theorem e175_30 (L : VL) (st : List Value) (h : VG) (x y : Int32) : ev 175 30 L (.int y :: .int x :: st) h = ev 175 31 L (.int (x * y) :: st) h := G_imul f175_30
theorem f175_31 : fetch 175 31 = some (.iload 6, 2) := vtab tk175 18 rfl
theorem e175_31 (l0 l1 l2 l3 l4 l5 : Option Value) (L : VL) (st : List Value) (h : VG) (x : Int32) : ev 175 31 (l0 :: l1 :: l2 :: l3 :: l4 :: l5 :: some (.int x) :: L) (st) h = ev 175 33 (l0 :: l1 :: l2 :: l3 :: l4 :: l5 :: some (.int x) :: L) (.int x :: st) h := G_iload f175_31 rfl
theorem f175_33 : fetch 175 33 = some (.iadd, 1) := vtab tk175 19 rfl
theorem e175_33 (L : VL) (st : List Value) (h : VG) (x y : Int32) : ev 175 33 L (.int y :: .int x :: st) h = ev 175 34 L (.int (x + y) :: st) h := G_iadd f175_33
theorem f175_34 : fetch 175 34 = some (.iaload, 1) := vtab tk175 20 rfl
theorem e175_34 (L : VL) (st : List Value) (h : VG) (a : Nat) (i : Int32) (ha : rdI h a) (hi : vp_in i (aln h a)) : ev 175 34 L (.int i :: .ref a :: st) h = ev 175 35 L (.int (aI h a i.toNatClampNeg) :: st) h := G_iald' f175_34 ha hi
theorem f175_35 : fetch 175 35 = some (.iadd, 1) := vtab tk175 21 rfl
theorem e175_35 (L : VL) (st : List Value) (h : VG) (x y : Int32) : ev 175 35 L (.int y :: .int x :: st) h = ev 175 36 L (.int (x + y) :: st) h := G_iadd f175_35
theorem f175_36 : fetch 175 36 = some (.istore 5, 2) := vtab tk175 22 rfl
theorem e175_36 (l0 l1 l2 l3 l4 l5 : Option Value) (L : VL) (st : List Value) (h : VG) (x : Int32) : ev 175 36 (l0 :: l1 :: l2 :: l3 :: l4 :: l5 :: L) (.int x :: st) h = ev 175 38 (l0 :: l1 :: l2 :: l3 :: vkk l4 :: some (.int x) :: L) (st) h := G_istore f175_36 rfl (S1_5 l0 l1 l2 l3 l4 l5 L _)
theorem f175_38 : fetch 175 38 = some (.iinc 6 1, 3) := vtab tk175 23 rfl
theorem e175_38 (l0 l1 l2 l3 l4 l5 : Option Value) (L : VL) (st : List Value) (h : VG) (x : Int32) : ev 175 38 (l0 :: l1 :: l2 :: l3 :: l4 :: l5 :: some (.int x) :: L) (st) h = ev 175 41 (l0 :: l1 :: l2 :: l3 :: l4 :: vkk l5 :: some (.int (x + (1 : Int32))) :: L) (st) h := G_iinc f175_38 rfl (by decide) (S1_6 l0 l1 l2 l3 l4 l5 (some (.int x)) L _)
theorem f175_41 : fetch 175 41 = some (.goto (-27), 3) := vtab tk175 24 rfl
theorem e175_41 (L : VL) (st : List Value) (h : VG) : ev 175 41 L (st) h = ev 175 14 L (st) h := G_goto f175_41 (by decide)
theorem f175_44 : fetch 175 44 = some (.aload_n 0, 1) := vtab tk175 25 rfl
theorem e175_44 (L : VL) (st : List Value) (h : VG) (x : Nat) : ev 175 44 (some (.ref x) :: L) (st) h = ev 175 45 (some (.ref x) :: L) (.ref x :: st) h := G_aload_n f175_44 rfl
theorem f175_45 : fetch 175 45 = some (.getfield 73, 3) := vtab tk175 26 rfl
theorem e175_45 (L : VL) (st : List Value) (h : VG) (a : Nat) (ho : ob h a 11) (hr : isR h a 35) : ev 175 45 L (.ref a :: st) h = ev 175 48 L (.ref (gR h a 35) :: st) h := G_getR (p := 1048) f175_45 lkF_12_73 (by decide) (by decide) ho hr
theorem f175_48 : fetch 175 48 = some (.iload 4, 2) := vtab tk175 27 rfl
theorem e175_48 (l0 l1 l2 l3 : Option Value) (L : VL) (st : List Value) (h : VG) (x : Int32) : ev 175 48 (l0 :: l1 :: l2 :: l3 :: some (.int x) :: L) (st) h = ev 175 50 (l0 :: l1 :: l2 :: l3 :: some (.int x) :: L) (.int x :: st) h := G_iload f175_48 rfl
theorem f175_50 : fetch 175 50 = some (.iaload, 1) := vtab tk175 28 rfl
theorem e175_50 (L : VL) (st : List Value) (h : VG) (a : Nat) (i : Int32) (ha : rdI h a) (hi : vp_in i (aln h a)) : ev 175 50 L (.int i :: .ref a :: st) h = ev 175 51 L (.int (aI h a i.toNatClampNeg) :: st) h := G_iald' f175_50 ha hi
theorem f175_51 : fetch 175 51 = some (.iload_n 2, 1) := vtab tk175 29 rfl
theorem e175_51 (l0 l1 : Option Value) (L : VL) (st : List Value) (h : VG) (x : Int32) : ev 175 51 (l0 :: l1 :: some (.int x) :: L) (st) h = ev 175 52 (l0 :: l1 :: some (.int x) :: L) (.int x :: st) h := G_iload_n f175_51 rfl
theorem f175_52 : fetch 175 52 = some (.iload 5, 2) := vtab tk175 30 rfl
theorem e175_52 (l0 l1 l2 l3 l4 : Option Value) (L : VL) (st : List Value) (h : VG) (x : Int32) : ev 175 52 (l0 :: l1 :: l2 :: l3 :: l4 :: some (.int x) :: L) (st) h = ev 175 54 (l0 :: l1 :: l2 :: l3 :: l4 :: some (.int x) :: L) (.int x :: st) h := G_iload f175_52 rfl
theorem f175_54 : fetch 175 54 = some (.isub, 1) := vtab tk175 31 rfl
theorem e175_54 (L : VL) (st : List Value) (h : VG) (x y : Int32) : ev 175 54 L (.int y :: .int x :: st) h = ev 175 55 L (.int (x - y) :: st) h := G_isub f175_54
theorem f175_55 : fetch 175 55 = some (.aload_n 0, 1) := vtab tk175 32 rfl
theorem e175_55 (L : VL) (st : List Value) (h : VG) (x : Nat) : ev 175 55 (some (.ref x) :: L) (st) h = ev 175 56 (some (.ref x) :: L) (.ref x :: st) h := G_aload_n f175_55 rfl
theorem f175_56 : fetch 175 56 = some (.aload_n 0, 1) := vtab tk175 33 rfl
theorem e175_56 (L : VL) (st : List Value) (h : VG) (x : Nat) : ev 175 56 (some (.ref x) :: L) (st) h = ev 175 57 (some (.ref x) :: L) (.ref x :: st) h := G_aload_n f175_56 rfl
theorem f175_57 : fetch 175 57 = some (.getfield 46, 3) := vtab tk175 34 rfl
theorem e175_57 (L : VL) (st : List Value) (h : VG) (a : Nat) (ho : ob h a 11) (hr : isR h a 21) : ev 175 57 L (.ref a :: st) h = ev 175 60 L (.ref (gR h a 21) :: st) h := G_getR (p := 1034) f175_57 lkF_12_46 (by decide) (by decide) ho hr
theorem f175_60 : fetch 175 60 = some (.bipush 8, 2) := vtab tk175 35 rfl
theorem e175_60 (L : VL) (st : List Value) (h : VG) : ev 175 60 L (st) h = ev 175 62 L (.int (8 : Int32) :: st) h := G_bipush f175_60 (by decide)
theorem f175_62 : fetch 175 62 = some (.iload_n 1, 1) := vtab tk175 36 rfl
theorem e175_62 (l0 : Option Value) (L : VL) (st : List Value) (h : VG) (x : Int32) : ev 175 62 (l0 :: some (.int x) :: L) (st) h = ev 175 63 (l0 :: some (.int x) :: L) (.int x :: st) h := G_iload_n f175_62 rfl
theorem f175_63 : fetch 175 63 = some (.imul, 1) := vtab tk175 37 rfl
theorem e175_63 (L : VL) (st : List Value) (h : VG) (x y : Int32) : ev 175 63 L (.int y :: .int x :: st) h = ev 175 64 L (.int (x * y) :: st) h := G_imul f175_63
theorem f175_64 : fetch 175 64 = some (.iload 4, 2) := vtab tk175 38 rfl
theorem e175_64 (l0 l1 l2 l3 : Option Value) (L : VL) (st : List Value) (h : VG) (x : Int32) : ev 175 64 (l0 :: l1 :: l2 :: l3 :: some (.int x) :: L) (st) h = ev 175 66 (l0 :: l1 :: l2 :: l3 :: some (.int x) :: L) (.int x :: st) h := G_iload f175_64 rfl
theorem f175_66 : fetch 175 66 = some (.iadd, 1) := vtab tk175 39 rfl
theorem e175_66 (L : VL) (st : List Value) (h : VG) (x y : Int32) : ev 175 66 L (.int y :: .int x :: st) h = ev 175 67 L (.int (x + y) :: st) h := G_iadd f175_66
theorem f175_67 : fetch 175 67 = some (.iaload, 1) := vtab tk175 40 rfl
theorem e175_67 (L : VL) (st : List Value) (h : VG) (a : Nat) (i : Int32) (ha : rdI h a) (hi : vp_in i (aln h a)) : ev 175 67 L (.int i :: .ref a :: st) h = ev 175 68 L (.int (aI h a i.toNatClampNeg) :: st) h := G_iald' f175_67 ha hi
theorem f175_68 : fetch 175 68 = some (.iload_n 3, 1) := vtab tk175 41 rfl
theorem e175_68 (l0 l1 l2 : Option Value) (L : VL) (st : List Value) (h : VG) (x : Int32) : ev 175 68 (l0 :: l1 :: l2 :: some (.int x) :: L) (st) h = ev 175 69 (l0 :: l1 :: l2 :: some (.int x) :: L) (.int x :: st) h := G_iload_n f175_68 rfl
theorem f175_69 : fetch 175 69 = some (.invokevirtual 287, 3) := vtab tk175 42 rfl
theorem e175_69 (L : VL) (st : List Value) (h : VG) (b : Nat) (x0 : Int32) (x1 : Int32) (ho : ob h b 11) (hs : catS st ≤ 8) : ev 175 69 L (.int x1 :: .int x0 :: .ref b :: st) h = (ev 166 0 [some (.ref b), some (.int x0), some (.int x1)] [] h).bind fun q => ev 175 72 L (q.1.toList ++ st) q.2 := G_callv (k := 1) (p := 1335) (ars := [.int x0, .int x1]) f175_69 lkC_12_287 (by decide) (by decide +kernel) rfl (vcls_ob (ci := 11) (by decide) ho) (Nat.le_of_ble_eq_true rfl) hs rfl
theorem f175_72 : fetch 175 72 = some (.imul, 1) := vtab tk175 43 rfl
theorem e175_72 (L : VL) (st : List Value) (h : VG) (x y : Int32) : ev 175 72 L (.int y :: .int x :: st) h = ev 175 73 L (.int (x * y) :: st) h := G_imul f175_72
theorem f175_73 : fetch 175 73 = some (.iadd, 1) := vtab tk175 44 rfl
theorem e175_73 (L : VL) (st : List Value) (h : VG) (x y : Int32) : ev 175 73 L (.int y :: .int x :: st) h = ev 175 74 L (.int (x + y) :: st) h := G_iadd f175_73
theorem f175_74 : fetch 175 74 = some (.ireturn, 1) := vtab tk175 45 rfl
theorem e175_74 (L : VL) (h : VG) (x : Int32) : ev 175 74 L [.int x] h = some (some (.int x), h) := G_iret f175_74 (ty := .int) (by decide) rfl
/-! 176 GuestCallsModel.argument(III)I -/
def tb176 : List (Nat × Instr × Nat) := [(0, .aload_n 0, 1), (1, .iload_n 1, 1), (2, .invokevirtual 293, 3), (5, .ifCond .eq 27, 3), (8, .iload_n 2, 1), (9, .iconst 0, 1), (10, .aload_n 0, 1), (11, .iload_n 1, 1), (12, .invokevirtual 300, 3), (15, .iconst 1, 1), (16, .isub, 1), (17, .invokestatic 260, 3), (20, .ifCond .eq 12, 3), (23, .iload_n 3, 1), (24, .iconst 0, 1), (25, .iconst 2, 1), (26, .invokestatic 260, 3), (29, .ifCond .ne 5, 3), (32, .iconst (-1), 1), (33, .ireturn, 1), (34, .iconst 0, 1), (35, .istore 4, 2), (37, .iconst 0, 1), (38, .istore 5, 2), (40, .iconst 0, 1), (41, .istore 6, 2), (43, .bipush (-2), 2), (45, .istore 7, 2), (47, .bipush (-2), 2), (49, .istore 8, 2), (51, .iconst 0, 1), (52, .istore 9, 2), (54, .iload 9, 2), (56, .iload_n 2, 1), (57, .if_icmp .gt 134, 3), (60, .aload_n 0, 1), (61, .getfield 67, 3), (64, .aload_n 0, 1), (65, .iload_n 1, 1), (66, .iload 9, 2), (68, .invokevirtual 306, 3), (71, .iaload, 1), (72, .istore 10, 2), (74, .iload 10, 2), (76, .bipush 8, 2), (78, .if_icmp .ne 12, 3), (81, .iload 4, 2), (83, .iconst 2, 1), (84, .invokestatic 284, 3), (87, .goto 5, 3), (90, .iload 4, 2), (92, .istore 11, 2), (94, .iload 11, 2), (96, .iload 10, 2), (98, .bipush 8, 2), (100, .if_icmp .ne 7, 3), (103, .iconst 2, 1), (104, .goto 4, 3), (107, .iconst 1, 1), (108, .iadd, 1), (109, .istore 12, 2), (111, .iload 12, 2), (113, .bipush 6, 2), (115, .if_icmp .le 6, 3), (118, .iconst 1, 1), (119, .istore 6, 2), (121, .iload 6, 2), (123, .ifCond .eq 8, 3), (126, .bipush (-2), 2), (128, .goto 5, 3), (131, .iload 11, 2), (133, .istore 7, 2), (135, .iload 6, 2), (137, .ifCond .eq 44, 3), (140, .iload 5, 2), (142, .iload 10, 2), (144, .bipush 8, 2), (146, .if_icmp .ne 8, 3), (149, .bipush 8, 2), (151, .goto 4, 3), (154, .iconst 4, 1), (155, .invokestatic 284, 3), (158, .istore 8, 2), (160, .iload 8, 2), (162, .iload 10, 2), (164, .bipush 8, 2), (166, .if_icmp .ne 8, 3), (169, .bipush 8, 2), (171, .goto 4, 3), (174, .iconst 4, 1), (175, .iadd, 1), (176, .istore 5, 2), (178, .goto 7, 3), (181, .iload 12, 2), (183, .istore 4, 2), (185, .iinc 9 1, 3), (188, .goto (-134), 3), (191, .iload_n 3, 1), (192, .ifCond .ne 8, 3), (195, .iload 7, 2), (197, .goto 25, 3), (200, .iload_n 3, 1), (201, .iconst 1, 1), (202, .if_icmp .ne 18, 3), (205, .iload 6, 2), (207, .ifCond .eq 8, 3), (210, .iload 8, 2), (212, .goto 10, 3), (215, .bipush (-2), 2), (217, .goto 5, 3), (220, .iload 4, 2), (222, .ireturn, 1)]
theorem tk176 : tb176.all (fun q => decide (fetch 176 q.1 = some q.2)) = true := by decide +kernel
theorem f176_0 : fetch 176 0 = some (.aload_n 0, 1) := vtab tk176 0 rfl
theorem e176_0 (L : VL) (st : List Value) (h : VG) (x : Nat) : ev 176 0 (some (.ref x) :: L) (st) h = ev 176 1 (some (.ref x) :: L) (.ref x :: st) h := G_aload_n f176_0 rfl
theorem f176_1 : fetch 176 1 = some (.iload_n 1, 1) := vtab tk176 1 rfl
theorem e176_1 (l0 : Option Value) (L : VL) (st : List Value) (h : VG) (x : Int32) : ev 176 1 (l0 :: some (.int x) :: L) (st) h = ev 176 2 (l0 :: some (.int x) :: L) (.int x :: st) h := G_iload_n f176_1 rfl
theorem f176_2 : fetch 176 2 = some (.invokevirtual 293, 3) := vtab tk176 2 rfl
theorem e176_2 (L : VL) (st : List Value) (h : VG) (b : Nat) (x0 : Int32) (ho : ob h b 11) (hs : catS st ≤ 8) : ev 176 2 L (.int x0 :: .ref b :: st) h = (ev 171 0 [some (.ref b), some (.int x0)] [] h).bind fun q => ev 176 5 L (q.1.toList ++ st) q.2 := G_callv (k := 1) (p := 1317) (ars := [.int x0]) f176_2 lkC_12_293 (by decide) (by decide +kernel) rfl (vcls_ob (ci := 11) (by decide) ho) (Nat.le_of_ble_eq_true rfl) hs rfl
theorem f176_5 : fetch 176 5 = some (.ifCond .eq 27, 3) := vtab tk176 3 rfl
theorem e176_5 (L : VL) (st : List Value) (h : VG) (x : Int32) : ev 176 5 L (.int x :: st) h = if x = 0 then ev 176 32 L st h else ev 176 8 L st h := G_if_eq f176_5 (by decide)
theorem f176_8 : fetch 176 8 = some (.iload_n 2, 1) := vtab tk176 4 rfl
theorem e176_8 (l0 l1 : Option Value) (L : VL) (st : List Value) (h : VG) (x : Int32) : ev 176 8 (l0 :: l1 :: some (.int x) :: L) (st) h = ev 176 9 (l0 :: l1 :: some (.int x) :: L) (.int x :: st) h := G_iload_n f176_8 rfl
theorem f176_9 : fetch 176 9 = some (.iconst 0, 1) := vtab tk176 5 rfl
theorem e176_9 (L : VL) (st : List Value) (h : VG) : ev 176 9 L (st) h = ev 176 10 L (.int (0 : Int32) :: st) h := G_iconst f176_9 (by decide)
theorem f176_10 : fetch 176 10 = some (.aload_n 0, 1) := vtab tk176 6 rfl
theorem e176_10 (L : VL) (st : List Value) (h : VG) (x : Nat) : ev 176 10 (some (.ref x) :: L) (st) h = ev 176 11 (some (.ref x) :: L) (.ref x :: st) h := G_aload_n f176_10 rfl
theorem f176_11 : fetch 176 11 = some (.iload_n 1, 1) := vtab tk176 7 rfl
theorem e176_11 (l0 : Option Value) (L : VL) (st : List Value) (h : VG) (x : Int32) : ev 176 11 (l0 :: some (.int x) :: L) (st) h = ev 176 12 (l0 :: some (.int x) :: L) (.int x :: st) h := G_iload_n f176_11 rfl
theorem f176_12 : fetch 176 12 = some (.invokevirtual 300, 3) := vtab tk176 8 rfl
theorem e176_12 (L : VL) (st : List Value) (h : VG) (b : Nat) (x0 : Int32) (ho : ob h b 11) (hs : catS st ≤ 8) : ev 176 12 L (.int x0 :: .ref b :: st) h = (ev 170 0 [some (.ref b), some (.int x0), none, none] [] h).bind fun q => ev 176 15 L (q.1.toList ++ st) q.2 := G_callv (k := 1) (p := 1339) (ars := [.int x0]) f176_12 lkC_12_300 (by decide) (by decide +kernel) rfl (vcls_ob (ci := 11) (by decide) ho) (Nat.le_of_ble_eq_true rfl) hs rfl
theorem f176_15 : fetch 176 15 = some (.iconst 1, 1) := vtab tk176 9 rfl
theorem e176_15 (L : VL) (st : List Value) (h : VG) : ev 176 15 L (st) h = ev 176 16 L (.int (1 : Int32) :: st) h := G_iconst f176_15 (by decide)
theorem f176_16 : fetch 176 16 = some (.isub, 1) := vtab tk176 10 rfl
theorem e176_16 (L : VL) (st : List Value) (h : VG) (x y : Int32) : ev 176 16 L (.int y :: .int x :: st) h = ev 176 17 L (.int (x - y) :: st) h := G_isub f176_16
theorem f176_17 : fetch 176 17 = some (.invokestatic 260, 3) := vtab tk176 11 rfl
theorem e176_17 (L : VL) (st : List Value) (h : VG) (x0 : Int32) (x1 : Int32) (x2 : Int32) (hs : catS st ≤ 8) : ev 176 17 L (.int x2 :: .int x1 :: .int x0 :: st) h = (ev 162 0 [some (.int x0), some (.int x1), some (.int x2)] [] h).bind fun q => ev 176 20 L (q.1.toList ++ st) q.2 := G_calls (k := 0) (p := 1286) (ars := [.int x0, .int x1, .int x2]) f176_17 lkC_12_260 (by decide) (by decide +kernel) rfl (Nat.le_of_ble_eq_true rfl) hs rfl
theorem f176_20 : fetch 176 20 = some (.ifCond .eq 12, 3) := vtab tk176 12 rfl
theorem e176_20 (L : VL) (st : List Value) (h : VG) (x : Int32) : ev 176 20 L (.int x :: st) h = if x = 0 then ev 176 32 L st h else ev 176 23 L st h := G_if_eq f176_20 (by decide)
theorem f176_23 : fetch 176 23 = some (.iload_n 3, 1) := vtab tk176 13 rfl
theorem e176_23 (l0 l1 l2 : Option Value) (L : VL) (st : List Value) (h : VG) (x : Int32) : ev 176 23 (l0 :: l1 :: l2 :: some (.int x) :: L) (st) h = ev 176 24 (l0 :: l1 :: l2 :: some (.int x) :: L) (.int x :: st) h := G_iload_n f176_23 rfl
theorem f176_24 : fetch 176 24 = some (.iconst 0, 1) := vtab tk176 14 rfl
theorem e176_24 (L : VL) (st : List Value) (h : VG) : ev 176 24 L (st) h = ev 176 25 L (.int (0 : Int32) :: st) h := G_iconst f176_24 (by decide)
theorem f176_25 : fetch 176 25 = some (.iconst 2, 1) := vtab tk176 15 rfl
theorem e176_25 (L : VL) (st : List Value) (h : VG) : ev 176 25 L (st) h = ev 176 26 L (.int (2 : Int32) :: st) h := G_iconst f176_25 (by decide)
theorem f176_26 : fetch 176 26 = some (.invokestatic 260, 3) := vtab tk176 16 rfl
theorem e176_26 (L : VL) (st : List Value) (h : VG) (x0 : Int32) (x1 : Int32) (x2 : Int32) (hs : catS st ≤ 8) : ev 176 26 L (.int x2 :: .int x1 :: .int x0 :: st) h = (ev 162 0 [some (.int x0), some (.int x1), some (.int x2)] [] h).bind fun q => ev 176 29 L (q.1.toList ++ st) q.2 := G_calls (k := 0) (p := 1286) (ars := [.int x0, .int x1, .int x2]) f176_26 lkC_12_260 (by decide) (by decide +kernel) rfl (Nat.le_of_ble_eq_true rfl) hs rfl
theorem f176_29 : fetch 176 29 = some (.ifCond .ne 5, 3) := vtab tk176 17 rfl
theorem e176_29 (L : VL) (st : List Value) (h : VG) (x : Int32) : ev 176 29 L (.int x :: st) h = if x = 0 then ev 176 32 L st h else ev 176 34 L st h := G_if_ne f176_29 (by decide)
theorem f176_32 : fetch 176 32 = some (.iconst (-1), 1) := vtab tk176 18 rfl
theorem e176_32 (L : VL) (st : List Value) (h : VG) : ev 176 32 L (st) h = ev 176 33 L (.int (-1 : Int32) :: st) h := G_iconst f176_32 (by decide)
theorem f176_33 : fetch 176 33 = some (.ireturn, 1) := vtab tk176 19 rfl
theorem e176_33 (L : VL) (h : VG) (x : Int32) : ev 176 33 L [.int x] h = some (some (.int x), h) := G_iret f176_33 (ty := .int) (by decide) rfl
theorem f176_34 : fetch 176 34 = some (.iconst 0, 1) := vtab tk176 20 rfl
theorem e176_34 (L : VL) (st : List Value) (h : VG) : ev 176 34 L (st) h = ev 176 35 L (.int (0 : Int32) :: st) h := G_iconst f176_34 (by decide)
theorem f176_35 : fetch 176 35 = some (.istore 4, 2) := vtab tk176 21 rfl
theorem e176_35 (l0 l1 l2 l3 l4 : Option Value) (L : VL) (st : List Value) (h : VG) (x : Int32) : ev 176 35 (l0 :: l1 :: l2 :: l3 :: l4 :: L) (.int x :: st) h = ev 176 37 (l0 :: l1 :: l2 :: vkk l3 :: some (.int x) :: L) (st) h := G_istore f176_35 rfl (S1_4 l0 l1 l2 l3 l4 L _)
theorem f176_37 : fetch 176 37 = some (.iconst 0, 1) := vtab tk176 22 rfl
theorem e176_37 (L : VL) (st : List Value) (h : VG) : ev 176 37 L (st) h = ev 176 38 L (.int (0 : Int32) :: st) h := G_iconst f176_37 (by decide)
theorem f176_38 : fetch 176 38 = some (.istore 5, 2) := vtab tk176 23 rfl
theorem e176_38 (l0 l1 l2 l3 l4 l5 : Option Value) (L : VL) (st : List Value) (h : VG) (x : Int32) : ev 176 38 (l0 :: l1 :: l2 :: l3 :: l4 :: l5 :: L) (.int x :: st) h = ev 176 40 (l0 :: l1 :: l2 :: l3 :: vkk l4 :: some (.int x) :: L) (st) h := G_istore f176_38 rfl (S1_5 l0 l1 l2 l3 l4 l5 L _)
theorem f176_40 : fetch 176 40 = some (.iconst 0, 1) := vtab tk176 24 rfl
theorem e176_40 (L : VL) (st : List Value) (h : VG) : ev 176 40 L (st) h = ev 176 41 L (.int (0 : Int32) :: st) h := G_iconst f176_40 (by decide)
theorem f176_41 : fetch 176 41 = some (.istore 6, 2) := vtab tk176 25 rfl
theorem e176_41 (l0 l1 l2 l3 l4 l5 l6 : Option Value) (L : VL) (st : List Value) (h : VG) (x : Int32) : ev 176 41 (l0 :: l1 :: l2 :: l3 :: l4 :: l5 :: l6 :: L) (.int x :: st) h = ev 176 43 (l0 :: l1 :: l2 :: l3 :: l4 :: vkk l5 :: some (.int x) :: L) (st) h := G_istore f176_41 rfl (S1_6 l0 l1 l2 l3 l4 l5 l6 L _)
theorem f176_43 : fetch 176 43 = some (.bipush (-2), 2) := vtab tk176 26 rfl
theorem e176_43 (L : VL) (st : List Value) (h : VG) : ev 176 43 L (st) h = ev 176 45 L (.int (-2 : Int32) :: st) h := G_bipush f176_43 (by decide)
theorem f176_45 : fetch 176 45 = some (.istore 7, 2) := vtab tk176 27 rfl
theorem e176_45 (l0 l1 l2 l3 l4 l5 l6 l7 : Option Value) (L : VL) (st : List Value) (h : VG) (x : Int32) : ev 176 45 (l0 :: l1 :: l2 :: l3 :: l4 :: l5 :: l6 :: l7 :: L) (.int x :: st) h = ev 176 47 (l0 :: l1 :: l2 :: l3 :: l4 :: l5 :: vkk l6 :: some (.int x) :: L) (st) h := G_istore f176_45 rfl (S1_7 l0 l1 l2 l3 l4 l5 l6 l7 L _)
theorem f176_47 : fetch 176 47 = some (.bipush (-2), 2) := vtab tk176 28 rfl
theorem e176_47 (L : VL) (st : List Value) (h : VG) : ev 176 47 L (st) h = ev 176 49 L (.int (-2 : Int32) :: st) h := G_bipush f176_47 (by decide)
theorem f176_49 : fetch 176 49 = some (.istore 8, 2) := vtab tk176 29 rfl
theorem e176_49 (l0 l1 l2 l3 l4 l5 l6 l7 l8 : Option Value) (L : VL) (st : List Value) (h : VG) (x : Int32) : ev 176 49 (l0 :: l1 :: l2 :: l3 :: l4 :: l5 :: l6 :: l7 :: l8 :: L) (.int x :: st) h = ev 176 51 (l0 :: l1 :: l2 :: l3 :: l4 :: l5 :: l6 :: vkk l7 :: some (.int x) :: L) (st) h := G_istore f176_49 rfl (S1_8 l0 l1 l2 l3 l4 l5 l6 l7 l8 L _)
theorem f176_51 : fetch 176 51 = some (.iconst 0, 1) := vtab tk176 30 rfl
theorem e176_51 (L : VL) (st : List Value) (h : VG) : ev 176 51 L (st) h = ev 176 52 L (.int (0 : Int32) :: st) h := G_iconst f176_51 (by decide)
theorem f176_52 : fetch 176 52 = some (.istore 9, 2) := vtab tk176 31 rfl
theorem e176_52 (l0 l1 l2 l3 l4 l5 l6 l7 l8 l9 : Option Value) (L : VL) (st : List Value) (h : VG) (x : Int32) : ev 176 52 (l0 :: l1 :: l2 :: l3 :: l4 :: l5 :: l6 :: l7 :: l8 :: l9 :: L) (.int x :: st) h = ev 176 54 (l0 :: l1 :: l2 :: l3 :: l4 :: l5 :: l6 :: l7 :: vkk l8 :: some (.int x) :: L) (st) h := G_istore f176_52 rfl (S1_9 l0 l1 l2 l3 l4 l5 l6 l7 l8 l9 L _)
theorem f176_54 : fetch 176 54 = some (.iload 9, 2) := vtab tk176 32 rfl
theorem e176_54 (l0 l1 l2 l3 l4 l5 l6 l7 l8 : Option Value) (L : VL) (st : List Value) (h : VG) (x : Int32) : ev 176 54 (l0 :: l1 :: l2 :: l3 :: l4 :: l5 :: l6 :: l7 :: l8 :: some (.int x) :: L) (st) h = ev 176 56 (l0 :: l1 :: l2 :: l3 :: l4 :: l5 :: l6 :: l7 :: l8 :: some (.int x) :: L) (.int x :: st) h := G_iload f176_54 rfl
theorem f176_56 : fetch 176 56 = some (.iload_n 2, 1) := vtab tk176 33 rfl
theorem e176_56 (l0 l1 : Option Value) (L : VL) (st : List Value) (h : VG) (x : Int32) : ev 176 56 (l0 :: l1 :: some (.int x) :: L) (st) h = ev 176 57 (l0 :: l1 :: some (.int x) :: L) (.int x :: st) h := G_iload_n f176_56 rfl
theorem f176_57 : fetch 176 57 = some (.if_icmp .gt 134, 3) := vtab tk176 34 rfl
theorem e176_57 (L : VL) (st : List Value) (h : VG) (x y : Int32) : ev 176 57 L (.int y :: .int x :: st) h = if x ≤ y then ev 176 60 L st h else ev 176 191 L st h := G_icmp_gt f176_57 (by decide)
theorem f176_60 : fetch 176 60 = some (.aload_n 0, 1) := vtab tk176 35 rfl
theorem e176_60 (L : VL) (st : List Value) (h : VG) (x : Nat) : ev 176 60 (some (.ref x) :: L) (st) h = ev 176 61 (some (.ref x) :: L) (.ref x :: st) h := G_aload_n f176_60 rfl
theorem f176_61 : fetch 176 61 = some (.getfield 67, 3) := vtab tk176 36 rfl
theorem e176_61 (L : VL) (st : List Value) (h : VG) (a : Nat) (ho : ob h a 11) (hr : isR h a 33) : ev 176 61 L (.ref a :: st) h = ev 176 64 L (.ref (gR h a 33) :: st) h := G_getR (p := 1046) f176_61 lkF_12_67 (by decide) (by decide) ho hr
theorem f176_64 : fetch 176 64 = some (.aload_n 0, 1) := vtab tk176 37 rfl
theorem e176_64 (L : VL) (st : List Value) (h : VG) (x : Nat) : ev 176 64 (some (.ref x) :: L) (st) h = ev 176 65 (some (.ref x) :: L) (.ref x :: st) h := G_aload_n f176_64 rfl
theorem f176_65 : fetch 176 65 = some (.iload_n 1, 1) := vtab tk176 38 rfl
theorem e176_65 (l0 : Option Value) (L : VL) (st : List Value) (h : VG) (x : Int32) : ev 176 65 (l0 :: some (.int x) :: L) (st) h = ev 176 66 (l0 :: some (.int x) :: L) (.int x :: st) h := G_iload_n f176_65 rfl
theorem f176_66 : fetch 176 66 = some (.iload 9, 2) := vtab tk176 39 rfl
theorem e176_66 (l0 l1 l2 l3 l4 l5 l6 l7 l8 : Option Value) (L : VL) (st : List Value) (h : VG) (x : Int32) : ev 176 66 (l0 :: l1 :: l2 :: l3 :: l4 :: l5 :: l6 :: l7 :: l8 :: some (.int x) :: L) (st) h = ev 176 68 (l0 :: l1 :: l2 :: l3 :: l4 :: l5 :: l6 :: l7 :: l8 :: some (.int x) :: L) (.int x :: st) h := G_iload f176_66 rfl
theorem f176_68 : fetch 176 68 = some (.invokevirtual 306, 3) := vtab tk176 40 rfl
theorem e176_68 (L : VL) (st : List Value) (h : VG) (b : Nat) (x0 : Int32) (x1 : Int32) (ho : ob h b 11) (hs : catS st ≤ 8) : ev 176 68 L (.int x1 :: .int x0 :: .ref b :: st) h = (ev 174 0 [some (.ref b), some (.int x0), some (.int x1)] [] h).bind fun q => ev 176 71 L (q.1.toList ++ st) q.2 := G_callv (k := 1) (p := 1347) (ars := [.int x0, .int x1]) f176_68 lkC_12_306 (by decide) (by decide +kernel) rfl (vcls_ob (ci := 11) (by decide) ho) (Nat.le_of_ble_eq_true rfl) hs rfl
theorem f176_71 : fetch 176 71 = some (.iaload, 1) := vtab tk176 41 rfl
theorem e176_71 (L : VL) (st : List Value) (h : VG) (a : Nat) (i : Int32) (ha : rdI h a) (hi : vp_in i (aln h a)) : ev 176 71 L (.int i :: .ref a :: st) h = ev 176 72 L (.int (aI h a i.toNatClampNeg) :: st) h := G_iald' f176_71 ha hi
theorem f176_72 : fetch 176 72 = some (.istore 10, 2) := vtab tk176 42 rfl
theorem e176_72 (l0 l1 l2 l3 l4 l5 l6 l7 l8 l9 l10 : Option Value) (L : VL) (st : List Value) (h : VG) (x : Int32) : ev 176 72 (l0 :: l1 :: l2 :: l3 :: l4 :: l5 :: l6 :: l7 :: l8 :: l9 :: l10 :: L) (.int x :: st) h = ev 176 74 (l0 :: l1 :: l2 :: l3 :: l4 :: l5 :: l6 :: l7 :: l8 :: vkk l9 :: some (.int x) :: L) (st) h := G_istore f176_72 rfl (S1_10 l0 l1 l2 l3 l4 l5 l6 l7 l8 l9 l10 L _)
theorem f176_74 : fetch 176 74 = some (.iload 10, 2) := vtab tk176 43 rfl
theorem e176_74 (l0 l1 l2 l3 l4 l5 l6 l7 l8 l9 : Option Value) (L : VL) (st : List Value) (h : VG) (x : Int32) : ev 176 74 (l0 :: l1 :: l2 :: l3 :: l4 :: l5 :: l6 :: l7 :: l8 :: l9 :: some (.int x) :: L) (st) h = ev 176 76 (l0 :: l1 :: l2 :: l3 :: l4 :: l5 :: l6 :: l7 :: l8 :: l9 :: some (.int x) :: L) (.int x :: st) h := G_iload f176_74 rfl
theorem f176_76 : fetch 176 76 = some (.bipush 8, 2) := vtab tk176 44 rfl
theorem e176_76 (L : VL) (st : List Value) (h : VG) : ev 176 76 L (st) h = ev 176 78 L (.int (8 : Int32) :: st) h := G_bipush f176_76 (by decide)
theorem f176_78 : fetch 176 78 = some (.if_icmp .ne 12, 3) := vtab tk176 45 rfl
theorem e176_78 (L : VL) (st : List Value) (h : VG) (x y : Int32) : ev 176 78 L (.int y :: .int x :: st) h = if x = y then ev 176 81 L st h else ev 176 90 L st h := G_icmp_ne f176_78 (by decide)
theorem f176_81 : fetch 176 81 = some (.iload 4, 2) := vtab tk176 46 rfl
theorem e176_81 (l0 l1 l2 l3 : Option Value) (L : VL) (st : List Value) (h : VG) (x : Int32) : ev 176 81 (l0 :: l1 :: l2 :: l3 :: some (.int x) :: L) (st) h = ev 176 83 (l0 :: l1 :: l2 :: l3 :: some (.int x) :: L) (.int x :: st) h := G_iload f176_81 rfl
theorem f176_83 : fetch 176 83 = some (.iconst 2, 1) := vtab tk176 47 rfl
theorem e176_83 (L : VL) (st : List Value) (h : VG) : ev 176 83 L (st) h = ev 176 84 L (.int (2 : Int32) :: st) h := G_iconst f176_83 (by decide)
theorem f176_84 : fetch 176 84 = some (.invokestatic 284, 3) := vtab tk176 48 rfl
theorem e176_84 (L : VL) (st : List Value) (h : VG) (x0 : Int32) (x1 : Int32) (hs : catS st ≤ 8) : ev 176 84 L (.int x1 :: .int x0 :: st) h = (ev 168 0 [some (.int x0), some (.int x1)] [] h).bind fun q => ev 176 87 L (q.1.toList ++ st) q.2 := G_calls (k := 0) (p := 1332) (ars := [.int x0, .int x1]) f176_84 lkC_12_284 (by decide) (by decide +kernel) rfl (Nat.le_of_ble_eq_true rfl) hs rfl
theorem f176_87 : fetch 176 87 = some (.goto 5, 3) := vtab tk176 49 rfl
theorem e176_87 (L : VL) (st : List Value) (h : VG) : ev 176 87 L (st) h = ev 176 92 L (st) h := G_goto f176_87 (by decide)
theorem f176_90 : fetch 176 90 = some (.iload 4, 2) := vtab tk176 50 rfl
theorem e176_90 (l0 l1 l2 l3 : Option Value) (L : VL) (st : List Value) (h : VG) (x : Int32) : ev 176 90 (l0 :: l1 :: l2 :: l3 :: some (.int x) :: L) (st) h = ev 176 92 (l0 :: l1 :: l2 :: l3 :: some (.int x) :: L) (.int x :: st) h := G_iload f176_90 rfl
theorem f176_92 : fetch 176 92 = some (.istore 11, 2) := vtab tk176 51 rfl
theorem e176_92 (l0 l1 l2 l3 l4 l5 l6 l7 l8 l9 l10 l11 : Option Value) (L : VL) (st : List Value) (h : VG) (x : Int32) : ev 176 92 (l0 :: l1 :: l2 :: l3 :: l4 :: l5 :: l6 :: l7 :: l8 :: l9 :: l10 :: l11 :: L) (.int x :: st) h = ev 176 94 (l0 :: l1 :: l2 :: l3 :: l4 :: l5 :: l6 :: l7 :: l8 :: l9 :: vkk l10 :: some (.int x) :: L) (st) h := G_istore f176_92 rfl (S1_11 l0 l1 l2 l3 l4 l5 l6 l7 l8 l9 l10 l11 L _)
theorem f176_94 : fetch 176 94 = some (.iload 11, 2) := vtab tk176 52 rfl
theorem e176_94 (l0 l1 l2 l3 l4 l5 l6 l7 l8 l9 l10 : Option Value) (L : VL) (st : List Value) (h : VG) (x : Int32) : ev 176 94 (l0 :: l1 :: l2 :: l3 :: l4 :: l5 :: l6 :: l7 :: l8 :: l9 :: l10 :: some (.int x) :: L) (st) h = ev 176 96 (l0 :: l1 :: l2 :: l3 :: l4 :: l5 :: l6 :: l7 :: l8 :: l9 :: l10 :: some (.int x) :: L) (.int x :: st) h := G_iload f176_94 rfl
theorem f176_96 : fetch 176 96 = some (.iload 10, 2) := vtab tk176 53 rfl
theorem e176_96 (l0 l1 l2 l3 l4 l5 l6 l7 l8 l9 : Option Value) (L : VL) (st : List Value) (h : VG) (x : Int32) : ev 176 96 (l0 :: l1 :: l2 :: l3 :: l4 :: l5 :: l6 :: l7 :: l8 :: l9 :: some (.int x) :: L) (st) h = ev 176 98 (l0 :: l1 :: l2 :: l3 :: l4 :: l5 :: l6 :: l7 :: l8 :: l9 :: some (.int x) :: L) (.int x :: st) h := G_iload f176_96 rfl
theorem f176_98 : fetch 176 98 = some (.bipush 8, 2) := vtab tk176 54 rfl
theorem e176_98 (L : VL) (st : List Value) (h : VG) : ev 176 98 L (st) h = ev 176 100 L (.int (8 : Int32) :: st) h := G_bipush f176_98 (by decide)
theorem f176_100 : fetch 176 100 = some (.if_icmp .ne 7, 3) := vtab tk176 55 rfl
theorem e176_100 (L : VL) (st : List Value) (h : VG) (x y : Int32) : ev 176 100 L (.int y :: .int x :: st) h = if x = y then ev 176 103 L st h else ev 176 107 L st h := G_icmp_ne f176_100 (by decide)
theorem f176_103 : fetch 176 103 = some (.iconst 2, 1) := vtab tk176 56 rfl
theorem e176_103 (L : VL) (st : List Value) (h : VG) : ev 176 103 L (st) h = ev 176 104 L (.int (2 : Int32) :: st) h := G_iconst f176_103 (by decide)
theorem f176_104 : fetch 176 104 = some (.goto 4, 3) := vtab tk176 57 rfl
theorem e176_104 (L : VL) (st : List Value) (h : VG) : ev 176 104 L (st) h = ev 176 108 L (st) h := G_goto f176_104 (by decide)
theorem f176_107 : fetch 176 107 = some (.iconst 1, 1) := vtab tk176 58 rfl
theorem e176_107 (L : VL) (st : List Value) (h : VG) : ev 176 107 L (st) h = ev 176 108 L (.int (1 : Int32) :: st) h := G_iconst f176_107 (by decide)
theorem f176_108 : fetch 176 108 = some (.iadd, 1) := vtab tk176 59 rfl
theorem e176_108 (L : VL) (st : List Value) (h : VG) (x y : Int32) : ev 176 108 L (.int y :: .int x :: st) h = ev 176 109 L (.int (x + y) :: st) h := G_iadd f176_108
theorem f176_109 : fetch 176 109 = some (.istore 12, 2) := vtab tk176 60 rfl
theorem e176_109 (l0 l1 l2 l3 l4 l5 l6 l7 l8 l9 l10 l11 l12 : Option Value) (L : VL) (st : List Value) (h : VG) (x : Int32) : ev 176 109 (l0 :: l1 :: l2 :: l3 :: l4 :: l5 :: l6 :: l7 :: l8 :: l9 :: l10 :: l11 :: l12 :: L) (.int x :: st) h = ev 176 111 (l0 :: l1 :: l2 :: l3 :: l4 :: l5 :: l6 :: l7 :: l8 :: l9 :: l10 :: vkk l11 :: some (.int x) :: L) (st) h := G_istore f176_109 rfl (S1_12 l0 l1 l2 l3 l4 l5 l6 l7 l8 l9 l10 l11 l12 L _)
theorem f176_111 : fetch 176 111 = some (.iload 12, 2) := vtab tk176 61 rfl
theorem e176_111 (l0 l1 l2 l3 l4 l5 l6 l7 l8 l9 l10 l11 : Option Value) (L : VL) (st : List Value) (h : VG) (x : Int32) : ev 176 111 (l0 :: l1 :: l2 :: l3 :: l4 :: l5 :: l6 :: l7 :: l8 :: l9 :: l10 :: l11 :: some (.int x) :: L) (st) h = ev 176 113 (l0 :: l1 :: l2 :: l3 :: l4 :: l5 :: l6 :: l7 :: l8 :: l9 :: l10 :: l11 :: some (.int x) :: L) (.int x :: st) h := G_iload f176_111 rfl
theorem f176_113 : fetch 176 113 = some (.bipush 6, 2) := vtab tk176 62 rfl
theorem e176_113 (L : VL) (st : List Value) (h : VG) : ev 176 113 L (st) h = ev 176 115 L (.int (6 : Int32) :: st) h := G_bipush f176_113 (by decide)
theorem f176_115 : fetch 176 115 = some (.if_icmp .le 6, 3) := vtab tk176 63 rfl
theorem e176_115 (L : VL) (st : List Value) (h : VG) (x y : Int32) : ev 176 115 L (.int y :: .int x :: st) h = if x ≤ y then ev 176 121 L st h else ev 176 118 L st h := G_icmp_le f176_115 (by decide)
theorem f176_118 : fetch 176 118 = some (.iconst 1, 1) := vtab tk176 64 rfl
theorem e176_118 (L : VL) (st : List Value) (h : VG) : ev 176 118 L (st) h = ev 176 119 L (.int (1 : Int32) :: st) h := G_iconst f176_118 (by decide)
theorem f176_119 : fetch 176 119 = some (.istore 6, 2) := vtab tk176 65 rfl
theorem e176_119 (l0 l1 l2 l3 l4 l5 l6 : Option Value) (L : VL) (st : List Value) (h : VG) (x : Int32) : ev 176 119 (l0 :: l1 :: l2 :: l3 :: l4 :: l5 :: l6 :: L) (.int x :: st) h = ev 176 121 (l0 :: l1 :: l2 :: l3 :: l4 :: vkk l5 :: some (.int x) :: L) (st) h := G_istore f176_119 rfl (S1_6 l0 l1 l2 l3 l4 l5 l6 L _)
theorem f176_121 : fetch 176 121 = some (.iload 6, 2) := vtab tk176 66 rfl
theorem e176_121 (l0 l1 l2 l3 l4 l5 : Option Value) (L : VL) (st : List Value) (h : VG) (x : Int32) : ev 176 121 (l0 :: l1 :: l2 :: l3 :: l4 :: l5 :: some (.int x) :: L) (st) h = ev 176 123 (l0 :: l1 :: l2 :: l3 :: l4 :: l5 :: some (.int x) :: L) (.int x :: st) h := G_iload f176_121 rfl
theorem f176_123 : fetch 176 123 = some (.ifCond .eq 8, 3) := vtab tk176 67 rfl
theorem e176_123 (L : VL) (st : List Value) (h : VG) (x : Int32) : ev 176 123 L (.int x :: st) h = if x = 0 then ev 176 131 L st h else ev 176 126 L st h := G_if_eq f176_123 (by decide)
theorem f176_126 : fetch 176 126 = some (.bipush (-2), 2) := vtab tk176 68 rfl
theorem e176_126 (L : VL) (st : List Value) (h : VG) : ev 176 126 L (st) h = ev 176 128 L (.int (-2 : Int32) :: st) h := G_bipush f176_126 (by decide)
theorem f176_128 : fetch 176 128 = some (.goto 5, 3) := vtab tk176 69 rfl
theorem e176_128 (L : VL) (st : List Value) (h : VG) : ev 176 128 L (st) h = ev 176 133 L (st) h := G_goto f176_128 (by decide)
theorem f176_131 : fetch 176 131 = some (.iload 11, 2) := vtab tk176 70 rfl
theorem e176_131 (l0 l1 l2 l3 l4 l5 l6 l7 l8 l9 l10 : Option Value) (L : VL) (st : List Value) (h : VG) (x : Int32) : ev 176 131 (l0 :: l1 :: l2 :: l3 :: l4 :: l5 :: l6 :: l7 :: l8 :: l9 :: l10 :: some (.int x) :: L) (st) h = ev 176 133 (l0 :: l1 :: l2 :: l3 :: l4 :: l5 :: l6 :: l7 :: l8 :: l9 :: l10 :: some (.int x) :: L) (.int x :: st) h := G_iload f176_131 rfl
theorem f176_133 : fetch 176 133 = some (.istore 7, 2) := vtab tk176 71 rfl
theorem e176_133 (l0 l1 l2 l3 l4 l5 l6 l7 : Option Value) (L : VL) (st : List Value) (h : VG) (x : Int32) : ev 176 133 (l0 :: l1 :: l2 :: l3 :: l4 :: l5 :: l6 :: l7 :: L) (.int x :: st) h = ev 176 135 (l0 :: l1 :: l2 :: l3 :: l4 :: l5 :: vkk l6 :: some (.int x) :: L) (st) h := G_istore f176_133 rfl (S1_7 l0 l1 l2 l3 l4 l5 l6 l7 L _)
theorem f176_135 : fetch 176 135 = some (.iload 6, 2) := vtab tk176 72 rfl
theorem e176_135 (l0 l1 l2 l3 l4 l5 : Option Value) (L : VL) (st : List Value) (h : VG) (x : Int32) : ev 176 135 (l0 :: l1 :: l2 :: l3 :: l4 :: l5 :: some (.int x) :: L) (st) h = ev 176 137 (l0 :: l1 :: l2 :: l3 :: l4 :: l5 :: some (.int x) :: L) (.int x :: st) h := G_iload f176_135 rfl
theorem f176_137 : fetch 176 137 = some (.ifCond .eq 44, 3) := vtab tk176 73 rfl
theorem e176_137 (L : VL) (st : List Value) (h : VG) (x : Int32) : ev 176 137 L (.int x :: st) h = if x = 0 then ev 176 181 L st h else ev 176 140 L st h := G_if_eq f176_137 (by decide)
theorem f176_140 : fetch 176 140 = some (.iload 5, 2) := vtab tk176 74 rfl
theorem e176_140 (l0 l1 l2 l3 l4 : Option Value) (L : VL) (st : List Value) (h : VG) (x : Int32) : ev 176 140 (l0 :: l1 :: l2 :: l3 :: l4 :: some (.int x) :: L) (st) h = ev 176 142 (l0 :: l1 :: l2 :: l3 :: l4 :: some (.int x) :: L) (.int x :: st) h := G_iload f176_140 rfl
theorem f176_142 : fetch 176 142 = some (.iload 10, 2) := vtab tk176 75 rfl
theorem e176_142 (l0 l1 l2 l3 l4 l5 l6 l7 l8 l9 : Option Value) (L : VL) (st : List Value) (h : VG) (x : Int32) : ev 176 142 (l0 :: l1 :: l2 :: l3 :: l4 :: l5 :: l6 :: l7 :: l8 :: l9 :: some (.int x) :: L) (st) h = ev 176 144 (l0 :: l1 :: l2 :: l3 :: l4 :: l5 :: l6 :: l7 :: l8 :: l9 :: some (.int x) :: L) (.int x :: st) h := G_iload f176_142 rfl
theorem f176_144 : fetch 176 144 = some (.bipush 8, 2) := vtab tk176 76 rfl
theorem e176_144 (L : VL) (st : List Value) (h : VG) : ev 176 144 L (st) h = ev 176 146 L (.int (8 : Int32) :: st) h := G_bipush f176_144 (by decide)
theorem f176_146 : fetch 176 146 = some (.if_icmp .ne 8, 3) := vtab tk176 77 rfl
theorem e176_146 (L : VL) (st : List Value) (h : VG) (x y : Int32) : ev 176 146 L (.int y :: .int x :: st) h = if x = y then ev 176 149 L st h else ev 176 154 L st h := G_icmp_ne f176_146 (by decide)
theorem f176_149 : fetch 176 149 = some (.bipush 8, 2) := vtab tk176 78 rfl
theorem e176_149 (L : VL) (st : List Value) (h : VG) : ev 176 149 L (st) h = ev 176 151 L (.int (8 : Int32) :: st) h := G_bipush f176_149 (by decide)
theorem f176_151 : fetch 176 151 = some (.goto 4, 3) := vtab tk176 79 rfl
theorem e176_151 (L : VL) (st : List Value) (h : VG) : ev 176 151 L (st) h = ev 176 155 L (st) h := G_goto f176_151 (by decide)
theorem f176_154 : fetch 176 154 = some (.iconst 4, 1) := vtab tk176 80 rfl
theorem e176_154 (L : VL) (st : List Value) (h : VG) : ev 176 154 L (st) h = ev 176 155 L (.int (4 : Int32) :: st) h := G_iconst f176_154 (by decide)
theorem f176_155 : fetch 176 155 = some (.invokestatic 284, 3) := vtab tk176 81 rfl
theorem e176_155 (L : VL) (st : List Value) (h : VG) (x0 : Int32) (x1 : Int32) (hs : catS st ≤ 8) : ev 176 155 L (.int x1 :: .int x0 :: st) h = (ev 168 0 [some (.int x0), some (.int x1)] [] h).bind fun q => ev 176 158 L (q.1.toList ++ st) q.2 := G_calls (k := 0) (p := 1332) (ars := [.int x0, .int x1]) f176_155 lkC_12_284 (by decide) (by decide +kernel) rfl (Nat.le_of_ble_eq_true rfl) hs rfl
theorem f176_158 : fetch 176 158 = some (.istore 8, 2) := vtab tk176 82 rfl
theorem e176_158 (l0 l1 l2 l3 l4 l5 l6 l7 l8 : Option Value) (L : VL) (st : List Value) (h : VG) (x : Int32) : ev 176 158 (l0 :: l1 :: l2 :: l3 :: l4 :: l5 :: l6 :: l7 :: l8 :: L) (.int x :: st) h = ev 176 160 (l0 :: l1 :: l2 :: l3 :: l4 :: l5 :: l6 :: vkk l7 :: some (.int x) :: L) (st) h := G_istore f176_158 rfl (S1_8 l0 l1 l2 l3 l4 l5 l6 l7 l8 L _)
theorem f176_160 : fetch 176 160 = some (.iload 8, 2) := vtab tk176 83 rfl
theorem e176_160 (l0 l1 l2 l3 l4 l5 l6 l7 : Option Value) (L : VL) (st : List Value) (h : VG) (x : Int32) : ev 176 160 (l0 :: l1 :: l2 :: l3 :: l4 :: l5 :: l6 :: l7 :: some (.int x) :: L) (st) h = ev 176 162 (l0 :: l1 :: l2 :: l3 :: l4 :: l5 :: l6 :: l7 :: some (.int x) :: L) (.int x :: st) h := G_iload f176_160 rfl
theorem f176_162 : fetch 176 162 = some (.iload 10, 2) := vtab tk176 84 rfl
theorem e176_162 (l0 l1 l2 l3 l4 l5 l6 l7 l8 l9 : Option Value) (L : VL) (st : List Value) (h : VG) (x : Int32) : ev 176 162 (l0 :: l1 :: l2 :: l3 :: l4 :: l5 :: l6 :: l7 :: l8 :: l9 :: some (.int x) :: L) (st) h = ev 176 164 (l0 :: l1 :: l2 :: l3 :: l4 :: l5 :: l6 :: l7 :: l8 :: l9 :: some (.int x) :: L) (.int x :: st) h := G_iload f176_162 rfl
theorem f176_164 : fetch 176 164 = some (.bipush 8, 2) := vtab tk176 85 rfl
theorem e176_164 (L : VL) (st : List Value) (h : VG) : ev 176 164 L (st) h = ev 176 166 L (.int (8 : Int32) :: st) h := G_bipush f176_164 (by decide)
theorem f176_166 : fetch 176 166 = some (.if_icmp .ne 8, 3) := vtab tk176 86 rfl
theorem e176_166 (L : VL) (st : List Value) (h : VG) (x y : Int32) : ev 176 166 L (.int y :: .int x :: st) h = if x = y then ev 176 169 L st h else ev 176 174 L st h := G_icmp_ne f176_166 (by decide)
theorem f176_169 : fetch 176 169 = some (.bipush 8, 2) := vtab tk176 87 rfl
theorem e176_169 (L : VL) (st : List Value) (h : VG) : ev 176 169 L (st) h = ev 176 171 L (.int (8 : Int32) :: st) h := G_bipush f176_169 (by decide)
theorem f176_171 : fetch 176 171 = some (.goto 4, 3) := vtab tk176 88 rfl
theorem e176_171 (L : VL) (st : List Value) (h : VG) : ev 176 171 L (st) h = ev 176 175 L (st) h := G_goto f176_171 (by decide)
theorem f176_174 : fetch 176 174 = some (.iconst 4, 1) := vtab tk176 89 rfl
theorem e176_174 (L : VL) (st : List Value) (h : VG) : ev 176 174 L (st) h = ev 176 175 L (.int (4 : Int32) :: st) h := G_iconst f176_174 (by decide)
theorem f176_175 : fetch 176 175 = some (.iadd, 1) := vtab tk176 90 rfl
theorem e176_175 (L : VL) (st : List Value) (h : VG) (x y : Int32) : ev 176 175 L (.int y :: .int x :: st) h = ev 176 176 L (.int (x + y) :: st) h := G_iadd f176_175
theorem f176_176 : fetch 176 176 = some (.istore 5, 2) := vtab tk176 91 rfl
theorem e176_176 (l0 l1 l2 l3 l4 l5 : Option Value) (L : VL) (st : List Value) (h : VG) (x : Int32) : ev 176 176 (l0 :: l1 :: l2 :: l3 :: l4 :: l5 :: L) (.int x :: st) h = ev 176 178 (l0 :: l1 :: l2 :: l3 :: vkk l4 :: some (.int x) :: L) (st) h := G_istore f176_176 rfl (S1_5 l0 l1 l2 l3 l4 l5 L _)
theorem f176_178 : fetch 176 178 = some (.goto 7, 3) := vtab tk176 92 rfl
theorem e176_178 (L : VL) (st : List Value) (h : VG) : ev 176 178 L (st) h = ev 176 185 L (st) h := G_goto f176_178 (by decide)
theorem f176_181 : fetch 176 181 = some (.iload 12, 2) := vtab tk176 93 rfl
theorem e176_181 (l0 l1 l2 l3 l4 l5 l6 l7 l8 l9 l10 l11 : Option Value) (L : VL) (st : List Value) (h : VG) (x : Int32) : ev 176 181 (l0 :: l1 :: l2 :: l3 :: l4 :: l5 :: l6 :: l7 :: l8 :: l9 :: l10 :: l11 :: some (.int x) :: L) (st) h = ev 176 183 (l0 :: l1 :: l2 :: l3 :: l4 :: l5 :: l6 :: l7 :: l8 :: l9 :: l10 :: l11 :: some (.int x) :: L) (.int x :: st) h := G_iload f176_181 rfl
theorem f176_183 : fetch 176 183 = some (.istore 4, 2) := vtab tk176 94 rfl
theorem e176_183 (l0 l1 l2 l3 l4 : Option Value) (L : VL) (st : List Value) (h : VG) (x : Int32) : ev 176 183 (l0 :: l1 :: l2 :: l3 :: l4 :: L) (.int x :: st) h = ev 176 185 (l0 :: l1 :: l2 :: vkk l3 :: some (.int x) :: L) (st) h := G_istore f176_183 rfl (S1_4 l0 l1 l2 l3 l4 L _)
theorem f176_185 : fetch 176 185 = some (.iinc 9 1, 3) := vtab tk176 95 rfl
theorem e176_185 (l0 l1 l2 l3 l4 l5 l6 l7 l8 : Option Value) (L : VL) (st : List Value) (h : VG) (x : Int32) : ev 176 185 (l0 :: l1 :: l2 :: l3 :: l4 :: l5 :: l6 :: l7 :: l8 :: some (.int x) :: L) (st) h = ev 176 188 (l0 :: l1 :: l2 :: l3 :: l4 :: l5 :: l6 :: l7 :: vkk l8 :: some (.int (x + (1 : Int32))) :: L) (st) h := G_iinc f176_185 rfl (by decide) (S1_9 l0 l1 l2 l3 l4 l5 l6 l7 l8 (some (.int x)) L _)
theorem f176_188 : fetch 176 188 = some (.goto (-134), 3) := vtab tk176 96 rfl
theorem e176_188 (L : VL) (st : List Value) (h : VG) : ev 176 188 L (st) h = ev 176 54 L (st) h := G_goto f176_188 (by decide)
theorem f176_191 : fetch 176 191 = some (.iload_n 3, 1) := vtab tk176 97 rfl
theorem e176_191 (l0 l1 l2 : Option Value) (L : VL) (st : List Value) (h : VG) (x : Int32) : ev 176 191 (l0 :: l1 :: l2 :: some (.int x) :: L) (st) h = ev 176 192 (l0 :: l1 :: l2 :: some (.int x) :: L) (.int x :: st) h := G_iload_n f176_191 rfl
theorem f176_192 : fetch 176 192 = some (.ifCond .ne 8, 3) := vtab tk176 98 rfl
theorem e176_192 (L : VL) (st : List Value) (h : VG) (x : Int32) : ev 176 192 L (.int x :: st) h = if x = 0 then ev 176 195 L st h else ev 176 200 L st h := G_if_ne f176_192 (by decide)
theorem f176_195 : fetch 176 195 = some (.iload 7, 2) := vtab tk176 99 rfl
theorem e176_195 (l0 l1 l2 l3 l4 l5 l6 : Option Value) (L : VL) (st : List Value) (h : VG) (x : Int32) : ev 176 195 (l0 :: l1 :: l2 :: l3 :: l4 :: l5 :: l6 :: some (.int x) :: L) (st) h = ev 176 197 (l0 :: l1 :: l2 :: l3 :: l4 :: l5 :: l6 :: some (.int x) :: L) (.int x :: st) h := G_iload f176_195 rfl
theorem f176_197 : fetch 176 197 = some (.goto 25, 3) := vtab tk176 100 rfl
theorem e176_197 (L : VL) (st : List Value) (h : VG) : ev 176 197 L (st) h = ev 176 222 L (st) h := G_goto f176_197 (by decide)
theorem f176_200 : fetch 176 200 = some (.iload_n 3, 1) := vtab tk176 101 rfl
theorem e176_200 (l0 l1 l2 : Option Value) (L : VL) (st : List Value) (h : VG) (x : Int32) : ev 176 200 (l0 :: l1 :: l2 :: some (.int x) :: L) (st) h = ev 176 201 (l0 :: l1 :: l2 :: some (.int x) :: L) (.int x :: st) h := G_iload_n f176_200 rfl
theorem f176_201 : fetch 176 201 = some (.iconst 1, 1) := vtab tk176 102 rfl
theorem e176_201 (L : VL) (st : List Value) (h : VG) : ev 176 201 L (st) h = ev 176 202 L (.int (1 : Int32) :: st) h := G_iconst f176_201 (by decide)
theorem f176_202 : fetch 176 202 = some (.if_icmp .ne 18, 3) := vtab tk176 103 rfl
theorem e176_202 (L : VL) (st : List Value) (h : VG) (x y : Int32) : ev 176 202 L (.int y :: .int x :: st) h = if x = y then ev 176 205 L st h else ev 176 220 L st h := G_icmp_ne f176_202 (by decide)
theorem f176_205 : fetch 176 205 = some (.iload 6, 2) := vtab tk176 104 rfl
theorem e176_205 (l0 l1 l2 l3 l4 l5 : Option Value) (L : VL) (st : List Value) (h : VG) (x : Int32) : ev 176 205 (l0 :: l1 :: l2 :: l3 :: l4 :: l5 :: some (.int x) :: L) (st) h = ev 176 207 (l0 :: l1 :: l2 :: l3 :: l4 :: l5 :: some (.int x) :: L) (.int x :: st) h := G_iload f176_205 rfl
theorem f176_207 : fetch 176 207 = some (.ifCond .eq 8, 3) := vtab tk176 105 rfl
theorem e176_207 (L : VL) (st : List Value) (h : VG) (x : Int32) : ev 176 207 L (.int x :: st) h = if x = 0 then ev 176 215 L st h else ev 176 210 L st h := G_if_eq f176_207 (by decide)
theorem f176_210 : fetch 176 210 = some (.iload 8, 2) := vtab tk176 106 rfl
theorem e176_210 (l0 l1 l2 l3 l4 l5 l6 l7 : Option Value) (L : VL) (st : List Value) (h : VG) (x : Int32) : ev 176 210 (l0 :: l1 :: l2 :: l3 :: l4 :: l5 :: l6 :: l7 :: some (.int x) :: L) (st) h = ev 176 212 (l0 :: l1 :: l2 :: l3 :: l4 :: l5 :: l6 :: l7 :: some (.int x) :: L) (.int x :: st) h := G_iload f176_210 rfl
theorem f176_212 : fetch 176 212 = some (.goto 10, 3) := vtab tk176 107 rfl
theorem e176_212 (L : VL) (st : List Value) (h : VG) : ev 176 212 L (st) h = ev 176 222 L (st) h := G_goto f176_212 (by decide)
theorem f176_215 : fetch 176 215 = some (.bipush (-2), 2) := vtab tk176 108 rfl
theorem e176_215 (L : VL) (st : List Value) (h : VG) : ev 176 215 L (st) h = ev 176 217 L (.int (-2 : Int32) :: st) h := G_bipush f176_215 (by decide)
theorem f176_217 : fetch 176 217 = some (.goto 5, 3) := vtab tk176 109 rfl
theorem e176_217 (L : VL) (st : List Value) (h : VG) : ev 176 217 L (st) h = ev 176 222 L (st) h := G_goto f176_217 (by decide)
theorem f176_220 : fetch 176 220 = some (.iload 4, 2) := vtab tk176 110 rfl
theorem e176_220 (l0 l1 l2 l3 : Option Value) (L : VL) (st : List Value) (h : VG) (x : Int32) : ev 176 220 (l0 :: l1 :: l2 :: l3 :: some (.int x) :: L) (st) h = ev 176 222 (l0 :: l1 :: l2 :: l3 :: some (.int x) :: L) (.int x :: st) h := G_iload f176_220 rfl
theorem f176_222 : fetch 176 222 = some (.ireturn, 1) := vtab tk176 111 rfl
theorem e176_222 (L : VL) (h : VG) (x : Int32) : ev 176 222 L [.int x] h = some (some (.int x), h) := G_iret f176_222 (ty := .int) (by decide) rfl
/-! 177 GuestCallsModel.widens(II)Z -/
def tb177 : List (Nat × Instr × Nat) := [(0, .iload_n 0, 1), (1, .iload_n 1, 1), (2, .if_icmp .eq 27, 3), (5, .iload_n 0, 1), (6, .ifCond .le 27, 3), (9, .iload_n 1, 1), (10, .iload_n 0, 1), (11, .if_icmp .le 22, 3), (14, .iload_n 1, 1), (15, .iconst 2, 1), (16, .if_icmp .eq 17, 3), (19, .iload_n 0, 1), (20, .iconst 2, 1), (21, .if_icmp .ne 8, 3), (24, .iload_n 1, 1), (25, .iconst 3, 1), (26, .if_icmp .eq 7, 3), (29, .iconst 1, 1), (30, .goto 4, 3), (33, .iconst 0, 1), (34, .ireturn, 1)]
theorem tk177 : tb177.all (fun q => decide (fetch 177 q.1 = some q.2)) = true := by decide +kernel
theorem f177_0 : fetch 177 0 = some (.iload_n 0, 1) := vtab tk177 0 rfl
theorem e177_0 (L : VL) (st : List Value) (h : VG) (x : Int32) : ev 177 0 (some (.int x) :: L) (st) h = ev 177 1 (some (.int x) :: L) (.int x :: st) h := G_iload_n f177_0 rfl
theorem f177_1 : fetch 177 1 = some (.iload_n 1, 1) := vtab tk177 1 rfl
theorem e177_1 (l0 : Option Value) (L : VL) (st : List Value) (h : VG) (x : Int32) : ev 177 1 (l0 :: some (.int x) :: L) (st) h = ev 177 2 (l0 :: some (.int x) :: L) (.int x :: st) h := G_iload_n f177_1 rfl
theorem f177_2 : fetch 177 2 = some (.if_icmp .eq 27, 3) := vtab tk177 2 rfl
theorem e177_2 (L : VL) (st : List Value) (h : VG) (x y : Int32) : ev 177 2 L (.int y :: .int x :: st) h = if x = y then ev 177 29 L st h else ev 177 5 L st h := G_icmp_eq f177_2 (by decide)
theorem f177_5 : fetch 177 5 = some (.iload_n 0, 1) := vtab tk177 3 rfl
theorem e177_5 (L : VL) (st : List Value) (h : VG) (x : Int32) : ev 177 5 (some (.int x) :: L) (st) h = ev 177 6 (some (.int x) :: L) (.int x :: st) h := G_iload_n f177_5 rfl
theorem f177_6 : fetch 177 6 = some (.ifCond .le 27, 3) := vtab tk177 4 rfl
theorem e177_6 (L : VL) (st : List Value) (h : VG) (x : Int32) : ev 177 6 L (.int x :: st) h = if x ≤ 0 then ev 177 33 L st h else ev 177 9 L st h := G_if_le f177_6 (by decide)
theorem f177_9 : fetch 177 9 = some (.iload_n 1, 1) := vtab tk177 5 rfl
theorem e177_9 (l0 : Option Value) (L : VL) (st : List Value) (h : VG) (x : Int32) : ev 177 9 (l0 :: some (.int x) :: L) (st) h = ev 177 10 (l0 :: some (.int x) :: L) (.int x :: st) h := G_iload_n f177_9 rfl
theorem f177_10 : fetch 177 10 = some (.iload_n 0, 1) := vtab tk177 6 rfl
theorem e177_10 (L : VL) (st : List Value) (h : VG) (x : Int32) : ev 177 10 (some (.int x) :: L) (st) h = ev 177 11 (some (.int x) :: L) (.int x :: st) h := G_iload_n f177_10 rfl
theorem f177_11 : fetch 177 11 = some (.if_icmp .le 22, 3) := vtab tk177 7 rfl
theorem e177_11 (L : VL) (st : List Value) (h : VG) (x y : Int32) : ev 177 11 L (.int y :: .int x :: st) h = if x ≤ y then ev 177 33 L st h else ev 177 14 L st h := G_icmp_le f177_11 (by decide)
theorem f177_14 : fetch 177 14 = some (.iload_n 1, 1) := vtab tk177 8 rfl
theorem e177_14 (l0 : Option Value) (L : VL) (st : List Value) (h : VG) (x : Int32) : ev 177 14 (l0 :: some (.int x) :: L) (st) h = ev 177 15 (l0 :: some (.int x) :: L) (.int x :: st) h := G_iload_n f177_14 rfl
theorem f177_15 : fetch 177 15 = some (.iconst 2, 1) := vtab tk177 9 rfl
theorem e177_15 (L : VL) (st : List Value) (h : VG) : ev 177 15 L (st) h = ev 177 16 L (.int (2 : Int32) :: st) h := G_iconst f177_15 (by decide)
theorem f177_16 : fetch 177 16 = some (.if_icmp .eq 17, 3) := vtab tk177 10 rfl
theorem e177_16 (L : VL) (st : List Value) (h : VG) (x y : Int32) : ev 177 16 L (.int y :: .int x :: st) h = if x = y then ev 177 33 L st h else ev 177 19 L st h := G_icmp_eq f177_16 (by decide)
theorem f177_19 : fetch 177 19 = some (.iload_n 0, 1) := vtab tk177 11 rfl
theorem e177_19 (L : VL) (st : List Value) (h : VG) (x : Int32) : ev 177 19 (some (.int x) :: L) (st) h = ev 177 20 (some (.int x) :: L) (.int x :: st) h := G_iload_n f177_19 rfl
theorem f177_20 : fetch 177 20 = some (.iconst 2, 1) := vtab tk177 12 rfl
theorem e177_20 (L : VL) (st : List Value) (h : VG) : ev 177 20 L (st) h = ev 177 21 L (.int (2 : Int32) :: st) h := G_iconst f177_20 (by decide)
theorem f177_21 : fetch 177 21 = some (.if_icmp .ne 8, 3) := vtab tk177 13 rfl
theorem e177_21 (L : VL) (st : List Value) (h : VG) (x y : Int32) : ev 177 21 L (.int y :: .int x :: st) h = if x = y then ev 177 24 L st h else ev 177 29 L st h := G_icmp_ne f177_21 (by decide)
theorem f177_24 : fetch 177 24 = some (.iload_n 1, 1) := vtab tk177 14 rfl
theorem e177_24 (l0 : Option Value) (L : VL) (st : List Value) (h : VG) (x : Int32) : ev 177 24 (l0 :: some (.int x) :: L) (st) h = ev 177 25 (l0 :: some (.int x) :: L) (.int x :: st) h := G_iload_n f177_24 rfl
theorem f177_25 : fetch 177 25 = some (.iconst 3, 1) := vtab tk177 15 rfl
theorem e177_25 (L : VL) (st : List Value) (h : VG) : ev 177 25 L (st) h = ev 177 26 L (.int (3 : Int32) :: st) h := G_iconst f177_25 (by decide)
theorem f177_26 : fetch 177 26 = some (.if_icmp .eq 7, 3) := vtab tk177 16 rfl
theorem e177_26 (L : VL) (st : List Value) (h : VG) (x y : Int32) : ev 177 26 L (.int y :: .int x :: st) h = if x = y then ev 177 33 L st h else ev 177 29 L st h := G_icmp_eq f177_26 (by decide)
theorem f177_29 : fetch 177 29 = some (.iconst 1, 1) := vtab tk177 17 rfl
theorem e177_29 (L : VL) (st : List Value) (h : VG) : ev 177 29 L (st) h = ev 177 30 L (.int (1 : Int32) :: st) h := G_iconst f177_29 (by decide)
theorem f177_30 : fetch 177 30 = some (.goto 4, 3) := vtab tk177 18 rfl
theorem e177_30 (L : VL) (st : List Value) (h : VG) : ev 177 30 L (st) h = ev 177 34 L (st) h := G_goto f177_30 (by decide)
theorem f177_33 : fetch 177 33 = some (.iconst 0, 1) := vtab tk177 19 rfl
theorem e177_33 (L : VL) (st : List Value) (h : VG) : ev 177 33 L (st) h = ev 177 34 L (.int (0 : Int32) :: st) h := G_iconst f177_33 (by decide)
theorem f177_34 : fetch 177 34 = some (.ireturn, 1) := vtab tk177 20 rfl
theorem e177_34 (L : VL) (h : VG) (x : Int32) (hz : x = 0 ∨ x = 1) : ev 177 34 L [.int x] h = some (some (.int x), h) := G_iret f177_34 (ty := .boolean) (by decide) (vbool hz).1
