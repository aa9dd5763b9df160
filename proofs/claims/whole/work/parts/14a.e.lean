/-! 0 GuestCalls$Arguments.<init>()V -/
def tb0 : List (Nat × Instr × Nat) := [(0, .aload_n 0, 1), (1, .invokespecial 3, 3), (4, .aload_n 0, 1), (5, .bipush 32, 2), (7, .newarray .int, 2), (9, .putfield 9, 3), (12, .aload_n 0, 1), (13, .bipush 32, 2), (15, .newarray .int, 2), (17, .putfield 15, 3), (20, .aload_n 0, 1), (21, .bipush 32, 2), (23, .newarray .int, 2), (25, .putfield 18, 3), (28, .return_, 1)]
theorem tk0 : tb0.all (fun q => decide (fetch 0 q.1 = some q.2)) = true := by decide +kernel
theorem f0_0 : fetch 0 0 = some (.aload_n 0, 1) := vtab tk0 0 rfl
theorem e0_0 (L : VL) (st : List Value) (h : VG) (x : Nat) : ev 0 0 (some (.ref x) :: L) (st) h = ev 0 1 (some (.ref x) :: L) (.ref x :: st) h := G_aload_n f0_0 rfl
theorem f0_1 : fetch 0 1 = some (.invokespecial 3, 3) := vtab tk0 1 rfl
theorem e0_1 (L : VL) (st : List Value) (h : VG) (a : Nat) (hs : catS st ≤ 8) : ev 0 1 L (.ref a :: st) h = ev 0 4 L (st) h := G_objinit (y := 0) (p := 277) f0_1 lkC_0_3 hs
theorem f0_4 : fetch 0 4 = some (.aload_n 0, 1) := vtab tk0 2 rfl
theorem e0_4 (L : VL) (st : List Value) (h : VG) (x : Nat) : ev 0 4 (some (.ref x) :: L) (st) h = ev 0 5 (some (.ref x) :: L) (.ref x :: st) h := G_aload_n f0_4 rfl
theorem f0_5 : fetch 0 5 = some (.bipush 32, 2) := vtab tk0 3 rfl
theorem e0_5 (L : VL) (st : List Value) (h : VG) : ev 0 5 L (st) h = ev 0 7 L (.int (32 : Int32) :: st) h := G_bipush f0_5 (by decide)
theorem f0_7 : fetch 0 7 = some (.newarray .int, 2) := vtab tk0 4 rfl
theorem e0_7 (L : VL) (st : List Value) (h : VG) (n : Int32) (hn : ¬ n < 0 ∧ n.toNatClampNeg ≤ 4096) : ev 0 7 L (.int n :: st) h = ev 0 9 L (.ref h.2.1 :: st) (hnew h (.inl (0, n.toNatClampNeg, .inl (fun _ => 0))) n.toNatClampNeg) := G_newa f0_7 rfl hn
theorem f0_9 : fetch 0 9 = some (.putfield 9, 3) := vtab tk0 5 rfl
theorem e0_9 (L : VL) (st : List Value) (h : VG) (a : Nat) (x : Nat) (ho : ob h a 0) : ev 0 9 L (.ref x :: .ref a :: st) h = ev 0 12 L (st) (pR h a 0 x) := G_putR (p := 278) f0_9 lkF_0_9 (by decide) (by decide) (by decide +kernel) ⟨rfl, rfl⟩ ho
theorem f0_12 : fetch 0 12 = some (.aload_n 0, 1) := vtab tk0 6 rfl
theorem e0_12 (L : VL) (st : List Value) (h : VG) (x : Nat) : ev 0 12 (some (.ref x) :: L) (st) h = ev 0 13 (some (.ref x) :: L) (.ref x :: st) h := G_aload_n f0_12 rfl
theorem f0_13 : fetch 0 13 = some (.bipush 32, 2) := vtab tk0 7 rfl
theorem e0_13 (L : VL) (st : List Value) (h : VG) : ev 0 13 L (st) h = ev 0 15 L (.int (32 : Int32) :: st) h := G_bipush f0_13 (by decide)
theorem f0_15 : fetch 0 15 = some (.newarray .int, 2) := vtab tk0 8 rfl
theorem e0_15 (L : VL) (st : List Value) (h : VG) (n : Int32) (hn : ¬ n < 0 ∧ n.toNatClampNeg ≤ 4096) : ev 0 15 L (.int n :: st) h = ev 0 17 L (.ref h.2.1 :: st) (hnew h (.inl (0, n.toNatClampNeg, .inl (fun _ => 0))) n.toNatClampNeg) := G_newa f0_15 rfl hn
theorem f0_17 : fetch 0 17 = some (.putfield 15, 3) := vtab tk0 9 rfl
theorem e0_17 (L : VL) (st : List Value) (h : VG) (a : Nat) (x : Nat) (ho : ob h a 0) : ev 0 17 L (.ref x :: .ref a :: st) h = ev 0 20 L (st) (pR h a 1 x) := G_putR (p := 280) f0_17 lkF_0_15 (by decide) (by decide) (by decide +kernel) ⟨rfl, rfl⟩ ho
theorem f0_20 : fetch 0 20 = some (.aload_n 0, 1) := vtab tk0 10 rfl
theorem e0_20 (L : VL) (st : List Value) (h : VG) (x : Nat) : ev 0 20 (some (.ref x) :: L) (st) h = ev 0 21 (some (.ref x) :: L) (.ref x :: st) h := G_aload_n f0_20 rfl
theorem f0_21 : fetch 0 21 = some (.bipush 32, 2) := vtab tk0 11 rfl
theorem e0_21 (L : VL) (st : List Value) (h : VG) : ev 0 21 L (st) h = ev 0 23 L (.int (32 : Int32) :: st) h := G_bipush f0_21 (by decide)
theorem f0_23 : fetch 0 23 = some (.newarray .int, 2) := vtab tk0 12 rfl
theorem e0_23 (L : VL) (st : List Value) (h : VG) (n : Int32) (hn : ¬ n < 0 ∧ n.toNatClampNeg ≤ 4096) : ev 0 23 L (.int n :: st) h = ev 0 25 L (.ref h.2.1 :: st) (hnew h (.inl (0, n.toNatClampNeg, .inl (fun _ => 0))) n.toNatClampNeg) := G_newa f0_23 rfl hn
theorem f0_25 : fetch 0 25 = some (.putfield 18, 3) := vtab tk0 13 rfl
theorem e0_25 (L : VL) (st : List Value) (h : VG) (a : Nat) (x : Nat) (ho : ob h a 0) : ev 0 25 L (.ref x :: .ref a :: st) h = ev 0 28 L (st) (pR h a 2 x) := G_putR (p := 282) f0_25 lkF_0_18 (by decide) (by decide) (by decide +kernel) ⟨rfl, rfl⟩ ho
theorem f0_28 : fetch 0 28 = some (.return_, 1) := vtab tk0 14 rfl
theorem e0_28 (L : VL) (h : VG) : ev 0 28 L [] h = some (none, h) := G_vret f0_28 (by decide)
/-! 1 GuestCalls$Arguments.pass([II)V -/
def tb1 : List (Nat × Instr × Nat) := [(0, .iconst 0, 1), (1, .istore_n 3, 1), (2, .iconst 0, 1), (3, .istore 4, 2), (5, .iconst 0, 1), (6, .istore 5, 2), (8, .iconst 0, 1), (9, .istore 6, 2), (11, .iload 6, 2), (13, .iload_n 2, 1), (14, .if_icmp .ge 138, 3), (17, .aload_n 1, 1), (18, .iload 6, 2), (20, .iaload, 1), (21, .iconst 0, 1), (22, .invokestatic 21, 3), (25, .bipush 8, 2), (27, .if_icmp .ne 7, 3), (30, .iconst 2, 1), (31, .goto 4, 3), (34, .iconst 1, 1), (35, .istore 7, 2), (37, .iload_n 3, 1), (38, .iload 7, 2), (40, .invokestatic 27, 3), (43, .istore 8, 2), (45, .iload 5, 2), (47, .ifCond .ne 13, 3), (50, .iload 8, 2), (52, .iload 7, 2), (54, .iadd, 1), (55, .bipush 6, 2), (57, .if_icmp .le 7, 3), (60, .iconst 1, 1), (61, .goto 4, 3), (64, .iconst 0, 1), (65, .istore 5, 2), (67, .iload 5, 2), (69, .ifCond .eq 45, 3), (72, .aload_n 0, 1), (73, .getfield 9, 3), (76, .iload 6, 2), (78, .bipush (-2), 2), (80, .iastore, 1), (81, .aload_n 0, 1), (82, .getfield 15, 3), (85, .iload 6, 2), (87, .iload 4, 2), (89, .iconst 4, 1), (90, .iload 7, 2), (92, .imul, 1), (93, .invokestatic 27, 3), (96, .iastore, 1), (97, .aload_n 0, 1), (98, .getfield 15, 3), (101, .iload 6, 2), (103, .iaload, 1), (104, .iconst 4, 1), (105, .iload 7, 2), (107, .imul, 1), (108, .iadd, 1), (109, .istore 4, 2), (111, .goto 27, 3), (114, .aload_n 0, 1), (115, .getfield 9, 3), (118, .iload 6, 2), (120, .iload 8, 2), (122, .iastore, 1), (123, .aload_n 0, 1), (124, .getfield 15, 3), (127, .iload 6, 2), (129, .bipush (-2), 2), (131, .iastore, 1), (132, .iload 8, 2), (134, .iload 7, 2), (136, .iadd, 1), (137, .istore_n 3, 1), (138, .aload_n 0, 1), (139, .getfield 18, 3), (142, .iload 6, 2), (144, .iload_n 3, 1), (145, .iastore, 1), (146, .iinc 6 1, 3), (149, .goto (-138), 3), (152, .return_, 1)]
theorem tk1 : tb1.all (fun q => decide (fetch 1 q.1 = some q.2)) = true := by decide +kernel
theorem f1_0 : fetch 1 0 = some (.iconst 0, 1) := vtab tk1 0 rfl
theorem e1_0 (L : VL) (st : List Value) (h : VG) : ev 1 0 L (st) h = ev 1 1 L (.int (0 : Int32) :: st) h := G_iconst f1_0 (by decide)
theorem f1_1 : fetch 1 1 = some (.istore_n 3, 1) := vtab tk1 1 rfl
theorem e1_1 (l0 l1 l2 l3 : Option Value) (L : VL) (st : List Value) (h : VG) (x : Int32) : ev 1 1 (l0 :: l1 :: l2 :: l3 :: L) (.int x :: st) h = ev 1 2 (l0 :: l1 :: vkk l2 :: some (.int x) :: L) (st) h := G_istore_n f1_1 rfl (S1_3 l0 l1 l2 l3 L _)
theorem f1_2 : fetch 1 2 = some (.iconst 0, 1) := vtab tk1 2 rfl
theorem e1_2 (L : VL) (st : List Value) (h : VG) : ev 1 2 L (st) h = ev 1 3 L (.int (0 : Int32) :: st) h := G_iconst f1_2 (by decide)
theorem f1_3 : fetch 1 3 = some (.istore 4, 2) := vtab tk1 3 rfl
theorem e1_3 (l0 l1 l2 l3 l4 : Option Value) (L : VL) (st : List Value) (h : VG) (x : Int32) : ev 1 3 (l0 :: l1 :: l2 :: l3 :: l4 :: L) (.int x :: st) h = ev 1 5 (l0 :: l1 :: l2 :: vkk l3 :: some (.int x) :: L) (st) h := G_istore f1_3 rfl (S1_4 l0 l1 l2 l3 l4 L _)
theorem f1_5 : fetch 1 5 = some (.iconst 0, 1) := vtab tk1 4 rfl
theorem e1_5 (L : VL) (st : List Value) (h : VG) : ev 1 5 L (st) h = ev 1 6 L (.int (0 : Int32) :: st) h := G_iconst f1_5 (by decide)
theorem f1_6 : fetch 1 6 = some (.istore 5, 2) := vtab tk1 5 rfl
theorem e1_6 (l0 l1 l2 l3 l4 l5 : Option Value) (L : VL) (st : List Value) (h : VG) (x : Int32) : ev 1 6 (l0 :: l1 :: l2 :: l3 :: l4 :: l5 :: L) (.int x :: st) h = ev 1 8 (l0 :: l1 :: l2 :: l3 :: vkk l4 :: some (.int x) :: L) (st) h := G_istore f1_6 rfl (S1_5 l0 l1 l2 l3 l4 l5 L _)
theorem f1_8 : fetch 1 8 = some (.iconst 0, 1) := vtab tk1 6 rfl
theorem e1_8 (L : VL) (st : List Value) (h : VG) : ev 1 8 L (st) h = ev 1 9 L (.int (0 : Int32) :: st) h := G_iconst f1_8 (by decide)
theorem f1_9 : fetch 1 9 = some (.istore 6, 2) := vtab tk1 7 rfl
theorem e1_9 (l0 l1 l2 l3 l4 l5 l6 : Option Value) (L : VL) (st : List Value) (h : VG) (x : Int32) : ev 1 9 (l0 :: l1 :: l2 :: l3 :: l4 :: l5 :: l6 :: L) (.int x :: st) h = ev 1 11 (l0 :: l1 :: l2 :: l3 :: l4 :: vkk l5 :: some (.int x) :: L) (st) h := G_istore f1_9 rfl (S1_6 l0 l1 l2 l3 l4 l5 l6 L _)
theorem f1_11 : fetch 1 11 = some (.iload 6, 2) := vtab tk1 8 rfl
theorem e1_11 (l0 l1 l2 l3 l4 l5 : Option Value) (L : VL) (st : List Value) (h : VG) (x : Int32) : ev 1 11 (l0 :: l1 :: l2 :: l3 :: l4 :: l5 :: some (.int x) :: L) (st) h = ev 1 13 (l0 :: l1 :: l2 :: l3 :: l4 :: l5 :: some (.int x) :: L) (.int x :: st) h := G_iload f1_11 rfl
theorem f1_13 : fetch 1 13 = some (.iload_n 2, 1) := vtab tk1 9 rfl
theorem e1_13 (l0 l1 : Option Value) (L : VL) (st : List Value) (h : VG) (x : Int32) : ev 1 13 (l0 :: l1 :: some (.int x) :: L) (st) h = ev 1 14 (l0 :: l1 :: some (.int x) :: L) (.int x :: st) h := G_iload_n f1_13 rfl
theorem f1_14 : fetch 1 14 = some (.if_icmp .ge 138, 3) := vtab tk1 10 rfl
theorem e1_14 (L : VL) (st : List Value) (h : VG) (x y : Int32) : ev 1 14 L (.int y :: .int x :: st) h = if x < y then ev 1 17 L st h else ev 1 152 L st h := G_icmp_ge f1_14 (by decide)
theorem f1_17 : fetch 1 17 = some (.aload_n 1, 1) := vtab tk1 11 rfl
theorem e1_17 (l0 : Option Value) (L : VL) (st : List Value) (h : VG) (x : Nat) : ev 1 17 (l0 :: some (.ref x) :: L) (st) h = ev 1 18 (l0 :: some (.ref x) :: L) (.ref x :: st) h := G_aload_n f1_17 rfl
theorem f1_18 : fetch 1 18 = some (.iload 6, 2) := vtab tk1 12 rfl
theorem e1_18 (l0 l1 l2 l3 l4 l5 : Option Value) (L : VL) (st : List Value) (h : VG) (x : Int32) : ev 1 18 (l0 :: l1 :: l2 :: l3 :: l4 :: l5 :: some (.int x) :: L) (st) h = ev 1 20 (l0 :: l1 :: l2 :: l3 :: l4 :: l5 :: some (.int x) :: L) (.int x :: st) h := G_iload f1_18 rfl
theorem f1_20 : fetch 1 20 = some (.iaload, 1) := vtab tk1 13 rfl
theorem e1_20 (L : VL) (st : List Value) (h : VG) (a : Nat) (i : Int32) (ha : rdI h a) (hi : vp_in i (aln h a)) : ev 1 20 L (.int i :: .ref a :: st) h = ev 1 21 L (.int (aI h a i.toNatClampNeg) :: st) h := G_iald' f1_20 ha hi
theorem f1_21 : fetch 1 21 = some (.iconst 0, 1) := vtab tk1 14 rfl
theorem e1_21 (L : VL) (st : List Value) (h : VG) : ev 1 21 L (st) h = ev 1 22 L (.int (0 : Int32) :: st) h := G_iconst f1_21 (by decide)
theorem f1_22 : fetch 1 22 = some (.invokestatic 21, 3) := vtab tk1 15 rfl
theorem e1_22 (L : VL) (st : List Value) (h : VG) (x0 : Int32) (x1 : Int32) (hs : catS st ≤ 8) : ev 1 22 L (.int x1 :: .int x0 :: st) h = (ev 30 0 [some (.int x0), some (.int x1)] [] h).bind fun q => ev 1 25 L (q.1.toList ++ st) q.2 := G_calls (k := 0) (p := 617) (ars := [.int x0, .int x1]) f1_22 lkC_0_21 (by decide) (by decide +kernel) rfl (Nat.le_of_ble_eq_true rfl) hs rfl
theorem f1_25 : fetch 1 25 = some (.bipush 8, 2) := vtab tk1 16 rfl
theorem e1_25 (L : VL) (st : List Value) (h : VG) : ev 1 25 L (st) h = ev 1 27 L (.int (8 : Int32) :: st) h := G_bipush f1_25 (by decide)
theorem f1_27 : fetch 1 27 = some (.if_icmp .ne 7, 3) := vtab tk1 17 rfl
theorem e1_27 (L : VL) (st : List Value) (h : VG) (x y : Int32) : ev 1 27 L (.int y :: .int x :: st) h = if x = y then ev 1 30 L st h else ev 1 34 L st h := G_icmp_ne f1_27 (by decide)
theorem f1_30 : fetch 1 30 = some (.iconst 2, 1) := vtab tk1 18 rfl
theorem e1_30 (L : VL) (st : List Value) (h : VG) : ev 1 30 L (st) h = ev 1 31 L (.int (2 : Int32) :: st) h := G_iconst f1_30 (by decide)
theorem f1_31 : fetch 1 31 = some (.goto 4, 3) := vtab tk1 19 rfl
theorem e1_31 (L : VL) (st : List Value) (h : VG) : ev 1 31 L (st) h = ev 1 35 L (st) h := G_goto f1_31 (by decide)
theorem f1_34 : fetch 1 34 = some (.iconst 1, 1) := vtab tk1 20 rfl
theorem e1_34 (L : VL) (st : List Value) (h : VG) : ev 1 34 L (st) h = ev 1 35 L (.int (1 : Int32) :: st) h := G_iconst f1_34 (by decide)
theorem f1_35 : fetch 1 35 = some (.istore 7, 2) := vtab tk1 21 rfl
theorem e1_35 (l0 l1 l2 l3 l4 l5 l6 l7 : Option Value) (L : VL) (st : List Value) (h : VG) (x : Int32) : ev 1 35 (l0 :: l1 :: l2 :: l3 :: l4 :: l5 :: l6 :: l7 :: L) (.int x :: st) h = ev 1 37 (l0 :: l1 :: l2 :: l3 :: l4 :: l5 :: vkk l6 :: some (.int x) :: L) (st) h := G_istore f1_35 rfl (S1_7 l0 l1 l2 l3 l4 l5 l6 l7 L _)
theorem f1_37 : fetch 1 37 = some (.iload_n 3, 1) := vtab tk1 22 rfl
theorem e1_37 (l0 l1 l2 : Option Value) (L : VL) (st : List Value) (h : VG) (x : Int32) : ev 1 37 (l0 :: l1 :: l2 :: some (.int x) :: L) (st) h = ev 1 38 (l0 :: l1 :: l2 :: some (.int x) :: L) (.int x :: st) h := G_iload_n f1_37 rfl
theorem f1_38 : fetch 1 38 = some (.iload 7, 2) := vtab tk1 23 rfl
theorem e1_38 (l0 l1 l2 l3 l4 l5 l6 : Option Value) (L : VL) (st : List Value) (h : VG) (x : Int32) : ev 1 38 (l0 :: l1 :: l2 :: l3 :: l4 :: l5 :: l6 :: some (.int x) :: L) (st) h = ev 1 40 (l0 :: l1 :: l2 :: l3 :: l4 :: l5 :: l6 :: some (.int x) :: L) (.int x :: st) h := G_iload f1_38 rfl
theorem f1_40 : fetch 1 40 = some (.invokestatic 27, 3) := vtab tk1 24 rfl
theorem e1_40 (L : VL) (st : List Value) (h : VG) (x0 : Int32) (x1 : Int32) (hs : catS st ≤ 8) : ev 1 40 L (.int x1 :: .int x0 :: st) h = (ev 32 0 [some (.int x0), some (.int x1)] [] h).bind fun q => ev 1 43 L (q.1.toList ++ st) q.2 := G_calls (k := 0) (p := 618) (ars := [.int x0, .int x1]) f1_40 lkC_0_27 (by decide) (by decide +kernel) rfl (Nat.le_of_ble_eq_true rfl) hs rfl
theorem f1_43 : fetch 1 43 = some (.istore 8, 2) := vtab tk1 25 rfl
theorem e1_43 (l0 l1 l2 l3 l4 l5 l6 l7 l8 : Option Value) (L : VL) (st : List Value) (h : VG) (x : Int32) : ev 1 43 (l0 :: l1 :: l2 :: l3 :: l4 :: l5 :: l6 :: l7 :: l8 :: L) (.int x :: st) h = ev 1 45 (l0 :: l1 :: l2 :: l3 :: l4 :: l5 :: l6 :: vkk l7 :: some (.int x) :: L) (st) h := G_istore f1_43 rfl (S1_8 l0 l1 l2 l3 l4 l5 l6 l7 l8 L _)
theorem f1_45 : fetch 1 45 = some (.iload 5, 2) := vtab tk1 26 rfl
theorem e1_45 (l0 l1 l2 l3 l4 : Option Value) (L : VL) (st : List Value) (h : VG) (x : Int32) : ev 1 45 (l0 :: l1 :: l2 :: l3 :: l4 :: some (.int x) :: L) (st) h = ev 1 47 (l0 :: l1 :: l2 :: l3 :: l4 :: some (.int x) :: L) (.int x :: st) h := G_iload f1_45 rfl
theorem f1_47 : fetch 1 47 = some (.ifCond .ne 13, 3) := vtab tk1 27 rfl
theorem e1_47 (L : VL) (st : List Value) (h : VG) (x : Int32) : ev 1 47 L (.int x :: st) h = if x = 0 then ev 1 50 L st h else ev 1 60 L st h := G_if_ne f1_47 (by decide)
theorem f1_50 : fetch 1 50 = some (.iload 8, 2) := vtab tk1 28 rfl
theorem e1_50 (l0 l1 l2 l3 l4 l5 l6 l7 : Option Value) (L : VL) (st : List Value) (h : VG) (x : Int32) : ev 1 50 (l0 :: l1 :: l2 :: l3 :: l4 :: l5 :: l6 :: l7 :: some (.int x) :: L) (st) h = ev 1 52 (l0 :: l1 :: l2 :: l3 :: l4 :: l5 :: l6 :: l7 :: some (.int x) :: L) (.int x :: st) h := G_iload f1_50 rfl
theorem f1_52 : fetch 1 52 = some (.iload 7, 2) := vtab tk1 29 rfl
theorem e1_52 (l0 l1 l2 l3 l4 l5 l6 : Option Value) (L : VL) (st : List Value) (h : VG) (x : Int32) : ev 1 52 (l0 :: l1 :: l2 :: l3 :: l4 :: l5 :: l6 :: some (.int x) :: L) (st) h = ev 1 54 (l0 :: l1 :: l2 :: l3 :: l4 :: l5 :: l6 :: some (.int x) :: L) (.int x :: st) h := G_iload f1_52 rfl
theorem f1_54 : fetch 1 54 = some (.iadd, 1) := vtab tk1 30 rfl
theorem e1_54 (L : VL) (st : List Value) (h : VG) (x y : Int32) : ev 1 54 L (.int y :: .int x :: st) h = ev 1 55 L (.int (x + y) :: st) h := G_iadd f1_54
theorem f1_55 : fetch 1 55 = some (.bipush 6, 2) := vtab tk1 31 rfl
theorem e1_55 (L : VL) (st : List Value) (h : VG) : ev 1 55 L (st) h = ev 1 57 L (.int (6 : Int32) :: st) h := G_bipush f1_55 (by decide)
theorem f1_57 : fetch 1 57 = some (.if_icmp .le 7, 3) := vtab tk1 32 rfl
theorem e1_57 (L : VL) (st : List Value) (h : VG) (x y : Int32) : ev 1 57 L (.int y :: .int x :: st) h = if x ≤ y then ev 1 64 L st h else ev 1 60 L st h := G_icmp_le f1_57 (by decide)
theorem f1_60 : fetch 1 60 = some (.iconst 1, 1) := vtab tk1 33 rfl
theorem e1_60 (L : VL) (st : List Value) (h : VG) : ev 1 60 L (st) h = ev 1 61 L (.int (1 : Int32) :: st) h := G_iconst f1_60 (by decide)
theorem f1_61 : fetch 1 61 = some (.goto 4, 3) := vtab tk1 34 rfl
theorem e1_61 (L : VL) (st : List Value) (h : VG) : ev 1 61 L (st) h = ev 1 65 L (st) h := G_goto f1_61 (by decide)
theorem f1_64 : fetch 1 64 = some (.iconst 0, 1) := vtab tk1 35 rfl
theorem e1_64 (L : VL) (st : List Value) (h : VG) : ev 1 64 L (st) h = ev 1 65 L (.int (0 : Int32) :: st) h := G_iconst f1_64 (by decide)
theorem f1_65 : fetch 1 65 = some (.istore 5, 2) := vtab tk1 36 rfl
theorem e1_65 (l0 l1 l2 l3 l4 l5 : Option Value) (L : VL) (st : List Value) (h : VG) (x : Int32) : ev 1 65 (l0 :: l1 :: l2 :: l3 :: l4 :: l5 :: L) (.int x :: st) h = ev 1 67 (l0 :: l1 :: l2 :: l3 :: vkk l4 :: some (.int x) :: L) (st) h := G_istore f1_65 rfl (S1_5 l0 l1 l2 l3 l4 l5 L _)
theorem f1_67 : fetch 1 67 = some (.iload 5, 2) := vtab tk1 37 rfl
theorem e1_67 (l0 l1 l2 l3 l4 : Option Value) (L : VL) (st : List Value) (h : VG) (x : Int32) : ev 1 67 (l0 :: l1 :: l2 :: l3 :: l4 :: some (.int x) :: L) (st) h = ev 1 69 (l0 :: l1 :: l2 :: l3 :: l4 :: some (.int x) :: L) (.int x :: st) h := G_iload f1_67 rfl
theorem f1_69 : fetch 1 69 = some (.ifCond .eq 45, 3) := vtab tk1 38 rfl
theorem e1_69 (L : VL) (st : List Value) (h : VG) (x : Int32) : ev 1 69 L (.int x :: st) h = if x = 0 then ev 1 114 L st h else ev 1 72 L st h := G_if_eq f1_69 (by decide)
theorem f1_72 : fetch 1 72 = some (.aload_n 0, 1) := vtab tk1 39 rfl
theorem e1_72 (L : VL) (st : List Value) (h : VG) (x : Nat) : ev 1 72 (some (.ref x) :: L) (st) h = ev 1 73 (some (.ref x) :: L) (.ref x :: st) h := G_aload_n f1_72 rfl
theorem f1_73 : fetch 1 73 = some (.getfield 9, 3) := vtab tk1 40 rfl
theorem e1_73 (L : VL) (st : List Value) (h : VG) (a : Nat) (ho : ob h a 0) (hr : isR h a 0) : ev 1 73 L (.ref a :: st) h = ev 1 76 L (.ref (gR h a 0) :: st) h := G_getR (p := 278) f1_73 lkF_0_9 (by decide) (by decide) ho hr
theorem f1_76 : fetch 1 76 = some (.iload 6, 2) := vtab tk1 41 rfl
theorem e1_76 (l0 l1 l2 l3 l4 l5 : Option Value) (L : VL) (st : List Value) (h : VG) (x : Int32) : ev 1 76 (l0 :: l1 :: l2 :: l3 :: l4 :: l5 :: some (.int x) :: L) (st) h = ev 1 78 (l0 :: l1 :: l2 :: l3 :: l4 :: l5 :: some (.int x) :: L) (.int x :: st) h := G_iload f1_76 rfl
theorem f1_78 : fetch 1 78 = some (.bipush (-2), 2) := vtab tk1 42 rfl
theorem e1_78 (L : VL) (st : List Value) (h : VG) : ev 1 78 L (st) h = ev 1 80 L (.int (-2 : Int32) :: st) h := G_bipush f1_78 (by decide)
theorem f1_80 : fetch 1 80 = some (.iastore, 1) := vtab tk1 43 rfl
theorem e1_80 (L : VL) (st : List Value) (h : VG) (a : Nat) (i : Int32) (x : Int32) (ha : arI h a 0) (hi : vp_in i (aln h a)) : ev 1 80 L (.int x :: .int i :: .ref a :: st) h = ev 1 81 L (st) (wI h a i.toNatClampNeg x) := G_iast f1_80 ha hi
theorem f1_81 : fetch 1 81 = some (.aload_n 0, 1) := vtab tk1 44 rfl
theorem e1_81 (L : VL) (st : List Value) (h : VG) (x : Nat) : ev 1 81 (some (.ref x) :: L) (st) h = ev 1 82 (some (.ref x) :: L) (.ref x :: st) h := G_aload_n f1_81 rfl
theorem f1_82 : fetch 1 82 = some (.getfield 15, 3) := vtab tk1 45 rfl
theorem e1_82 (L : VL) (st : List Value) (h : VG) (a : Nat) (ho : ob h a 0) (hr : isR h a 1) : ev 1 82 L (.ref a :: st) h = ev 1 85 L (.ref (gR h a 1) :: st) h := G_getR (p := 280) f1_82 lkF_0_15 (by decide) (by decide) ho hr
theorem f1_85 : fetch 1 85 = some (.iload 6, 2) := vtab tk1 46 rfl
theorem e1_85 (l0 l1 l2 l3 l4 l5 : Option Value) (L : VL) (st : List Value) (h : VG) (x : Int32) : ev 1 85 (l0 :: l1 :: l2 :: l3 :: l4 :: l5 :: some (.int x) :: L) (st) h = ev 1 87 (l0 :: l1 :: l2 :: l3 :: l4 :: l5 :: some (.int x) :: L) (.int x :: st) h := G_iload f1_85 rfl
theorem f1_87 : fetch 1 87 = some (.iload 4, 2) := vtab tk1 47 rfl
theorem e1_87 (l0 l1 l2 l3 : Option Value) (L : VL) (st : List Value) (h : VG) (x : Int32) : ev 1 87 (l0 :: l1 :: l2 :: l3 :: some (.int x) :: L) (st) h = ev 1 89 (l0 :: l1 :: l2 :: l3 :: some (.int x) :: L) (.int x :: st) h := G_iload f1_87 rfl
theorem f1_89 : fetch 1 89 = some (.iconst 4, 1) := vtab tk1 48 rfl
theorem e1_89 (L : VL) (st : List Value) (h : VG) : ev 1 89 L (st) h = ev 1 90 L (.int (4 : Int32) :: st) h := G_iconst f1_89 (by decide)
theorem f1_90 : fetch 1 90 = some (.iload 7, 2) := vtab tk1 49 rfl
theorem e1_90 (l0 l1 l2 l3 l4 l5 l6 : Option Value) (L : VL) (st : List Value) (h : VG) (x : Int32) : ev 1 90 (l0 :: l1 :: l2 :: l3 :: l4 :: l5 :: l6 :: some (.int x) :: L) (st) h = ev 1 92 (l0 :: l1 :: l2 :: l3 :: l4 :: l5 :: l6 :: some (.int x) :: L) (.int x :: st) h := G_iload f1_90 rfl
theorem f1_92 : fetch 1 92 = some (.imul, 1) := vtab tk1 50 rfl
theorem e1_92 (L : VL) (st : List Value) (h : VG) (x y : Int32) : ev 1 92 L (.int y :: .int x :: st) h = ev 1 93 L (.int (x * y) :: st) h := G_imul f1_92
theorem f1_93 : fetch 1 93 = some (.invokestatic 27, 3) := vtab tk1 51 rfl
theorem e1_93 (L : VL) (st : List Value) (h : VG) (x0 : Int32) (x1 : Int32) (hs : catS st ≤ 8) : ev 1 93 L (.int x1 :: .int x0 :: st) h = (ev 32 0 [some (.int x0), some (.int x1)] [] h).bind fun q => ev 1 96 L (q.1.toList ++ st) q.2 := G_calls (k := 0) (p := 618) (ars := [.int x0, .int x1]) f1_93 lkC_0_27 (by decide) (by decide +kernel) rfl (Nat.le_of_ble_eq_true rfl) hs rfl
theorem f1_96 : fetch 1 96 = some (.iastore, 1) := vtab tk1 52 rfl
theorem e1_96 (L : VL) (st : List Value) (h : VG) (a : Nat) (i : Int32) (x : Int32) (ha : arI h a 0) (hi : vp_in i (aln h a)) : ev 1 96 L (.int x :: .int i :: .ref a :: st) h = ev 1 97 L (st) (wI h a i.toNatClampNeg x) := G_iast f1_96 ha hi
theorem f1_97 : fetch 1 97 = some (.aload_n 0, 1) := vtab tk1 53 rfl
theorem e1_97 (L : VL) (st : List Value) (h : VG) (x : Nat) : ev 1 97 (some (.ref x) :: L) (st) h = ev 1 98 (some (.ref x) :: L) (.ref x :: st) h := G_aload_n f1_97 rfl
theorem f1_98 : fetch 1 98 = some (.getfield 15, 3) := vtab tk1 54 rfl
theorem e1_98 (L : VL) (st : List Value) (h : VG) (a : Nat) (ho : ob h a 0) (hr : isR h a 1) : ev 1 98 L (.ref a :: st) h = ev 1 101 L (.ref (gR h a 1) :: st) h := G_getR (p := 280) f1_98 lkF_0_15 (by decide) (by decide) ho hr
theorem f1_101 : fetch 1 101 = some (.iload 6, 2) := vtab tk1 55 rfl
theorem e1_101 (l0 l1 l2 l3 l4 l5 : Option Value) (L : VL) (st : List Value) (h : VG) (x : Int32) : ev 1 101 (l0 :: l1 :: l2 :: l3 :: l4 :: l5 :: some (.int x) :: L) (st) h = ev 1 103 (l0 :: l1 :: l2 :: l3 :: l4 :: l5 :: some (.int x) :: L) (.int x :: st) h := G_iload f1_101 rfl
theorem f1_103 : fetch 1 103 = some (.iaload, 1) := vtab tk1 56 rfl
theorem e1_103 (L : VL) (st : List Value) (h : VG) (a : Nat) (i : Int32) (ha : rdI h a) (hi : vp_in i (aln h a)) : ev 1 103 L (.int i :: .ref a :: st) h = ev 1 104 L (.int (aI h a i.toNatClampNeg) :: st) h := G_iald' f1_103 ha hi
theorem f1_104 : fetch 1 104 = some (.iconst 4, 1) := vtab tk1 57 rfl
theorem e1_104 (L : VL) (st : List Value) (h : VG) : ev 1 104 L (st) h = ev 1 105 L (.int (4 : Int32) :: st) h := G_iconst f1_104 (by decide)
theorem f1_105 : fetch 1 105 = some (.iload 7, 2) := vtab tk1 58 rfl
theorem e1_105 (l0 l1 l2 l3 l4 l5 l6 : Option Value) (L : VL) (st : List Value) (h : VG) (x : Int32) : ev 1 105 (l0 :: l1 :: l2 :: l3 :: l4 :: l5 :: l6 :: some (.int x) :: L) (st) h = ev 1 107 (l0 :: l1 :: l2 :: l3 :: l4 :: l5 :: l6 :: some (.int x) :: L) (.int x :: st) h := G_iload f1_105 rfl
theorem f1_107 : fetch 1 107 = some (.imul, 1) := vtab tk1 59 rfl
theorem e1_107 (L : VL) (st : List Value) (h : VG) (x y : Int32) : ev 1 107 L (.int y :: .int x :: st) h = ev 1 108 L (.int (x * y) :: st) h := G_imul f1_107
theorem f1_108 : fetch 1 108 = some (.iadd, 1) := vtab tk1 60 rfl
theorem e1_108 (L : VL) (st : List Value) (h : VG) (x y : Int32) : ev 1 108 L (.int y :: .int x :: st) h = ev 1 109 L (.int (x + y) :: st) h := G_iadd f1_108
theorem f1_109 : fetch 1 109 = some (.istore 4, 2) := vtab tk1 61 rfl
theorem e1_109 (l0 l1 l2 l3 l4 : Option Value) (L : VL) (st : List Value) (h : VG) (x : Int32) : ev 1 109 (l0 :: l1 :: l2 :: l3 :: l4 :: L) (.int x :: st) h = ev 1 111 (l0 :: l1 :: l2 :: vkk l3 :: some (.int x) :: L) (st) h := G_istore f1_109 rfl (S1_4 l0 l1 l2 l3 l4 L _)
theorem f1_111 : fetch 1 111 = some (.goto 27, 3) := vtab tk1 62 rfl
theorem e1_111 (L : VL) (st : List Value) (h : VG) : ev 1 111 L (st) h = ev 1 138 L (st) h := G_goto f1_111 (by decide)
theorem f1_114 : fetch 1 114 = some (.aload_n 0, 1) := vtab tk1 63 rfl
theorem e1_114 (L : VL) (st : List Value) (h : VG) (x : Nat) : ev 1 114 (some (.ref x) :: L) (st) h = ev 1 115 (some (.ref x) :: L) (.ref x :: st) h := G_aload_n f1_114 rfl
theorem f1_115 : fetch 1 115 = some (.getfield 9, 3) := vtab tk1 64 rfl
theorem e1_115 (L : VL) (st : List Value) (h : VG) (a : Nat) (ho : ob h a 0) (hr : isR h a 0) : ev 1 115 L (.ref a :: st) h = ev 1 118 L (.ref (gR h a 0) :: st) h := G_getR (p := 278) f1_115 lkF_0_9 (by decide) (by decide) ho hr
theorem f1_118 : fetch 1 118 = some (.iload 6, 2) := vtab tk1 65 rfl
theorem e1_118 (l0 l1 l2 l3 l4 l5 : Option Value) (L : VL) (st : List Value) (h : VG) (x : Int32) : ev 1 118 (l0 :: l1 :: l2 :: l3 :: l4 :: l5 :: some (.int x) :: L) (st) h = ev 1 120 (l0 :: l1 :: l2 :: l3 :: l4 :: l5 :: some (.int x) :: L) (.int x :: st) h := G_iload f1_118 rfl
theorem f1_120 : fetch 1 120 = some (.iload 8, 2) := vtab tk1 66 rfl
theorem e1_120 (l0 l1 l2 l3 l4 l5 l6 l7 : Option Value) (L : VL) (st : List Value) (h : VG) (x : Int32) : ev 1 120 (l0 :: l1 :: l2 :: l3 :: l4 :: l5 :: l6 :: l7 :: some (.int x) :: L) (st) h = ev 1 122 (l0 :: l1 :: l2 :: l3 :: l4 :: l5 :: l6 :: l7 :: some (.int x) :: L) (.int x :: st) h := G_iload f1_120 rfl
theorem f1_122 : fetch 1 122 = some (.iastore, 1) := vtab tk1 67 rfl
theorem e1_122 (L : VL) (st : List Value) (h : VG) (a : Nat) (i : Int32) (x : Int32) (ha : arI h a 0) (hi : vp_in i (aln h a)) : ev 1 122 L (.int x :: .int i :: .ref a :: st) h = ev 1 123 L (st) (wI h a i.toNatClampNeg x) := G_iast f1_122 ha hi
theorem f1_123 : fetch 1 123 = some (.aload_n 0, 1) := vtab tk1 68 rfl
theorem e1_123 (L : VL) (st : List Value) (h : VG) (x : Nat) : ev 1 123 (some (.ref x) :: L) (st) h = ev 1 124 (some (.ref x) :: L) (.ref x :: st) h := G_aload_n f1_123 rfl
theorem f1_124 : fetch 1 124 = some (.getfield 15, 3) := vtab tk1 69 rfl
theorem e1_124 (L : VL) (st : List Value) (h : VG) (a : Nat) (ho : ob h a 0) (hr : isR h a 1) : ev 1 124 L (.ref a :: st) h = ev 1 127 L (.ref (gR h a 1) :: st) h := G_getR (p := 280) f1_124 lkF_0_15 (by decide) (by decide) ho hr
theorem f1_127 : fetch 1 127 = some (.iload 6, 2) := vtab tk1 70 rfl
theorem e1_127 (l0 l1 l2 l3 l4 l5 : Option Value) (L : VL) (st : List Value) (h : VG) (x : Int32) : ev 1 127 (l0 :: l1 :: l2 :: l3 :: l4 :: l5 :: some (.int x) :: L) (st) h = ev 1 129 (l0 :: l1 :: l2 :: l3 :: l4 :: l5 :: some (.int x) :: L) (.int x :: st) h := G_iload f1_127 rfl
theorem f1_129 : fetch 1 129 = some (.bipush (-2), 2) := vtab tk1 71 rfl
theorem e1_129 (L : VL) (st : List Value) (h : VG) : ev 1 129 L (st) h = ev 1 131 L (.int (-2 : Int32) :: st) h := G_bipush f1_129 (by decide)
theorem f1_131 : fetch 1 131 = some (.iastore, 1) := vtab tk1 72 rfl
theorem e1_131 (L : VL) (st : List Value) (h : VG) (a : Nat) (i : Int32) (x : Int32) (ha : arI h a 0) (hi : vp_in i (aln h a)) : ev 1 131 L (.int x :: .int i :: .ref a :: st) h = ev 1 132 L (st) (wI h a i.toNatClampNeg x) := G_iast f1_131 ha hi
theorem f1_132 : fetch 1 132 = some (.iload 8, 2) := vtab tk1 73 rfl
theorem e1_132 (l0 l1 l2 l3 l4 l5 l6 l7 : Option Value) (L : VL) (st : List Value) (h : VG) (x : Int32) : ev 1 132 (l0 :: l1 :: l2 :: l3 :: l4 :: l5 :: l6 :: l7 :: some (.int x) :: L) (st) h = ev 1 134 (l0 :: l1 :: l2 :: l3 :: l4 :: l5 :: l6 :: l7 :: some (.int x) :: L) (.int x :: st) h := G_iload f1_132 rfl
theorem f1_134 : fetch 1 134 = some (.iload 7, 2) := vtab tk1 74 rfl
theorem e1_134 (l0 l1 l2 l3 l4 l5 l6 : Option Value) (L : VL) (st : List Value) (h : VG) (x : Int32) : ev 1 134 (l0 :: l1 :: l2 :: l3 :: l4 :: l5 :: l6 :: some (.int x) :: L) (st) h = ev 1 136 (l0 :: l1 :: l2 :: l3 :: l4 :: l5 :: l6 :: some (.int x) :: L) (.int x :: st) h := G_iload f1_134 rfl
theorem f1_136 : fetch 1 136 = some (.iadd, 1) := vtab tk1 75 rfl
theorem e1_136 (L : VL) (st : List Value) (h : VG) (x y : Int32) : ev 1 136 L (.int y :: .int x :: st) h = ev 1 137 L (.int (x + y) :: st) h := G_iadd f1_136
theorem f1_137 : fetch 1 137 = some (.istore_n 3, 1) := vtab tk1 76 rfl
theorem e1_137 (l0 l1 l2 l3 : Option Value) (L : VL) (st : List Value) (h : VG) (x : Int32) : ev 1 137 (l0 :: l1 :: l2 :: l3 :: L) (.int x :: st) h = ev 1 138 (l0 :: l1 :: vkk l2 :: some (.int x) :: L) (st) h := G_istore_n f1_137 rfl (S1_3 l0 l1 l2 l3 L _)
theorem f1_138 : fetch 1 138 = some (.aload_n 0, 1) := vtab tk1 77 rfl
theorem e1_138 (L : VL) (st : List Value) (h : VG) (x : Nat) : ev 1 138 (some (.ref x) :: L) (st) h = ev 1 139 (some (.ref x) :: L) (.ref x :: st) h := G_aload_n f1_138 rfl
theorem f1_139 : fetch 1 139 = some (.getfield 18, 3) := vtab tk1 78 rfl
theorem e1_139 (L : VL) (st : List Value) (h : VG) (a : Nat) (ho : ob h a 0) (hr : isR h a 2) : ev 1 139 L (.ref a :: st) h = ev 1 142 L (.ref (gR h a 2) :: st) h := G_getR (p := 282) f1_139 lkF_0_18 (by decide) (by decide) ho hr
theorem f1_142 : fetch 1 142 = some (.iload 6, 2) := vtab tk1 79 rfl
theorem e1_142 (l0 l1 l2 l3 l4 l5 : Option Value) (L : VL) (st : List Value) (h : VG) (x : Int32) : ev 1 142 (l0 :: l1 :: l2 :: l3 :: l4 :: l5 :: some (.int x) :: L) (st) h = ev 1 144 (l0 :: l1 :: l2 :: l3 :: l4 :: l5 :: some (.int x) :: L) (.int x :: st) h := G_iload f1_142 rfl
theorem f1_144 : fetch 1 144 = some (.iload_n 3, 1) := vtab tk1 80 rfl
theorem e1_144 (l0 l1 l2 : Option Value) (L : VL) (st : List Value) (h : VG) (x : Int32) : ev 1 144 (l0 :: l1 :: l2 :: some (.int x) :: L) (st) h = ev 1 145 (l0 :: l1 :: l2 :: some (.int x) :: L) (.int x :: st) h := G_iload_n f1_144 rfl
theorem f1_145 : fetch 1 145 = some (.iastore, 1) := vtab tk1 81 rfl
theorem e1_145 (L : VL) (st : List Value) (h : VG) (a : Nat) (i : Int32) (x : Int32) (ha : arI h a 0) (hi : vp_in i (aln h a)) : ev 1 145 L (.int x :: .int i :: .ref a :: st) h = ev 1 146 L (st) (wI h a i.toNatClampNeg x) := G_iast f1_145 ha hi
theorem f1_146 : fetch 1 146 = some (.iinc 6 1, 3) := vtab tk1 82 rfl
theorem e1_146 (l0 l1 l2 l3 l4 l5 : Option Value) (L : VL) (st : List Value) (h : VG) (x : Int32) : ev 1 146 (l0 :: l1 :: l2 :: l3 :: l4 :: l5 :: some (.int x) :: L) (st) h = ev 1 149 (l0 :: l1 :: l2 :: l3 :: l4 :: vkk l5 :: some (.int (x + (1 : Int32))) :: L) (st) h := G_iinc f1_146 rfl (by decide) (S1_6 l0 l1 l2 l3 l4 l5 (some (.int x)) L _)
theorem f1_149 : fetch 1 149 = some (.goto (-138), 3) := vtab tk1 83 rfl
theorem e1_149 (L : VL) (st : List Value) (h : VG) : ev 1 149 L (st) h = ev 1 11 L (st) h := G_goto f1_149 (by decide)
theorem f1_152 : fetch 1 152 = some (.return_, 1) := vtab tk1 84 rfl
theorem e1_152 (L : VL) (h : VG) : ev 1 152 L [] h = some (none, h) := G_vret f1_152 (by decide)
/-! 2 GuestCalls$Bin.<init>()V -/
def tb2 : List (Nat × Instr × Nat) := [(0, .aload_n 0, 1), (1, .invokespecial 3, 3), (4, .aload_n 0, 1), (5, .bipush 11, 2), (7, .putfield 9, 3), (10, .aload_n 0, 1), (11, .bipush 40, 2), (13, .newarray .int, 2), (15, .putfield 15, 3), (18, .aload_n 0, 1), (19, .bipush 40, 2), (21, .newarray .long, 2), (23, .putfield 19, 3), (26, .return_, 1)]
theorem tk2 : tb2.all (fun q => decide (fetch 2 q.1 = some q.2)) = true := by decide +kernel
theorem f2_0 : fetch 2 0 = some (.aload_n 0, 1) := vtab tk2 0 rfl
theorem e2_0 (L : VL) (st : List Value) (h : VG) (x : Nat) : ev 2 0 (some (.ref x) :: L) (st) h = ev 2 1 (some (.ref x) :: L) (.ref x :: st) h := G_aload_n f2_0 rfl
theorem f2_1 : fetch 2 1 = some (.invokespecial 3, 3) := vtab tk2 1 rfl
theorem e2_1 (L : VL) (st : List Value) (h : VG) (a : Nat) (hs : catS st ≤ 8) : ev 2 1 L (.ref a :: st) h = ev 2 4 L (st) h := G_objinit (y := 0) (p := 364) f2_1 lkC_1_3 hs
theorem f2_4 : fetch 2 4 = some (.aload_n 0, 1) := vtab tk2 2 rfl
theorem e2_4 (L : VL) (st : List Value) (h : VG) (x : Nat) : ev 2 4 (some (.ref x) :: L) (st) h = ev 2 5 (some (.ref x) :: L) (.ref x :: st) h := G_aload_n f2_4 rfl
theorem f2_5 : fetch 2 5 = some (.bipush 11, 2) := vtab tk2 3 rfl
theorem e2_5 (L : VL) (st : List Value) (h : VG) : ev 2 5 L (st) h = ev 2 7 L (.int (11 : Int32) :: st) h := G_bipush f2_5 (by decide)
theorem f2_7 : fetch 2 7 = some (.putfield 9, 3) := vtab tk2 4 rfl
theorem e2_7 (L : VL) (st : List Value) (h : VG) (a : Nat) (x : Int32) (ho : ob h a 1) : ev 2 7 L (.int x :: .ref a :: st) h = ev 2 10 L (st) (pI h a 0 x) := G_putI (p := 365) f2_7 lkF_1_9 (by decide) (by decide) (by decide +kernel) ⟨rfl, rfl⟩ ho
theorem f2_10 : fetch 2 10 = some (.aload_n 0, 1) := vtab tk2 5 rfl
theorem e2_10 (L : VL) (st : List Value) (h : VG) (x : Nat) : ev 2 10 (some (.ref x) :: L) (st) h = ev 2 11 (some (.ref x) :: L) (.ref x :: st) h := G_aload_n f2_10 rfl
theorem f2_11 : fetch 2 11 = some (.bipush 40, 2) := vtab tk2 6 rfl
theorem e2_11 (L : VL) (st : List Value) (h : VG) : ev 2 11 L (st) h = ev 2 13 L (.int (40 : Int32) :: st) h := G_bipush f2_11 (by decide)
theorem f2_13 : fetch 2 13 = some (.newarray .int, 2) := vtab tk2 7 rfl
theorem e2_13 (L : VL) (st : List Value) (h : VG) (n : Int32) (hn : ¬ n < 0 ∧ n.toNatClampNeg ≤ 4096) : ev 2 13 L (.int n :: st) h = ev 2 15 L (.ref h.2.1 :: st) (hnew h (.inl (0, n.toNatClampNeg, .inl (fun _ => 0))) n.toNatClampNeg) := G_newa f2_13 rfl hn
theorem f2_15 : fetch 2 15 = some (.putfield 15, 3) := vtab tk2 8 rfl
theorem e2_15 (L : VL) (st : List Value) (h : VG) (a : Nat) (x : Nat) (ho : ob h a 1) : ev 2 15 L (.ref x :: .ref a :: st) h = ev 2 18 L (st) (pR h a 2 x) := G_putR (p := 370) f2_15 lkF_1_15 (by decide) (by decide) (by decide +kernel) ⟨rfl, rfl⟩ ho
theorem f2_18 : fetch 2 18 = some (.aload_n 0, 1) := vtab tk2 9 rfl
theorem e2_18 (L : VL) (st : List Value) (h : VG) (x : Nat) : ev 2 18 (some (.ref x) :: L) (st) h = ev 2 19 (some (.ref x) :: L) (.ref x :: st) h := G_aload_n f2_18 rfl
theorem f2_19 : fetch 2 19 = some (.bipush 40, 2) := vtab tk2 10 rfl
theorem e2_19 (L : VL) (st : List Value) (h : VG) : ev 2 19 L (st) h = ev 2 21 L (.int (40 : Int32) :: st) h := G_bipush f2_19 (by decide)
theorem f2_21 : fetch 2 21 = some (.newarray .long, 2) := vtab tk2 11 rfl
theorem e2_21 (L : VL) (st : List Value) (h : VG) (n : Int32) (hn : ¬ n < 0 ∧ n.toNatClampNeg ≤ 4096) : ev 2 21 L (.int n :: st) h = ev 2 23 L (.ref h.2.1 :: st) (hnew h (.inl (1, n.toNatClampNeg, .inr (.inl (fun _ => 0)))) n.toNatClampNeg) := G_newa f2_21 rfl hn
theorem f2_23 : fetch 2 23 = some (.putfield 19, 3) := vtab tk2 12 rfl
theorem e2_23 (L : VL) (st : List Value) (h : VG) (a : Nat) (x : Nat) (ho : ob h a 1) : ev 2 23 L (.ref x :: .ref a :: st) h = ev 2 26 L (st) (pR h a 3 x) := G_putR (p := 372) f2_23 lkF_1_19 (by decide) (by decide) (by decide +kernel) ⟨rfl, rfl⟩ ho
theorem f2_26 : fetch 2 26 = some (.return_, 1) := vtab tk2 13 rfl
theorem e2_26 (L : VL) (h : VG) : ev 2 26 L [] h = some (none, h) := G_vret f2_26 (by decide)
/-! 3 GuestCalls$Bin.begin(II)V -/
def tb3 : List (Nat × Instr × Nat) := [(0, .aload_n 0, 1), (1, .iload_n 1, 1), (2, .putfield 9, 3), (5, .aload_n 0, 1), (6, .iload_n 2, 1), (7, .putfield 23, 3), (10, .aload_n 0, 1), (11, .getfield 15, 3), (14, .iload_n 1, 1), (15, .bipush 7, 2), (17, .if_icmp .gt 7, 3), (20, .iload_n 1, 1), (21, .goto 5, 3), (24, .bipush (-2), 2), (26, .invokestatic 26, 3), (29, .aload_n 0, 1), (30, .getfield 19, 3), (33, .lconst 0, 1), (34, .invokestatic 32, 3), (37, .return_, 1)]
theorem tk3 : tb3.all (fun q => decide (fetch 3 q.1 = some q.2)) = true := by decide +kernel
theorem f3_0 : fetch 3 0 = some (.aload_n 0, 1) := vtab tk3 0 rfl
theorem e3_0 (L : VL) (st : List Value) (h : VG) (x : Nat) : ev 3 0 (some (.ref x) :: L) (st) h = ev 3 1 (some (.ref x) :: L) (.ref x :: st) h := G_aload_n f3_0 rfl
theorem f3_1 : fetch 3 1 = some (.iload_n 1, 1) := vtab tk3 1 rfl
theorem e3_1 (l0 : Option Value) (L : VL) (st : List Value) (h : VG) (x : Int32) : ev 3 1 (l0 :: some (.int x) :: L) (st) h = ev 3 2 (l0 :: some (.int x) :: L) (.int x :: st) h := G_iload_n f3_1 rfl
theorem f3_2 : fetch 3 2 = some (.putfield 9, 3) := vtab tk3 2 rfl
theorem e3_2 (L : VL) (st : List Value) (h : VG) (a : Nat) (x : Int32) (ho : ob h a 1) : ev 3 2 L (.int x :: .ref a :: st) h = ev 3 5 L (st) (pI h a 0 x) := G_putI (p := 365) f3_2 lkF_1_9 (by decide) (by decide) (by decide +kernel) ⟨rfl, rfl⟩ ho
theorem f3_5 : fetch 3 5 = some (.aload_n 0, 1) := vtab tk3 3 rfl
theorem e3_5 (L : VL) (st : List Value) (h : VG) (x : Nat) : ev 3 5 (some (.ref x) :: L) (st) h = ev 3 6 (some (.ref x) :: L) (.ref x :: st) h := G_aload_n f3_5 rfl
theorem f3_6 : fetch 3 6 = some (.iload_n 2, 1) := vtab tk3 4 rfl
theorem e3_6 (l0 l1 : Option Value) (L : VL) (st : List Value) (h : VG) (x : Int32) : ev 3 6 (l0 :: l1 :: some (.int x) :: L) (st) h = ev 3 7 (l0 :: l1 :: some (.int x) :: L) (.int x :: st) h := G_iload_n f3_6 rfl
theorem f3_7 : fetch 3 7 = some (.putfield 23, 3) := vtab tk3 5 rfl
theorem e3_7 (L : VL) (st : List Value) (h : VG) (a : Nat) (x : Int32) (ho : ob h a 1) : ev 3 7 L (.int x :: .ref a :: st) h = ev 3 10 L (st) (pI h a 1 x) := G_putI (p := 368) f3_7 lkF_1_23 (by decide) (by decide) (by decide +kernel) ⟨rfl, rfl⟩ ho
theorem f3_10 : fetch 3 10 = some (.aload_n 0, 1) := vtab tk3 6 rfl
theorem e3_10 (L : VL) (st : List Value) (h : VG) (x : Nat) : ev 3 10 (some (.ref x) :: L) (st) h = ev 3 11 (some (.ref x) :: L) (.ref x :: st) h := G_aload_n f3_10 rfl
theorem f3_11 : fetch 3 11 = some (.getfield 15, 3) := vtab tk3 7 rfl
theorem e3_11 (L : VL) (st : List Value) (h : VG) (a : Nat) (ho : ob h a 1) (hr : isR h a 2) : ev 3 11 L (.ref a :: st) h = ev 3 14 L (.ref (gR h a 2) :: st) h := G_getR (p := 370) f3_11 lkF_1_15 (by decide) (by decide) ho hr
theorem f3_14 : fetch 3 14 = some (.iload_n 1, 1) := vtab tk3 8 rfl
theorem e3_14 (l0 : Option Value) (L : VL) (st : List Value) (h : VG) (x : Int32) : ev 3 14 (l0 :: some (.int x) :: L) (st) h = ev 3 15 (l0 :: some (.int x) :: L) (.int x :: st) h := G_iload_n f3_14 rfl
theorem f3_15 : fetch 3 15 = some (.bipush 7, 2) := vtab tk3 9 rfl
theorem e3_15 (L : VL) (st : List Value) (h : VG) : ev 3 15 L (st) h = ev 3 17 L (.int (7 : Int32) :: st) h := G_bipush f3_15 (by decide)
theorem f3_17 : fetch 3 17 = some (.if_icmp .gt 7, 3) := vtab tk3 10 rfl
theorem e3_17 (L : VL) (st : List Value) (h : VG) (x y : Int32) : ev 3 17 L (.int y :: .int x :: st) h = if x ≤ y then ev 3 20 L st h else ev 3 24 L st h := G_icmp_gt f3_17 (by decide)
theorem f3_20 : fetch 3 20 = some (.iload_n 1, 1) := vtab tk3 11 rfl
theorem e3_20 (l0 : Option Value) (L : VL) (st : List Value) (h : VG) (x : Int32) : ev 3 20 (l0 :: some (.int x) :: L) (st) h = ev 3 21 (l0 :: some (.int x) :: L) (.int x :: st) h := G_iload_n f3_20 rfl
theorem f3_21 : fetch 3 21 = some (.goto 5, 3) := vtab tk3 12 rfl
theorem e3_21 (L : VL) (st : List Value) (h : VG) : ev 3 21 L (st) h = ev 3 26 L (st) h := G_goto f3_21 (by decide)
theorem f3_24 : fetch 3 24 = some (.bipush (-2), 2) := vtab tk3 13 rfl
theorem e3_24 (L : VL) (st : List Value) (h : VG) : ev 3 24 L (st) h = ev 3 26 L (.int (-2 : Int32) :: st) h := G_bipush f3_24 (by decide)
theorem f3_26 : fetch 3 26 = some (.invokestatic 26, 3) := vtab tk3 14 rfl
theorem e3_26 (L : VL) (st : List Value) (h : VG) (x0 : Nat) (x1 : Int32) (hs : catS st ≤ 8) : ev 3 26 L (.int x1 :: .ref x0 :: st) h = (ev 238 0 [some (.ref x0), some (.int x1), none, none] [] h).bind fun q => ev 3 29 L (q.1.toList ++ st) q.2 := G_calls (k := 0) (p := 646) (ars := [.ref x0, .int x1]) f3_26 lkC_1_26 (by decide) (by decide +kernel) rfl (Nat.le_of_ble_eq_true rfl) hs rfl
theorem f3_29 : fetch 3 29 = some (.aload_n 0, 1) := vtab tk3 15 rfl
theorem e3_29 (L : VL) (st : List Value) (h : VG) (x : Nat) : ev 3 29 (some (.ref x) :: L) (st) h = ev 3 30 (some (.ref x) :: L) (.ref x :: st) h := G_aload_n f3_29 rfl
theorem f3_30 : fetch 3 30 = some (.getfield 19, 3) := vtab tk3 16 rfl
theorem e3_30 (L : VL) (st : List Value) (h : VG) (a : Nat) (ho : ob h a 1) (hr : isR h a 3) : ev 3 30 L (.ref a :: st) h = ev 3 33 L (.ref (gR h a 3) :: st) h := G_getR (p := 372) f3_30 lkF_1_19 (by decide) (by decide) ho hr
theorem f3_33 : fetch 3 33 = some (.lconst 0, 1) := vtab tk3 17 rfl
theorem e3_33 (L : VL) (st : List Value) (h : VG) : ev 3 33 L (st) h = ev 3 34 L (.long 0 :: st) h := G_lconst f3_33 (by decide)
theorem f3_34 : fetch 3 34 = some (.invokestatic 32, 3) := vtab tk3 18 rfl
theorem e3_34 (L : VL) (st : List Value) (h : VG) (x0 : Nat) (x1 : Int64) (hs : catS st ≤ 8) : ev 3 34 L (.long x1 :: .ref x0 :: st) h = (ev 237 0 [some (.ref x0), some (.long x1), none, none, none] [] h).bind fun q => ev 3 37 L (q.1.toList ++ st) q.2 := G_calls (k := 0) (p := 649) (ars := [.ref x0, .long x1]) f3_34 lkC_1_32 (by decide) (by decide +kernel) rfl (Nat.le_of_ble_eq_true rfl) hs rfl
theorem f3_37 : fetch 3 37 = some (.return_, 1) := vtab tk3 19 rfl
theorem e3_37 (L : VL) (h : VG) : ev 3 37 L [] h = some (none, h) := G_vret f3_37 (by decide)
/-! 4 GuestCalls$Bin.become(LGuestCalls$Bin;)V -/
def tb4 : List (Nat × Instr × Nat) := [(0, .aload_n 0, 1), (1, .aload_n 1, 1), (2, .getfield 9, 3), (5, .putfield 9, 3), (8, .aload_n 0, 1), (9, .aload_n 1, 1), (10, .getfield 23, 3), (13, .putfield 23, 3), (16, .aload_n 1, 1), (17, .getfield 15, 3), (20, .iconst 0, 1), (21, .aload_n 0, 1), (22, .getfield 15, 3), (25, .iconst 0, 1), (26, .bipush 40, 2), (28, .invokestatic 35, 3), (31, .aload_n 1, 1), (32, .getfield 19, 3), (35, .iconst 0, 1), (36, .aload_n 0, 1), (37, .getfield 19, 3), (40, .iconst 0, 1), (41, .bipush 40, 2), (43, .invokestatic 35, 3), (46, .return_, 1)]
theorem tk4 : tb4.all (fun q => decide (fetch 4 q.1 = some q.2)) = true := by decide +kernel
theorem f4_0 : fetch 4 0 = some (.aload_n 0, 1) := vtab tk4 0 rfl
theorem e4_0 (L : VL) (st : List Value) (h : VG) (x : Nat) : ev 4 0 (some (.ref x) :: L) (st) h = ev 4 1 (some (.ref x) :: L) (.ref x :: st) h := G_aload_n f4_0 rfl
theorem f4_1 : fetch 4 1 = some (.aload_n 1, 1) := vtab tk4 1 rfl
theorem e4_1 (l0 : Option Value) (L : VL) (st : List Value) (h : VG) (x : Nat) : ev 4 1 (l0 :: some (.ref x) :: L) (st) h = ev 4 2 (l0 :: some (.ref x) :: L) (.ref x :: st) h := G_aload_n f4_1 rfl
theorem f4_2 : fetch 4 2 = some (.getfield 9, 3) := vtab tk4 2 rfl
theorem e4_2 (L : VL) (st : List Value) (h : VG) (a : Nat) (ho : ob h a 1) : ev 4 2 L (.ref a :: st) h = ev 4 5 L (.int (gI h a 0) :: st) h := G_getI (p := 365) f4_2 lkF_1_9 (by decide) (by decide) ho
theorem f4_5 : fetch 4 5 = some (.putfield 9, 3) := vtab tk4 3 rfl
theorem e4_5 (L : VL) (st : List Value) (h : VG) (a : Nat) (x : Int32) (ho : ob h a 1) : ev 4 5 L (.int x :: .ref a :: st) h = ev 4 8 L (st) (pI h a 0 x) := G_putI (p := 365) f4_5 lkF_1_9 (by decide) (by decide) (by decide +kernel) ⟨rfl, rfl⟩ ho
theorem f4_8 : fetch 4 8 = some (.aload_n 0, 1) := vtab tk4 4 rfl
theorem e4_8 (L : VL) (st : List Value) (h : VG) (x : Nat) : ev 4 8 (some (.ref x) :: L) (st) h = ev 4 9 (some (.ref x) :: L) (.ref x :: st) h := G_aload_n f4_8 rfl
theorem f4_9 : fetch 4 9 = some (.aload_n 1, 1) := vtab tk4 5 rfl
theorem e4_9 (l0 : Option Value) (L : VL) (st : List Value) (h : VG) (x : Nat) : ev 4 9 (l0 :: some (.ref x) :: L) (st) h = ev 4 10 (l0 :: some (.ref x) :: L) (.ref x :: st) h := G_aload_n f4_9 rfl
theorem f4_10 : fetch 4 10 = some (.getfield 23, 3) := vtab tk4 6 rfl
theorem e4_10 (L : VL) (st : List Value) (h : VG) (a : Nat) (ho : ob h a 1) : ev 4 10 L (.ref a :: st) h = ev 4 13 L (.int (gI h a 1) :: st) h := G_getI (p := 368) f4_10 lkF_1_23 (by decide) (by decide) ho
theorem f4_13 : fetch 4 13 = some (.putfield 23, 3) := vtab tk4 7 rfl
theorem e4_13 (L : VL) (st : List Value) (h : VG) (a : Nat) (x : Int32) (ho : ob h a 1) : ev 4 13 L (.int x :: .ref a :: st) h = ev 4 16 L (st) (pI h a 1 x) := G_putI (p := 368) f4_13 lkF_1_23 (by decide) (by decide) (by decide +kernel) ⟨rfl, rfl⟩ ho
theorem f4_16 : fetch 4 16 = some (.aload_n 1, 1) := vtab tk4 8 rfl
theorem e4_16 (l0 : Option Value) (L : VL) (st : List Value) (h : VG) (x : Nat) : ev 4 16 (l0 :: some (.ref x) :: L) (st) h = ev 4 17 (l0 :: some (.ref x) :: L) (.ref x :: st) h := G_aload_n f4_16 rfl
theorem f4_17 : fetch 4 17 = some (.getfield 15, 3) := vtab tk4 9 rfl
theorem e4_17 (L : VL) (st : List Value) (h : VG) (a : Nat) (ho : ob h a 1) (hr : isR h a 2) : ev 4 17 L (.ref a :: st) h = ev 4 20 L (.ref (gR h a 2) :: st) h := G_getR (p := 370) f4_17 lkF_1_15 (by decide) (by decide) ho hr
theorem f4_20 : fetch 4 20 = some (.iconst 0, 1) := vtab tk4 10 rfl
theorem e4_20 (L : VL) (st : List Value) (h : VG) : ev 4 20 L (st) h = ev 4 21 L (.int (0 : Int32) :: st) h := G_iconst f4_20 (by decide)
theorem f4_21 : fetch 4 21 = some (.aload_n 0, 1) := vtab tk4 11 rfl
theorem e4_21 (L : VL) (st : List Value) (h : VG) (x : Nat) : ev 4 21 (some (.ref x) :: L) (st) h = ev 4 22 (some (.ref x) :: L) (.ref x :: st) h := G_aload_n f4_21 rfl
theorem f4_22 : fetch 4 22 = some (.getfield 15, 3) := vtab tk4 12 rfl
theorem e4_22 (L : VL) (st : List Value) (h : VG) (a : Nat) (ho : ob h a 1) (hr : isR h a 2) : ev 4 22 L (.ref a :: st) h = ev 4 25 L (.ref (gR h a 2) :: st) h := G_getR (p := 370) f4_22 lkF_1_15 (by decide) (by decide) ho hr
theorem f4_25 : fetch 4 25 = some (.iconst 0, 1) := vtab tk4 13 rfl
theorem e4_25 (L : VL) (st : List Value) (h : VG) : ev 4 25 L (st) h = ev 4 26 L (.int (0 : Int32) :: st) h := G_iconst f4_25 (by decide)
theorem f4_26 : fetch 4 26 = some (.bipush 40, 2) := vtab tk4 14 rfl
theorem e4_26 (L : VL) (st : List Value) (h : VG) : ev 4 26 L (st) h = ev 4 28 L (.int (40 : Int32) :: st) h := G_bipush f4_26 (by decide)
theorem f4_28 : fetch 4 28 = some (.invokestatic 35, 3) := vtab tk4 15 rfl
theorem e4_28 (L : VL) (st : List Value) (h : VG) (s d : Nat) (sp dp n : Int32) (h1 : VG) (hs : catS st ≤ 8) (hc : vcopy h s d sp dp n = some h1) : ev 4 28 L (.int n :: .int dp :: .ref d :: .int sp :: .ref s :: st) h = ev 4 31 L (st) h1 := G_copy (q := 0) (p := 851) f4_28 lkC_1_35 hs hc
theorem f4_31 : fetch 4 31 = some (.aload_n 1, 1) := vtab tk4 16 rfl
theorem e4_31 (l0 : Option Value) (L : VL) (st : List Value) (h : VG) (x : Nat) : ev 4 31 (l0 :: some (.ref x) :: L) (st) h = ev 4 32 (l0 :: some (.ref x) :: L) (.ref x :: st) h := G_aload_n f4_31 rfl
theorem f4_32 : fetch 4 32 = some (.getfield 19, 3) := vtab tk4 17 rfl
theorem e4_32 (L : VL) (st : List Value) (h : VG) (a : Nat) (ho : ob h a 1) (hr : isR h a 3) : ev 4 32 L (.ref a :: st) h = ev 4 35 L (.ref (gR h a 3) :: st) h := G_getR (p := 372) f4_32 lkF_1_19 (by decide) (by decide) ho hr
theorem f4_35 : fetch 4 35 = some (.iconst 0, 1) := vtab tk4 18 rfl
theorem e4_35 (L : VL) (st : List Value) (h : VG) : ev 4 35 L (st) h = ev 4 36 L (.int (0 : Int32) :: st) h := G_iconst f4_35 (by decide)
theorem f4_36 : fetch 4 36 = some (.aload_n 0, 1) := vtab tk4 19 rfl
theorem e4_36 (L : VL) (st : List Value) (h : VG) (x : Nat) : ev 4 36 (some (.ref x) :: L) (st) h = ev 4 37 (some (.ref x) :: L) (.ref x :: st) h := G_aload_n f4_36 rfl
theorem f4_37 : fetch 4 37 = some (.getfield 19, 3) := vtab tk4 20 rfl
theorem e4_37 (L : VL) (st : List Value) (h : VG) (a : Nat) (ho : ob h a 1) (hr : isR h a 3) : ev 4 37 L (.ref a :: st) h = ev 4 40 L (.ref (gR h a 3) :: st) h := G_getR (p := 372) f4_37 lkF_1_19 (by decide) (by decide) ho hr
theorem f4_40 : fetch 4 40 = some (.iconst 0, 1) := vtab tk4 21 rfl
theorem e4_40 (L : VL) (st : List Value) (h : VG) : ev 4 40 L (st) h = ev 4 41 L (.int (0 : Int32) :: st) h := G_iconst f4_40 (by decide)
theorem f4_41 : fetch 4 41 = some (.bipush 40, 2) := vtab tk4 22 rfl
theorem e4_41 (L : VL) (st : List Value) (h : VG) : ev 4 41 L (st) h = ev 4 43 L (.int (40 : Int32) :: st) h := G_bipush f4_41 (by decide)
theorem f4_43 : fetch 4 43 = some (.invokestatic 35, 3) := vtab tk4 23 rfl
theorem e4_43 (L : VL) (st : List Value) (h : VG) (s d : Nat) (sp dp n : Int32) (h1 : VG) (hs : catS st ≤ 8) (hc : vcopy h s d sp dp n = some h1) : ev 4 43 L (.int n :: .int dp :: .ref d :: .int sp :: .ref s :: st) h = ev 4 46 L (st) h1 := G_copy (q := 0) (p := 851) f4_43 lkC_1_35 hs hc
theorem f4_46 : fetch 4 46 = some (.return_, 1) := vtab tk4 24 rfl
theorem e4_46 (L : VL) (h : VG) : ev 4 46 L [] h = some (none, h) := G_vret f4_46 (by decide)
/-! 5 GuestCalls$Bin.rowRefusal()I -/
def tb5 : List (Nat × Instr × Nat) := [(0, .aload_n 0, 1), (1, .getfield 9, 3), (4, .bipush 11, 2), (6, .if_icmp .ne 5, 3), (9, .iconst 3, 1), (10, .ireturn, 1), (11, .aload_n 0, 1), (12, .getfield 9, 3), (15, .bipush 10, 2), (17, .if_icmp .ne 7, 3), (20, .iconst 2, 1), (21, .goto 4, 3), (24, .iconst 0, 1), (25, .ireturn, 1)]
theorem tk5 : tb5.all (fun q => decide (fetch 5 q.1 = some q.2)) = true := by decide +kernel
theorem f5_0 : fetch 5 0 = some (.aload_n 0, 1) := vtab tk5 0 rfl
theorem e5_0 (L : VL) (st : List Value) (h : VG) (x : Nat) : ev 5 0 (some (.ref x) :: L) (st) h = ev 5 1 (some (.ref x) :: L) (.ref x :: st) h := G_aload_n f5_0 rfl
theorem f5_1 : fetch 5 1 = some (.getfield 9, 3) := vtab tk5 1 rfl
theorem e5_1 (L : VL) (st : List Value) (h : VG) (a : Nat) (ho : ob h a 1) : ev 5 1 L (.ref a :: st) h = ev 5 4 L (.int (gI h a 0) :: st) h := G_getI (p := 365) f5_1 lkF_1_9 (by decide) (by decide) ho
theorem f5_4 : fetch 5 4 = some (.bipush 11, 2) := vtab tk5 2 rfl
theorem e5_4 (L : VL) (st : List Value) (h : VG) : ev 5 4 L (st) h = ev 5 6 L (.int (11 : Int32) :: st) h := G_bipush f5_4 (by decide)
theorem f5_6 : fetch 5 6 = some (.if_icmp .ne 5, 3) := vtab tk5 3 rfl
theorem e5_6 (L : VL) (st : List Value) (h : VG) (x y : Int32) : ev 5 6 L (.int y :: .int x :: st) h = if x = y then ev 5 9 L st h else ev 5 11 L st h := G_icmp_ne f5_6 (by decide)
theorem f5_9 : fetch 5 9 = some (.iconst 3, 1) := vtab tk5 4 rfl
theorem e5_9 (L : VL) (st : List Value) (h : VG) : ev 5 9 L (st) h = ev 5 10 L (.int (3 : Int32) :: st) h := G_iconst f5_9 (by decide)
theorem f5_10 : fetch 5 10 = some (.ireturn, 1) := vtab tk5 5 rfl
theorem e5_10 (L : VL) (h : VG) (x : Int32) : ev 5 10 L [.int x] h = some (some (.int x), h) := G_iret f5_10 (ty := .int) (by decide) rfl
theorem f5_11 : fetch 5 11 = some (.aload_n 0, 1) := vtab tk5 6 rfl
theorem e5_11 (L : VL) (st : List Value) (h : VG) (x : Nat) : ev 5 11 (some (.ref x) :: L) (st) h = ev 5 12 (some (.ref x) :: L) (.ref x :: st) h := G_aload_n f5_11 rfl
theorem f5_12 : fetch 5 12 = some (.getfield 9, 3) := vtab tk5 7 rfl
theorem e5_12 (L : VL) (st : List Value) (h : VG) (a : Nat) (ho : ob h a 1) : ev 5 12 L (.ref a :: st) h = ev 5 15 L (.int (gI h a 0) :: st) h := G_getI (p := 365) f5_12 lkF_1_9 (by decide) (by decide) ho
theorem f5_15 : fetch 5 15 = some (.bipush 10, 2) := vtab tk5 8 rfl
theorem e5_15 (L : VL) (st : List Value) (h : VG) : ev 5 15 L (st) h = ev 5 17 L (.int (10 : Int32) :: st) h := G_bipush f5_15 (by decide)
theorem f5_17 : fetch 5 17 = some (.if_icmp .ne 7, 3) := vtab tk5 9 rfl
theorem e5_17 (L : VL) (st : List Value) (h : VG) (x y : Int32) : ev 5 17 L (.int y :: .int x :: st) h = if x = y then ev 5 20 L st h else ev 5 24 L st h := G_icmp_ne f5_17 (by decide)
theorem f5_20 : fetch 5 20 = some (.iconst 2, 1) := vtab tk5 10 rfl
theorem e5_20 (L : VL) (st : List Value) (h : VG) : ev 5 20 L (st) h = ev 5 21 L (.int (2 : Int32) :: st) h := G_iconst f5_20 (by decide)
theorem f5_21 : fetch 5 21 = some (.goto 4, 3) := vtab tk5 11 rfl
theorem e5_21 (L : VL) (st : List Value) (h : VG) : ev 5 21 L (st) h = ev 5 25 L (st) h := G_goto f5_21 (by decide)
theorem f5_24 : fetch 5 24 = some (.iconst 0, 1) := vtab tk5 12 rfl
theorem e5_24 (L : VL) (st : List Value) (h : VG) : ev 5 24 L (st) h = ev 5 25 L (.int (0 : Int32) :: st) h := G_iconst f5_24 (by decide)
theorem f5_25 : fetch 5 25 = some (.ireturn, 1) := vtab tk5 13 rfl
theorem e5_25 (L : VL) (h : VG) (x : Int32) : ev 5 25 L [.int x] h = some (some (.int x), h) := G_iret f5_25 (ty := .int) (by decide) rfl
/-! 6 GuestCalls$Bin.placeRefusal(I)I -/
def tb6 : List (Nat × Instr × Nat) := [(0, .iload_n 1, 1), (1, .ifCond .lt 15, 3), (4, .iload_n 1, 1), (5, .aload_n 0, 1), (6, .getfield 23, 3), (9, .if_icmp .ge 7, 3), (12, .iconst 0, 1), (13, .goto 4, 3), (16, .iconst 1, 1), (17, .ireturn, 1)]
theorem tk6 : tb6.all (fun q => decide (fetch 6 q.1 = some q.2)) = true := by decide +kernel
theorem f6_0 : fetch 6 0 = some (.iload_n 1, 1) := vtab tk6 0 rfl
theorem e6_0 (l0 : Option Value) (L : VL) (st : List Value) (h : VG) (x : Int32) : ev 6 0 (l0 :: some (.int x) :: L) (st) h = ev 6 1 (l0 :: some (.int x) :: L) (.int x :: st) h := G_iload_n f6_0 rfl
theorem f6_1 : fetch 6 1 = some (.ifCond .lt 15, 3) := vtab tk6 1 rfl
theorem e6_1 (L : VL) (st : List Value) (h : VG) (x : Int32) : ev 6 1 L (.int x :: st) h = if x < 0 then ev 6 16 L st h else ev 6 4 L st h := G_if_lt f6_1 (by decide)
theorem f6_4 : fetch 6 4 = some (.iload_n 1, 1) := vtab tk6 2 rfl
theorem e6_4 (l0 : Option Value) (L : VL) (st : List Value) (h : VG) (x : Int32) : ev 6 4 (l0 :: some (.int x) :: L) (st) h = ev 6 5 (l0 :: some (.int x) :: L) (.int x :: st) h := G_iload_n f6_4 rfl
theorem f6_5 : fetch 6 5 = some (.aload_n 0, 1) := vtab tk6 3 rfl
theorem e6_5 (L : VL) (st : List Value) (h : VG) (x : Nat) : ev 6 5 (some (.ref x) :: L) (st) h = ev 6 6 (some (.ref x) :: L) (.ref x :: st) h := G_aload_n f6_5 rfl
theorem f6_6 : fetch 6 6 = some (.getfield 23, 3) := vtab tk6 4 rfl
theorem e6_6 (L : VL) (st : List Value) (h : VG) (a : Nat) (ho : ob h a 1) : ev 6 6 L (.ref a :: st) h = ev 6 9 L (.int (gI h a 1) :: st) h := G_getI (p := 368) f6_6 lkF_1_23 (by decide) (by decide) ho
theorem f6_9 : fetch 6 9 = some (.if_icmp .ge 7, 3) := vtab tk6 5 rfl
theorem e6_9 (L : VL) (st : List Value) (h : VG) (x y : Int32) : ev 6 9 L (.int y :: .int x :: st) h = if x < y then ev 6 12 L st h else ev 6 16 L st h := G_icmp_ge f6_9 (by decide)
theorem f6_12 : fetch 6 12 = some (.iconst 0, 1) := vtab tk6 6 rfl
theorem e6_12 (L : VL) (st : List Value) (h : VG) : ev 6 12 L (st) h = ev 6 13 L (.int (0 : Int32) :: st) h := G_iconst f6_12 (by decide)
theorem f6_13 : fetch 6 13 = some (.goto 4, 3) := vtab tk6 7 rfl
theorem e6_13 (L : VL) (st : List Value) (h : VG) : ev 6 13 L (st) h = ev 6 17 L (st) h := G_goto f6_13 (by decide)
theorem f6_16 : fetch 6 16 = some (.iconst 1, 1) := vtab tk6 8 rfl
theorem e6_16 (L : VL) (st : List Value) (h : VG) : ev 6 16 L (st) h = ev 6 17 L (.int (1 : Int32) :: st) h := G_iconst f6_16 (by decide)
theorem f6_17 : fetch 6 17 = some (.ireturn, 1) := vtab tk6 9 rfl
theorem e6_17 (L : VL) (h : VG) (x : Int32) : ev 6 17 L [.int x] h = some (some (.int x), h) := G_iret f6_17 (ty := .int) (by decide) rfl
/-! 7 GuestCalls$Bin.cellRefusal(I)I -/
def tb7 : List (Nat × Instr × Nat) := [(0, .aload_n 0, 1), (1, .invokevirtual 41, 3), (4, .istore_n 2, 1), (5, .iload_n 2, 1), (6, .ifCond .eq 7, 3), (9, .iload_n 2, 1), (10, .goto 8, 3), (13, .aload_n 0, 1), (14, .iload_n 1, 1), (15, .invokevirtual 45, 3), (18, .ireturn, 1)]
theorem tk7 : tb7.all (fun q => decide (fetch 7 q.1 = some q.2)) = true := by decide +kernel
theorem f7_0 : fetch 7 0 = some (.aload_n 0, 1) := vtab tk7 0 rfl
theorem e7_0 (L : VL) (st : List Value) (h : VG) (x : Nat) : ev 7 0 (some (.ref x) :: L) (st) h = ev 7 1 (some (.ref x) :: L) (.ref x :: st) h := G_aload_n f7_0 rfl
theorem f7_1 : fetch 7 1 = some (.invokevirtual 41, 3) := vtab tk7 1 rfl
theorem e7_1 (L : VL) (st : List Value) (h : VG) (b : Nat)  (ho : ob h b 1) (hs : catS st ≤ 8) : ev 7 1 L (.ref b :: st) h = (ev 5 0 [some (.ref b)] [] h).bind fun q => ev 7 4 L (q.1.toList ++ st) q.2 := G_callv (k := 1) (p := 731) (ars := []) f7_1 lkC_1_41 (by decide) (by decide +kernel) rfl (vcls_ob (ci := 1) (by decide) ho) (Nat.le_of_ble_eq_true rfl) hs rfl
theorem f7_4 : fetch 7 4 = some (.istore_n 2, 1) := vtab tk7 2 rfl
theorem e7_4 (l0 l1 l2 : Option Value) (L : VL) (st : List Value) (h : VG) (x : Int32) : ev 7 4 (l0 :: l1 :: l2 :: L) (.int x :: st) h = ev 7 5 (l0 :: vkk l1 :: some (.int x) :: L) (st) h := G_istore_n f7_4 rfl (S1_2 l0 l1 l2 L _)
theorem f7_5 : fetch 7 5 = some (.iload_n 2, 1) := vtab tk7 3 rfl
theorem e7_5 (l0 l1 : Option Value) (L : VL) (st : List Value) (h : VG) (x : Int32) : ev 7 5 (l0 :: l1 :: some (.int x) :: L) (st) h = ev 7 6 (l0 :: l1 :: some (.int x) :: L) (.int x :: st) h := G_iload_n f7_5 rfl
theorem f7_6 : fetch 7 6 = some (.ifCond .eq 7, 3) := vtab tk7 4 rfl
theorem e7_6 (L : VL) (st : List Value) (h : VG) (x : Int32) : ev 7 6 L (.int x :: st) h = if x = 0 then ev 7 13 L st h else ev 7 9 L st h := G_if_eq f7_6 (by decide)
theorem f7_9 : fetch 7 9 = some (.iload_n 2, 1) := vtab tk7 5 rfl
theorem e7_9 (l0 l1 : Option Value) (L : VL) (st : List Value) (h : VG) (x : Int32) : ev 7 9 (l0 :: l1 :: some (.int x) :: L) (st) h = ev 7 10 (l0 :: l1 :: some (.int x) :: L) (.int x :: st) h := G_iload_n f7_9 rfl
theorem f7_10 : fetch 7 10 = some (.goto 8, 3) := vtab tk7 6 rfl
theorem e7_10 (L : VL) (st : List Value) (h : VG) : ev 7 10 L (st) h = ev 7 18 L (st) h := G_goto f7_10 (by decide)
theorem f7_13 : fetch 7 13 = some (.aload_n 0, 1) := vtab tk7 7 rfl
theorem e7_13 (L : VL) (st : List Value) (h : VG) (x : Nat) : ev 7 13 (some (.ref x) :: L) (st) h = ev 7 14 (some (.ref x) :: L) (.ref x :: st) h := G_aload_n f7_13 rfl
theorem f7_14 : fetch 7 14 = some (.iload_n 1, 1) := vtab tk7 8 rfl
theorem e7_14 (l0 : Option Value) (L : VL) (st : List Value) (h : VG) (x : Int32) : ev 7 14 (l0 :: some (.int x) :: L) (st) h = ev 7 15 (l0 :: some (.int x) :: L) (.int x :: st) h := G_iload_n f7_14 rfl
theorem f7_15 : fetch 7 15 = some (.invokevirtual 45, 3) := vtab tk7 9 rfl
theorem e7_15 (L : VL) (st : List Value) (h : VG) (b : Nat) (x0 : Int32) (ho : ob h b 1) (hs : catS st ≤ 8) : ev 7 15 L (.int x0 :: .ref b :: st) h = (ev 6 0 [some (.ref b), some (.int x0)] [] h).bind fun q => ev 7 18 L (q.1.toList ++ st) q.2 := G_callv (k := 1) (p := 732) (ars := [.int x0]) f7_15 lkC_1_45 (by decide) (by decide +kernel) rfl (vcls_ob (ci := 1) (by decide) ho) (Nat.le_of_ble_eq_true rfl) hs rfl
theorem f7_18 : fetch 7 18 = some (.ireturn, 1) := vtab tk7 10 rfl
theorem e7_18 (L : VL) (h : VG) (x : Int32) : ev 7 18 L [.int x] h = some (some (.int x), h) := G_iret f7_18 (ty := .int) (by decide) rfl
/-! 8 GuestCalls$Bin.numberRefusal(I)I -/
def tb8 : List (Nat × Instr × Nat) := [(0, .aload_n 0, 1), (1, .getfield 9, 3), (4, .bipush 8, 2), (6, .if_icmp .eq 12, 3), (9, .aload_n 0, 1), (10, .getfield 9, 3), (13, .bipush 9, 2), (15, .if_icmp .ne 5, 3), (18, .iconst 2, 1), (19, .ireturn, 1), (20, .aload_n 0, 1), (21, .iload_n 1, 1), (22, .invokevirtual 49, 3), (25, .ireturn, 1)]
theorem tk8 : tb8.all (fun q => decide (fetch 8 q.1 = some q.2)) = true := by decide +kernel
theorem f8_0 : fetch 8 0 = some (.aload_n 0, 1) := vtab tk8 0 rfl
theorem e8_0 (L : VL) (st : List Value) (h : VG) (x : Nat) : ev 8 0 (some (.ref x) :: L) (st) h = ev 8 1 (some (.ref x) :: L) (.ref x :: st) h := G_aload_n f8_0 rfl
theorem f8_1 : fetch 8 1 = some (.getfield 9, 3) := vtab tk8 1 rfl
theorem e8_1 (L : VL) (st : List Value) (h : VG) (a : Nat) (ho : ob h a 1) : ev 8 1 L (.ref a :: st) h = ev 8 4 L (.int (gI h a 0) :: st) h := G_getI (p := 365) f8_1 lkF_1_9 (by decide) (by decide) ho
theorem f8_4 : fetch 8 4 = some (.bipush 8, 2) := vtab tk8 2 rfl
theorem e8_4 (L : VL) (st : List Value) (h : VG) : ev 8 4 L (st) h = ev 8 6 L (.int (8 : Int32) :: st) h := G_bipush f8_4 (by decide)
theorem f8_6 : fetch 8 6 = some (.if_icmp .eq 12, 3) := vtab tk8 3 rfl
theorem e8_6 (L : VL) (st : List Value) (h : VG) (x y : Int32) : ev 8 6 L (.int y :: .int x :: st) h = if x = y then ev 8 18 L st h else ev 8 9 L st h := G_icmp_eq f8_6 (by decide)
theorem f8_9 : fetch 8 9 = some (.aload_n 0, 1) := vtab tk8 4 rfl
theorem e8_9 (L : VL) (st : List Value) (h : VG) (x : Nat) : ev 8 9 (some (.ref x) :: L) (st) h = ev 8 10 (some (.ref x) :: L) (.ref x :: st) h := G_aload_n f8_9 rfl
theorem f8_10 : fetch 8 10 = some (.getfield 9, 3) := vtab tk8 5 rfl
theorem e8_10 (L : VL) (st : List Value) (h : VG) (a : Nat) (ho : ob h a 1) : ev 8 10 L (.ref a :: st) h = ev 8 13 L (.int (gI h a 0) :: st) h := G_getI (p := 365) f8_10 lkF_1_9 (by decide) (by decide) ho
theorem f8_13 : fetch 8 13 = some (.bipush 9, 2) := vtab tk8 6 rfl
theorem e8_13 (L : VL) (st : List Value) (h : VG) : ev 8 13 L (st) h = ev 8 15 L (.int (9 : Int32) :: st) h := G_bipush f8_13 (by decide)
theorem f8_15 : fetch 8 15 = some (.if_icmp .ne 5, 3) := vtab tk8 7 rfl
theorem e8_15 (L : VL) (st : List Value) (h : VG) (x y : Int32) : ev 8 15 L (.int y :: .int x :: st) h = if x = y then ev 8 18 L st h else ev 8 20 L st h := G_icmp_ne f8_15 (by decide)
theorem f8_18 : fetch 8 18 = some (.iconst 2, 1) := vtab tk8 8 rfl
theorem e8_18 (L : VL) (st : List Value) (h : VG) : ev 8 18 L (st) h = ev 8 19 L (.int (2 : Int32) :: st) h := G_iconst f8_18 (by decide)
theorem f8_19 : fetch 8 19 = some (.ireturn, 1) := vtab tk8 9 rfl
theorem e8_19 (L : VL) (h : VG) (x : Int32) : ev 8 19 L [.int x] h = some (some (.int x), h) := G_iret f8_19 (ty := .int) (by decide) rfl
theorem f8_20 : fetch 8 20 = some (.aload_n 0, 1) := vtab tk8 10 rfl
theorem e8_20 (L : VL) (st : List Value) (h : VG) (x : Nat) : ev 8 20 (some (.ref x) :: L) (st) h = ev 8 21 (some (.ref x) :: L) (.ref x :: st) h := G_aload_n f8_20 rfl
theorem f8_21 : fetch 8 21 = some (.iload_n 1, 1) := vtab tk8 11 rfl
theorem e8_21 (l0 : Option Value) (L : VL) (st : List Value) (h : VG) (x : Int32) : ev 8 21 (l0 :: some (.int x) :: L) (st) h = ev 8 22 (l0 :: some (.int x) :: L) (.int x :: st) h := G_iload_n f8_21 rfl
theorem f8_22 : fetch 8 22 = some (.invokevirtual 49, 3) := vtab tk8 12 rfl
theorem e8_22 (L : VL) (st : List Value) (h : VG) (b : Nat) (x0 : Int32) (ho : ob h b 1) (hs : catS st ≤ 8) : ev 8 22 L (.int x0 :: .ref b :: st) h = (ev 7 0 [some (.ref b), some (.int x0), none] [] h).bind fun q => ev 8 25 L (q.1.toList ++ st) q.2 := G_callv (k := 1) (p := 727) (ars := [.int x0]) f8_22 lkC_1_49 (by decide) (by decide +kernel) rfl (vcls_ob (ci := 1) (by decide) ho) (Nat.le_of_ble_eq_true rfl) hs rfl
theorem f8_25 : fetch 8 25 = some (.ireturn, 1) := vtab tk8 13 rfl
theorem e8_25 (L : VL) (h : VG) (x : Int32) : ev 8 25 L [.int x] h = some (some (.int x), h) := G_iret f8_25 (ty := .int) (by decide) rfl
/-! 9 GuestCalls$Bin.readRefusal(II)I -/
def tb9 : List (Nat × Instr × Nat) := [(0, .aload_n 0, 1), (1, .iload_n 1, 1), (2, .invokevirtual 52, 3), (5, .istore_n 3, 1), (6, .iload_n 3, 1), (7, .ifCond .ne 14, 3), (10, .aload_n 0, 1), (11, .getfield 9, 3), (14, .iload_n 2, 1), (15, .invokestatic 55, 3), (18, .ifCond .eq 7, 3), (21, .iload_n 3, 1), (22, .goto 4, 3), (25, .iconst 2, 1), (26, .ireturn, 1)]
theorem tk9 : tb9.all (fun q => decide (fetch 9 q.1 = some q.2)) = true := by decide +kernel
theorem f9_0 : fetch 9 0 = some (.aload_n 0, 1) := vtab tk9 0 rfl
theorem e9_0 (L : VL) (st : List Value) (h : VG) (x : Nat) : ev 9 0 (some (.ref x) :: L) (st) h = ev 9 1 (some (.ref x) :: L) (.ref x :: st) h := G_aload_n f9_0 rfl
theorem f9_1 : fetch 9 1 = some (.iload_n 1, 1) := vtab tk9 1 rfl
theorem e9_1 (l0 : Option Value) (L : VL) (st : List Value) (h : VG) (x : Int32) : ev 9 1 (l0 :: some (.int x) :: L) (st) h = ev 9 2 (l0 :: some (.int x) :: L) (.int x :: st) h := G_iload_n f9_1 rfl
theorem f9_2 : fetch 9 2 = some (.invokevirtual 52, 3) := vtab tk9 2 rfl
theorem e9_2 (L : VL) (st : List Value) (h : VG) (b : Nat) (x0 : Int32) (ho : ob h b 1) (hs : catS st ≤ 8) : ev 9 2 L (.int x0 :: .ref b :: st) h = (ev 8 0 [some (.ref b), some (.int x0)] [] h).bind fun q => ev 9 5 L (q.1.toList ++ st) q.2 := G_callv (k := 1) (p := 723) (ars := [.int x0]) f9_2 lkC_1_52 (by decide) (by decide +kernel) rfl (vcls_ob (ci := 1) (by decide) ho) (Nat.le_of_ble_eq_true rfl) hs rfl
theorem f9_5 : fetch 9 5 = some (.istore_n 3, 1) := vtab tk9 3 rfl
theorem e9_5 (l0 l1 l2 l3 : Option Value) (L : VL) (st : List Value) (h : VG) (x : Int32) : ev 9 5 (l0 :: l1 :: l2 :: l3 :: L) (.int x :: st) h = ev 9 6 (l0 :: l1 :: vkk l2 :: some (.int x) :: L) (st) h := G_istore_n f9_5 rfl (S1_3 l0 l1 l2 l3 L _)
theorem f9_6 : fetch 9 6 = some (.iload_n 3, 1) := vtab tk9 4 rfl
theorem e9_6 (l0 l1 l2 : Option Value) (L : VL) (st : List Value) (h : VG) (x : Int32) : ev 9 6 (l0 :: l1 :: l2 :: some (.int x) :: L) (st) h = ev 9 7 (l0 :: l1 :: l2 :: some (.int x) :: L) (.int x :: st) h := G_iload_n f9_6 rfl
theorem f9_7 : fetch 9 7 = some (.ifCond .ne 14, 3) := vtab tk9 5 rfl
theorem e9_7 (L : VL) (st : List Value) (h : VG) (x : Int32) : ev 9 7 L (.int x :: st) h = if x = 0 then ev 9 10 L st h else ev 9 21 L st h := G_if_ne f9_7 (by decide)
theorem f9_10 : fetch 9 10 = some (.aload_n 0, 1) := vtab tk9 6 rfl
theorem e9_10 (L : VL) (st : List Value) (h : VG) (x : Nat) : ev 9 10 (some (.ref x) :: L) (st) h = ev 9 11 (some (.ref x) :: L) (.ref x :: st) h := G_aload_n f9_10 rfl
theorem f9_11 : fetch 9 11 = some (.getfield 9, 3) := vtab tk9 7 rfl
theorem e9_11 (L : VL) (st : List Value) (h : VG) (a : Nat) (ho : ob h a 1) : ev 9 11 L (.ref a :: st) h = ev 9 14 L (.int (gI h a 0) :: st) h := G_getI (p := 365) f9_11 lkF_1_9 (by decide) (by decide) ho
theorem f9_14 : fetch 9 14 = some (.iload_n 2, 1) := vtab tk9 8 rfl
theorem e9_14 (l0 l1 : Option Value) (L : VL) (st : List Value) (h : VG) (x : Int32) : ev 9 14 (l0 :: l1 :: some (.int x) :: L) (st) h = ev 9 15 (l0 :: l1 :: some (.int x) :: L) (.int x :: st) h := G_iload_n f9_14 rfl
theorem f9_15 : fetch 9 15 = some (.invokestatic 55, 3) := vtab tk9 9 rfl
theorem e9_15 (L : VL) (st : List Value) (h : VG) (x0 : Int32) (x1 : Int32) (hs : catS st ≤ 8) : ev 9 15 L (.int x1 :: .int x0 :: st) h = (ev 34 0 [some (.int x0), some (.int x1)] [] h).bind fun q => ev 9 18 L (q.1.toList ++ st) q.2 := G_calls (k := 0) (p := 736) (ars := [.int x0, .int x1]) f9_15 lkC_1_55 (by decide) (by decide +kernel) rfl (Nat.le_of_ble_eq_true rfl) hs rfl
theorem f9_18 : fetch 9 18 = some (.ifCond .eq 7, 3) := vtab tk9 10 rfl
theorem e9_18 (L : VL) (st : List Value) (h : VG) (x : Int32) : ev 9 18 L (.int x :: st) h = if x = 0 then ev 9 25 L st h else ev 9 21 L st h := G_if_eq f9_18 (by decide)
theorem f9_21 : fetch 9 21 = some (.iload_n 3, 1) := vtab tk9 11 rfl
theorem e9_21 (l0 l1 l2 : Option Value) (L : VL) (st : List Value) (h : VG) (x : Int32) : ev 9 21 (l0 :: l1 :: l2 :: some (.int x) :: L) (st) h = ev 9 22 (l0 :: l1 :: l2 :: some (.int x) :: L) (.int x :: st) h := G_iload_n f9_21 rfl
theorem f9_22 : fetch 9 22 = some (.goto 4, 3) := vtab tk9 12 rfl
theorem e9_22 (L : VL) (st : List Value) (h : VG) : ev 9 22 L (st) h = ev 9 26 L (st) h := G_goto f9_22 (by decide)
theorem f9_25 : fetch 9 25 = some (.iconst 2, 1) := vtab tk9 13 rfl
theorem e9_25 (L : VL) (st : List Value) (h : VG) : ev 9 25 L (st) h = ev 9 26 L (.int (2 : Int32) :: st) h := G_iconst f9_25 (by decide)
theorem f9_26 : fetch 9 26 = some (.ireturn, 1) := vtab tk9 14 rfl
theorem e9_26 (L : VL) (h : VG) (x : Int32) : ev 9 26 L [.int x] h = some (some (.int x), h) := G_iret f9_26 (ty := .int) (by decide) rfl
/-! 10 GuestCalls$Bin.writeRefusal(II)I -/
def tb10 : List (Nat × Instr × Nat) := [(0, .aload_n 0, 1), (1, .iload_n 1, 1), (2, .invokevirtual 52, 3), (5, .istore_n 3, 1), (6, .iload_n 3, 1), (7, .ifCond .ne 14, 3), (10, .iload_n 2, 1), (11, .aload_n 0, 1), (12, .getfield 9, 3), (15, .invokestatic 55, 3), (18, .ifCond .eq 7, 3), (21, .iload_n 3, 1), (22, .goto 4, 3), (25, .iconst 2, 1), (26, .ireturn, 1)]
theorem tk10 : tb10.all (fun q => decide (fetch 10 q.1 = some q.2)) = true := by decide +kernel
theorem f10_0 : fetch 10 0 = some (.aload_n 0, 1) := vtab tk10 0 rfl
theorem e10_0 (L : VL) (st : List Value) (h : VG) (x : Nat) : ev 10 0 (some (.ref x) :: L) (st) h = ev 10 1 (some (.ref x) :: L) (.ref x :: st) h := G_aload_n f10_0 rfl
theorem f10_1 : fetch 10 1 = some (.iload_n 1, 1) := vtab tk10 1 rfl
theorem e10_1 (l0 : Option Value) (L : VL) (st : List Value) (h : VG) (x : Int32) : ev 10 1 (l0 :: some (.int x) :: L) (st) h = ev 10 2 (l0 :: some (.int x) :: L) (.int x :: st) h := G_iload_n f10_1 rfl
theorem f10_2 : fetch 10 2 = some (.invokevirtual 52, 3) := vtab tk10 2 rfl
theorem e10_2 (L : VL) (st : List Value) (h : VG) (b : Nat) (x0 : Int32) (ho : ob h b 1) (hs : catS st ≤ 8) : ev 10 2 L (.int x0 :: .ref b :: st) h = (ev 8 0 [some (.ref b), some (.int x0)] [] h).bind fun q => ev 10 5 L (q.1.toList ++ st) q.2 := G_callv (k := 1) (p := 723) (ars := [.int x0]) f10_2 lkC_1_52 (by decide) (by decide +kernel) rfl (vcls_ob (ci := 1) (by decide) ho) (Nat.le_of_ble_eq_true rfl) hs rfl
theorem f10_5 : fetch 10 5 = some (.istore_n 3, 1) := vtab tk10 3 rfl
theorem e10_5 (l0 l1 l2 l3 : Option Value) (L : VL) (st : List Value) (h : VG) (x : Int32) : ev 10 5 (l0 :: l1 :: l2 :: l3 :: L) (.int x :: st) h = ev 10 6 (l0 :: l1 :: vkk l2 :: some (.int x) :: L) (st) h := G_istore_n f10_5 rfl (S1_3 l0 l1 l2 l3 L _)
theorem f10_6 : fetch 10 6 = some (.iload_n 3, 1) := vtab tk10 4 rfl
theorem e10_6 (l0 l1 l2 : Option Value) (L : VL) (st : List Value) (h : VG) (x : Int32) : ev 10 6 (l0 :: l1 :: l2 :: some (.int x) :: L) (st) h = ev 10 7 (l0 :: l1 :: l2 :: some (.int x) :: L) (.int x :: st) h := G_iload_n f10_6 rfl
theorem f10_7 : fetch 10 7 = some (.ifCond .ne 14, 3) := vtab tk10 5 rfl
theorem e10_7 (L : VL) (st : List Value) (h : VG) (x : Int32) : ev 10 7 L (.int x :: st) h = if x = 0 then ev 10 10 L st h else ev 10 21 L st h := G_if_ne f10_7 (by decide)
theorem f10_10 : fetch 10 10 = some (.iload_n 2, 1) := vtab tk10 6 rfl
theorem e10_10 (l0 l1 : Option Value) (L : VL) (st : List Value) (h : VG) (x : Int32) : ev 10 10 (l0 :: l1 :: some (.int x) :: L) (st) h = ev 10 11 (l0 :: l1 :: some (.int x) :: L) (.int x :: st) h := G_iload_n f10_10 rfl
theorem f10_11 : fetch 10 11 = some (.aload_n 0, 1) := vtab tk10 7 rfl
theorem e10_11 (L : VL) (st : List Value) (h : VG) (x : Nat) : ev 10 11 (some (.ref x) :: L) (st) h = ev 10 12 (some (.ref x) :: L) (.ref x :: st) h := G_aload_n f10_11 rfl
theorem f10_12 : fetch 10 12 = some (.getfield 9, 3) := vtab tk10 8 rfl
theorem e10_12 (L : VL) (st : List Value) (h : VG) (a : Nat) (ho : ob h a 1) : ev 10 12 L (.ref a :: st) h = ev 10 15 L (.int (gI h a 0) :: st) h := G_getI (p := 365) f10_12 lkF_1_9 (by decide) (by decide) ho
theorem f10_15 : fetch 10 15 = some (.invokestatic 55, 3) := vtab tk10 9 rfl
theorem e10_15 (L : VL) (st : List Value) (h : VG) (x0 : Int32) (x1 : Int32) (hs : catS st ≤ 8) : ev 10 15 L (.int x1 :: .int x0 :: st) h = (ev 34 0 [some (.int x0), some (.int x1)] [] h).bind fun q => ev 10 18 L (q.1.toList ++ st) q.2 := G_calls (k := 0) (p := 736) (ars := [.int x0, .int x1]) f10_15 lkC_1_55 (by decide) (by decide +kernel) rfl (Nat.le_of_ble_eq_true rfl) hs rfl
theorem f10_18 : fetch 10 18 = some (.ifCond .eq 7, 3) := vtab tk10 10 rfl
theorem e10_18 (L : VL) (st : List Value) (h : VG) (x : Int32) : ev 10 18 L (.int x :: st) h = if x = 0 then ev 10 25 L st h else ev 10 21 L st h := G_if_eq f10_18 (by decide)
theorem f10_21 : fetch 10 21 = some (.iload_n 3, 1) := vtab tk10 11 rfl
theorem e10_21 (l0 l1 l2 : Option Value) (L : VL) (st : List Value) (h : VG) (x : Int32) : ev 10 21 (l0 :: l1 :: l2 :: some (.int x) :: L) (st) h = ev 10 22 (l0 :: l1 :: l2 :: some (.int x) :: L) (.int x :: st) h := G_iload_n f10_21 rfl
theorem f10_22 : fetch 10 22 = some (.goto 4, 3) := vtab tk10 12 rfl
theorem e10_22 (L : VL) (st : List Value) (h : VG) : ev 10 22 L (st) h = ev 10 26 L (st) h := G_goto f10_22 (by decide)
theorem f10_25 : fetch 10 25 = some (.iconst 2, 1) := vtab tk10 13 rfl
theorem e10_25 (L : VL) (st : List Value) (h : VG) : ev 10 25 L (st) h = ev 10 26 L (.int (2 : Int32) :: st) h := G_iconst f10_25 (by decide)
theorem f10_26 : fetch 10 26 = some (.ireturn, 1) := vtab tk10 14 rfl
theorem e10_26 (L : VL) (h : VG) (x : Int32) : ev 10 26 L [.int x] h = some (some (.int x), h) := G_iret f10_26 (ty := .int) (by decide) rfl
/-! 11 GuestCalls$Bin.putRefusal(II)I -/
def tb11 : List (Nat × Instr × Nat) := [(0, .aload_n 0, 1), (1, .getfield 9, 3), (4, .bipush 7, 2), (6, .if_icmp .gt 11, 3), (9, .iload_n 2, 1), (10, .bipush (-2), 2), (12, .if_icmp .ne 5, 3), (15, .iconst 2, 1), (16, .ireturn, 1), (17, .aload_n 0, 1), (18, .iload_n 1, 1), (19, .invokevirtual 49, 3), (22, .istore_n 3, 1), (23, .iload_n 3, 1), (24, .ifCond .ne 11, 3), (27, .aload_n 0, 1), (28, .iload_n 2, 1), (29, .invokevirtual 61, 3), (32, .ifCond .eq 7, 3), (35, .iload_n 3, 1), (36, .goto 4, 3), (39, .iconst 2, 1), (40, .ireturn, 1)]
theorem tk11 : tb11.all (fun q => decide (fetch 11 q.1 = some q.2)) = true := by decide +kernel
theorem f11_0 : fetch 11 0 = some (.aload_n 0, 1) := vtab tk11 0 rfl
theorem e11_0 (L : VL) (st : List Value) (h : VG) (x : Nat) : ev 11 0 (some (.ref x) :: L) (st) h = ev 11 1 (some (.ref x) :: L) (.ref x :: st) h := G_aload_n f11_0 rfl
theorem f11_1 : fetch 11 1 = some (.getfield 9, 3) := vtab tk11 1 rfl
theorem e11_1 (L : VL) (st : List Value) (h : VG) (a : Nat) (ho : ob h a 1) : ev 11 1 L (.ref a :: st) h = ev 11 4 L (.int (gI h a 0) :: st) h := G_getI (p := 365) f11_1 lkF_1_9 (by decide) (by decide) ho
theorem f11_4 : fetch 11 4 = some (.bipush 7, 2) := vtab tk11 2 rfl
theorem e11_4 (L : VL) (st : List Value) (h : VG) : ev 11 4 L (st) h = ev 11 6 L (.int (7 : Int32) :: st) h := G_bipush f11_4 (by decide)
theorem f11_6 : fetch 11 6 = some (.if_icmp .gt 11, 3) := vtab tk11 3 rfl
theorem e11_6 (L : VL) (st : List Value) (h : VG) (x y : Int32) : ev 11 6 L (.int y :: .int x :: st) h = if x ≤ y then ev 11 9 L st h else ev 11 17 L st h := G_icmp_gt f11_6 (by decide)
theorem f11_9 : fetch 11 9 = some (.iload_n 2, 1) := vtab tk11 4 rfl
theorem e11_9 (l0 l1 : Option Value) (L : VL) (st : List Value) (h : VG) (x : Int32) : ev 11 9 (l0 :: l1 :: some (.int x) :: L) (st) h = ev 11 10 (l0 :: l1 :: some (.int x) :: L) (.int x :: st) h := G_iload_n f11_9 rfl
theorem f11_10 : fetch 11 10 = some (.bipush (-2), 2) := vtab tk11 5 rfl
theorem e11_10 (L : VL) (st : List Value) (h : VG) : ev 11 10 L (st) h = ev 11 12 L (.int (-2 : Int32) :: st) h := G_bipush f11_10 (by decide)
theorem f11_12 : fetch 11 12 = some (.if_icmp .ne 5, 3) := vtab tk11 6 rfl
theorem e11_12 (L : VL) (st : List Value) (h : VG) (x y : Int32) : ev 11 12 L (.int y :: .int x :: st) h = if x = y then ev 11 15 L st h else ev 11 17 L st h := G_icmp_ne f11_12 (by decide)
theorem f11_15 : fetch 11 15 = some (.iconst 2, 1) := vtab tk11 7 rfl
theorem e11_15 (L : VL) (st : List Value) (h : VG) : ev 11 15 L (st) h = ev 11 16 L (.int (2 : Int32) :: st) h := G_iconst f11_15 (by decide)
theorem f11_16 : fetch 11 16 = some (.ireturn, 1) := vtab tk11 8 rfl
theorem e11_16 (L : VL) (h : VG) (x : Int32) : ev 11 16 L [.int x] h = some (some (.int x), h) := G_iret f11_16 (ty := .int) (by decide) rfl
theorem f11_17 : fetch 11 17 = some (.aload_n 0, 1) := vtab tk11 9 rfl
theorem e11_17 (L : VL) (st : List Value) (h : VG) (x : Nat) : ev 11 17 (some (.ref x) :: L) (st) h = ev 11 18 (some (.ref x) :: L) (.ref x :: st) h := G_aload_n f11_17 rfl
theorem f11_18 : fetch 11 18 = some (.iload_n 1, 1) := vtab tk11 10 rfl
theorem e11_18 (l0 : Option Value) (L : VL) (st : List Value) (h : VG) (x : Int32) : ev 11 18 (l0 :: some (.int x) :: L) (st) h = ev 11 19 (l0 :: some (.int x) :: L) (.int x :: st) h := G_iload_n f11_18 rfl
theorem f11_19 : fetch 11 19 = some (.invokevirtual 49, 3) := vtab tk11 11 rfl
theorem e11_19 (L : VL) (st : List Value) (h : VG) (b : Nat) (x0 : Int32) (ho : ob h b 1) (hs : catS st ≤ 8) : ev 11 19 L (.int x0 :: .ref b :: st) h = (ev 7 0 [some (.ref b), some (.int x0), none] [] h).bind fun q => ev 11 22 L (q.1.toList ++ st) q.2 := G_callv (k := 1) (p := 727) (ars := [.int x0]) f11_19 lkC_1_49 (by decide) (by decide +kernel) rfl (vcls_ob (ci := 1) (by decide) ho) (Nat.le_of_ble_eq_true rfl) hs rfl
theorem f11_22 : fetch 11 22 = some (.istore_n 3, 1) := vtab tk11 12 rfl
theorem e11_22 (l0 l1 l2 l3 : Option Value) (L : VL) (st : List Value) (h : VG) (x : Int32) : ev 11 22 (l0 :: l1 :: l2 :: l3 :: L) (.int x :: st) h = ev 11 23 (l0 :: l1 :: vkk l2 :: some (.int x) :: L) (st) h := G_istore_n f11_22 rfl (S1_3 l0 l1 l2 l3 L _)
theorem f11_23 : fetch 11 23 = some (.iload_n 3, 1) := vtab tk11 13 rfl
theorem e11_23 (l0 l1 l2 : Option Value) (L : VL) (st : List Value) (h : VG) (x : Int32) : ev 11 23 (l0 :: l1 :: l2 :: some (.int x) :: L) (st) h = ev 11 24 (l0 :: l1 :: l2 :: some (.int x) :: L) (.int x :: st) h := G_iload_n f11_23 rfl
theorem f11_24 : fetch 11 24 = some (.ifCond .ne 11, 3) := vtab tk11 14 rfl
theorem e11_24 (L : VL) (st : List Value) (h : VG) (x : Int32) : ev 11 24 L (.int x :: st) h = if x = 0 then ev 11 27 L st h else ev 11 35 L st h := G_if_ne f11_24 (by decide)
theorem f11_27 : fetch 11 27 = some (.aload_n 0, 1) := vtab tk11 15 rfl
theorem e11_27 (L : VL) (st : List Value) (h : VG) (x : Nat) : ev 11 27 (some (.ref x) :: L) (st) h = ev 11 28 (some (.ref x) :: L) (.ref x :: st) h := G_aload_n f11_27 rfl
theorem f11_28 : fetch 11 28 = some (.iload_n 2, 1) := vtab tk11 16 rfl
theorem e11_28 (l0 l1 : Option Value) (L : VL) (st : List Value) (h : VG) (x : Int32) : ev 11 28 (l0 :: l1 :: some (.int x) :: L) (st) h = ev 11 29 (l0 :: l1 :: some (.int x) :: L) (.int x :: st) h := G_iload_n f11_28 rfl
theorem f11_29 : fetch 11 29 = some (.invokevirtual 61, 3) := vtab tk11 17 rfl
theorem e11_29 (L : VL) (st : List Value) (h : VG) (b : Nat) (x0 : Int32) (ho : ob h b 1) (hs : catS st ≤ 8) : ev 11 29 L (.int x0 :: .ref b :: st) h = (ev 12 0 [some (.ref b), some (.int x0)] [] h).bind fun q => ev 11 32 L (q.1.toList ++ st) q.2 := G_callv (k := 1) (p := 818) (ars := [.int x0]) f11_29 lkC_1_61 (by decide) (by decide +kernel) rfl (vcls_ob (ci := 1) (by decide) ho) (Nat.le_of_ble_eq_true rfl) hs rfl
theorem f11_32 : fetch 11 32 = some (.ifCond .eq 7, 3) := vtab tk11 18 rfl
theorem e11_32 (L : VL) (st : List Value) (h : VG) (x : Int32) : ev 11 32 L (.int x :: st) h = if x = 0 then ev 11 39 L st h else ev 11 35 L st h := G_if_eq f11_32 (by decide)
theorem f11_35 : fetch 11 35 = some (.iload_n 3, 1) := vtab tk11 19 rfl
theorem e11_35 (l0 l1 l2 : Option Value) (L : VL) (st : List Value) (h : VG) (x : Int32) : ev 11 35 (l0 :: l1 :: l2 :: some (.int x) :: L) (st) h = ev 11 36 (l0 :: l1 :: l2 :: some (.int x) :: L) (.int x :: st) h := G_iload_n f11_35 rfl
theorem f11_36 : fetch 11 36 = some (.goto 4, 3) := vtab tk11 20 rfl
theorem e11_36 (L : VL) (st : List Value) (h : VG) : ev 11 36 L (st) h = ev 11 40 L (st) h := G_goto f11_36 (by decide)
theorem f11_39 : fetch 11 39 = some (.iconst 2, 1) := vtab tk11 21 rfl
theorem e11_39 (L : VL) (st : List Value) (h : VG) : ev 11 39 L (st) h = ev 11 40 L (.int (2 : Int32) :: st) h := G_iconst f11_39 (by decide)
theorem f11_40 : fetch 11 40 = some (.ireturn, 1) := vtab tk11 22 rfl
theorem e11_40 (L : VL) (h : VG) (x : Int32) : ev 11 40 L [.int x] h = some (some (.int x), h) := G_iret f11_40 (ty := .int) (by decide) rfl
/-! 12 GuestCalls$Bin.takes(I)Z -/
def tb12 : List (Nat × Instr × Nat) := [(0, .aload_n 0, 1), (1, .getfield 9, 3), (4, .bipush 7, 2), (6, .if_icmp .gt 27, 3), (9, .iload_n 1, 1), (10, .invokestatic 65, 3), (13, .ifCond .eq 18, 3), (16, .iload_n 1, 1), (17, .aload_n 0, 1), (18, .getfield 9, 3), (21, .invokestatic 55, 3), (24, .ifCond .eq 7, 3), (27, .iconst 1, 1), (28, .goto 4, 3), (31, .iconst 0, 1), (32, .ireturn, 1), (33, .aload_n 0, 1), (34, .getfield 9, 3), (37, .bipush 8, 2), (39, .if_icmp .eq 15, 3), (42, .iload_n 1, 1), (43, .bipush 8, 2), (45, .if_icmp .eq 9, 3), (48, .iload_n 1, 1), (49, .bipush (-2), 2), (51, .if_icmp .ne 7, 3), (54, .iconst 1, 1), (55, .goto 4, 3), (58, .iconst 0, 1), (59, .ireturn, 1)]
theorem tk12 : tb12.all (fun q => decide (fetch 12 q.1 = some q.2)) = true := by decide +kernel
theorem f12_0 : fetch 12 0 = some (.aload_n 0, 1) := vtab tk12 0 rfl
theorem e12_0 (L : VL) (st : List Value) (h : VG) (x : Nat) : ev 12 0 (some (.ref x) :: L) (st) h = ev 12 1 (some (.ref x) :: L) (.ref x :: st) h := G_aload_n f12_0 rfl
theorem f12_1 : fetch 12 1 = some (.getfield 9, 3) := vtab tk12 1 rfl
theorem e12_1 (L : VL) (st : List Value) (h : VG) (a : Nat) (ho : ob h a 1) : ev 12 1 L (.ref a :: st) h = ev 12 4 L (.int (gI h a 0) :: st) h := G_getI (p := 365) f12_1 lkF_1_9 (by decide) (by decide) ho
theorem f12_4 : fetch 12 4 = some (.bipush 7, 2) := vtab tk12 2 rfl
theorem e12_4 (L : VL) (st : List Value) (h : VG) : ev 12 4 L (st) h = ev 12 6 L (.int (7 : Int32) :: st) h := G_bipush f12_4 (by decide)
theorem f12_6 : fetch 12 6 = some (.if_icmp .gt 27, 3) := vtab tk12 3 rfl
theorem e12_6 (L : VL) (st : List Value) (h : VG) (x y : Int32) : ev 12 6 L (.int y :: .int x :: st) h = if x ≤ y then ev 12 9 L st h else ev 12 33 L st h := G_icmp_gt f12_6 (by decide)
theorem f12_9 : fetch 12 9 = some (.iload_n 1, 1) := vtab tk12 4 rfl
theorem e12_9 (l0 : Option Value) (L : VL) (st : List Value) (h : VG) (x : Int32) : ev 12 9 (l0 :: some (.int x) :: L) (st) h = ev 12 10 (l0 :: some (.int x) :: L) (.int x :: st) h := G_iload_n f12_9 rfl
theorem f12_10 : fetch 12 10 = some (.invokestatic 65, 3) := vtab tk12 5 rfl
theorem e12_10 (L : VL) (st : List Value) (h : VG) (x0 : Int32) (hs : catS st ≤ 8) : ev 12 10 L (.int x0 :: st) h = (ev 103 0 [some (.int x0)] [] h).bind fun q => ev 12 13 L (q.1.toList ++ st) q.2 := G_calls (k := 3) (p := 822) (ars := [.int x0]) f12_10 lkC_1_65 (by decide) (by decide +kernel) rfl (Nat.le_of_ble_eq_true rfl) hs rfl
theorem f12_13 : fetch 12 13 = some (.ifCond .eq 18, 3) := vtab tk12 6 rfl
theorem e12_13 (L : VL) (st : List Value) (h : VG) (x : Int32) : ev 12 13 L (.int x :: st) h = if x = 0 then ev 12 31 L st h else ev 12 16 L st h := G_if_eq f12_13 (by decide)
theorem f12_16 : fetch 12 16 = some (.iload_n 1, 1) := vtab tk12 7 rfl
theorem e12_16 (l0 : Option Value) (L : VL) (st : List Value) (h : VG) (x : Int32) : ev 12 16 (l0 :: some (.int x) :: L) (st) h = ev 12 17 (l0 :: some (.int x) :: L) (.int x :: st) h := G_iload_n f12_16 rfl
theorem f12_17 : fetch 12 17 = some (.aload_n 0, 1) := vtab tk12 8 rfl
theorem e12_17 (L : VL) (st : List Value) (h : VG) (x : Nat) : ev 12 17 (some (.ref x) :: L) (st) h = ev 12 18 (some (.ref x) :: L) (.ref x :: st) h := G_aload_n f12_17 rfl
theorem f12_18 : fetch 12 18 = some (.getfield 9, 3) := vtab tk12 9 rfl
theorem e12_18 (L : VL) (st : List Value) (h : VG) (a : Nat) (ho : ob h a 1) : ev 12 18 L (.ref a :: st) h = ev 12 21 L (.int (gI h a 0) :: st) h := G_getI (p := 365) f12_18 lkF_1_9 (by decide) (by decide) ho
theorem f12_21 : fetch 12 21 = some (.invokestatic 55, 3) := vtab tk12 10 rfl
theorem e12_21 (L : VL) (st : List Value) (h : VG) (x0 : Int32) (x1 : Int32) (hs : catS st ≤ 8) : ev 12 21 L (.int x1 :: .int x0 :: st) h = (ev 34 0 [some (.int x0), some (.int x1)] [] h).bind fun q => ev 12 24 L (q.1.toList ++ st) q.2 := G_calls (k := 0) (p := 736) (ars := [.int x0, .int x1]) f12_21 lkC_1_55 (by decide) (by decide +kernel) rfl (Nat.le_of_ble_eq_true rfl) hs rfl
theorem f12_24 : fetch 12 24 = some (.ifCond .eq 7, 3) := vtab tk12 11 rfl
theorem e12_24 (L : VL) (st : List Value) (h : VG) (x : Int32) : ev 12 24 L (.int x :: st) h = if x = 0 then ev 12 31 L st h else ev 12 27 L st h := G_if_eq f12_24 (by decide)
theorem f12_27 : fetch 12 27 = some (.iconst 1, 1) := vtab tk12 12 rfl
theorem e12_27 (L : VL) (st : List Value) (h : VG) : ev 12 27 L (st) h = ev 12 28 L (.int (1 : Int32) :: st) h := G_iconst f12_27 (by decide)
theorem f12_28 : fetch 12 28 = some (.goto 4, 3) := vtab tk12 13 rfl
theorem e12_28 (L : VL) (st : List Value) (h : VG) : ev 12 28 L (st) h = ev 12 32 L (st) h := G_goto f12_28 (by decide)
theorem f12_31 : fetch 12 31 = some (.iconst 0, 1) := vtab tk12 14 rfl
theorem e12_31 (L : VL) (st : List Value) (h : VG) : ev 12 31 L (st) h = ev 12 32 L (.int (0 : Int32) :: st) h := G_iconst f12_31 (by decide)
theorem f12_32 : fetch 12 32 = some (.ireturn, 1) := vtab tk12 15 rfl
theorem e12_32 (L : VL) (h : VG) (x : Int32) (hz : x = 0 ∨ x = 1) : ev 12 32 L [.int x] h = some (some (.int x), h) := G_iret f12_32 (ty := .boolean) (by decide) (vbool hz).1
theorem f12_33 : fetch 12 33 = some (.aload_n 0, 1) := vtab tk12 16 rfl
theorem e12_33 (L : VL) (st : List Value) (h : VG) (x : Nat) : ev 12 33 (some (.ref x) :: L) (st) h = ev 12 34 (some (.ref x) :: L) (.ref x :: st) h := G_aload_n f12_33 rfl
theorem f12_34 : fetch 12 34 = some (.getfield 9, 3) := vtab tk12 17 rfl
theorem e12_34 (L : VL) (st : List Value) (h : VG) (a : Nat) (ho : ob h a 1) : ev 12 34 L (.ref a :: st) h = ev 12 37 L (.int (gI h a 0) :: st) h := G_getI (p := 365) f12_34 lkF_1_9 (by decide) (by decide) ho
theorem f12_37 : fetch 12 37 = some (.bipush 8, 2) := vtab tk12 18 rfl
theorem e12_37 (L : VL) (st : List Value) (h : VG) : ev 12 37 L (st) h = ev 12 39 L (.int (8 : Int32) :: st) h := G_bipush f12_37 (by decide)
theorem f12_39 : fetch 12 39 = some (.if_icmp .eq 15, 3) := vtab tk12 19 rfl
theorem e12_39 (L : VL) (st : List Value) (h : VG) (x y : Int32) : ev 12 39 L (.int y :: .int x :: st) h = if x = y then ev 12 54 L st h else ev 12 42 L st h := G_icmp_eq f12_39 (by decide)
theorem f12_42 : fetch 12 42 = some (.iload_n 1, 1) := vtab tk12 20 rfl
theorem e12_42 (l0 : Option Value) (L : VL) (st : List Value) (h : VG) (x : Int32) : ev 12 42 (l0 :: some (.int x) :: L) (st) h = ev 12 43 (l0 :: some (.int x) :: L) (.int x :: st) h := G_iload_n f12_42 rfl
theorem f12_43 : fetch 12 43 = some (.bipush 8, 2) := vtab tk12 21 rfl
theorem e12_43 (L : VL) (st : List Value) (h : VG) : ev 12 43 L (st) h = ev 12 45 L (.int (8 : Int32) :: st) h := G_bipush f12_43 (by decide)
theorem f12_45 : fetch 12 45 = some (.if_icmp .eq 9, 3) := vtab tk12 22 rfl
theorem e12_45 (L : VL) (st : List Value) (h : VG) (x y : Int32) : ev 12 45 L (.int y :: .int x :: st) h = if x = y then ev 12 54 L st h else ev 12 48 L st h := G_icmp_eq f12_45 (by decide)
theorem f12_48 : fetch 12 48 = some (.iload_n 1, 1) := vtab tk12 23 rfl
theorem e12_48 (l0 : Option Value) (L : VL) (st : List Value) (h : VG) (x : Int32) : ev 12 48 (l0 :: some (.int x) :: L) (st) h = ev 12 49 (l0 :: some (.int x) :: L) (.int x :: st) h := G_iload_n f12_48 rfl
theorem f12_49 : fetch 12 49 = some (.bipush (-2), 2) := vtab tk12 24 rfl
theorem e12_49 (L : VL) (st : List Value) (h : VG) : ev 12 49 L (st) h = ev 12 51 L (.int (-2 : Int32) :: st) h := G_bipush f12_49 (by decide)
theorem f12_51 : fetch 12 51 = some (.if_icmp .ne 7, 3) := vtab tk12 25 rfl
theorem e12_51 (L : VL) (st : List Value) (h : VG) (x y : Int32) : ev 12 51 L (.int y :: .int x :: st) h = if x = y then ev 12 54 L st h else ev 12 58 L st h := G_icmp_ne f12_51 (by decide)
theorem f12_54 : fetch 12 54 = some (.iconst 1, 1) := vtab tk12 26 rfl
theorem e12_54 (L : VL) (st : List Value) (h : VG) : ev 12 54 L (st) h = ev 12 55 L (.int (1 : Int32) :: st) h := G_iconst f12_54 (by decide)
theorem f12_55 : fetch 12 55 = some (.goto 4, 3) := vtab tk12 27 rfl
theorem e12_55 (L : VL) (st : List Value) (h : VG) : ev 12 55 L (st) h = ev 12 59 L (st) h := G_goto f12_55 (by decide)
theorem f12_58 : fetch 12 58 = some (.iconst 0, 1) := vtab tk12 28 rfl
theorem e12_58 (L : VL) (st : List Value) (h : VG) : ev 12 58 L (st) h = ev 12 59 L (.int (0 : Int32) :: st) h := G_iconst f12_58 (by decide)
theorem f12_59 : fetch 12 59 = some (.ireturn, 1) := vtab tk12 29 rfl
theorem e12_59 (L : VL) (h : VG) (x : Int32) (hz : x = 0 ∨ x = 1) : ev 12 59 L [.int x] h = some (some (.int x), h) := G_iret f12_59 (ty := .boolean) (by decide) (vbool hz).1
/-! 13 GuestCalls$Bin.pasteRefusal(LGuestCalls$Bin;)I -/
def tb13 : List (Nat × Instr × Nat) := [(0, .aload_n 0, 1), (1, .getfield 9, 3), (4, .bipush 11, 2), (6, .if_icmp .eq 12, 3), (9, .aload_n 1, 1), (10, .getfield 9, 3), (13, .bipush 11, 2), (15, .if_icmp .ne 5, 3), (18, .iconst 3, 1), (19, .ireturn, 1), (20, .aload_n 0, 1), (21, .getfield 9, 3), (24, .bipush 10, 2), (26, .if_icmp .eq 12, 3), (29, .aload_n 1, 1), (30, .getfield 9, 3), (33, .bipush 10, 2), (35, .if_icmp .ne 5, 3), (38, .iconst 2, 1), (39, .ireturn, 1), (40, .aload_n 0, 1), (41, .getfield 9, 3), (44, .bipush 7, 2), (46, .if_icmp .le 16, 3), (49, .aload_n 1, 1), (50, .getfield 9, 3), (53, .bipush 7, 2), (55, .if_icmp .le 7, 3), (58, .iconst 1, 1), (59, .goto 4, 3), (62, .iconst 0, 1), (63, .istore_n 2, 1), (64, .aload_n 0, 1), (65, .getfield 9, 3), (68, .aload_n 1, 1), (69, .getfield 9, 3), (72, .if_icmp .eq 7, 3), (75, .iload_n 2, 1), (76, .ifCond .eq 7, 3), (79, .iconst 0, 1), (80, .goto 4, 3), (83, .iconst 2, 1), (84, .ireturn, 1)]
theorem tk13 : tb13.all (fun q => decide (fetch 13 q.1 = some q.2)) = true := by decide +kernel
theorem f13_0 : fetch 13 0 = some (.aload_n 0, 1) := vtab tk13 0 rfl
theorem e13_0 (L : VL) (st : List Value) (h : VG) (x : Nat) : ev 13 0 (some (.ref x) :: L) (st) h = ev 13 1 (some (.ref x) :: L) (.ref x :: st) h := G_aload_n f13_0 rfl
theorem f13_1 : fetch 13 1 = some (.getfield 9, 3) := vtab tk13 1 rfl
theorem e13_1 (L : VL) (st : List Value) (h : VG) (a : Nat) (ho : ob h a 1) : ev 13 1 L (.ref a :: st) h = ev 13 4 L (.int (gI h a 0) :: st) h := G_getI (p := 365) f13_1 lkF_1_9 (by decide) (by decide) ho
theorem f13_4 : fetch 13 4 = some (.bipush 11, 2) := vtab tk13 2 rfl
theorem e13_4 (L : VL) (st : List Value) (h : VG) : ev 13 4 L (st) h = ev 13 6 L (.int (11 : Int32) :: st) h := G_bipush f13_4 (by decide)
theorem f13_6 : fetch 13 6 = some (.if_icmp .eq 12, 3) := vtab tk13 3 rfl
theorem e13_6 (L : VL) (st : List Value) (h : VG) (x y : Int32) : ev 13 6 L (.int y :: .int x :: st) h = if x = y then ev 13 18 L st h else ev 13 9 L st h := G_icmp_eq f13_6 (by decide)
theorem f13_9 : fetch 13 9 = some (.aload_n 1, 1) := vtab tk13 4 rfl
theorem e13_9 (l0 : Option Value) (L : VL) (st : List Value) (h : VG) (x : Nat) : ev 13 9 (l0 :: some (.ref x) :: L) (st) h = ev 13 10 (l0 :: some (.ref x) :: L) (.ref x :: st) h := G_aload_n f13_9 rfl
theorem f13_10 : fetch 13 10 = some (.getfield 9, 3) := vtab tk13 5 rfl
theorem e13_10 (L : VL) (st : List Value) (h : VG) (a : Nat) (ho : ob h a 1) : ev 13 10 L (.ref a :: st) h = ev 13 13 L (.int (gI h a 0) :: st) h := G_getI (p := 365) f13_10 lkF_1_9 (by decide) (by decide) ho
theorem f13_13 : fetch 13 13 = some (.bipush 11, 2) := vtab tk13 6 rfl
theorem e13_13 (L : VL) (st : List Value) (h : VG) : ev 13 13 L (st) h = ev 13 15 L (.int (11 : Int32) :: st) h := G_bipush f13_13 (by decide)
theorem f13_15 : fetch 13 15 = some (.if_icmp .ne 5, 3) := vtab tk13 7 rfl
theorem e13_15 (L : VL) (st : List Value) (h : VG) (x y : Int32) : ev 13 15 L (.int y :: .int x :: st) h = if x = y then ev 13 18 L st h else ev 13 20 L st h := G_icmp_ne f13_15 (by decide)
theorem f13_18 : fetch 13 18 = some (.iconst 3, 1) := vtab tk13 8 rfl
theorem e13_18 (L : VL) (st : List Value) (h : VG) : ev 13 18 L (st) h = ev 13 19 L (.int (3 : Int32) :: st) h := G_iconst f13_18 (by decide)
theorem f13_19 : fetch 13 19 = some (.ireturn, 1) := vtab tk13 9 rfl
theorem e13_19 (L : VL) (h : VG) (x : Int32) : ev 13 19 L [.int x] h = some (some (.int x), h) := G_iret f13_19 (ty := .int) (by decide) rfl
theorem f13_20 : fetch 13 20 = some (.aload_n 0, 1) := vtab tk13 10 rfl
theorem e13_20 (L : VL) (st : List Value) (h : VG) (x : Nat) : ev 13 20 (some (.ref x) :: L) (st) h = ev 13 21 (some (.ref x) :: L) (.ref x :: st) h := G_aload_n f13_20 rfl
theorem f13_21 : fetch 13 21 = some (.getfield 9, 3) := vtab tk13 11 rfl
theorem e13_21 (L : VL) (st : List Value) (h : VG) (a : Nat) (ho : ob h a 1) : ev 13 21 L (.ref a :: st) h = ev 13 24 L (.int (gI h a 0) :: st) h := G_getI (p := 365) f13_21 lkF_1_9 (by decide) (by decide) ho
theorem f13_24 : fetch 13 24 = some (.bipush 10, 2) := vtab tk13 12 rfl
theorem e13_24 (L : VL) (st : List Value) (h : VG) : ev 13 24 L (st) h = ev 13 26 L (.int (10 : Int32) :: st) h := G_bipush f13_24 (by decide)
theorem f13_26 : fetch 13 26 = some (.if_icmp .eq 12, 3) := vtab tk13 13 rfl
theorem e13_26 (L : VL) (st : List Value) (h : VG) (x y : Int32) : ev 13 26 L (.int y :: .int x :: st) h = if x = y then ev 13 38 L st h else ev 13 29 L st h := G_icmp_eq f13_26 (by decide)
theorem f13_29 : fetch 13 29 = some (.aload_n 1, 1) := vtab tk13 14 rfl
theorem e13_29 (l0 : Option Value) (L : VL) (st : List Value) (h : VG) (x : Nat) : ev 13 29 (l0 :: some (.ref x) :: L) (st) h = ev 13 30 (l0 :: some (.ref x) :: L) (.ref x :: st) h := G_aload_n f13_29 rfl
theorem f13_30 : fetch 13 30 = some (.getfield 9, 3) := vtab tk13 15 rfl
theorem e13_30 (L : VL) (st : List Value) (h : VG) (a : Nat) (ho : ob h a 1) : ev 13 30 L (.ref a :: st) h = ev 13 33 L (.int (gI h a 0) :: st) h := G_getI (p := 365) f13_30 lkF_1_9 (by decide) (by decide) ho
theorem f13_33 : fetch 13 33 = some (.bipush 10, 2) := vtab tk13 16 rfl
theorem e13_33 (L : VL) (st : List Value) (h : VG) : ev 13 33 L (st) h = ev 13 35 L (.int (10 : Int32) :: st) h := G_bipush f13_33 (by decide)
theorem f13_35 : fetch 13 35 = some (.if_icmp .ne 5, 3) := vtab tk13 17 rfl
theorem e13_35 (L : VL) (st : List Value) (h : VG) (x y : Int32) : ev 13 35 L (.int y :: .int x :: st) h = if x = y then ev 13 38 L st h else ev 13 40 L st h := G_icmp_ne f13_35 (by decide)
theorem f13_38 : fetch 13 38 = some (.iconst 2, 1) := vtab tk13 18 rfl
theorem e13_38 (L : VL) (st : List Value) (h : VG) : ev 13 38 L (st) h = ev 13 39 L (.int (2 : Int32) :: st) h := G_iconst f13_38 (by decide)
theorem f13_39 : fetch 13 39 = some (.ireturn, 1) := vtab tk13 19 rfl
theorem e13_39 (L : VL) (h : VG) (x : Int32) : ev 13 39 L [.int x] h = some (some (.int x), h) := G_iret f13_39 (ty := .int) (by decide) rfl
theorem f13_40 : fetch 13 40 = some (.aload_n 0, 1) := vtab tk13 20 rfl
theorem e13_40 (L : VL) (st : List Value) (h : VG) (x : Nat) : ev 13 40 (some (.ref x) :: L) (st) h = ev 13 41 (some (.ref x) :: L) (.ref x :: st) h := G_aload_n f13_40 rfl
theorem f13_41 : fetch 13 41 = some (.getfield 9, 3) := vtab tk13 21 rfl
theorem e13_41 (L : VL) (st : List Value) (h : VG) (a : Nat) (ho : ob h a 1) : ev 13 41 L (.ref a :: st) h = ev 13 44 L (.int (gI h a 0) :: st) h := G_getI (p := 365) f13_41 lkF_1_9 (by decide) (by decide) ho
theorem f13_44 : fetch 13 44 = some (.bipush 7, 2) := vtab tk13 22 rfl
theorem e13_44 (L : VL) (st : List Value) (h : VG) : ev 13 44 L (st) h = ev 13 46 L (.int (7 : Int32) :: st) h := G_bipush f13_44 (by decide)
theorem f13_46 : fetch 13 46 = some (.if_icmp .le 16, 3) := vtab tk13 23 rfl
theorem e13_46 (L : VL) (st : List Value) (h : VG) (x y : Int32) : ev 13 46 L (.int y :: .int x :: st) h = if x ≤ y then ev 13 62 L st h else ev 13 49 L st h := G_icmp_le f13_46 (by decide)
theorem f13_49 : fetch 13 49 = some (.aload_n 1, 1) := vtab tk13 24 rfl
theorem e13_49 (l0 : Option Value) (L : VL) (st : List Value) (h : VG) (x : Nat) : ev 13 49 (l0 :: some (.ref x) :: L) (st) h = ev 13 50 (l0 :: some (.ref x) :: L) (.ref x :: st) h := G_aload_n f13_49 rfl
theorem f13_50 : fetch 13 50 = some (.getfield 9, 3) := vtab tk13 25 rfl
theorem e13_50 (L : VL) (st : List Value) (h : VG) (a : Nat) (ho : ob h a 1) : ev 13 50 L (.ref a :: st) h = ev 13 53 L (.int (gI h a 0) :: st) h := G_getI (p := 365) f13_50 lkF_1_9 (by decide) (by decide) ho
theorem f13_53 : fetch 13 53 = some (.bipush 7, 2) := vtab tk13 26 rfl
theorem e13_53 (L : VL) (st : List Value) (h : VG) : ev 13 53 L (st) h = ev 13 55 L (.int (7 : Int32) :: st) h := G_bipush f13_53 (by decide)
theorem f13_55 : fetch 13 55 = some (.if_icmp .le 7, 3) := vtab tk13 27 rfl
theorem e13_55 (L : VL) (st : List Value) (h : VG) (x y : Int32) : ev 13 55 L (.int y :: .int x :: st) h = if x ≤ y then ev 13 62 L st h else ev 13 58 L st h := G_icmp_le f13_55 (by decide)
theorem f13_58 : fetch 13 58 = some (.iconst 1, 1) := vtab tk13 28 rfl
theorem e13_58 (L : VL) (st : List Value) (h : VG) : ev 13 58 L (st) h = ev 13 59 L (.int (1 : Int32) :: st) h := G_iconst f13_58 (by decide)
theorem f13_59 : fetch 13 59 = some (.goto 4, 3) := vtab tk13 29 rfl
theorem e13_59 (L : VL) (st : List Value) (h : VG) : ev 13 59 L (st) h = ev 13 63 L (st) h := G_goto f13_59 (by decide)
theorem f13_62 : fetch 13 62 = some (.iconst 0, 1) := vtab tk13 30 rfl
theorem e13_62 (L : VL) (st : List Value) (h : VG) : ev 13 62 L (st) h = ev 13 63 L (.int (0 : Int32) :: st) h := G_iconst f13_62 (by decide)
theorem f13_63 : fetch 13 63 = some (.istore_n 2, 1) := vtab tk13 31 rfl
theorem e13_63 (l0 l1 l2 : Option Value) (L : VL) (st : List Value) (h : VG) (x : Int32) : ev 13 63 (l0 :: l1 :: l2 :: L) (.int x :: st) h = ev 13 64 (l0 :: vkk l1 :: some (.int x) :: L) (st) h := G_istore_n f13_63 rfl (S1_2 l0 l1 l2 L _)
theorem f13_64 : fetch 13 64 = some (.aload_n 0, 1) := vtab tk13 32 rfl
theorem e13_64 (L : VL) (st : List Value) (h : VG) (x : Nat) : ev 13 64 (some (.ref x) :: L) (st) h = ev 13 65 (some (.ref x) :: L) (.ref x :: st) h := G_aload_n f13_64 rfl
theorem f13_65 : fetch 13 65 = some (.getfield 9, 3) := vtab tk13 33 rfl
theorem e13_65 (L : VL) (st : List Value) (h : VG) (a : Nat) (ho : ob h a 1) : ev 13 65 L (.ref a :: st) h = ev 13 68 L (.int (gI h a 0) :: st) h := G_getI (p := 365) f13_65 lkF_1_9 (by decide) (by decide) ho
theorem f13_68 : fetch 13 68 = some (.aload_n 1, 1) := vtab tk13 34 rfl
theorem e13_68 (l0 : Option Value) (L : VL) (st : List Value) (h : VG) (x : Nat) : ev 13 68 (l0 :: some (.ref x) :: L) (st) h = ev 13 69 (l0 :: some (.ref x) :: L) (.ref x :: st) h := G_aload_n f13_68 rfl
theorem f13_69 : fetch 13 69 = some (.getfield 9, 3) := vtab tk13 35 rfl
theorem e13_69 (L : VL) (st : List Value) (h : VG) (a : Nat) (ho : ob h a 1) : ev 13 69 L (.ref a :: st) h = ev 13 72 L (.int (gI h a 0) :: st) h := G_getI (p := 365) f13_69 lkF_1_9 (by decide) (by decide) ho
theorem f13_72 : fetch 13 72 = some (.if_icmp .eq 7, 3) := vtab tk13 36 rfl
theorem e13_72 (L : VL) (st : List Value) (h : VG) (x y : Int32) : ev 13 72 L (.int y :: .int x :: st) h = if x = y then ev 13 79 L st h else ev 13 75 L st h := G_icmp_eq f13_72 (by decide)
theorem f13_75 : fetch 13 75 = some (.iload_n 2, 1) := vtab tk13 37 rfl
theorem e13_75 (l0 l1 : Option Value) (L : VL) (st : List Value) (h : VG) (x : Int32) : ev 13 75 (l0 :: l1 :: some (.int x) :: L) (st) h = ev 13 76 (l0 :: l1 :: some (.int x) :: L) (.int x :: st) h := G_iload_n f13_75 rfl
theorem f13_76 : fetch 13 76 = some (.ifCond .eq 7, 3) := vtab tk13 38 rfl
theorem e13_76 (L : VL) (st : List Value) (h : VG) (x : Int32) : ev 13 76 L (.int x :: st) h = if x = 0 then ev 13 83 L st h else ev 13 79 L st h := G_if_eq f13_76 (by decide)
theorem f13_79 : fetch 13 79 = some (.iconst 0, 1) := vtab tk13 39 rfl
theorem e13_79 (L : VL) (st : List Value) (h : VG) : ev 13 79 L (st) h = ev 13 80 L (.int (0 : Int32) :: st) h := G_iconst f13_79 (by decide)
theorem f13_80 : fetch 13 80 = some (.goto 4, 3) := vtab tk13 40 rfl
theorem e13_80 (L : VL) (st : List Value) (h : VG) : ev 13 80 L (st) h = ev 13 84 L (st) h := G_goto f13_80 (by decide)
theorem f13_83 : fetch 13 83 = some (.iconst 2, 1) := vtab tk13 41 rfl
theorem e13_83 (L : VL) (st : List Value) (h : VG) : ev 13 83 L (st) h = ev 13 84 L (.int (2 : Int32) :: st) h := G_iconst f13_83 (by decide)
theorem f13_84 : fetch 13 84 = some (.ireturn, 1) := vtab tk13 42 rfl
theorem e13_84 (L : VL) (h : VG) (x : Int32) : ev 13 84 L [.int x] h = some (some (.int x), h) := G_iret f13_84 (ty := .int) (by decide) rfl
/-! 14 GuestCalls$Bin.spanRefusal(II)I -/
def tb14 : List (Nat × Instr × Nat) := [(0, .iload_n 2, 1), (1, .ifCond .lt 21, 3), (4, .iload_n 1, 1), (5, .ifCond .lt 17, 3), (8, .iload_n 1, 1), (9, .i2l, 1), (10, .iload_n 2, 1), (11, .i2l, 1), (12, .ladd, 1), (13, .aload_n 0, 1), (14, .getfield 23, 3), (17, .i2l, 1), (18, .lcmp, 1), (19, .ifCond .le 7, 3), (22, .iconst 1, 1), (23, .goto 4, 3), (26, .iconst 0, 1), (27, .ireturn, 1)]
theorem tk14 : tb14.all (fun q => decide (fetch 14 q.1 = some q.2)) = true := by decide +kernel
theorem f14_0 : fetch 14 0 = some (.iload_n 2, 1) := vtab tk14 0 rfl
theorem e14_0 (l0 l1 : Option Value) (L : VL) (st : List Value) (h : VG) (x : Int32) : ev 14 0 (l0 :: l1 :: some (.int x) :: L) (st) h = ev 14 1 (l0 :: l1 :: some (.int x) :: L) (.int x :: st) h := G_iload_n f14_0 rfl
theorem f14_1 : fetch 14 1 = some (.ifCond .lt 21, 3) := vtab tk14 1 rfl
theorem e14_1 (L : VL) (st : List Value) (h : VG) (x : Int32) : ev 14 1 L (.int x :: st) h = if x < 0 then ev 14 22 L st h else ev 14 4 L st h := G_if_lt f14_1 (by decide)
theorem f14_4 : fetch 14 4 = some (.iload_n 1, 1) := vtab tk14 2 rfl
theorem e14_4 (l0 : Option Value) (L : VL) (st : List Value) (h : VG) (x : Int32) : ev 14 4 (l0 :: some (.int x) :: L) (st) h = ev 14 5 (l0 :: some (.int x) :: L) (.int x :: st) h := G_iload_n f14_4 rfl
theorem f14_5 : fetch 14 5 = some (.ifCond .lt 17, 3) := vtab tk14 3 rfl
theorem e14_5 (L : VL) (st : List Value) (h : VG) (x : Int32) : ev 14 5 L (.int x :: st) h = if x < 0 then ev 14 22 L st h else ev 14 8 L st h := G_if_lt f14_5 (by decide)
theorem f14_8 : fetch 14 8 = some (.iload_n 1, 1) := vtab tk14 4 rfl
theorem e14_8 (l0 : Option Value) (L : VL) (st : List Value) (h : VG) (x : Int32) : ev 14 8 (l0 :: some (.int x) :: L) (st) h = ev 14 9 (l0 :: some (.int x) :: L) (.int x :: st) h := G_iload_n f14_8 rfl
theorem f14_9 : fetch 14 9 = some (.i2l, 1) := vtab tk14 5 rfl
theorem e14_9 (L : VL) (st : List Value) (h : VG) (x : Int32) : ev 14 9 L (.int x :: st) h = ev 14 10 L (.long x.toInt64 :: st) h := G_i2l f14_9
theorem f14_10 : fetch 14 10 = some (.iload_n 2, 1) := vtab tk14 6 rfl
theorem e14_10 (l0 l1 : Option Value) (L : VL) (st : List Value) (h : VG) (x : Int32) : ev 14 10 (l0 :: l1 :: some (.int x) :: L) (st) h = ev 14 11 (l0 :: l1 :: some (.int x) :: L) (.int x :: st) h := G_iload_n f14_10 rfl
theorem f14_11 : fetch 14 11 = some (.i2l, 1) := vtab tk14 7 rfl
theorem e14_11 (L : VL) (st : List Value) (h : VG) (x : Int32) : ev 14 11 L (.int x :: st) h = ev 14 12 L (.long x.toInt64 :: st) h := G_i2l f14_11
theorem f14_12 : fetch 14 12 = some (.ladd, 1) := vtab tk14 8 rfl
theorem e14_12 (L : VL) (st : List Value) (h : VG) (x y : Int64) : ev 14 12 L (.long y :: .long x :: st) h = ev 14 13 L (.long (x + y) :: st) h := G_ladd f14_12
theorem f14_13 : fetch 14 13 = some (.aload_n 0, 1) := vtab tk14 9 rfl
theorem e14_13 (L : VL) (st : List Value) (h : VG) (x : Nat) : ev 14 13 (some (.ref x) :: L) (st) h = ev 14 14 (some (.ref x) :: L) (.ref x :: st) h := G_aload_n f14_13 rfl
theorem f14_14 : fetch 14 14 = some (.getfield 23, 3) := vtab tk14 10 rfl
theorem e14_14 (L : VL) (st : List Value) (h : VG) (a : Nat) (ho : ob h a 1) : ev 14 14 L (.ref a :: st) h = ev 14 17 L (.int (gI h a 1) :: st) h := G_getI (p := 368) f14_14 lkF_1_23 (by decide) (by decide) ho
theorem f14_17 : fetch 14 17 = some (.i2l, 1) := vtab tk14 11 rfl
theorem e14_17 (L : VL) (st : List Value) (h : VG) (x : Int32) : ev 14 17 L (.int x :: st) h = ev 14 18 L (.long x.toInt64 :: st) h := G_i2l f14_17
theorem f14_18 : fetch 14 18 = some (.lcmp, 1) := vtab tk14 12 rfl
theorem e14_18 (L : VL) (st : List Value) (h : VG) (x y : Int64) : ev 14 18 L (.long y :: .long x :: st) h = ev 14 19 L (.int (lg_cmp x y) :: st) h := G_lcmp f14_18
theorem f14_19 : fetch 14 19 = some (.ifCond .le 7, 3) := vtab tk14 13 rfl
theorem e14_19 (L : VL) (st : List Value) (h : VG) (x : Int32) : ev 14 19 L (.int x :: st) h = if x ≤ 0 then ev 14 26 L st h else ev 14 22 L st h := G_if_le f14_19 (by decide)
theorem f14_22 : fetch 14 22 = some (.iconst 1, 1) := vtab tk14 14 rfl
theorem e14_22 (L : VL) (st : List Value) (h : VG) : ev 14 22 L (st) h = ev 14 23 L (.int (1 : Int32) :: st) h := G_iconst f14_22 (by decide)
theorem f14_23 : fetch 14 23 = some (.goto 4, 3) := vtab tk14 15 rfl
theorem e14_23 (L : VL) (st : List Value) (h : VG) : ev 14 23 L (st) h = ev 14 27 L (st) h := G_goto f14_23 (by decide)
theorem f14_26 : fetch 14 26 = some (.iconst 0, 1) := vtab tk14 16 rfl
theorem e14_26 (L : VL) (st : List Value) (h : VG) : ev 14 26 L (st) h = ev 14 27 L (.int (0 : Int32) :: st) h := G_iconst f14_26 (by decide)
theorem f14_27 : fetch 14 27 = some (.ireturn, 1) := vtab tk14 17 rfl
theorem e14_27 (L : VL) (h : VG) (x : Int32) : ev 14 27 L [.int x] h = some (some (.int x), h) := G_iret f14_27 (ty := .int) (by decide) rfl
/-! 15 GuestCalls$Bin.wordsFrom(II)I -/
def tb15 : List (Nat × Instr × Nat) := [(0, .iconst 0, 1), (1, .istore_n 3, 1), (2, .iload_n 3, 1), (3, .iload_n 2, 1), (4, .if_icmp .ge 35, 3), (7, .aload_n 0, 1), (8, .getfield 15, 3), (11, .iload_n 1, 1), (12, .iload_n 3, 1), (13, .iadd, 1), (14, .iaload, 1), (15, .bipush 8, 2), (17, .if_icmp .eq 16, 3), (20, .aload_n 0, 1), (21, .getfield 15, 3), (24, .iload_n 1, 1), (25, .iload_n 3, 1), (26, .iadd, 1), (27, .iaload, 1), (28, .bipush (-2), 2), (30, .if_icmp .ne 9, 3), (33, .iinc 3 1, 3), (36, .goto (-34), 3), (39, .iload_n 3, 1), (40, .ireturn, 1)]
theorem tk15 : tb15.all (fun q => decide (fetch 15 q.1 = some q.2)) = true := by decide +kernel
theorem f15_0 : fetch 15 0 = some (.iconst 0, 1) := vtab tk15 0 rfl
theorem e15_0 (L : VL) (st : List Value) (h : VG) : ev 15 0 L (st) h = ev 15 1 L (.int (0 : Int32) :: st) h := G_iconst f15_0 (by decide)
theorem f15_1 : fetch 15 1 = some (.istore_n 3, 1) := vtab tk15 1 rfl
theorem e15_1 (l0 l1 l2 l3 : Option Value) (L : VL) (st : List Value) (h : VG) (x : Int32) : ev 15 1 (l0 :: l1 :: l2 :: l3 :: L) (.int x :: st) h = ev 15 2 (l0 :: l1 :: vkk l2 :: some (.int x) :: L) (st) h := G_istore_n f15_1 rfl (S1_3 l0 l1 l2 l3 L _)
theorem f15_2 : fetch 15 2 = some (.iload_n 3, 1) := vtab tk15 2 rfl
theorem e15_2 (l0 l1 l2 : Option Value) (L : VL) (st : List Value) (h : VG) (x : Int32) : ev 15 2 (l0 :: l1 :: l2 :: some (.int x) :: L) (st) h = ev 15 3 (l0 :: l1 :: l2 :: some (.int x) :: L) (.int x :: st) h := G_iload_n f15_2 rfl
theorem f15_3 : fetch 15 3 = some (.iload_n 2, 1) := vtab tk15 3 rfl
theorem e15_3 (l0 l1 : Option Value) (L : VL) (st : List Value) (h : VG) (x : Int32) : ev 15 3 (l0 :: l1 :: some (.int x) :: L) (st) h = ev 15 4 (l0 :: l1 :: some (.int x) :: L) (.int x :: st) h := G_iload_n f15_3 rfl
theorem f15_4 : fetch 15 4 = some (.if_icmp .ge 35, 3) := vtab tk15 4 rfl
theorem e15_4 (L : VL) (st : List Value) (h : VG) (x y : Int32) : ev 15 4 L (.int y :: .int x :: st) h = if x < y then ev 15 7 L st h else ev 15 39 L st h := G_icmp_ge f15_4 (by decide)
theorem f15_7 : fetch 15 7 = some (.aload_n 0, 1) := vtab tk15 5 rfl
theorem e15_7 (L : VL) (st : List Value) (h : VG) (x : Nat) : ev 15 7 (some (.ref x) :: L) (st) h = ev 15 8 (some (.ref x) :: L) (.ref x :: st) h := G_aload_n f15_7 rfl
theorem f15_8 : fetch 15 8 = some (.getfield 15, 3) := vtab tk15 6 rfl
theorem e15_8 (L : VL) (st : List Value) (h : VG) (a : Nat) (ho : ob h a 1) (hr : isR h a 2) : ev 15 8 L (.ref a :: st) h = ev 15 11 L (.ref (gR h a 2) :: st) h := G_getR (p := 370) f15_8 lkF_1_15 (by decide) (by decide) ho hr
theorem f15_11 : fetch 15 11 = some (.iload_n 1, 1) := vtab tk15 7 rfl
theorem e15_11 (l0 : Option Value) (L : VL) (st : List Value) (h : VG) (x : Int32) : ev 15 11 (l0 :: some (.int x) :: L) (st) h = ev 15 12 (l0 :: some (.int x) :: L) (.int x :: st) h := G_iload_n f15_11 rfl
theorem f15_12 : fetch 15 12 = some (.iload_n 3, 1) := vtab tk15 8 rfl
theorem e15_12 (l0 l1 l2 : Option Value) (L : VL) (st : List Value) (h : VG) (x : Int32) : ev 15 12 (l0 :: l1 :: l2 :: some (.int x) :: L) (st) h = ev 15 13 (l0 :: l1 :: l2 :: some (.int x) :: L) (.int x :: st) h := G_iload_n f15_12 rfl
theorem f15_13 : fetch 15 13 = some (.iadd, 1) := vtab tk15 9 rfl
theorem e15_13 (L : VL) (st : List Value) (h : VG) (x y : Int32) : ev 15 13 L (.int y :: .int x :: st) h = ev 15 14 L (.int (x + y) :: st) h := G_iadd f15_13
theorem f15_14 : fetch 15 14 = some (.iaload, 1) := vtab tk15 10 rfl
theorem e15_14 (L : VL) (st : List Value) (h : VG) (a : Nat) (i : Int32) (ha : rdI h a) (hi : vp_in i (aln h a)) : ev 15 14 L (.int i :: .ref a :: st) h = ev 15 15 L (.int (aI h a i.toNatClampNeg) :: st) h := G_iald' f15_14 ha hi
theorem f15_15 : fetch 15 15 = some (.bipush 8, 2) := vtab tk15 11 rfl
theorem e15_15 (L : VL) (st : List Value) (h : VG) : ev 15 15 L (st) h = ev 15 17 L (.int (8 : Int32) :: st) h := G_bipush f15_15 (by decide)
theorem f15_17 : fetch 15 17 = some (.if_icmp .eq 16, 3) := vtab tk15 12 rfl
theorem e15_17 (L : VL) (st : List Value) (h : VG) (x y : Int32) : ev 15 17 L (.int y :: .int x :: st) h = if x = y then ev 15 33 L st h else ev 15 20 L st h := G_icmp_eq f15_17 (by decide)
theorem f15_20 : fetch 15 20 = some (.aload_n 0, 1) := vtab tk15 13 rfl
theorem e15_20 (L : VL) (st : List Value) (h : VG) (x : Nat) : ev 15 20 (some (.ref x) :: L) (st) h = ev 15 21 (some (.ref x) :: L) (.ref x :: st) h := G_aload_n f15_20 rfl
theorem f15_21 : fetch 15 21 = some (.getfield 15, 3) := vtab tk15 14 rfl
theorem e15_21 (L : VL) (st : List Value) (h : VG) (a : Nat) (ho : ob h a 1) (hr : isR h a 2) : ev 15 21 L (.ref a :: st) h = ev 15 24 L (.ref (gR h a 2) :: st) h := G_getR (p := 370) f15_21 lkF_1_15 (by decide) (by decide) ho hr
theorem f15_24 : fetch 15 24 = some (.iload_n 1, 1) := vtab tk15 15 rfl
theorem e15_24 (l0 : Option Value) (L : VL) (st : List Value) (h : VG) (x : Int32) : ev 15 24 (l0 :: some (.int x) :: L) (st) h = ev 15 25 (l0 :: some (.int x) :: L) (.int x :: st) h := G_iload_n f15_24 rfl
theorem f15_25 : fetch 15 25 = some (.iload_n 3, 1) := vtab tk15 16 rfl
theorem e15_25 (l0 l1 l2 : Option Value) (L : VL) (st : List Value) (h : VG) (x : Int32) : ev 15 25 (l0 :: l1 :: l2 :: some (.int x) :: L) (st) h = ev 15 26 (l0 :: l1 :: l2 :: some (.int x) :: L) (.int x :: st) h := G_iload_n f15_25 rfl
theorem f15_26 : fetch 15 26 = some (.iadd, 1) := vtab tk15 17 rfl
theorem e15_26 (L : VL) (st : List Value) (h : VG) (x y : Int32) : ev 15 26 L (.int y :: .int x :: st) h = ev 15 27 L (.int (x + y) :: st) h := G_iadd f15_26
theorem f15_27 : fetch 15 27 = some (.iaload, 1) := vtab tk15 18 rfl
theorem e15_27 (L : VL) (st : List Value) (h : VG) (a : Nat) (i : Int32) (ha : rdI h a) (hi : vp_in i (aln h a)) : ev 15 27 L (.int i :: .ref a :: st) h = ev 15 28 L (.int (aI h a i.toNatClampNeg) :: st) h := G_iald' f15_27 ha hi
theorem f15_28 : fetch 15 28 = some (.bipush (-2), 2) := vtab tk15 19 rfl
theorem e15_28 (L : VL) (st : List Value) (h : VG) : ev 15 28 L (st) h = ev 15 30 L (.int (-2 : Int32) :: st) h := G_bipush f15_28 (by decide)
theorem f15_30 : fetch 15 30 = some (.if_icmp .ne 9, 3) := vtab tk15 20 rfl
theorem e15_30 (L : VL) (st : List Value) (h : VG) (x y : Int32) : ev 15 30 L (.int y :: .int x :: st) h = if x = y then ev 15 33 L st h else ev 15 39 L st h := G_icmp_ne f15_30 (by decide)
theorem f15_33 : fetch 15 33 = some (.iinc 3 1, 3) := vtab tk15 21 rfl
theorem e15_33 (l0 l1 l2 : Option Value) (L : VL) (st : List Value) (h : VG) (x : Int32) : ev 15 33 (l0 :: l1 :: l2 :: some (.int x) :: L) (st) h = ev 15 36 (l0 :: l1 :: vkk l2 :: some (.int (x + (1 : Int32))) :: L) (st) h := G_iinc f15_33 rfl (by decide) (S1_3 l0 l1 l2 (some (.int x)) L _)
theorem f15_36 : fetch 15 36 = some (.goto (-34), 3) := vtab tk15 22 rfl
theorem e15_36 (L : VL) (st : List Value) (h : VG) : ev 15 36 L (st) h = ev 15 2 L (st) h := G_goto f15_36 (by decide)
theorem f15_39 : fetch 15 39 = some (.iload_n 3, 1) := vtab tk15 23 rfl
theorem e15_39 (l0 l1 l2 : Option Value) (L : VL) (st : List Value) (h : VG) (x : Int32) : ev 15 39 (l0 :: l1 :: l2 :: some (.int x) :: L) (st) h = ev 15 40 (l0 :: l1 :: l2 :: some (.int x) :: L) (.int x :: st) h := G_iload_n f15_39 rfl
theorem f15_40 : fetch 15 40 = some (.ireturn, 1) := vtab tk15 24 rfl
theorem e15_40 (L : VL) (h : VG) (x : Int32) : ev 15 40 L [.int x] h = some (some (.int x), h) := G_iret f15_40 (ty := .int) (by decide) rfl
/-! 16 GuestCalls$Bin.pasteCells(LGuestCalls$Bin;III)V -/
def tb16 : List (Nat × Instr × Nat) := [(0, .aload_n 1, 1), (1, .getfield 15, 3), (4, .iload_n 2, 1), (5, .aload_n 0, 1), (6, .getfield 15, 3), (9, .iload_n 3, 1), (10, .iload 4, 2), (12, .invokestatic 35, 3), (15, .aload_n 1, 1), (16, .getfield 19, 3), (19, .iload_n 2, 1), (20, .aload_n 0, 1), (21, .getfield 19, 3), (24, .iload_n 3, 1), (25, .iload 4, 2), (27, .invokestatic 35, 3), (30, .return_, 1)]
theorem tk16 : tb16.all (fun q => decide (fetch 16 q.1 = some q.2)) = true := by decide +kernel
theorem f16_0 : fetch 16 0 = some (.aload_n 1, 1) := vtab tk16 0 rfl
theorem e16_0 (l0 : Option Value) (L : VL) (st : List Value) (h : VG) (x : Nat) : ev 16 0 (l0 :: some (.ref x) :: L) (st) h = ev 16 1 (l0 :: some (.ref x) :: L) (.ref x :: st) h := G_aload_n f16_0 rfl
theorem f16_1 : fetch 16 1 = some (.getfield 15, 3) := vtab tk16 1 rfl
theorem e16_1 (L : VL) (st : List Value) (h : VG) (a : Nat) (ho : ob h a 1) (hr : isR h a 2) : ev 16 1 L (.ref a :: st) h = ev 16 4 L (.ref (gR h a 2) :: st) h := G_getR (p := 370) f16_1 lkF_1_15 (by decide) (by decide) ho hr
theorem f16_4 : fetch 16 4 = some (.iload_n 2, 1) := vtab tk16 2 rfl
theorem e16_4 (l0 l1 : Option Value) (L : VL) (st : List Value) (h : VG) (x : Int32) : ev 16 4 (l0 :: l1 :: some (.int x) :: L) (st) h = ev 16 5 (l0 :: l1 :: some (.int x) :: L) (.int x :: st) h := G_iload_n f16_4 rfl
theorem f16_5 : fetch 16 5 = some (.aload_n 0, 1) := vtab tk16 3 rfl
theorem e16_5 (L : VL) (st : List Value) (h : VG) (x : Nat) : ev 16 5 (some (.ref x) :: L) (st) h = ev 16 6 (some (.ref x) :: L) (.ref x :: st) h := G_aload_n f16_5 rfl
theorem f16_6 : fetch 16 6 = some (.getfield 15, 3) := vtab tk16 4 rfl
theorem e16_6 (L : VL) (st : List Value) (h : VG) (a : Nat) (ho : ob h a 1) (hr : isR h a 2) : ev 16 6 L (.ref a :: st) h = ev 16 9 L (.ref (gR h a 2) :: st) h := G_getR (p := 370) f16_6 lkF_1_15 (by decide) (by decide) ho hr
theorem f16_9 : fetch 16 9 = some (.iload_n 3, 1) := vtab tk16 5 rfl
theorem e16_9 (l0 l1 l2 : Option Value) (L : VL) (st : List Value) (h : VG) (x : Int32) : ev 16 9 (l0 :: l1 :: l2 :: some (.int x) :: L) (st) h = ev 16 10 (l0 :: l1 :: l2 :: some (.int x) :: L) (.int x :: st) h := G_iload_n f16_9 rfl
theorem f16_10 : fetch 16 10 = some (.iload 4, 2) := vtab tk16 6 rfl
theorem e16_10 (l0 l1 l2 l3 : Option Value) (L : VL) (st : List Value) (h : VG) (x : Int32) : ev 16 10 (l0 :: l1 :: l2 :: l3 :: some (.int x) :: L) (st) h = ev 16 12 (l0 :: l1 :: l2 :: l3 :: some (.int x) :: L) (.int x :: st) h := G_iload f16_10 rfl
theorem f16_12 : fetch 16 12 = some (.invokestatic 35, 3) := vtab tk16 7 rfl
theorem e16_12 (L : VL) (st : List Value) (h : VG) (s d : Nat) (sp dp n : Int32) (h1 : VG) (hs : catS st ≤ 8) (hc : vcopy h s d sp dp n = some h1) : ev 16 12 L (.int n :: .int dp :: .ref d :: .int sp :: .ref s :: st) h = ev 16 15 L (st) h1 := G_copy (q := 0) (p := 851) f16_12 lkC_1_35 hs hc
theorem f16_15 : fetch 16 15 = some (.aload_n 1, 1) := vtab tk16 8 rfl
theorem e16_15 (l0 : Option Value) (L : VL) (st : List Value) (h : VG) (x : Nat) : ev 16 15 (l0 :: some (.ref x) :: L) (st) h = ev 16 16 (l0 :: some (.ref x) :: L) (.ref x :: st) h := G_aload_n f16_15 rfl
theorem f16_16 : fetch 16 16 = some (.getfield 19, 3) := vtab tk16 9 rfl
theorem e16_16 (L : VL) (st : List Value) (h : VG) (a : Nat) (ho : ob h a 1) (hr : isR h a 3) : ev 16 16 L (.ref a :: st) h = ev 16 19 L (.ref (gR h a 3) :: st) h := G_getR (p := 372) f16_16 lkF_1_19 (by decide) (by decide) ho hr
theorem f16_19 : fetch 16 19 = some (.iload_n 2, 1) := vtab tk16 10 rfl
theorem e16_19 (l0 l1 : Option Value) (L : VL) (st : List Value) (h : VG) (x : Int32) : ev 16 19 (l0 :: l1 :: some (.int x) :: L) (st) h = ev 16 20 (l0 :: l1 :: some (.int x) :: L) (.int x :: st) h := G_iload_n f16_19 rfl
theorem f16_20 : fetch 16 20 = some (.aload_n 0, 1) := vtab tk16 11 rfl
theorem e16_20 (L : VL) (st : List Value) (h : VG) (x : Nat) : ev 16 20 (some (.ref x) :: L) (st) h = ev 16 21 (some (.ref x) :: L) (.ref x :: st) h := G_aload_n f16_20 rfl
theorem f16_21 : fetch 16 21 = some (.getfield 19, 3) := vtab tk16 12 rfl
theorem e16_21 (L : VL) (st : List Value) (h : VG) (a : Nat) (ho : ob h a 1) (hr : isR h a 3) : ev 16 21 L (.ref a :: st) h = ev 16 24 L (.ref (gR h a 3) :: st) h := G_getR (p := 372) f16_21 lkF_1_19 (by decide) (by decide) ho hr
theorem f16_24 : fetch 16 24 = some (.iload_n 3, 1) := vtab tk16 13 rfl
theorem e16_24 (l0 l1 l2 : Option Value) (L : VL) (st : List Value) (h : VG) (x : Int32) : ev 16 24 (l0 :: l1 :: l2 :: some (.int x) :: L) (st) h = ev 16 25 (l0 :: l1 :: l2 :: some (.int x) :: L) (.int x :: st) h := G_iload_n f16_24 rfl
theorem f16_25 : fetch 16 25 = some (.iload 4, 2) := vtab tk16 14 rfl
theorem e16_25 (l0 l1 l2 l3 : Option Value) (L : VL) (st : List Value) (h : VG) (x : Int32) : ev 16 25 (l0 :: l1 :: l2 :: l3 :: some (.int x) :: L) (st) h = ev 16 27 (l0 :: l1 :: l2 :: l3 :: some (.int x) :: L) (.int x :: st) h := G_iload f16_25 rfl
theorem f16_27 : fetch 16 27 = some (.invokestatic 35, 3) := vtab tk16 15 rfl
theorem e16_27 (L : VL) (st : List Value) (h : VG) (s d : Nat) (sp dp n : Int32) (h1 : VG) (hs : catS st ≤ 8) (hc : vcopy h s d sp dp n = some h1) : ev 16 27 L (.int n :: .int dp :: .ref d :: .int sp :: .ref s :: st) h = ev 16 30 L (st) h1 := G_copy (q := 0) (p := 851) f16_27 lkC_1_35 hs hc
theorem f16_30 : fetch 16 30 = some (.return_, 1) := vtab tk16 16 rfl
theorem e16_30 (L : VL) (h : VG) : ev 16 30 L [] h = some (none, h) := G_vret f16_30 (by decide)
/-! 17 GuestCalls$Bin.numberAs(II)J -/
def tb17 : List (Nat × Instr × Nat) := [(0, .aload_n 0, 1), (1, .getfield 19, 3), (4, .iload_n 1, 1), (5, .laload, 1), (6, .aload_n 0, 1), (7, .getfield 9, 3), (10, .iload_n 2, 1), (11, .invokestatic 68, 3), (14, .lreturn, 1)]
theorem tk17 : tb17.all (fun q => decide (fetch 17 q.1 = some q.2)) = true := by decide +kernel
theorem f17_0 : fetch 17 0 = some (.aload_n 0, 1) := vtab tk17 0 rfl
theorem e17_0 (L : VL) (st : List Value) (h : VG) (x : Nat) : ev 17 0 (some (.ref x) :: L) (st) h = ev 17 1 (some (.ref x) :: L) (.ref x :: st) h := G_aload_n f17_0 rfl
theorem f17_1 : fetch 17 1 = some (.getfield 19, 3) := vtab tk17 1 rfl
theorem e17_1 (L : VL) (st : List Value) (h : VG) (a : Nat) (ho : ob h a 1) (hr : isR h a 3) : ev 17 1 L (.ref a :: st) h = ev 17 4 L (.ref (gR h a 3) :: st) h := G_getR (p := 372) f17_1 lkF_1_19 (by decide) (by decide) ho hr
theorem f17_4 : fetch 17 4 = some (.iload_n 1, 1) := vtab tk17 2 rfl
theorem e17_4 (l0 : Option Value) (L : VL) (st : List Value) (h : VG) (x : Int32) : ev 17 4 (l0 :: some (.int x) :: L) (st) h = ev 17 5 (l0 :: some (.int x) :: L) (.int x :: st) h := G_iload_n f17_4 rfl
theorem f17_5 : fetch 17 5 = some (.laload, 1) := vtab tk17 3 rfl
theorem e17_5 (L : VL) (st : List Value) (h : VG) (a : Nat) (i : Int32) (ha : arL h a) (hi : vp_in i (aln h a)) : ev 17 5 L (.int i :: .ref a :: st) h = ev 17 6 L (.long (aL h a i.toNatClampNeg) :: st) h := G_lald f17_5 ha hi
theorem f17_6 : fetch 17 6 = some (.aload_n 0, 1) := vtab tk17 4 rfl
theorem e17_6 (L : VL) (st : List Value) (h : VG) (x : Nat) : ev 17 6 (some (.ref x) :: L) (st) h = ev 17 7 (some (.ref x) :: L) (.ref x :: st) h := G_aload_n f17_6 rfl
theorem f17_7 : fetch 17 7 = some (.getfield 9, 3) := vtab tk17 5 rfl
theorem e17_7 (L : VL) (st : List Value) (h : VG) (a : Nat) (ho : ob h a 1) : ev 17 7 L (.ref a :: st) h = ev 17 10 L (.int (gI h a 0) :: st) h := G_getI (p := 365) f17_7 lkF_1_9 (by decide) (by decide) ho
theorem f17_10 : fetch 17 10 = some (.iload_n 2, 1) := vtab tk17 6 rfl
theorem e17_10 (l0 l1 : Option Value) (L : VL) (st : List Value) (h : VG) (x : Int32) : ev 17 10 (l0 :: l1 :: some (.int x) :: L) (st) h = ev 17 11 (l0 :: l1 :: some (.int x) :: L) (.int x :: st) h := G_iload_n f17_10 rfl
theorem f17_11 : fetch 17 11 = some (.invokestatic 68, 3) := vtab tk17 7 rfl
theorem e17_11 (L : VL) (st : List Value) (h : VG) (x0 : Int64) (x1 : Int32) (x2 : Int32) (hs : catS st ≤ 8) : ev 17 11 L (.int x2 :: .int x1 :: .long x0 :: st) h = (ev 39 0 [some (.long x0), none, some (.int x1), some (.int x2)] [] h).bind fun q => ev 17 14 L (q.1.toList ++ st) q.2 := G_calls (k := 0) (p := 743) (ars := [.long x0, .int x1, .int x2]) f17_11 lkC_1_68 (by decide) (by decide +kernel) rfl (Nat.le_of_ble_eq_true rfl) hs rfl
theorem f17_14 : fetch 17 14 = some (.lreturn, 1) := vtab tk17 8 rfl
theorem e17_14 (L : VL) (h : VG) (x : Int64) : ev 17 14 L [.long x] h = some (some (.long x), h) := G_lret f17_14 (by decide)
/-! 18 GuestCalls$Bin.fillCell(IIJ)V -/
def tb18 : List (Nat × Instr × Nat) := [(0, .aload_n 0, 1), (1, .getfield 9, 3), (4, .bipush 7, 2), (6, .if_icmp .gt 21, 3), (9, .aload_n 0, 1), (10, .getfield 19, 3), (13, .iload_n 1, 1), (14, .lload_n 3, 1), (15, .iload_n 2, 1), (16, .aload_n 0, 1), (17, .getfield 9, 3), (20, .invokestatic 68, 3), (23, .lastore, 1), (24, .goto 17, 3), (27, .aload_n 0, 1), (28, .getfield 15, 3), (31, .iload_n 1, 1), (32, .iload_n 2, 1), (33, .iastore, 1), (34, .aload_n 0, 1), (35, .getfield 19, 3), (38, .iload_n 1, 1), (39, .lload_n 3, 1), (40, .lastore, 1), (41, .return_, 1)]
theorem tk18 : tb18.all (fun q => decide (fetch 18 q.1 = some q.2)) = true := by decide +kernel
theorem f18_0 : fetch 18 0 = some (.aload_n 0, 1) := vtab tk18 0 rfl
theorem e18_0 (L : VL) (st : List Value) (h : VG) (x : Nat) : ev 18 0 (some (.ref x) :: L) (st) h = ev 18 1 (some (.ref x) :: L) (.ref x :: st) h := G_aload_n f18_0 rfl
theorem f18_1 : fetch 18 1 = some (.getfield 9, 3) := vtab tk18 1 rfl
theorem e18_1 (L : VL) (st : List Value) (h : VG) (a : Nat) (ho : ob h a 1) : ev 18 1 L (.ref a :: st) h = ev 18 4 L (.int (gI h a 0) :: st) h := G_getI (p := 365) f18_1 lkF_1_9 (by decide) (by decide) ho
theorem f18_4 : fetch 18 4 = some (.bipush 7, 2) := vtab tk18 2 rfl
theorem e18_4 (L : VL) (st : List Value) (h : VG) : ev 18 4 L (st) h = ev 18 6 L (.int (7 : Int32) :: st) h := G_bipush f18_4 (by decide)
theorem f18_6 : fetch 18 6 = some (.if_icmp .gt 21, 3) := vtab tk18 3 rfl
theorem e18_6 (L : VL) (st : List Value) (h : VG) (x y : Int32) : ev 18 6 L (.int y :: .int x :: st) h = if x ≤ y then ev 18 9 L st h else ev 18 27 L st h := G_icmp_gt f18_6 (by decide)
theorem f18_9 : fetch 18 9 = some (.aload_n 0, 1) := vtab tk18 4 rfl
theorem e18_9 (L : VL) (st : List Value) (h : VG) (x : Nat) : ev 18 9 (some (.ref x) :: L) (st) h = ev 18 10 (some (.ref x) :: L) (.ref x :: st) h := G_aload_n f18_9 rfl
theorem f18_10 : fetch 18 10 = some (.getfield 19, 3) := vtab tk18 5 rfl
theorem e18_10 (L : VL) (st : List Value) (h : VG) (a : Nat) (ho : ob h a 1) (hr : isR h a 3) : ev 18 10 L (.ref a :: st) h = ev 18 13 L (.ref (gR h a 3) :: st) h := G_getR (p := 372) f18_10 lkF_1_19 (by decide) (by decide) ho hr
theorem f18_13 : fetch 18 13 = some (.iload_n 1, 1) := vtab tk18 6 rfl
theorem e18_13 (l0 : Option Value) (L : VL) (st : List Value) (h : VG) (x : Int32) : ev 18 13 (l0 :: some (.int x) :: L) (st) h = ev 18 14 (l0 :: some (.int x) :: L) (.int x :: st) h := G_iload_n f18_13 rfl
theorem f18_14 : fetch 18 14 = some (.lload_n 3, 1) := vtab tk18 7 rfl
theorem e18_14 (l0 l1 l2 : Option Value) (L : VL) (st : List Value) (h : VG) (x : Int64) : ev 18 14 (l0 :: l1 :: l2 :: some (.long x) :: L) (st) h = ev 18 15 (l0 :: l1 :: l2 :: some (.long x) :: L) (.long x :: st) h := G_lload_n f18_14 rfl
theorem f18_15 : fetch 18 15 = some (.iload_n 2, 1) := vtab tk18 8 rfl
theorem e18_15 (l0 l1 : Option Value) (L : VL) (st : List Value) (h : VG) (x : Int32) : ev 18 15 (l0 :: l1 :: some (.int x) :: L) (st) h = ev 18 16 (l0 :: l1 :: some (.int x) :: L) (.int x :: st) h := G_iload_n f18_15 rfl
theorem f18_16 : fetch 18 16 = some (.aload_n 0, 1) := vtab tk18 9 rfl
theorem e18_16 (L : VL) (st : List Value) (h : VG) (x : Nat) : ev 18 16 (some (.ref x) :: L) (st) h = ev 18 17 (some (.ref x) :: L) (.ref x :: st) h := G_aload_n f18_16 rfl
theorem f18_17 : fetch 18 17 = some (.getfield 9, 3) := vtab tk18 10 rfl
theorem e18_17 (L : VL) (st : List Value) (h : VG) (a : Nat) (ho : ob h a 1) : ev 18 17 L (.ref a :: st) h = ev 18 20 L (.int (gI h a 0) :: st) h := G_getI (p := 365) f18_17 lkF_1_9 (by decide) (by decide) ho
theorem f18_20 : fetch 18 20 = some (.invokestatic 68, 3) := vtab tk18 11 rfl
theorem e18_20 (L : VL) (st : List Value) (h : VG) (x0 : Int64) (x1 : Int32) (x2 : Int32) (hs : catS st ≤ 8) : ev 18 20 L (.int x2 :: .int x1 :: .long x0 :: st) h = (ev 39 0 [some (.long x0), none, some (.int x1), some (.int x2)] [] h).bind fun q => ev 18 23 L (q.1.toList ++ st) q.2 := G_calls (k := 0) (p := 743) (ars := [.long x0, .int x1, .int x2]) f18_20 lkC_1_68 (by decide) (by decide +kernel) rfl (Nat.le_of_ble_eq_true rfl) hs rfl
theorem f18_23 : fetch 18 23 = some (.lastore, 1) := vtab tk18 12 rfl
theorem e18_23 (L : VL) (st : List Value) (h : VG) (a : Nat) (i : Int32) (x : Int64) (ha : arL h a) (hi : vp_in i (aln h a)) : ev 18 23 L (.long x :: .int i :: .ref a :: st) h = ev 18 24 L (st) (wL h a i.toNatClampNeg x) := G_last f18_23 ha hi
theorem f18_24 : fetch 18 24 = some (.goto 17, 3) := vtab tk18 13 rfl
theorem e18_24 (L : VL) (st : List Value) (h : VG) : ev 18 24 L (st) h = ev 18 41 L (st) h := G_goto f18_24 (by decide)
theorem f18_27 : fetch 18 27 = some (.aload_n 0, 1) := vtab tk18 14 rfl
theorem e18_27 (L : VL) (st : List Value) (h : VG) (x : Nat) : ev 18 27 (some (.ref x) :: L) (st) h = ev 18 28 (some (.ref x) :: L) (.ref x :: st) h := G_aload_n f18_27 rfl
theorem f18_28 : fetch 18 28 = some (.getfield 15, 3) := vtab tk18 15 rfl
theorem e18_28 (L : VL) (st : List Value) (h : VG) (a : Nat) (ho : ob h a 1) (hr : isR h a 2) : ev 18 28 L (.ref a :: st) h = ev 18 31 L (.ref (gR h a 2) :: st) h := G_getR (p := 370) f18_28 lkF_1_15 (by decide) (by decide) ho hr
theorem f18_31 : fetch 18 31 = some (.iload_n 1, 1) := vtab tk18 16 rfl
theorem e18_31 (l0 : Option Value) (L : VL) (st : List Value) (h : VG) (x : Int32) : ev 18 31 (l0 :: some (.int x) :: L) (st) h = ev 18 32 (l0 :: some (.int x) :: L) (.int x :: st) h := G_iload_n f18_31 rfl
theorem f18_32 : fetch 18 32 = some (.iload_n 2, 1) := vtab tk18 17 rfl
theorem e18_32 (l0 l1 : Option Value) (L : VL) (st : List Value) (h : VG) (x : Int32) : ev 18 32 (l0 :: l1 :: some (.int x) :: L) (st) h = ev 18 33 (l0 :: l1 :: some (.int x) :: L) (.int x :: st) h := G_iload_n f18_32 rfl
theorem f18_33 : fetch 18 33 = some (.iastore, 1) := vtab tk18 18 rfl
theorem e18_33 (L : VL) (st : List Value) (h : VG) (a : Nat) (i : Int32) (x : Int32) (ha : arI h a 0) (hi : vp_in i (aln h a)) : ev 18 33 L (.int x :: .int i :: .ref a :: st) h = ev 18 34 L (st) (wI h a i.toNatClampNeg x) := G_iast f18_33 ha hi
theorem f18_34 : fetch 18 34 = some (.aload_n 0, 1) := vtab tk18 19 rfl
theorem e18_34 (L : VL) (st : List Value) (h : VG) (x : Nat) : ev 18 34 (some (.ref x) :: L) (st) h = ev 18 35 (some (.ref x) :: L) (.ref x :: st) h := G_aload_n f18_34 rfl
theorem f18_35 : fetch 18 35 = some (.getfield 19, 3) := vtab tk18 20 rfl
theorem e18_35 (L : VL) (st : List Value) (h : VG) (a : Nat) (ho : ob h a 1) (hr : isR h a 3) : ev 18 35 L (.ref a :: st) h = ev 18 38 L (.ref (gR h a 3) :: st) h := G_getR (p := 372) f18_35 lkF_1_19 (by decide) (by decide) ho hr
theorem f18_38 : fetch 18 38 = some (.iload_n 1, 1) := vtab tk18 21 rfl
theorem e18_38 (l0 : Option Value) (L : VL) (st : List Value) (h : VG) (x : Int32) : ev 18 38 (l0 :: some (.int x) :: L) (st) h = ev 18 39 (l0 :: some (.int x) :: L) (.int x :: st) h := G_iload_n f18_38 rfl
theorem f18_39 : fetch 18 39 = some (.lload_n 3, 1) := vtab tk18 22 rfl
theorem e18_39 (l0 l1 l2 : Option Value) (L : VL) (st : List Value) (h : VG) (x : Int64) : ev 18 39 (l0 :: l1 :: l2 :: some (.long x) :: L) (st) h = ev 18 40 (l0 :: l1 :: l2 :: some (.long x) :: L) (.long x :: st) h := G_lload_n f18_39 rfl
theorem f18_40 : fetch 18 40 = some (.lastore, 1) := vtab tk18 23 rfl
theorem e18_40 (L : VL) (st : List Value) (h : VG) (a : Nat) (i : Int32) (x : Int64) (ha : arL h a) (hi : vp_in i (aln h a)) : ev 18 40 L (.long x :: .int i :: .ref a :: st) h = ev 18 41 L (st) (wL h a i.toNatClampNeg x) := G_last f18_40 ha hi
theorem f18_41 : fetch 18 41 = some (.return_, 1) := vtab tk18 24 rfl
theorem e18_41 (L : VL) (h : VG) : ev 18 41 L [] h = some (none, h) := G_vret f18_41 (by decide)
/-! 19 GuestCalls$Bin.toldAt(I)J -/
def tb19 : List (Nat × Instr × Nat) := [(0, .aload_n 0, 1), (1, .getfield 19, 3), (4, .iload_n 1, 1), (5, .laload, 1), (6, .aload_n 0, 1), (7, .getfield 15, 3), (10, .iload_n 1, 1), (11, .iaload, 1), (12, .invokestatic 72, 3), (15, .lreturn, 1)]
theorem tk19 : tb19.all (fun q => decide (fetch 19 q.1 = some q.2)) = true := by decide +kernel
theorem f19_0 : fetch 19 0 = some (.aload_n 0, 1) := vtab tk19 0 rfl
theorem e19_0 (L : VL) (st : List Value) (h : VG) (x : Nat) : ev 19 0 (some (.ref x) :: L) (st) h = ev 19 1 (some (.ref x) :: L) (.ref x :: st) h := G_aload_n f19_0 rfl
theorem f19_1 : fetch 19 1 = some (.getfield 19, 3) := vtab tk19 1 rfl
theorem e19_1 (L : VL) (st : List Value) (h : VG) (a : Nat) (ho : ob h a 1) (hr : isR h a 3) : ev 19 1 L (.ref a :: st) h = ev 19 4 L (.ref (gR h a 3) :: st) h := G_getR (p := 372) f19_1 lkF_1_19 (by decide) (by decide) ho hr
theorem f19_4 : fetch 19 4 = some (.iload_n 1, 1) := vtab tk19 2 rfl
theorem e19_4 (l0 : Option Value) (L : VL) (st : List Value) (h : VG) (x : Int32) : ev 19 4 (l0 :: some (.int x) :: L) (st) h = ev 19 5 (l0 :: some (.int x) :: L) (.int x :: st) h := G_iload_n f19_4 rfl
theorem f19_5 : fetch 19 5 = some (.laload, 1) := vtab tk19 3 rfl
theorem e19_5 (L : VL) (st : List Value) (h : VG) (a : Nat) (i : Int32) (ha : arL h a) (hi : vp_in i (aln h a)) : ev 19 5 L (.int i :: .ref a :: st) h = ev 19 6 L (.long (aL h a i.toNatClampNeg) :: st) h := G_lald f19_5 ha hi
theorem f19_6 : fetch 19 6 = some (.aload_n 0, 1) := vtab tk19 4 rfl
theorem e19_6 (L : VL) (st : List Value) (h : VG) (x : Nat) : ev 19 6 (some (.ref x) :: L) (st) h = ev 19 7 (some (.ref x) :: L) (.ref x :: st) h := G_aload_n f19_6 rfl
theorem f19_7 : fetch 19 7 = some (.getfield 15, 3) := vtab tk19 5 rfl
theorem e19_7 (L : VL) (st : List Value) (h : VG) (a : Nat) (ho : ob h a 1) (hr : isR h a 2) : ev 19 7 L (.ref a :: st) h = ev 19 10 L (.ref (gR h a 2) :: st) h := G_getR (p := 370) f19_7 lkF_1_15 (by decide) (by decide) ho hr
theorem f19_10 : fetch 19 10 = some (.iload_n 1, 1) := vtab tk19 6 rfl
theorem e19_10 (l0 : Option Value) (L : VL) (st : List Value) (h : VG) (x : Int32) : ev 19 10 (l0 :: some (.int x) :: L) (st) h = ev 19 11 (l0 :: some (.int x) :: L) (.int x :: st) h := G_iload_n f19_10 rfl
theorem f19_11 : fetch 19 11 = some (.iaload, 1) := vtab tk19 7 rfl
theorem e19_11 (L : VL) (st : List Value) (h : VG) (a : Nat) (i : Int32) (ha : rdI h a) (hi : vp_in i (aln h a)) : ev 19 11 L (.int i :: .ref a :: st) h = ev 19 12 L (.int (aI h a i.toNatClampNeg) :: st) h := G_iald' f19_11 ha hi
theorem f19_12 : fetch 19 12 = some (.invokestatic 72, 3) := vtab tk19 8 rfl
theorem e19_12 (L : VL) (st : List Value) (h : VG) (x0 : Int64) (x1 : Int32) (hs : catS st ≤ 8) : ev 19 12 L (.int x1 :: .long x0 :: st) h = (ev 38 0 [some (.long x0), none, some (.int x1)] [] h).bind fun q => ev 19 15 L (q.1.toList ++ st) q.2 := G_calls (k := 0) (p := 809) (ars := [.long x0, .int x1]) f19_12 lkC_1_72 (by decide) (by decide +kernel) rfl (Nat.le_of_ble_eq_true rfl) hs rfl
theorem f19_15 : fetch 19 15 = some (.lreturn, 1) := vtab tk19 9 rfl
theorem e19_15 (L : VL) (h : VG) (x : Int64) : ev 19 15 L [.long x] h = some (some (.long x), h) := G_lret f19_15 (by decide)
/-! 20 GuestCalls$Bin.isAlike(LGuestCalls$Bin;I)Z -/
def tb20 : List (Nat × Instr × Nat) := [(0, .aload_n 0, 1), (1, .getfield 15, 3), (4, .iload_n 2, 1), (5, .iaload, 1), (6, .istore_n 3, 1), (7, .aload_n 1, 1), (8, .getfield 15, 3), (11, .iload_n 2, 1), (12, .iaload, 1), (13, .istore 4, 2), (15, .iload_n 3, 1), (16, .ifCond .eq 27, 3), (19, .iload_n 3, 1), (20, .invokestatic 65, 3), (23, .ifCond .eq 20, 3), (26, .iload 4, 2), (28, .ifCond .eq 15, 3), (31, .iload 4, 2), (33, .invokestatic 65, 3), (36, .ifCond .eq 7, 3), (39, .iconst 1, 1), (40, .goto 4, 3), (43, .iconst 0, 1), (44, .istore 5, 2), (46, .iload 5, 2), (48, .ifCond .ne 31, 3), (51, .iload_n 3, 1), (52, .iload 4, 2), (54, .if_icmp .ne 23, 3), (57, .aload_n 0, 1), (58, .getfield 19, 3), (61, .iload_n 2, 1), (62, .laload, 1), (63, .aload_n 1, 1), (64, .getfield 19, 3), (67, .iload_n 2, 1), (68, .laload, 1), (69, .lcmp, 1), (70, .ifCond .ne 7, 3), (73, .iconst 1, 1), (74, .goto 4, 3), (77, .iconst 0, 1), (78, .ireturn, 1), (79, .aload_n 0, 1), (80, .getfield 19, 3), (83, .iload_n 2, 1), (84, .laload, 1), (85, .iload_n 3, 1), (86, .bipush 7, 2), (88, .invokestatic 68, 3), (91, .lstore 6, 2), (93, .lload 6, 2), (95, .aload_n 1, 1), (96, .getfield 19, 3), (99, .iload_n 2, 1), (100, .laload, 1), (101, .iload 4, 2), (103, .bipush 7, 2), (105, .invokestatic 68, 3), (108, .invokestatic 76, 3), (111, .ireturn, 1)]
theorem tk20 : tb20.all (fun q => decide (fetch 20 q.1 = some q.2)) = true := by decide +kernel
theorem f20_0 : fetch 20 0 = some (.aload_n 0, 1) := vtab tk20 0 rfl
theorem e20_0 (L : VL) (st : List Value) (h : VG) (x : Nat) : ev 20 0 (some (.ref x) :: L) (st) h = ev 20 1 (some (.ref x) :: L) (.ref x :: st) h := G_aload_n f20_0 rfl
theorem f20_1 : fetch 20 1 = some (.getfield 15, 3) := vtab tk20 1 rfl
theorem e20_1 (L : VL) (st : List Value) (h : VG) (a : Nat) (ho : ob h a 1) (hr : isR h a 2) : ev 20 1 L (.ref a :: st) h = ev 20 4 L (.ref (gR h a 2) :: st) h := G_getR (p := 370) f20_1 lkF_1_15 (by decide) (by decide) ho hr
theorem f20_4 : fetch 20 4 = some (.iload_n 2, 1) := vtab tk20 2 rfl
theorem e20_4 (l0 l1 : Option Value) (L : VL) (st : List Value) (h : VG) (x : Int32) : ev 20 4 (l0 :: l1 :: some (.int x) :: L) (st) h = ev 20 5 (l0 :: l1 :: some (.int x) :: L) (.int x :: st) h := G_iload_n f20_4 rfl
theorem f20_5 : fetch 20 5 = some (.iaload, 1) := vtab tk20 3 rfl
theorem e20_5 (L : VL) (st : List Value) (h : VG) (a : Nat) (i : Int32) (ha : rdI h a) (hi : vp_in i (aln h a)) : ev 20 5 L (.int i :: .ref a :: st) h = ev 20 6 L (.int (aI h a i.toNatClampNeg) :: st) h := G_iald' f20_5 ha hi
theorem f20_6 : fetch 20 6 = some (.istore_n 3, 1) := vtab tk20 4 rfl
theorem e20_6 (l0 l1 l2 l3 : Option Value) (L : VL) (st : List Value) (h : VG) (x : Int32) : ev 20 6 (l0 :: l1 :: l2 :: l3 :: L) (.int x :: st) h = ev 20 7 (l0 :: l1 :: vkk l2 :: some (.int x) :: L) (st) h := G_istore_n f20_6 rfl (S1_3 l0 l1 l2 l3 L _)
theorem f20_7 : fetch 20 7 = some (.aload_n 1, 1) := vtab tk20 5 rfl
theorem e20_7 (l0 : Option Value) (L : VL) (st : List Value) (h : VG) (x : Nat) : ev 20 7 (l0 :: some (.ref x) :: L) (st) h = ev 20 8 (l0 :: some (.ref x) :: L) (.ref x :: st) h := G_aload_n f20_7 rfl
theorem f20_8 : fetch 20 8 = some (.getfield 15, 3) := vtab tk20 6 rfl
theorem e20_8 (L : VL) (st : List Value) (h : VG) (a : Nat) (ho : ob h a 1) (hr : isR h a 2) : ev 20 8 L (.ref a :: st) h = ev 20 11 L (.ref (gR h a 2) :: st) h := G_getR (p := 370) f20_8 lkF_1_15 (by decide) (by decide) ho hr
theorem f20_11 : fetch 20 11 = some (.iload_n 2, 1) := vtab tk20 7 rfl
theorem e20_11 (l0 l1 : Option Value) (L : VL) (st : List Value) (h : VG) (x : Int32) : ev 20 11 (l0 :: l1 :: some (.int x) :: L) (st) h = ev 20 12 (l0 :: l1 :: some (.int x) :: L) (.int x :: st) h := G_iload_n f20_11 rfl
theorem f20_12 : fetch 20 12 = some (.iaload, 1) := vtab tk20 8 rfl
theorem e20_12 (L : VL) (st : List Value) (h : VG) (a : Nat) (i : Int32) (ha : rdI h a) (hi : vp_in i (aln h a)) : ev 20 12 L (.int i :: .ref a :: st) h = ev 20 13 L (.int (aI h a i.toNatClampNeg) :: st) h := G_iald' f20_12 ha hi
theorem f20_13 : fetch 20 13 = some (.istore 4, 2) := vtab tk20 9 rfl
theorem e20_13 (l0 l1 l2 l3 l4 : Option Value) (L : VL) (st : List Value) (h : VG) (x : Int32) : ev 20 13 (l0 :: l1 :: l2 :: l3 :: l4 :: L) (.int x :: st) h = ev 20 15 (l0 :: l1 :: l2 :: vkk l3 :: some (.int x) :: L) (st) h := G_istore f20_13 rfl (S1_4 l0 l1 l2 l3 l4 L _)
theorem f20_15 : fetch 20 15 = some (.iload_n 3, 1) := vtab tk20 10 rfl
theorem e20_15 (l0 l1 l2 : Option Value) (L : VL) (st : List Value) (h : VG) (x : Int32) : ev 20 15 (l0 :: l1 :: l2 :: some (.int x) :: L) (st) h = ev 20 16 (l0 :: l1 :: l2 :: some (.int x) :: L) (.int x :: st) h := G_iload_n f20_15 rfl
theorem f20_16 : fetch 20 16 = some (.ifCond .eq 27, 3) := vtab tk20 11 rfl
theorem e20_16 (L : VL) (st : List Value) (h : VG) (x : Int32) : ev 20 16 L (.int x :: st) h = if x = 0 then ev 20 43 L st h else ev 20 19 L st h := G_if_eq f20_16 (by decide)
theorem f20_19 : fetch 20 19 = some (.iload_n 3, 1) := vtab tk20 12 rfl
theorem e20_19 (l0 l1 l2 : Option Value) (L : VL) (st : List Value) (h : VG) (x : Int32) : ev 20 19 (l0 :: l1 :: l2 :: some (.int x) :: L) (st) h = ev 20 20 (l0 :: l1 :: l2 :: some (.int x) :: L) (.int x :: st) h := G_iload_n f20_19 rfl
theorem f20_20 : fetch 20 20 = some (.invokestatic 65, 3) := vtab tk20 13 rfl
theorem e20_20 (L : VL) (st : List Value) (h : VG) (x0 : Int32) (hs : catS st ≤ 8) : ev 20 20 L (.int x0 :: st) h = (ev 103 0 [some (.int x0)] [] h).bind fun q => ev 20 23 L (q.1.toList ++ st) q.2 := G_calls (k := 3) (p := 822) (ars := [.int x0]) f20_20 lkC_1_65 (by decide) (by decide +kernel) rfl (Nat.le_of_ble_eq_true rfl) hs rfl
theorem f20_23 : fetch 20 23 = some (.ifCond .eq 20, 3) := vtab tk20 14 rfl
theorem e20_23 (L : VL) (st : List Value) (h : VG) (x : Int32) : ev 20 23 L (.int x :: st) h = if x = 0 then ev 20 43 L st h else ev 20 26 L st h := G_if_eq f20_23 (by decide)
theorem f20_26 : fetch 20 26 = some (.iload 4, 2) := vtab tk20 15 rfl
theorem e20_26 (l0 l1 l2 l3 : Option Value) (L : VL) (st : List Value) (h : VG) (x : Int32) : ev 20 26 (l0 :: l1 :: l2 :: l3 :: some (.int x) :: L) (st) h = ev 20 28 (l0 :: l1 :: l2 :: l3 :: some (.int x) :: L) (.int x :: st) h := G_iload f20_26 rfl
theorem f20_28 : fetch 20 28 = some (.ifCond .eq 15, 3) := vtab tk20 16 rfl
theorem e20_28 (L : VL) (st : List Value) (h : VG) (x : Int32) : ev 20 28 L (.int x :: st) h = if x = 0 then ev 20 43 L st h else ev 20 31 L st h := G_if_eq f20_28 (by decide)
theorem f20_31 : fetch 20 31 = some (.iload 4, 2) := vtab tk20 17 rfl
theorem e20_31 (l0 l1 l2 l3 : Option Value) (L : VL) (st : List Value) (h : VG) (x : Int32) : ev 20 31 (l0 :: l1 :: l2 :: l3 :: some (.int x) :: L) (st) h = ev 20 33 (l0 :: l1 :: l2 :: l3 :: some (.int x) :: L) (.int x :: st) h := G_iload f20_31 rfl
theorem f20_33 : fetch 20 33 = some (.invokestatic 65, 3) := vtab tk20 18 rfl
theorem e20_33 (L : VL) (st : List Value) (h : VG) (x0 : Int32) (hs : catS st ≤ 8) : ev 20 33 L (.int x0 :: st) h = (ev 103 0 [some (.int x0)] [] h).bind fun q => ev 20 36 L (q.1.toList ++ st) q.2 := G_calls (k := 3) (p := 822) (ars := [.int x0]) f20_33 lkC_1_65 (by decide) (by decide +kernel) rfl (Nat.le_of_ble_eq_true rfl) hs rfl
theorem f20_36 : fetch 20 36 = some (.ifCond .eq 7, 3) := vtab tk20 19 rfl
theorem e20_36 (L : VL) (st : List Value) (h : VG) (x : Int32) : ev 20 36 L (.int x :: st) h = if x = 0 then ev 20 43 L st h else ev 20 39 L st h := G_if_eq f20_36 (by decide)
theorem f20_39 : fetch 20 39 = some (.iconst 1, 1) := vtab tk20 20 rfl
theorem e20_39 (L : VL) (st : List Value) (h : VG) : ev 20 39 L (st) h = ev 20 40 L (.int (1 : Int32) :: st) h := G_iconst f20_39 (by decide)
theorem f20_40 : fetch 20 40 = some (.goto 4, 3) := vtab tk20 21 rfl
theorem e20_40 (L : VL) (st : List Value) (h : VG) : ev 20 40 L (st) h = ev 20 44 L (st) h := G_goto f20_40 (by decide)
theorem f20_43 : fetch 20 43 = some (.iconst 0, 1) := vtab tk20 22 rfl
theorem e20_43 (L : VL) (st : List Value) (h : VG) : ev 20 43 L (st) h = ev 20 44 L (.int (0 : Int32) :: st) h := G_iconst f20_43 (by decide)
theorem f20_44 : fetch 20 44 = some (.istore 5, 2) := vtab tk20 23 rfl
theorem e20_44 (l0 l1 l2 l3 l4 l5 : Option Value) (L : VL) (st : List Value) (h : VG) (x : Int32) : ev 20 44 (l0 :: l1 :: l2 :: l3 :: l4 :: l5 :: L) (.int x :: st) h = ev 20 46 (l0 :: l1 :: l2 :: l3 :: vkk l4 :: some (.int x) :: L) (st) h := G_istore f20_44 rfl (S1_5 l0 l1 l2 l3 l4 l5 L _)
theorem f20_46 : fetch 20 46 = some (.iload 5, 2) := vtab tk20 24 rfl
theorem e20_46 (l0 l1 l2 l3 l4 : Option Value) (L : VL) (st : List Value) (h : VG) (x : Int32) : ev 20 46 (l0 :: l1 :: l2 :: l3 :: l4 :: some (.int x) :: L) (st) h = ev 20 48 (l0 :: l1 :: l2 :: l3 :: l4 :: some (.int x) :: L) (.int x :: st) h := G_iload f20_46 rfl
theorem f20_48 : fetch 20 48 = some (.ifCond .ne 31, 3) := vtab tk20 25 rfl
theorem e20_48 (L : VL) (st : List Value) (h : VG) (x : Int32) : ev 20 48 L (.int x :: st) h = if x = 0 then ev 20 51 L st h else ev 20 79 L st h := G_if_ne f20_48 (by decide)
theorem f20_51 : fetch 20 51 = some (.iload_n 3, 1) := vtab tk20 26 rfl
theorem e20_51 (l0 l1 l2 : Option Value) (L : VL) (st : List Value) (h : VG) (x : Int32) : ev 20 51 (l0 :: l1 :: l2 :: some (.int x) :: L) (st) h = ev 20 52 (l0 :: l1 :: l2 :: some (.int x) :: L) (.int x :: st) h := G_iload_n f20_51 rfl
theorem f20_52 : fetch 20 52 = some (.iload 4, 2) := vtab tk20 27 rfl
theorem e20_52 (l0 l1 l2 l3 : Option Value) (L : VL) (st : List Value) (h : VG) (x : Int32) : ev 20 52 (l0 :: l1 :: l2 :: l3 :: some (.int x) :: L) (st) h = ev 20 54 (l0 :: l1 :: l2 :: l3 :: some (.int x) :: L) (.int x :: st) h := G_iload f20_52 rfl
theorem f20_54 : fetch 20 54 = some (.if_icmp .ne 23, 3) := vtab tk20 28 rfl
theorem e20_54 (L : VL) (st : List Value) (h : VG) (x y : Int32) : ev 20 54 L (.int y :: .int x :: st) h = if x = y then ev 20 57 L st h else ev 20 77 L st h := G_icmp_ne f20_54 (by decide)
theorem f20_57 : fetch 20 57 = some (.aload_n 0, 1) := vtab tk20 29 rfl
theorem e20_57 (L : VL) (st : List Value) (h : VG) (x : Nat) : ev 20 57 (some (.ref x) :: L) (st) h = ev 20 58 (some (.ref x) :: L) (.ref x :: st) h := G_aload_n f20_57 rfl
theorem f20_58 : fetch 20 58 = some (.getfield 19, 3) := vtab tk20 30 rfl
theorem e20_58 (L : VL) (st : List Value) (h : VG) (a : Nat) (ho : ob h a 1) (hr : isR h a 3) : ev 20 58 L (.ref a :: st) h = ev 20 61 L (.ref (gR h a 3) :: st) h := G_getR (p := 372) f20_58 lkF_1_19 (by decide) (by decide) ho hr
theorem f20_61 : fetch 20 61 = some (.iload_n 2, 1) := vtab tk20 31 rfl
theorem e20_61 (l0 l1 : Option Value) (L : VL) (st : List Value) (h : VG) (x : Int32) : ev 20 61 (l0 :: l1 :: some (.int x) :: L) (st) h = ev 20 62 (l0 :: l1 :: some (.int x) :: L) (.int x :: st) h := G_iload_n f20_61 rfl
theorem f20_62 : fetch 20 62 = some (.laload, 1) := vtab tk20 32 rfl
theorem e20_62 (L : VL) (st : List Value) (h : VG) (a : Nat) (i : Int32) (ha : arL h a) (hi : vp_in i (aln h a)) : ev 20 62 L (.int i :: .ref a :: st) h = ev 20 63 L (.long (aL h a i.toNatClampNeg) :: st) h := G_lald f20_62 ha hi
theorem f20_63 : fetch 20 63 = some (.aload_n 1, 1) := vtab tk20 33 rfl
theorem e20_63 (l0 : Option Value) (L : VL) (st : List Value) (h : VG) (x : Nat) : ev 20 63 (l0 :: some (.ref x) :: L) (st) h = ev 20 64 (l0 :: some (.ref x) :: L) (.ref x :: st) h := G_aload_n f20_63 rfl
theorem f20_64 : fetch 20 64 = some (.getfield 19, 3) := vtab tk20 34 rfl
theorem e20_64 (L : VL) (st : List Value) (h : VG) (a : Nat) (ho : ob h a 1) (hr : isR h a 3) : ev 20 64 L (.ref a :: st) h = ev 20 67 L (.ref (gR h a 3) :: st) h := G_getR (p := 372) f20_64 lkF_1_19 (by decide) (by decide) ho hr
theorem f20_67 : fetch 20 67 = some (.iload_n 2, 1) := vtab tk20 35 rfl
theorem e20_67 (l0 l1 : Option Value) (L : VL) (st : List Value) (h : VG) (x : Int32) : ev 20 67 (l0 :: l1 :: some (.int x) :: L) (st) h = ev 20 68 (l0 :: l1 :: some (.int x) :: L) (.int x :: st) h := G_iload_n f20_67 rfl
theorem f20_68 : fetch 20 68 = some (.laload, 1) := vtab tk20 36 rfl
theorem e20_68 (L : VL) (st : List Value) (h : VG) (a : Nat) (i : Int32) (ha : arL h a) (hi : vp_in i (aln h a)) : ev 20 68 L (.int i :: .ref a :: st) h = ev 20 69 L (.long (aL h a i.toNatClampNeg) :: st) h := G_lald f20_68 ha hi
theorem f20_69 : fetch 20 69 = some (.lcmp, 1) := vtab tk20 37 rfl
theorem e20_69 (L : VL) (st : List Value) (h : VG) (x y : Int64) : ev 20 69 L (.long y :: .long x :: st) h = ev 20 70 L (.int (lg_cmp x y) :: st) h := G_lcmp f20_69
theorem f20_70 : fetch 20 70 = some (.ifCond .ne 7, 3) := vtab tk20 38 rfl
theorem e20_70 (L : VL) (st : List Value) (h : VG) (x : Int32) : ev 20 70 L (.int x :: st) h = if x = 0 then ev 20 73 L st h else ev 20 77 L st h := G_if_ne f20_70 (by decide)
theorem f20_73 : fetch 20 73 = some (.iconst 1, 1) := vtab tk20 39 rfl
theorem e20_73 (L : VL) (st : List Value) (h : VG) : ev 20 73 L (st) h = ev 20 74 L (.int (1 : Int32) :: st) h := G_iconst f20_73 (by decide)
theorem f20_74 : fetch 20 74 = some (.goto 4, 3) := vtab tk20 40 rfl
theorem e20_74 (L : VL) (st : List Value) (h : VG) : ev 20 74 L (st) h = ev 20 78 L (st) h := G_goto f20_74 (by decide)
theorem f20_77 : fetch 20 77 = some (.iconst 0, 1) := vtab tk20 41 rfl
theorem e20_77 (L : VL) (st : List Value) (h : VG) : ev 20 77 L (st) h = ev 20 78 L (.int (0 : Int32) :: st) h := G_iconst f20_77 (by decide)
theorem f20_78 : fetch 20 78 = some (.ireturn, 1) := vtab tk20 42 rfl
theorem e20_78 (L : VL) (h : VG) (x : Int32) (hz : x = 0 ∨ x = 1) : ev 20 78 L [.int x] h = some (some (.int x), h) := G_iret f20_78 (ty := .boolean) (by decide) (vbool hz).1
theorem f20_79 : fetch 20 79 = some (.aload_n 0, 1) := vtab tk20 43 rfl
theorem e20_79 (L : VL) (st : List Value) (h : VG) (x : Nat) : ev 20 79 (some (.ref x) :: L) (st) h = ev 20 80 (some (.ref x) :: L) (.ref x :: st) h := G_aload_n f20_79 rfl
theorem f20_80 : fetch 20 80 = some (.getfield 19, 3) := vtab tk20 44 rfl
theorem e20_80 (L : VL) (st : List Value) (h : VG) (a : Nat) (ho : ob h a 1) (hr : isR h a 3) : ev 20 80 L (.ref a :: st) h = ev 20 83 L (.ref (gR h a 3) :: st) h := G_getR (p := 372) f20_80 lkF_1_19 (by decide) (by decide) ho hr
theorem f20_83 : fetch 20 83 = some (.iload_n 2, 1) := vtab tk20 45 rfl
theorem e20_83 (l0 l1 : Option Value) (L : VL) (st : List Value) (h : VG) (x : Int32) : ev 20 83 (l0 :: l1 :: some (.int x) :: L) (st) h = ev 20 84 (l0 :: l1 :: some (.int x) :: L) (.int x :: st) h := G_iload_n f20_83 rfl
theorem f20_84 : fetch 20 84 = some (.laload, 1) := vtab tk20 46 rfl
theorem e20_84 (L : VL) (st : List Value) (h : VG) (a : Nat) (i : Int32) (ha : arL h a) (hi : vp_in i (aln h a)) : ev 20 84 L (.int i :: .ref a :: st) h = ev 20 85 L (.long (aL h a i.toNatClampNeg) :: st) h := G_lald f20_84 ha hi
theorem f20_85 : fetch 20 85 = some (.iload_n 3, 1) := vtab tk20 47 rfl
theorem e20_85 (l0 l1 l2 : Option Value) (L : VL) (st : List Value) (h : VG) (x : Int32) : ev 20 85 (l0 :: l1 :: l2 :: some (.int x) :: L) (st) h = ev 20 86 (l0 :: l1 :: l2 :: some (.int x) :: L) (.int x :: st) h := G_iload_n f20_85 rfl
theorem f20_86 : fetch 20 86 = some (.bipush 7, 2) := vtab tk20 48 rfl
theorem e20_86 (L : VL) (st : List Value) (h : VG) : ev 20 86 L (st) h = ev 20 88 L (.int (7 : Int32) :: st) h := G_bipush f20_86 (by decide)
theorem f20_88 : fetch 20 88 = some (.invokestatic 68, 3) := vtab tk20 49 rfl
theorem e20_88 (L : VL) (st : List Value) (h : VG) (x0 : Int64) (x1 : Int32) (x2 : Int32) (hs : catS st ≤ 8) : ev 20 88 L (.int x2 :: .int x1 :: .long x0 :: st) h = (ev 39 0 [some (.long x0), none, some (.int x1), some (.int x2)] [] h).bind fun q => ev 20 91 L (q.1.toList ++ st) q.2 := G_calls (k := 0) (p := 743) (ars := [.long x0, .int x1, .int x2]) f20_88 lkC_1_68 (by decide) (by decide +kernel) rfl (Nat.le_of_ble_eq_true rfl) hs rfl
theorem f20_91 : fetch 20 91 = some (.lstore 6, 2) := vtab tk20 50 rfl
theorem e20_91 (l0 l1 l2 l3 l4 l5 l6 l7 : Option Value) (L : VL) (st : List Value) (h : VG) (x : Int64) : ev 20 91 (l0 :: l1 :: l2 :: l3 :: l4 :: l5 :: l6 :: l7 :: L) (.long x :: st) h = ev 20 93 (l0 :: l1 :: l2 :: l3 :: l4 :: vkk l5 :: some (.long x) :: none :: L) (st) h := G_lstore f20_91 rfl (S2_6 l0 l1 l2 l3 l4 l5 l6 l7 L _)
theorem f20_93 : fetch 20 93 = some (.lload 6, 2) := vtab tk20 51 rfl
theorem e20_93 (l0 l1 l2 l3 l4 l5 : Option Value) (L : VL) (st : List Value) (h : VG) (x : Int64) : ev 20 93 (l0 :: l1 :: l2 :: l3 :: l4 :: l5 :: some (.long x) :: L) (st) h = ev 20 95 (l0 :: l1 :: l2 :: l3 :: l4 :: l5 :: some (.long x) :: L) (.long x :: st) h := G_lload f20_93 rfl
theorem f20_95 : fetch 20 95 = some (.aload_n 1, 1) := vtab tk20 52 rfl
theorem e20_95 (l0 : Option Value) (L : VL) (st : List Value) (h : VG) (x : Nat) : ev 20 95 (l0 :: some (.ref x) :: L) (st) h = ev 20 96 (l0 :: some (.ref x) :: L) (.ref x :: st) h := G_aload_n f20_95 rfl
theorem f20_96 : fetch 20 96 = some (.getfield 19, 3) := vtab tk20 53 rfl
theorem e20_96 (L : VL) (st : List Value) (h : VG) (a : Nat) (ho : ob h a 1) (hr : isR h a 3) : ev 20 96 L (.ref a :: st) h = ev 20 99 L (.ref (gR h a 3) :: st) h := G_getR (p := 372) f20_96 lkF_1_19 (by decide) (by decide) ho hr
theorem f20_99 : fetch 20 99 = some (.iload_n 2, 1) := vtab tk20 54 rfl
theorem e20_99 (l0 l1 : Option Value) (L : VL) (st : List Value) (h : VG) (x : Int32) : ev 20 99 (l0 :: l1 :: some (.int x) :: L) (st) h = ev 20 100 (l0 :: l1 :: some (.int x) :: L) (.int x :: st) h := G_iload_n f20_99 rfl
theorem f20_100 : fetch 20 100 = some (.laload, 1) := vtab tk20 55 rfl
theorem e20_100 (L : VL) (st : List Value) (h : VG) (a : Nat) (i : Int32) (ha : arL h a) (hi : vp_in i (aln h a)) : ev 20 100 L (.int i :: .ref a :: st) h = ev 20 101 L (.long (aL h a i.toNatClampNeg) :: st) h := G_lald f20_100 ha hi
theorem f20_101 : fetch 20 101 = some (.iload 4, 2) := vtab tk20 56 rfl
theorem e20_101 (l0 l1 l2 l3 : Option Value) (L : VL) (st : List Value) (h : VG) (x : Int32) : ev 20 101 (l0 :: l1 :: l2 :: l3 :: some (.int x) :: L) (st) h = ev 20 103 (l0 :: l1 :: l2 :: l3 :: some (.int x) :: L) (.int x :: st) h := G_iload f20_101 rfl
theorem f20_103 : fetch 20 103 = some (.bipush 7, 2) := vtab tk20 57 rfl
theorem e20_103 (L : VL) (st : List Value) (h : VG) : ev 20 103 L (st) h = ev 20 105 L (.int (7 : Int32) :: st) h := G_bipush f20_103 (by decide)
theorem f20_105 : fetch 20 105 = some (.invokestatic 68, 3) := vtab tk20 58 rfl
theorem e20_105 (L : VL) (st : List Value) (h : VG) (x0 : Int64) (x1 : Int32) (x2 : Int32) (hs : catS st ≤ 8) : ev 20 105 L (.int x2 :: .int x1 :: .long x0 :: st) h = (ev 39 0 [some (.long x0), none, some (.int x1), some (.int x2)] [] h).bind fun q => ev 20 108 L (q.1.toList ++ st) q.2 := G_calls (k := 0) (p := 743) (ars := [.long x0, .int x1, .int x2]) f20_105 lkC_1_68 (by decide) (by decide +kernel) rfl (Nat.le_of_ble_eq_true rfl) hs rfl
theorem f20_108 : fetch 20 108 = some (.invokestatic 76, 3) := vtab tk20 59 rfl
theorem e20_108 (L : VL) (st : List Value) (h : VG) (x0 : Int64) (x1 : Int64) (hs : catS st ≤ 8) : ev 20 108 L (.long x1 :: .long x0 :: st) h = (ev 41 0 [some (.long x0), none, some (.long x1), none] [] h).bind fun q => ev 20 111 L (q.1.toList ++ st) q.2 := G_calls (k := 0) (p := 861) (ars := [.long x0, .long x1]) f20_108 lkC_1_76 (by decide) (by decide +kernel) rfl (Nat.le_of_ble_eq_true rfl) hs rfl
theorem f20_111 : fetch 20 111 = some (.ireturn, 1) := vtab tk20 60 rfl
theorem e20_111 (L : VL) (h : VG) (x : Int32) (hz : x = 0 ∨ x = 1) : ev 20 111 L [.int x] h = some (some (.int x), h) := G_iret f20_111 (ty := .boolean) (by decide) (vbool hz).1
/-! 21 GuestCalls$Buffers.<init>()V -/
def tb21 : List (Nat × Instr × Nat) := [(0, .aload_n 0, 1), (1, .invokespecial 3, 3), (4, .aload_n 0, 1), (5, .bipush 8, 2), (7, .newarray .int, 2), (9, .putfield 9, 3), (12, .aload_n 0, 1), (13, .bipush 8, 2), (15, .newarray .int, 2), (17, .putfield 15, 3), (20, .return_, 1)]
theorem tk21 : tb21.all (fun q => decide (fetch 21 q.1 = some q.2)) = true := by decide +kernel
theorem f21_0 : fetch 21 0 = some (.aload_n 0, 1) := vtab tk21 0 rfl
theorem e21_0 (L : VL) (st : List Value) (h : VG) (x : Nat) : ev 21 0 (some (.ref x) :: L) (st) h = ev 21 1 (some (.ref x) :: L) (.ref x :: st) h := G_aload_n f21_0 rfl
theorem f21_1 : fetch 21 1 = some (.invokespecial 3, 3) := vtab tk21 1 rfl
theorem e21_1 (L : VL) (st : List Value) (h : VG) (a : Nat) (hs : catS st ≤ 8) : ev 21 1 L (.ref a :: st) h = ev 21 4 L (st) h := G_objinit (y := 0) (p := 405) f21_1 lkC_2_3 hs
theorem f21_4 : fetch 21 4 = some (.aload_n 0, 1) := vtab tk21 2 rfl
theorem e21_4 (L : VL) (st : List Value) (h : VG) (x : Nat) : ev 21 4 (some (.ref x) :: L) (st) h = ev 21 5 (some (.ref x) :: L) (.ref x :: st) h := G_aload_n f21_4 rfl
theorem f21_5 : fetch 21 5 = some (.bipush 8, 2) := vtab tk21 3 rfl
theorem e21_5 (L : VL) (st : List Value) (h : VG) : ev 21 5 L (st) h = ev 21 7 L (.int (8 : Int32) :: st) h := G_bipush f21_5 (by decide)
theorem f21_7 : fetch 21 7 = some (.newarray .int, 2) := vtab tk21 4 rfl
theorem e21_7 (L : VL) (st : List Value) (h : VG) (n : Int32) (hn : ¬ n < 0 ∧ n.toNatClampNeg ≤ 4096) : ev 21 7 L (.int n :: st) h = ev 21 9 L (.ref h.2.1 :: st) (hnew h (.inl (0, n.toNatClampNeg, .inl (fun _ => 0))) n.toNatClampNeg) := G_newa f21_7 rfl hn
theorem f21_9 : fetch 21 9 = some (.putfield 9, 3) := vtab tk21 5 rfl
theorem e21_9 (L : VL) (st : List Value) (h : VG) (a : Nat) (x : Nat) (ho : ob h a 2) : ev 21 9 L (.ref x :: .ref a :: st) h = ev 21 12 L (st) (pR h a 0 x) := G_putR (p := 406) f21_9 lkF_2_9 (by decide) (by decide) (by decide +kernel) ⟨rfl, rfl⟩ ho
theorem f21_12 : fetch 21 12 = some (.aload_n 0, 1) := vtab tk21 6 rfl
theorem e21_12 (L : VL) (st : List Value) (h : VG) (x : Nat) : ev 21 12 (some (.ref x) :: L) (st) h = ev 21 13 (some (.ref x) :: L) (.ref x :: st) h := G_aload_n f21_12 rfl
theorem f21_13 : fetch 21 13 = some (.bipush 8, 2) := vtab tk21 7 rfl
theorem e21_13 (L : VL) (st : List Value) (h : VG) : ev 21 13 L (st) h = ev 21 15 L (.int (8 : Int32) :: st) h := G_bipush f21_13 (by decide)
theorem f21_15 : fetch 21 15 = some (.newarray .int, 2) := vtab tk21 8 rfl
theorem e21_15 (L : VL) (st : List Value) (h : VG) (n : Int32) (hn : ¬ n < 0 ∧ n.toNatClampNeg ≤ 4096) : ev 21 15 L (.int n :: st) h = ev 21 17 L (.ref h.2.1 :: st) (hnew h (.inl (0, n.toNatClampNeg, .inl (fun _ => 0))) n.toNatClampNeg) := G_newa f21_15 rfl hn
theorem f21_17 : fetch 21 17 = some (.putfield 15, 3) := vtab tk21 9 rfl
theorem e21_17 (L : VL) (st : List Value) (h : VG) (a : Nat) (x : Nat) (ho : ob h a 2) : ev 21 17 L (.ref x :: .ref a :: st) h = ev 21 20 L (st) (pR h a 1 x) := G_putR (p := 407) f21_17 lkF_2_15 (by decide) (by decide) (by decide +kernel) ⟨rfl, rfl⟩ ho
theorem f21_20 : fetch 21 20 = some (.return_, 1) := vtab tk21 10 rfl
theorem e21_20 (L : VL) (h : VG) : ev 21 20 L [] h = some (none, h) := G_vret f21_20 (by decide)
/-! 22 GuestCalls$Buffers.begin()V -/
def tb22 : List (Nat × Instr × Nat) := [(0, .aload_n 0, 1), (1, .iconst 0, 1), (2, .putfield 18, 3), (5, .aload_n 0, 1), (6, .iconst 0, 1), (7, .putfield 22, 3), (10, .aload_n 0, 1), (11, .iconst 0, 1), (12, .putfield 25, 3), (15, .aload_n 0, 1), (16, .iconst 0, 1), (17, .putfield 28, 3), (20, .return_, 1)]
theorem tk22 : tb22.all (fun q => decide (fetch 22 q.1 = some q.2)) = true := by decide +kernel
theorem f22_0 : fetch 22 0 = some (.aload_n 0, 1) := vtab tk22 0 rfl
theorem e22_0 (L : VL) (st : List Value) (h : VG) (x : Nat) : ev 22 0 (some (.ref x) :: L) (st) h = ev 22 1 (some (.ref x) :: L) (.ref x :: st) h := G_aload_n f22_0 rfl
theorem f22_1 : fetch 22 1 = some (.iconst 0, 1) := vtab tk22 1 rfl
theorem e22_1 (L : VL) (st : List Value) (h : VG) : ev 22 1 L (st) h = ev 22 2 L (.int (0 : Int32) :: st) h := G_iconst f22_1 (by decide)
theorem f22_2 : fetch 22 2 = some (.putfield 18, 3) := vtab tk22 2 rfl
theorem e22_2 (L : VL) (st : List Value) (h : VG) (a : Nat) (x : Int32) (ho : ob h a 2) : ev 22 2 L (.int x :: .ref a :: st) h = ev 22 5 L (st) (pI h a 2 x) := G_putI (p := 408) f22_2 lkF_2_18 (by decide) (by decide) (by decide +kernel) ⟨rfl, rfl⟩ ho
theorem f22_5 : fetch 22 5 = some (.aload_n 0, 1) := vtab tk22 3 rfl
theorem e22_5 (L : VL) (st : List Value) (h : VG) (x : Nat) : ev 22 5 (some (.ref x) :: L) (st) h = ev 22 6 (some (.ref x) :: L) (.ref x :: st) h := G_aload_n f22_5 rfl
theorem f22_6 : fetch 22 6 = some (.iconst 0, 1) := vtab tk22 4 rfl
theorem e22_6 (L : VL) (st : List Value) (h : VG) : ev 22 6 L (st) h = ev 22 7 L (.int (0 : Int32) :: st) h := G_iconst f22_6 (by decide)
theorem f22_7 : fetch 22 7 = some (.putfield 22, 3) := vtab tk22 5 rfl
theorem e22_7 (L : VL) (st : List Value) (h : VG) (a : Nat) (x : Int32) (ho : ob h a 2) : ev 22 7 L (.int x :: .ref a :: st) h = ev 22 10 L (st) (pI h a 3 x) := G_putI (p := 409) f22_7 lkF_2_22 (by decide) (by decide) (by decide +kernel) ⟨rfl, rfl⟩ ho
theorem f22_10 : fetch 22 10 = some (.aload_n 0, 1) := vtab tk22 6 rfl
theorem e22_10 (L : VL) (st : List Value) (h : VG) (x : Nat) : ev 22 10 (some (.ref x) :: L) (st) h = ev 22 11 (some (.ref x) :: L) (.ref x :: st) h := G_aload_n f22_10 rfl
theorem f22_11 : fetch 22 11 = some (.iconst 0, 1) := vtab tk22 7 rfl
theorem e22_11 (L : VL) (st : List Value) (h : VG) : ev 22 11 L (st) h = ev 22 12 L (.int (0 : Int32) :: st) h := G_iconst f22_11 (by decide)
theorem f22_12 : fetch 22 12 = some (.putfield 25, 3) := vtab tk22 8 rfl
theorem e22_12 (L : VL) (st : List Value) (h : VG) (a : Nat) (x : Int32) (ho : ob h a 2) : ev 22 12 L (.int x :: .ref a :: st) h = ev 22 15 L (st) (pI h a 4 x) := G_putI (p := 411) f22_12 lkF_2_25 (by decide) (by decide) (by decide +kernel) ⟨rfl, rfl⟩ ho
theorem f22_15 : fetch 22 15 = some (.aload_n 0, 1) := vtab tk22 9 rfl
theorem e22_15 (L : VL) (st : List Value) (h : VG) (x : Nat) : ev 22 15 (some (.ref x) :: L) (st) h = ev 22 16 (some (.ref x) :: L) (.ref x :: st) h := G_aload_n f22_15 rfl
theorem f22_16 : fetch 22 16 = some (.iconst 0, 1) := vtab tk22 10 rfl
theorem e22_16 (L : VL) (st : List Value) (h : VG) : ev 22 16 L (st) h = ev 22 17 L (.int (0 : Int32) :: st) h := G_iconst f22_16 (by decide)
theorem f22_17 : fetch 22 17 = some (.putfield 28, 3) := vtab tk22 11 rfl
theorem e22_17 (L : VL) (st : List Value) (h : VG) (a : Nat) (x : Int32) (ho : ob h a 2) : ev 22 17 L (.int x :: .ref a :: st) h = ev 22 20 L (st) (pI h a 5 x) := G_putI (p := 413) f22_17 lkF_2_28 (by decide) (by decide) (by decide +kernel) ⟨rfl, rfl⟩ ho
theorem f22_20 : fetch 22 20 = some (.return_, 1) := vtab tk22 12 rfl
theorem e22_20 (L : VL) (h : VG) : ev 22 20 L [] h = some (none, h) := G_vret f22_20 (by decide)
/-! 23 GuestCalls$Buffers.addBuffer(JI)V -/
def tb23 : List (Nat × Instr × Nat) := [(0, .aload_n 0, 1), (1, .getfield 9, 3), (4, .aload_n 0, 1), (5, .getfield 18, 3), (8, .lload_n 1, 1), (9, .l2i, 1), (10, .iastore, 1), (11, .aload_n 0, 1), (12, .getfield 15, 3), (15, .aload_n 0, 1), (16, .getfield 18, 3), (19, .iload_n 3, 1), (20, .iastore, 1), (21, .aload_n 0, 1), (22, .dup, 1), (23, .getfield 18, 3), (26, .iconst 1, 1), (27, .iadd, 1), (28, .putfield 18, 3), (31, .aload_n 0, 1), (32, .dup, 1), (33, .getfield 22, 3), (36, .iload_n 3, 1), (37, .iadd, 1), (38, .putfield 22, 3), (41, .aload_n 0, 1), (42, .dup, 1), (43, .getfield 25, 3), (46, .iload_n 3, 1), (47, .ifCond .ne 7, 3), (50, .iconst 1, 1), (51, .goto 4, 3), (54, .iconst 0, 1), (55, .iadd, 1), (56, .putfield 25, 3), (59, .aload_n 0, 1), (60, .aload_n 0, 1), (61, .getfield 28, 3), (64, .iload_n 3, 1), (65, .invokestatic 31, 3), (68, .putfield 28, 3), (71, .return_, 1)]
theorem tk23 : tb23.all (fun q => decide (fetch 23 q.1 = some q.2)) = true := by decide +kernel
theorem f23_0 : fetch 23 0 = some (.aload_n 0, 1) := vtab tk23 0 rfl
theorem e23_0 (L : VL) (st : List Value) (h : VG) (x : Nat) : ev 23 0 (some (.ref x) :: L) (st) h = ev 23 1 (some (.ref x) :: L) (.ref x :: st) h := G_aload_n f23_0 rfl
theorem f23_1 : fetch 23 1 = some (.getfield 9, 3) := vtab tk23 1 rfl
theorem e23_1 (L : VL) (st : List Value) (h : VG) (a : Nat) (ho : ob h a 2) (hr : isR h a 0) : ev 23 1 L (.ref a :: st) h = ev 23 4 L (.ref (gR h a 0) :: st) h := G_getR (p := 406) f23_1 lkF_2_9 (by decide) (by decide) ho hr
theorem f23_4 : fetch 23 4 = some (.aload_n 0, 1) := vtab tk23 2 rfl
theorem e23_4 (L : VL) (st : List Value) (h : VG) (x : Nat) : ev 23 4 (some (.ref x) :: L) (st) h = ev 23 5 (some (.ref x) :: L) (.ref x :: st) h := G_aload_n f23_4 rfl
theorem f23_5 : fetch 23 5 = some (.getfield 18, 3) := vtab tk23 3 rfl
theorem e23_5 (L : VL) (st : List Value) (h : VG) (a : Nat) (ho : ob h a 2) : ev 23 5 L (.ref a :: st) h = ev 23 8 L (.int (gI h a 2) :: st) h := G_getI (p := 408) f23_5 lkF_2_18 (by decide) (by decide) ho
theorem f23_8 : fetch 23 8 = some (.lload_n 1, 1) := vtab tk23 4 rfl
theorem e23_8 (l0 : Option Value) (L : VL) (st : List Value) (h : VG) (x : Int64) : ev 23 8 (l0 :: some (.long x) :: L) (st) h = ev 23 9 (l0 :: some (.long x) :: L) (.long x :: st) h := G_lload_n f23_8 rfl
theorem f23_9 : fetch 23 9 = some (.l2i, 1) := vtab tk23 5 rfl
theorem e23_9 (L : VL) (st : List Value) (h : VG) (x : Int64) : ev 23 9 L (.long x :: st) h = ev 23 10 L (.int x.toInt32 :: st) h := G_l2i f23_9
theorem f23_10 : fetch 23 10 = some (.iastore, 1) := vtab tk23 6 rfl
theorem e23_10 (L : VL) (st : List Value) (h : VG) (a : Nat) (i : Int32) (x : Int32) (ha : arI h a 0) (hi : vp_in i (aln h a)) : ev 23 10 L (.int x :: .int i :: .ref a :: st) h = ev 23 11 L (st) (wI h a i.toNatClampNeg x) := G_iast f23_10 ha hi
theorem f23_11 : fetch 23 11 = some (.aload_n 0, 1) := vtab tk23 7 rfl
theorem e23_11 (L : VL) (st : List Value) (h : VG) (x : Nat) : ev 23 11 (some (.ref x) :: L) (st) h = ev 23 12 (some (.ref x) :: L) (.ref x :: st) h := G_aload_n f23_11 rfl
theorem f23_12 : fetch 23 12 = some (.getfield 15, 3) := vtab tk23 8 rfl
theorem e23_12 (L : VL) (st : List Value) (h : VG) (a : Nat) (ho : ob h a 2) (hr : isR h a 1) : ev 23 12 L (.ref a :: st) h = ev 23 15 L (.ref (gR h a 1) :: st) h := G_getR (p := 407) f23_12 lkF_2_15 (by decide) (by decide) ho hr
theorem f23_15 : fetch 23 15 = some (.aload_n 0, 1) := vtab tk23 9 rfl
theorem e23_15 (L : VL) (st : List Value) (h : VG) (x : Nat) : ev 23 15 (some (.ref x) :: L) (st) h = ev 23 16 (some (.ref x) :: L) (.ref x :: st) h := G_aload_n f23_15 rfl
theorem f23_16 : fetch 23 16 = some (.getfield 18, 3) := vtab tk23 10 rfl
theorem e23_16 (L : VL) (st : List Value) (h : VG) (a : Nat) (ho : ob h a 2) : ev 23 16 L (.ref a :: st) h = ev 23 19 L (.int (gI h a 2) :: st) h := G_getI (p := 408) f23_16 lkF_2_18 (by decide) (by decide) ho
theorem f23_19 : fetch 23 19 = some (.iload_n 3, 1) := vtab tk23 11 rfl
theorem e23_19 (l0 l1 l2 : Option Value) (L : VL) (st : List Value) (h : VG) (x : Int32) : ev 23 19 (l0 :: l1 :: l2 :: some (.int x) :: L) (st) h = ev 23 20 (l0 :: l1 :: l2 :: some (.int x) :: L) (.int x :: st) h := G_iload_n f23_19 rfl
theorem f23_20 : fetch 23 20 = some (.iastore, 1) := vtab tk23 12 rfl
theorem e23_20 (L : VL) (st : List Value) (h : VG) (a : Nat) (i : Int32) (x : Int32) (ha : arI h a 0) (hi : vp_in i (aln h a)) : ev 23 20 L (.int x :: .int i :: .ref a :: st) h = ev 23 21 L (st) (wI h a i.toNatClampNeg x) := G_iast f23_20 ha hi
theorem f23_21 : fetch 23 21 = some (.aload_n 0, 1) := vtab tk23 13 rfl
theorem e23_21 (L : VL) (st : List Value) (h : VG) (x : Nat) : ev 23 21 (some (.ref x) :: L) (st) h = ev 23 22 (some (.ref x) :: L) (.ref x :: st) h := G_aload_n f23_21 rfl
theorem f23_22 : fetch 23 22 = some (.dup, 1) := vtab tk23 14 rfl
theorem e23_22b (L : VL) (st : List Value) (h : VG) (x : Int32) : ev 23 22 L (.int x :: st) h = ev 23 23 L (.int x :: .int x :: st) h := G_dup_int f23_22
theorem e23_22 (L : VL) (st : List Value) (h : VG) (x : Nat) : ev 23 22 L (.ref x :: st) h = ev 23 23 L (.ref x :: .ref x :: st) h := G_dup_ref f23_22
theorem f23_23 : fetch 23 23 = some (.getfield 18, 3) := vtab tk23 15 rfl
theorem e23_23 (L : VL) (st : List Value) (h : VG) (a : Nat) (ho : ob h a 2) : ev 23 23 L (.ref a :: st) h = ev 23 26 L (.int (gI h a 2) :: st) h := G_getI (p := 408) f23_23 lkF_2_18 (by decide) (by decide) ho
theorem f23_26 : fetch 23 26 = some (.iconst 1, 1) := vtab tk23 16 rfl
theorem e23_26 (L : VL) (st : List Value) (h : VG) : ev 23 26 L (st) h = ev 23 27 L (.int (1 : Int32) :: st) h := G_iconst f23_26 (by decide)
theorem f23_27 : fetch 23 27 = some (.iadd, 1) := vtab tk23 17 rfl
theorem e23_27 (L : VL) (st : List Value) (h : VG) (x y : Int32) : ev 23 27 L (.int y :: .int x :: st) h = ev 23 28 L (.int (x + y) :: st) h := G_iadd f23_27
theorem f23_28 : fetch 23 28 = some (.putfield 18, 3) := vtab tk23 18 rfl
theorem e23_28 (L : VL) (st : List Value) (h : VG) (a : Nat) (x : Int32) (ho : ob h a 2) : ev 23 28 L (.int x :: .ref a :: st) h = ev 23 31 L (st) (pI h a 2 x) := G_putI (p := 408) f23_28 lkF_2_18 (by decide) (by decide) (by decide +kernel) ⟨rfl, rfl⟩ ho
theorem f23_31 : fetch 23 31 = some (.aload_n 0, 1) := vtab tk23 19 rfl
theorem e23_31 (L : VL) (st : List Value) (h : VG) (x : Nat) : ev 23 31 (some (.ref x) :: L) (st) h = ev 23 32 (some (.ref x) :: L) (.ref x :: st) h := G_aload_n f23_31 rfl
theorem f23_32 : fetch 23 32 = some (.dup, 1) := vtab tk23 20 rfl
theorem e23_32b (L : VL) (st : List Value) (h : VG) (x : Int32) : ev 23 32 L (.int x :: st) h = ev 23 33 L (.int x :: .int x :: st) h := G_dup_int f23_32
theorem e23_32 (L : VL) (st : List Value) (h : VG) (x : Nat) : ev 23 32 L (.ref x :: st) h = ev 23 33 L (.ref x :: .ref x :: st) h := G_dup_ref f23_32
theorem f23_33 : fetch 23 33 = some (.getfield 22, 3) := vtab tk23 21 rfl
theorem e23_33 (L : VL) (st : List Value) (h : VG) (a : Nat) (ho : ob h a 2) : ev 23 33 L (.ref a :: st) h = ev 23 36 L (.int (gI h a 3) :: st) h := G_getI (p := 409) f23_33 lkF_2_22 (by decide) (by decide) ho
theorem f23_36 : fetch 23 36 = some (.iload_n 3, 1) := vtab tk23 22 rfl
theorem e23_36 (l0 l1 l2 : Option Value) (L : VL) (st : List Value) (h : VG) (x : Int32) : ev 23 36 (l0 :: l1 :: l2 :: some (.int x) :: L) (st) h = ev 23 37 (l0 :: l1 :: l2 :: some (.int x) :: L) (.int x :: st) h := G_iload_n f23_36 rfl
theorem f23_37 : fetch 23 37 = some (.iadd, 1) := vtab tk23 23 rfl
theorem e23_37 (L : VL) (st : List Value) (h : VG) (x y : Int32) : ev 23 37 L (.int y :: .int x :: st) h = ev 23 38 L (.int (x + y) :: st) h := G_iadd f23_37
theorem f23_38 : fetch 23 38 = some (.putfield 22, 3) := vtab tk23 24 rfl
theorem e23_38 (L : VL) (st : List Value) (h : VG) (a : Nat) (x : Int32) (ho : ob h a 2) : ev 23 38 L (.int x :: .ref a :: st) h = ev 23 41 L (st) (pI h a 3 x) := G_putI (p := 409) f23_38 lkF_2_22 (by decide) (by decide) (by decide +kernel) ⟨rfl, rfl⟩ ho
theorem f23_41 : fetch 23 41 = some (.aload_n 0, 1) := vtab tk23 25 rfl
theorem e23_41 (L : VL) (st : List Value) (h : VG) (x : Nat) : ev 23 41 (some (.ref x) :: L) (st) h = ev 23 42 (some (.ref x) :: L) (.ref x :: st) h := G_aload_n f23_41 rfl
theorem f23_42 : fetch 23 42 = some (.dup, 1) := vtab tk23 26 rfl
theorem e23_42b (L : VL) (st : List Value) (h : VG) (x : Int32) : ev 23 42 L (.int x :: st) h = ev 23 43 L (.int x :: .int x :: st) h := G_dup_int f23_42
theorem e23_42 (L : VL) (st : List Value) (h : VG) (x : Nat) : ev 23 42 L (.ref x :: st) h = ev 23 43 L (.ref x :: .ref x :: st) h := G_dup_ref f23_42
theorem f23_43 : fetch 23 43 = some (.getfield 25, 3) := vtab tk23 27 rfl
theorem e23_43 (L : VL) (st : List Value) (h : VG) (a : Nat) (ho : ob h a 2) : ev 23 43 L (.ref a :: st) h = ev 23 46 L (.int (gI h a 4) :: st) h := G_getI (p := 411) f23_43 lkF_2_25 (by decide) (by decide) ho
theorem f23_46 : fetch 23 46 = some (.iload_n 3, 1) := vtab tk23 28 rfl
theorem e23_46 (l0 l1 l2 : Option Value) (L : VL) (st : List Value) (h : VG) (x : Int32) : ev 23 46 (l0 :: l1 :: l2 :: some (.int x) :: L) (st) h = ev 23 47 (l0 :: l1 :: l2 :: some (.int x) :: L) (.int x :: st) h := G_iload_n f23_46 rfl
theorem f23_47 : fetch 23 47 = some (.ifCond .ne 7, 3) := vtab tk23 29 rfl
theorem e23_47 (L : VL) (st : List Value) (h : VG) (x : Int32) : ev 23 47 L (.int x :: st) h = if x = 0 then ev 23 50 L st h else ev 23 54 L st h := G_if_ne f23_47 (by decide)
theorem f23_50 : fetch 23 50 = some (.iconst 1, 1) := vtab tk23 30 rfl
theorem e23_50 (L : VL) (st : List Value) (h : VG) : ev 23 50 L (st) h = ev 23 51 L (.int (1 : Int32) :: st) h := G_iconst f23_50 (by decide)
theorem f23_51 : fetch 23 51 = some (.goto 4, 3) := vtab tk23 31 rfl
theorem e23_51 (L : VL) (st : List Value) (h : VG) : ev 23 51 L (st) h = ev 23 55 L (st) h := G_goto f23_51 (by decide)
theorem f23_54 : fetch 23 54 = some (.iconst 0, 1) := vtab tk23 32 rfl
theorem e23_54 (L : VL) (st : List Value) (h : VG) : ev 23 54 L (st) h = ev 23 55 L (.int (0 : Int32) :: st) h := G_iconst f23_54 (by decide)
theorem f23_55 : fetch 23 55 = some (.iadd, 1) := vtab tk23 33 rfl
theorem e23_55 (L : VL) (st : List Value) (h : VG) (x y : Int32) : ev 23 55 L (.int y :: .int x :: st) h = ev 23 56 L (.int (x + y) :: st) h := G_iadd f23_55
theorem f23_56 : fetch 23 56 = some (.putfield 25, 3) := vtab tk23 34 rfl
theorem e23_56 (L : VL) (st : List Value) (h : VG) (a : Nat) (x : Int32) (ho : ob h a 2) : ev 23 56 L (.int x :: .ref a :: st) h = ev 23 59 L (st) (pI h a 4 x) := G_putI (p := 411) f23_56 lkF_2_25 (by decide) (by decide) (by decide +kernel) ⟨rfl, rfl⟩ ho
theorem f23_59 : fetch 23 59 = some (.aload_n 0, 1) := vtab tk23 35 rfl
theorem e23_59 (L : VL) (st : List Value) (h : VG) (x : Nat) : ev 23 59 (some (.ref x) :: L) (st) h = ev 23 60 (some (.ref x) :: L) (.ref x :: st) h := G_aload_n f23_59 rfl
theorem f23_60 : fetch 23 60 = some (.aload_n 0, 1) := vtab tk23 36 rfl
theorem e23_60 (L : VL) (st : List Value) (h : VG) (x : Nat) : ev 23 60 (some (.ref x) :: L) (st) h = ev 23 61 (some (.ref x) :: L) (.ref x :: st) h := G_aload_n f23_60 rfl
theorem f23_61 : fetch 23 61 = some (.getfield 28, 3) := vtab tk23 37 rfl
theorem e23_61 (L : VL) (st : List Value) (h : VG) (a : Nat) (ho : ob h a 2) : ev 23 61 L (.ref a :: st) h = ev 23 64 L (.int (gI h a 5) :: st) h := G_getI (p := 413) f23_61 lkF_2_28 (by decide) (by decide) ho
theorem f23_64 : fetch 23 64 = some (.iload_n 3, 1) := vtab tk23 38 rfl
theorem e23_64 (l0 l1 l2 : Option Value) (L : VL) (st : List Value) (h : VG) (x : Int32) : ev 23 64 (l0 :: l1 :: l2 :: some (.int x) :: L) (st) h = ev 23 65 (l0 :: l1 :: l2 :: some (.int x) :: L) (.int x :: st) h := G_iload_n f23_64 rfl
theorem f23_65 : fetch 23 65 = some (.invokestatic 31, 3) := vtab tk23 39 rfl
theorem e23_65 (L : VL) (st : List Value) (h : VG) (x y : Int32) (hs : catS st ≤ 8) : ev 23 65 L (.int y :: .int x :: st) h = ev 23 68 L (.int (if x < y then y else x) :: st) h := G_mmax (q := 0) (p := 931) f23_65 lkC_2_31 hs
theorem f23_68 : fetch 23 68 = some (.putfield 28, 3) := vtab tk23 40 rfl
theorem e23_68 (L : VL) (st : List Value) (h : VG) (a : Nat) (x : Int32) (ho : ob h a 2) : ev 23 68 L (.int x :: .ref a :: st) h = ev 23 71 L (st) (pI h a 5 x) := G_putI (p := 413) f23_68 lkF_2_28 (by decide) (by decide) (by decide +kernel) ⟨rfl, rfl⟩ ho
theorem f23_71 : fetch 23 71 = some (.return_, 1) := vtab tk23 41 rfl
theorem e23_71 (L : VL) (h : VG) : ev 23 71 L [] h = some (none, h) := G_vret f23_71 (by decide)
/-! 24 GuestCalls$Buffers.gatherInto([B[B)V -/
def tb24 : List (Nat × Instr × Nat) := [(0, .iconst 0, 1), (1, .istore_n 3, 1), (2, .iconst 0, 1), (3, .istore 4, 2), (5, .iload 4, 2), (7, .aload_n 0, 1), (8, .getfield 18, 3), (11, .if_icmp .ge 49, 3), (14, .aload_n 0, 1), (15, .getfield 15, 3), (18, .iload 4, 2), (20, .iaload, 1), (21, .ifCond .le 33, 3), (24, .aload_n 1, 1), (25, .aload_n 0, 1), (26, .getfield 9, 3), (29, .iload 4, 2), (31, .iaload, 1), (32, .aload_n 2, 1), (33, .iload_n 3, 1), (34, .aload_n 0, 1), (35, .getfield 15, 3), (38, .iload 4, 2), (40, .iaload, 1), (41, .invokestatic 37, 3), (44, .iload_n 3, 1), (45, .aload_n 0, 1), (46, .getfield 15, 3), (49, .iload 4, 2), (51, .iaload, 1), (52, .iadd, 1), (53, .istore_n 3, 1), (54, .iinc 4 1, 3), (57, .goto (-52), 3), (60, .return_, 1)]
theorem tk24 : tb24.all (fun q => decide (fetch 24 q.1 = some q.2)) = true := by decide +kernel
theorem f24_0 : fetch 24 0 = some (.iconst 0, 1) := vtab tk24 0 rfl
theorem e24_0 (L : VL) (st : List Value) (h : VG) : ev 24 0 L (st) h = ev 24 1 L (.int (0 : Int32) :: st) h := G_iconst f24_0 (by decide)
theorem f24_1 : fetch 24 1 = some (.istore_n 3, 1) := vtab tk24 1 rfl
theorem e24_1 (l0 l1 l2 l3 : Option Value) (L : VL) (st : List Value) (h : VG) (x : Int32) : ev 24 1 (l0 :: l1 :: l2 :: l3 :: L) (.int x :: st) h = ev 24 2 (l0 :: l1 :: vkk l2 :: some (.int x) :: L) (st) h := G_istore_n f24_1 rfl (S1_3 l0 l1 l2 l3 L _)
theorem f24_2 : fetch 24 2 = some (.iconst 0, 1) := vtab tk24 2 rfl
theorem e24_2 (L : VL) (st : List Value) (h : VG) : ev 24 2 L (st) h = ev 24 3 L (.int (0 : Int32) :: st) h := G_iconst f24_2 (by decide)
theorem f24_3 : fetch 24 3 = some (.istore 4, 2) := vtab tk24 3 rfl
theorem e24_3 (l0 l1 l2 l3 l4 : Option Value) (L : VL) (st : List Value) (h : VG) (x : Int32) : ev 24 3 (l0 :: l1 :: l2 :: l3 :: l4 :: L) (.int x :: st) h = ev 24 5 (l0 :: l1 :: l2 :: vkk l3 :: some (.int x) :: L) (st) h := G_istore f24_3 rfl (S1_4 l0 l1 l2 l3 l4 L _)
theorem f24_5 : fetch 24 5 = some (.iload 4, 2) := vtab tk24 4 rfl
theorem e24_5 (l0 l1 l2 l3 : Option Value) (L : VL) (st : List Value) (h : VG) (x : Int32) : ev 24 5 (l0 :: l1 :: l2 :: l3 :: some (.int x) :: L) (st) h = ev 24 7 (l0 :: l1 :: l2 :: l3 :: some (.int x) :: L) (.int x :: st) h := G_iload f24_5 rfl
theorem f24_7 : fetch 24 7 = some (.aload_n 0, 1) := vtab tk24 5 rfl
theorem e24_7 (L : VL) (st : List Value) (h : VG) (x : Nat) : ev 24 7 (some (.ref x) :: L) (st) h = ev 24 8 (some (.ref x) :: L) (.ref x :: st) h := G_aload_n f24_7 rfl
theorem f24_8 : fetch 24 8 = some (.getfield 18, 3) := vtab tk24 6 rfl
theorem e24_8 (L : VL) (st : List Value) (h : VG) (a : Nat) (ho : ob h a 2) : ev 24 8 L (.ref a :: st) h = ev 24 11 L (.int (gI h a 2) :: st) h := G_getI (p := 408) f24_8 lkF_2_18 (by decide) (by decide) ho
theorem f24_11 : fetch 24 11 = some (.if_icmp .ge 49, 3) := vtab tk24 7 rfl
theorem e24_11 (L : VL) (st : List Value) (h : VG) (x y : Int32) : ev 24 11 L (.int y :: .int x :: st) h = if x < y then ev 24 14 L st h else ev 24 60 L st h := G_icmp_ge f24_11 (by decide)
theorem f24_14 : fetch 24 14 = some (.aload_n 0, 1) := vtab tk24 8 rfl
theorem e24_14 (L : VL) (st : List Value) (h : VG) (x : Nat) : ev 24 14 (some (.ref x) :: L) (st) h = ev 24 15 (some (.ref x) :: L) (.ref x :: st) h := G_aload_n f24_14 rfl
theorem f24_15 : fetch 24 15 = some (.getfield 15, 3) := vtab tk24 9 rfl
theorem e24_15 (L : VL) (st : List Value) (h : VG) (a : Nat) (ho : ob h a 2) (hr : isR h a 1) : ev 24 15 L (.ref a :: st) h = ev 24 18 L (.ref (gR h a 1) :: st) h := G_getR (p := 407) f24_15 lkF_2_15 (by decide) (by decide) ho hr
theorem f24_18 : fetch 24 18 = some (.iload 4, 2) := vtab tk24 10 rfl
theorem e24_18 (l0 l1 l2 l3 : Option Value) (L : VL) (st : List Value) (h : VG) (x : Int32) : ev 24 18 (l0 :: l1 :: l2 :: l3 :: some (.int x) :: L) (st) h = ev 24 20 (l0 :: l1 :: l2 :: l3 :: some (.int x) :: L) (.int x :: st) h := G_iload f24_18 rfl
theorem f24_20 : fetch 24 20 = some (.iaload, 1) := vtab tk24 11 rfl
theorem e24_20 (L : VL) (st : List Value) (h : VG) (a : Nat) (i : Int32) (ha : rdI h a) (hi : vp_in i (aln h a)) : ev 24 20 L (.int i :: .ref a :: st) h = ev 24 21 L (.int (aI h a i.toNatClampNeg) :: st) h := G_iald' f24_20 ha hi
theorem f24_21 : fetch 24 21 = some (.ifCond .le 33, 3) := vtab tk24 12 rfl
theorem e24_21 (L : VL) (st : List Value) (h : VG) (x : Int32) : ev 24 21 L (.int x :: st) h = if x ≤ 0 then ev 24 54 L st h else ev 24 24 L st h := G_if_le f24_21 (by decide)
theorem f24_24 : fetch 24 24 = some (.aload_n 1, 1) := vtab tk24 13 rfl
theorem e24_24 (l0 : Option Value) (L : VL) (st : List Value) (h : VG) (x : Nat) : ev 24 24 (l0 :: some (.ref x) :: L) (st) h = ev 24 25 (l0 :: some (.ref x) :: L) (.ref x :: st) h := G_aload_n f24_24 rfl
theorem f24_25 : fetch 24 25 = some (.aload_n 0, 1) := vtab tk24 14 rfl
theorem e24_25 (L : VL) (st : List Value) (h : VG) (x : Nat) : ev 24 25 (some (.ref x) :: L) (st) h = ev 24 26 (some (.ref x) :: L) (.ref x :: st) h := G_aload_n f24_25 rfl
theorem f24_26 : fetch 24 26 = some (.getfield 9, 3) := vtab tk24 15 rfl
theorem e24_26 (L : VL) (st : List Value) (h : VG) (a : Nat) (ho : ob h a 2) (hr : isR h a 0) : ev 24 26 L (.ref a :: st) h = ev 24 29 L (.ref (gR h a 0) :: st) h := G_getR (p := 406) f24_26 lkF_2_9 (by decide) (by decide) ho hr
theorem f24_29 : fetch 24 29 = some (.iload 4, 2) := vtab tk24 16 rfl
theorem e24_29 (l0 l1 l2 l3 : Option Value) (L : VL) (st : List Value) (h : VG) (x : Int32) : ev 24 29 (l0 :: l1 :: l2 :: l3 :: some (.int x) :: L) (st) h = ev 24 31 (l0 :: l1 :: l2 :: l3 :: some (.int x) :: L) (.int x :: st) h := G_iload f24_29 rfl
theorem f24_31 : fetch 24 31 = some (.iaload, 1) := vtab tk24 17 rfl
theorem e24_31 (L : VL) (st : List Value) (h : VG) (a : Nat) (i : Int32) (ha : rdI h a) (hi : vp_in i (aln h a)) : ev 24 31 L (.int i :: .ref a :: st) h = ev 24 32 L (.int (aI h a i.toNatClampNeg) :: st) h := G_iald' f24_31 ha hi
theorem f24_32 : fetch 24 32 = some (.aload_n 2, 1) := vtab tk24 18 rfl
theorem e24_32 (l0 l1 : Option Value) (L : VL) (st : List Value) (h : VG) (x : Nat) : ev 24 32 (l0 :: l1 :: some (.ref x) :: L) (st) h = ev 24 33 (l0 :: l1 :: some (.ref x) :: L) (.ref x :: st) h := G_aload_n f24_32 rfl
theorem f24_33 : fetch 24 33 = some (.iload_n 3, 1) := vtab tk24 19 rfl
theorem e24_33 (l0 l1 l2 : Option Value) (L : VL) (st : List Value) (h : VG) (x : Int32) : ev 24 33 (l0 :: l1 :: l2 :: some (.int x) :: L) (st) h = ev 24 34 (l0 :: l1 :: l2 :: some (.int x) :: L) (.int x :: st) h := G_iload_n f24_33 rfl
theorem f24_34 : fetch 24 34 = some (.aload_n 0, 1) := vtab tk24 20 rfl
theorem e24_34 (L : VL) (st : List Value) (h : VG) (x : Nat) : ev 24 34 (some (.ref x) :: L) (st) h = ev 24 35 (some (.ref x) :: L) (.ref x :: st) h := G_aload_n f24_34 rfl
theorem f24_35 : fetch 24 35 = some (.getfield 15, 3) := vtab tk24 21 rfl
theorem e24_35 (L : VL) (st : List Value) (h : VG) (a : Nat) (ho : ob h a 2) (hr : isR h a 1) : ev 24 35 L (.ref a :: st) h = ev 24 38 L (.ref (gR h a 1) :: st) h := G_getR (p := 407) f24_35 lkF_2_15 (by decide) (by decide) ho hr
theorem f24_38 : fetch 24 38 = some (.iload 4, 2) := vtab tk24 22 rfl
theorem e24_38 (l0 l1 l2 l3 : Option Value) (L : VL) (st : List Value) (h : VG) (x : Int32) : ev 24 38 (l0 :: l1 :: l2 :: l3 :: some (.int x) :: L) (st) h = ev 24 40 (l0 :: l1 :: l2 :: l3 :: some (.int x) :: L) (.int x :: st) h := G_iload f24_38 rfl
theorem f24_40 : fetch 24 40 = some (.iaload, 1) := vtab tk24 23 rfl
theorem e24_40 (L : VL) (st : List Value) (h : VG) (a : Nat) (i : Int32) (ha : rdI h a) (hi : vp_in i (aln h a)) : ev 24 40 L (.int i :: .ref a :: st) h = ev 24 41 L (.int (aI h a i.toNatClampNeg) :: st) h := G_iald' f24_40 ha hi
theorem f24_41 : fetch 24 41 = some (.invokestatic 37, 3) := vtab tk24 24 rfl
theorem e24_41 (L : VL) (st : List Value) (h : VG) (s d : Nat) (sp dp n : Int32) (h1 : VG) (hs : catS st ≤ 8) (hc : vcopy h s d sp dp n = some h1) : ev 24 41 L (.int n :: .int dp :: .ref d :: .int sp :: .ref s :: st) h = ev 24 44 L (st) h1 := G_copy (q := 0) (p := 940) f24_41 lkC_2_37 hs hc
theorem f24_44 : fetch 24 44 = some (.iload_n 3, 1) := vtab tk24 25 rfl
theorem e24_44 (l0 l1 l2 : Option Value) (L : VL) (st : List Value) (h : VG) (x : Int32) : ev 24 44 (l0 :: l1 :: l2 :: some (.int x) :: L) (st) h = ev 24 45 (l0 :: l1 :: l2 :: some (.int x) :: L) (.int x :: st) h := G_iload_n f24_44 rfl
theorem f24_45 : fetch 24 45 = some (.aload_n 0, 1) := vtab tk24 26 rfl
theorem e24_45 (L : VL) (st : List Value) (h : VG) (x : Nat) : ev 24 45 (some (.ref x) :: L) (st) h = ev 24 46 (some (.ref x) :: L) (.ref x :: st) h := G_aload_n f24_45 rfl
theorem f24_46 : fetch 24 46 = some (.getfield 15, 3) := vtab tk24 27 rfl
theorem e24_46 (L : VL) (st : List Value) (h : VG) (a : Nat) (ho : ob h a 2) (hr : isR h a 1) : ev 24 46 L (.ref a :: st) h = ev 24 49 L (.ref (gR h a 1) :: st) h := G_getR (p := 407) f24_46 lkF_2_15 (by decide) (by decide) ho hr
theorem f24_49 : fetch 24 49 = some (.iload 4, 2) := vtab tk24 28 rfl
theorem e24_49 (l0 l1 l2 l3 : Option Value) (L : VL) (st : List Value) (h : VG) (x : Int32) : ev 24 49 (l0 :: l1 :: l2 :: l3 :: some (.int x) :: L) (st) h = ev 24 51 (l0 :: l1 :: l2 :: l3 :: some (.int x) :: L) (.int x :: st) h := G_iload f24_49 rfl
theorem f24_51 : fetch 24 51 = some (.iaload, 1) := vtab tk24 29 rfl
theorem e24_51 (L : VL) (st : List Value) (h : VG) (a : Nat) (i : Int32) (ha : rdI h a) (hi : vp_in i (aln h a)) : ev 24 51 L (.int i :: .ref a :: st) h = ev 24 52 L (.int (aI h a i.toNatClampNeg) :: st) h := G_iald' f24_51 ha hi
theorem f24_52 : fetch 24 52 = some (.iadd, 1) := vtab tk24 30 rfl
theorem e24_52 (L : VL) (st : List Value) (h : VG) (x y : Int32) : ev 24 52 L (.int y :: .int x :: st) h = ev 24 53 L (.int (x + y) :: st) h := G_iadd f24_52
theorem f24_53 : fetch 24 53 = some (.istore_n 3, 1) := vtab tk24 31 rfl
theorem e24_53 (l0 l1 l2 l3 : Option Value) (L : VL) (st : List Value) (h : VG) (x : Int32) : ev 24 53 (l0 :: l1 :: l2 :: l3 :: L) (.int x :: st) h = ev 24 54 (l0 :: l1 :: vkk l2 :: some (.int x) :: L) (st) h := G_istore_n f24_53 rfl (S1_3 l0 l1 l2 l3 L _)
theorem f24_54 : fetch 24 54 = some (.iinc 4 1, 3) := vtab tk24 32 rfl
theorem e24_54 (l0 l1 l2 l3 : Option Value) (L : VL) (st : List Value) (h : VG) (x : Int32) : ev 24 54 (l0 :: l1 :: l2 :: l3 :: some (.int x) :: L) (st) h = ev 24 57 (l0 :: l1 :: l2 :: vkk l3 :: some (.int (x + (1 : Int32))) :: L) (st) h := G_iinc f24_54 rfl (by decide) (S1_4 l0 l1 l2 l3 (some (.int x)) L _)
theorem f24_57 : fetch 24 57 = some (.goto (-52), 3) := vtab tk24 33 rfl
theorem e24_57 (L : VL) (st : List Value) (h : VG) : ev 24 57 L (st) h = ev 24 5 L (st) h := G_goto f24_57 (by decide)
theorem f24_60 : fetch 24 60 = some (.return_, 1) := vtab tk24 34 rfl
theorem e24_60 (L : VL) (h : VG) : ev 24 60 L [] h = some (none, h) := G_vret f24_60 (by decide)
/-! 25 GuestCalls$Buffers.scatterFrom([B[B)V -/
def tb25 : List (Nat × Instr × Nat) := [(0, .iconst 0, 1), (1, .istore_n 3, 1), (2, .iconst 0, 1), (3, .istore 4, 2), (5, .iload 4, 2), (7, .aload_n 0, 1), (8, .getfield 18, 3), (11, .if_icmp .ge 49, 3), (14, .aload_n 0, 1), (15, .getfield 15, 3), (18, .iload 4, 2), (20, .iaload, 1), (21, .ifCond .le 33, 3), (24, .aload_n 1, 1), (25, .iload_n 3, 1), (26, .aload_n 2, 1), (27, .aload_n 0, 1), (28, .getfield 9, 3), (31, .iload 4, 2), (33, .iaload, 1), (34, .aload_n 0, 1), (35, .getfield 15, 3), (38, .iload 4, 2), (40, .iaload, 1), (41, .invokestatic 37, 3), (44, .iload_n 3, 1), (45, .aload_n 0, 1), (46, .getfield 15, 3), (49, .iload 4, 2), (51, .iaload, 1), (52, .iadd, 1), (53, .istore_n 3, 1), (54, .iinc 4 1, 3), (57, .goto (-52), 3), (60, .return_, 1)]
theorem tk25 : tb25.all (fun q => decide (fetch 25 q.1 = some q.2)) = true := by decide +kernel
theorem f25_0 : fetch 25 0 = some (.iconst 0, 1) := vtab tk25 0 rfl
theorem e25_0 (L : VL) (st : List Value) (h : VG) : ev 25 0 L (st) h = ev 25 1 L (.int (0 : Int32) :: st) h := G_iconst f25_0 (by decide)
theorem f25_1 : fetch 25 1 = some (.istore_n 3, 1) := vtab tk25 1 rfl
theorem e25_1 (l0 l1 l2 l3 : Option Value) (L : VL) (st : List Value) (h : VG) (x : Int32) : ev 25 1 (l0 :: l1 :: l2 :: l3 :: L) (.int x :: st) h = ev 25 2 (l0 :: l1 :: vkk l2 :: some (.int x) :: L) (st) h := G_istore_n f25_1 rfl (S1_3 l0 l1 l2 l3 L _)
theorem f25_2 : fetch 25 2 = some (.iconst 0, 1) := vtab tk25 2 rfl
theorem e25_2 (L : VL) (st : List Value) (h : VG) : ev 25 2 L (st) h = ev 25 3 L (.int (0 : Int32) :: st) h := G_iconst f25_2 (by decide)
theorem f25_3 : fetch 25 3 = some (.istore 4, 2) := vtab tk25 3 rfl
theorem e25_3 (l0 l1 l2 l3 l4 : Option Value) (L : VL) (st : List Value) (h : VG) (x : Int32) : ev 25 3 (l0 :: l1 :: l2 :: l3 :: l4 :: L) (.int x :: st) h = ev 25 5 (l0 :: l1 :: l2 :: vkk l3 :: some (.int x) :: L) (st) h := G_istore f25_3 rfl (S1_4 l0 l1 l2 l3 l4 L _)
theorem f25_5 : fetch 25 5 = some (.iload 4, 2) := vtab tk25 4 rfl
theorem e25_5 (l0 l1 l2 l3 : Option Value) (L : VL) (st : List Value) (h : VG) (x : Int32) : ev 25 5 (l0 :: l1 :: l2 :: l3 :: some (.int x) :: L) (st) h = ev 25 7 (l0 :: l1 :: l2 :: l3 :: some (.int x) :: L) (.int x :: st) h := G_iload f25_5 rfl
theorem f25_7 : fetch 25 7 = some (.aload_n 0, 1) := vtab tk25 5 rfl
theorem e25_7 (L : VL) (st : List Value) (h : VG) (x : Nat) : ev 25 7 (some (.ref x) :: L) (st) h = ev 25 8 (some (.ref x) :: L) (.ref x :: st) h := G_aload_n f25_7 rfl
theorem f25_8 : fetch 25 8 = some (.getfield 18, 3) := vtab tk25 6 rfl
theorem e25_8 (L : VL) (st : List Value) (h : VG) (a : Nat) (ho : ob h a 2) : ev 25 8 L (.ref a :: st) h = ev 25 11 L (.int (gI h a 2) :: st) h := G_getI (p := 408) f25_8 lkF_2_18 (by decide) (by decide) ho
theorem f25_11 : fetch 25 11 = some (.if_icmp .ge 49, 3) := vtab tk25 7 rfl
theorem e25_11 (L : VL) (st : List Value) (h : VG) (x y : Int32) : ev 25 11 L (.int y :: .int x :: st) h = if x < y then ev 25 14 L st h else ev 25 60 L st h := G_icmp_ge f25_11 (by decide)
theorem f25_14 : fetch 25 14 = some (.aload_n 0, 1) := vtab tk25 8 rfl
theorem e25_14 (L : VL) (st : List Value) (h : VG) (x : Nat) : ev 25 14 (some (.ref x) :: L) (st) h = ev 25 15 (some (.ref x) :: L) (.ref x :: st) h := G_aload_n f25_14 rfl
theorem f25_15 : fetch 25 15 = some (.getfield 15, 3) := vtab tk25 9 rfl
theorem e25_15 (L : VL) (st : List Value) (h : VG) (a : Nat) (ho : ob h a 2) (hr : isR h a 1) : ev 25 15 L (.ref a :: st) h = ev 25 18 L (.ref (gR h a 1) :: st) h := G_getR (p := 407) f25_15 lkF_2_15 (by decide) (by decide) ho hr
theorem f25_18 : fetch 25 18 = some (.iload 4, 2) := vtab tk25 10 rfl
theorem e25_18 (l0 l1 l2 l3 : Option Value) (L : VL) (st : List Value) (h : VG) (x : Int32) : ev 25 18 (l0 :: l1 :: l2 :: l3 :: some (.int x) :: L) (st) h = ev 25 20 (l0 :: l1 :: l2 :: l3 :: some (.int x) :: L) (.int x :: st) h := G_iload f25_18 rfl
theorem f25_20 : fetch 25 20 = some (.iaload, 1) := vtab tk25 11 rfl
theorem e25_20 (L : VL) (st : List Value) (h : VG) (a : Nat) (i : Int32) (ha : rdI h a) (hi : vp_in i (aln h a)) : ev 25 20 L (.int i :: .ref a :: st) h = ev 25 21 L (.int (aI h a i.toNatClampNeg) :: st) h := G_iald' f25_20 ha hi
theorem f25_21 : fetch 25 21 = some (.ifCond .le 33, 3) := vtab tk25 12 rfl
theorem e25_21 (L : VL) (st : List Value) (h : VG) (x : Int32) : ev 25 21 L (.int x :: st) h = if x ≤ 0 then ev 25 54 L st h else ev 25 24 L st h := G_if_le f25_21 (by decide)
theorem f25_24 : fetch 25 24 = some (.aload_n 1, 1) := vtab tk25 13 rfl
theorem e25_24 (l0 : Option Value) (L : VL) (st : List Value) (h : VG) (x : Nat) : ev 25 24 (l0 :: some (.ref x) :: L) (st) h = ev 25 25 (l0 :: some (.ref x) :: L) (.ref x :: st) h := G_aload_n f25_24 rfl
theorem f25_25 : fetch 25 25 = some (.iload_n 3, 1) := vtab tk25 14 rfl
theorem e25_25 (l0 l1 l2 : Option Value) (L : VL) (st : List Value) (h : VG) (x : Int32) : ev 25 25 (l0 :: l1 :: l2 :: some (.int x) :: L) (st) h = ev 25 26 (l0 :: l1 :: l2 :: some (.int x) :: L) (.int x :: st) h := G_iload_n f25_25 rfl
theorem f25_26 : fetch 25 26 = some (.aload_n 2, 1) := vtab tk25 15 rfl
theorem e25_26 (l0 l1 : Option Value) (L : VL) (st : List Value) (h : VG) (x : Nat) : ev 25 26 (l0 :: l1 :: some (.ref x) :: L) (st) h = ev 25 27 (l0 :: l1 :: some (.ref x) :: L) (.ref x :: st) h := G_aload_n f25_26 rfl
theorem f25_27 : fetch 25 27 = some (.aload_n 0, 1) := vtab tk25 16 rfl
theorem e25_27 (L : VL) (st : List Value) (h : VG) (x : Nat) : ev 25 27 (some (.ref x) :: L) (st) h = ev 25 28 (some (.ref x) :: L) (.ref x :: st) h := G_aload_n f25_27 rfl
theorem f25_28 : fetch 25 28 = some (.getfield 9, 3) := vtab tk25 17 rfl
theorem e25_28 (L : VL) (st : List Value) (h : VG) (a : Nat) (ho : ob h a 2) (hr : isR h a 0) : ev 25 28 L (.ref a :: st) h = ev 25 31 L (.ref (gR h a 0) :: st) h := G_getR (p := 406) f25_28 lkF_2_9 (by decide) (by decide) ho hr
theorem f25_31 : fetch 25 31 = some (.iload 4, 2) := vtab tk25 18 rfl
theorem e25_31 (l0 l1 l2 l3 : Option Value) (L : VL) (st : List Value) (h : VG) (x : Int32) : ev 25 31 (l0 :: l1 :: l2 :: l3 :: some (.int x) :: L) (st) h = ev 25 33 (l0 :: l1 :: l2 :: l3 :: some (.int x) :: L) (.int x :: st) h := G_iload f25_31 rfl
theorem f25_33 : fetch 25 33 = some (.iaload, 1) := vtab tk25 19 rfl
theorem e25_33 (L : VL) (st : List Value) (h : VG) (a : Nat) (i : Int32) (ha : rdI h a) (hi : vp_in i (aln h a)) : ev 25 33 L (.int i :: .ref a :: st) h = ev 25 34 L (.int (aI h a i.toNatClampNeg) :: st) h := G_iald' f25_33 ha hi
theorem f25_34 : fetch 25 34 = some (.aload_n 0, 1) := vtab tk25 20 rfl
theorem e25_34 (L : VL) (st : List Value) (h : VG) (x : Nat) : ev 25 34 (some (.ref x) :: L) (st) h = ev 25 35 (some (.ref x) :: L) (.ref x :: st) h := G_aload_n f25_34 rfl
theorem f25_35 : fetch 25 35 = some (.getfield 15, 3) := vtab tk25 21 rfl
theorem e25_35 (L : VL) (st : List Value) (h : VG) (a : Nat) (ho : ob h a 2) (hr : isR h a 1) : ev 25 35 L (.ref a :: st) h = ev 25 38 L (.ref (gR h a 1) :: st) h := G_getR (p := 407) f25_35 lkF_2_15 (by decide) (by decide) ho hr
theorem f25_38 : fetch 25 38 = some (.iload 4, 2) := vtab tk25 22 rfl
theorem e25_38 (l0 l1 l2 l3 : Option Value) (L : VL) (st : List Value) (h : VG) (x : Int32) : ev 25 38 (l0 :: l1 :: l2 :: l3 :: some (.int x) :: L) (st) h = ev 25 40 (l0 :: l1 :: l2 :: l3 :: some (.int x) :: L) (.int x :: st) h := G_iload f25_38 rfl
theorem f25_40 : fetch 25 40 = some (.iaload, 1) := vtab tk25 23 rfl
theorem e25_40 (L : VL) (st : List Value) (h : VG) (a : Nat) (i : Int32) (ha : rdI h a) (hi : vp_in i (aln h a)) : ev 25 40 L (.int i :: .ref a :: st) h = ev 25 41 L (.int (aI h a i.toNatClampNeg) :: st) h := G_iald' f25_40 ha hi
theorem f25_41 : fetch 25 41 = some (.invokestatic 37, 3) := vtab tk25 24 rfl
theorem e25_41 (L : VL) (st : List Value) (h : VG) (s d : Nat) (sp dp n : Int32) (h1 : VG) (hs : catS st ≤ 8) (hc : vcopy h s d sp dp n = some h1) : ev 25 41 L (.int n :: .int dp :: .ref d :: .int sp :: .ref s :: st) h = ev 25 44 L (st) h1 := G_copy (q := 0) (p := 940) f25_41 lkC_2_37 hs hc
theorem f25_44 : fetch 25 44 = some (.iload_n 3, 1) := vtab tk25 25 rfl
theorem e25_44 (l0 l1 l2 : Option Value) (L : VL) (st : List Value) (h : VG) (x : Int32) : ev 25 44 (l0 :: l1 :: l2 :: some (.int x) :: L) (st) h = ev 25 45 (l0 :: l1 :: l2 :: some (.int x) :: L) (.int x :: st) h := G_iload_n f25_44 rfl
theorem f25_45 : fetch 25 45 = some (.aload_n 0, 1) := vtab tk25 26 rfl
theorem e25_45 (L : VL) (st : List Value) (h : VG) (x : Nat) : ev 25 45 (some (.ref x) :: L) (st) h = ev 25 46 (some (.ref x) :: L) (.ref x :: st) h := G_aload_n f25_45 rfl
theorem f25_46 : fetch 25 46 = some (.getfield 15, 3) := vtab tk25 27 rfl
theorem e25_46 (L : VL) (st : List Value) (h : VG) (a : Nat) (ho : ob h a 2) (hr : isR h a 1) : ev 25 46 L (.ref a :: st) h = ev 25 49 L (.ref (gR h a 1) :: st) h := G_getR (p := 407) f25_46 lkF_2_15 (by decide) (by decide) ho hr
theorem f25_49 : fetch 25 49 = some (.iload 4, 2) := vtab tk25 28 rfl
theorem e25_49 (l0 l1 l2 l3 : Option Value) (L : VL) (st : List Value) (h : VG) (x : Int32) : ev 25 49 (l0 :: l1 :: l2 :: l3 :: some (.int x) :: L) (st) h = ev 25 51 (l0 :: l1 :: l2 :: l3 :: some (.int x) :: L) (.int x :: st) h := G_iload f25_49 rfl
theorem f25_51 : fetch 25 51 = some (.iaload, 1) := vtab tk25 29 rfl
theorem e25_51 (L : VL) (st : List Value) (h : VG) (a : Nat) (i : Int32) (ha : rdI h a) (hi : vp_in i (aln h a)) : ev 25 51 L (.int i :: .ref a :: st) h = ev 25 52 L (.int (aI h a i.toNatClampNeg) :: st) h := G_iald' f25_51 ha hi
theorem f25_52 : fetch 25 52 = some (.iadd, 1) := vtab tk25 30 rfl
theorem e25_52 (L : VL) (st : List Value) (h : VG) (x y : Int32) : ev 25 52 L (.int y :: .int x :: st) h = ev 25 53 L (.int (x + y) :: st) h := G_iadd f25_52
theorem f25_53 : fetch 25 53 = some (.istore_n 3, 1) := vtab tk25 31 rfl
theorem e25_53 (l0 l1 l2 l3 : Option Value) (L : VL) (st : List Value) (h : VG) (x : Int32) : ev 25 53 (l0 :: l1 :: l2 :: l3 :: L) (.int x :: st) h = ev 25 54 (l0 :: l1 :: vkk l2 :: some (.int x) :: L) (st) h := G_istore_n f25_53 rfl (S1_3 l0 l1 l2 l3 L _)
theorem f25_54 : fetch 25 54 = some (.iinc 4 1, 3) := vtab tk25 32 rfl
theorem e25_54 (l0 l1 l2 l3 : Option Value) (L : VL) (st : List Value) (h : VG) (x : Int32) : ev 25 54 (l0 :: l1 :: l2 :: l3 :: some (.int x) :: L) (st) h = ev 25 57 (l0 :: l1 :: l2 :: vkk l3 :: some (.int (x + (1 : Int32))) :: L) (st) h := G_iinc f25_54 rfl (by decide) (S1_4 l0 l1 l2 l3 (some (.int x)) L _)
theorem f25_57 : fetch 25 57 = some (.goto (-52), 3) := vtab tk25 33 rfl
theorem e25_57 (L : VL) (st : List Value) (h : VG) : ev 25 57 L (st) h = ev 25 5 L (st) h := G_goto f25_57 (by decide)
theorem f25_60 : fetch 25 60 = some (.return_, 1) := vtab tk25 34 rfl
theorem e25_60 (L : VL) (h : VG) : ev 25 60 L [] h = some (none, h) := G_vret f25_60 (by decide)
/-! 26 GuestCalls$Form.<init>()V -/
def tb26 : List (Nat × Instr × Nat) := [(0, .aload_n 0, 1), (1, .invokespecial 3, 3), (4, .aload_n 0, 1), (5, .bipush 8, 2), (7, .newarray .int, 2), (9, .putfield 9, 3), (12, .aload_n 0, 1), (13, .bipush 8, 2), (15, .newarray .int, 2), (17, .putfield 15, 3), (20, .aload_n 0, 1), (21, .bipush 8, 2), (23, .newarray .int, 2), (25, .putfield 18, 3), (28, .aload_n 0, 1), (29, .bipush 32, 2), (31, .newarray .int, 2), (33, .putfield 21, 3), (36, .aload_n 0, 1), (37, .new 24, 3), (40, .dup, 1), (41, .iconst 0, 1), (42, .invokespecial 26, 3), (45, .putfield 29, 3), (48, .aload_n 0, 1), (49, .new 24, 3), (52, .dup, 1), (53, .iconst 1, 1), (54, .invokespecial 26, 3), (57, .putfield 33, 3), (60, .aload_n 0, 1), (61, .new 36, 3), (64, .dup, 1), (65, .invokespecial 38, 3), (68, .putfield 39, 3), (71, .return_, 1)]
theorem tk26 : tb26.all (fun q => decide (fetch 26 q.1 = some q.2)) = true := by decide +kernel
theorem f26_0 : fetch 26 0 = some (.aload_n 0, 1) := vtab tk26 0 rfl
theorem e26_0 (L : VL) (st : List Value) (h : VG) (x : Nat) : ev 26 0 (some (.ref x) :: L) (st) h = ev 26 1 (some (.ref x) :: L) (.ref x :: st) h := G_aload_n f26_0 rfl
theorem f26_1 : fetch 26 1 = some (.invokespecial 3, 3) := vtab tk26 1 rfl
theorem e26_1 (L : VL) (st : List Value) (h : VG) (a : Nat) (hs : catS st ≤ 8) : ev 26 1 L (.ref a :: st) h = ev 26 4 L (st) h := G_objinit (y := 0) (p := 246) f26_1 lkC_3_3 hs
theorem f26_4 : fetch 26 4 = some (.aload_n 0, 1) := vtab tk26 2 rfl
theorem e26_4 (L : VL) (st : List Value) (h : VG) (x : Nat) : ev 26 4 (some (.ref x) :: L) (st) h = ev 26 5 (some (.ref x) :: L) (.ref x :: st) h := G_aload_n f26_4 rfl
theorem f26_5 : fetch 26 5 = some (.bipush 8, 2) := vtab tk26 3 rfl
theorem e26_5 (L : VL) (st : List Value) (h : VG) : ev 26 5 L (st) h = ev 26 7 L (.int (8 : Int32) :: st) h := G_bipush f26_5 (by decide)
theorem f26_7 : fetch 26 7 = some (.newarray .int, 2) := vtab tk26 4 rfl
theorem e26_7 (L : VL) (st : List Value) (h : VG) (n : Int32) (hn : ¬ n < 0 ∧ n.toNatClampNeg ≤ 4096) : ev 26 7 L (.int n :: st) h = ev 26 9 L (.ref h.2.1 :: st) (hnew h (.inl (0, n.toNatClampNeg, .inl (fun _ => 0))) n.toNatClampNeg) := G_newa f26_7 rfl hn
theorem f26_9 : fetch 26 9 = some (.putfield 9, 3) := vtab tk26 5 rfl
theorem e26_9 (L : VL) (st : List Value) (h : VG) (a : Nat) (x : Nat) (ho : ob h a 3) : ev 26 9 L (.ref x :: .ref a :: st) h = ev 26 12 L (st) (pR h a 3 x) := G_putR (p := 298) f26_9 lkF_3_9 (by decide) (by decide) (by decide +kernel) ⟨rfl, rfl⟩ ho
theorem f26_12 : fetch 26 12 = some (.aload_n 0, 1) := vtab tk26 6 rfl
theorem e26_12 (L : VL) (st : List Value) (h : VG) (x : Nat) : ev 26 12 (some (.ref x) :: L) (st) h = ev 26 13 (some (.ref x) :: L) (.ref x :: st) h := G_aload_n f26_12 rfl
theorem f26_13 : fetch 26 13 = some (.bipush 8, 2) := vtab tk26 7 rfl
theorem e26_13 (L : VL) (st : List Value) (h : VG) : ev 26 13 L (st) h = ev 26 15 L (.int (8 : Int32) :: st) h := G_bipush f26_13 (by decide)
theorem f26_15 : fetch 26 15 = some (.newarray .int, 2) := vtab tk26 8 rfl
theorem e26_15 (L : VL) (st : List Value) (h : VG) (n : Int32) (hn : ¬ n < 0 ∧ n.toNatClampNeg ≤ 4096) : ev 26 15 L (.int n :: st) h = ev 26 17 L (.ref h.2.1 :: st) (hnew h (.inl (0, n.toNatClampNeg, .inl (fun _ => 0))) n.toNatClampNeg) := G_newa f26_15 rfl hn
theorem f26_17 : fetch 26 17 = some (.putfield 15, 3) := vtab tk26 9 rfl
theorem e26_17 (L : VL) (st : List Value) (h : VG) (a : Nat) (x : Nat) (ho : ob h a 3) : ev 26 17 L (.ref x :: .ref a :: st) h = ev 26 20 L (st) (pR h a 4 x) := G_putR (p := 300) f26_17 lkF_3_15 (by decide) (by decide) (by decide +kernel) ⟨rfl, rfl⟩ ho
theorem f26_20 : fetch 26 20 = some (.aload_n 0, 1) := vtab tk26 10 rfl
theorem e26_20 (L : VL) (st : List Value) (h : VG) (x : Nat) : ev 26 20 (some (.ref x) :: L) (st) h = ev 26 21 (some (.ref x) :: L) (.ref x :: st) h := G_aload_n f26_20 rfl
theorem f26_21 : fetch 26 21 = some (.bipush 8, 2) := vtab tk26 11 rfl
theorem e26_21 (L : VL) (st : List Value) (h : VG) : ev 26 21 L (st) h = ev 26 23 L (.int (8 : Int32) :: st) h := G_bipush f26_21 (by decide)
theorem f26_23 : fetch 26 23 = some (.newarray .int, 2) := vtab tk26 12 rfl
theorem e26_23 (L : VL) (st : List Value) (h : VG) (n : Int32) (hn : ¬ n < 0 ∧ n.toNatClampNeg ≤ 4096) : ev 26 23 L (.int n :: st) h = ev 26 25 L (.ref h.2.1 :: st) (hnew h (.inl (0, n.toNatClampNeg, .inl (fun _ => 0))) n.toNatClampNeg) := G_newa f26_23 rfl hn
theorem f26_25 : fetch 26 25 = some (.putfield 18, 3) := vtab tk26 13 rfl
theorem e26_25 (L : VL) (st : List Value) (h : VG) (a : Nat) (x : Nat) (ho : ob h a 3) : ev 26 25 L (.ref x :: .ref a :: st) h = ev 26 28 L (st) (pR h a 5 x) := G_putR (p := 302) f26_25 lkF_3_18 (by decide) (by decide) (by decide +kernel) ⟨rfl, rfl⟩ ho
theorem f26_28 : fetch 26 28 = some (.aload_n 0, 1) := vtab tk26 14 rfl
theorem e26_28 (L : VL) (st : List Value) (h : VG) (x : Nat) : ev 26 28 (some (.ref x) :: L) (st) h = ev 26 29 (some (.ref x) :: L) (.ref x :: st) h := G_aload_n f26_28 rfl
theorem f26_29 : fetch 26 29 = some (.bipush 32, 2) := vtab tk26 15 rfl
theorem e26_29 (L : VL) (st : List Value) (h : VG) : ev 26 29 L (st) h = ev 26 31 L (.int (32 : Int32) :: st) h := G_bipush f26_29 (by decide)
theorem f26_31 : fetch 26 31 = some (.newarray .int, 2) := vtab tk26 16 rfl
theorem e26_31 (L : VL) (st : List Value) (h : VG) (n : Int32) (hn : ¬ n < 0 ∧ n.toNatClampNeg ≤ 4096) : ev 26 31 L (.int n :: st) h = ev 26 33 L (.ref h.2.1 :: st) (hnew h (.inl (0, n.toNatClampNeg, .inl (fun _ => 0))) n.toNatClampNeg) := G_newa f26_31 rfl hn
theorem f26_33 : fetch 26 33 = some (.putfield 21, 3) := vtab tk26 17 rfl
theorem e26_33 (L : VL) (st : List Value) (h : VG) (a : Nat) (x : Nat) (ho : ob h a 3) : ev 26 33 L (.ref x :: .ref a :: st) h = ev 26 36 L (st) (pR h a 6 x) := G_putR (p := 304) f26_33 lkF_3_21 (by decide) (by decide) (by decide +kernel) ⟨rfl, rfl⟩ ho
theorem f26_36 : fetch 26 36 = some (.aload_n 0, 1) := vtab tk26 18 rfl
theorem e26_36 (L : VL) (st : List Value) (h : VG) (x : Nat) : ev 26 36 (some (.ref x) :: L) (st) h = ev 26 37 (some (.ref x) :: L) (.ref x :: st) h := G_aload_n f26_36 rfl
theorem f26_37 : fetch 26 37 = some (.new 24, 3) := vtab tk26 19 rfl
theorem e26_37 (L : VL) (st : List Value) (h : VG) : ev 26 37 L (st) h = ev 26 40 L (.ref h.2.1 :: st) (hnew h (.inr (4, vDef 4)) (vNsl 4)) := G_new (p := 247) f26_37 lkN_3_24
theorem f26_40 : fetch 26 40 = some (.dup, 1) := vtab tk26 20 rfl
theorem e26_40b (L : VL) (st : List Value) (h : VG) (x : Int32) : ev 26 40 L (.int x :: st) h = ev 26 41 L (.int x :: .int x :: st) h := G_dup_int f26_40
theorem e26_40 (L : VL) (st : List Value) (h : VG) (x : Nat) : ev 26 40 L (.ref x :: st) h = ev 26 41 L (.ref x :: .ref x :: st) h := G_dup_ref f26_40
theorem f26_41 : fetch 26 41 = some (.iconst 0, 1) := vtab tk26 21 rfl
theorem e26_41 (L : VL) (st : List Value) (h : VG) : ev 26 41 L (st) h = ev 26 42 L (.int (0 : Int32) :: st) h := G_iconst f26_41 (by decide)
theorem f26_42 : fetch 26 42 = some (.invokespecial 26, 3) := vtab tk26 22 rfl
theorem e26_42 (L : VL) (st : List Value) (h : VG) (b : Nat) (x0 : Int32) (hs : catS st ≤ 8) : ev 26 42 L (.int x0 :: .ref b :: st) h = (ev 49 0 [some (.ref b), some (.int x0)] [] h).bind fun q => ev 26 45 L (q.1.toList ++ st) q.2 := G_calli (k := 2) (p := 249) (ars := [.int x0]) f26_42 lkC_3_26 (by decide) (by decide +kernel) rfl (Nat.le_of_ble_eq_true rfl) hs rfl
theorem f26_45 : fetch 26 45 = some (.putfield 29, 3) := vtab tk26 23 rfl
theorem e26_45 (L : VL) (st : List Value) (h : VG) (a : Nat) (x : Nat) (ho : ob h a 3) : ev 26 45 L (.ref x :: .ref a :: st) h = ev 26 48 L (st) (pR h a 7 x) := G_putR (p := 307) f26_45 lkF_3_29 (by decide) (by decide) (by decide +kernel) ⟨rfl, rfl⟩ ho
theorem f26_48 : fetch 26 48 = some (.aload_n 0, 1) := vtab tk26 24 rfl
theorem e26_48 (L : VL) (st : List Value) (h : VG) (x : Nat) : ev 26 48 (some (.ref x) :: L) (st) h = ev 26 49 (some (.ref x) :: L) (.ref x :: st) h := G_aload_n f26_48 rfl
theorem f26_49 : fetch 26 49 = some (.new 24, 3) := vtab tk26 25 rfl
theorem e26_49 (L : VL) (st : List Value) (h : VG) : ev 26 49 L (st) h = ev 26 52 L (.ref h.2.1 :: st) (hnew h (.inr (4, vDef 4)) (vNsl 4)) := G_new (p := 247) f26_49 lkN_3_24
theorem f26_52 : fetch 26 52 = some (.dup, 1) := vtab tk26 26 rfl
theorem e26_52b (L : VL) (st : List Value) (h : VG) (x : Int32) : ev 26 52 L (.int x :: st) h = ev 26 53 L (.int x :: .int x :: st) h := G_dup_int f26_52
theorem e26_52 (L : VL) (st : List Value) (h : VG) (x : Nat) : ev 26 52 L (.ref x :: st) h = ev 26 53 L (.ref x :: .ref x :: st) h := G_dup_ref f26_52
theorem f26_53 : fetch 26 53 = some (.iconst 1, 1) := vtab tk26 27 rfl
theorem e26_53 (L : VL) (st : List Value) (h : VG) : ev 26 53 L (st) h = ev 26 54 L (.int (1 : Int32) :: st) h := G_iconst f26_53 (by decide)
theorem f26_54 : fetch 26 54 = some (.invokespecial 26, 3) := vtab tk26 28 rfl
theorem e26_54 (L : VL) (st : List Value) (h : VG) (b : Nat) (x0 : Int32) (hs : catS st ≤ 8) : ev 26 54 L (.int x0 :: .ref b :: st) h = (ev 49 0 [some (.ref b), some (.int x0)] [] h).bind fun q => ev 26 57 L (q.1.toList ++ st) q.2 := G_calli (k := 2) (p := 249) (ars := [.int x0]) f26_54 lkC_3_26 (by decide) (by decide +kernel) rfl (Nat.le_of_ble_eq_true rfl) hs rfl
theorem f26_57 : fetch 26 57 = some (.putfield 33, 3) := vtab tk26 29 rfl
theorem e26_57 (L : VL) (st : List Value) (h : VG) (a : Nat) (x : Nat) (ho : ob h a 3) : ev 26 57 L (.ref x :: .ref a :: st) h = ev 26 60 L (st) (pR h a 8 x) := G_putR (p := 309) f26_57 lkF_3_33 (by decide) (by decide) (by decide +kernel) ⟨rfl, rfl⟩ ho
theorem f26_60 : fetch 26 60 = some (.aload_n 0, 1) := vtab tk26 30 rfl
theorem e26_60 (L : VL) (st : List Value) (h : VG) (x : Nat) : ev 26 60 (some (.ref x) :: L) (st) h = ev 26 61 (some (.ref x) :: L) (.ref x :: st) h := G_aload_n f26_60 rfl
theorem f26_61 : fetch 26 61 = some (.new 36, 3) := vtab tk26 31 rfl
theorem e26_61 (L : VL) (st : List Value) (h : VG) : ev 26 61 L (st) h = ev 26 64 L (.ref h.2.1 :: st) (hnew h (.inr (0, vDef 0)) (vNsl 0)) := G_new (p := 272) f26_61 lkN_3_36
theorem f26_64 : fetch 26 64 = some (.dup, 1) := vtab tk26 32 rfl
theorem e26_64b (L : VL) (st : List Value) (h : VG) (x : Int32) : ev 26 64 L (.int x :: st) h = ev 26 65 L (.int x :: .int x :: st) h := G_dup_int f26_64
theorem e26_64 (L : VL) (st : List Value) (h : VG) (x : Nat) : ev 26 64 L (.ref x :: st) h = ev 26 65 L (.ref x :: .ref x :: st) h := G_dup_ref f26_64
theorem f26_65 : fetch 26 65 = some (.invokespecial 38, 3) := vtab tk26 33 rfl
theorem e26_65 (L : VL) (st : List Value) (h : VG) (b : Nat)  (hs : catS st ≤ 8) : ev 26 65 L (.ref b :: st) h = (ev 0 0 [some (.ref b)] [] h).bind fun q => ev 26 68 L (q.1.toList ++ st) q.2 := G_calli (k := 5) (p := 274) (ars := []) f26_65 lkC_3_38 (by decide) (by decide +kernel) rfl (Nat.le_of_ble_eq_true rfl) hs rfl
theorem f26_68 : fetch 26 68 = some (.putfield 39, 3) := vtab tk26 34 rfl
theorem e26_68 (L : VL) (st : List Value) (h : VG) (a : Nat) (x : Nat) (ho : ob h a 3) : ev 26 68 L (.ref x :: .ref a :: st) h = ev 26 71 L (st) (pR h a 9 x) := G_putR (p := 311) f26_68 lkF_3_39 (by decide) (by decide) (by decide +kernel) ⟨rfl, rfl⟩ ho
theorem f26_71 : fetch 26 71 = some (.return_, 1) := vtab tk26 35 rfl
theorem e26_71 (L : VL) (h : VG) : ev 26 71 L [] h = some (none, h) := G_vret f26_71 (by decide)
/-! 27 GuestCalls$Form.begin(J)V -/
def tb27 : List (Nat × Instr × Nat) := [(0, .aload_n 0, 1), (1, .lload_n 1, 1), (2, .putfield 43, 3), (5, .aload_n 0, 1), (6, .iconst 0, 1), (7, .putfield 47, 3), (10, .aload_n 0, 1), (11, .iconst 0, 1), (12, .putfield 51, 3), (15, .return_, 1)]
theorem tk27 : tb27.all (fun q => decide (fetch 27 q.1 = some q.2)) = true := by decide +kernel
theorem f27_0 : fetch 27 0 = some (.aload_n 0, 1) := vtab tk27 0 rfl
theorem e27_0 (L : VL) (st : List Value) (h : VG) (x : Nat) : ev 27 0 (some (.ref x) :: L) (st) h = ev 27 1 (some (.ref x) :: L) (.ref x :: st) h := G_aload_n f27_0 rfl
theorem f27_1 : fetch 27 1 = some (.lload_n 1, 1) := vtab tk27 1 rfl
theorem e27_1 (l0 : Option Value) (L : VL) (st : List Value) (h : VG) (x : Int64) : ev 27 1 (l0 :: some (.long x) :: L) (st) h = ev 27 2 (l0 :: some (.long x) :: L) (.long x :: st) h := G_lload_n f27_1 rfl
theorem f27_2 : fetch 27 2 = some (.putfield 43, 3) := vtab tk27 2 rfl
theorem e27_2 (L : VL) (st : List Value) (h : VG) (a : Nat) (x : Int64) (ho : ob h a 3) : ev 27 2 L (.long x :: .ref a :: st) h = ev 27 5 L (st) (pL h a 0 x) := G_putL (p := 291) f27_2 lkF_3_43 (by decide) (by decide) (by decide +kernel) ⟨rfl, rfl⟩ ho
theorem f27_5 : fetch 27 5 = some (.aload_n 0, 1) := vtab tk27 3 rfl
theorem e27_5 (L : VL) (st : List Value) (h : VG) (x : Nat) : ev 27 5 (some (.ref x) :: L) (st) h = ev 27 6 (some (.ref x) :: L) (.ref x :: st) h := G_aload_n f27_5 rfl
theorem f27_6 : fetch 27 6 = some (.iconst 0, 1) := vtab tk27 4 rfl
theorem e27_6 (L : VL) (st : List Value) (h : VG) : ev 27 6 L (st) h = ev 27 7 L (.int (0 : Int32) :: st) h := G_iconst f27_6 (by decide)
theorem f27_7 : fetch 27 7 = some (.putfield 47, 3) := vtab tk27 5 rfl
theorem e27_7 (L : VL) (st : List Value) (h : VG) (a : Nat) (x : Int32) (ho : ob h a 3) : ev 27 7 L (.int x :: .ref a :: st) h = ev 27 10 L (st) (pI h a 1 x) := G_putI (p := 293) f27_7 lkF_3_47 (by decide) (by decide) (by decide +kernel) ⟨rfl, rfl⟩ ho
theorem f27_10 : fetch 27 10 = some (.aload_n 0, 1) := vtab tk27 6 rfl
theorem e27_10 (L : VL) (st : List Value) (h : VG) (x : Nat) : ev 27 10 (some (.ref x) :: L) (st) h = ev 27 11 (some (.ref x) :: L) (.ref x :: st) h := G_aload_n f27_10 rfl
theorem f27_11 : fetch 27 11 = some (.iconst 0, 1) := vtab tk27 7 rfl
theorem e27_11 (L : VL) (st : List Value) (h : VG) : ev 27 11 L (st) h = ev 27 12 L (.int (0 : Int32) :: st) h := G_iconst f27_11 (by decide)
theorem f27_12 : fetch 27 12 = some (.putfield 51, 3) := vtab tk27 8 rfl
theorem e27_12 (L : VL) (st : List Value) (h : VG) (a : Nat) (x : Int32) (ho : ob h a 3) : ev 27 12 L (.int x :: .ref a :: st) h = ev 27 15 L (st) (pI h a 2 x) := G_putI (p := 295) f27_12 lkF_3_51 (by decide) (by decide) (by decide +kernel) ⟨rfl, rfl⟩ ho
theorem f27_15 : fetch 27 15 = some (.return_, 1) := vtab tk27 9 rfl
theorem e27_15 (L : VL) (h : VG) : ev 27 15 L [] h = some (none, h) := G_vret f27_15 (by decide)
/-! 28 GuestCalls$Form.addMember(II)V -/
def tb28 : List (Nat × Instr × Nat) := [(0, .aload_n 0, 1), (1, .getfield 9, 3), (4, .aload_n 0, 1), (5, .getfield 47, 3), (8, .iload_n 1, 1), (9, .iastore, 1), (10, .aload_n 0, 1), (11, .getfield 15, 3), (14, .aload_n 0, 1), (15, .getfield 47, 3), (18, .iload_n 2, 1), (19, .iastore, 1), (20, .aload_n 0, 1), (21, .getfield 18, 3), (24, .aload_n 0, 1), (25, .getfield 47, 3), (28, .aload_n 0, 1), (29, .getfield 51, 3), (32, .iastore, 1), (33, .aload_n 0, 1), (34, .dup, 1), (35, .getfield 47, 3), (38, .iconst 1, 1), (39, .iadd, 1), (40, .putfield 47, 3), (43, .iconst 0, 1), (44, .istore_n 3, 1), (45, .iload_n 3, 1), (46, .iload_n 2, 1), (47, .if_icmp .ge 29, 3), (50, .aload_n 0, 1), (51, .getfield 21, 3), (54, .aload_n 0, 1), (55, .getfield 51, 3), (58, .iload_n 1, 1), (59, .iastore, 1), (60, .aload_n 0, 1), (61, .dup, 1), (62, .getfield 51, 3), (65, .iconst 1, 1), (66, .iadd, 1), (67, .putfield 51, 3), (70, .iinc 3 1, 3), (73, .goto (-28), 3), (76, .return_, 1)]
theorem tk28 : tb28.all (fun q => decide (fetch 28 q.1 = some q.2)) = true := by decide +kernel
theorem f28_0 : fetch 28 0 = some (.aload_n 0, 1) := vtab tk28 0 rfl
theorem e28_0 (L : VL) (st : List Value) (h : VG) (x : Nat) : ev 28 0 (some (.ref x) :: L) (st) h = ev 28 1 (some (.ref x) :: L) (.ref x :: st) h := G_aload_n f28_0 rfl
theorem f28_1 : fetch 28 1 = some (.getfield 9, 3) := vtab tk28 1 rfl
theorem e28_1 (L : VL) (st : List Value) (h : VG) (a : Nat) (ho : ob h a 3) (hr : isR h a 3) : ev 28 1 L (.ref a :: st) h = ev 28 4 L (.ref (gR h a 3) :: st) h := G_getR (p := 298) f28_1 lkF_3_9 (by decide) (by decide) ho hr
theorem f28_4 : fetch 28 4 = some (.aload_n 0, 1) := vtab tk28 2 rfl
theorem e28_4 (L : VL) (st : List Value) (h : VG) (x : Nat) : ev 28 4 (some (.ref x) :: L) (st) h = ev 28 5 (some (.ref x) :: L) (.ref x :: st) h := G_aload_n f28_4 rfl
theorem f28_5 : fetch 28 5 = some (.getfield 47, 3) := vtab tk28 3 rfl
theorem e28_5 (L : VL) (st : List Value) (h : VG) (a : Nat) (ho : ob h a 3) : ev 28 5 L (.ref a :: st) h = ev 28 8 L (.int (gI h a 1) :: st) h := G_getI (p := 293) f28_5 lkF_3_47 (by decide) (by decide) ho
theorem f28_8 : fetch 28 8 = some (.iload_n 1, 1) := vtab tk28 4 rfl
theorem e28_8 (l0 : Option Value) (L : VL) (st : List Value) (h : VG) (x : Int32) : ev 28 8 (l0 :: some (.int x) :: L) (st) h = ev 28 9 (l0 :: some (.int x) :: L) (.int x :: st) h := G_iload_n f28_8 rfl
theorem f28_9 : fetch 28 9 = some (.iastore, 1) := vtab tk28 5 rfl
theorem e28_9 (L : VL) (st : List Value) (h : VG) (a : Nat) (i : Int32) (x : Int32) (ha : arI h a 0) (hi : vp_in i (aln h a)) : ev 28 9 L (.int x :: .int i :: .ref a :: st) h = ev 28 10 L (st) (wI h a i.toNatClampNeg x) := G_iast f28_9 ha hi
theorem f28_10 : fetch 28 10 = some (.aload_n 0, 1) := vtab tk28 6 rfl
theorem e28_10 (L : VL) (st : List Value) (h : VG) (x : Nat) : ev 28 10 (some (.ref x) :: L) (st) h = ev 28 11 (some (.ref x) :: L) (.ref x :: st) h := G_aload_n f28_10 rfl
theorem f28_11 : fetch 28 11 = some (.getfield 15, 3) := vtab tk28 7 rfl
theorem e28_11 (L : VL) (st : List Value) (h : VG) (a : Nat) (ho : ob h a 3) (hr : isR h a 4) : ev 28 11 L (.ref a :: st) h = ev 28 14 L (.ref (gR h a 4) :: st) h := G_getR (p := 300) f28_11 lkF_3_15 (by decide) (by decide) ho hr
theorem f28_14 : fetch 28 14 = some (.aload_n 0, 1) := vtab tk28 8 rfl
theorem e28_14 (L : VL) (st : List Value) (h : VG) (x : Nat) : ev 28 14 (some (.ref x) :: L) (st) h = ev 28 15 (some (.ref x) :: L) (.ref x :: st) h := G_aload_n f28_14 rfl
theorem f28_15 : fetch 28 15 = some (.getfield 47, 3) := vtab tk28 9 rfl
theorem e28_15 (L : VL) (st : List Value) (h : VG) (a : Nat) (ho : ob h a 3) : ev 28 15 L (.ref a :: st) h = ev 28 18 L (.int (gI h a 1) :: st) h := G_getI (p := 293) f28_15 lkF_3_47 (by decide) (by decide) ho
theorem f28_18 : fetch 28 18 = some (.iload_n 2, 1) := vtab tk28 10 rfl
theorem e28_18 (l0 l1 : Option Value) (L : VL) (st : List Value) (h : VG) (x : Int32) : ev 28 18 (l0 :: l1 :: some (.int x) :: L) (st) h = ev 28 19 (l0 :: l1 :: some (.int x) :: L) (.int x :: st) h := G_iload_n f28_18 rfl
theorem f28_19 : fetch 28 19 = some (.iastore, 1) := vtab tk28 11 rfl
theorem e28_19 (L : VL) (st : List Value) (h : VG) (a : Nat) (i : Int32) (x : Int32) (ha : arI h a 0) (hi : vp_in i (aln h a)) : ev 28 19 L (.int x :: .int i :: .ref a :: st) h = ev 28 20 L (st) (wI h a i.toNatClampNeg x) := G_iast f28_19 ha hi
theorem f28_20 : fetch 28 20 = some (.aload_n 0, 1) := vtab tk28 12 rfl
theorem e28_20 (L : VL) (st : List Value) (h : VG) (x : Nat) : ev 28 20 (some (.ref x) :: L) (st) h = ev 28 21 (some (.ref x) :: L) (.ref x :: st) h := G_aload_n f28_20 rfl
theorem f28_21 : fetch 28 21 = some (.getfield 18, 3) := vtab tk28 13 rfl
theorem e28_21 (L : VL) (st : List Value) (h : VG) (a : Nat) (ho : ob h a 3) (hr : isR h a 5) : ev 28 21 L (.ref a :: st) h = ev 28 24 L (.ref (gR h a 5) :: st) h := G_getR (p := 302) f28_21 lkF_3_18 (by decide) (by decide) ho hr
theorem f28_24 : fetch 28 24 = some (.aload_n 0, 1) := vtab tk28 14 rfl
theorem e28_24 (L : VL) (st : List Value) (h : VG) (x : Nat) : ev 28 24 (some (.ref x) :: L) (st) h = ev 28 25 (some (.ref x) :: L) (.ref x :: st) h := G_aload_n f28_24 rfl
theorem f28_25 : fetch 28 25 = some (.getfield 47, 3) := vtab tk28 15 rfl
theorem e28_25 (L : VL) (st : List Value) (h : VG) (a : Nat) (ho : ob h a 3) : ev 28 25 L (.ref a :: st) h = ev 28 28 L (.int (gI h a 1) :: st) h := G_getI (p := 293) f28_25 lkF_3_47 (by decide) (by decide) ho
theorem f28_28 : fetch 28 28 = some (.aload_n 0, 1) := vtab tk28 16 rfl
theorem e28_28 (L : VL) (st : List Value) (h : VG) (x : Nat) : ev 28 28 (some (.ref x) :: L) (st) h = ev 28 29 (some (.ref x) :: L) (.ref x :: st) h := G_aload_n f28_28 rfl
theorem f28_29 : fetch 28 29 = some (.getfield 51, 3) := vtab tk28 17 rfl
theorem e28_29 (L : VL) (st : List Value) (h : VG) (a : Nat) (ho : ob h a 3) : ev 28 29 L (.ref a :: st) h = ev 28 32 L (.int (gI h a 2) :: st) h := G_getI (p := 295) f28_29 lkF_3_51 (by decide) (by decide) ho
theorem f28_32 : fetch 28 32 = some (.iastore, 1) := vtab tk28 18 rfl
theorem e28_32 (L : VL) (st : List Value) (h : VG) (a : Nat) (i : Int32) (x : Int32) (ha : arI h a 0) (hi : vp_in i (aln h a)) : ev 28 32 L (.int x :: .int i :: .ref a :: st) h = ev 28 33 L (st) (wI h a i.toNatClampNeg x) := G_iast f28_32 ha hi
theorem f28_33 : fetch 28 33 = some (.aload_n 0, 1) := vtab tk28 19 rfl
theorem e28_33 (L : VL) (st : List Value) (h : VG) (x : Nat) : ev 28 33 (some (.ref x) :: L) (st) h = ev 28 34 (some (.ref x) :: L) (.ref x :: st) h := G_aload_n f28_33 rfl
theorem f28_34 : fetch 28 34 = some (.dup, 1) := vtab tk28 20 rfl
theorem e28_34b (L : VL) (st : List Value) (h : VG) (x : Int32) : ev 28 34 L (.int x :: st) h = ev 28 35 L (.int x :: .int x :: st) h := G_dup_int f28_34
theorem e28_34 (L : VL) (st : List Value) (h : VG) (x : Nat) : ev 28 34 L (.ref x :: st) h = ev 28 35 L (.ref x :: .ref x :: st) h := G_dup_ref f28_34
theorem f28_35 : fetch 28 35 = some (.getfield 47, 3) := vtab tk28 21 rfl
theorem e28_35 (L : VL) (st : List Value) (h : VG) (a : Nat) (ho : ob h a 3) : ev 28 35 L (.ref a :: st) h = ev 28 38 L (.int (gI h a 1) :: st) h := G_getI (p := 293) f28_35 lkF_3_47 (by decide) (by decide) ho
theorem f28_38 : fetch 28 38 = some (.iconst 1, 1) := vtab tk28 22 rfl
theorem e28_38 (L : VL) (st : List Value) (h : VG) : ev 28 38 L (st) h = ev 28 39 L (.int (1 : Int32) :: st) h := G_iconst f28_38 (by decide)
theorem f28_39 : fetch 28 39 = some (.iadd, 1) := vtab tk28 23 rfl
theorem e28_39 (L : VL) (st : List Value) (h : VG) (x y : Int32) : ev 28 39 L (.int y :: .int x :: st) h = ev 28 40 L (.int (x + y) :: st) h := G_iadd f28_39
theorem f28_40 : fetch 28 40 = some (.putfield 47, 3) := vtab tk28 24 rfl
theorem e28_40 (L : VL) (st : List Value) (h : VG) (a : Nat) (x : Int32) (ho : ob h a 3) : ev 28 40 L (.int x :: .ref a :: st) h = ev 28 43 L (st) (pI h a 1 x) := G_putI (p := 293) f28_40 lkF_3_47 (by decide) (by decide) (by decide +kernel) ⟨rfl, rfl⟩ ho
theorem f28_43 : fetch 28 43 = some (.iconst 0, 1) := vtab tk28 25 rfl
theorem e28_43 (L : VL) (st : List Value) (h : VG) : ev 28 43 L (st) h = ev 28 44 L (.int (0 : Int32) :: st) h := G_iconst f28_43 (by decide)
theorem f28_44 : fetch 28 44 = some (.istore_n 3, 1) := vtab tk28 26 rfl
theorem e28_44 (l0 l1 l2 l3 : Option Value) (L : VL) (st : List Value) (h : VG) (x : Int32) : ev 28 44 (l0 :: l1 :: l2 :: l3 :: L) (.int x :: st) h = ev 28 45 (l0 :: l1 :: vkk l2 :: some (.int x) :: L) (st) h := G_istore_n f28_44 rfl (S1_3 l0 l1 l2 l3 L _)
theorem f28_45 : fetch 28 45 = some (.iload_n 3, 1) := vtab tk28 27 rfl
theorem e28_45 (l0 l1 l2 : Option Value) (L : VL) (st : List Value) (h : VG) (x : Int32) : ev 28 45 (l0 :: l1 :: l2 :: some (.int x) :: L) (st) h = ev 28 46 (l0 :: l1 :: l2 :: some (.int x) :: L) (.int x :: st) h := G_iload_n f28_45 rfl
theorem f28_46 : fetch 28 46 = some (.iload_n 2, 1) := vtab tk28 28 rfl
theorem e28_46 (l0 l1 : Option Value) (L : VL) (st : List Value) (h : VG) (x : Int32) : ev 28 46 (l0 :: l1 :: some (.int x) :: L) (st) h = ev 28 47 (l0 :: l1 :: some (.int x) :: L) (.int x :: st) h := G_iload_n f28_46 rfl
theorem f28_47 : fetch 28 47 = some (.if_icmp .ge 29, 3) := vtab tk28 29 rfl
theorem e28_47 (L : VL) (st : List Value) (h : VG) (x y : Int32) : ev 28 47 L (.int y :: .int x :: st) h = if x < y then ev 28 50 L st h else ev 28 76 L st h := G_icmp_ge f28_47 (by decide)
theorem f28_50 : fetch 28 50 = some (.aload_n 0, 1) := vtab tk28 30 rfl
theorem e28_50 (L : VL) (st : List Value) (h : VG) (x : Nat) : ev 28 50 (some (.ref x) :: L) (st) h = ev 28 51 (some (.ref x) :: L) (.ref x :: st) h := G_aload_n f28_50 rfl
theorem f28_51 : fetch 28 51 = some (.getfield 21, 3) := vtab tk28 31 rfl
theorem e28_51 (L : VL) (st : List Value) (h : VG) (a : Nat) (ho : ob h a 3) (hr : isR h a 6) : ev 28 51 L (.ref a :: st) h = ev 28 54 L (.ref (gR h a 6) :: st) h := G_getR (p := 304) f28_51 lkF_3_21 (by decide) (by decide) ho hr
theorem f28_54 : fetch 28 54 = some (.aload_n 0, 1) := vtab tk28 32 rfl
theorem e28_54 (L : VL) (st : List Value) (h : VG) (x : Nat) : ev 28 54 (some (.ref x) :: L) (st) h = ev 28 55 (some (.ref x) :: L) (.ref x :: st) h := G_aload_n f28_54 rfl
theorem f28_55 : fetch 28 55 = some (.getfield 51, 3) := vtab tk28 33 rfl
theorem e28_55 (L : VL) (st : List Value) (h : VG) (a : Nat) (ho : ob h a 3) : ev 28 55 L (.ref a :: st) h = ev 28 58 L (.int (gI h a 2) :: st) h := G_getI (p := 295) f28_55 lkF_3_51 (by decide) (by decide) ho
theorem f28_58 : fetch 28 58 = some (.iload_n 1, 1) := vtab tk28 34 rfl
theorem e28_58 (l0 : Option Value) (L : VL) (st : List Value) (h : VG) (x : Int32) : ev 28 58 (l0 :: some (.int x) :: L) (st) h = ev 28 59 (l0 :: some (.int x) :: L) (.int x :: st) h := G_iload_n f28_58 rfl
theorem f28_59 : fetch 28 59 = some (.iastore, 1) := vtab tk28 35 rfl
theorem e28_59 (L : VL) (st : List Value) (h : VG) (a : Nat) (i : Int32) (x : Int32) (ha : arI h a 0) (hi : vp_in i (aln h a)) : ev 28 59 L (.int x :: .int i :: .ref a :: st) h = ev 28 60 L (st) (wI h a i.toNatClampNeg x) := G_iast f28_59 ha hi
theorem f28_60 : fetch 28 60 = some (.aload_n 0, 1) := vtab tk28 36 rfl
theorem e28_60 (L : VL) (st : List Value) (h : VG) (x : Nat) : ev 28 60 (some (.ref x) :: L) (st) h = ev 28 61 (some (.ref x) :: L) (.ref x :: st) h := G_aload_n f28_60 rfl
theorem f28_61 : fetch 28 61 = some (.dup, 1) := vtab tk28 37 rfl
theorem e28_61b (L : VL) (st : List Value) (h : VG) (x : Int32) : ev 28 61 L (.int x :: st) h = ev 28 62 L (.int x :: .int x :: st) h := G_dup_int f28_61
theorem e28_61 (L : VL) (st : List Value) (h : VG) (x : Nat) : ev 28 61 L (.ref x :: st) h = ev 28 62 L (.ref x :: .ref x :: st) h := G_dup_ref f28_61
theorem f28_62 : fetch 28 62 = some (.getfield 51, 3) := vtab tk28 38 rfl
theorem e28_62 (L : VL) (st : List Value) (h : VG) (a : Nat) (ho : ob h a 3) : ev 28 62 L (.ref a :: st) h = ev 28 65 L (.int (gI h a 2) :: st) h := G_getI (p := 295) f28_62 lkF_3_51 (by decide) (by decide) ho
theorem f28_65 : fetch 28 65 = some (.iconst 1, 1) := vtab tk28 39 rfl
theorem e28_65 (L : VL) (st : List Value) (h : VG) : ev 28 65 L (st) h = ev 28 66 L (.int (1 : Int32) :: st) h := G_iconst f28_65 (by decide)
theorem f28_66 : fetch 28 66 = some (.iadd, 1) := vtab tk28 40 rfl
theorem e28_66 (L : VL) (st : List Value) (h : VG) (x y : Int32) : ev 28 66 L (.int y :: .int x :: st) h = ev 28 67 L (.int (x + y) :: st) h := G_iadd f28_66
theorem f28_67 : fetch 28 67 = some (.putfield 51, 3) := vtab tk28 41 rfl
theorem e28_67 (L : VL) (st : List Value) (h : VG) (a : Nat) (x : Int32) (ho : ob h a 3) : ev 28 67 L (.int x :: .ref a :: st) h = ev 28 70 L (st) (pI h a 2 x) := G_putI (p := 295) f28_67 lkF_3_51 (by decide) (by decide) (by decide +kernel) ⟨rfl, rfl⟩ ho
theorem f28_70 : fetch 28 70 = some (.iinc 3 1, 3) := vtab tk28 42 rfl
theorem e28_70 (l0 l1 l2 : Option Value) (L : VL) (st : List Value) (h : VG) (x : Int32) : ev 28 70 (l0 :: l1 :: l2 :: some (.int x) :: L) (st) h = ev 28 73 (l0 :: l1 :: vkk l2 :: some (.int (x + (1 : Int32))) :: L) (st) h := G_iinc f28_70 rfl (by decide) (S1_3 l0 l1 l2 (some (.int x)) L _)
theorem f28_73 : fetch 28 73 = some (.goto (-28), 3) := vtab tk28 43 rfl
theorem e28_73 (L : VL) (st : List Value) (h : VG) : ev 28 73 L (st) h = ev 28 45 L (st) h := G_goto f28_73 (by decide)
theorem f28_76 : fetch 28 76 = some (.return_, 1) := vtab tk28 44 rfl
theorem e28_76 (L : VL) (h : VG) : ev 28 76 L [] h = some (none, h) := G_vret f28_76 (by decide)
/-! 29 GuestCalls$Form.layOut()V -/
def tb29 : List (Nat × Instr × Nat) := [(0, .aload_n 0, 1), (1, .getfield 29, 3), (4, .aload_n 0, 1), (5, .getfield 21, 3), (8, .aload_n 0, 1), (9, .getfield 51, 3), (12, .invokevirtual 54, 3), (15, .aload_n 0, 1), (16, .getfield 33, 3), (19, .aload_n 0, 1), (20, .getfield 21, 3), (23, .aload_n 0, 1), (24, .getfield 51, 3), (27, .invokevirtual 54, 3), (30, .aload_n 0, 1), (31, .getfield 39, 3), (34, .aload_n 0, 1), (35, .getfield 21, 3), (38, .aload_n 0, 1), (39, .getfield 51, 3), (42, .invokevirtual 58, 3), (45, .return_, 1)]
theorem tk29 : tb29.all (fun q => decide (fetch 29 q.1 = some q.2)) = true := by decide +kernel
theorem f29_0 : fetch 29 0 = some (.aload_n 0, 1) := vtab tk29 0 rfl
theorem e29_0 (L : VL) (st : List Value) (h : VG) (x : Nat) : ev 29 0 (some (.ref x) :: L) (st) h = ev 29 1 (some (.ref x) :: L) (.ref x :: st) h := G_aload_n f29_0 rfl
theorem f29_1 : fetch 29 1 = some (.getfield 29, 3) := vtab tk29 1 rfl
theorem e29_1 (L : VL) (st : List Value) (h : VG) (a : Nat) (ho : ob h a 3) (hr : isR h a 7) : ev 29 1 L (.ref a :: st) h = ev 29 4 L (.ref (gR h a 7) :: st) h := G_getR (p := 307) f29_1 lkF_3_29 (by decide) (by decide) ho hr
theorem f29_4 : fetch 29 4 = some (.aload_n 0, 1) := vtab tk29 2 rfl
theorem e29_4 (L : VL) (st : List Value) (h : VG) (x : Nat) : ev 29 4 (some (.ref x) :: L) (st) h = ev 29 5 (some (.ref x) :: L) (.ref x :: st) h := G_aload_n f29_4 rfl
theorem f29_5 : fetch 29 5 = some (.getfield 21, 3) := vtab tk29 3 rfl
theorem e29_5 (L : VL) (st : List Value) (h : VG) (a : Nat) (ho : ob h a 3) (hr : isR h a 6) : ev 29 5 L (.ref a :: st) h = ev 29 8 L (.ref (gR h a 6) :: st) h := G_getR (p := 304) f29_5 lkF_3_21 (by decide) (by decide) ho hr
theorem f29_8 : fetch 29 8 = some (.aload_n 0, 1) := vtab tk29 4 rfl
theorem e29_8 (L : VL) (st : List Value) (h : VG) (x : Nat) : ev 29 8 (some (.ref x) :: L) (st) h = ev 29 9 (some (.ref x) :: L) (.ref x :: st) h := G_aload_n f29_8 rfl
theorem f29_9 : fetch 29 9 = some (.getfield 51, 3) := vtab tk29 5 rfl
theorem e29_9 (L : VL) (st : List Value) (h : VG) (a : Nat) (ho : ob h a 3) : ev 29 9 L (.ref a :: st) h = ev 29 12 L (.int (gI h a 2) :: st) h := G_getI (p := 295) f29_9 lkF_3_51 (by decide) (by decide) ho
theorem f29_12 : fetch 29 12 = some (.invokevirtual 54, 3) := vtab tk29 6 rfl
theorem e29_12 (L : VL) (st : List Value) (h : VG) (b : Nat) (x0 : Nat) (x1 : Int32) (ho : ob h b 4) (hs : catS st ≤ 8) : ev 29 12 L (.int x1 :: .ref x0 :: .ref b :: st) h = (ev 50 0 [some (.ref b), some (.ref x0), some (.int x1), none, none, none] [] h).bind fun q => ev 29 15 L (q.1.toList ++ st) q.2 := G_callv (k := 1) (p := 590) (ars := [.ref x0, .int x1]) f29_12 lkC_3_54 (by decide) (by decide +kernel) rfl (vcls_ob (ci := 4) (by decide) ho) (Nat.le_of_ble_eq_true rfl) hs rfl
theorem f29_15 : fetch 29 15 = some (.aload_n 0, 1) := vtab tk29 7 rfl
theorem e29_15 (L : VL) (st : List Value) (h : VG) (x : Nat) : ev 29 15 (some (.ref x) :: L) (st) h = ev 29 16 (some (.ref x) :: L) (.ref x :: st) h := G_aload_n f29_15 rfl
theorem f29_16 : fetch 29 16 = some (.getfield 33, 3) := vtab tk29 8 rfl
theorem e29_16 (L : VL) (st : List Value) (h : VG) (a : Nat) (ho : ob h a 3) (hr : isR h a 8) : ev 29 16 L (.ref a :: st) h = ev 29 19 L (.ref (gR h a 8) :: st) h := G_getR (p := 309) f29_16 lkF_3_33 (by decide) (by decide) ho hr
theorem f29_19 : fetch 29 19 = some (.aload_n 0, 1) := vtab tk29 9 rfl
theorem e29_19 (L : VL) (st : List Value) (h : VG) (x : Nat) : ev 29 19 (some (.ref x) :: L) (st) h = ev 29 20 (some (.ref x) :: L) (.ref x :: st) h := G_aload_n f29_19 rfl
theorem f29_20 : fetch 29 20 = some (.getfield 21, 3) := vtab tk29 10 rfl
theorem e29_20 (L : VL) (st : List Value) (h : VG) (a : Nat) (ho : ob h a 3) (hr : isR h a 6) : ev 29 20 L (.ref a :: st) h = ev 29 23 L (.ref (gR h a 6) :: st) h := G_getR (p := 304) f29_20 lkF_3_21 (by decide) (by decide) ho hr
theorem f29_23 : fetch 29 23 = some (.aload_n 0, 1) := vtab tk29 11 rfl
theorem e29_23 (L : VL) (st : List Value) (h : VG) (x : Nat) : ev 29 23 (some (.ref x) :: L) (st) h = ev 29 24 (some (.ref x) :: L) (.ref x :: st) h := G_aload_n f29_23 rfl
theorem f29_24 : fetch 29 24 = some (.getfield 51, 3) := vtab tk29 12 rfl
theorem e29_24 (L : VL) (st : List Value) (h : VG) (a : Nat) (ho : ob h a 3) : ev 29 24 L (.ref a :: st) h = ev 29 27 L (.int (gI h a 2) :: st) h := G_getI (p := 295) f29_24 lkF_3_51 (by decide) (by decide) ho
theorem f29_27 : fetch 29 27 = some (.invokevirtual 54, 3) := vtab tk29 13 rfl
theorem e29_27 (L : VL) (st : List Value) (h : VG) (b : Nat) (x0 : Nat) (x1 : Int32) (ho : ob h b 4) (hs : catS st ≤ 8) : ev 29 27 L (.int x1 :: .ref x0 :: .ref b :: st) h = (ev 50 0 [some (.ref b), some (.ref x0), some (.int x1), none, none, none] [] h).bind fun q => ev 29 30 L (q.1.toList ++ st) q.2 := G_callv (k := 1) (p := 590) (ars := [.ref x0, .int x1]) f29_27 lkC_3_54 (by decide) (by decide +kernel) rfl (vcls_ob (ci := 4) (by decide) ho) (Nat.le_of_ble_eq_true rfl) hs rfl
theorem f29_30 : fetch 29 30 = some (.aload_n 0, 1) := vtab tk29 14 rfl
theorem e29_30 (L : VL) (st : List Value) (h : VG) (x : Nat) : ev 29 30 (some (.ref x) :: L) (st) h = ev 29 31 (some (.ref x) :: L) (.ref x :: st) h := G_aload_n f29_30 rfl
theorem f29_31 : fetch 29 31 = some (.getfield 39, 3) := vtab tk29 15 rfl
theorem e29_31 (L : VL) (st : List Value) (h : VG) (a : Nat) (ho : ob h a 3) (hr : isR h a 9) : ev 29 31 L (.ref a :: st) h = ev 29 34 L (.ref (gR h a 9) :: st) h := G_getR (p := 311) f29_31 lkF_3_39 (by decide) (by decide) ho hr
theorem f29_34 : fetch 29 34 = some (.aload_n 0, 1) := vtab tk29 16 rfl
theorem e29_34 (L : VL) (st : List Value) (h : VG) (x : Nat) : ev 29 34 (some (.ref x) :: L) (st) h = ev 29 35 (some (.ref x) :: L) (.ref x :: st) h := G_aload_n f29_34 rfl
theorem f29_35 : fetch 29 35 = some (.getfield 21, 3) := vtab tk29 17 rfl
theorem e29_35 (L : VL) (st : List Value) (h : VG) (a : Nat) (ho : ob h a 3) (hr : isR h a 6) : ev 29 35 L (.ref a :: st) h = ev 29 38 L (.ref (gR h a 6) :: st) h := G_getR (p := 304) f29_35 lkF_3_21 (by decide) (by decide) ho hr
theorem f29_38 : fetch 29 38 = some (.aload_n 0, 1) := vtab tk29 18 rfl
theorem e29_38 (L : VL) (st : List Value) (h : VG) (x : Nat) : ev 29 38 (some (.ref x) :: L) (st) h = ev 29 39 (some (.ref x) :: L) (.ref x :: st) h := G_aload_n f29_38 rfl
theorem f29_39 : fetch 29 39 = some (.getfield 51, 3) := vtab tk29 19 rfl
theorem e29_39 (L : VL) (st : List Value) (h : VG) (a : Nat) (ho : ob h a 3) : ev 29 39 L (.ref a :: st) h = ev 29 42 L (.int (gI h a 2) :: st) h := G_getI (p := 295) f29_39 lkF_3_51 (by decide) (by decide) ho
theorem f29_42 : fetch 29 42 = some (.invokevirtual 58, 3) := vtab tk29 20 rfl
theorem e29_42 (L : VL) (st : List Value) (h : VG) (b : Nat) (x0 : Nat) (x1 : Int32) (ho : ob h b 0) (hs : catS st ≤ 8) : ev 29 42 L (.int x1 :: .ref x0 :: .ref b :: st) h = (ev 1 0 [some (.ref b), some (.ref x0), some (.int x1), none, none, none, none, none, none] [] h).bind fun q => ev 29 45 L (q.1.toList ++ st) q.2 := G_callv (k := 1) (p := 613) (ars := [.ref x0, .int x1]) f29_42 lkC_3_58 (by decide) (by decide +kernel) rfl (vcls_ob (ci := 0) (by decide) ho) (Nat.le_of_ble_eq_true rfl) hs rfl
theorem f29_45 : fetch 29 45 = some (.return_, 1) := vtab tk29 21 rfl
theorem e29_45 (L : VL) (h : VG) : ev 29 45 L [] h = some (none, h) := G_vret f29_45 (by decide)
/-! 30 GuestCalls$Kinds.bytesOf(IZ)I -/
def tb30 : List (Nat × Instr × Nat) := [(0, .iload_n 1, 1), (1, .ifCond .eq 11, 3), (4, .getstatic 9, 3), (7, .iload_n 0, 1), (8, .iaload, 1), (9, .goto 8, 3), (12, .getstatic 15, 3), (15, .iload_n 0, 1), (16, .iaload, 1), (17, .ireturn, 1)]
theorem tk30 : tb30.all (fun q => decide (fetch 30 q.1 = some q.2)) = true := by decide +kernel
theorem f30_0 : fetch 30 0 = some (.iload_n 1, 1) := vtab tk30 0 rfl
theorem e30_0 (l0 : Option Value) (L : VL) (st : List Value) (h : VG) (x : Int32) : ev 30 0 (l0 :: some (.int x) :: L) (st) h = ev 30 1 (l0 :: some (.int x) :: L) (.int x :: st) h := G_iload_n f30_0 rfl
theorem f30_1 : fetch 30 1 = some (.ifCond .eq 11, 3) := vtab tk30 1 rfl
theorem e30_1 (L : VL) (st : List Value) (h : VG) (x : Int32) : ev 30 1 L (.int x :: st) h = if x = 0 then ev 30 12 L st h else ev 30 4 L st h := G_if_eq f30_1 (by decide)
theorem f30_4 : fetch 30 4 = some (.getstatic 9, 3) := vtab tk30 2 rfl
theorem e30_4 (L : VL) (st : List Value) (h : VG) : ev 30 4 L (st) h = ev 30 7 L (h.2.2.2 1 :: st) h := G_gets (p := 597) f30_4 lkS_4_9
theorem f30_7 : fetch 30 7 = some (.iload_n 0, 1) := vtab tk30 3 rfl
theorem e30_7 (L : VL) (st : List Value) (h : VG) (x : Int32) : ev 30 7 (some (.int x) :: L) (st) h = ev 30 8 (some (.int x) :: L) (.int x :: st) h := G_iload_n f30_7 rfl
theorem f30_8 : fetch 30 8 = some (.iaload, 1) := vtab tk30 4 rfl
theorem e30_8 (L : VL) (st : List Value) (h : VG) (a : Nat) (i : Int32) (ha : rdI h a) (hi : vp_in i (aln h a)) : ev 30 8 L (.int i :: .ref a :: st) h = ev 30 9 L (.int (aI h a i.toNatClampNeg) :: st) h := G_iald' f30_8 ha hi
theorem f30_9 : fetch 30 9 = some (.goto 8, 3) := vtab tk30 5 rfl
theorem e30_9 (L : VL) (st : List Value) (h : VG) : ev 30 9 L (st) h = ev 30 17 L (st) h := G_goto f30_9 (by decide)
theorem f30_12 : fetch 30 12 = some (.getstatic 15, 3) := vtab tk30 6 rfl
theorem e30_12 (L : VL) (st : List Value) (h : VG) : ev 30 12 L (st) h = ev 30 15 L (h.2.2.2 0 :: st) h := G_gets (p := 599) f30_12 lkS_4_15
theorem f30_15 : fetch 30 15 = some (.iload_n 0, 1) := vtab tk30 7 rfl
theorem e30_15 (L : VL) (st : List Value) (h : VG) (x : Int32) : ev 30 15 (some (.int x) :: L) (st) h = ev 30 16 (some (.int x) :: L) (.int x :: st) h := G_iload_n f30_15 rfl
theorem f30_16 : fetch 30 16 = some (.iaload, 1) := vtab tk30 8 rfl
theorem e30_16 (L : VL) (st : List Value) (h : VG) (a : Nat) (i : Int32) (ha : rdI h a) (hi : vp_in i (aln h a)) : ev 30 16 L (.int i :: .ref a :: st) h = ev 30 17 L (.int (aI h a i.toNatClampNeg) :: st) h := G_iald' f30_16 ha hi
theorem f30_17 : fetch 30 17 = some (.ireturn, 1) := vtab tk30 9 rfl
theorem e30_17 (L : VL) (h : VG) (x : Int32) : ev 30 17 L [.int x] h = some (some (.int x), h) := G_iret f30_17 (ty := .int) (by decide) rfl
/-! 31 GuestCalls$Kinds.multipleOf(IZ)I -/
def tb31 : List (Nat × Instr × Nat) := [(0, .iload_n 1, 1), (1, .ifCond .eq 11, 3), (4, .getstatic 9, 3), (7, .iload_n 0, 1), (8, .iaload, 1), (9, .goto 12, 3), (12, .getstatic 15, 3), (15, .iload_n 0, 1), (16, .iaload, 1), (17, .iconst 4, 1), (18, .invokestatic 18, 3), (21, .ireturn, 1)]
theorem tk31 : tb31.all (fun q => decide (fetch 31 q.1 = some q.2)) = true := by decide +kernel
theorem f31_0 : fetch 31 0 = some (.iload_n 1, 1) := vtab tk31 0 rfl
theorem e31_0 (l0 : Option Value) (L : VL) (st : List Value) (h : VG) (x : Int32) : ev 31 0 (l0 :: some (.int x) :: L) (st) h = ev 31 1 (l0 :: some (.int x) :: L) (.int x :: st) h := G_iload_n f31_0 rfl
theorem f31_1 : fetch 31 1 = some (.ifCond .eq 11, 3) := vtab tk31 1 rfl
theorem e31_1 (L : VL) (st : List Value) (h : VG) (x : Int32) : ev 31 1 L (.int x :: st) h = if x = 0 then ev 31 12 L st h else ev 31 4 L st h := G_if_eq f31_1 (by decide)
theorem f31_4 : fetch 31 4 = some (.getstatic 9, 3) := vtab tk31 2 rfl
theorem e31_4 (L : VL) (st : List Value) (h : VG) : ev 31 4 L (st) h = ev 31 7 L (h.2.2.2 1 :: st) h := G_gets (p := 597) f31_4 lkS_4_9
theorem f31_7 : fetch 31 7 = some (.iload_n 0, 1) := vtab tk31 3 rfl
theorem e31_7 (L : VL) (st : List Value) (h : VG) (x : Int32) : ev 31 7 (some (.int x) :: L) (st) h = ev 31 8 (some (.int x) :: L) (.int x :: st) h := G_iload_n f31_7 rfl
theorem f31_8 : fetch 31 8 = some (.iaload, 1) := vtab tk31 4 rfl
theorem e31_8 (L : VL) (st : List Value) (h : VG) (a : Nat) (i : Int32) (ha : rdI h a) (hi : vp_in i (aln h a)) : ev 31 8 L (.int i :: .ref a :: st) h = ev 31 9 L (.int (aI h a i.toNatClampNeg) :: st) h := G_iald' f31_8 ha hi
theorem f31_9 : fetch 31 9 = some (.goto 12, 3) := vtab tk31 5 rfl
theorem e31_9 (L : VL) (st : List Value) (h : VG) : ev 31 9 L (st) h = ev 31 21 L (st) h := G_goto f31_9 (by decide)
theorem f31_12 : fetch 31 12 = some (.getstatic 15, 3) := vtab tk31 6 rfl
theorem e31_12 (L : VL) (st : List Value) (h : VG) : ev 31 12 L (st) h = ev 31 15 L (h.2.2.2 0 :: st) h := G_gets (p := 599) f31_12 lkS_4_15
theorem f31_15 : fetch 31 15 = some (.iload_n 0, 1) := vtab tk31 7 rfl
theorem e31_15 (L : VL) (st : List Value) (h : VG) (x : Int32) : ev 31 15 (some (.int x) :: L) (st) h = ev 31 16 (some (.int x) :: L) (.int x :: st) h := G_iload_n f31_15 rfl
theorem f31_16 : fetch 31 16 = some (.iaload, 1) := vtab tk31 8 rfl
theorem e31_16 (L : VL) (st : List Value) (h : VG) (a : Nat) (i : Int32) (ha : rdI h a) (hi : vp_in i (aln h a)) : ev 31 16 L (.int i :: .ref a :: st) h = ev 31 17 L (.int (aI h a i.toNatClampNeg) :: st) h := G_iald' f31_16 ha hi
theorem f31_17 : fetch 31 17 = some (.iconst 4, 1) := vtab tk31 9 rfl
theorem e31_17 (L : VL) (st : List Value) (h : VG) : ev 31 17 L (st) h = ev 31 18 L (.int (4 : Int32) :: st) h := G_iconst f31_17 (by decide)
theorem f31_18 : fetch 31 18 = some (.invokestatic 18, 3) := vtab tk31 10 rfl
theorem e31_18 (L : VL) (st : List Value) (h : VG) (x y : Int32) (hs : catS st ≤ 8) : ev 31 18 L (.int y :: .int x :: st) h = ev 31 21 L (.int (if y < x then y else x) :: st) h := G_mmin (q := 0) (p := 601) f31_18 lkC_4_18 hs
theorem f31_21 : fetch 31 21 = some (.ireturn, 1) := vtab tk31 11 rfl
theorem e31_21 (L : VL) (h : VG) (x : Int32) : ev 31 21 L [.int x] h = some (some (.int x), h) := G_iret f31_21 (ty := .int) (by decide) rfl
/-! 32 GuestCalls$Kinds.nextMultiple(II)I -/
def tb32 : List (Nat × Instr × Nat) := [(0, .iload_n 1, 1), (1, .iconst 1, 1), (2, .if_icmp .ge 7, 3), (5, .iload_n 0, 1), (6, .goto 12, 3), (9, .iload_n 0, 1), (10, .iload_n 1, 1), (11, .iadd, 1), (12, .iconst 1, 1), (13, .isub, 1), (14, .iload_n 1, 1), (15, .idiv, 1), (16, .iload_n 1, 1), (17, .imul, 1), (18, .ireturn, 1)]
theorem tk32 : tb32.all (fun q => decide (fetch 32 q.1 = some q.2)) = true := by decide +kernel
theorem f32_0 : fetch 32 0 = some (.iload_n 1, 1) := vtab tk32 0 rfl
theorem e32_0 (l0 : Option Value) (L : VL) (st : List Value) (h : VG) (x : Int32) : ev 32 0 (l0 :: some (.int x) :: L) (st) h = ev 32 1 (l0 :: some (.int x) :: L) (.int x :: st) h := G_iload_n f32_0 rfl
theorem f32_1 : fetch 32 1 = some (.iconst 1, 1) := vtab tk32 1 rfl
theorem e32_1 (L : VL) (st : List Value) (h : VG) : ev 32 1 L (st) h = ev 32 2 L (.int (1 : Int32) :: st) h := G_iconst f32_1 (by decide)
theorem f32_2 : fetch 32 2 = some (.if_icmp .ge 7, 3) := vtab tk32 2 rfl
theorem e32_2 (L : VL) (st : List Value) (h : VG) (x y : Int32) : ev 32 2 L (.int y :: .int x :: st) h = if x < y then ev 32 5 L st h else ev 32 9 L st h := G_icmp_ge f32_2 (by decide)
theorem f32_5 : fetch 32 5 = some (.iload_n 0, 1) := vtab tk32 3 rfl
theorem e32_5 (L : VL) (st : List Value) (h : VG) (x : Int32) : ev 32 5 (some (.int x) :: L) (st) h = ev 32 6 (some (.int x) :: L) (.int x :: st) h := G_iload_n f32_5 rfl
theorem f32_6 : fetch 32 6 = some (.goto 12, 3) := vtab tk32 4 rfl
theorem e32_6 (L : VL) (st : List Value) (h : VG) : ev 32 6 L (st) h = ev 32 18 L (st) h := G_goto f32_6 (by decide)
theorem f32_9 : fetch 32 9 = some (.iload_n 0, 1) := vtab tk32 5 rfl
theorem e32_9 (L : VL) (st : List Value) (h : VG) (x : Int32) : ev 32 9 (some (.int x) :: L) (st) h = ev 32 10 (some (.int x) :: L) (.int x :: st) h := G_iload_n f32_9 rfl
theorem f32_10 : fetch 32 10 = some (.iload_n 1, 1) := vtab tk32 6 rfl
theorem e32_10 (l0 : Option Value) (L : VL) (st : List Value) (h : VG) (x : Int32) : ev 32 10 (l0 :: some (.int x) :: L) (st) h = ev 32 11 (l0 :: some (.int x) :: L) (.int x :: st) h := G_iload_n f32_10 rfl
theorem f32_11 : fetch 32 11 = some (.iadd, 1) := vtab tk32 7 rfl
theorem e32_11 (L : VL) (st : List Value) (h : VG) (x y : Int32) : ev 32 11 L (.int y :: .int x :: st) h = ev 32 12 L (.int (x + y) :: st) h := G_iadd f32_11
theorem f32_12 : fetch 32 12 = some (.iconst 1, 1) := vtab tk32 8 rfl
theorem e32_12 (L : VL) (st : List Value) (h : VG) : ev 32 12 L (st) h = ev 32 13 L (.int (1 : Int32) :: st) h := G_iconst f32_12 (by decide)
theorem f32_13 : fetch 32 13 = some (.isub, 1) := vtab tk32 9 rfl
theorem e32_13 (L : VL) (st : List Value) (h : VG) (x y : Int32) : ev 32 13 L (.int y :: .int x :: st) h = ev 32 14 L (.int (x - y) :: st) h := G_isub f32_13
theorem f32_14 : fetch 32 14 = some (.iload_n 1, 1) := vtab tk32 10 rfl
theorem e32_14 (l0 : Option Value) (L : VL) (st : List Value) (h : VG) (x : Int32) : ev 32 14 (l0 :: some (.int x) :: L) (st) h = ev 32 15 (l0 :: some (.int x) :: L) (.int x :: st) h := G_iload_n f32_14 rfl
theorem f32_15 : fetch 32 15 = some (.idiv, 1) := vtab tk32 11 rfl
theorem e32_15 (L : VL) (st : List Value) (h : VG) (x y : Int32) (hy : ¬ y = 0) : ev 32 15 L (.int y :: .int x :: st) h = ev 32 16 L (.int (x / y) :: st) h := G_idiv f32_15 hy
theorem f32_16 : fetch 32 16 = some (.iload_n 1, 1) := vtab tk32 12 rfl
theorem e32_16 (l0 : Option Value) (L : VL) (st : List Value) (h : VG) (x : Int32) : ev 32 16 (l0 :: some (.int x) :: L) (st) h = ev 32 17 (l0 :: some (.int x) :: L) (.int x :: st) h := G_iload_n f32_16 rfl
theorem f32_17 : fetch 32 17 = some (.imul, 1) := vtab tk32 13 rfl
theorem e32_17 (L : VL) (st : List Value) (h : VG) (x y : Int32) : ev 32 17 L (.int y :: .int x :: st) h = ev 32 18 L (.int (x * y) :: st) h := G_imul f32_17
theorem f32_18 : fetch 32 18 = some (.ireturn, 1) := vtab tk32 14 rfl
theorem e32_18 (L : VL) (h : VG) (x : Int32) : ev 32 18 L [.int x] h = some (some (.int x), h) := G_iret f32_18 (ty := .int) (by decide) rfl
/-! 33 GuestCalls$Kinds.onRow(I)I -/
def tb33 : List (Nat × Instr × Nat) := [(0, .iload_n 0, 1), (1, .bipush 8, 2), (3, .if_icmp .eq 9, 3), (6, .iload_n 0, 1), (7, .bipush 9, 2), (9, .if_icmp .ne 7, 3), (12, .iconst 5, 1), (13, .goto 4, 3), (16, .iload_n 0, 1), (17, .ireturn, 1)]
theorem tk33 : tb33.all (fun q => decide (fetch 33 q.1 = some q.2)) = true := by decide +kernel
theorem f33_0 : fetch 33 0 = some (.iload_n 0, 1) := vtab tk33 0 rfl
theorem e33_0 (L : VL) (st : List Value) (h : VG) (x : Int32) : ev 33 0 (some (.int x) :: L) (st) h = ev 33 1 (some (.int x) :: L) (.int x :: st) h := G_iload_n f33_0 rfl
theorem f33_1 : fetch 33 1 = some (.bipush 8, 2) := vtab tk33 1 rfl
theorem e33_1 (L : VL) (st : List Value) (h : VG) : ev 33 1 L (st) h = ev 33 3 L (.int (8 : Int32) :: st) h := G_bipush f33_1 (by decide)
theorem f33_3 : fetch 33 3 = some (.if_icmp .eq 9, 3) := vtab tk33 2 rfl
theorem e33_3 (L : VL) (st : List Value) (h : VG) (x y : Int32) : ev 33 3 L (.int y :: .int x :: st) h = if x = y then ev 33 12 L st h else ev 33 6 L st h := G_icmp_eq f33_3 (by decide)
theorem f33_6 : fetch 33 6 = some (.iload_n 0, 1) := vtab tk33 3 rfl
theorem e33_6 (L : VL) (st : List Value) (h : VG) (x : Int32) : ev 33 6 (some (.int x) :: L) (st) h = ev 33 7 (some (.int x) :: L) (.int x :: st) h := G_iload_n f33_6 rfl
theorem f33_7 : fetch 33 7 = some (.bipush 9, 2) := vtab tk33 4 rfl
theorem e33_7 (L : VL) (st : List Value) (h : VG) : ev 33 7 L (st) h = ev 33 9 L (.int (9 : Int32) :: st) h := G_bipush f33_7 (by decide)
theorem f33_9 : fetch 33 9 = some (.if_icmp .ne 7, 3) := vtab tk33 5 rfl
theorem e33_9 (L : VL) (st : List Value) (h : VG) (x y : Int32) : ev 33 9 L (.int y :: .int x :: st) h = if x = y then ev 33 12 L st h else ev 33 16 L st h := G_icmp_ne f33_9 (by decide)
theorem f33_12 : fetch 33 12 = some (.iconst 5, 1) := vtab tk33 6 rfl
theorem e33_12 (L : VL) (st : List Value) (h : VG) : ev 33 12 L (st) h = ev 33 13 L (.int (5 : Int32) :: st) h := G_iconst f33_12 (by decide)
theorem f33_13 : fetch 33 13 = some (.goto 4, 3) := vtab tk33 7 rfl
theorem e33_13 (L : VL) (st : List Value) (h : VG) : ev 33 13 L (st) h = ev 33 17 L (st) h := G_goto f33_13 (by decide)
theorem f33_16 : fetch 33 16 = some (.iload_n 0, 1) := vtab tk33 8 rfl
theorem e33_16 (L : VL) (st : List Value) (h : VG) (x : Int32) : ev 33 16 (some (.int x) :: L) (st) h = ev 33 17 (some (.int x) :: L) (.int x :: st) h := G_iload_n f33_16 rfl
theorem f33_17 : fetch 33 17 = some (.ireturn, 1) := vtab tk33 9 rfl
theorem e33_17 (L : VL) (h : VG) (x : Int32) : ev 33 17 L [.int x] h = some (some (.int x), h) := G_iret f33_17 (ty := .int) (by decide) rfl
/-! 34 GuestCalls$Kinds.widens(II)Z -/
def tb34 : List (Nat × Instr × Nat) := [(0, .iload_n 0, 1), (1, .iload_n 1, 1), (2, .if_icmp .ne 5, 3), (5, .iconst 1, 1), (6, .ireturn, 1), (7, .iload_n 0, 1), (8, .ifCond .eq 18, 3), (11, .iload_n 1, 1), (12, .iconst 2, 1), (13, .if_icmp .eq 13, 3), (16, .iload_n 0, 1), (17, .iconst 2, 1), (18, .if_icmp .ne 10, 3), (21, .iload_n 1, 1), (22, .iconst 3, 1), (23, .if_icmp .ne 5, 3), (26, .iconst 0, 1), (27, .ireturn, 1), (28, .iload_n 0, 1), (29, .iload_n 1, 1), (30, .if_icmp .ge 7, 3), (33, .iconst 1, 1), (34, .goto 4, 3), (37, .iconst 0, 1), (38, .ireturn, 1)]
theorem tk34 : tb34.all (fun q => decide (fetch 34 q.1 = some q.2)) = true := by decide +kernel
theorem f34_0 : fetch 34 0 = some (.iload_n 0, 1) := vtab tk34 0 rfl
theorem e34_0 (L : VL) (st : List Value) (h : VG) (x : Int32) : ev 34 0 (some (.int x) :: L) (st) h = ev 34 1 (some (.int x) :: L) (.int x :: st) h := G_iload_n f34_0 rfl
theorem f34_1 : fetch 34 1 = some (.iload_n 1, 1) := vtab tk34 1 rfl
theorem e34_1 (l0 : Option Value) (L : VL) (st : List Value) (h : VG) (x : Int32) : ev 34 1 (l0 :: some (.int x) :: L) (st) h = ev 34 2 (l0 :: some (.int x) :: L) (.int x :: st) h := G_iload_n f34_1 rfl
theorem f34_2 : fetch 34 2 = some (.if_icmp .ne 5, 3) := vtab tk34 2 rfl
theorem e34_2 (L : VL) (st : List Value) (h : VG) (x y : Int32) : ev 34 2 L (.int y :: .int x :: st) h = if x = y then ev 34 5 L st h else ev 34 7 L st h := G_icmp_ne f34_2 (by decide)
theorem f34_5 : fetch 34 5 = some (.iconst 1, 1) := vtab tk34 3 rfl
theorem e34_5 (L : VL) (st : List Value) (h : VG) : ev 34 5 L (st) h = ev 34 6 L (.int (1 : Int32) :: st) h := G_iconst f34_5 (by decide)
theorem f34_6 : fetch 34 6 = some (.ireturn, 1) := vtab tk34 4 rfl
theorem e34_6 (L : VL) (h : VG) (x : Int32) (hz : x = 0 ∨ x = 1) : ev 34 6 L [.int x] h = some (some (.int x), h) := G_iret f34_6 (ty := .boolean) (by decide) (vbool hz).1
theorem f34_7 : fetch 34 7 = some (.iload_n 0, 1) := vtab tk34 5 rfl
theorem e34_7 (L : VL) (st : List Value) (h : VG) (x : Int32) : ev 34 7 (some (.int x) :: L) (st) h = ev 34 8 (some (.int x) :: L) (.int x :: st) h := G_iload_n f34_7 rfl
theorem f34_8 : fetch 34 8 = some (.ifCond .eq 18, 3) := vtab tk34 6 rfl
theorem e34_8 (L : VL) (st : List Value) (h : VG) (x : Int32) : ev 34 8 L (.int x :: st) h = if x = 0 then ev 34 26 L st h else ev 34 11 L st h := G_if_eq f34_8 (by decide)
theorem f34_11 : fetch 34 11 = some (.iload_n 1, 1) := vtab tk34 7 rfl
theorem e34_11 (l0 : Option Value) (L : VL) (st : List Value) (h : VG) (x : Int32) : ev 34 11 (l0 :: some (.int x) :: L) (st) h = ev 34 12 (l0 :: some (.int x) :: L) (.int x :: st) h := G_iload_n f34_11 rfl
theorem f34_12 : fetch 34 12 = some (.iconst 2, 1) := vtab tk34 8 rfl
theorem e34_12 (L : VL) (st : List Value) (h : VG) : ev 34 12 L (st) h = ev 34 13 L (.int (2 : Int32) :: st) h := G_iconst f34_12 (by decide)
theorem f34_13 : fetch 34 13 = some (.if_icmp .eq 13, 3) := vtab tk34 9 rfl
theorem e34_13 (L : VL) (st : List Value) (h : VG) (x y : Int32) : ev 34 13 L (.int y :: .int x :: st) h = if x = y then ev 34 26 L st h else ev 34 16 L st h := G_icmp_eq f34_13 (by decide)
theorem f34_16 : fetch 34 16 = some (.iload_n 0, 1) := vtab tk34 10 rfl
theorem e34_16 (L : VL) (st : List Value) (h : VG) (x : Int32) : ev 34 16 (some (.int x) :: L) (st) h = ev 34 17 (some (.int x) :: L) (.int x :: st) h := G_iload_n f34_16 rfl
theorem f34_17 : fetch 34 17 = some (.iconst 2, 1) := vtab tk34 11 rfl
theorem e34_17 (L : VL) (st : List Value) (h : VG) : ev 34 17 L (st) h = ev 34 18 L (.int (2 : Int32) :: st) h := G_iconst f34_17 (by decide)
theorem f34_18 : fetch 34 18 = some (.if_icmp .ne 10, 3) := vtab tk34 12 rfl
theorem e34_18 (L : VL) (st : List Value) (h : VG) (x y : Int32) : ev 34 18 L (.int y :: .int x :: st) h = if x = y then ev 34 21 L st h else ev 34 28 L st h := G_icmp_ne f34_18 (by decide)
theorem f34_21 : fetch 34 21 = some (.iload_n 1, 1) := vtab tk34 13 rfl
theorem e34_21 (l0 : Option Value) (L : VL) (st : List Value) (h : VG) (x : Int32) : ev 34 21 (l0 :: some (.int x) :: L) (st) h = ev 34 22 (l0 :: some (.int x) :: L) (.int x :: st) h := G_iload_n f34_21 rfl
theorem f34_22 : fetch 34 22 = some (.iconst 3, 1) := vtab tk34 14 rfl
theorem e34_22 (L : VL) (st : List Value) (h : VG) : ev 34 22 L (st) h = ev 34 23 L (.int (3 : Int32) :: st) h := G_iconst f34_22 (by decide)
theorem f34_23 : fetch 34 23 = some (.if_icmp .ne 5, 3) := vtab tk34 15 rfl
theorem e34_23 (L : VL) (st : List Value) (h : VG) (x y : Int32) : ev 34 23 L (.int y :: .int x :: st) h = if x = y then ev 34 26 L st h else ev 34 28 L st h := G_icmp_ne f34_23 (by decide)
theorem f34_26 : fetch 34 26 = some (.iconst 0, 1) := vtab tk34 16 rfl
theorem e34_26 (L : VL) (st : List Value) (h : VG) : ev 34 26 L (st) h = ev 34 27 L (.int (0 : Int32) :: st) h := G_iconst f34_26 (by decide)
theorem f34_27 : fetch 34 27 = some (.ireturn, 1) := vtab tk34 17 rfl
theorem e34_27 (L : VL) (h : VG) (x : Int32) (hz : x = 0 ∨ x = 1) : ev 34 27 L [.int x] h = some (some (.int x), h) := G_iret f34_27 (ty := .boolean) (by decide) (vbool hz).1
theorem f34_28 : fetch 34 28 = some (.iload_n 0, 1) := vtab tk34 18 rfl
theorem e34_28 (L : VL) (st : List Value) (h : VG) (x : Int32) : ev 34 28 (some (.int x) :: L) (st) h = ev 34 29 (some (.int x) :: L) (.int x :: st) h := G_iload_n f34_28 rfl
theorem f34_29 : fetch 34 29 = some (.iload_n 1, 1) := vtab tk34 19 rfl
theorem e34_29 (l0 : Option Value) (L : VL) (st : List Value) (h : VG) (x : Int32) : ev 34 29 (l0 :: some (.int x) :: L) (st) h = ev 34 30 (l0 :: some (.int x) :: L) (.int x :: st) h := G_iload_n f34_29 rfl
theorem f34_30 : fetch 34 30 = some (.if_icmp .ge 7, 3) := vtab tk34 20 rfl
theorem e34_30 (L : VL) (st : List Value) (h : VG) (x y : Int32) : ev 34 30 L (.int y :: .int x :: st) h = if x < y then ev 34 33 L st h else ev 34 37 L st h := G_icmp_ge f34_30 (by decide)
theorem f34_33 : fetch 34 33 = some (.iconst 1, 1) := vtab tk34 21 rfl
theorem e34_33 (L : VL) (st : List Value) (h : VG) : ev 34 33 L (st) h = ev 34 34 L (.int (1 : Int32) :: st) h := G_iconst f34_33 (by decide)
theorem f34_34 : fetch 34 34 = some (.goto 4, 3) := vtab tk34 22 rfl
theorem e34_34 (L : VL) (st : List Value) (h : VG) : ev 34 34 L (st) h = ev 34 38 L (st) h := G_goto f34_34 (by decide)
theorem f34_37 : fetch 34 37 = some (.iconst 0, 1) := vtab tk34 23 rfl
theorem e34_37 (L : VL) (st : List Value) (h : VG) : ev 34 37 L (st) h = ev 34 38 L (.int (0 : Int32) :: st) h := G_iconst f34_37 (by decide)
theorem f34_38 : fetch 34 38 = some (.ireturn, 1) := vtab tk34 24 rfl
theorem e34_38 (L : VL) (h : VG) (x : Int32) (hz : x = 0 ∨ x = 1) : ev 34 38 L [.int x] h = some (some (.int x), h) := G_iret f34_38 (ty := .boolean) (by decide) (vbool hz).1
/-! 35 GuestCalls$Kinds.fitsInt(J)Z -/
def tb35 : List (Nat × Instr × Nat) := [(0, .lload_n 0, 1), (1, .lload_n 0, 1), (2, .l2i, 1), (3, .i2l, 1), (4, .lcmp, 1), (5, .ifCond .ne 7, 3), (8, .iconst 1, 1), (9, .goto 4, 3), (12, .iconst 0, 1), (13, .ireturn, 1)]
theorem tk35 : tb35.all (fun q => decide (fetch 35 q.1 = some q.2)) = true := by decide +kernel
theorem f35_0 : fetch 35 0 = some (.lload_n 0, 1) := vtab tk35 0 rfl
theorem e35_0 (L : VL) (st : List Value) (h : VG) (x : Int64) : ev 35 0 (some (.long x) :: L) (st) h = ev 35 1 (some (.long x) :: L) (.long x :: st) h := G_lload_n f35_0 rfl
theorem f35_1 : fetch 35 1 = some (.lload_n 0, 1) := vtab tk35 1 rfl
theorem e35_1 (L : VL) (st : List Value) (h : VG) (x : Int64) : ev 35 1 (some (.long x) :: L) (st) h = ev 35 2 (some (.long x) :: L) (.long x :: st) h := G_lload_n f35_1 rfl
theorem f35_2 : fetch 35 2 = some (.l2i, 1) := vtab tk35 2 rfl
theorem e35_2 (L : VL) (st : List Value) (h : VG) (x : Int64) : ev 35 2 L (.long x :: st) h = ev 35 3 L (.int x.toInt32 :: st) h := G_l2i f35_2
theorem f35_3 : fetch 35 3 = some (.i2l, 1) := vtab tk35 3 rfl
theorem e35_3 (L : VL) (st : List Value) (h : VG) (x : Int32) : ev 35 3 L (.int x :: st) h = ev 35 4 L (.long x.toInt64 :: st) h := G_i2l f35_3
theorem f35_4 : fetch 35 4 = some (.lcmp, 1) := vtab tk35 4 rfl
theorem e35_4 (L : VL) (st : List Value) (h : VG) (x y : Int64) : ev 35 4 L (.long y :: .long x :: st) h = ev 35 5 L (.int (lg_cmp x y) :: st) h := G_lcmp f35_4
theorem f35_5 : fetch 35 5 = some (.ifCond .ne 7, 3) := vtab tk35 5 rfl
theorem e35_5 (L : VL) (st : List Value) (h : VG) (x : Int32) : ev 35 5 L (.int x :: st) h = if x = 0 then ev 35 8 L st h else ev 35 12 L st h := G_if_ne f35_5 (by decide)
theorem f35_8 : fetch 35 8 = some (.iconst 1, 1) := vtab tk35 6 rfl
theorem e35_8 (L : VL) (st : List Value) (h : VG) : ev 35 8 L (st) h = ev 35 9 L (.int (1 : Int32) :: st) h := G_iconst f35_8 (by decide)
theorem f35_9 : fetch 35 9 = some (.goto 4, 3) := vtab tk35 7 rfl
theorem e35_9 (L : VL) (st : List Value) (h : VG) : ev 35 9 L (st) h = ev 35 13 L (st) h := G_goto f35_9 (by decide)
theorem f35_12 : fetch 35 12 = some (.iconst 0, 1) := vtab tk35 8 rfl
theorem e35_12 (L : VL) (st : List Value) (h : VG) : ev 35 12 L (st) h = ev 35 13 L (.int (0 : Int32) :: st) h := G_iconst f35_12 (by decide)
theorem f35_13 : fetch 35 13 = some (.ireturn, 1) := vtab tk35 9 rfl
theorem e35_13 (L : VL) (h : VG) (x : Int32) (hz : x = 0 ∨ x = 1) : ev 35 13 L [.int x] h = some (some (.int x), h) := G_iret f35_13 (ty := .boolean) (by decide) (vbool hz).1
/-! 36 GuestCalls$Kinds.extended(IJI)J -/
def tb36 : List (Nat × Instr × Nat) := [(0, .iload_n 0, 1), (1, .iconst 1, 1), (2, .if_icmp .eq 20, 3), (5, .iload_n 0, 1), (6, .iconst 3, 1), (7, .if_icmp .eq 15, 3), (10, .iload_n 0, 1), (11, .iconst 4, 1), (12, .if_icmp .eq 10, 3), (15, .iload_n 0, 1), (16, .iconst 5, 1), (17, .if_icmp .eq 5, 3), (20, .lload_n 1, 1), (21, .lreturn, 1), (22, .bipush 64, 2), (24, .bipush 8, 2), (26, .iload_n 3, 1), (27, .imul, 1), (28, .isub, 1), (29, .istore 4, 2), (31, .lload_n 1, 1), (32, .iload 4, 2), (34, .lshl, 1), (35, .iload 4, 2), (37, .lshr, 1), (38, .lreturn, 1)]
theorem tk36 : tb36.all (fun q => decide (fetch 36 q.1 = some q.2)) = true := by decide +kernel
theorem f36_0 : fetch 36 0 = some (.iload_n 0, 1) := vtab tk36 0 rfl
theorem e36_0 (L : VL) (st : List Value) (h : VG) (x : Int32) : ev 36 0 (some (.int x) :: L) (st) h = ev 36 1 (some (.int x) :: L) (.int x :: st) h := G_iload_n f36_0 rfl
theorem f36_1 : fetch 36 1 = some (.iconst 1, 1) := vtab tk36 1 rfl
theorem e36_1 (L : VL) (st : List Value) (h : VG) : ev 36 1 L (st) h = ev 36 2 L (.int (1 : Int32) :: st) h := G_iconst f36_1 (by decide)
theorem f36_2 : fetch 36 2 = some (.if_icmp .eq 20, 3) := vtab tk36 2 rfl
theorem e36_2 (L : VL) (st : List Value) (h : VG) (x y : Int32) : ev 36 2 L (.int y :: .int x :: st) h = if x = y then ev 36 22 L st h else ev 36 5 L st h := G_icmp_eq f36_2 (by decide)
theorem f36_5 : fetch 36 5 = some (.iload_n 0, 1) := vtab tk36 3 rfl
theorem e36_5 (L : VL) (st : List Value) (h : VG) (x : Int32) : ev 36 5 (some (.int x) :: L) (st) h = ev 36 6 (some (.int x) :: L) (.int x :: st) h := G_iload_n f36_5 rfl
theorem f36_6 : fetch 36 6 = some (.iconst 3, 1) := vtab tk36 4 rfl
theorem e36_6 (L : VL) (st : List Value) (h : VG) : ev 36 6 L (st) h = ev 36 7 L (.int (3 : Int32) :: st) h := G_iconst f36_6 (by decide)
theorem f36_7 : fetch 36 7 = some (.if_icmp .eq 15, 3) := vtab tk36 5 rfl
theorem e36_7 (L : VL) (st : List Value) (h : VG) (x y : Int32) : ev 36 7 L (.int y :: .int x :: st) h = if x = y then ev 36 22 L st h else ev 36 10 L st h := G_icmp_eq f36_7 (by decide)
theorem f36_10 : fetch 36 10 = some (.iload_n 0, 1) := vtab tk36 6 rfl
theorem e36_10 (L : VL) (st : List Value) (h : VG) (x : Int32) : ev 36 10 (some (.int x) :: L) (st) h = ev 36 11 (some (.int x) :: L) (.int x :: st) h := G_iload_n f36_10 rfl
theorem f36_11 : fetch 36 11 = some (.iconst 4, 1) := vtab tk36 7 rfl
theorem e36_11 (L : VL) (st : List Value) (h : VG) : ev 36 11 L (st) h = ev 36 12 L (.int (4 : Int32) :: st) h := G_iconst f36_11 (by decide)
theorem f36_12 : fetch 36 12 = some (.if_icmp .eq 10, 3) := vtab tk36 8 rfl
theorem e36_12 (L : VL) (st : List Value) (h : VG) (x y : Int32) : ev 36 12 L (.int y :: .int x :: st) h = if x = y then ev 36 22 L st h else ev 36 15 L st h := G_icmp_eq f36_12 (by decide)
theorem f36_15 : fetch 36 15 = some (.iload_n 0, 1) := vtab tk36 9 rfl
theorem e36_15 (L : VL) (st : List Value) (h : VG) (x : Int32) : ev 36 15 (some (.int x) :: L) (st) h = ev 36 16 (some (.int x) :: L) (.int x :: st) h := G_iload_n f36_15 rfl
theorem f36_16 : fetch 36 16 = some (.iconst 5, 1) := vtab tk36 10 rfl
theorem e36_16 (L : VL) (st : List Value) (h : VG) : ev 36 16 L (st) h = ev 36 17 L (.int (5 : Int32) :: st) h := G_iconst f36_16 (by decide)
theorem f36_17 : fetch 36 17 = some (.if_icmp .eq 5, 3) := vtab tk36 11 rfl
theorem e36_17 (L : VL) (st : List Value) (h : VG) (x y : Int32) : ev 36 17 L (.int y :: .int x :: st) h = if x = y then ev 36 22 L st h else ev 36 20 L st h := G_icmp_eq f36_17 (by decide)
theorem f36_20 : fetch 36 20 = some (.lload_n 1, 1) := vtab tk36 12 rfl
theorem e36_20 (l0 : Option Value) (L : VL) (st : List Value) (h : VG) (x : Int64) : ev 36 20 (l0 :: some (.long x) :: L) (st) h = ev 36 21 (l0 :: some (.long x) :: L) (.long x :: st) h := G_lload_n f36_20 rfl
theorem f36_21 : fetch 36 21 = some (.lreturn, 1) := vtab tk36 13 rfl
theorem e36_21 (L : VL) (h : VG) (x : Int64) : ev 36 21 L [.long x] h = some (some (.long x), h) := G_lret f36_21 (by decide)
theorem f36_22 : fetch 36 22 = some (.bipush 64, 2) := vtab tk36 14 rfl
theorem e36_22 (L : VL) (st : List Value) (h : VG) : ev 36 22 L (st) h = ev 36 24 L (.int (64 : Int32) :: st) h := G_bipush f36_22 (by decide)
theorem f36_24 : fetch 36 24 = some (.bipush 8, 2) := vtab tk36 15 rfl
theorem e36_24 (L : VL) (st : List Value) (h : VG) : ev 36 24 L (st) h = ev 36 26 L (.int (8 : Int32) :: st) h := G_bipush f36_24 (by decide)
theorem f36_26 : fetch 36 26 = some (.iload_n 3, 1) := vtab tk36 16 rfl
theorem e36_26 (l0 l1 l2 : Option Value) (L : VL) (st : List Value) (h : VG) (x : Int32) : ev 36 26 (l0 :: l1 :: l2 :: some (.int x) :: L) (st) h = ev 36 27 (l0 :: l1 :: l2 :: some (.int x) :: L) (.int x :: st) h := G_iload_n f36_26 rfl
theorem f36_27 : fetch 36 27 = some (.imul, 1) := vtab tk36 17 rfl
theorem e36_27 (L : VL) (st : List Value) (h : VG) (x y : Int32) : ev 36 27 L (.int y :: .int x :: st) h = ev 36 28 L (.int (x * y) :: st) h := G_imul f36_27
theorem f36_28 : fetch 36 28 = some (.isub, 1) := vtab tk36 18 rfl
theorem e36_28 (L : VL) (st : List Value) (h : VG) (x y : Int32) : ev 36 28 L (.int y :: .int x :: st) h = ev 36 29 L (.int (x - y) :: st) h := G_isub f36_28
theorem f36_29 : fetch 36 29 = some (.istore 4, 2) := vtab tk36 19 rfl
theorem e36_29 (l0 l1 l2 l3 l4 : Option Value) (L : VL) (st : List Value) (h : VG) (x : Int32) : ev 36 29 (l0 :: l1 :: l2 :: l3 :: l4 :: L) (.int x :: st) h = ev 36 31 (l0 :: l1 :: l2 :: vkk l3 :: some (.int x) :: L) (st) h := G_istore f36_29 rfl (S1_4 l0 l1 l2 l3 l4 L _)
theorem f36_31 : fetch 36 31 = some (.lload_n 1, 1) := vtab tk36 20 rfl
theorem e36_31 (l0 : Option Value) (L : VL) (st : List Value) (h : VG) (x : Int64) : ev 36 31 (l0 :: some (.long x) :: L) (st) h = ev 36 32 (l0 :: some (.long x) :: L) (.long x :: st) h := G_lload_n f36_31 rfl
theorem f36_32 : fetch 36 32 = some (.iload 4, 2) := vtab tk36 21 rfl
theorem e36_32 (l0 l1 l2 l3 : Option Value) (L : VL) (st : List Value) (h : VG) (x : Int32) : ev 36 32 (l0 :: l1 :: l2 :: l3 :: some (.int x) :: L) (st) h = ev 36 34 (l0 :: l1 :: l2 :: l3 :: some (.int x) :: L) (.int x :: st) h := G_iload f36_32 rfl
theorem f36_34 : fetch 36 34 = some (.lshl, 1) := vtab tk36 22 rfl
theorem e36_34 (L : VL) (st : List Value) (h : VG) (x : Int64) (y : Int32) : ev 36 34 L (.int y :: .long x :: st) h = ev 36 35 L (.long (x <<< (y.toInt64 &&& 63)) :: st) h := G_lshl f36_34
theorem f36_35 : fetch 36 35 = some (.iload 4, 2) := vtab tk36 23 rfl
theorem e36_35 (l0 l1 l2 l3 : Option Value) (L : VL) (st : List Value) (h : VG) (x : Int32) : ev 36 35 (l0 :: l1 :: l2 :: l3 :: some (.int x) :: L) (st) h = ev 36 37 (l0 :: l1 :: l2 :: l3 :: some (.int x) :: L) (.int x :: st) h := G_iload f36_35 rfl
theorem f36_37 : fetch 36 37 = some (.lshr, 1) := vtab tk36 24 rfl
theorem e36_37 (L : VL) (st : List Value) (h : VG) (x : Int64) (y : Int32) : ev 36 37 L (.int y :: .long x :: st) h = ev 36 38 L (.long (x >>> (y.toInt64 &&& 63)) :: st) h := G_lshr f36_37
theorem f36_38 : fetch 36 38 = some (.lreturn, 1) := vtab tk36 25 rfl
theorem e36_38 (L : VL) (h : VG) (x : Int64) : ev 36 38 L [.long x] h = some (some (.long x), h) := G_lret f36_38 (by decide)
/-! 37 GuestCalls$Kinds.made(JI)J -/
def tb37 : List (Nat × Instr × Nat) := [(0, .iload_n 2, 1), (1, .tableswitch 88 0 7 #[47, 59, 64, 69, 74, 88, 78, 83], 47), (48, .lload_n 0, 1), (49, .lconst 0, 1), (50, .lcmp, 1), (51, .ifCond .eq 7, 3), (54, .lconst 1, 1), (55, .goto 4, 3), (58, .lconst 0, 1), (59, .lreturn, 1), (60, .lload_n 0, 1), (61, .l2i, 1), (62, .i2b, 1), (63, .i2l, 1), (64, .lreturn, 1), (65, .lload_n 0, 1), (66, .l2i, 1), (67, .i2c, 1), (68, .i2l, 1), (69, .lreturn, 1), (70, .lload_n 0, 1), (71, .l2i, 1), (72, .i2s, 1), (73, .i2l, 1), (74, .lreturn, 1), (75, .lload_n 0, 1), (76, .l2i, 1), (77, .i2l, 1), (78, .lreturn, 1), (79, .lload_n 0, 1), (80, .invokestatic 24, 3), (83, .lreturn, 1), (84, .lload_n 0, 1), (85, .invokestatic 28, 3), (88, .lreturn, 1), (89, .lload_n 0, 1), (90, .lreturn, 1)]
theorem tk37 : tb37.all (fun q => decide (fetch 37 q.1 = some q.2)) = true := by decide +kernel
theorem f37_0 : fetch 37 0 = some (.iload_n 2, 1) := vtab tk37 0 rfl
theorem e37_0 (l0 l1 : Option Value) (L : VL) (st : List Value) (h : VG) (x : Int32) : ev 37 0 (l0 :: l1 :: some (.int x) :: L) (st) h = ev 37 1 (l0 :: l1 :: some (.int x) :: L) (.int x :: st) h := G_iload_n f37_0 rfl
theorem f37_1 : fetch 37 1 = some (.tableswitch 88 0 7 #[47, 59, 64, 69, 74, 88, 78, 83], 47) := vtab tk37 1 rfl
theorem e37_1 (L : VL) (st : List Value) (h : VG) (x : Int32) : ev 37 1 L (.int x :: st) h = if x = (0 : Int32) then ev 37 48 L st h else (if x = (1 : Int32) then ev 37 60 L st h else (if x = (2 : Int32) then ev 37 65 L st h else (if x = (3 : Int32) then ev 37 70 L st h else (if x = (4 : Int32) then ev 37 75 L st h else (if x = (5 : Int32) then ev 37 89 L st h else (if x = (6 : Int32) then ev 37 79 L st h else (if x = (7 : Int32) then ev 37 84 L st h else (ev 37 89 L st h)))))))) := (G_tsw f37_1 (by decide) (by decide) (by decide)).trans rfl
theorem f37_48 : fetch 37 48 = some (.lload_n 0, 1) := vtab tk37 2 rfl
theorem e37_48 (L : VL) (st : List Value) (h : VG) (x : Int64) : ev 37 48 (some (.long x) :: L) (st) h = ev 37 49 (some (.long x) :: L) (.long x :: st) h := G_lload_n f37_48 rfl
theorem f37_49 : fetch 37 49 = some (.lconst 0, 1) := vtab tk37 3 rfl
theorem e37_49 (L : VL) (st : List Value) (h : VG) : ev 37 49 L (st) h = ev 37 50 L (.long 0 :: st) h := G_lconst f37_49 (by decide)
theorem f37_50 : fetch 37 50 = some (.lcmp, 1) := vtab tk37 4 rfl
theorem e37_50 (L : VL) (st : List Value) (h : VG) (x y : Int64) : ev 37 50 L (.long y :: .long x :: st) h = ev 37 51 L (.int (lg_cmp x y) :: st) h := G_lcmp f37_50
theorem f37_51 : fetch 37 51 = some (.ifCond .eq 7, 3) := vtab tk37 5 rfl
theorem e37_51 (L : VL) (st : List Value) (h : VG) (x : Int32) : ev 37 51 L (.int x :: st) h = if x = 0 then ev 37 58 L st h else ev 37 54 L st h := G_if_eq f37_51 (by decide)
theorem f37_54 : fetch 37 54 = some (.lconst 1, 1) := vtab tk37 6 rfl
theorem e37_54 (L : VL) (st : List Value) (h : VG) : ev 37 54 L (st) h = ev 37 55 L (.long 1 :: st) h := G_lconst f37_54 (by decide)
theorem f37_55 : fetch 37 55 = some (.goto 4, 3) := vtab tk37 7 rfl
theorem e37_55 (L : VL) (st : List Value) (h : VG) : ev 37 55 L (st) h = ev 37 59 L (st) h := G_goto f37_55 (by decide)
theorem f37_58 : fetch 37 58 = some (.lconst 0, 1) := vtab tk37 8 rfl
theorem e37_58 (L : VL) (st : List Value) (h : VG) : ev 37 58 L (st) h = ev 37 59 L (.long 0 :: st) h := G_lconst f37_58 (by decide)
theorem f37_59 : fetch 37 59 = some (.lreturn, 1) := vtab tk37 9 rfl
theorem e37_59 (L : VL) (h : VG) (x : Int64) : ev 37 59 L [.long x] h = some (some (.long x), h) := G_lret f37_59 (by decide)
theorem f37_60 : fetch 37 60 = some (.lload_n 0, 1) := vtab tk37 10 rfl
theorem e37_60 (L : VL) (st : List Value) (h : VG) (x : Int64) : ev 37 60 (some (.long x) :: L) (st) h = ev 37 61 (some (.long x) :: L) (.long x :: st) h := G_lload_n f37_60 rfl
theorem f37_61 : fetch 37 61 = some (.l2i, 1) := vtab tk37 11 rfl
theorem e37_61 (L : VL) (st : List Value) (h : VG) (x : Int64) : ev 37 61 L (.long x :: st) h = ev 37 62 L (.int x.toInt32 :: st) h := G_l2i f37_61
theorem f37_62 : fetch 37 62 = some (.i2b, 1) := vtab tk37 12 rfl
theorem e37_62 (L : VL) (st : List Value) (h : VG) (x : Int32) : ev 37 62 L (.int x :: st) h = ev 37 63 L (.int x.toInt8.toInt32 :: st) h := G_i2b f37_62
theorem f37_63 : fetch 37 63 = some (.i2l, 1) := vtab tk37 13 rfl
theorem e37_63 (L : VL) (st : List Value) (h : VG) (x : Int32) : ev 37 63 L (.int x :: st) h = ev 37 64 L (.long x.toInt64 :: st) h := G_i2l f37_63
theorem f37_64 : fetch 37 64 = some (.lreturn, 1) := vtab tk37 14 rfl
theorem e37_64 (L : VL) (h : VG) (x : Int64) : ev 37 64 L [.long x] h = some (some (.long x), h) := G_lret f37_64 (by decide)
theorem f37_65 : fetch 37 65 = some (.lload_n 0, 1) := vtab tk37 15 rfl
theorem e37_65 (L : VL) (st : List Value) (h : VG) (x : Int64) : ev 37 65 (some (.long x) :: L) (st) h = ev 37 66 (some (.long x) :: L) (.long x :: st) h := G_lload_n f37_65 rfl
theorem f37_66 : fetch 37 66 = some (.l2i, 1) := vtab tk37 16 rfl
theorem e37_66 (L : VL) (st : List Value) (h : VG) (x : Int64) : ev 37 66 L (.long x :: st) h = ev 37 67 L (.int x.toInt32 :: st) h := G_l2i f37_66
theorem f37_67 : fetch 37 67 = some (.i2c, 1) := vtab tk37 17 rfl
theorem e37_67 (L : VL) (st : List Value) (h : VG) (x : Int32) : ev 37 67 L (.int x :: st) h = ev 37 68 L (.int (x.toUInt32 % 65536).toInt32 :: st) h := G_i2c f37_67
theorem f37_68 : fetch 37 68 = some (.i2l, 1) := vtab tk37 18 rfl
theorem e37_68 (L : VL) (st : List Value) (h : VG) (x : Int32) : ev 37 68 L (.int x :: st) h = ev 37 69 L (.long x.toInt64 :: st) h := G_i2l f37_68
theorem f37_69 : fetch 37 69 = some (.lreturn, 1) := vtab tk37 19 rfl
theorem e37_69 (L : VL) (h : VG) (x : Int64) : ev 37 69 L [.long x] h = some (some (.long x), h) := G_lret f37_69 (by decide)
theorem f37_70 : fetch 37 70 = some (.lload_n 0, 1) := vtab tk37 20 rfl
theorem e37_70 (L : VL) (st : List Value) (h : VG) (x : Int64) : ev 37 70 (some (.long x) :: L) (st) h = ev 37 71 (some (.long x) :: L) (.long x :: st) h := G_lload_n f37_70 rfl
theorem f37_71 : fetch 37 71 = some (.l2i, 1) := vtab tk37 21 rfl
theorem e37_71 (L : VL) (st : List Value) (h : VG) (x : Int64) : ev 37 71 L (.long x :: st) h = ev 37 72 L (.int x.toInt32 :: st) h := G_l2i f37_71
theorem f37_72 : fetch 37 72 = some (.i2s, 1) := vtab tk37 22 rfl
theorem e37_72 (L : VL) (st : List Value) (h : VG) (x : Int32) : ev 37 72 L (.int x :: st) h = ev 37 73 L (.int x.toInt16.toInt32 :: st) h := G_i2s f37_72
theorem f37_73 : fetch 37 73 = some (.i2l, 1) := vtab tk37 23 rfl
theorem e37_73 (L : VL) (st : List Value) (h : VG) (x : Int32) : ev 37 73 L (.int x :: st) h = ev 37 74 L (.long x.toInt64 :: st) h := G_i2l f37_73
theorem f37_74 : fetch 37 74 = some (.lreturn, 1) := vtab tk37 24 rfl
theorem e37_74 (L : VL) (h : VG) (x : Int64) : ev 37 74 L [.long x] h = some (some (.long x), h) := G_lret f37_74 (by decide)
theorem f37_75 : fetch 37 75 = some (.lload_n 0, 1) := vtab tk37 25 rfl
theorem e37_75 (L : VL) (st : List Value) (h : VG) (x : Int64) : ev 37 75 (some (.long x) :: L) (st) h = ev 37 76 (some (.long x) :: L) (.long x :: st) h := G_lload_n f37_75 rfl
theorem f37_76 : fetch 37 76 = some (.l2i, 1) := vtab tk37 26 rfl
theorem e37_76 (L : VL) (st : List Value) (h : VG) (x : Int64) : ev 37 76 L (.long x :: st) h = ev 37 77 L (.int x.toInt32 :: st) h := G_l2i f37_76
theorem f37_77 : fetch 37 77 = some (.i2l, 1) := vtab tk37 27 rfl
theorem e37_77 (L : VL) (st : List Value) (h : VG) (x : Int32) : ev 37 77 L (.int x :: st) h = ev 37 78 L (.long x.toInt64 :: st) h := G_i2l f37_77
theorem f37_78 : fetch 37 78 = some (.lreturn, 1) := vtab tk37 28 rfl
theorem e37_78 (L : VL) (h : VG) (x : Int64) : ev 37 78 L [.long x] h = some (some (.long x), h) := G_lret f37_78 (by decide)
theorem f37_79 : fetch 37 79 = some (.lload_n 0, 1) := vtab tk37 29 rfl
theorem e37_79 (L : VL) (st : List Value) (h : VG) (x : Int64) : ev 37 79 (some (.long x) :: L) (st) h = ev 37 80 (some (.long x) :: L) (.long x :: st) h := G_lload_n f37_79 rfl
theorem f37_80 : fetch 37 80 = some (.invokestatic 24, 3) := vtab tk37 30 rfl
theorem e37_80 (L : VL) (st : List Value) (h : VG) (x0 : Int64) (hs : catS st ≤ 8) : ev 37 80 L (.long x0 :: st) h = (ev 42 0 [some (.long x0), none] [] h).bind fun q => ev 37 83 L (q.1.toList ++ st) q.2 := G_calls (k := 0) (p := 746) (ars := [.long x0]) f37_80 lkC_4_24 (by decide) (by decide +kernel) rfl (Nat.le_of_ble_eq_true rfl) hs rfl
theorem f37_83 : fetch 37 83 = some (.lreturn, 1) := vtab tk37 31 rfl
theorem e37_83 (L : VL) (h : VG) (x : Int64) : ev 37 83 L [.long x] h = some (some (.long x), h) := G_lret f37_83 (by decide)
theorem f37_84 : fetch 37 84 = some (.lload_n 0, 1) := vtab tk37 32 rfl
theorem e37_84 (L : VL) (st : List Value) (h : VG) (x : Int64) : ev 37 84 (some (.long x) :: L) (st) h = ev 37 85 (some (.long x) :: L) (.long x :: st) h := G_lload_n f37_84 rfl
theorem f37_85 : fetch 37 85 = some (.invokestatic 28, 3) := vtab tk37 33 rfl
theorem e37_85 (L : VL) (st : List Value) (h : VG) (x0 : Int64) (hs : catS st ≤ 8) : ev 37 85 L (.long x0 :: st) h = (ev 43 0 [some (.long x0), none] [] h).bind fun q => ev 37 88 L (q.1.toList ++ st) q.2 := G_calls (k := 0) (p := 772) (ars := [.long x0]) f37_85 lkC_4_28 (by decide) (by decide +kernel) rfl (Nat.le_of_ble_eq_true rfl) hs rfl
theorem f37_88 : fetch 37 88 = some (.lreturn, 1) := vtab tk37 34 rfl
theorem e37_88 (L : VL) (h : VG) (x : Int64) : ev 37 88 L [.long x] h = some (some (.long x), h) := G_lret f37_88 (by decide)
theorem f37_89 : fetch 37 89 = some (.lload_n 0, 1) := vtab tk37 35 rfl
theorem e37_89 (L : VL) (st : List Value) (h : VG) (x : Int64) : ev 37 89 (some (.long x) :: L) (st) h = ev 37 90 (some (.long x) :: L) (.long x :: st) h := G_lload_n f37_89 rfl
theorem f37_90 : fetch 37 90 = some (.lreturn, 1) := vtab tk37 36 rfl
theorem e37_90 (L : VL) (h : VG) (x : Int64) : ev 37 90 L [.long x] h = some (some (.long x), h) := G_lret f37_90 (by decide)
/-! 38 GuestCalls$Kinds.toldOf(JI)J -/
def tb38 : List (Nat × Instr × Nat) := [(0, .iload_n 2, 1), (1, .lookupswitch 40 #[(6, 27), (7, 35)], 27), (28, .lload_n 0, 1), (29, .invokestatic 31, 3), (32, .invokestatic 34, 3), (35, .lreturn, 1), (36, .lload_n 0, 1), (37, .invokestatic 34, 3), (40, .lreturn, 1), (41, .lload_n 0, 1), (42, .lreturn, 1)]
theorem tk38 : tb38.all (fun q => decide (fetch 38 q.1 = some q.2)) = true := by decide +kernel
theorem f38_0 : fetch 38 0 = some (.iload_n 2, 1) := vtab tk38 0 rfl
theorem e38_0 (l0 l1 : Option Value) (L : VL) (st : List Value) (h : VG) (x : Int32) : ev 38 0 (l0 :: l1 :: some (.int x) :: L) (st) h = ev 38 1 (l0 :: l1 :: some (.int x) :: L) (.int x :: st) h := G_iload_n f38_0 rfl
theorem f38_1 : fetch 38 1 = some (.lookupswitch 40 #[(6, 27), (7, 35)], 27) := vtab tk38 1 rfl
theorem e38_1 (L : VL) (st : List Value) (h : VG) (x : Int32) : ev 38 1 L (.int x :: st) h = if x = (6 : Int32) then ev 38 28 L st h else (if x = (7 : Int32) then ev 38 36 L st h else (ev 38 41 L st h)) := (G_lsw f38_1 (by decide) (by decide) (by decide)).trans rfl
theorem f38_28 : fetch 38 28 = some (.lload_n 0, 1) := vtab tk38 2 rfl
theorem e38_28 (L : VL) (st : List Value) (h : VG) (x : Int64) : ev 38 28 (some (.long x) :: L) (st) h = ev 38 29 (some (.long x) :: L) (.long x :: st) h := G_lload_n f38_28 rfl
theorem f38_29 : fetch 38 29 = some (.invokestatic 31, 3) := vtab tk38 3 rfl
theorem e38_29 (L : VL) (st : List Value) (h : VG) (x0 : Int64) (hs : catS st ≤ 8) : ev 38 29 L (.long x0 :: st) h = (ev 46 0 [some (.long x0), none, none, none, none, none, none, none, none, none] [] h).bind fun q => ev 38 32 L (q.1.toList ++ st) q.2 := G_calls (k := 0) (p := 763) (ars := [.long x0]) f38_29 lkC_4_31 (by decide) (by decide +kernel) rfl (Nat.le_of_ble_eq_true rfl) hs rfl
theorem f38_32 : fetch 38 32 = some (.invokestatic 34, 3) := vtab tk38 4 rfl
theorem e38_32 (L : VL) (st : List Value) (h : VG) (x0 : Int64) (hs : catS st ≤ 8) : ev 38 32 L (.long x0 :: st) h = (ev 48 0 [some (.long x0), none, none, none, none, none, none, none] [] h).bind fun q => ev 38 35 L (q.1.toList ++ st) q.2 := G_calls (k := 0) (p := 779) (ars := [.long x0]) f38_32 lkC_4_34 (by decide) (by decide +kernel) rfl (Nat.le_of_ble_eq_true rfl) hs rfl
theorem f38_35 : fetch 38 35 = some (.lreturn, 1) := vtab tk38 5 rfl
theorem e38_35 (L : VL) (h : VG) (x : Int64) : ev 38 35 L [.long x] h = some (some (.long x), h) := G_lret f38_35 (by decide)
theorem f38_36 : fetch 38 36 = some (.lload_n 0, 1) := vtab tk38 6 rfl
theorem e38_36 (L : VL) (st : List Value) (h : VG) (x : Int64) : ev 38 36 (some (.long x) :: L) (st) h = ev 38 37 (some (.long x) :: L) (.long x :: st) h := G_lload_n f38_36 rfl
theorem f38_37 : fetch 38 37 = some (.invokestatic 34, 3) := vtab tk38 7 rfl
theorem e38_37 (L : VL) (st : List Value) (h : VG) (x0 : Int64) (hs : catS st ≤ 8) : ev 38 37 L (.long x0 :: st) h = (ev 48 0 [some (.long x0), none, none, none, none, none, none, none] [] h).bind fun q => ev 38 40 L (q.1.toList ++ st) q.2 := G_calls (k := 0) (p := 779) (ars := [.long x0]) f38_37 lkC_4_34 (by decide) (by decide +kernel) rfl (Nat.le_of_ble_eq_true rfl) hs rfl
theorem f38_40 : fetch 38 40 = some (.lreturn, 1) := vtab tk38 8 rfl
theorem e38_40 (L : VL) (h : VG) (x : Int64) : ev 38 40 L [.long x] h = some (some (.long x), h) := G_lret f38_40 (by decide)
theorem f38_41 : fetch 38 41 = some (.lload_n 0, 1) := vtab tk38 9 rfl
theorem e38_41 (L : VL) (st : List Value) (h : VG) (x : Int64) : ev 38 41 (some (.long x) :: L) (st) h = ev 38 42 (some (.long x) :: L) (.long x :: st) h := G_lload_n f38_41 rfl
theorem f38_42 : fetch 38 42 = some (.lreturn, 1) := vtab tk38 10 rfl
theorem e38_42 (L : VL) (h : VG) (x : Int64) : ev 38 42 L [.long x] h = some (some (.long x), h) := G_lret f38_42 (by decide)
/-! 39 GuestCalls$Kinds.widened(JII)J -/
def tb39 : List (Nat × Instr × Nat) := [(0, .iload_n 2, 1), (1, .iload_n 3, 1), (2, .if_icmp .eq 9, 3), (5, .iload_n 3, 1), (6, .bipush 6, 2), (8, .if_icmp .ge 5, 3), (11, .lload_n 0, 1), (12, .lreturn, 1), (13, .iload_n 3, 1), (14, .bipush 6, 2), (16, .if_icmp .ne 8, 3), (19, .lload_n 0, 1), (20, .invokestatic 24, 3), (23, .lreturn, 1), (24, .iload_n 2, 1), (25, .bipush 6, 2), (27, .if_icmp .ne 10, 3), (30, .lload_n 0, 1), (31, .invokestatic 31, 3), (34, .goto 7, 3), (37, .lload_n 0, 1), (38, .invokestatic 28, 3), (41, .lreturn, 1)]
theorem tk39 : tb39.all (fun q => decide (fetch 39 q.1 = some q.2)) = true := by decide +kernel
theorem f39_0 : fetch 39 0 = some (.iload_n 2, 1) := vtab tk39 0 rfl
theorem e39_0 (l0 l1 : Option Value) (L : VL) (st : List Value) (h : VG) (x : Int32) : ev 39 0 (l0 :: l1 :: some (.int x) :: L) (st) h = ev 39 1 (l0 :: l1 :: some (.int x) :: L) (.int x :: st) h := G_iload_n f39_0 rfl
theorem f39_1 : fetch 39 1 = some (.iload_n 3, 1) := vtab tk39 1 rfl
theorem e39_1 (l0 l1 l2 : Option Value) (L : VL) (st : List Value) (h : VG) (x : Int32) : ev 39 1 (l0 :: l1 :: l2 :: some (.int x) :: L) (st) h = ev 39 2 (l0 :: l1 :: l2 :: some (.int x) :: L) (.int x :: st) h := G_iload_n f39_1 rfl
theorem f39_2 : fetch 39 2 = some (.if_icmp .eq 9, 3) := vtab tk39 2 rfl
theorem e39_2 (L : VL) (st : List Value) (h : VG) (x y : Int32) : ev 39 2 L (.int y :: .int x :: st) h = if x = y then ev 39 11 L st h else ev 39 5 L st h := G_icmp_eq f39_2 (by decide)
theorem f39_5 : fetch 39 5 = some (.iload_n 3, 1) := vtab tk39 3 rfl
theorem e39_5 (l0 l1 l2 : Option Value) (L : VL) (st : List Value) (h : VG) (x : Int32) : ev 39 5 (l0 :: l1 :: l2 :: some (.int x) :: L) (st) h = ev 39 6 (l0 :: l1 :: l2 :: some (.int x) :: L) (.int x :: st) h := G_iload_n f39_5 rfl
theorem f39_6 : fetch 39 6 = some (.bipush 6, 2) := vtab tk39 4 rfl
theorem e39_6 (L : VL) (st : List Value) (h : VG) : ev 39 6 L (st) h = ev 39 8 L (.int (6 : Int32) :: st) h := G_bipush f39_6 (by decide)
theorem f39_8 : fetch 39 8 = some (.if_icmp .ge 5, 3) := vtab tk39 5 rfl
theorem e39_8 (L : VL) (st : List Value) (h : VG) (x y : Int32) : ev 39 8 L (.int y :: .int x :: st) h = if x < y then ev 39 11 L st h else ev 39 13 L st h := G_icmp_ge f39_8 (by decide)
theorem f39_11 : fetch 39 11 = some (.lload_n 0, 1) := vtab tk39 6 rfl
theorem e39_11 (L : VL) (st : List Value) (h : VG) (x : Int64) : ev 39 11 (some (.long x) :: L) (st) h = ev 39 12 (some (.long x) :: L) (.long x :: st) h := G_lload_n f39_11 rfl
theorem f39_12 : fetch 39 12 = some (.lreturn, 1) := vtab tk39 7 rfl
theorem e39_12 (L : VL) (h : VG) (x : Int64) : ev 39 12 L [.long x] h = some (some (.long x), h) := G_lret f39_12 (by decide)
theorem f39_13 : fetch 39 13 = some (.iload_n 3, 1) := vtab tk39 8 rfl
theorem e39_13 (l0 l1 l2 : Option Value) (L : VL) (st : List Value) (h : VG) (x : Int32) : ev 39 13 (l0 :: l1 :: l2 :: some (.int x) :: L) (st) h = ev 39 14 (l0 :: l1 :: l2 :: some (.int x) :: L) (.int x :: st) h := G_iload_n f39_13 rfl
theorem f39_14 : fetch 39 14 = some (.bipush 6, 2) := vtab tk39 9 rfl
theorem e39_14 (L : VL) (st : List Value) (h : VG) : ev 39 14 L (st) h = ev 39 16 L (.int (6 : Int32) :: st) h := G_bipush f39_14 (by decide)
theorem f39_16 : fetch 39 16 = some (.if_icmp .ne 8, 3) := vtab tk39 10 rfl
theorem e39_16 (L : VL) (st : List Value) (h : VG) (x y : Int32) : ev 39 16 L (.int y :: .int x :: st) h = if x = y then ev 39 19 L st h else ev 39 24 L st h := G_icmp_ne f39_16 (by decide)
theorem f39_19 : fetch 39 19 = some (.lload_n 0, 1) := vtab tk39 11 rfl
theorem e39_19 (L : VL) (st : List Value) (h : VG) (x : Int64) : ev 39 19 (some (.long x) :: L) (st) h = ev 39 20 (some (.long x) :: L) (.long x :: st) h := G_lload_n f39_19 rfl
theorem f39_20 : fetch 39 20 = some (.invokestatic 24, 3) := vtab tk39 12 rfl
theorem e39_20 (L : VL) (st : List Value) (h : VG) (x0 : Int64) (hs : catS st ≤ 8) : ev 39 20 L (.long x0 :: st) h = (ev 42 0 [some (.long x0), none] [] h).bind fun q => ev 39 23 L (q.1.toList ++ st) q.2 := G_calls (k := 0) (p := 746) (ars := [.long x0]) f39_20 lkC_4_24 (by decide) (by decide +kernel) rfl (Nat.le_of_ble_eq_true rfl) hs rfl
theorem f39_23 : fetch 39 23 = some (.lreturn, 1) := vtab tk39 13 rfl
theorem e39_23 (L : VL) (h : VG) (x : Int64) : ev 39 23 L [.long x] h = some (some (.long x), h) := G_lret f39_23 (by decide)
theorem f39_24 : fetch 39 24 = some (.iload_n 2, 1) := vtab tk39 14 rfl
theorem e39_24 (l0 l1 : Option Value) (L : VL) (st : List Value) (h : VG) (x : Int32) : ev 39 24 (l0 :: l1 :: some (.int x) :: L) (st) h = ev 39 25 (l0 :: l1 :: some (.int x) :: L) (.int x :: st) h := G_iload_n f39_24 rfl
theorem f39_25 : fetch 39 25 = some (.bipush 6, 2) := vtab tk39 15 rfl
theorem e39_25 (L : VL) (st : List Value) (h : VG) : ev 39 25 L (st) h = ev 39 27 L (.int (6 : Int32) :: st) h := G_bipush f39_25 (by decide)
theorem f39_27 : fetch 39 27 = some (.if_icmp .ne 10, 3) := vtab tk39 16 rfl
theorem e39_27 (L : VL) (st : List Value) (h : VG) (x y : Int32) : ev 39 27 L (.int y :: .int x :: st) h = if x = y then ev 39 30 L st h else ev 39 37 L st h := G_icmp_ne f39_27 (by decide)
theorem f39_30 : fetch 39 30 = some (.lload_n 0, 1) := vtab tk39 17 rfl
theorem e39_30 (L : VL) (st : List Value) (h : VG) (x : Int64) : ev 39 30 (some (.long x) :: L) (st) h = ev 39 31 (some (.long x) :: L) (.long x :: st) h := G_lload_n f39_30 rfl
theorem f39_31 : fetch 39 31 = some (.invokestatic 31, 3) := vtab tk39 18 rfl
theorem e39_31 (L : VL) (st : List Value) (h : VG) (x0 : Int64) (hs : catS st ≤ 8) : ev 39 31 L (.long x0 :: st) h = (ev 46 0 [some (.long x0), none, none, none, none, none, none, none, none, none] [] h).bind fun q => ev 39 34 L (q.1.toList ++ st) q.2 := G_calls (k := 0) (p := 763) (ars := [.long x0]) f39_31 lkC_4_31 (by decide) (by decide +kernel) rfl (Nat.le_of_ble_eq_true rfl) hs rfl
theorem f39_34 : fetch 39 34 = some (.goto 7, 3) := vtab tk39 19 rfl
theorem e39_34 (L : VL) (st : List Value) (h : VG) : ev 39 34 L (st) h = ev 39 41 L (st) h := G_goto f39_34 (by decide)
theorem f39_37 : fetch 39 37 = some (.lload_n 0, 1) := vtab tk39 20 rfl
theorem e39_37 (L : VL) (st : List Value) (h : VG) (x : Int64) : ev 39 37 (some (.long x) :: L) (st) h = ev 39 38 (some (.long x) :: L) (.long x :: st) h := G_lload_n f39_37 rfl
theorem f39_38 : fetch 39 38 = some (.invokestatic 28, 3) := vtab tk39 21 rfl
theorem e39_38 (L : VL) (st : List Value) (h : VG) (x0 : Int64) (hs : catS st ≤ 8) : ev 39 38 L (.long x0 :: st) h = (ev 43 0 [some (.long x0), none] [] h).bind fun q => ev 39 41 L (q.1.toList ++ st) q.2 := G_calls (k := 0) (p := 772) (ars := [.long x0]) f39_38 lkC_4_28 (by decide) (by decide +kernel) rfl (Nat.le_of_ble_eq_true rfl) hs rfl
theorem f39_41 : fetch 39 41 = some (.lreturn, 1) := vtab tk39 22 rfl
theorem e39_41 (L : VL) (h : VG) (x : Int64) : ev 39 41 L [.long x] h = some (some (.long x), h) := G_lret f39_41 (by decide)
/-! 40 GuestCalls$Kinds.isNoNumber(JI)Z -/
def tb40 : List (Nat × Instr × Nat) := [(0, .iload_n 2, 1), (1, .bipush 6, 2), (3, .if_icmp .ne 21, 3), (6, .lload_n 0, 1), (7, .ldc2_w 37, 3), (10, .land, 1), (11, .ldc2_w 39, 3), (14, .lcmp, 1), (15, .ifCond .le 7, 3), (18, .iconst 1, 1), (19, .goto 4, 3), (22, .iconst 0, 1), (23, .ireturn, 1), (24, .iload_n 2, 1), (25, .bipush 7, 2), (27, .if_icmp .ne 19, 3), (30, .lload_n 0, 1), (31, .ldc2_w 43, 3), (34, .land, 1), (35, .ldc2_w 45, 3), (38, .lcmp, 1), (39, .ifCond .le 7, 3), (42, .iconst 1, 1), (43, .goto 4, 3), (46, .iconst 0, 1), (47, .ireturn, 1)]
theorem tk40 : tb40.all (fun q => decide (fetch 40 q.1 = some q.2)) = true := by decide +kernel
theorem f40_0 : fetch 40 0 = some (.iload_n 2, 1) := vtab tk40 0 rfl
theorem e40_0 (l0 l1 : Option Value) (L : VL) (st : List Value) (h : VG) (x : Int32) : ev 40 0 (l0 :: l1 :: some (.int x) :: L) (st) h = ev 40 1 (l0 :: l1 :: some (.int x) :: L) (.int x :: st) h := G_iload_n f40_0 rfl
theorem f40_1 : fetch 40 1 = some (.bipush 6, 2) := vtab tk40 1 rfl
theorem e40_1 (L : VL) (st : List Value) (h : VG) : ev 40 1 L (st) h = ev 40 3 L (.int (6 : Int32) :: st) h := G_bipush f40_1 (by decide)
theorem f40_3 : fetch 40 3 = some (.if_icmp .ne 21, 3) := vtab tk40 2 rfl
theorem e40_3 (L : VL) (st : List Value) (h : VG) (x y : Int32) : ev 40 3 L (.int y :: .int x :: st) h = if x = y then ev 40 6 L st h else ev 40 24 L st h := G_icmp_ne f40_3 (by decide)
theorem f40_6 : fetch 40 6 = some (.lload_n 0, 1) := vtab tk40 3 rfl
theorem e40_6 (L : VL) (st : List Value) (h : VG) (x : Int64) : ev 40 6 (some (.long x) :: L) (st) h = ev 40 7 (some (.long x) :: L) (.long x :: st) h := G_lload_n f40_6 rfl
theorem f40_7 : fetch 40 7 = some (.ldc2_w 37, 3) := vtab tk40 4 rfl
theorem e40_7 (L : VL) (st : List Value) (h : VG) : ev 40 7 L (st) h = ev 40 10 L (.long 2147483647 :: st) h := G_ldc2l (p := 886) f40_7 lkK_4_37
theorem f40_10 : fetch 40 10 = some (.land, 1) := vtab tk40 5 rfl
theorem e40_10 (L : VL) (st : List Value) (h : VG) (x y : Int64) : ev 40 10 L (.long y :: .long x :: st) h = ev 40 11 L (.long (x &&& y) :: st) h := G_land f40_10
theorem f40_11 : fetch 40 11 = some (.ldc2_w 39, 3) := vtab tk40 6 rfl
theorem e40_11 (L : VL) (st : List Value) (h : VG) : ev 40 11 L (st) h = ev 40 14 L (.long 2139095040 :: st) h := G_ldc2l (p := 887) f40_11 lkK_4_39
theorem f40_14 : fetch 40 14 = some (.lcmp, 1) := vtab tk40 7 rfl
theorem e40_14 (L : VL) (st : List Value) (h : VG) (x y : Int64) : ev 40 14 L (.long y :: .long x :: st) h = ev 40 15 L (.int (lg_cmp x y) :: st) h := G_lcmp f40_14
theorem f40_15 : fetch 40 15 = some (.ifCond .le 7, 3) := vtab tk40 8 rfl
theorem e40_15 (L : VL) (st : List Value) (h : VG) (x : Int32) : ev 40 15 L (.int x :: st) h = if x ≤ 0 then ev 40 22 L st h else ev 40 18 L st h := G_if_le f40_15 (by decide)
theorem f40_18 : fetch 40 18 = some (.iconst 1, 1) := vtab tk40 9 rfl
theorem e40_18 (L : VL) (st : List Value) (h : VG) : ev 40 18 L (st) h = ev 40 19 L (.int (1 : Int32) :: st) h := G_iconst f40_18 (by decide)
theorem f40_19 : fetch 40 19 = some (.goto 4, 3) := vtab tk40 10 rfl
theorem e40_19 (L : VL) (st : List Value) (h : VG) : ev 40 19 L (st) h = ev 40 23 L (st) h := G_goto f40_19 (by decide)
theorem f40_22 : fetch 40 22 = some (.iconst 0, 1) := vtab tk40 11 rfl
theorem e40_22 (L : VL) (st : List Value) (h : VG) : ev 40 22 L (st) h = ev 40 23 L (.int (0 : Int32) :: st) h := G_iconst f40_22 (by decide)
theorem f40_23 : fetch 40 23 = some (.ireturn, 1) := vtab tk40 12 rfl
theorem e40_23 (L : VL) (h : VG) (x : Int32) (hz : x = 0 ∨ x = 1) : ev 40 23 L [.int x] h = some (some (.int x), h) := G_iret f40_23 (ty := .boolean) (by decide) (vbool hz).1
theorem f40_24 : fetch 40 24 = some (.iload_n 2, 1) := vtab tk40 13 rfl
theorem e40_24 (l0 l1 : Option Value) (L : VL) (st : List Value) (h : VG) (x : Int32) : ev 40 24 (l0 :: l1 :: some (.int x) :: L) (st) h = ev 40 25 (l0 :: l1 :: some (.int x) :: L) (.int x :: st) h := G_iload_n f40_24 rfl
theorem f40_25 : fetch 40 25 = some (.bipush 7, 2) := vtab tk40 14 rfl
theorem e40_25 (L : VL) (st : List Value) (h : VG) : ev 40 25 L (st) h = ev 40 27 L (.int (7 : Int32) :: st) h := G_bipush f40_25 (by decide)
theorem f40_27 : fetch 40 27 = some (.if_icmp .ne 19, 3) := vtab tk40 15 rfl
theorem e40_27 (L : VL) (st : List Value) (h : VG) (x y : Int32) : ev 40 27 L (.int y :: .int x :: st) h = if x = y then ev 40 30 L st h else ev 40 46 L st h := G_icmp_ne f40_27 (by decide)
theorem f40_30 : fetch 40 30 = some (.lload_n 0, 1) := vtab tk40 16 rfl
theorem e40_30 (L : VL) (st : List Value) (h : VG) (x : Int64) : ev 40 30 (some (.long x) :: L) (st) h = ev 40 31 (some (.long x) :: L) (.long x :: st) h := G_lload_n f40_30 rfl
theorem f40_31 : fetch 40 31 = some (.ldc2_w 43, 3) := vtab tk40 17 rfl
theorem e40_31 (L : VL) (st : List Value) (h : VG) : ev 40 31 L (st) h = ev 40 34 L (.long 9223372036854775807 :: st) h := G_ldc2l (p := 782) f40_31 lkK_4_43
theorem f40_34 : fetch 40 34 = some (.land, 1) := vtab tk40 18 rfl
theorem e40_34 (L : VL) (st : List Value) (h : VG) (x y : Int64) : ev 40 34 L (.long y :: .long x :: st) h = ev 40 35 L (.long (x &&& y) :: st) h := G_land f40_34
theorem f40_35 : fetch 40 35 = some (.ldc2_w 45, 3) := vtab tk40 19 rfl
theorem e40_35 (L : VL) (st : List Value) (h : VG) : ev 40 35 L (st) h = ev 40 38 L (.long 9218868437227405312 :: st) h := G_ldc2l (p := 767) f40_35 lkK_4_45
theorem f40_38 : fetch 40 38 = some (.lcmp, 1) := vtab tk40 20 rfl
theorem e40_38 (L : VL) (st : List Value) (h : VG) (x y : Int64) : ev 40 38 L (.long y :: .long x :: st) h = ev 40 39 L (.int (lg_cmp x y) :: st) h := G_lcmp f40_38
theorem f40_39 : fetch 40 39 = some (.ifCond .le 7, 3) := vtab tk40 21 rfl
theorem e40_39 (L : VL) (st : List Value) (h : VG) (x : Int32) : ev 40 39 L (.int x :: st) h = if x ≤ 0 then ev 40 46 L st h else ev 40 42 L st h := G_if_le f40_39 (by decide)
theorem f40_42 : fetch 40 42 = some (.iconst 1, 1) := vtab tk40 22 rfl
theorem e40_42 (L : VL) (st : List Value) (h : VG) : ev 40 42 L (st) h = ev 40 43 L (.int (1 : Int32) :: st) h := G_iconst f40_42 (by decide)
theorem f40_43 : fetch 40 43 = some (.goto 4, 3) := vtab tk40 23 rfl
theorem e40_43 (L : VL) (st : List Value) (h : VG) : ev 40 43 L (st) h = ev 40 47 L (st) h := G_goto f40_43 (by decide)
theorem f40_46 : fetch 40 46 = some (.iconst 0, 1) := vtab tk40 24 rfl
theorem e40_46 (L : VL) (st : List Value) (h : VG) : ev 40 46 L (st) h = ev 40 47 L (.int (0 : Int32) :: st) h := G_iconst f40_46 (by decide)
theorem f40_47 : fetch 40 47 = some (.ireturn, 1) := vtab tk40 25 rfl
theorem e40_47 (L : VL) (h : VG) (x : Int32) (hz : x = 0 ∨ x = 1) : ev 40 47 L [.int x] h = some (some (.int x), h) := G_iret f40_47 (ty := .boolean) (by decide) (vbool hz).1
/-! 41 GuestCalls$Kinds.isSameDouble(JJ)Z -/
def tb41 : List (Nat × Instr × Nat) := [(0, .lload_n 0, 1), (1, .lload_n 2, 1), (2, .lcmp, 1), (3, .ifCond .eq 15, 3), (6, .lload_n 0, 1), (7, .lload_n 2, 1), (8, .lor, 1), (9, .ldc2_w 43, 3), (12, .land, 1), (13, .lconst 0, 1), (14, .lcmp, 1), (15, .ifCond .ne 7, 3), (18, .iconst 1, 1), (19, .goto 4, 3), (22, .iconst 0, 1), (23, .ireturn, 1)]
theorem tk41 : tb41.all (fun q => decide (fetch 41 q.1 = some q.2)) = true := by decide +kernel
theorem f41_0 : fetch 41 0 = some (.lload_n 0, 1) := vtab tk41 0 rfl
theorem e41_0 (L : VL) (st : List Value) (h : VG) (x : Int64) : ev 41 0 (some (.long x) :: L) (st) h = ev 41 1 (some (.long x) :: L) (.long x :: st) h := G_lload_n f41_0 rfl
theorem f41_1 : fetch 41 1 = some (.lload_n 2, 1) := vtab tk41 1 rfl
theorem e41_1 (l0 l1 : Option Value) (L : VL) (st : List Value) (h : VG) (x : Int64) : ev 41 1 (l0 :: l1 :: some (.long x) :: L) (st) h = ev 41 2 (l0 :: l1 :: some (.long x) :: L) (.long x :: st) h := G_lload_n f41_1 rfl
theorem f41_2 : fetch 41 2 = some (.lcmp, 1) := vtab tk41 2 rfl
theorem e41_2 (L : VL) (st : List Value) (h : VG) (x y : Int64) : ev 41 2 L (.long y :: .long x :: st) h = ev 41 3 L (.int (lg_cmp x y) :: st) h := G_lcmp f41_2
theorem f41_3 : fetch 41 3 = some (.ifCond .eq 15, 3) := vtab tk41 3 rfl
theorem e41_3 (L : VL) (st : List Value) (h : VG) (x : Int32) : ev 41 3 L (.int x :: st) h = if x = 0 then ev 41 18 L st h else ev 41 6 L st h := G_if_eq f41_3 (by decide)
theorem f41_6 : fetch 41 6 = some (.lload_n 0, 1) := vtab tk41 4 rfl
theorem e41_6 (L : VL) (st : List Value) (h : VG) (x : Int64) : ev 41 6 (some (.long x) :: L) (st) h = ev 41 7 (some (.long x) :: L) (.long x :: st) h := G_lload_n f41_6 rfl
theorem f41_7 : fetch 41 7 = some (.lload_n 2, 1) := vtab tk41 5 rfl
theorem e41_7 (l0 l1 : Option Value) (L : VL) (st : List Value) (h : VG) (x : Int64) : ev 41 7 (l0 :: l1 :: some (.long x) :: L) (st) h = ev 41 8 (l0 :: l1 :: some (.long x) :: L) (.long x :: st) h := G_lload_n f41_7 rfl
theorem f41_8 : fetch 41 8 = some (.lor, 1) := vtab tk41 6 rfl
theorem e41_8 (L : VL) (st : List Value) (h : VG) (x y : Int64) : ev 41 8 L (.long y :: .long x :: st) h = ev 41 9 L (.long (x ||| y) :: st) h := G_lor f41_8
theorem f41_9 : fetch 41 9 = some (.ldc2_w 43, 3) := vtab tk41 7 rfl
theorem e41_9 (L : VL) (st : List Value) (h : VG) : ev 41 9 L (st) h = ev 41 12 L (.long 9223372036854775807 :: st) h := G_ldc2l (p := 782) f41_9 lkK_4_43
theorem f41_12 : fetch 41 12 = some (.land, 1) := vtab tk41 8 rfl
theorem e41_12 (L : VL) (st : List Value) (h : VG) (x y : Int64) : ev 41 12 L (.long y :: .long x :: st) h = ev 41 13 L (.long (x &&& y) :: st) h := G_land f41_12
theorem f41_13 : fetch 41 13 = some (.lconst 0, 1) := vtab tk41 9 rfl
theorem e41_13 (L : VL) (st : List Value) (h : VG) : ev 41 13 L (st) h = ev 41 14 L (.long 0 :: st) h := G_lconst f41_13 (by decide)
theorem f41_14 : fetch 41 14 = some (.lcmp, 1) := vtab tk41 10 rfl
theorem e41_14 (L : VL) (st : List Value) (h : VG) (x y : Int64) : ev 41 14 L (.long y :: .long x :: st) h = ev 41 15 L (.int (lg_cmp x y) :: st) h := G_lcmp f41_14
theorem f41_15 : fetch 41 15 = some (.ifCond .ne 7, 3) := vtab tk41 11 rfl
theorem e41_15 (L : VL) (st : List Value) (h : VG) (x : Int32) : ev 41 15 L (.int x :: st) h = if x = 0 then ev 41 18 L st h else ev 41 22 L st h := G_if_ne f41_15 (by decide)
theorem f41_18 : fetch 41 18 = some (.iconst 1, 1) := vtab tk41 12 rfl
theorem e41_18 (L : VL) (st : List Value) (h : VG) : ev 41 18 L (st) h = ev 41 19 L (.int (1 : Int32) :: st) h := G_iconst f41_18 (by decide)
theorem f41_19 : fetch 41 19 = some (.goto 4, 3) := vtab tk41 13 rfl
theorem e41_19 (L : VL) (st : List Value) (h : VG) : ev 41 19 L (st) h = ev 41 23 L (st) h := G_goto f41_19 (by decide)
theorem f41_22 : fetch 41 22 = some (.iconst 0, 1) := vtab tk41 14 rfl
theorem e41_22 (L : VL) (st : List Value) (h : VG) : ev 41 22 L (st) h = ev 41 23 L (.int (0 : Int32) :: st) h := G_iconst f41_22 (by decide)
theorem f41_23 : fetch 41 23 = some (.ireturn, 1) := vtab tk41 15 rfl
theorem e41_23 (L : VL) (h : VG) (x : Int32) (hz : x = 0 ∨ x = 1) : ev 41 23 L [.int x] h = some (some (.int x), h) := G_iret f41_23 (ty := .boolean) (by decide) (vbool hz).1
/-! 42 GuestCalls$Kinds.floatBits(J)J -/
def tb42 : List (Nat × Instr × Nat) := [(0, .lload_n 0, 1), (1, .lconst 0, 1), (2, .lcmp, 1), (3, .ifCond .ge 9, 3), (6, .ldc2_w 47, 3), (9, .goto 4, 3), (12, .lconst 0, 1), (13, .lload_n 0, 1), (14, .bipush 23, 2), (16, .bipush 127, 2), (18, .invokestatic 49, 3), (21, .lor, 1), (22, .lreturn, 1)]
theorem tk42 : tb42.all (fun q => decide (fetch 42 q.1 = some q.2)) = true := by decide +kernel
theorem f42_0 : fetch 42 0 = some (.lload_n 0, 1) := vtab tk42 0 rfl
theorem e42_0 (L : VL) (st : List Value) (h : VG) (x : Int64) : ev 42 0 (some (.long x) :: L) (st) h = ev 42 1 (some (.long x) :: L) (.long x :: st) h := G_lload_n f42_0 rfl
theorem f42_1 : fetch 42 1 = some (.lconst 0, 1) := vtab tk42 1 rfl
theorem e42_1 (L : VL) (st : List Value) (h : VG) : ev 42 1 L (st) h = ev 42 2 L (.long 0 :: st) h := G_lconst f42_1 (by decide)
theorem f42_2 : fetch 42 2 = some (.lcmp, 1) := vtab tk42 2 rfl
theorem e42_2 (L : VL) (st : List Value) (h : VG) (x y : Int64) : ev 42 2 L (.long y :: .long x :: st) h = ev 42 3 L (.int (lg_cmp x y) :: st) h := G_lcmp f42_2
theorem f42_3 : fetch 42 3 = some (.ifCond .ge 9, 3) := vtab tk42 3 rfl
theorem e42_3 (L : VL) (st : List Value) (h : VG) (x : Int32) : ev 42 3 L (.int x :: st) h = if x < 0 then ev 42 6 L st h else ev 42 12 L st h := G_if_ge f42_3 (by decide)
theorem f42_6 : fetch 42 6 = some (.ldc2_w 47, 3) := vtab tk42 4 rfl
theorem e42_6 (L : VL) (st : List Value) (h : VG) : ev 42 6 L (st) h = ev 42 9 L (.long 2147483648 :: st) h := G_ldc2l (p := 749) f42_6 lkK_4_47
theorem f42_9 : fetch 42 9 = some (.goto 4, 3) := vtab tk42 5 rfl
theorem e42_9 (L : VL) (st : List Value) (h : VG) : ev 42 9 L (st) h = ev 42 13 L (st) h := G_goto f42_9 (by decide)
theorem f42_12 : fetch 42 12 = some (.lconst 0, 1) := vtab tk42 6 rfl
theorem e42_12 (L : VL) (st : List Value) (h : VG) : ev 42 12 L (st) h = ev 42 13 L (.long 0 :: st) h := G_lconst f42_12 (by decide)
theorem f42_13 : fetch 42 13 = some (.lload_n 0, 1) := vtab tk42 7 rfl
theorem e42_13 (L : VL) (st : List Value) (h : VG) (x : Int64) : ev 42 13 (some (.long x) :: L) (st) h = ev 42 14 (some (.long x) :: L) (.long x :: st) h := G_lload_n f42_13 rfl
theorem f42_14 : fetch 42 14 = some (.bipush 23, 2) := vtab tk42 8 rfl
theorem e42_14 (L : VL) (st : List Value) (h : VG) : ev 42 14 L (st) h = ev 42 16 L (.int (23 : Int32) :: st) h := G_bipush f42_14 (by decide)
theorem f42_16 : fetch 42 16 = some (.bipush 127, 2) := vtab tk42 9 rfl
theorem e42_16 (L : VL) (st : List Value) (h : VG) : ev 42 16 L (st) h = ev 42 18 L (.int (127 : Int32) :: st) h := G_bipush f42_16 (by decide)
theorem f42_18 : fetch 42 18 = some (.invokestatic 49, 3) := vtab tk42 10 rfl
theorem e42_18 (L : VL) (st : List Value) (h : VG) (x0 : Int64) (x1 : Int32) (x2 : Int32) (hs : catS st ≤ 8) : ev 42 18 L (.int x2 :: .int x1 :: .long x0 :: st) h = (ev 44 0 [some (.long x0), none, some (.int x1), some (.int x2), none, none, none, none, none, none] [] h).bind fun q => ev 42 21 L (q.1.toList ++ st) q.2 := G_calls (k := 0) (p := 750) (ars := [.long x0, .int x1, .int x2]) f42_18 lkC_4_49 (by decide) (by decide +kernel) rfl (Nat.le_of_ble_eq_true rfl) hs rfl
theorem f42_21 : fetch 42 21 = some (.lor, 1) := vtab tk42 11 rfl
theorem e42_21 (L : VL) (st : List Value) (h : VG) (x y : Int64) : ev 42 21 L (.long y :: .long x :: st) h = ev 42 22 L (.long (x ||| y) :: st) h := G_lor f42_21
theorem f42_22 : fetch 42 22 = some (.lreturn, 1) := vtab tk42 12 rfl
theorem e42_22 (L : VL) (h : VG) (x : Int64) : ev 42 22 L [.long x] h = some (some (.long x), h) := G_lret f42_22 (by decide)
/-! 43 GuestCalls$Kinds.doubleBits(J)J -/
def tb43 : List (Nat × Instr × Nat) := [(0, .lload_n 0, 1), (1, .lconst 0, 1), (2, .lcmp, 1), (3, .ifCond .ge 9, 3), (6, .ldc2_w 53, 3), (9, .goto 4, 3), (12, .lconst 0, 1), (13, .lload_n 0, 1), (14, .bipush 52, 2), (16, .sipush 1023, 3), (19, .invokestatic 49, 3), (22, .lor, 1), (23, .lreturn, 1)]
theorem tk43 : tb43.all (fun q => decide (fetch 43 q.1 = some q.2)) = true := by decide +kernel
theorem f43_0 : fetch 43 0 = some (.lload_n 0, 1) := vtab tk43 0 rfl
theorem e43_0 (L : VL) (st : List Value) (h : VG) (x : Int64) : ev 43 0 (some (.long x) :: L) (st) h = ev 43 1 (some (.long x) :: L) (.long x :: st) h := G_lload_n f43_0 rfl
theorem f43_1 : fetch 43 1 = some (.lconst 0, 1) := vtab tk43 1 rfl
theorem e43_1 (L : VL) (st : List Value) (h : VG) : ev 43 1 L (st) h = ev 43 2 L (.long 0 :: st) h := G_lconst f43_1 (by decide)
theorem f43_2 : fetch 43 2 = some (.lcmp, 1) := vtab tk43 2 rfl
theorem e43_2 (L : VL) (st : List Value) (h : VG) (x y : Int64) : ev 43 2 L (.long y :: .long x :: st) h = ev 43 3 L (.int (lg_cmp x y) :: st) h := G_lcmp f43_2
theorem f43_3 : fetch 43 3 = some (.ifCond .ge 9, 3) := vtab tk43 3 rfl
theorem e43_3 (L : VL) (st : List Value) (h : VG) (x : Int32) : ev 43 3 L (.int x :: st) h = if x < 0 then ev 43 6 L st h else ev 43 12 L st h := G_if_ge f43_3 (by decide)
theorem f43_6 : fetch 43 6 = some (.ldc2_w 53, 3) := vtab tk43 4 rfl
theorem e43_6 (L : VL) (st : List Value) (h : VG) : ev 43 6 L (st) h = ev 43 9 L (.long (-9223372036854775808) :: st) h := G_ldc2l (p := 775) f43_6 lkK_4_53
theorem f43_9 : fetch 43 9 = some (.goto 4, 3) := vtab tk43 5 rfl
theorem e43_9 (L : VL) (st : List Value) (h : VG) : ev 43 9 L (st) h = ev 43 13 L (st) h := G_goto f43_9 (by decide)
theorem f43_12 : fetch 43 12 = some (.lconst 0, 1) := vtab tk43 6 rfl
theorem e43_12 (L : VL) (st : List Value) (h : VG) : ev 43 12 L (st) h = ev 43 13 L (.long 0 :: st) h := G_lconst f43_12 (by decide)
theorem f43_13 : fetch 43 13 = some (.lload_n 0, 1) := vtab tk43 7 rfl
theorem e43_13 (L : VL) (st : List Value) (h : VG) (x : Int64) : ev 43 13 (some (.long x) :: L) (st) h = ev 43 14 (some (.long x) :: L) (.long x :: st) h := G_lload_n f43_13 rfl
theorem f43_14 : fetch 43 14 = some (.bipush 52, 2) := vtab tk43 8 rfl
theorem e43_14 (L : VL) (st : List Value) (h : VG) : ev 43 14 L (st) h = ev 43 16 L (.int (52 : Int32) :: st) h := G_bipush f43_14 (by decide)
theorem f43_16 : fetch 43 16 = some (.sipush 1023, 3) := vtab tk43 9 rfl
theorem e43_16 (L : VL) (st : List Value) (h : VG) : ev 43 16 L (st) h = ev 43 19 L (.int (1023 : Int32) :: st) h := G_sipush f43_16 (by decide)
theorem f43_19 : fetch 43 19 = some (.invokestatic 49, 3) := vtab tk43 10 rfl
theorem e43_19 (L : VL) (st : List Value) (h : VG) (x0 : Int64) (x1 : Int32) (x2 : Int32) (hs : catS st ≤ 8) : ev 43 19 L (.int x2 :: .int x1 :: .long x0 :: st) h = (ev 44 0 [some (.long x0), none, some (.int x1), some (.int x2), none, none, none, none, none, none] [] h).bind fun q => ev 43 22 L (q.1.toList ++ st) q.2 := G_calls (k := 0) (p := 750) (ars := [.long x0, .int x1, .int x2]) f43_19 lkC_4_49 (by decide) (by decide +kernel) rfl (Nat.le_of_ble_eq_true rfl) hs rfl
theorem f43_22 : fetch 43 22 = some (.lor, 1) := vtab tk43 11 rfl
theorem e43_22 (L : VL) (st : List Value) (h : VG) (x y : Int64) : ev 43 22 L (.long y :: .long x :: st) h = ev 43 23 L (.long (x ||| y) :: st) h := G_lor f43_22
theorem f43_23 : fetch 43 23 = some (.lreturn, 1) := vtab tk43 12 rfl
theorem e43_23 (L : VL) (h : VG) (x : Int64) : ev 43 23 L [.long x] h = some (some (.long x), h) := G_lret f43_23 (by decide)
/-! 44 GuestCalls$Kinds.nearest(JII)J -/
def tb44 : List (Nat × Instr × Nat) := [(0, .lload_n 0, 1), (1, .lconst 0, 1), (2, .lcmp, 1), (3, .ifCond .ne 5, 3), (6, .lconst 0, 1), (7, .lreturn, 1), (8, .lload_n 0, 1), (9, .lconst 0, 1), (10, .lcmp, 1), (11, .ifCond .ge 8, 3), (14, .lload_n 0, 1), (15, .lneg, 1), (16, .goto 4, 3), (19, .lload_n 0, 1), (20, .lstore 4, 2), (22, .bipush 63, 2), (24, .lload 4, 2), (26, .invokestatic 55, 3), (29, .isub, 1), (30, .istore 6, 2), (32, .iload 6, 2), (34, .iload_n 2, 1), (35, .isub, 1), (36, .istore 7, 2), (38, .iload 7, 2), (40, .ifCond .le 13, 3), (43, .lload 4, 2), (45, .iload 7, 2), (47, .invokestatic 59, 3), (50, .goto 9, 3), (53, .lload 4, 2), (55, .iload 7, 2), (57, .ineg, 1), (58, .lshl, 1), (59, .lstore 8, 2), (61, .iload 6, 2), (63, .iload_n 3, 1), (64, .iadd, 1), (65, .i2l, 1), (66, .iload_n 2, 1), (67, .lshl, 1), (68, .lload 8, 2), (70, .ladd, 1), (71, .lconst 1, 1), (72, .iload_n 2, 1), (73, .lshl, 1), (74, .lsub, 1), (75, .lreturn, 1)]
theorem tk44 : tb44.all (fun q => decide (fetch 44 q.1 = some q.2)) = true := by decide +kernel
theorem f44_0 : fetch 44 0 = some (.lload_n 0, 1) := vtab tk44 0 rfl
theorem e44_0 (L : VL) (st : List Value) (h : VG) (x : Int64) : ev 44 0 (some (.long x) :: L) (st) h = ev 44 1 (some (.long x) :: L) (.long x :: st) h := G_lload_n f44_0 rfl
theorem f44_1 : fetch 44 1 = some (.lconst 0, 1) := vtab tk44 1 rfl
theorem e44_1 (L : VL) (st : List Value) (h : VG) : ev 44 1 L (st) h = ev 44 2 L (.long 0 :: st) h := G_lconst f44_1 (by decide)
theorem f44_2 : fetch 44 2 = some (.lcmp, 1) := vtab tk44 2 rfl
theorem e44_2 (L : VL) (st : List Value) (h : VG) (x y : Int64) : ev 44 2 L (.long y :: .long x :: st) h = ev 44 3 L (.int (lg_cmp x y) :: st) h := G_lcmp f44_2
theorem f44_3 : fetch 44 3 = some (.ifCond .ne 5, 3) := vtab tk44 3 rfl
theorem e44_3 (L : VL) (st : List Value) (h : VG) (x : Int32) : ev 44 3 L (.int x :: st) h = if x = 0 then ev 44 6 L st h else ev 44 8 L st h := G_if_ne f44_3 (by decide)
theorem f44_6 : fetch 44 6 = some (.lconst 0, 1) := vtab tk44 4 rfl
theorem e44_6 (L : VL) (st : List Value) (h : VG) : ev 44 6 L (st) h = ev 44 7 L (.long 0 :: st) h := G_lconst f44_6 (by decide)
theorem f44_7 : fetch 44 7 = some (.lreturn, 1) := vtab tk44 5 rfl
theorem e44_7 (L : VL) (h : VG) (x : Int64) : ev 44 7 L [.long x] h = some (some (.long x), h) := G_lret f44_7 (by decide)
theorem f44_8 : fetch 44 8 = some (.lload_n 0, 1) := vtab tk44 6 rfl
theorem e44_8 (L : VL) (st : List Value) (h : VG) (x : Int64) : ev 44 8 (some (.long x) :: L) (st) h = ev 44 9 (some (.long x) :: L) (.long x :: st) h := G_lload_n f44_8 rfl
theorem f44_9 : fetch 44 9 = some (.lconst 0, 1) := vtab tk44 7 rfl
theorem e44_9 (L : VL) (st : List Value) (h : VG) : ev 44 9 L (st) h = ev 44 10 L (.long 0 :: st) h := G_lconst f44_9 (by decide)
theorem f44_10 : fetch 44 10 = some (.lcmp, 1) := vtab tk44 8 rfl
theorem e44_10 (L : VL) (st : List Value) (h : VG) (x y : Int64) : ev 44 10 L (.long y :: .long x :: st) h = ev 44 11 L (.int (lg_cmp x y) :: st) h := G_lcmp f44_10
theorem f44_11 : fetch 44 11 = some (.ifCond .ge 8, 3) := vtab tk44 9 rfl
theorem e44_11 (L : VL) (st : List Value) (h : VG) (x : Int32) : ev 44 11 L (.int x :: st) h = if x < 0 then ev 44 14 L st h else ev 44 19 L st h := G_if_ge f44_11 (by decide)
theorem f44_14 : fetch 44 14 = some (.lload_n 0, 1) := vtab tk44 10 rfl
theorem e44_14 (L : VL) (st : List Value) (h : VG) (x : Int64) : ev 44 14 (some (.long x) :: L) (st) h = ev 44 15 (some (.long x) :: L) (.long x :: st) h := G_lload_n f44_14 rfl
theorem f44_15 : fetch 44 15 = some (.lneg, 1) := vtab tk44 11 rfl
theorem e44_15 (L : VL) (st : List Value) (h : VG) (x : Int64) : ev 44 15 L (.long x :: st) h = ev 44 16 L (.long (-x) :: st) h := G_lneg f44_15
theorem f44_16 : fetch 44 16 = some (.goto 4, 3) := vtab tk44 12 rfl
theorem e44_16 (L : VL) (st : List Value) (h : VG) : ev 44 16 L (st) h = ev 44 20 L (st) h := G_goto f44_16 (by decide)
theorem f44_19 : fetch 44 19 = some (.lload_n 0, 1) := vtab tk44 13 rfl
theorem e44_19 (L : VL) (st : List Value) (h : VG) (x : Int64) : ev 44 19 (some (.long x) :: L) (st) h = ev 44 20 (some (.long x) :: L) (.long x :: st) h := G_lload_n f44_19 rfl
theorem f44_20 : fetch 44 20 = some (.lstore 4, 2) := vtab tk44 14 rfl
theorem e44_20 (l0 l1 l2 l3 l4 l5 : Option Value) (L : VL) (st : List Value) (h : VG) (x : Int64) : ev 44 20 (l0 :: l1 :: l2 :: l3 :: l4 :: l5 :: L) (.long x :: st) h = ev 44 22 (l0 :: l1 :: l2 :: vkk l3 :: some (.long x) :: none :: L) (st) h := G_lstore f44_20 rfl (S2_4 l0 l1 l2 l3 l4 l5 L _)
theorem f44_22 : fetch 44 22 = some (.bipush 63, 2) := vtab tk44 15 rfl
theorem e44_22 (L : VL) (st : List Value) (h : VG) : ev 44 22 L (st) h = ev 44 24 L (.int (63 : Int32) :: st) h := G_bipush f44_22 (by decide)
theorem f44_24 : fetch 44 24 = some (.lload 4, 2) := vtab tk44 16 rfl
theorem e44_24 (l0 l1 l2 l3 : Option Value) (L : VL) (st : List Value) (h : VG) (x : Int64) : ev 44 24 (l0 :: l1 :: l2 :: l3 :: some (.long x) :: L) (st) h = ev 44 26 (l0 :: l1 :: l2 :: l3 :: some (.long x) :: L) (.long x :: st) h := G_lload f44_24 rfl
theorem f44_26 : fetch 44 26 = some (.invokestatic 55, 3) := vtab tk44 17 rfl
theorem e44_26 (L : VL) (st : List Value) (h : VG) (x0 : Int64) (hs : catS st ≤ 8) : ev 44 26 L (.long x0 :: st) h = (ev 236 0 [some (.long x0), none, none] [] h).bind fun q => ev 44 29 L (q.1.toList ++ st) q.2 := G_calls (k := 0) (p := 753) (ars := [.long x0]) f44_26 lkC_4_55 (by decide) (by decide +kernel) rfl (Nat.le_of_ble_eq_true rfl) hs rfl
theorem f44_29 : fetch 44 29 = some (.isub, 1) := vtab tk44 18 rfl
theorem e44_29 (L : VL) (st : List Value) (h : VG) (x y : Int32) : ev 44 29 L (.int y :: .int x :: st) h = ev 44 30 L (.int (x - y) :: st) h := G_isub f44_29
theorem f44_30 : fetch 44 30 = some (.istore 6, 2) := vtab tk44 19 rfl
theorem e44_30 (l0 l1 l2 l3 l4 l5 l6 : Option Value) (L : VL) (st : List Value) (h : VG) (x : Int32) : ev 44 30 (l0 :: l1 :: l2 :: l3 :: l4 :: l5 :: l6 :: L) (.int x :: st) h = ev 44 32 (l0 :: l1 :: l2 :: l3 :: l4 :: vkk l5 :: some (.int x) :: L) (st) h := G_istore f44_30 rfl (S1_6 l0 l1 l2 l3 l4 l5 l6 L _)
theorem f44_32 : fetch 44 32 = some (.iload 6, 2) := vtab tk44 20 rfl
theorem e44_32 (l0 l1 l2 l3 l4 l5 : Option Value) (L : VL) (st : List Value) (h : VG) (x : Int32) : ev 44 32 (l0 :: l1 :: l2 :: l3 :: l4 :: l5 :: some (.int x) :: L) (st) h = ev 44 34 (l0 :: l1 :: l2 :: l3 :: l4 :: l5 :: some (.int x) :: L) (.int x :: st) h := G_iload f44_32 rfl
theorem f44_34 : fetch 44 34 = some (.iload_n 2, 1) := vtab tk44 21 rfl
theorem e44_34 (l0 l1 : Option Value) (L : VL) (st : List Value) (h : VG) (x : Int32) : ev 44 34 (l0 :: l1 :: some (.int x) :: L) (st) h = ev 44 35 (l0 :: l1 :: some (.int x) :: L) (.int x :: st) h := G_iload_n f44_34 rfl
theorem f44_35 : fetch 44 35 = some (.isub, 1) := vtab tk44 22 rfl
theorem e44_35 (L : VL) (st : List Value) (h : VG) (x y : Int32) : ev 44 35 L (.int y :: .int x :: st) h = ev 44 36 L (.int (x - y) :: st) h := G_isub f44_35
theorem f44_36 : fetch 44 36 = some (.istore 7, 2) := vtab tk44 23 rfl
theorem e44_36 (l0 l1 l2 l3 l4 l5 l6 l7 : Option Value) (L : VL) (st : List Value) (h : VG) (x : Int32) : ev 44 36 (l0 :: l1 :: l2 :: l3 :: l4 :: l5 :: l6 :: l7 :: L) (.int x :: st) h = ev 44 38 (l0 :: l1 :: l2 :: l3 :: l4 :: l5 :: vkk l6 :: some (.int x) :: L) (st) h := G_istore f44_36 rfl (S1_7 l0 l1 l2 l3 l4 l5 l6 l7 L _)
theorem f44_38 : fetch 44 38 = some (.iload 7, 2) := vtab tk44 24 rfl
theorem e44_38 (l0 l1 l2 l3 l4 l5 l6 : Option Value) (L : VL) (st : List Value) (h : VG) (x : Int32) : ev 44 38 (l0 :: l1 :: l2 :: l3 :: l4 :: l5 :: l6 :: some (.int x) :: L) (st) h = ev 44 40 (l0 :: l1 :: l2 :: l3 :: l4 :: l5 :: l6 :: some (.int x) :: L) (.int x :: st) h := G_iload f44_38 rfl
theorem f44_40 : fetch 44 40 = some (.ifCond .le 13, 3) := vtab tk44 25 rfl
theorem e44_40 (L : VL) (st : List Value) (h : VG) (x : Int32) : ev 44 40 L (.int x :: st) h = if x ≤ 0 then ev 44 53 L st h else ev 44 43 L st h := G_if_le f44_40 (by decide)
theorem f44_43 : fetch 44 43 = some (.lload 4, 2) := vtab tk44 26 rfl
theorem e44_43 (l0 l1 l2 l3 : Option Value) (L : VL) (st : List Value) (h : VG) (x : Int64) : ev 44 43 (l0 :: l1 :: l2 :: l3 :: some (.long x) :: L) (st) h = ev 44 45 (l0 :: l1 :: l2 :: l3 :: some (.long x) :: L) (.long x :: st) h := G_lload f44_43 rfl
theorem f44_45 : fetch 44 45 = some (.iload 7, 2) := vtab tk44 27 rfl
theorem e44_45 (l0 l1 l2 l3 l4 l5 l6 : Option Value) (L : VL) (st : List Value) (h : VG) (x : Int32) : ev 44 45 (l0 :: l1 :: l2 :: l3 :: l4 :: l5 :: l6 :: some (.int x) :: L) (st) h = ev 44 47 (l0 :: l1 :: l2 :: l3 :: l4 :: l5 :: l6 :: some (.int x) :: L) (.int x :: st) h := G_iload f44_45 rfl
theorem f44_47 : fetch 44 47 = some (.invokestatic 59, 3) := vtab tk44 28 rfl
theorem e44_47 (L : VL) (st : List Value) (h : VG) (x0 : Int64) (x1 : Int32) (hs : catS st ≤ 8) : ev 44 47 L (.int x1 :: .long x0 :: st) h = (ev 45 0 [some (.long x0), none, some (.int x1), none, none, none, none, none, none] [] h).bind fun q => ev 44 50 L (q.1.toList ++ st) q.2 := G_calls (k := 0) (p := 760) (ars := [.long x0, .int x1]) f44_47 lkC_4_59 (by decide) (by decide +kernel) rfl (Nat.le_of_ble_eq_true rfl) hs rfl
theorem f44_50 : fetch 44 50 = some (.goto 9, 3) := vtab tk44 29 rfl
theorem e44_50 (L : VL) (st : List Value) (h : VG) : ev 44 50 L (st) h = ev 44 59 L (st) h := G_goto f44_50 (by decide)
theorem f44_53 : fetch 44 53 = some (.lload 4, 2) := vtab tk44 30 rfl
theorem e44_53 (l0 l1 l2 l3 : Option Value) (L : VL) (st : List Value) (h : VG) (x : Int64) : ev 44 53 (l0 :: l1 :: l2 :: l3 :: some (.long x) :: L) (st) h = ev 44 55 (l0 :: l1 :: l2 :: l3 :: some (.long x) :: L) (.long x :: st) h := G_lload f44_53 rfl
theorem f44_55 : fetch 44 55 = some (.iload 7, 2) := vtab tk44 31 rfl
theorem e44_55 (l0 l1 l2 l3 l4 l5 l6 : Option Value) (L : VL) (st : List Value) (h : VG) (x : Int32) : ev 44 55 (l0 :: l1 :: l2 :: l3 :: l4 :: l5 :: l6 :: some (.int x) :: L) (st) h = ev 44 57 (l0 :: l1 :: l2 :: l3 :: l4 :: l5 :: l6 :: some (.int x) :: L) (.int x :: st) h := G_iload f44_55 rfl
theorem f44_57 : fetch 44 57 = some (.ineg, 1) := vtab tk44 32 rfl
theorem e44_57 (L : VL) (st : List Value) (h : VG) (x : Int32) : ev 44 57 L (.int x :: st) h = ev 44 58 L (.int (-x) :: st) h := G_ineg f44_57
theorem f44_58 : fetch 44 58 = some (.lshl, 1) := vtab tk44 33 rfl
theorem e44_58 (L : VL) (st : List Value) (h : VG) (x : Int64) (y : Int32) : ev 44 58 L (.int y :: .long x :: st) h = ev 44 59 L (.long (x <<< (y.toInt64 &&& 63)) :: st) h := G_lshl f44_58
theorem f44_59 : fetch 44 59 = some (.lstore 8, 2) := vtab tk44 34 rfl
theorem e44_59 (l0 l1 l2 l3 l4 l5 l6 l7 l8 l9 : Option Value) (L : VL) (st : List Value) (h : VG) (x : Int64) : ev 44 59 (l0 :: l1 :: l2 :: l3 :: l4 :: l5 :: l6 :: l7 :: l8 :: l9 :: L) (.long x :: st) h = ev 44 61 (l0 :: l1 :: l2 :: l3 :: l4 :: l5 :: l6 :: vkk l7 :: some (.long x) :: none :: L) (st) h := G_lstore f44_59 rfl (S2_8 l0 l1 l2 l3 l4 l5 l6 l7 l8 l9 L _)
theorem f44_61 : fetch 44 61 = some (.iload 6, 2) := vtab tk44 35 rfl
theorem e44_61 (l0 l1 l2 l3 l4 l5 : Option Value) (L : VL) (st : List Value) (h : VG) (x : Int32) : ev 44 61 (l0 :: l1 :: l2 :: l3 :: l4 :: l5 :: some (.int x) :: L) (st) h = ev 44 63 (l0 :: l1 :: l2 :: l3 :: l4 :: l5 :: some (.int x) :: L) (.int x :: st) h := G_iload f44_61 rfl
theorem f44_63 : fetch 44 63 = some (.iload_n 3, 1) := vtab tk44 36 rfl
theorem e44_63 (l0 l1 l2 : Option Value) (L : VL) (st : List Value) (h : VG) (x : Int32) : ev 44 63 (l0 :: l1 :: l2 :: some (.int x) :: L) (st) h = ev 44 64 (l0 :: l1 :: l2 :: some (.int x) :: L) (.int x :: st) h := G_iload_n f44_63 rfl
theorem f44_64 : fetch 44 64 = some (.iadd, 1) := vtab tk44 37 rfl
theorem e44_64 (L : VL) (st : List Value) (h : VG) (x y : Int32) : ev 44 64 L (.int y :: .int x :: st) h = ev 44 65 L (.int (x + y) :: st) h := G_iadd f44_64
theorem f44_65 : fetch 44 65 = some (.i2l, 1) := vtab tk44 38 rfl
theorem e44_65 (L : VL) (st : List Value) (h : VG) (x : Int32) : ev 44 65 L (.int x :: st) h = ev 44 66 L (.long x.toInt64 :: st) h := G_i2l f44_65
theorem f44_66 : fetch 44 66 = some (.iload_n 2, 1) := vtab tk44 39 rfl
theorem e44_66 (l0 l1 : Option Value) (L : VL) (st : List Value) (h : VG) (x : Int32) : ev 44 66 (l0 :: l1 :: some (.int x) :: L) (st) h = ev 44 67 (l0 :: l1 :: some (.int x) :: L) (.int x :: st) h := G_iload_n f44_66 rfl
theorem f44_67 : fetch 44 67 = some (.lshl, 1) := vtab tk44 40 rfl
theorem e44_67 (L : VL) (st : List Value) (h : VG) (x : Int64) (y : Int32) : ev 44 67 L (.int y :: .long x :: st) h = ev 44 68 L (.long (x <<< (y.toInt64 &&& 63)) :: st) h := G_lshl f44_67
theorem f44_68 : fetch 44 68 = some (.lload 8, 2) := vtab tk44 41 rfl
theorem e44_68 (l0 l1 l2 l3 l4 l5 l6 l7 : Option Value) (L : VL) (st : List Value) (h : VG) (x : Int64) : ev 44 68 (l0 :: l1 :: l2 :: l3 :: l4 :: l5 :: l6 :: l7 :: some (.long x) :: L) (st) h = ev 44 70 (l0 :: l1 :: l2 :: l3 :: l4 :: l5 :: l6 :: l7 :: some (.long x) :: L) (.long x :: st) h := G_lload f44_68 rfl
theorem f44_70 : fetch 44 70 = some (.ladd, 1) := vtab tk44 42 rfl
theorem e44_70 (L : VL) (st : List Value) (h : VG) (x y : Int64) : ev 44 70 L (.long y :: .long x :: st) h = ev 44 71 L (.long (x + y) :: st) h := G_ladd f44_70
theorem f44_71 : fetch 44 71 = some (.lconst 1, 1) := vtab tk44 43 rfl
theorem e44_71 (L : VL) (st : List Value) (h : VG) : ev 44 71 L (st) h = ev 44 72 L (.long 1 :: st) h := G_lconst f44_71 (by decide)
theorem f44_72 : fetch 44 72 = some (.iload_n 2, 1) := vtab tk44 44 rfl
theorem e44_72 (l0 l1 : Option Value) (L : VL) (st : List Value) (h : VG) (x : Int32) : ev 44 72 (l0 :: l1 :: some (.int x) :: L) (st) h = ev 44 73 (l0 :: l1 :: some (.int x) :: L) (.int x :: st) h := G_iload_n f44_72 rfl
theorem f44_73 : fetch 44 73 = some (.lshl, 1) := vtab tk44 45 rfl
theorem e44_73 (L : VL) (st : List Value) (h : VG) (x : Int64) (y : Int32) : ev 44 73 L (.int y :: .long x :: st) h = ev 44 74 L (.long (x <<< (y.toInt64 &&& 63)) :: st) h := G_lshl f44_73
theorem f44_74 : fetch 44 74 = some (.lsub, 1) := vtab tk44 46 rfl
theorem e44_74 (L : VL) (st : List Value) (h : VG) (x y : Int64) : ev 44 74 L (.long y :: .long x :: st) h = ev 44 75 L (.long (x - y) :: st) h := G_lsub f44_74
theorem f44_75 : fetch 44 75 = some (.lreturn, 1) := vtab tk44 47 rfl
theorem e44_75 (L : VL) (h : VG) (x : Int64) : ev 44 75 L [.long x] h = some (some (.long x), h) := G_lret f44_75 (by decide)
/-! 45 GuestCalls$Kinds.rounded(JI)J -/
def tb45 : List (Nat × Instr × Nat) := [(0, .lload_n 0, 1), (1, .iload_n 2, 1), (2, .lushr, 1), (3, .lstore_n 3, 1), (4, .lload_n 0, 1), (5, .lconst 1, 1), (6, .iload_n 2, 1), (7, .lshl, 1), (8, .lconst 1, 1), (9, .lsub, 1), (10, .land, 1), (11, .lstore 5, 2), (13, .lconst 1, 1), (14, .iload_n 2, 1), (15, .iconst 1, 1), (16, .isub, 1), (17, .lshl, 1), (18, .lstore 7, 2), (20, .lload 5, 2), (22, .lload 7, 2), (24, .lcmp, 1), (25, .ifCond .gt 19, 3), (28, .lload 5, 2), (30, .lload 7, 2), (32, .lcmp, 1), (33, .ifCond .ne 17, 3), (36, .lload_n 3, 1), (37, .lconst 1, 1), (38, .land, 1), (39, .lconst 1, 1), (40, .lcmp, 1), (41, .ifCond .ne 9, 3), (44, .lload_n 3, 1), (45, .lconst 1, 1), (46, .ladd, 1), (47, .goto 4, 3), (50, .lload_n 3, 1), (51, .lreturn, 1)]
theorem tk45 : tb45.all (fun q => decide (fetch 45 q.1 = some q.2)) = true := by decide +kernel
theorem f45_0 : fetch 45 0 = some (.lload_n 0, 1) := vtab tk45 0 rfl
theorem e45_0 (L : VL) (st : List Value) (h : VG) (x : Int64) : ev 45 0 (some (.long x) :: L) (st) h = ev 45 1 (some (.long x) :: L) (.long x :: st) h := G_lload_n f45_0 rfl
theorem f45_1 : fetch 45 1 = some (.iload_n 2, 1) := vtab tk45 1 rfl
theorem e45_1 (l0 l1 : Option Value) (L : VL) (st : List Value) (h : VG) (x : Int32) : ev 45 1 (l0 :: l1 :: some (.int x) :: L) (st) h = ev 45 2 (l0 :: l1 :: some (.int x) :: L) (.int x :: st) h := G_iload_n f45_1 rfl
theorem f45_2 : fetch 45 2 = some (.lushr, 1) := vtab tk45 2 rfl
theorem e45_2 (L : VL) (st : List Value) (h : VG) (x : Int64) (y : Int32) : ev 45 2 L (.int y :: .long x :: st) h = ev 45 3 L (.long ((x.toUInt64 >>> (y.toInt64.toUInt64 &&& Int64.toUInt64 63)).toInt64) :: st) h := G_lushr f45_2
theorem f45_3 : fetch 45 3 = some (.lstore_n 3, 1) := vtab tk45 3 rfl
theorem e45_3 (l0 l1 l2 l3 l4 : Option Value) (L : VL) (st : List Value) (h : VG) (x : Int64) : ev 45 3 (l0 :: l1 :: l2 :: l3 :: l4 :: L) (.long x :: st) h = ev 45 4 (l0 :: l1 :: vkk l2 :: some (.long x) :: none :: L) (st) h := G_lstore_n f45_3 rfl (S2_3 l0 l1 l2 l3 l4 L _)
theorem f45_4 : fetch 45 4 = some (.lload_n 0, 1) := vtab tk45 4 rfl
theorem e45_4 (L : VL) (st : List Value) (h : VG) (x : Int64) : ev 45 4 (some (.long x) :: L) (st) h = ev 45 5 (some (.long x) :: L) (.long x :: st) h := G_lload_n f45_4 rfl
theorem f45_5 : fetch 45 5 = some (.lconst 1, 1) := vtab tk45 5 rfl
theorem e45_5 (L : VL) (st : List Value) (h : VG) : ev 45 5 L (st) h = ev 45 6 L (.long 1 :: st) h := G_lconst f45_5 (by decide)
theorem f45_6 : fetch 45 6 = some (.iload_n 2, 1) := vtab tk45 6 rfl
theorem e45_6 (l0 l1 : Option Value) (L : VL) (st : List Value) (h : VG) (x : Int32) : ev 45 6 (l0 :: l1 :: some (.int x) :: L) (st) h = ev 45 7 (l0 :: l1 :: some (.int x) :: L) (.int x :: st) h := G_iload_n f45_6 rfl
theorem f45_7 : fetch 45 7 = some (.lshl, 1) := vtab tk45 7 rfl
theorem e45_7 (L : VL) (st : List Value) (h : VG) (x : Int64) (y : Int32) : ev 45 7 L (.int y :: .long x :: st) h = ev 45 8 L (.long (x <<< (y.toInt64 &&& 63)) :: st) h := G_lshl f45_7
theorem f45_8 : fetch 45 8 = some (.lconst 1, 1) := vtab tk45 8 rfl
theorem e45_8 (L : VL) (st : List Value) (h : VG) : ev 45 8 L (st) h = ev 45 9 L (.long 1 :: st) h := G_lconst f45_8 (by decide)
theorem f45_9 : fetch 45 9 = some (.lsub, 1) := vtab tk45 9 rfl
theorem e45_9 (L : VL) (st : List Value) (h : VG) (x y : Int64) : ev 45 9 L (.long y :: .long x :: st) h = ev 45 10 L (.long (x - y) :: st) h := G_lsub f45_9
theorem f45_10 : fetch 45 10 = some (.land, 1) := vtab tk45 10 rfl
theorem e45_10 (L : VL) (st : List Value) (h : VG) (x y : Int64) : ev 45 10 L (.long y :: .long x :: st) h = ev 45 11 L (.long (x &&& y) :: st) h := G_land f45_10
theorem f45_11 : fetch 45 11 = some (.lstore 5, 2) := vtab tk45 11 rfl
theorem e45_11 (l0 l1 l2 l3 l4 l5 l6 : Option Value) (L : VL) (st : List Value) (h : VG) (x : Int64) : ev 45 11 (l0 :: l1 :: l2 :: l3 :: l4 :: l5 :: l6 :: L) (.long x :: st) h = ev 45 13 (l0 :: l1 :: l2 :: l3 :: vkk l4 :: some (.long x) :: none :: L) (st) h := G_lstore f45_11 rfl (S2_5 l0 l1 l2 l3 l4 l5 l6 L _)
theorem f45_13 : fetch 45 13 = some (.lconst 1, 1) := vtab tk45 12 rfl
theorem e45_13 (L : VL) (st : List Value) (h : VG) : ev 45 13 L (st) h = ev 45 14 L (.long 1 :: st) h := G_lconst f45_13 (by decide)
theorem f45_14 : fetch 45 14 = some (.iload_n 2, 1) := vtab tk45 13 rfl
theorem e45_14 (l0 l1 : Option Value) (L : VL) (st : List Value) (h : VG) (x : Int32) : ev 45 14 (l0 :: l1 :: some (.int x) :: L) (st) h = ev 45 15 (l0 :: l1 :: some (.int x) :: L) (.int x :: st) h := G_iload_n f45_14 rfl
theorem f45_15 : fetch 45 15 = some (.iconst 1, 1) := vtab tk45 14 rfl
theorem e45_15 (L : VL) (st : List Value) (h : VG) : ev 45 15 L (st) h = ev 45 16 L (.int (1 : Int32) :: st) h := G_iconst f45_15 (by decide)
theorem f45_16 : fetch 45 16 = some (.isub, 1) := vtab tk45 15 rfl
theorem e45_16 (L : VL) (st : List Value) (h : VG) (x y : Int32) : ev 45 16 L (.int y :: .int x :: st) h = ev 45 17 L (.int (x - y) :: st) h := G_isub f45_16
theorem f45_17 : fetch 45 17 = some (.lshl, 1) := vtab tk45 16 rfl
theorem e45_17 (L : VL) (st : List Value) (h : VG) (x : Int64) (y : Int32) : ev 45 17 L (.int y :: .long x :: st) h = ev 45 18 L (.long (x <<< (y.toInt64 &&& 63)) :: st) h := G_lshl f45_17
theorem f45_18 : fetch 45 18 = some (.lstore 7, 2) := vtab tk45 17 rfl
theorem e45_18 (l0 l1 l2 l3 l4 l5 l6 l7 l8 : Option Value) (L : VL) (st : List Value) (h : VG) (x : Int64) : ev 45 18 (l0 :: l1 :: l2 :: l3 :: l4 :: l5 :: l6 :: l7 :: l8 :: L) (.long x :: st) h = ev 45 20 (l0 :: l1 :: l2 :: l3 :: l4 :: l5 :: vkk l6 :: some (.long x) :: none :: L) (st) h := G_lstore f45_18 rfl (S2_7 l0 l1 l2 l3 l4 l5 l6 l7 l8 L _)
theorem f45_20 : fetch 45 20 = some (.lload 5, 2) := vtab tk45 18 rfl
theorem e45_20 (l0 l1 l2 l3 l4 : Option Value) (L : VL) (st : List Value) (h : VG) (x : Int64) : ev 45 20 (l0 :: l1 :: l2 :: l3 :: l4 :: some (.long x) :: L) (st) h = ev 45 22 (l0 :: l1 :: l2 :: l3 :: l4 :: some (.long x) :: L) (.long x :: st) h := G_lload f45_20 rfl
theorem f45_22 : fetch 45 22 = some (.lload 7, 2) := vtab tk45 19 rfl
theorem e45_22 (l0 l1 l2 l3 l4 l5 l6 : Option Value) (L : VL) (st : List Value) (h : VG) (x : Int64) : ev 45 22 (l0 :: l1 :: l2 :: l3 :: l4 :: l5 :: l6 :: some (.long x) :: L) (st) h = ev 45 24 (l0 :: l1 :: l2 :: l3 :: l4 :: l5 :: l6 :: some (.long x) :: L) (.long x :: st) h := G_lload f45_22 rfl
theorem f45_24 : fetch 45 24 = some (.lcmp, 1) := vtab tk45 20 rfl
theorem e45_24 (L : VL) (st : List Value) (h : VG) (x y : Int64) : ev 45 24 L (.long y :: .long x :: st) h = ev 45 25 L (.int (lg_cmp x y) :: st) h := G_lcmp f45_24
theorem f45_25 : fetch 45 25 = some (.ifCond .gt 19, 3) := vtab tk45 21 rfl
theorem e45_25 (L : VL) (st : List Value) (h : VG) (x : Int32) : ev 45 25 L (.int x :: st) h = if x ≤ 0 then ev 45 28 L st h else ev 45 44 L st h := G_if_gt f45_25 (by decide)
theorem f45_28 : fetch 45 28 = some (.lload 5, 2) := vtab tk45 22 rfl
theorem e45_28 (l0 l1 l2 l3 l4 : Option Value) (L : VL) (st : List Value) (h : VG) (x : Int64) : ev 45 28 (l0 :: l1 :: l2 :: l3 :: l4 :: some (.long x) :: L) (st) h = ev 45 30 (l0 :: l1 :: l2 :: l3 :: l4 :: some (.long x) :: L) (.long x :: st) h := G_lload f45_28 rfl
theorem f45_30 : fetch 45 30 = some (.lload 7, 2) := vtab tk45 23 rfl
theorem e45_30 (l0 l1 l2 l3 l4 l5 l6 : Option Value) (L : VL) (st : List Value) (h : VG) (x : Int64) : ev 45 30 (l0 :: l1 :: l2 :: l3 :: l4 :: l5 :: l6 :: some (.long x) :: L) (st) h = ev 45 32 (l0 :: l1 :: l2 :: l3 :: l4 :: l5 :: l6 :: some (.long x) :: L) (.long x :: st) h := G_lload f45_30 rfl
theorem f45_32 : fetch 45 32 = some (.lcmp, 1) := vtab tk45 24 rfl
theorem e45_32 (L : VL) (st : List Value) (h : VG) (x y : Int64) : ev 45 32 L (.long y :: .long x :: st) h = ev 45 33 L (.int (lg_cmp x y) :: st) h := G_lcmp f45_32
theorem f45_33 : fetch 45 33 = some (.ifCond .ne 17, 3) := vtab tk45 25 rfl
theorem e45_33 (L : VL) (st : List Value) (h : VG) (x : Int32) : ev 45 33 L (.int x :: st) h = if x = 0 then ev 45 36 L st h else ev 45 50 L st h := G_if_ne f45_33 (by decide)
theorem f45_36 : fetch 45 36 = some (.lload_n 3, 1) := vtab tk45 26 rfl
theorem e45_36 (l0 l1 l2 : Option Value) (L : VL) (st : List Value) (h : VG) (x : Int64) : ev 45 36 (l0 :: l1 :: l2 :: some (.long x) :: L) (st) h = ev 45 37 (l0 :: l1 :: l2 :: some (.long x) :: L) (.long x :: st) h := G_lload_n f45_36 rfl
theorem f45_37 : fetch 45 37 = some (.lconst 1, 1) := vtab tk45 27 rfl
theorem e45_37 (L : VL) (st : List Value) (h : VG) : ev 45 37 L (st) h = ev 45 38 L (.long 1 :: st) h := G_lconst f45_37 (by decide)
theorem f45_38 : fetch 45 38 = some (.land, 1) := vtab tk45 28 rfl
theorem e45_38 (L : VL) (st : List Value) (h : VG) (x y : Int64) : ev 45 38 L (.long y :: .long x :: st) h = ev 45 39 L (.long (x &&& y) :: st) h := G_land f45_38
theorem f45_39 : fetch 45 39 = some (.lconst 1, 1) := vtab tk45 29 rfl
theorem e45_39 (L : VL) (st : List Value) (h : VG) : ev 45 39 L (st) h = ev 45 40 L (.long 1 :: st) h := G_lconst f45_39 (by decide)
theorem f45_40 : fetch 45 40 = some (.lcmp, 1) := vtab tk45 30 rfl
theorem e45_40 (L : VL) (st : List Value) (h : VG) (x y : Int64) : ev 45 40 L (.long y :: .long x :: st) h = ev 45 41 L (.int (lg_cmp x y) :: st) h := G_lcmp f45_40
theorem f45_41 : fetch 45 41 = some (.ifCond .ne 9, 3) := vtab tk45 31 rfl
theorem e45_41 (L : VL) (st : List Value) (h : VG) (x : Int32) : ev 45 41 L (.int x :: st) h = if x = 0 then ev 45 44 L st h else ev 45 50 L st h := G_if_ne f45_41 (by decide)
theorem f45_44 : fetch 45 44 = some (.lload_n 3, 1) := vtab tk45 32 rfl
theorem e45_44 (l0 l1 l2 : Option Value) (L : VL) (st : List Value) (h : VG) (x : Int64) : ev 45 44 (l0 :: l1 :: l2 :: some (.long x) :: L) (st) h = ev 45 45 (l0 :: l1 :: l2 :: some (.long x) :: L) (.long x :: st) h := G_lload_n f45_44 rfl
theorem f45_45 : fetch 45 45 = some (.lconst 1, 1) := vtab tk45 33 rfl
theorem e45_45 (L : VL) (st : List Value) (h : VG) : ev 45 45 L (st) h = ev 45 46 L (.long 1 :: st) h := G_lconst f45_45 (by decide)
theorem f45_46 : fetch 45 46 = some (.ladd, 1) := vtab tk45 34 rfl
theorem e45_46 (L : VL) (st : List Value) (h : VG) (x y : Int64) : ev 45 46 L (.long y :: .long x :: st) h = ev 45 47 L (.long (x + y) :: st) h := G_ladd f45_46
theorem f45_47 : fetch 45 47 = some (.goto 4, 3) := vtab tk45 35 rfl
theorem e45_47 (L : VL) (st : List Value) (h : VG) : ev 45 47 L (st) h = ev 45 51 L (st) h := G_goto f45_47 (by decide)
theorem f45_50 : fetch 45 50 = some (.lload_n 3, 1) := vtab tk45 36 rfl
theorem e45_50 (l0 l1 l2 : Option Value) (L : VL) (st : List Value) (h : VG) (x : Int64) : ev 45 50 (l0 :: l1 :: l2 :: some (.long x) :: L) (st) h = ev 45 51 (l0 :: l1 :: l2 :: some (.long x) :: L) (.long x :: st) h := G_lload_n f45_50 rfl
theorem f45_51 : fetch 45 51 = some (.lreturn, 1) := vtab tk45 37 rfl
theorem e45_51 (L : VL) (h : VG) (x : Int64) : ev 45 51 L [.long x] h = some (some (.long x), h) := G_lret f45_51 (by decide)
/-! 46 GuestCalls$Kinds.doubleOfFloat(J)J -/
def tb46 : List (Nat × Instr × Nat) := [(0, .lload_n 0, 1), (1, .bipush 31, 2), (3, .lushr, 1), (4, .lconst 1, 1), (5, .land, 1), (6, .bipush 63, 2), (8, .lshl, 1), (9, .lstore_n 2, 1), (10, .lload_n 0, 1), (11, .bipush 23, 2), (13, .lushr, 1), (14, .l2i, 1), (15, .sipush 255, 3), (18, .iand, 1), (19, .istore 4, 2), (21, .lload_n 0, 1), (22, .ldc2_w 63, 3), (25, .land, 1), (26, .lstore 5, 2), (28, .bipush 29, 2), (30, .istore 7, 2), (32, .iload 4, 2), (34, .sipush 255, 3), (37, .if_icmp .ne 15, 3), (40, .lload_n 2, 1), (41, .ldc2_w 45, 3), (44, .lor, 1), (45, .lload 5, 2), (47, .iload 7, 2), (49, .lshl, 1), (50, .lor, 1), (51, .lreturn, 1), (52, .iload 4, 2), (54, .ifCond .le 29, 3), (57, .iload 4, 2), (59, .bipush 127, 2), (61, .isub, 1), (62, .sipush 1023, 3), (65, .iadd, 1), (66, .i2l, 1), (67, .lstore 8, 2), (69, .lload_n 2, 1), (70, .lload 8, 2), (72, .bipush 52, 2), (74, .lshl, 1), (75, .lor, 1), (76, .lload 5, 2), (78, .iload 7, 2), (80, .lshl, 1), (81, .lor, 1), (82, .lreturn, 1), (83, .lload 5, 2), (85, .lconst 0, 1), (86, .lcmp, 1), (87, .ifCond .ne 7, 3), (90, .lload_n 2, 1), (91, .goto 10, 3), (94, .lload_n 2, 1), (95, .lload 5, 2), (97, .invokestatic 65, 3), (100, .lor, 1), (101, .lreturn, 1)]
theorem tk46 : tb46.all (fun q => decide (fetch 46 q.1 = some q.2)) = true := by decide +kernel
theorem f46_0 : fetch 46 0 = some (.lload_n 0, 1) := vtab tk46 0 rfl
theorem e46_0 (L : VL) (st : List Value) (h : VG) (x : Int64) : ev 46 0 (some (.long x) :: L) (st) h = ev 46 1 (some (.long x) :: L) (.long x :: st) h := G_lload_n f46_0 rfl
theorem f46_1 : fetch 46 1 = some (.bipush 31, 2) := vtab tk46 1 rfl
theorem e46_1 (L : VL) (st : List Value) (h : VG) : ev 46 1 L (st) h = ev 46 3 L (.int (31 : Int32) :: st) h := G_bipush f46_1 (by decide)
theorem f46_3 : fetch 46 3 = some (.lushr, 1) := vtab tk46 2 rfl
theorem e46_3 (L : VL) (st : List Value) (h : VG) (x : Int64) (y : Int32) : ev 46 3 L (.int y :: .long x :: st) h = ev 46 4 L (.long ((x.toUInt64 >>> (y.toInt64.toUInt64 &&& Int64.toUInt64 63)).toInt64) :: st) h := G_lushr f46_3
theorem f46_4 : fetch 46 4 = some (.lconst 1, 1) := vtab tk46 3 rfl
theorem e46_4 (L : VL) (st : List Value) (h : VG) : ev 46 4 L (st) h = ev 46 5 L (.long 1 :: st) h := G_lconst f46_4 (by decide)
theorem f46_5 : fetch 46 5 = some (.land, 1) := vtab tk46 4 rfl
theorem e46_5 (L : VL) (st : List Value) (h : VG) (x y : Int64) : ev 46 5 L (.long y :: .long x :: st) h = ev 46 6 L (.long (x &&& y) :: st) h := G_land f46_5
theorem f46_6 : fetch 46 6 = some (.bipush 63, 2) := vtab tk46 5 rfl
theorem e46_6 (L : VL) (st : List Value) (h : VG) : ev 46 6 L (st) h = ev 46 8 L (.int (63 : Int32) :: st) h := G_bipush f46_6 (by decide)
theorem f46_8 : fetch 46 8 = some (.lshl, 1) := vtab tk46 6 rfl
theorem e46_8 (L : VL) (st : List Value) (h : VG) (x : Int64) (y : Int32) : ev 46 8 L (.int y :: .long x :: st) h = ev 46 9 L (.long (x <<< (y.toInt64 &&& 63)) :: st) h := G_lshl f46_8
theorem f46_9 : fetch 46 9 = some (.lstore_n 2, 1) := vtab tk46 7 rfl
theorem e46_9 (l0 l1 l2 l3 : Option Value) (L : VL) (st : List Value) (h : VG) (x : Int64) : ev 46 9 (l0 :: l1 :: l2 :: l3 :: L) (.long x :: st) h = ev 46 10 (l0 :: vkk l1 :: some (.long x) :: none :: L) (st) h := G_lstore_n f46_9 rfl (S2_2 l0 l1 l2 l3 L _)
theorem f46_10 : fetch 46 10 = some (.lload_n 0, 1) := vtab tk46 8 rfl
theorem e46_10 (L : VL) (st : List Value) (h : VG) (x : Int64) : ev 46 10 (some (.long x) :: L) (st) h = ev 46 11 (some (.long x) :: L) (.long x :: st) h := G_lload_n f46_10 rfl
theorem f46_11 : fetch 46 11 = some (.bipush 23, 2) := vtab tk46 9 rfl
theorem e46_11 (L : VL) (st : List Value) (h : VG) : ev 46 11 L (st) h = ev 46 13 L (.int (23 : Int32) :: st) h := G_bipush f46_11 (by decide)
theorem f46_13 : fetch 46 13 = some (.lushr, 1) := vtab tk46 10 rfl
theorem e46_13 (L : VL) (st : List Value) (h : VG) (x : Int64) (y : Int32) : ev 46 13 L (.int y :: .long x :: st) h = ev 46 14 L (.long ((x.toUInt64 >>> (y.toInt64.toUInt64 &&& Int64.toUInt64 63)).toInt64) :: st) h := G_lushr f46_13
theorem f46_14 : fetch 46 14 = some (.l2i, 1) := vtab tk46 11 rfl
theorem e46_14 (L : VL) (st : List Value) (h : VG) (x : Int64) : ev 46 14 L (.long x :: st) h = ev 46 15 L (.int x.toInt32 :: st) h := G_l2i f46_14
theorem f46_15 : fetch 46 15 = some (.sipush 255, 3) := vtab tk46 12 rfl
theorem e46_15 (L : VL) (st : List Value) (h : VG) : ev 46 15 L (st) h = ev 46 18 L (.int (255 : Int32) :: st) h := G_sipush f46_15 (by decide)
theorem f46_18 : fetch 46 18 = some (.iand, 1) := vtab tk46 13 rfl
theorem e46_18 (L : VL) (st : List Value) (h : VG) (x y : Int32) : ev 46 18 L (.int y :: .int x :: st) h = ev 46 19 L (.int (x &&& y) :: st) h := G_iand f46_18
theorem f46_19 : fetch 46 19 = some (.istore 4, 2) := vtab tk46 14 rfl
theorem e46_19 (l0 l1 l2 l3 l4 : Option Value) (L : VL) (st : List Value) (h : VG) (x : Int32) : ev 46 19 (l0 :: l1 :: l2 :: l3 :: l4 :: L) (.int x :: st) h = ev 46 21 (l0 :: l1 :: l2 :: vkk l3 :: some (.int x) :: L) (st) h := G_istore f46_19 rfl (S1_4 l0 l1 l2 l3 l4 L _)
theorem f46_21 : fetch 46 21 = some (.lload_n 0, 1) := vtab tk46 15 rfl
theorem e46_21 (L : VL) (st : List Value) (h : VG) (x : Int64) : ev 46 21 (some (.long x) :: L) (st) h = ev 46 22 (some (.long x) :: L) (.long x :: st) h := G_lload_n f46_21 rfl
theorem f46_22 : fetch 46 22 = some (.ldc2_w 63, 3) := vtab tk46 16 rfl
theorem e46_22 (L : VL) (st : List Value) (h : VG) : ev 46 22 L (st) h = ev 46 25 L (.long 8388607 :: st) h := G_ldc2l (p := 766) f46_22 lkK_4_63
theorem f46_25 : fetch 46 25 = some (.land, 1) := vtab tk46 17 rfl
theorem e46_25 (L : VL) (st : List Value) (h : VG) (x y : Int64) : ev 46 25 L (.long y :: .long x :: st) h = ev 46 26 L (.long (x &&& y) :: st) h := G_land f46_25
theorem f46_26 : fetch 46 26 = some (.lstore 5, 2) := vtab tk46 18 rfl
theorem e46_26 (l0 l1 l2 l3 l4 l5 l6 : Option Value) (L : VL) (st : List Value) (h : VG) (x : Int64) : ev 46 26 (l0 :: l1 :: l2 :: l3 :: l4 :: l5 :: l6 :: L) (.long x :: st) h = ev 46 28 (l0 :: l1 :: l2 :: l3 :: vkk l4 :: some (.long x) :: none :: L) (st) h := G_lstore f46_26 rfl (S2_5 l0 l1 l2 l3 l4 l5 l6 L _)
theorem f46_28 : fetch 46 28 = some (.bipush 29, 2) := vtab tk46 19 rfl
theorem e46_28 (L : VL) (st : List Value) (h : VG) : ev 46 28 L (st) h = ev 46 30 L (.int (29 : Int32) :: st) h := G_bipush f46_28 (by decide)
theorem f46_30 : fetch 46 30 = some (.istore 7, 2) := vtab tk46 20 rfl
theorem e46_30 (l0 l1 l2 l3 l4 l5 l6 l7 : Option Value) (L : VL) (st : List Value) (h : VG) (x : Int32) : ev 46 30 (l0 :: l1 :: l2 :: l3 :: l4 :: l5 :: l6 :: l7 :: L) (.int x :: st) h = ev 46 32 (l0 :: l1 :: l2 :: l3 :: l4 :: l5 :: vkk l6 :: some (.int x) :: L) (st) h := G_istore f46_30 rfl (S1_7 l0 l1 l2 l3 l4 l5 l6 l7 L _)
theorem f46_32 : fetch 46 32 = some (.iload 4, 2) := vtab tk46 21 rfl
theorem e46_32 (l0 l1 l2 l3 : Option Value) (L : VL) (st : List Value) (h : VG) (x : Int32) : ev 46 32 (l0 :: l1 :: l2 :: l3 :: some (.int x) :: L) (st) h = ev 46 34 (l0 :: l1 :: l2 :: l3 :: some (.int x) :: L) (.int x :: st) h := G_iload f46_32 rfl
theorem f46_34 : fetch 46 34 = some (.sipush 255, 3) := vtab tk46 22 rfl
theorem e46_34 (L : VL) (st : List Value) (h : VG) : ev 46 34 L (st) h = ev 46 37 L (.int (255 : Int32) :: st) h := G_sipush f46_34 (by decide)
theorem f46_37 : fetch 46 37 = some (.if_icmp .ne 15, 3) := vtab tk46 23 rfl
theorem e46_37 (L : VL) (st : List Value) (h : VG) (x y : Int32) : ev 46 37 L (.int y :: .int x :: st) h = if x = y then ev 46 40 L st h else ev 46 52 L st h := G_icmp_ne f46_37 (by decide)
theorem f46_40 : fetch 46 40 = some (.lload_n 2, 1) := vtab tk46 24 rfl
theorem e46_40 (l0 l1 : Option Value) (L : VL) (st : List Value) (h : VG) (x : Int64) : ev 46 40 (l0 :: l1 :: some (.long x) :: L) (st) h = ev 46 41 (l0 :: l1 :: some (.long x) :: L) (.long x :: st) h := G_lload_n f46_40 rfl
theorem f46_41 : fetch 46 41 = some (.ldc2_w 45, 3) := vtab tk46 25 rfl
theorem e46_41 (L : VL) (st : List Value) (h : VG) : ev 46 41 L (st) h = ev 46 44 L (.long 9218868437227405312 :: st) h := G_ldc2l (p := 767) f46_41 lkK_4_45
theorem f46_44 : fetch 46 44 = some (.lor, 1) := vtab tk46 26 rfl
theorem e46_44 (L : VL) (st : List Value) (h : VG) (x y : Int64) : ev 46 44 L (.long y :: .long x :: st) h = ev 46 45 L (.long (x ||| y) :: st) h := G_lor f46_44
theorem f46_45 : fetch 46 45 = some (.lload 5, 2) := vtab tk46 27 rfl
theorem e46_45 (l0 l1 l2 l3 l4 : Option Value) (L : VL) (st : List Value) (h : VG) (x : Int64) : ev 46 45 (l0 :: l1 :: l2 :: l3 :: l4 :: some (.long x) :: L) (st) h = ev 46 47 (l0 :: l1 :: l2 :: l3 :: l4 :: some (.long x) :: L) (.long x :: st) h := G_lload f46_45 rfl
theorem f46_47 : fetch 46 47 = some (.iload 7, 2) := vtab tk46 28 rfl
theorem e46_47 (l0 l1 l2 l3 l4 l5 l6 : Option Value) (L : VL) (st : List Value) (h : VG) (x : Int32) : ev 46 47 (l0 :: l1 :: l2 :: l3 :: l4 :: l5 :: l6 :: some (.int x) :: L) (st) h = ev 46 49 (l0 :: l1 :: l2 :: l3 :: l4 :: l5 :: l6 :: some (.int x) :: L) (.int x :: st) h := G_iload f46_47 rfl
theorem f46_49 : fetch 46 49 = some (.lshl, 1) := vtab tk46 29 rfl
theorem e46_49 (L : VL) (st : List Value) (h : VG) (x : Int64) (y : Int32) : ev 46 49 L (.int y :: .long x :: st) h = ev 46 50 L (.long (x <<< (y.toInt64 &&& 63)) :: st) h := G_lshl f46_49
theorem f46_50 : fetch 46 50 = some (.lor, 1) := vtab tk46 30 rfl
theorem e46_50 (L : VL) (st : List Value) (h : VG) (x y : Int64) : ev 46 50 L (.long y :: .long x :: st) h = ev 46 51 L (.long (x ||| y) :: st) h := G_lor f46_50
theorem f46_51 : fetch 46 51 = some (.lreturn, 1) := vtab tk46 31 rfl
theorem e46_51 (L : VL) (h : VG) (x : Int64) : ev 46 51 L [.long x] h = some (some (.long x), h) := G_lret f46_51 (by decide)
theorem f46_52 : fetch 46 52 = some (.iload 4, 2) := vtab tk46 32 rfl
theorem e46_52 (l0 l1 l2 l3 : Option Value) (L : VL) (st : List Value) (h : VG) (x : Int32) : ev 46 52 (l0 :: l1 :: l2 :: l3 :: some (.int x) :: L) (st) h = ev 46 54 (l0 :: l1 :: l2 :: l3 :: some (.int x) :: L) (.int x :: st) h := G_iload f46_52 rfl
theorem f46_54 : fetch 46 54 = some (.ifCond .le 29, 3) := vtab tk46 33 rfl
theorem e46_54 (L : VL) (st : List Value) (h : VG) (x : Int32) : ev 46 54 L (.int x :: st) h = if x ≤ 0 then ev 46 83 L st h else ev 46 57 L st h := G_if_le f46_54 (by decide)
theorem f46_57 : fetch 46 57 = some (.iload 4, 2) := vtab tk46 34 rfl
theorem e46_57 (l0 l1 l2 l3 : Option Value) (L : VL) (st : List Value) (h : VG) (x : Int32) : ev 46 57 (l0 :: l1 :: l2 :: l3 :: some (.int x) :: L) (st) h = ev 46 59 (l0 :: l1 :: l2 :: l3 :: some (.int x) :: L) (.int x :: st) h := G_iload f46_57 rfl
theorem f46_59 : fetch 46 59 = some (.bipush 127, 2) := vtab tk46 35 rfl
theorem e46_59 (L : VL) (st : List Value) (h : VG) : ev 46 59 L (st) h = ev 46 61 L (.int (127 : Int32) :: st) h := G_bipush f46_59 (by decide)
theorem f46_61 : fetch 46 61 = some (.isub, 1) := vtab tk46 36 rfl
theorem e46_61 (L : VL) (st : List Value) (h : VG) (x y : Int32) : ev 46 61 L (.int y :: .int x :: st) h = ev 46 62 L (.int (x - y) :: st) h := G_isub f46_61
theorem f46_62 : fetch 46 62 = some (.sipush 1023, 3) := vtab tk46 37 rfl
theorem e46_62 (L : VL) (st : List Value) (h : VG) : ev 46 62 L (st) h = ev 46 65 L (.int (1023 : Int32) :: st) h := G_sipush f46_62 (by decide)
theorem f46_65 : fetch 46 65 = some (.iadd, 1) := vtab tk46 38 rfl
theorem e46_65 (L : VL) (st : List Value) (h : VG) (x y : Int32) : ev 46 65 L (.int y :: .int x :: st) h = ev 46 66 L (.int (x + y) :: st) h := G_iadd f46_65
theorem f46_66 : fetch 46 66 = some (.i2l, 1) := vtab tk46 39 rfl
theorem e46_66 (L : VL) (st : List Value) (h : VG) (x : Int32) : ev 46 66 L (.int x :: st) h = ev 46 67 L (.long x.toInt64 :: st) h := G_i2l f46_66
theorem f46_67 : fetch 46 67 = some (.lstore 8, 2) := vtab tk46 40 rfl
theorem e46_67 (l0 l1 l2 l3 l4 l5 l6 l7 l8 l9 : Option Value) (L : VL) (st : List Value) (h : VG) (x : Int64) : ev 46 67 (l0 :: l1 :: l2 :: l3 :: l4 :: l5 :: l6 :: l7 :: l8 :: l9 :: L) (.long x :: st) h = ev 46 69 (l0 :: l1 :: l2 :: l3 :: l4 :: l5 :: l6 :: vkk l7 :: some (.long x) :: none :: L) (st) h := G_lstore f46_67 rfl (S2_8 l0 l1 l2 l3 l4 l5 l6 l7 l8 l9 L _)
theorem f46_69 : fetch 46 69 = some (.lload_n 2, 1) := vtab tk46 41 rfl
theorem e46_69 (l0 l1 : Option Value) (L : VL) (st : List Value) (h : VG) (x : Int64) : ev 46 69 (l0 :: l1 :: some (.long x) :: L) (st) h = ev 46 70 (l0 :: l1 :: some (.long x) :: L) (.long x :: st) h := G_lload_n f46_69 rfl
theorem f46_70 : fetch 46 70 = some (.lload 8, 2) := vtab tk46 42 rfl
theorem e46_70 (l0 l1 l2 l3 l4 l5 l6 l7 : Option Value) (L : VL) (st : List Value) (h : VG) (x : Int64) : ev 46 70 (l0 :: l1 :: l2 :: l3 :: l4 :: l5 :: l6 :: l7 :: some (.long x) :: L) (st) h = ev 46 72 (l0 :: l1 :: l2 :: l3 :: l4 :: l5 :: l6 :: l7 :: some (.long x) :: L) (.long x :: st) h := G_lload f46_70 rfl
theorem f46_72 : fetch 46 72 = some (.bipush 52, 2) := vtab tk46 43 rfl
theorem e46_72 (L : VL) (st : List Value) (h : VG) : ev 46 72 L (st) h = ev 46 74 L (.int (52 : Int32) :: st) h := G_bipush f46_72 (by decide)
theorem f46_74 : fetch 46 74 = some (.lshl, 1) := vtab tk46 44 rfl
theorem e46_74 (L : VL) (st : List Value) (h : VG) (x : Int64) (y : Int32) : ev 46 74 L (.int y :: .long x :: st) h = ev 46 75 L (.long (x <<< (y.toInt64 &&& 63)) :: st) h := G_lshl f46_74
theorem f46_75 : fetch 46 75 = some (.lor, 1) := vtab tk46 45 rfl
theorem e46_75 (L : VL) (st : List Value) (h : VG) (x y : Int64) : ev 46 75 L (.long y :: .long x :: st) h = ev 46 76 L (.long (x ||| y) :: st) h := G_lor f46_75
theorem f46_76 : fetch 46 76 = some (.lload 5, 2) := vtab tk46 46 rfl
theorem e46_76 (l0 l1 l2 l3 l4 : Option Value) (L : VL) (st : List Value) (h : VG) (x : Int64) : ev 46 76 (l0 :: l1 :: l2 :: l3 :: l4 :: some (.long x) :: L) (st) h = ev 46 78 (l0 :: l1 :: l2 :: l3 :: l4 :: some (.long x) :: L) (.long x :: st) h := G_lload f46_76 rfl
theorem f46_78 : fetch 46 78 = some (.iload 7, 2) := vtab tk46 47 rfl
theorem e46_78 (l0 l1 l2 l3 l4 l5 l6 : Option Value) (L : VL) (st : List Value) (h : VG) (x : Int32) : ev 46 78 (l0 :: l1 :: l2 :: l3 :: l4 :: l5 :: l6 :: some (.int x) :: L) (st) h = ev 46 80 (l0 :: l1 :: l2 :: l3 :: l4 :: l5 :: l6 :: some (.int x) :: L) (.int x :: st) h := G_iload f46_78 rfl
theorem f46_80 : fetch 46 80 = some (.lshl, 1) := vtab tk46 48 rfl
theorem e46_80 (L : VL) (st : List Value) (h : VG) (x : Int64) (y : Int32) : ev 46 80 L (.int y :: .long x :: st) h = ev 46 81 L (.long (x <<< (y.toInt64 &&& 63)) :: st) h := G_lshl f46_80
theorem f46_81 : fetch 46 81 = some (.lor, 1) := vtab tk46 49 rfl
theorem e46_81 (L : VL) (st : List Value) (h : VG) (x y : Int64) : ev 46 81 L (.long y :: .long x :: st) h = ev 46 82 L (.long (x ||| y) :: st) h := G_lor f46_81
theorem f46_82 : fetch 46 82 = some (.lreturn, 1) := vtab tk46 50 rfl
theorem e46_82 (L : VL) (h : VG) (x : Int64) : ev 46 82 L [.long x] h = some (some (.long x), h) := G_lret f46_82 (by decide)
theorem f46_83 : fetch 46 83 = some (.lload 5, 2) := vtab tk46 51 rfl
theorem e46_83 (l0 l1 l2 l3 l4 : Option Value) (L : VL) (st : List Value) (h : VG) (x : Int64) : ev 46 83 (l0 :: l1 :: l2 :: l3 :: l4 :: some (.long x) :: L) (st) h = ev 46 85 (l0 :: l1 :: l2 :: l3 :: l4 :: some (.long x) :: L) (.long x :: st) h := G_lload f46_83 rfl
theorem f46_85 : fetch 46 85 = some (.lconst 0, 1) := vtab tk46 52 rfl
theorem e46_85 (L : VL) (st : List Value) (h : VG) : ev 46 85 L (st) h = ev 46 86 L (.long 0 :: st) h := G_lconst f46_85 (by decide)
theorem f46_86 : fetch 46 86 = some (.lcmp, 1) := vtab tk46 53 rfl
theorem e46_86 (L : VL) (st : List Value) (h : VG) (x y : Int64) : ev 46 86 L (.long y :: .long x :: st) h = ev 46 87 L (.int (lg_cmp x y) :: st) h := G_lcmp f46_86
theorem f46_87 : fetch 46 87 = some (.ifCond .ne 7, 3) := vtab tk46 54 rfl
theorem e46_87 (L : VL) (st : List Value) (h : VG) (x : Int32) : ev 46 87 L (.int x :: st) h = if x = 0 then ev 46 90 L st h else ev 46 94 L st h := G_if_ne f46_87 (by decide)
theorem f46_90 : fetch 46 90 = some (.lload_n 2, 1) := vtab tk46 55 rfl
theorem e46_90 (l0 l1 : Option Value) (L : VL) (st : List Value) (h : VG) (x : Int64) : ev 46 90 (l0 :: l1 :: some (.long x) :: L) (st) h = ev 46 91 (l0 :: l1 :: some (.long x) :: L) (.long x :: st) h := G_lload_n f46_90 rfl
theorem f46_91 : fetch 46 91 = some (.goto 10, 3) := vtab tk46 56 rfl
theorem e46_91 (L : VL) (st : List Value) (h : VG) : ev 46 91 L (st) h = ev 46 101 L (st) h := G_goto f46_91 (by decide)
theorem f46_94 : fetch 46 94 = some (.lload_n 2, 1) := vtab tk46 57 rfl
theorem e46_94 (l0 l1 : Option Value) (L : VL) (st : List Value) (h : VG) (x : Int64) : ev 46 94 (l0 :: l1 :: some (.long x) :: L) (st) h = ev 46 95 (l0 :: l1 :: some (.long x) :: L) (.long x :: st) h := G_lload_n f46_94 rfl
theorem f46_95 : fetch 46 95 = some (.lload 5, 2) := vtab tk46 58 rfl
theorem e46_95 (l0 l1 l2 l3 l4 : Option Value) (L : VL) (st : List Value) (h : VG) (x : Int64) : ev 46 95 (l0 :: l1 :: l2 :: l3 :: l4 :: some (.long x) :: L) (st) h = ev 46 97 (l0 :: l1 :: l2 :: l3 :: l4 :: some (.long x) :: L) (.long x :: st) h := G_lload f46_95 rfl
theorem f46_97 : fetch 46 97 = some (.invokestatic 65, 3) := vtab tk46 59 rfl
theorem e46_97 (L : VL) (st : List Value) (h : VG) (x0 : Int64) (hs : catS st ≤ 8) : ev 46 97 L (.long x0 :: st) h = (ev 47 0 [some (.long x0), none, none, none, none] [] h).bind fun q => ev 46 100 L (q.1.toList ++ st) q.2 := G_calls (k := 0) (p := 768) (ars := [.long x0]) f46_97 lkC_4_65 (by decide) (by decide +kernel) rfl (Nat.le_of_ble_eq_true rfl) hs rfl
theorem f46_100 : fetch 46 100 = some (.lor, 1) := vtab tk46 60 rfl
theorem e46_100 (L : VL) (st : List Value) (h : VG) (x y : Int64) : ev 46 100 L (.long y :: .long x :: st) h = ev 46 101 L (.long (x ||| y) :: st) h := G_lor f46_100
theorem f46_101 : fetch 46 101 = some (.lreturn, 1) := vtab tk46 61 rfl
theorem e46_101 (L : VL) (h : VG) (x : Int64) : ev 46 101 L [.long x] h = some (some (.long x), h) := G_lret f46_101 (by decide)
/-! 47 GuestCalls$Kinds.tinyFloat(J)J -/
def tb47 : List (Nat × Instr × Nat) := [(0, .bipush 63, 2), (2, .lload_n 0, 1), (3, .invokestatic 55, 3), (6, .isub, 1), (7, .istore_n 2, 1), (8, .iload_n 2, 1), (9, .bipush 23, 2), (11, .isub, 1), (12, .iconst 1, 1), (13, .iadd, 1), (14, .bipush 127, 2), (16, .isub, 1), (17, .sipush 1023, 3), (20, .iadd, 1), (21, .i2l, 1), (22, .lstore_n 3, 1), (23, .lload_n 3, 1), (24, .bipush 52, 2), (26, .lshl, 1), (27, .lload_n 0, 1), (28, .bipush 52, 2), (30, .iload_n 2, 1), (31, .isub, 1), (32, .lshl, 1), (33, .ladd, 1), (34, .ldc2_w 68, 3), (37, .lsub, 1), (38, .lreturn, 1)]
theorem tk47 : tb47.all (fun q => decide (fetch 47 q.1 = some q.2)) = true := by decide +kernel
theorem f47_0 : fetch 47 0 = some (.bipush 63, 2) := vtab tk47 0 rfl
theorem e47_0 (L : VL) (st : List Value) (h : VG) : ev 47 0 L (st) h = ev 47 2 L (.int (63 : Int32) :: st) h := G_bipush f47_0 (by decide)
theorem f47_2 : fetch 47 2 = some (.lload_n 0, 1) := vtab tk47 1 rfl
theorem e47_2 (L : VL) (st : List Value) (h : VG) (x : Int64) : ev 47 2 (some (.long x) :: L) (st) h = ev 47 3 (some (.long x) :: L) (.long x :: st) h := G_lload_n f47_2 rfl
theorem f47_3 : fetch 47 3 = some (.invokestatic 55, 3) := vtab tk47 2 rfl
theorem e47_3 (L : VL) (st : List Value) (h : VG) (x0 : Int64) (hs : catS st ≤ 8) : ev 47 3 L (.long x0 :: st) h = (ev 236 0 [some (.long x0), none, none] [] h).bind fun q => ev 47 6 L (q.1.toList ++ st) q.2 := G_calls (k := 0) (p := 753) (ars := [.long x0]) f47_3 lkC_4_55 (by decide) (by decide +kernel) rfl (Nat.le_of_ble_eq_true rfl) hs rfl
theorem f47_6 : fetch 47 6 = some (.isub, 1) := vtab tk47 3 rfl
theorem e47_6 (L : VL) (st : List Value) (h : VG) (x y : Int32) : ev 47 6 L (.int y :: .int x :: st) h = ev 47 7 L (.int (x - y) :: st) h := G_isub f47_6
theorem f47_7 : fetch 47 7 = some (.istore_n 2, 1) := vtab tk47 4 rfl
theorem e47_7 (l0 l1 l2 : Option Value) (L : VL) (st : List Value) (h : VG) (x : Int32) : ev 47 7 (l0 :: l1 :: l2 :: L) (.int x :: st) h = ev 47 8 (l0 :: vkk l1 :: some (.int x) :: L) (st) h := G_istore_n f47_7 rfl (S1_2 l0 l1 l2 L _)
theorem f47_8 : fetch 47 8 = some (.iload_n 2, 1) := vtab tk47 5 rfl
theorem e47_8 (l0 l1 : Option Value) (L : VL) (st : List Value) (h : VG) (x : Int32) : ev 47 8 (l0 :: l1 :: some (.int x) :: L) (st) h = ev 47 9 (l0 :: l1 :: some (.int x) :: L) (.int x :: st) h := G_iload_n f47_8 rfl
theorem f47_9 : fetch 47 9 = some (.bipush 23, 2) := vtab tk47 6 rfl
theorem e47_9 (L : VL) (st : List Value) (h : VG) : ev 47 9 L (st) h = ev 47 11 L (.int (23 : Int32) :: st) h := G_bipush f47_9 (by decide)
theorem f47_11 : fetch 47 11 = some (.isub, 1) := vtab tk47 7 rfl
theorem e47_11 (L : VL) (st : List Value) (h : VG) (x y : Int32) : ev 47 11 L (.int y :: .int x :: st) h = ev 47 12 L (.int (x - y) :: st) h := G_isub f47_11
theorem f47_12 : fetch 47 12 = some (.iconst 1, 1) := vtab tk47 8 rfl
theorem e47_12 (L : VL) (st : List Value) (h : VG) : ev 47 12 L (st) h = ev 47 13 L (.int (1 : Int32) :: st) h := G_iconst f47_12 (by decide)
theorem f47_13 : fetch 47 13 = some (.iadd, 1) := vtab tk47 9 rfl
theorem e47_13 (L : VL) (st : List Value) (h : VG) (x y : Int32) : ev 47 13 L (.int y :: .int x :: st) h = ev 47 14 L (.int (x + y) :: st) h := G_iadd f47_13
theorem f47_14 : fetch 47 14 = some (.bipush 127, 2) := vtab tk47 10 rfl
theorem e47_14 (L : VL) (st : List Value) (h : VG) : ev 47 14 L (st) h = ev 47 16 L (.int (127 : Int32) :: st) h := G_bipush f47_14 (by decide)
theorem f47_16 : fetch 47 16 = some (.isub, 1) := vtab tk47 11 rfl
theorem e47_16 (L : VL) (st : List Value) (h : VG) (x y : Int32) : ev 47 16 L (.int y :: .int x :: st) h = ev 47 17 L (.int (x - y) :: st) h := G_isub f47_16
theorem f47_17 : fetch 47 17 = some (.sipush 1023, 3) := vtab tk47 12 rfl
theorem e47_17 (L : VL) (st : List Value) (h : VG) : ev 47 17 L (st) h = ev 47 20 L (.int (1023 : Int32) :: st) h := G_sipush f47_17 (by decide)
theorem f47_20 : fetch 47 20 = some (.iadd, 1) := vtab tk47 13 rfl
theorem e47_20 (L : VL) (st : List Value) (h : VG) (x y : Int32) : ev 47 20 L (.int y :: .int x :: st) h = ev 47 21 L (.int (x + y) :: st) h := G_iadd f47_20
theorem f47_21 : fetch 47 21 = some (.i2l, 1) := vtab tk47 14 rfl
theorem e47_21 (L : VL) (st : List Value) (h : VG) (x : Int32) : ev 47 21 L (.int x :: st) h = ev 47 22 L (.long x.toInt64 :: st) h := G_i2l f47_21
theorem f47_22 : fetch 47 22 = some (.lstore_n 3, 1) := vtab tk47 15 rfl
theorem e47_22 (l0 l1 l2 l3 l4 : Option Value) (L : VL) (st : List Value) (h : VG) (x : Int64) : ev 47 22 (l0 :: l1 :: l2 :: l3 :: l4 :: L) (.long x :: st) h = ev 47 23 (l0 :: l1 :: vkk l2 :: some (.long x) :: none :: L) (st) h := G_lstore_n f47_22 rfl (S2_3 l0 l1 l2 l3 l4 L _)
theorem f47_23 : fetch 47 23 = some (.lload_n 3, 1) := vtab tk47 16 rfl
theorem e47_23 (l0 l1 l2 : Option Value) (L : VL) (st : List Value) (h : VG) (x : Int64) : ev 47 23 (l0 :: l1 :: l2 :: some (.long x) :: L) (st) h = ev 47 24 (l0 :: l1 :: l2 :: some (.long x) :: L) (.long x :: st) h := G_lload_n f47_23 rfl
theorem f47_24 : fetch 47 24 = some (.bipush 52, 2) := vtab tk47 17 rfl
theorem e47_24 (L : VL) (st : List Value) (h : VG) : ev 47 24 L (st) h = ev 47 26 L (.int (52 : Int32) :: st) h := G_bipush f47_24 (by decide)
theorem f47_26 : fetch 47 26 = some (.lshl, 1) := vtab tk47 18 rfl
theorem e47_26 (L : VL) (st : List Value) (h : VG) (x : Int64) (y : Int32) : ev 47 26 L (.int y :: .long x :: st) h = ev 47 27 L (.long (x <<< (y.toInt64 &&& 63)) :: st) h := G_lshl f47_26
theorem f47_27 : fetch 47 27 = some (.lload_n 0, 1) := vtab tk47 19 rfl
theorem e47_27 (L : VL) (st : List Value) (h : VG) (x : Int64) : ev 47 27 (some (.long x) :: L) (st) h = ev 47 28 (some (.long x) :: L) (.long x :: st) h := G_lload_n f47_27 rfl
theorem f47_28 : fetch 47 28 = some (.bipush 52, 2) := vtab tk47 20 rfl
theorem e47_28 (L : VL) (st : List Value) (h : VG) : ev 47 28 L (st) h = ev 47 30 L (.int (52 : Int32) :: st) h := G_bipush f47_28 (by decide)
theorem f47_30 : fetch 47 30 = some (.iload_n 2, 1) := vtab tk47 21 rfl
theorem e47_30 (l0 l1 : Option Value) (L : VL) (st : List Value) (h : VG) (x : Int32) : ev 47 30 (l0 :: l1 :: some (.int x) :: L) (st) h = ev 47 31 (l0 :: l1 :: some (.int x) :: L) (.int x :: st) h := G_iload_n f47_30 rfl
theorem f47_31 : fetch 47 31 = some (.isub, 1) := vtab tk47 22 rfl
theorem e47_31 (L : VL) (st : List Value) (h : VG) (x y : Int32) : ev 47 31 L (.int y :: .int x :: st) h = ev 47 32 L (.int (x - y) :: st) h := G_isub f47_31
theorem f47_32 : fetch 47 32 = some (.lshl, 1) := vtab tk47 23 rfl
theorem e47_32 (L : VL) (st : List Value) (h : VG) (x : Int64) (y : Int32) : ev 47 32 L (.int y :: .long x :: st) h = ev 47 33 L (.long (x <<< (y.toInt64 &&& 63)) :: st) h := G_lshl f47_32
theorem f47_33 : fetch 47 33 = some (.ladd, 1) := vtab tk47 24 rfl
theorem e47_33 (L : VL) (st : List Value) (h : VG) (x y : Int64) : ev 47 33 L (.long y :: .long x :: st) h = ev 47 34 L (.long (x + y) :: st) h := G_ladd f47_33
theorem f47_34 : fetch 47 34 = some (.ldc2_w 68, 3) := vtab tk47 25 rfl
theorem e47_34 (L : VL) (st : List Value) (h : VG) : ev 47 34 L (st) h = ev 47 37 L (.long 4503599627370496 :: st) h := G_ldc2l (p := 771) f47_34 lkK_4_68
theorem f47_37 : fetch 47 37 = some (.lsub, 1) := vtab tk47 26 rfl
theorem e47_37 (L : VL) (st : List Value) (h : VG) (x y : Int64) : ev 47 37 L (.long y :: .long x :: st) h = ev 47 38 L (.long (x - y) :: st) h := G_lsub f47_37
theorem f47_38 : fetch 47 38 = some (.lreturn, 1) := vtab tk47 27 rfl
theorem e47_38 (L : VL) (h : VG) (x : Int64) : ev 47 38 L [.long x] h = some (some (.long x), h) := G_lret f47_38 (by decide)
