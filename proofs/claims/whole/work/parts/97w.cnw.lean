set_option maxHeartbeats 4000000 in
/-! read: the class, anew -/
theorem l_stBeg (S P : Nat) : ∀ (d b : Nat) (h : VG), b + d = 8 → ShState h S → ∃ h1, ev 80 10 [some (.ref S), some (.ref P), some (.int (nI b))] [] h = ev 80 34 [some (.ref S), some (.ref P), some (.int (nI 8))] [] h1 ∧ Fr (fun a => S + 5 + 3 * b ≤ a ∧ a ≤ S + 28) (fun a k => S + 5 + 3 * b ≤ a ∧ a ≤ S + 28 ∧ (k = 0 ∨ k = 1)) h h1 ∧ ∀ b', b ≤ b' → b' < 8 → gI h1 (S + (5 + 3 * b')) 0 = 11 ∧ gI h1 (S + (5 + 3 * b')) 1 = 0 := by
  intro d
  induction d with
  | zero =>
    intro b h hb hS
    obtain rfl : b = 8 := by omega
    have q : ¬ nI 8 < 8 := by decide
    refine ⟨h, ?_, Fr.rfl _, fun b' h1 h2 => by omega⟩
    simp +decide only [e80_10, e80_11, e80_13, q, vkk_n, vkk_i, vkk_r, vkk_l, vkk_d, catS_nil, catS_i, catS_r, catS_l, catS_d, Nat.reduceAdd, Nat.reduceLeDiff, Nat.zero_le, Nat.le_refl, Option.bind_some, Option.toList_some, Option.toList_none, List.cons_append, List.nil_append, or_true, true_or, if_true, if_false, Int32.reduceLT, Int32.reduceLE, not_true, not_false_iff, true_and, and_true, false_and, and_false]
  | succ d ih =>
    intro b h hb hS
    have q : nI b < 8 := nI_lt (b := 8) (by omega) (by decide)
    have hv : vp_in (nI b) 8 := vp_in_nI (by omega) (by decide)
    have hc : (nI b).toNatClampNeg = b := nI_clamp (by omega)
    obtain ⟨sA, rA⟩ := st_bin hS (show b < 8 by omega)
    obtain ⟨h1, u1, u2, u3, u4, -⟩ := c_begin h (S + (5 + 3 * b)) 11 0 (-2) (by decide) sA
    have oA : ob h (S + (5 + 3 * b)) 1 := Bin_0 sA
    obtain ⟨h2, v1, v2, v3⟩ := ih (b + 1) h1 (by omega) ((ShState_kp u2.1 S).mpr hS)
    refine ⟨h2, ?_, (u2.mo (fun a z => by omega) (fun a k z => by omega)).tr (v2.mo (fun a z => by omega) (fun a k z => by omega)), fun b' b1 b2 => ?_⟩
    · rw [← v1]
      have st0 : ev 80 10 [some (.ref S), some (.ref P), some (.int (nI b))] [] h = ev 80 16 [some (.ref S), some (.ref P), some (.int (nI b))] [] h := by
        simp +decide only [e80_10, e80_11, e80_13, q, vkk_n, vkk_i, vkk_r, vkk_l, vkk_d, catS_nil, catS_i, catS_r, catS_l, catS_d, Nat.reduceAdd, Nat.reduceLeDiff, Nat.zero_le, Nat.le_refl, Option.bind_some, Option.toList_some, Option.toList_none, List.cons_append, List.nil_append, or_true, true_or, if_true, if_false, Int32.reduceLT, Int32.reduceLE, not_true, not_false_iff, true_and, and_true, false_and, and_false]
      rw [st0]
      generalize hZ : ev 80 10 [some (.ref S), some (.ref P), some (.int (nI (b + 1)))] [] h1 = Z
      simp +decide only [e80_16, e80_17, e80_20, e80_21, e80_22, e80_24, e80_25, e80_28, e80_31, hv, hc, rA, oA, vrf_some, u1, nI_1, nI_add, (State_0 hS : ob h S 8), (eq_true (isI_ob (State_0 hS : ob h S 8) rfl : isI h S 3)), (rf_g (State_1 hS : rf h S 0 (S + 1)) : gR h S 0 = (S + 1)), (rf_is (State_1 hS : rf h S 0 (S + 1)) : isR h S 0), (rf_g (State_2 hS : rf h S 1 (S + 3)) : gR h S 1 = (S + 3)), (rf_is (State_2 hS : rf h S 1 (S + 3)) : isR h S 1), (rf_g (State_3 hS : rf h S 2 (S + 4)) : gR h S 2 = (S + 4)), (rf_is (State_3 hS : rf h S 2 (S + 4)) : isR h S 2), (State_5 hS : arR h (S + 3) 5), (rdR_5 (State_5 hS : arR h (S + 3) 5) : rdR h (S + 3)), (State_6 hS : aln h (S + 3) = 8), (State_8 hS : arL h (S + 4)), (State_9 hS : aln h (S + 4) = 8), vkk_n, vkk_i, vkk_r, vkk_l, vkk_d, catS_nil, catS_i, catS_r, catS_l, catS_d, Nat.reduceAdd, Nat.reduceLeDiff, Nat.zero_le, Nat.le_refl, Option.bind_some, Option.toList_some, Option.toList_none, List.cons_append, List.nil_append, or_true, true_or, if_true, if_false, Int32.reduceLT, Int32.reduceLE, not_true, not_false_iff, true_and, and_true, false_and, and_false, Nat.add_assoc, Nat.reduceAdd, Nat.add_left_cancel_iff, Nat.reduceEqDiff, Nat.add_eq_left, Nat.left_eq_add]
      exact hZ
    · by_cases e : b' = b
      · subst e
        exact ⟨(v2.gI (fun z => by omega)).trans u3, (v2.gI (fun z => by omega)).trans u4⟩
      · exact v3 b' (by omega) b2
theorem c_stBegin (h : VG) (S P : Nat) (ne : S + 28 < P ∨ P + 1 < S) (hS : ShState h S) (hP : ShMem h P) (hb : bOk h (P + 1)) (hz : gI h P 2 = 0 ∨ gI h P 2 = 1) : ∃ h1, ev 80 0 [some (.ref S), some (.ref P), none] [] h = some (none, h1) ∧ Fr (fun a => S + 2 ≤ a ∧ a ≤ S + 28) (fun a k => S ≤ a ∧ a ≤ S + 28) h h1 ∧ gI h1 (S + 1) 1 = gI h P 1 ∧ gI h1 (S + 1) 2 = gI h P 2 ∧ (∀ i, i < 256 → aI h1 (S + 2) i = aI h (P + 1) i) ∧ (∀ r, r < 8 → aL h1 (S + 4) r = 0) ∧ gI h1 S 3 = 0 ∧ ∀ b, b < 8 → gI h1 (S + (5 + 3 * b)) 0 = 11 ∧ gI h1 (S + (5 + 3 * b)) 1 = 0 := by
  obtain ⟨h1, u1, u2, u3, u4, u5⟩ := c_memBecome h (S + 1) P (State_4 hS) hP (by omega) hb hz
  have S1 := (ShState_kp u2.1 S).mpr hS
  obtain ⟨h2, v1, v2, v3⟩ := l_stBeg S P 8 0 h1 rfl S1
  have v1 : ev 80 10 [some (.ref S), some (.ref P), some (.int 0)] [] h1 = ev 80 34 [some (.ref S), some (.ref P), some (.int 8)] [] h2 := v1
  have S2 := (ShState_kp v2.1 S).mpr S1
  have f3 := c_fillJ h2 (S + 4) 0 8 (by decide) (State_8 S2) (State_9 S2)
  have x3 : Fr (fun a => a = S + 4) NF h2 (bL h2 (S + 4) (fun j => if j < 8 then 0 else aL h2 (S + 4) j)) := Fr_bL _ _ _ rfl
  have c2 : ∀ i, i < 8 → aL (bL h2 (S + 4) (fun j => if j < 8 then 0 else aL h2 (S + 4) j)) (S + 4) i = 0 := fun i hi => by rw [aL_bL _ _ _ _ (State_8 S2), if_pos hi]
  generalize bL h2 (S + 4) (fun j => if j < 8 then 0 else aL h2 (S + 4) j) = h3 at f3 x3 c2
  have S3 := (ShState_kp x3.1 S).mpr S2
  have oS : ob h S 8 := State_0 hS
  have oM : ob h (S + 1) 5 := Mem_0 (State_4 hS)
  have oS3 : ob h3 S 8 := State_0 S3
  have x4 : Fr NR (fun a k => a = S ∧ k = 3) h3 (pI h3 S 3 0) := Fr_pI _ _ _ _ ⟨rfl, rfl⟩
  have e3 : gI (pI h3 S 3 0) S 3 = 0 := by simp +decide only [gI_pI, (eq_true (isI_ob oS3 rfl : isI h3 S 3)), true_and, and_true, if_true]
  refine ⟨pI h3 S 3 0, ?_, (((u2.mo (fun a z => by omega) (fun a k z => by omega)).tr (v2.mo (fun a z => by omega) (fun a k z => by omega))).tr ((x3.mo (fun a z => by omega) (fun _ _ z => z.elim)).tr (x4.mo (fun _ z => z.elim) (fun a k z => by omega)))), ?_, ?_, fun i hi => ?_, fun r hr => ?_, e3, fun b hb' => ?_⟩
  · have st0 : ev 80 0 [some (.ref S), some (.ref P), none] [] h = ev 80 10 [some (.ref S), some (.ref P), some (.int 0)] [] h1 := by
      simp +decide only [e80_0, e80_1, e80_4, e80_5, e80_8, e80_9, oM, u1, (State_0 hS : ob h S 8), (eq_true (isI_ob (State_0 hS : ob h S 8) rfl : isI h S 3)), (rf_g (State_1 hS : rf h S 0 (S + 1)) : gR h S 0 = (S + 1)), (rf_is (State_1 hS : rf h S 0 (S + 1)) : isR h S 0), (rf_g (State_2 hS : rf h S 1 (S + 3)) : gR h S 1 = (S + 3)), (rf_is (State_2 hS : rf h S 1 (S + 3)) : isR h S 1), (rf_g (State_3 hS : rf h S 2 (S + 4)) : gR h S 2 = (S + 4)), (rf_is (State_3 hS : rf h S 2 (S + 4)) : isR h S 2), (State_5 hS : arR h (S + 3) 5), (rdR_5 (State_5 hS : arR h (S + 3) 5) : rdR h (S + 3)), (State_6 hS : aln h (S + 3) = 8), (State_8 hS : arL h (S + 4)), (State_9 hS : aln h (S + 4) = 8), vkk_n, vkk_i, vkk_r, vkk_l, vkk_d, catS_nil, catS_i, catS_r, catS_l, catS_d, Nat.reduceAdd, Nat.reduceLeDiff, Nat.zero_le, Nat.le_refl, Option.bind_some, Option.toList_some, Option.toList_none, List.cons_append, List.nil_append, or_true, true_or, if_true, if_false, Int32.reduceLT, Int32.reduceLE, not_true, not_false_iff, true_and, and_true, false_and, and_false]
    rw [st0, v1]
    simp +decide only [e80_34, e80_35, e80_38, e80_39, e80_42, e80_43, e80_44, e80_47, f3, (State_0 S2 : ob h2 S 8), (eq_true (isI_ob (State_0 S2 : ob h2 S 8) rfl : isI h2 S 3)), (rf_g (State_1 S2 : rf h2 S 0 (S + 1)) : gR h2 S 0 = (S + 1)), (rf_is (State_1 S2 : rf h2 S 0 (S + 1)) : isR h2 S 0), (rf_g (State_2 S2 : rf h2 S 1 (S + 3)) : gR h2 S 1 = (S + 3)), (rf_is (State_2 S2 : rf h2 S 1 (S + 3)) : isR h2 S 1), (rf_g (State_3 S2 : rf h2 S 2 (S + 4)) : gR h2 S 2 = (S + 4)), (rf_is (State_3 S2 : rf h2 S 2 (S + 4)) : isR h2 S 2), (State_5 S2 : arR h2 (S + 3) 5), (rdR_5 (State_5 S2 : arR h2 (S + 3) 5) : rdR h2 (S + 3)), (State_6 S2 : aln h2 (S + 3) = 8), (State_8 S2 : arL h2 (S + 4)), (State_9 S2 : aln h2 (S + 4) = 8), (State_0 S3 : ob h3 S 8), (eq_true (isI_ob (State_0 S3 : ob h3 S 8) rfl : isI h3 S 3)), (rf_g (State_1 S3 : rf h3 S 0 (S + 1)) : gR h3 S 0 = (S + 1)), (rf_is (State_1 S3 : rf h3 S 0 (S + 1)) : isR h3 S 0), (rf_g (State_2 S3 : rf h3 S 1 (S + 3)) : gR h3 S 1 = (S + 3)), (rf_is (State_2 S3 : rf h3 S 1 (S + 3)) : isR h3 S 1), (rf_g (State_3 S3 : rf h3 S 2 (S + 4)) : gR h3 S 2 = (S + 4)), (rf_is (State_3 S3 : rf h3 S 2 (S + 4)) : isR h3 S 2), (State_5 S3 : arR h3 (S + 3) 5), (rdR_5 (State_5 S3 : arR h3 (S + 3) 5) : rdR h3 (S + 3)), (State_6 S3 : aln h3 (S + 3) = 8), (State_8 S3 : arL h3 (S + 4)), (State_9 S3 : aln h3 (S + 4) = 8), vkk_n, vkk_i, vkk_r, vkk_l, vkk_d, catS_nil, catS_i, catS_r, catS_l, catS_d, Nat.reduceAdd, Nat.reduceLeDiff, Nat.zero_le, Nat.le_refl, Option.bind_some, Option.toList_some, Option.toList_none, List.cons_append, List.nil_append, or_true, true_or, if_true, if_false, Int32.reduceLT, Int32.reduceLE, not_true, not_false_iff, true_and, and_true, false_and, and_false]
  · exact (x4.gI (fun z => by omega)).trans ((x3.gI (fun z => z)).trans ((v2.gI (fun z => by omega)).trans u3))
  · exact (x4.gI (fun z => by omega)).trans ((x3.gI (fun z => z)).trans ((v2.gI (fun z => by omega)).trans u4))
  · rw [x4.I (fun z => z), x3.I (fun z => by omega), v2.I (fun z => by omega)]
    exact u5 i hi
  · rw [x4.L (fun z => z)]
    exact c2 r hr
  · obtain ⟨w1, w2⟩ := v3 b (Nat.zero_le _) hb'
    exact ⟨(x4.gI (fun z => by omega)).trans ((x3.gI (fun z => z)).trans w1), (x4.gI (fun z => by omega)).trans ((x3.gI (fun z => z)).trans w2)⟩
theorem c_anew (h : VG) (g P : Nat) (hP : P = g + 8 ∨ P = g + 90) (hs : Sh h g) (rP : rf h g 3 P) (hb : bOk h (P + 2)) (hz : gI h (P + 1) 2 = 0 ∨ gI h (P + 1) 2 = 1) : ∃ h1, ev 97 0 [some (.ref g), none] [] h = some (none, h1) ∧ Fr (fun a => (g + 174 ≤ a ∧ a ≤ g + 200) ∨ a = g + 260) (fun a k => (g + 172 ≤ a ∧ a ≤ g + 200) ∨ (a = g ∧ (k = 9 ∨ k = 10))) h h1 ∧ gI h1 (g + 173) 1 = gI h (P + 1) 1 ∧ gI h1 (g + 173) 2 = gI h (P + 1) 2 ∧ (∀ i, i < 256 → aI h1 (g + 174) i = aI h (P + 2) i) ∧ (∀ r, r < 8 → aL h1 (g + 176) r = 0) ∧ gI h1 (g + 172) 3 = 0 ∧ (∀ b, b < 8 → gI h1 (g + (177 + 3 * b)) 0 = 11 ∧ gI h1 (g + (177 + 3 * b)) 1 = 0) ∧ aI h1 (g + 260) 0 = 0 ∧ aI h1 (g + 260) 1 = 0 ∧ gI h1 g 9 = 0 ∧ gI h1 g 10 = 0 := by
  have hPl := pl_of hs hP
  obtain ⟨h1, u1, u2, u3, u4, u5, u6, u7, u8⟩ := c_stBegin h (g + 172) (P + 1) (by omega) (Cls_17 hs.1) (Plan_3 hPl) hb hz
  have og : ob h g 10 := Cls_0 hs.1
  have oS : ob h (g + 172) 8 := State_0 (Cls_17 hs.1)
  have oP : ob h P 6 := Plan_0 hPl
  have s1 : Sh h1 g := Sh_fr u2 (fun a z => by omega) hs
  have og1 : ob h1 g 10 := Cls_0 s1.1
  have r8 : rf h1 g 8 (g + 260) := Cls_5 s1.1
  have t8 : arI h1 (g + 260) 3 := Cls_24 s1.1
  have n8 : aln h1 (g + 260) = 2 := Cls_25 s1.1
  have x2 : Fr (fun a => a = g + 260) NF h1 (wI (wI h1 (g + 260) 0 0) (g + 260) 1 0) := by
    have y1 : Fr (fun a => a = g + 260) NF h1 (wI h1 (g + 260) 0 0) := Fr_wI _ _ _ _ rfl
    exact y1.tr (Fr_wI _ _ _ _ rfl)
  have a0 : aI (wI (wI h1 (g + 260) 0 0) (g + 260) 1 0) (g + 260) 0 = 0 := by
    rw [aI_wI _ _ _ _ _ _ (by simp only [arI_wI]; exact t8), if_neg (by omega), aI_wI _ _ _ _ _ _ t8, if_pos ⟨rfl, rfl⟩]
  have a1 : aI (wI (wI h1 (g + 260) 0 0) (g + 260) 1 0) (g + 260) 1 = 0 := by
    rw [aI_wI _ _ _ _ _ _ (by simp only [arI_wI]; exact t8), if_pos ⟨rfl, rfl⟩]
  have nr : vp_nar .boolean 0 = 0 := by decide
  have v0 : vp_in (nI 0) 2 := vp_in_nI (by omega) (by decide)
  have v0 : vp_in 0 2 := v0
  have v1 : vp_in (nI 1) 2 := vp_in_nI (by omega) (by decide)
  have v1 : vp_in 1 2 := v1
  have c0 : (0 : Int32).toNatClampNeg = 0 := by decide
  have c1 : (1 : Int32).toNatClampNeg = 1 := by decide
  have ent : ev 97 0 [some (.ref g), none] [] h = ev 97 16 [some (.ref g), some (.int 0)] [] h1 := by
    simp +decide only [e97_0, e97_1, e97_4, e97_5, e97_8, e97_11, e97_14, e97_15, og, oS, oP, rf_g rP, rf_is rP, rf_g (Cls_3 hs.1), rf_is (Cls_3 hs.1), rf_g (Plan_1 hPl), rf_is (Plan_1 hPl), u1, vkk_n, vkk_i, vkk_r, vkk_l, vkk_d, catS_nil, catS_i, catS_r, catS_l, catS_d, Nat.reduceAdd, Nat.reduceLeDiff, Nat.zero_le, Nat.le_refl, Option.bind_some, Option.toList_some, Option.toList_none, List.cons_append, List.nil_append, or_true, true_or, if_true, if_false, Int32.reduceLT, Int32.reduceLE, not_true, not_false_iff, true_and, and_true, false_and, and_false]
  have st1 : ev 97 16 [some (.ref g), some (.int 0)] [] h1 = ev 97 16 [some (.ref g), some (.int 1)] [] (wI h1 (g + 260) 0 0) := by
    have st0 : ev 97 16 [some (.ref g), some (.int 0)] [] h1 = ev 97 21 [some (.ref g), some (.int 0)] [] h1 := by
      simp +decide only [e97_16, e97_17, e97_18, vkk_n, vkk_i, vkk_r, vkk_l, vkk_d, catS_nil, catS_i, catS_r, catS_l, catS_d, Nat.reduceAdd, Nat.reduceLeDiff, Nat.zero_le, Nat.le_refl, Option.bind_some, Option.toList_some, Option.toList_none, List.cons_append, List.nil_append, or_true, true_or, if_true, if_false, Int32.reduceLT, Int32.reduceLE, not_true, not_false_iff, true_and, and_true, false_and, and_false]
    rw [st0]
    generalize hZ : ev 97 16 [some (.ref g), some (.int 1)] [] (wI h1 (g + 260) 0 0) = Z
    simp +decide only [e97_21, e97_22, e97_25, e97_26, e97_27, e97_27z, e97_28, e97_31, og1, rf_g r8, rf_is r8, t8, n8, v0, c0, nr, vkk_n, vkk_i, vkk_r, vkk_l, vkk_d, catS_nil, catS_i, catS_r, catS_l, catS_d, Nat.reduceAdd, Nat.reduceLeDiff, Nat.zero_le, Nat.le_refl, Option.bind_some, Option.toList_some, Option.toList_none, List.cons_append, List.nil_append, or_true, true_or, if_true, if_false, Int32.reduceLT, Int32.reduceLE, not_true, not_false_iff, true_and, and_true, false_and, and_false]
    exact hZ
  have st2 : ev 97 16 [some (.ref g), some (.int 1)] [] (wI h1 (g + 260) 0 0) = ev 97 16 [some (.ref g), some (.int 2)] [] (wI (wI h1 (g + 260) 0 0) (g + 260) 1 0) := by
    have st0 : ev 97 16 [some (.ref g), some (.int 1)] [] (wI h1 (g + 260) 0 0) = ev 97 21 [some (.ref g), some (.int 1)] [] (wI h1 (g + 260) 0 0) := by
      simp +decide only [e97_16, e97_17, e97_18, vkk_n, vkk_i, vkk_r, vkk_l, vkk_d, catS_nil, catS_i, catS_r, catS_l, catS_d, Nat.reduceAdd, Nat.reduceLeDiff, Nat.zero_le, Nat.le_refl, Option.bind_some, Option.toList_some, Option.toList_none, List.cons_append, List.nil_append, or_true, true_or, if_true, if_false, Int32.reduceLT, Int32.reduceLE, not_true, not_false_iff, true_and, and_true, false_and, and_false]
    rw [st0]
    generalize hZ : ev 97 16 [some (.ref g), some (.int 2)] [] (wI (wI h1 (g + 260) 0 0) (g + 260) 1 0) = Z
    have y1 : Fr (fun a => a = g + 260) NF h1 (wI h1 (g + 260) 0 0) := Fr_wI _ _ _ _ rfl
    have s2 : Sh (wI h1 (g + 260) 0 0) g := Sh_fr y1 (fun a z => by omega) s1
    have og2 : ob (wI h1 (g + 260) 0 0) g 10 := Cls_0 s2.1
    have r82 : rf (wI h1 (g + 260) 0 0) g 8 (g + 260) := Cls_5 s2.1
    have t82 : arI (wI h1 (g + 260) 0 0) (g + 260) 3 := Cls_24 s2.1
    have n82 : aln (wI h1 (g + 260) 0 0) (g + 260) = 2 := Cls_25 s2.1
    simp +decide only [e97_21, e97_22, e97_25, e97_26, e97_27, e97_27z, e97_28, e97_31, og2, rf_g r82, rf_is r82, t82, n82, v1, c1, nr, vkk_n, vkk_i, vkk_r, vkk_l, vkk_d, catS_nil, catS_i, catS_r, catS_l, catS_d, Nat.reduceAdd, Nat.reduceLeDiff, Nat.zero_le, Nat.le_refl, Option.bind_some, Option.toList_some, Option.toList_none, List.cons_append, List.nil_append, or_true, true_or, if_true, if_false, Int32.reduceLT, Int32.reduceLE, not_true, not_false_iff, true_and, and_true, false_and, and_false]
    exact hZ
  rw [ent, st1, st2]
  generalize wI (wI h1 (g + 260) 0 0) (g + 260) 1 0 = h2 at x2 a0 a1
  have s2 : Sh h2 g := Sh_fr x2 (fun a z => by omega) s1
  have og2 : ob h2 g 10 := Cls_0 s2.1
  have x3 : Fr NR (fun a k => a = g ∧ (k = 9 ∨ k = 10)) h2 (pI (pI h2 g 9 0) g 10 0) := (Fr_pI _ _ _ _ ⟨rfl, Or.inl rfl⟩).tr (Fr_pI _ _ _ _ ⟨rfl, Or.inr rfl⟩)
  have e9 : gI (pI (pI h2 g 9 0) g 10 0) g 9 = 0 := by simp +decide only [gI_pI, isI_pI, (eq_true (isI_ob og2 rfl : isI h2 g 9)), true_and, and_true, false_and, and_false, if_true, if_false]
  have e10 : gI (pI (pI h2 g 9 0) g 10 0) g 10 = 0 := by simp +decide only [gI_pI, isI_pI, (eq_true (isI_ob og2 rfl : isI h2 g 10)), true_and, and_true, false_and, and_false, if_true, if_false]
  refine ⟨pI (pI h2 g 9 0) g 10 0, ?_, ((u2.mo (fun a z => by omega) (fun a k z => by omega)).tr (x2.mo (fun a z => by omega) (fun a k z => z.elim))).tr (x3.mo (fun a z => z.elim) (fun a k z => by omega)), ?_, ?_, fun i hi => ?_, fun r hr => ?_, ?_, fun b hb' => ?_, ?_, ?_, e9, e10⟩
  · simp +decide only [e97_16, e97_17, e97_18, e97_34, e97_35, e97_36, e97_39, e97_40, e97_41, e97_44, og2, ob_pI, vkk_n, vkk_i, vkk_r, vkk_l, vkk_d, catS_nil, catS_i, catS_r, catS_l, catS_d, Nat.reduceAdd, Nat.reduceLeDiff, Nat.zero_le, Nat.le_refl, Option.bind_some, Option.toList_some, Option.toList_none, List.cons_append, List.nil_append, or_true, true_or, if_true, if_false, Int32.reduceLT, Int32.reduceLE, not_true, not_false_iff, true_and, and_true, false_and, and_false]
  · exact (x3.gI (fun z => by omega)).trans ((x2.gI (fun z => z)).trans u3)
  · exact (x3.gI (fun z => by omega)).trans ((x2.gI (fun z => z)).trans u4)
  · rw [x3.I (fun z => z), x2.I (fun z => by omega)]
    exact u5 i hi
  · rw [x3.L (fun z => z), x2.L (fun z => by omega)]
    exact u6 r hr
  · exact (x3.gI (fun z => by omega)).trans ((x2.gI (fun z => z)).trans u7)
  · have w := u8 b hb'
    rw [show g + 172 + (5 + 3 * b) = g + (177 + 3 * b) by omega] at w
    exact ⟨(x3.gI (fun z => by omega)).trans ((x2.gI (fun z => z)).trans w.1), (x3.gI (fun z => by omega)).trans ((x2.gI (fun z => z)).trans w.2)⟩
  · rw [x3.I (fun z => z)]
    exact a0
  · rw [x3.I (fun z => z)]
    exact a1
