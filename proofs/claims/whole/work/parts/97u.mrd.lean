/-! read: the model, from its beginning; what it keeps -/
set_option maxHeartbeats 4000000 in
theorem l_cme (g : Nat) (V0 : Nat → Int32) : ∀ (d k : Nat) (h : VG), k + d = 6 → Sh h g → (∀ i, i < 6 → aI h (g + 278) (i) = V0 i) → ∃ h1, ev 153 181 [some (.ref (g + 266)), some (.int (nI k))] [] h = ev 153 205 [some (.ref (g + 266)), some (.int (nI 6))] [] h1 ∧ Fr (fun a => a = g + 274) NF h h1 ∧ (∀ i, k ≤ i → i < 6 → aI h1 (g + 274) (i) = V0 i) ∧ ∀ j, ¬ (k ≤ j ∧ j < 6) → aI h1 (g + 274) j = aI h (g + 274) j := by
  intro d
  induction d with
  | zero =>
    intro k h hk hs _
    obtain rfl : k = 6 := by omega
    have q : ¬ nI 6 < nI 6 := by rw [nI_ltI (by omega) (by omega)]; omega
    refine ⟨h, ?_, Fr.rfl _, fun i h1 h2 => by omega, fun j _ => rfl⟩
    have q' : ¬ (6 : Int32) < 6 := q
    rw [show nI 6 = (6 : Int32) from rfl]
    simp +decide only [e153_181, e153_182, e153_184, q', vkk_n, vkk_n, vkk_i, vkk_r, vkk_l, vkk_d, catS_nil, catS_i, catS_r, catS_l, catS_d, Nat.reduceAdd, Nat.reduceLeDiff, Nat.zero_le, Nat.le_refl, Option.bind_some, Option.toList_some, Option.toList_none, List.cons_append, List.nil_append, or_true, true_or, if_true, if_false, Int32.reduceLT, Int32.reduceLE, not_true, not_false_iff, true_and, and_true, false_and, and_false]
  | succ d ih =>
    intro k h hk hs r0
    have q : nI k < nI 6 := nI_lt (by omega) (by omega)
    have q' : nI k < 6 := q
    have e0 := r0 k (by omega)
    have t0 : arI h (g + 274) 0 := Mod_23 hs.2.1
    have iv1 : vp_in (nI (k)) 6 := vp_in_nI (by omega) (by decide)
    have ic1 : (nI (k)).toNatClampNeg = k := nI_clamp (by omega)
    have x1 : Fr (fun a => a = g + 274) NF h (wI h (g + 274) (k) (V0 k)) := (Fr.rfl h).tr (Fr_wI _ _ _ _ (rfl))
    have y1 : ∀ j, ¬ j = k → aI (wI h (g + 274) (k) (V0 k)) (g + 274) j = aI h (g + 274) j := by
      intro j hj
      rw [aI_wI_j _ _ _ _ _ _ hj]
    have y2 : aI (wI h (g + 274) (k) (V0 k)) (g + 274) (k) = V0 k := by
      rw [aI_wI0 _ _ _ _ _ _ t0, if_pos ⟨rfl, rfl⟩]
    have s1 : Sh (wI h (g + 274) (k) (V0 k)) g := Sh_fr x1 (fun a z => by omega) hs
    obtain ⟨h1, u1, u2, u3, u4⟩ := ih (k + 1) _ (by omega) s1 (fun i hi => by rw [x1.I (a := g + 278) (fun z => by omega)]; exact r0 i hi)
    refine ⟨h1, ?_, x1.tr u2, fun i i1 i2 => ?_, fun j hj => ?_⟩
    · simp +decide only [e153_181, e153_182, e153_184, q', vkk_n, if_true]
      simp +decide only [e153_187, e153_188, e153_191, e153_192, e153_193, e153_196, e153_197, e153_198, e153_199, e153_202, nI_add, iv1, ic1, e0, (Mod_0 hs.2.1 : ob h (g + 266) 11), (rf_g (Mod_22 hs.2.1 : rf h (g + 266) 20 (g + 274)) : gR h (g + 266) 20 = (g + 274)), (rf_is (Mod_22 hs.2.1 : rf h (g + 266) 20 (g + 274)) : isR h (g + 266) 20), (Mod_23 hs.2.1 : arI h (g + 274) 0), (rdI_0 (Mod_23 hs.2.1 : arI h (g + 274) 0) : rdI h (g + 274)), (Mod_24 hs.2.1 : aln h (g + 274) = 6), (rf_g (Mod_34 hs.2.1 : rf h (g + 266) 27 (g + 278)) : gR h (g + 266) 27 = (g + 278)), (rf_is (Mod_34 hs.2.1 : rf h (g + 266) 27 (g + 278)) : isR h (g + 266) 27), (Mod_35 hs.2.1 : arI h (g + 278) 0), (rdI_0 (Mod_35 hs.2.1 : arI h (g + 278) 0) : rdI h (g + 278)), (Mod_36 hs.2.1 : aln h (g + 278) = 6), nI_1, ob_pI, rf_pI, isR_pI, isI_pI, isL_pI, arI_pI, arL_pI, arR_pI, arD_pI, aln_pI, rdI_pI, rdB_pI, rdR_pI, aR_pI, pI_2, gI_pI, gL_pI, gD_pI, gR_pI, aI_pI, aL_pI, aD_pI, ob_pL, rf_pL, isR_pL, isI_pL, isL_pL, arI_pL, arL_pL, arR_pL, arD_pL, aln_pL, rdI_pL, rdB_pL, rdR_pL, aR_pL, pL_2, gI_pL, gL_pL, gD_pL, gR_pL, aI_pL, aL_pL, aD_pL, ob_pD, rf_pD, isR_pD, isI_pD, isL_pD, arI_pD, arL_pD, arR_pD, arD_pD, aln_pD, rdI_pD, rdB_pD, rdR_pD, aR_pD, pD_2, gI_pD, gL_pD, gD_pD, gR_pD, aI_pD, aL_pD, aD_pD, ob_wI, rf_wI, isR_wI, isI_wI, isL_wI, arI_wI, arL_wI, arR_wI, arD_wI, aln_wI, rdI_wI, rdB_wI, rdR_wI, aR_wI, wI_2, gI_wI, gL_wI, gD_wI, gR_wI, aL_wI, aD_wI, aI_wI_ne, ob_wL, rf_wL, isR_wL, isI_wL, isL_wL, arI_wL, arL_wL, arR_wL, arD_wL, aln_wL, rdI_wL, rdB_wL, rdR_wL, aR_wL, wL_2, gI_wL, gL_wL, gD_wL, gR_wL, aI_wL, aD_wL, aL_wL_ne, ob_wD, rf_wD, isR_wD, isI_wD, isL_wD, arI_wD, arL_wD, arR_wD, arD_wD, aln_wD, rdI_wD, rdB_wD, rdR_wD, aR_wD, wD_2, gI_wD, gL_wD, gD_wD, gR_wD, aI_wD, aL_wD, aD_wD_ne, ob_bI, rf_bI, isR_bI, isI_bI, isL_bI, arI_bI, arL_bI, arR_bI, arD_bI, aln_bI, rdI_bI, rdB_bI, rdR_bI, aR_bI, bI_2, gI_bI, gL_bI, gD_bI, gR_bI, aL_bI, aD_bI, aI_bI_ne, ob_bL, rf_bL, isR_bL, isI_bL, isL_bL, arI_bL, arL_bL, arR_bL, arD_bL, aln_bL, rdI_bL, rdB_bL, rdR_bL, aR_bL, bL_2, gI_bL, gL_bL, gD_bL, gR_bL, aI_bL, aD_bL, aL_bL_ne, gI_pI, gL_pL, gD_pD, isI_pI, isL_pI, isD_pI, isI_pL, isL_pL, isD_pL, isI_pD, isL_pD, isD_pD, vkk_n, vkk_i, vkk_r, vkk_l, vkk_d, catS_nil, catS_i, catS_r, catS_l, catS_d, Nat.reduceAdd, Nat.reduceLeDiff, Nat.zero_le, Nat.le_refl, Option.bind_some, Option.toList_some, Option.toList_none, List.cons_append, List.nil_append, or_true, true_or, if_true, if_false, Int32.reduceLT, Int32.reduceLE, not_true, not_false_iff, true_and, and_true, false_and, and_false, Nat.add_assoc, Nat.reduceAdd, Nat.add_left_cancel_iff, Nat.reduceEqDiff, Nat.add_eq_left, Nat.left_eq_add]
      exact u1
    · by_cases ik : i = k
      · subst ik
        have a := u4 (i) (by omega)
        rw [a]
        exact y2
      · exact u3 i (by omega) i2
    · have a := u4 j (by omega)
      rw [a]
      exact y1 j (by omega)
set_option maxHeartbeats 4000000 in
theorem l_ckc (g : Nat) (V0 : Nat → Int32) (V1 : Nat → Int32) : ∀ (d k : Nat) (h : VG), k + d = 48 → Sh h g → (∀ i, i < 48 → aI h (g + 279) (i) = V0 i) → (∀ i, i < 48 → aI h (g + 280) (i) = V1 i) → ∃ h1, ev 153 207 [some (.ref (g + 266)), some (.int (nI k))] [] h = ev 153 243 [some (.ref (g + 266)), some (.int (nI 48))] [] h1 ∧ Fr (fun a => a = g + 275 ∨ a = g + 276) NF h h1 ∧ (∀ i, k ≤ i → i < 48 → aI h1 (g + 275) (i) = V0 i ∧ aI h1 (g + 276) (i) = V1 i) ∧ ∀ j, ¬ (k ≤ j ∧ j < 48) → aI h1 (g + 275) j = aI h (g + 275) j ∧ aI h1 (g + 276) j = aI h (g + 276) j := by
  intro d
  induction d with
  | zero =>
    intro k h hk hs _ _
    obtain rfl : k = 48 := by omega
    have q : ¬ nI 48 < nI 48 := by rw [nI_ltI (by omega) (by omega)]; omega
    refine ⟨h, ?_, Fr.rfl _, fun i h1 h2 => by omega, fun j _ => ⟨rfl, rfl⟩⟩
    have q' : ¬ (48 : Int32) < 48 := q
    rw [show nI 48 = (48 : Int32) from rfl]
    simp +decide only [e153_207, e153_208, e153_210, q', vkk_n, vkk_n, vkk_i, vkk_r, vkk_l, vkk_d, catS_nil, catS_i, catS_r, catS_l, catS_d, Nat.reduceAdd, Nat.reduceLeDiff, Nat.zero_le, Nat.le_refl, Option.bind_some, Option.toList_some, Option.toList_none, List.cons_append, List.nil_append, or_true, true_or, if_true, if_false, Int32.reduceLT, Int32.reduceLE, not_true, not_false_iff, true_and, and_true, false_and, and_false]
  | succ d ih =>
    intro k h hk hs r0 r1
    have q : nI k < nI 48 := nI_lt (by omega) (by omega)
    have q' : nI k < 48 := q
    have e0 := r0 k (by omega)
    have t0 : arI h (g + 275) 0 := Mod_26 hs.2.1
    have e1 := r1 k (by omega)
    have t1 : arI h (g + 276) 0 := Mod_29 hs.2.1
    have iv1 : vp_in (nI (k)) 48 := vp_in_nI (by omega) (by decide)
    have ic1 : (nI (k)).toNatClampNeg = k := nI_clamp (by omega)
    have x1 : Fr (fun a => a = g + 275 ∨ a = g + 276) NF h (wI (wI h (g + 275) (k) (V0 k)) (g + 276) (k) (V1 k)) := ((Fr.rfl h).tr (Fr_wI _ _ _ _ (Or.inl rfl))).tr (Fr_wI _ _ _ _ (Or.inr rfl))
    have y1 : ∀ j, ¬ j = k → aI (wI (wI h (g + 275) (k) (V0 k)) (g + 276) (k) (V1 k)) (g + 275) j = aI h (g + 275) j ∧ aI (wI (wI h (g + 275) (k) (V0 k)) (g + 276) (k) (V1 k)) (g + 276) j = aI h (g + 276) j := by
      intro j hj
      refine ⟨?_, ?_⟩
      · rw [aI_wI_ne _ _ _ _ _ _ (by omega), aI_wI_j _ _ _ _ _ _ hj]
      · rw [aI_wI_j _ _ _ _ _ _ hj, aI_wI_ne _ _ _ _ _ _ (by omega)]
    have y2 : aI (wI (wI h (g + 275) (k) (V0 k)) (g + 276) (k) (V1 k)) (g + 275) (k) = V0 k ∧ aI (wI (wI h (g + 275) (k) (V0 k)) (g + 276) (k) (V1 k)) (g + 276) (k) = V1 k := by
      refine ⟨?_, ?_⟩
      · rw [aI_wI_ne _ _ _ _ _ _ (by omega), aI_wI0 _ _ _ _ _ _ t0, if_pos ⟨rfl, rfl⟩]
      · rw [aI_wI0 _ _ _ _ _ _ (by simp only [arI_wI, arI_wL, arI_wD]; exact t1), if_pos ⟨rfl, rfl⟩]
    have s1 : Sh (wI (wI h (g + 275) (k) (V0 k)) (g + 276) (k) (V1 k)) g := Sh_fr x1 (fun a z => by omega) hs
    obtain ⟨h1, u1, u2, u3, u4⟩ := ih (k + 1) _ (by omega) s1 (fun i hi => by rw [x1.I (a := g + 279) (fun z => by omega)]; exact r0 i hi) (fun i hi => by rw [x1.I (a := g + 280) (fun z => by omega)]; exact r1 i hi)
    refine ⟨h1, ?_, x1.tr u2, fun i i1 i2 => ?_, fun j hj => ?_⟩
    · simp +decide only [e153_207, e153_208, e153_210, q', vkk_n, if_true]
      simp +decide only [e153_213, e153_214, e153_217, e153_218, e153_219, e153_222, e153_223, e153_224, e153_225, e153_226, e153_229, e153_230, e153_231, e153_234, e153_235, e153_236, e153_237, e153_240, nI_add, iv1, ic1, e0, e1, (Mod_0 hs.2.1 : ob h (g + 266) 11), (rf_g (Mod_25 hs.2.1 : rf h (g + 266) 21 (g + 275)) : gR h (g + 266) 21 = (g + 275)), (rf_is (Mod_25 hs.2.1 : rf h (g + 266) 21 (g + 275)) : isR h (g + 266) 21), (Mod_26 hs.2.1 : arI h (g + 275) 0), (rdI_0 (Mod_26 hs.2.1 : arI h (g + 275) 0) : rdI h (g + 275)), (Mod_27 hs.2.1 : aln h (g + 275) = 48), (rf_g (Mod_28 hs.2.1 : rf h (g + 266) 22 (g + 276)) : gR h (g + 266) 22 = (g + 276)), (rf_is (Mod_28 hs.2.1 : rf h (g + 266) 22 (g + 276)) : isR h (g + 266) 22), (Mod_29 hs.2.1 : arI h (g + 276) 0), (rdI_0 (Mod_29 hs.2.1 : arI h (g + 276) 0) : rdI h (g + 276)), (Mod_30 hs.2.1 : aln h (g + 276) = 48), (rf_g (Mod_37 hs.2.1 : rf h (g + 266) 28 (g + 279)) : gR h (g + 266) 28 = (g + 279)), (rf_is (Mod_37 hs.2.1 : rf h (g + 266) 28 (g + 279)) : isR h (g + 266) 28), (Mod_38 hs.2.1 : arI h (g + 279) 0), (rdI_0 (Mod_38 hs.2.1 : arI h (g + 279) 0) : rdI h (g + 279)), (Mod_39 hs.2.1 : aln h (g + 279) = 48), (rf_g (Mod_40 hs.2.1 : rf h (g + 266) 29 (g + 280)) : gR h (g + 266) 29 = (g + 280)), (rf_is (Mod_40 hs.2.1 : rf h (g + 266) 29 (g + 280)) : isR h (g + 266) 29), (Mod_41 hs.2.1 : arI h (g + 280) 0), (rdI_0 (Mod_41 hs.2.1 : arI h (g + 280) 0) : rdI h (g + 280)), (Mod_42 hs.2.1 : aln h (g + 280) = 48), nI_1, ob_pI, rf_pI, isR_pI, isI_pI, isL_pI, arI_pI, arL_pI, arR_pI, arD_pI, aln_pI, rdI_pI, rdB_pI, rdR_pI, aR_pI, pI_2, gI_pI, gL_pI, gD_pI, gR_pI, aI_pI, aL_pI, aD_pI, ob_pL, rf_pL, isR_pL, isI_pL, isL_pL, arI_pL, arL_pL, arR_pL, arD_pL, aln_pL, rdI_pL, rdB_pL, rdR_pL, aR_pL, pL_2, gI_pL, gL_pL, gD_pL, gR_pL, aI_pL, aL_pL, aD_pL, ob_pD, rf_pD, isR_pD, isI_pD, isL_pD, arI_pD, arL_pD, arR_pD, arD_pD, aln_pD, rdI_pD, rdB_pD, rdR_pD, aR_pD, pD_2, gI_pD, gL_pD, gD_pD, gR_pD, aI_pD, aL_pD, aD_pD, ob_wI, rf_wI, isR_wI, isI_wI, isL_wI, arI_wI, arL_wI, arR_wI, arD_wI, aln_wI, rdI_wI, rdB_wI, rdR_wI, aR_wI, wI_2, gI_wI, gL_wI, gD_wI, gR_wI, aL_wI, aD_wI, aI_wI_ne, ob_wL, rf_wL, isR_wL, isI_wL, isL_wL, arI_wL, arL_wL, arR_wL, arD_wL, aln_wL, rdI_wL, rdB_wL, rdR_wL, aR_wL, wL_2, gI_wL, gL_wL, gD_wL, gR_wL, aI_wL, aD_wL, aL_wL_ne, ob_wD, rf_wD, isR_wD, isI_wD, isL_wD, arI_wD, arL_wD, arR_wD, arD_wD, aln_wD, rdI_wD, rdB_wD, rdR_wD, aR_wD, wD_2, gI_wD, gL_wD, gD_wD, gR_wD, aI_wD, aL_wD, aD_wD_ne, ob_bI, rf_bI, isR_bI, isI_bI, isL_bI, arI_bI, arL_bI, arR_bI, arD_bI, aln_bI, rdI_bI, rdB_bI, rdR_bI, aR_bI, bI_2, gI_bI, gL_bI, gD_bI, gR_bI, aL_bI, aD_bI, aI_bI_ne, ob_bL, rf_bL, isR_bL, isI_bL, isL_bL, arI_bL, arL_bL, arR_bL, arD_bL, aln_bL, rdI_bL, rdB_bL, rdR_bL, aR_bL, bL_2, gI_bL, gL_bL, gD_bL, gR_bL, aI_bL, aD_bL, aL_bL_ne, gI_pI, gL_pL, gD_pD, isI_pI, isL_pI, isD_pI, isI_pL, isL_pL, isD_pL, isI_pD, isL_pD, isD_pD, vkk_n, vkk_i, vkk_r, vkk_l, vkk_d, catS_nil, catS_i, catS_r, catS_l, catS_d, Nat.reduceAdd, Nat.reduceLeDiff, Nat.zero_le, Nat.le_refl, Option.bind_some, Option.toList_some, Option.toList_none, List.cons_append, List.nil_append, or_true, true_or, if_true, if_false, Int32.reduceLT, Int32.reduceLE, not_true, not_false_iff, true_and, and_true, false_and, and_false, Nat.add_assoc, Nat.reduceAdd, Nat.add_left_cancel_iff, Nat.reduceEqDiff, Nat.add_eq_left, Nat.left_eq_add]
      exact u1
    · by_cases ik : i = k
      · subst ik
        have a := u4 (i) (by omega)
        rw [a.1, a.2]
        exact y2
      · exact u3 i (by omega) i2
    · have a := u4 j (by omega)
      rw [a.1, a.2]
      exact y1 j (by omega)
set_option maxHeartbeats 4000000 in
theorem l_cmm (g : Nat) (V0 : Nat → Int32) : ∀ (d k : Nat) (h : VG), k + d = 256 → Sh h g → (∀ i, i < 256 → aI h (g + 281) (i) = V0 i) → ∃ h1, ev 153 245 [some (.ref (g + 266)), some (.int (nI k))] [] h = ev 153 270 [some (.ref (g + 266)), some (.int (nI 256))] [] h1 ∧ Fr (fun a => a = g + 277) NF h h1 ∧ (∀ i, k ≤ i → i < 256 → aI h1 (g + 277) (i) = V0 i) ∧ ∀ j, ¬ (k ≤ j ∧ j < 256) → aI h1 (g + 277) j = aI h (g + 277) j := by
  intro d
  induction d with
  | zero =>
    intro k h hk hs _
    obtain rfl : k = 256 := by omega
    have q : ¬ nI 256 < nI 256 := by rw [nI_ltI (by omega) (by omega)]; omega
    refine ⟨h, ?_, Fr.rfl _, fun i h1 h2 => by omega, fun j _ => rfl⟩
    have q' : ¬ (256 : Int32) < 256 := q
    rw [show nI 256 = (256 : Int32) from rfl]
    simp +decide only [e153_245, e153_246, e153_249, q', vkk_n, vkk_n, vkk_i, vkk_r, vkk_l, vkk_d, catS_nil, catS_i, catS_r, catS_l, catS_d, Nat.reduceAdd, Nat.reduceLeDiff, Nat.zero_le, Nat.le_refl, Option.bind_some, Option.toList_some, Option.toList_none, List.cons_append, List.nil_append, or_true, true_or, if_true, if_false, Int32.reduceLT, Int32.reduceLE, not_true, not_false_iff, true_and, and_true, false_and, and_false]
  | succ d ih =>
    intro k h hk hs r0
    have q : nI k < nI 256 := nI_lt (by omega) (by omega)
    have q' : nI k < 256 := q
    have e0 := r0 k (by omega)
    have t0 : arI h (g + 277) 0 := Mod_32 hs.2.1
    have iv1 : vp_in (nI (k)) 256 := vp_in_nI (by omega) (by decide)
    have ic1 : (nI (k)).toNatClampNeg = k := nI_clamp (by omega)
    have x1 : Fr (fun a => a = g + 277) NF h (wI h (g + 277) (k) (V0 k)) := (Fr.rfl h).tr (Fr_wI _ _ _ _ (rfl))
    have y1 : ∀ j, ¬ j = k → aI (wI h (g + 277) (k) (V0 k)) (g + 277) j = aI h (g + 277) j := by
      intro j hj
      rw [aI_wI_j _ _ _ _ _ _ hj]
    have y2 : aI (wI h (g + 277) (k) (V0 k)) (g + 277) (k) = V0 k := by
      rw [aI_wI0 _ _ _ _ _ _ t0, if_pos ⟨rfl, rfl⟩]
    have s1 : Sh (wI h (g + 277) (k) (V0 k)) g := Sh_fr x1 (fun a z => by omega) hs
    obtain ⟨h1, u1, u2, u3, u4⟩ := ih (k + 1) _ (by omega) s1 (fun i hi => by rw [x1.I (a := g + 281) (fun z => by omega)]; exact r0 i hi)
    refine ⟨h1, ?_, x1.tr u2, fun i i1 i2 => ?_, fun j hj => ?_⟩
    · simp +decide only [e153_245, e153_246, e153_249, q', vkk_n, if_true]
      simp +decide only [e153_252, e153_253, e153_256, e153_257, e153_258, e153_261, e153_262, e153_263, e153_264, e153_267, nI_add, iv1, ic1, e0, (Mod_0 hs.2.1 : ob h (g + 266) 11), (rf_g (Mod_31 hs.2.1 : rf h (g + 266) 23 (g + 277)) : gR h (g + 266) 23 = (g + 277)), (rf_is (Mod_31 hs.2.1 : rf h (g + 266) 23 (g + 277)) : isR h (g + 266) 23), (Mod_32 hs.2.1 : arI h (g + 277) 0), (rdI_0 (Mod_32 hs.2.1 : arI h (g + 277) 0) : rdI h (g + 277)), (Mod_33 hs.2.1 : aln h (g + 277) = 256), (rf_g (Mod_43 hs.2.1 : rf h (g + 266) 30 (g + 281)) : gR h (g + 266) 30 = (g + 281)), (rf_is (Mod_43 hs.2.1 : rf h (g + 266) 30 (g + 281)) : isR h (g + 266) 30), (Mod_44 hs.2.1 : arI h (g + 281) 0), (rdI_0 (Mod_44 hs.2.1 : arI h (g + 281) 0) : rdI h (g + 281)), (Mod_45 hs.2.1 : aln h (g + 281) = 256), nI_1, ob_pI, rf_pI, isR_pI, isI_pI, isL_pI, arI_pI, arL_pI, arR_pI, arD_pI, aln_pI, rdI_pI, rdB_pI, rdR_pI, aR_pI, pI_2, gI_pI, gL_pI, gD_pI, gR_pI, aI_pI, aL_pI, aD_pI, ob_pL, rf_pL, isR_pL, isI_pL, isL_pL, arI_pL, arL_pL, arR_pL, arD_pL, aln_pL, rdI_pL, rdB_pL, rdR_pL, aR_pL, pL_2, gI_pL, gL_pL, gD_pL, gR_pL, aI_pL, aL_pL, aD_pL, ob_pD, rf_pD, isR_pD, isI_pD, isL_pD, arI_pD, arL_pD, arR_pD, arD_pD, aln_pD, rdI_pD, rdB_pD, rdR_pD, aR_pD, pD_2, gI_pD, gL_pD, gD_pD, gR_pD, aI_pD, aL_pD, aD_pD, ob_wI, rf_wI, isR_wI, isI_wI, isL_wI, arI_wI, arL_wI, arR_wI, arD_wI, aln_wI, rdI_wI, rdB_wI, rdR_wI, aR_wI, wI_2, gI_wI, gL_wI, gD_wI, gR_wI, aL_wI, aD_wI, aI_wI_ne, ob_wL, rf_wL, isR_wL, isI_wL, isL_wL, arI_wL, arL_wL, arR_wL, arD_wL, aln_wL, rdI_wL, rdB_wL, rdR_wL, aR_wL, wL_2, gI_wL, gL_wL, gD_wL, gR_wL, aI_wL, aD_wL, aL_wL_ne, ob_wD, rf_wD, isR_wD, isI_wD, isL_wD, arI_wD, arL_wD, arR_wD, arD_wD, aln_wD, rdI_wD, rdB_wD, rdR_wD, aR_wD, wD_2, gI_wD, gL_wD, gD_wD, gR_wD, aI_wD, aL_wD, aD_wD_ne, ob_bI, rf_bI, isR_bI, isI_bI, isL_bI, arI_bI, arL_bI, arR_bI, arD_bI, aln_bI, rdI_bI, rdB_bI, rdR_bI, aR_bI, bI_2, gI_bI, gL_bI, gD_bI, gR_bI, aL_bI, aD_bI, aI_bI_ne, ob_bL, rf_bL, isR_bL, isI_bL, isL_bL, arI_bL, arL_bL, arR_bL, arD_bL, aln_bL, rdI_bL, rdB_bL, rdR_bL, aR_bL, bL_2, gI_bL, gL_bL, gD_bL, gR_bL, aI_bL, aD_bL, aL_bL_ne, gI_pI, gL_pL, gD_pD, isI_pI, isL_pI, isD_pI, isI_pL, isL_pL, isD_pL, isI_pD, isL_pD, isD_pD, vkk_n, vkk_i, vkk_r, vkk_l, vkk_d, catS_nil, catS_i, catS_r, catS_l, catS_d, Nat.reduceAdd, Nat.reduceLeDiff, Nat.zero_le, Nat.le_refl, Option.bind_some, Option.toList_some, Option.toList_none, List.cons_append, List.nil_append, or_true, true_or, if_true, if_false, Int32.reduceLT, Int32.reduceLE, not_true, not_false_iff, true_and, and_true, false_and, and_false, Nat.add_assoc, Nat.reduceAdd, Nat.add_left_cancel_iff, Nat.reduceEqDiff, Nat.add_eq_left, Nat.left_eq_add]
      exact u1
    · by_cases ik : i = k
      · subst ik
        have a := u4 (i) (by omega)
        rw [a]
        exact y2
      · exact u3 i (by omega) i2
    · have a := u4 j (by omega)
      rw [a]
      exact y1 j (by omega)
set_option maxHeartbeats 4000000 in
theorem l_mtext (g L : Nat) (b : Nat → Nat) (hL : L ≤ 2000) : ∀ d i h, i + d = L → Sh h g → gI h (g + 266) 4 = nI L → (∀ x, x < L → aI h (g + 267) x = sB (b x)) → (∀ x, x < i → aI h (g + 268) x = sB (b x)) → ∃ h1, ev 153 10 [some (.ref (g + 266)), some (.int (nI i))] [] h = ev 153 36 [some (.ref (g + 266)), some (.int (nI L))] [] h1 ∧ Fr (fun a => a = g + 268) NF h h1 ∧ ∀ x, x < L → aI h1 (g + 268) x = sB (b x) := by
  intro d
  induction d with
  | zero =>
    intro i h hd hs e4 hb hx
    obtain rfl : i = L := by omega
    have om : ob h (g + 266) 11 := Mod_0 hs.2.1
    have i1 : ¬ nI i < nI i := fun w => by have := (nI_ltI (by omega) (by omega)).mp w; omega
    refine ⟨h, ?_, Fr.rfl _, hx⟩
    simp +decide only [e153_10, e153_11, e153_12, e153_15, om, e4, i1, vkk_n, vkk_i, vkk_r, vkk_l, vkk_d, catS_nil, catS_i, catS_r, catS_l, catS_d, Nat.reduceAdd, Nat.reduceLeDiff, Nat.zero_le, Nat.le_refl, Option.bind_some, Option.toList_some, Option.toList_none, List.cons_append, List.nil_append, or_true, true_or, if_true, if_false, Int32.reduceLT, Int32.reduceLE, not_true, not_false_iff, true_and, and_true, false_and, and_false]
  | succ d ih =>
    intro i h hd hs e4 hb hx
    have om : ob h (g + 266) 11 := Mod_0 hs.2.1
    have i1 : nI i < nI L := nI_lt (by omega) (by omega)
    have v1 : vp_in (nI i) 2000 := vp_in_nI (by omega) (by decide)
    have v2 : (nI i).toNatClampNeg = i := nI_clamp (by omega)
    have t1 := hb i (by omega)
    have nr : vp_nar .byte (sB (b i)) = sB (b i) := by unfold sB; rw [vp_nar_byte, vp_nar_byte, Int8.toInt8_toInt32]
    have x1 : Fr (fun a => a = g + 268) NF h (wI h (g + 268) i (sB (b i))) := Fr_wI _ _ _ _ rfl
    have s1 : Sh (wI h (g + 268) i (sB (b i))) g := Sh_fr x1 (fun a z => by omega) hs
    obtain ⟨h2, n1, n2, n3⟩ := ih (i + 1) _ (by omega) s1 ((x1.gI (fun z => z)).trans e4) (fun x hx2 => (x1.I (fun z => by omega) x).trans (hb x hx2)) (fun x hx2 => by
      rw [aI_wI2 _ _ _ _ _ _ (Mod_5 hs.2.1)]
      by_cases e : x = i
      · rw [if_pos ⟨rfl, e⟩, e]
      · rw [if_neg (fun y => e y.2)]
        exact hx x (by omega))
    refine ⟨h2, ?_, x1.tr n2, n3⟩
    rw [← n1]
    generalize hZ : ev 153 10 [some (.ref (g + 266)), some (.int (nI (i + 1)))] [] (wI h (g + 268) i (sB (b i))) = Z
    have st0 : ev 153 10 [some (.ref (g + 266)), some (.int (nI i))] [] h = ev 153 18 [some (.ref (g + 266)), some (.int (nI i))] [] h := by
      simp +decide only [e153_10, e153_11, e153_12, e153_15, om, e4, i1, vkk_n, vkk_i, vkk_r, vkk_l, vkk_d, catS_nil, catS_i, catS_r, catS_l, catS_d, Nat.reduceAdd, Nat.reduceLeDiff, Nat.zero_le, Nat.le_refl, Option.bind_some, Option.toList_some, Option.toList_none, List.cons_append, List.nil_append, or_true, true_or, if_true, if_false, Int32.reduceLT, Int32.reduceLE, not_true, not_false_iff, true_and, and_true, false_and, and_false]
    rw [st0]
    have r2 := (rdB_2 (Mod_2 hs.2.1) : rdB h (g + 267))
    have r3 := (rdB_2 (Mod_5 hs.2.1) : rdB h (g + 268))
    simp +decide only [e153_18, e153_19, e153_22, e153_23, e153_24, e153_27, e153_28, e153_29, e153_29z, e153_30, e153_33, om, v1, v2, t1, nr, nI_1, nI_add, r2, r3, (Mod_0 hs.2.1 : ob h (g + 266) 11), (rf_g (Mod_1 hs.2.1 : rf h (g + 266) 1 (g + 267)) : gR h (g + 266) 1 = (g + 267)), (rf_is (Mod_1 hs.2.1 : rf h (g + 266) 1 (g + 267)) : isR h (g + 266) 1), (Mod_2 hs.2.1 : arI h (g + 267) 2), (rdB_2 (Mod_2 hs.2.1 : arI h (g + 267) 2) : rdB h (g + 267)), (Mod_3 hs.2.1 : aln h (g + 267) = 2000), (rf_g (Mod_4 hs.2.1 : rf h (g + 266) 3 (g + 268)) : gR h (g + 266) 3 = (g + 268)), (rf_is (Mod_4 hs.2.1 : rf h (g + 266) 3 (g + 268)) : isR h (g + 266) 3), (Mod_5 hs.2.1 : arI h (g + 268) 2), (rdB_2 (Mod_5 hs.2.1 : arI h (g + 268) 2) : rdB h (g + 268)), (Mod_6 hs.2.1 : aln h (g + 268) = 2000), vkk_n, vkk_i, vkk_r, vkk_l, vkk_d, catS_nil, catS_i, catS_r, catS_l, catS_d, Nat.reduceAdd, Nat.reduceLeDiff, Nat.zero_le, Nat.le_refl, Option.bind_some, Option.toList_some, Option.toList_none, List.cons_append, List.nil_append, or_true, true_or, if_true, if_false, Int32.reduceLT, Int32.reduceLE, not_true, not_false_iff, true_and, and_true, false_and, and_false]
    exact hZ
/-- the model before its lines -/
theorem c_mread0 {h : VG} {g L : Nat} {b : Nat → Nat} (hs : Sh h g) (hL : L ≤ 2000) (e2 : gI h (g + 266) 2 = nI L) (hb : ∀ x, x < L → b x < 256 ∧ aI h (g + 267) x = sB (b x)) (hk : ∀ j, j < 14 → aL h (g + 273) j = mKey j) : ∃ (h1 : VG) (c : Nat), ev 153 0 [some (.ref (g + 266)), none] [] h = ev 153 65 [some (.ref (g + 266)), some (.int (nI L))] [] h1 ∧ Fr (fun a => g + 267 < a ∧ a < g + 273) (fun a k => a = g + 266 ∧ (k = 2 ∨ k = 4 ∨ k = 10 ∨ k = 11 ∨ k = 12 ∨ k = 14 ∨ k = 26)) h h1 ∧ MC h1 g b L c ∧ MX h1 g b L c (0, 0) ∧ gI h1 (g + 266) 2 = 0 ∧ gI h1 (g + 266) 10 = nI c ∧ gI h1 (g + 266) 14 = 0 ∧ gI h1 (g + 266) 26 = nI 0 ∧ ∀ x, x + 1 < c → ¬ kd b L x = 0 := by
  have om : ob h (g + 266) 11 := Mod_0 hs.2.1
  have x1 : Fr NR (fun a k => a = g + 266 ∧ k = 4) h (pI h (g + 266) 4 (nI L)) := Fr_pI _ _ _ _ ⟨rfl, rfl⟩
  have e4 : gI (pI h (g + 266) 4 (nI L)) (g + 266) 4 = nI L := by simp +decide only [gI_pI, (eq_true (isI_ob om rfl : isI h (g + 266) 4)), true_and, and_true, if_true]
  have ent : ev 153 0 [some (.ref (g + 266)), none] [] h = ev 153 10 [some (.ref (g + 266)), some (.int (nI 0))] [] (pI h (g + 266) 4 (nI L)) := by
    simp +decide only [e153_0, e153_1, e153_2, e153_5, e153_8, e153_9, om, e2, vkk_n, vkk_i, vkk_r, vkk_l, vkk_d, catS_nil, catS_i, catS_r, catS_l, catS_d, Nat.reduceAdd, Nat.reduceLeDiff, Nat.zero_le, Nat.le_refl, Option.bind_some, Option.toList_some, Option.toList_none, List.cons_append, List.nil_append, or_true, true_or, if_true, if_false, Int32.reduceLT, Int32.reduceLE, not_true, not_false_iff, true_and, and_true, false_and, and_false]
    rfl
  rw [ent]
  generalize pI h (g + 266) 4 (nI L) = H at x1 e4
  have sH : Sh H g := Sh_fr x1 (fun a z => z.elim) hs
  obtain ⟨h1, a1, a2, a3⟩ := l_mtext g L b hL L 0 H (by omega) sH e4 (fun x hx => (x1.I (fun z => z) x).trans (hb x hx).2) (fun x hx => absurd hx (Nat.not_lt_zero _))
  rw [a1]
  have s1 : Sh h1 g := Sh_fr a2 (fun a z => by omega) sH
  have om1 : ob h1 (g + 266) 11 := Mod_0 s1.2.1
  have x2 : Fr NR (fun a k => a = g + 266 ∧ k = 2) h1 (pI h1 (g + 266) 2 0) := Fr_pI _ _ _ _ ⟨rfl, rfl⟩
  have e22 : gI (pI h1 (g + 266) 2 0) (g + 266) 2 = 0 := by simp +decide only [gI_pI, (eq_true (isI_ob om1 rfl : isI h1 (g + 266) 2)), true_and, and_true, if_true]
  have ent2 : ev 153 36 [some (.ref (g + 266)), some (.int (nI L))] [] h1 = ev 153 42 [some (.ref (g + 266)), some (.int (nI L))] [.ref (g + 266)] (pI h1 (g + 266) 2 0) := by
    simp +decide only [e153_36, e153_37, e153_38, e153_41, om1, vkk_n, vkk_i, vkk_r, vkk_l, vkk_d, catS_nil, catS_i, catS_r, catS_l, catS_d, Nat.reduceAdd, Nat.reduceLeDiff, Nat.zero_le, Nat.le_refl, Option.bind_some, Option.toList_some, Option.toList_none, List.cons_append, List.nil_append, or_true, true_or, if_true, if_false, Int32.reduceLT, Int32.reduceLE, not_true, not_false_iff, true_and, and_true, false_and, and_false]
  rw [ent2]
  generalize pI h1 (g + 266) 2 0 = H1 at x2 e22
  have y1 : Fr (fun a => a = g + 268) (fun a k => a = g + 266 ∧ (k = 2 ∨ k = 4)) h H1 := ((x1.mo (fun a z => z.elim) (fun a k z => by omega)).tr (a2.mo (fun a z => z) (fun a k z => z.elim))).tr (x2.mo (fun a z => z.elim) (fun a k z => by omega))
  have s2 : Sh H1 g := Sh_fr y1 (fun a z => by omega) hs
  have tx : TXm H1 g b L := ⟨hL, (x2.gI (fun z => by omega)).trans ((a2.gI (fun z => z)).trans e4), fun x hx => ⟨(hb x hx).1, (x2.I (fun z => z) x).trans (a3 x hx)⟩⟩
  obtain ⟨h2, c, b1, b2, b3, b4, b5, b6, b7⟩ := c_cut H1 g L b s2 tx (fun j hj => (y1.L (fun z => by omega) j).trans (hk j hj))
  have om2' : ob H1 (g + 266) 11 := Mod_0 s2.2.1
  have s3 : Sh h2 g := Sh_fr b2 (fun a z => by omega) s2
  have om3 : ob h2 (g + 266) 11 := Mod_0 s3.2.1
  have x3 : Fr NR (fun a k => a = g + 266 ∧ (k = 11 ∨ k = 12 ∨ k = 14 ∨ k = 26)) h2 (pI (pI (pI (pI h2 (g + 266) 11 0) (g + 266) 12 0) (g + 266) 14 0) (g + 266) 26 0) := (((Fr_pI _ _ _ _ ⟨rfl, by omega⟩).tr (Fr_pI _ _ _ _ ⟨rfl, by omega⟩)).tr (Fr_pI _ _ _ _ ⟨rfl, by omega⟩)).tr (Fr_pI _ _ _ _ ⟨rfl, by omega⟩)
  have f11 : gI (pI (pI (pI (pI h2 (g + 266) 11 0) (g + 266) 12 0) (g + 266) 14 0) (g + 266) 26 0) (g + 266) 11 = 0 := by simp +decide only [gI_pI, isI_pI, (eq_true (isI_ob om3 rfl : isI h2 (g + 266) 11)), true_and, and_true, false_and, and_false, if_true, if_false]
  have f12 : gI (pI (pI (pI (pI h2 (g + 266) 11 0) (g + 266) 12 0) (g + 266) 14 0) (g + 266) 26 0) (g + 266) 12 = 0 := by simp +decide only [gI_pI, isI_pI, (eq_true (isI_ob om3 rfl : isI h2 (g + 266) 12)), true_and, and_true, false_and, and_false, if_true, if_false]
  have f14 : gI (pI (pI (pI (pI h2 (g + 266) 11 0) (g + 266) 12 0) (g + 266) 14 0) (g + 266) 26 0) (g + 266) 14 = 0 := by simp +decide only [gI_pI, isI_pI, (eq_true (isI_ob om3 rfl : isI h2 (g + 266) 14)), true_and, and_true, false_and, and_false, if_true, if_false]
  have f26 : gI (pI (pI (pI (pI h2 (g + 266) 11 0) (g + 266) 12 0) (g + 266) 14 0) (g + 266) 26 0) (g + 266) 26 = 0 := by simp +decide only [gI_pI, isI_pI, (eq_true (isI_ob om3 rfl : isI h2 (g + 266) 26)), true_and, and_true, false_and, and_false, if_true, if_false]
  have ent3 : ev 153 42 [some (.ref (g + 266)), some (.int (nI L))] [.ref (g + 266)] H1 = ev 153 65 [some (.ref (g + 266)), some (.int (nI L))] [] (pI (pI (pI (pI h2 (g + 266) 11 0) (g + 266) 12 0) (g + 266) 14 0) (g + 266) 26 0) := by
    simp +decide only [e153_42, e153_45, e153_46, e153_47, e153_50, e153_51, e153_52, e153_55, e153_56, e153_57, e153_60, e153_61, e153_62, om2', b1, om3, ob_pI, vkk_n, vkk_i, vkk_r, vkk_l, vkk_d, catS_nil, catS_i, catS_r, catS_l, catS_d, Nat.reduceAdd, Nat.reduceLeDiff, Nat.zero_le, Nat.le_refl, Option.bind_some, Option.toList_some, Option.toList_none, List.cons_append, List.nil_append, or_true, true_or, if_true, if_false, Int32.reduceLT, Int32.reduceLE, not_true, not_false_iff, true_and, and_true, false_and, and_false]
  rw [ent3]
  generalize pI (pI (pI (pI h2 (g + 266) 11 0) (g + 266) 12 0) (g + 266) 14 0) (g + 266) 26 0 = H2 at x3 f11 f12 f14 f26
  have tm : TM H2 g b L c := fun t ht => by
    rw [x3.I (fun z => z), x3.I (fun z => z), x3.I (fun z => z), x3.L (fun z => z)]
    exact b4 t ht
  exact ⟨H2, c, rfl, ((y1.mo (fun a z => by omega) (fun a k z => by omega)).tr (b2.mo (fun a z => by omega) (fun a k z => by omega))).tr (x3.mo (fun a z => z.elim) (fun a k z => by omega)), ⟨Sh_fr x3 (fun a z => z.elim) s3, tm, b5, b6⟩, ⟨Nat.zero_le _, f12, fun _ => ⟨f11, by show 0 < c; omega⟩, fun z => absurd rfl z⟩, (x3.gI (fun z => by omega)).trans ((b2.gI (fun z => by omega)).trans e22), (x3.gI (fun z => by omega)).trans b3, f14, f26, b7⟩
theorem l_mnew (g : Nat) : ∀ d i h, i + d = 8 → Sh h g → (∀ j, j < i → aI h (g + 285) j = 11 ∧ aI h (g + 286) j = 0 ∧ aL h (g + 298) j = 0) → ∃ h1, ev 154 2 [some (.ref (g + 266)), some (.int (nI i))] [] h = ev 154 36 [some (.ref (g + 266)), some (.int (nI 8))] [] h1 ∧ Fr (fun a => a = g + 285 ∨ a = g + 286 ∨ a = g + 298) NF h h1 ∧ ∀ j, j < 8 → aI h1 (g + 285) j = 11 ∧ aI h1 (g + 286) j = 0 ∧ aL h1 (g + 298) j = 0 := by
  intro d
  induction d with
  | zero =>
    intro i h hd hs hx
    obtain rfl : i = 8 := by omega
    have i1 : ¬ nI 8 < 8 := by decide
    refine ⟨h, ?_, Fr.rfl _, hx⟩
    simp +decide only [e154_2, e154_3, e154_5, i1, vkk_n, vkk_i, vkk_r, vkk_l, vkk_d, catS_nil, catS_i, catS_r, catS_l, catS_d, Nat.reduceAdd, Nat.reduceLeDiff, Nat.zero_le, Nat.le_refl, Option.bind_some, Option.toList_some, Option.toList_none, List.cons_append, List.nil_append, or_true, true_or, if_true, if_false, Int32.reduceLT, Int32.reduceLE, not_true, not_false_iff, true_and, and_true, false_and, and_false]
  | succ d ih =>
    intro i h hd hs hx
    have om : ob h (g + 266) 11 := Mod_0 hs.2.1
    have i1 : nI i < 8 := nI_lt (b := 8) (by omega) (by decide)
    have v1 : vp_in (nI i) 8 := vp_in_nI (by omega) (by decide)
    have v2 : (nI i).toNatClampNeg = i := nI_clamp (by omega)
    have x1 : Fr (fun a => a = g + 285 ∨ a = g + 286 ∨ a = g + 298) NF h (wL (wI (wI h (g + 285) i 11) (g + 286) i 0) (g + 298) i 0) := ((Fr_wI _ _ _ _ (Or.inl rfl)).tr (Fr_wI _ _ _ _ (Or.inr (Or.inl rfl)))).tr (Fr_wL _ _ _ _ (Or.inr (Or.inr rfl)))
    have s1 : Sh (wL (wI (wI h (g + 285) i 11) (g + 286) i 0) (g + 298) i 0) g := Sh_fr x1 (fun a z => by omega) hs
    have t1 : arI h (g + 285) 0 := (Mod_56 hs.2.1)
    have t2 : arI h (g + 286) 0 := (Mod_59 hs.2.1)
    have t3 : arL h (g + 298) := (Mod_95 hs.2.1)
    have w1 : ∀ j, aI (wL (wI (wI h (g + 285) i 11) (g + 286) i 0) (g + 298) i 0) (g + 285) j = if j = i then 11 else aI h (g + 285) j := by
      intro j
      rw [aI_wL, aI_wI_ne _ _ _ _ _ _ (ad_ne (by decide)), aI_wI0 _ _ _ _ _ _ t1]
      by_cases z : j = i
      · rw [if_pos ⟨rfl, z⟩, if_pos z]
      · rw [if_neg (fun y => z y.2), if_neg z]
    have w2 : ∀ j, aI (wL (wI (wI h (g + 285) i 11) (g + 286) i 0) (g + 298) i 0) (g + 286) j = if j = i then 0 else aI h (g + 286) j := by
      intro j
      rw [aI_wL, aI_wI0 _ _ _ _ _ _ (by simp only [arI_wI]; exact t2), aI_wI_ne _ _ _ _ _ _ (ad_ne (by decide))]
      by_cases z : j = i
      · rw [if_pos ⟨rfl, z⟩, if_pos z]
      · rw [if_neg (fun y => z y.2), if_neg z]
    have w3 : ∀ j, aL (wL (wI (wI h (g + 285) i 11) (g + 286) i 0) (g + 298) i 0) (g + 298) j = if j = i then 0 else aL h (g + 298) j := by
      intro j
      rw [aL_wL _ _ _ _ _ _ (by simp only [arL_wI]; exact t3), aL_wI, aL_wI]
      by_cases z : j = i
      · rw [if_pos ⟨rfl, z⟩, if_pos z]
      · rw [if_neg (fun y => z y.2), if_neg z]
    obtain ⟨h2, n1, n2, n3⟩ := ih (i + 1) _ (by omega) s1 (fun j hj => by
      rw [w1, w2, w3]
      by_cases e : j = i
      · rw [if_pos e, if_pos e, if_pos e]
        exact ⟨rfl, rfl, rfl⟩
      · rw [if_neg e, if_neg e, if_neg e]
        exact hx j (by omega))
    refine ⟨h2, ?_, x1.tr n2, n3⟩
    rw [← n1]
    generalize hZ : ev 154 2 [some (.ref (g + 266)), some (.int (nI (i + 1)))] [] (wL (wI (wI h (g + 285) i 11) (g + 286) i 0) (g + 298) i 0) = Z
    have st0 : ev 154 2 [some (.ref (g + 266)), some (.int (nI i))] [] h = ev 154 8 [some (.ref (g + 266)), some (.int (nI i))] [] h := by
      simp +decide only [e154_2, e154_3, e154_5, i1, vkk_n, vkk_i, vkk_r, vkk_l, vkk_d, catS_nil, catS_i, catS_r, catS_l, catS_d, Nat.reduceAdd, Nat.reduceLeDiff, Nat.zero_le, Nat.le_refl, Option.bind_some, Option.toList_some, Option.toList_none, List.cons_append, List.nil_append, or_true, true_or, if_true, if_false, Int32.reduceLT, Int32.reduceLE, not_true, not_false_iff, true_and, and_true, false_and, and_false]
    rw [st0]
    simp +decide only [e154_8, e154_9, e154_12, e154_13, e154_15, e154_16, e154_17, e154_20, e154_21, e154_22, e154_23, e154_24, e154_27, e154_28, e154_29, e154_30, e154_33, om, v1, v2, nI_1, nI_add, (Mod_0 hs.2.1 : ob h (g + 266) 11), (rf_g (Mod_55 hs.2.1 : rf h (g + 266) 42 (g + 285)) : gR h (g + 266) 42 = (g + 285)), (rf_is (Mod_55 hs.2.1 : rf h (g + 266) 42 (g + 285)) : isR h (g + 266) 42), (Mod_56 hs.2.1 : arI h (g + 285) 0), (rdI_0 (Mod_56 hs.2.1 : arI h (g + 285) 0) : rdI h (g + 285)), (Mod_57 hs.2.1 : aln h (g + 285) = 8), (rf_g (Mod_58 hs.2.1 : rf h (g + 266) 43 (g + 286)) : gR h (g + 266) 43 = (g + 286)), (rf_is (Mod_58 hs.2.1 : rf h (g + 266) 43 (g + 286)) : isR h (g + 266) 43), (Mod_59 hs.2.1 : arI h (g + 286) 0), (rdI_0 (Mod_59 hs.2.1 : arI h (g + 286) 0) : rdI h (g + 286)), (Mod_60 hs.2.1 : aln h (g + 286) = 8), (rf_g (Mod_94 hs.2.1 : rf h (g + 266) 56 (g + 298)) : gR h (g + 266) 56 = (g + 298)), (rf_is (Mod_94 hs.2.1 : rf h (g + 266) 56 (g + 298)) : isR h (g + 266) 56), (Mod_95 hs.2.1 : arL h (g + 298)), (Mod_96 hs.2.1 : aln h (g + 298) = 8), ob_pI, rf_pI, isR_pI, isI_pI, isL_pI, arI_pI, arL_pI, arR_pI, arD_pI, aln_pI, rdI_pI, rdB_pI, rdR_pI, aR_pI, pI_2, gI_pI, gL_pI, gD_pI, gR_pI, aI_pI, aL_pI, aD_pI, ob_pL, rf_pL, isR_pL, isI_pL, isL_pL, arI_pL, arL_pL, arR_pL, arD_pL, aln_pL, rdI_pL, rdB_pL, rdR_pL, aR_pL, pL_2, gI_pL, gL_pL, gD_pL, gR_pL, aI_pL, aL_pL, aD_pL, ob_pD, rf_pD, isR_pD, isI_pD, isL_pD, arI_pD, arL_pD, arR_pD, arD_pD, aln_pD, rdI_pD, rdB_pD, rdR_pD, aR_pD, pD_2, gI_pD, gL_pD, gD_pD, gR_pD, aI_pD, aL_pD, aD_pD, ob_wI, rf_wI, isR_wI, isI_wI, isL_wI, arI_wI, arL_wI, arR_wI, arD_wI, aln_wI, rdI_wI, rdB_wI, rdR_wI, aR_wI, wI_2, gI_wI, gL_wI, gD_wI, gR_wI, aL_wI, aD_wI, aI_wI_ne, ob_wL, rf_wL, isR_wL, isI_wL, isL_wL, arI_wL, arL_wL, arR_wL, arD_wL, aln_wL, rdI_wL, rdB_wL, rdR_wL, aR_wL, wL_2, gI_wL, gL_wL, gD_wL, gR_wL, aI_wL, aD_wL, aL_wL_ne, ob_wD, rf_wD, isR_wD, isI_wD, isL_wD, arI_wD, arL_wD, arR_wD, arD_wD, aln_wD, rdI_wD, rdB_wD, rdR_wD, aR_wD, wD_2, gI_wD, gL_wD, gD_wD, gR_wD, aI_wD, aL_wD, aD_wD_ne, ob_bI, rf_bI, isR_bI, isI_bI, isL_bI, arI_bI, arL_bI, arR_bI, arD_bI, aln_bI, rdI_bI, rdB_bI, rdR_bI, aR_bI, bI_2, gI_bI, gL_bI, gD_bI, gR_bI, aL_bI, aD_bI, aI_bI_ne, ob_bL, rf_bL, isR_bL, isI_bL, isL_bL, arI_bL, arL_bL, arR_bL, arD_bL, aln_bL, rdI_bL, rdB_bL, rdR_bL, aR_bL, bL_2, gI_bL, gL_bL, gD_bL, gR_bL, aI_bL, aD_bL, aL_bL_ne, gI_pI, gL_pL, gD_pD, isI_pI, isL_pI, isD_pI, isI_pL, isL_pL, isD_pL, isI_pD, isL_pD, isD_pD, vkk_n, vkk_i, vkk_r, vkk_l, vkk_d, catS_nil, catS_i, catS_r, catS_l, catS_d, Nat.reduceAdd, Nat.reduceLeDiff, Nat.zero_le, Nat.le_refl, Option.bind_some, Option.toList_some, Option.toList_none, List.cons_append, List.nil_append, or_true, true_or, if_true, if_false, Int32.reduceLT, Int32.reduceLE, not_true, not_false_iff, true_and, and_true, false_and, and_false, Nat.add_assoc, Nat.reduceAdd, Nat.add_left_cancel_iff, Nat.reduceEqDiff, Nat.add_eq_left, Nat.left_eq_add]
    exact hZ
theorem c_mnew {h : VG} {g : Nat} (hs : Sh h g) : ∃ h1, ev 154 0 [some (.ref (g + 266)), none] [] h = some (none, h1) ∧ Fr (fun a => a = g + 285 ∨ a = g + 286 ∨ a = g + 298 ∨ a = g + 299) (fun a k => a = g + 266 ∧ (k = 57 ∨ k = 31 ∨ k = 32)) h h1 ∧ (∀ j, j < 8 → aI h1 (g + 285) j = 11 ∧ aI h1 (g + 286) j = 0 ∧ aL h1 (g + 298) j = 0) ∧ aI h1 (g + 299) 0 = 0 ∧ aI h1 (g + 299) 1 = 0 ∧ gI h1 (g + 266) 57 = 0 ∧ gI h1 (g + 266) 31 = 0 ∧ gI h1 (g + 266) 32 = 0 := by
  have ent : ev 154 0 [some (.ref (g + 266)), none] [] h = ev 154 2 [some (.ref (g + 266)), some (.int (nI 0))] [] h := by
    simp +decide only [e154_0, e154_1, vkk_n, vkk_i, vkk_r, vkk_l, vkk_d, catS_nil, catS_i, catS_r, catS_l, catS_d, Nat.reduceAdd, Nat.reduceLeDiff, Nat.zero_le, Nat.le_refl, Option.bind_some, Option.toList_some, Option.toList_none, List.cons_append, List.nil_append, or_true, true_or, if_true, if_false, Int32.reduceLT, Int32.reduceLE, not_true, not_false_iff, true_and, and_true, false_and, and_false]
    rfl
  rw [ent]
  obtain ⟨h1, a1, a2, a3⟩ := l_mnew g 8 0 h rfl hs (fun j hj => absurd hj (Nat.not_lt_zero _))
  rw [a1]
  have s1 : Sh h1 g := Sh_fr a2 (fun a z => by omega) hs
  have om : ob h1 (g + 266) 11 := Mod_0 s1.2.1
  have x1 : Fr NR (fun a k => a = g + 266 ∧ (k = 57 ∨ k = 31 ∨ k = 32)) h1 (pI (pI (pI h1 (g + 266) 57 0) (g + 266) 31 0) (g + 266) 32 0) := ((Fr_pI _ _ _ _ ⟨rfl, by omega⟩).tr (Fr_pI _ _ _ _ ⟨rfl, by omega⟩)).tr (Fr_pI _ _ _ _ ⟨rfl, by omega⟩)
  have f1 : gI (pI (pI (pI h1 (g + 266) 57 0) (g + 266) 31 0) (g + 266) 32 0) (g + 266) 57 = 0 := by simp +decide only [gI_pI, isI_pI, (eq_true (isI_ob om rfl : isI h1 (g + 266) 57)), true_and, and_true, false_and, and_false, if_true, if_false]
  have f2 : gI (pI (pI (pI h1 (g + 266) 57 0) (g + 266) 31 0) (g + 266) 32 0) (g + 266) 31 = 0 := by simp +decide only [gI_pI, isI_pI, (eq_true (isI_ob om rfl : isI h1 (g + 266) 31)), true_and, and_true, false_and, and_false, if_true, if_false]
  have f3 : gI (pI (pI (pI h1 (g + 266) 57 0) (g + 266) 31 0) (g + 266) 32 0) (g + 266) 32 = 0 := by simp +decide only [gI_pI, isI_pI, (eq_true (isI_ob om rfl : isI h1 (g + 266) 32)), true_and, and_true, false_and, and_false, if_true, if_false]
  have ent2 : ev 154 36 [some (.ref (g + 266)), some (.int (nI 8))] [] h1 = ev 154 51 [some (.ref (g + 266)), some (.int (nI 8))] [] (pI (pI (pI h1 (g + 266) 57 0) (g + 266) 31 0) (g + 266) 32 0) := by
    simp +decide only [e154_36, e154_37, e154_38, e154_41, e154_42, e154_43, e154_46, e154_47, e154_48, om, ob_pI, vkk_n, vkk_i, vkk_r, vkk_l, vkk_d, catS_nil, catS_i, catS_r, catS_l, catS_d, Nat.reduceAdd, Nat.reduceLeDiff, Nat.zero_le, Nat.le_refl, Option.bind_some, Option.toList_some, Option.toList_none, List.cons_append, List.nil_append, or_true, true_or, if_true, if_false, Int32.reduceLT, Int32.reduceLE, not_true, not_false_iff, true_and, and_true, false_and, and_false]
  rw [ent2]
  generalize pI (pI (pI h1 (g + 266) 57 0) (g + 266) 31 0) (g + 266) 32 0 = H at x1 f1 f2 f3
  have sH : Sh H g := Sh_fr x1 (fun a z => z.elim) s1
  have tA : arI H (g + 299) 3 := (Mod_98 sH.2.1)
  have x2 : Fr (fun a => a = g + 299) NF H (wI (wI H (g + 299) 0 0) (g + 299) 1 0) := by
    have y1 : Fr (fun a => a = g + 299) NF H (wI H (g + 299) 0 0) := Fr_wI _ _ _ _ rfl
    exact y1.tr (Fr_wI _ _ _ _ rfl)
  refine ⟨wI (wI H (g + 299) 0 0) (g + 299) 1 0, ?_, ((a2.mo (fun a z => by omega) (fun a k z => z.elim)).tr (x1.mo (fun a z => z.elim) (fun a k z => z))).tr (x2.mo (fun a z => by omega) (fun a k z => z.elim)), fun j hj => ?_, ?_, ?_, (x2.gI (fun z => z)).trans f1, (x2.gI (fun z => z)).trans f2, (x2.gI (fun z => z)).trans f3⟩
  · have nr : vp_nar .boolean 0 = 0 := by decide
    have v0 : vp_in (nI 0) 2 := vp_in_nI (by omega) (by decide)
    have v0 : vp_in 0 2 := v0
    have v1 : vp_in (nI 1) 2 := vp_in_nI (by omega) (by decide)
    have v1 : vp_in 1 2 := v1
    have c0 : (0 : Int32).toNatClampNeg = 0 := by decide
    have c1 : (1 : Int32).toNatClampNeg = 1 := by decide
    simp +decide only [e154_51, e154_52, e154_55, e154_56, e154_57, e154_57z, e154_58, e154_59, e154_62, e154_63, e154_64, e154_64z, e154_65, nr, v0, v1, c0, c1, (Mod_0 sH.2.1 : ob H (g + 266) 11), (rf_g (Mod_97 sH.2.1 : rf H (g + 266) 58 (g + 299)) : gR H (g + 266) 58 = (g + 299)), (rf_is (Mod_97 sH.2.1 : rf H (g + 266) 58 (g + 299)) : isR H (g + 266) 58), (Mod_98 sH.2.1 : arI H (g + 299) 3), (rdB_3 (Mod_98 sH.2.1 : arI H (g + 299) 3) : rdB H (g + 299)), (Mod_99 sH.2.1 : aln H (g + 299) = 2), ob_pI, rf_pI, isR_pI, isI_pI, isL_pI, arI_pI, arL_pI, arR_pI, arD_pI, aln_pI, rdI_pI, rdB_pI, rdR_pI, aR_pI, pI_2, gI_pI, gL_pI, gD_pI, gR_pI, aI_pI, aL_pI, aD_pI, ob_pL, rf_pL, isR_pL, isI_pL, isL_pL, arI_pL, arL_pL, arR_pL, arD_pL, aln_pL, rdI_pL, rdB_pL, rdR_pL, aR_pL, pL_2, gI_pL, gL_pL, gD_pL, gR_pL, aI_pL, aL_pL, aD_pL, ob_pD, rf_pD, isR_pD, isI_pD, isL_pD, arI_pD, arL_pD, arR_pD, arD_pD, aln_pD, rdI_pD, rdB_pD, rdR_pD, aR_pD, pD_2, gI_pD, gL_pD, gD_pD, gR_pD, aI_pD, aL_pD, aD_pD, ob_wI, rf_wI, isR_wI, isI_wI, isL_wI, arI_wI, arL_wI, arR_wI, arD_wI, aln_wI, rdI_wI, rdB_wI, rdR_wI, aR_wI, wI_2, gI_wI, gL_wI, gD_wI, gR_wI, aL_wI, aD_wI, aI_wI_ne, ob_wL, rf_wL, isR_wL, isI_wL, isL_wL, arI_wL, arL_wL, arR_wL, arD_wL, aln_wL, rdI_wL, rdB_wL, rdR_wL, aR_wL, wL_2, gI_wL, gL_wL, gD_wL, gR_wL, aI_wL, aD_wL, aL_wL_ne, ob_wD, rf_wD, isR_wD, isI_wD, isL_wD, arI_wD, arL_wD, arR_wD, arD_wD, aln_wD, rdI_wD, rdB_wD, rdR_wD, aR_wD, wD_2, gI_wD, gL_wD, gD_wD, gR_wD, aI_wD, aL_wD, aD_wD_ne, ob_bI, rf_bI, isR_bI, isI_bI, isL_bI, arI_bI, arL_bI, arR_bI, arD_bI, aln_bI, rdI_bI, rdB_bI, rdR_bI, aR_bI, bI_2, gI_bI, gL_bI, gD_bI, gR_bI, aL_bI, aD_bI, aI_bI_ne, ob_bL, rf_bL, isR_bL, isI_bL, isL_bL, arI_bL, arL_bL, arR_bL, arD_bL, aln_bL, rdI_bL, rdB_bL, rdR_bL, aR_bL, bL_2, gI_bL, gL_bL, gD_bL, gR_bL, aI_bL, aD_bL, aL_bL_ne, gI_pI, gL_pL, gD_pD, isI_pI, isL_pI, isD_pI, isI_pL, isL_pL, isD_pL, isI_pD, isL_pD, isD_pD, vkk_n, vkk_i, vkk_r, vkk_l, vkk_d, catS_nil, catS_i, catS_r, catS_l, catS_d, Nat.reduceAdd, Nat.reduceLeDiff, Nat.zero_le, Nat.le_refl, Option.bind_some, Option.toList_some, Option.toList_none, List.cons_append, List.nil_append, or_true, true_or, if_true, if_false, Int32.reduceLT, Int32.reduceLE, not_true, not_false_iff, true_and, and_true, false_and, and_false, Nat.add_assoc, Nat.reduceAdd, Nat.add_left_cancel_iff, Nat.reduceEqDiff, Nat.add_eq_left, Nat.left_eq_add]
  · rw [x2.I (fun z => by omega), x2.I (fun z => by omega), x2.L (fun z => by omega), x1.I (fun z => z), x1.I (fun z => z), x1.L (fun z => z)]
    exact a3 j hj
  · rw [aI_wI _ _ _ _ _ _ (by simp only [arI_wI]; exact tA), if_neg (by omega), aI_wI _ _ _ _ _ _ tA, if_pos ⟨rfl, rfl⟩]
  · rw [aI_wI _ _ _ _ _ _ (by simp only [arI_wI]; exact tA), if_pos ⟨rfl, rfl⟩]
