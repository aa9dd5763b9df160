set_option maxHeartbeats 4000000 in
/-! read: the model's lines -/
def MC (h : VG) (g : Nat) (b : Nat → Nat) (L c : Nat) : Prop := Sh h g ∧ TM h g b L c ∧ c ≤ 401 ∧ (c = 401 ∨ (1 ≤ c ∧ kd b L (c - 1) = 0))
/-- the model at a token, or what stands there told -/
def MX (h : VG) (g : Nat) (b : Nat → Nat) (L c : Nat) (X : Nat × Nat) : Prop := X.1 ≤ 2 ∧ gI h (g + 266) 12 = nI X.1 ∧ (X.1 = 0 → gI h (g + 266) 11 = nI X.2 ∧ X.2 < c) ∧ (¬ X.1 = 0 → gI h (g + 266) 13 = nI (tPl b L X.2))
def FTM (g a k : Nat) : Prop := a = g + 266 ∧ (k = 11 ∨ k = 12 ∨ k = 13)
def FTN (g a k : Nat) : Prop := a = g + 266 ∧ (k = 11 ∨ k = 12 ∨ k = 13 ∨ k = 26)
theorem MC_fr {F : Nat → Nat → Prop} {h h1 : VG} {g L c : Nat} {b : Nat → Nat} (x : Fr NR F h h1) (q : MC h g b L c) : MC h1 g b L c := by
  obtain ⟨q1, q2, q3⟩ := q
  refine ⟨Sh_fr x (fun a z => z.elim) q1, fun t ht => ?_, q3⟩
  rw [x.I (fun z => z), x.I (fun z => z), x.I (fun z => z), x.L (fun z => z)]
  exact q2 t ht
theorem rB_assoc (X : Nat × Nat) (f F : Nat → Nat × Nat) : rB (rB X f) F = rB X (fun s => rB (f s) F) := by
  unfold rB
  by_cases z : X.1 = 0
  · rw [if_pos z, if_pos z]
  · rw [if_neg z, if_neg z, if_neg z]
theorem rB_x {X : Nat × Nat} (F : Nat → Nat × Nat) (h : ¬ X.1 = 0) : rB X F = X := if_neg h
theorem rB_o {X : Nat × Nat} (F : Nat → Nat × Nat) (h : X.1 = 0) : rB X F = F X.2 := if_pos h
theorem c_mis {h : VG} {g L c k : Nat} {b : Nat → Nat} {X : Nat × Nat} (q : MC h g b L c) (x : MX h g b L c X) (hk : k < 34) : ev 148 0 [some (.ref (g + 266)), some (.int (nI k))] [] h = some (some (.int (if X.1 = 0 ∧ kd b L X.2 = k then 1 else 0)), h) := by
  obtain ⟨hs, tm, hc, -⟩ := q
  obtain ⟨x1, x2, x3, x4⟩ := x
  have om : ob h (g + 266) 11 := Mod_0 hs.2.1
  have i0 : nI X.1 = 0 ↔ X.1 = 0 := nI_eq (b := 0) (by omega) (by decide)
  by_cases z : X.1 = 0
  · obtain ⟨e, lt⟩ := x3 z
    have v1 : vp_in (nI X.2) 403 := vp_in_nI (by omega) (by decide)
    have v2 : (nI X.2).toNatClampNeg = X.2 := nI_clamp (by omega)
    have t1 := (tm X.2 lt).1
    have ko := kd_or b L X.2
    have n : nI (kd b L X.2) = nI k ↔ kd b L X.2 = k := nI_eq (by omega) (by omega)
    have z' := i0.mpr z
    by_cases y : kd b L X.2 = k
    · have y' := n.mpr y
      rw [if_pos ⟨z, y⟩]
      simp +decide only [e148_0, e148_1, e148_4, e148_7, e148_8, e148_11, e148_12, e148_15, e148_16, e148_17, e148_20, e148_21, e148_24, e148_25, x2, z', e, v1, v2, t1, y', (Mod_0 hs.2.1 : ob h (g + 266) 11), (rf_g (Mod_7 hs.2.1 : rf h (g + 266) 5 (g + 269)) : gR h (g + 266) 5 = (g + 269)), (rf_is (Mod_7 hs.2.1 : rf h (g + 266) 5 (g + 269)) : isR h (g + 266) 5), (Mod_8 hs.2.1 : arI h (g + 269) 0), (rdI_0 (Mod_8 hs.2.1 : arI h (g + 269) 0) : rdI h (g + 269)), (Mod_9 hs.2.1 : aln h (g + 269) = 403), (rf_g (Mod_10 hs.2.1 : rf h (g + 266) 6 (g + 270)) : gR h (g + 266) 6 = (g + 270)), (rf_is (Mod_10 hs.2.1 : rf h (g + 266) 6 (g + 270)) : isR h (g + 266) 6), (Mod_11 hs.2.1 : arI h (g + 270) 0), (rdI_0 (Mod_11 hs.2.1 : arI h (g + 270) 0) : rdI h (g + 270)), (Mod_12 hs.2.1 : aln h (g + 270) = 403), vkk_n, vkk_i, vkk_r, vkk_l, vkk_d, catS_nil, catS_i, catS_r, catS_l, catS_d, Nat.reduceAdd, Nat.reduceLeDiff, Nat.zero_le, Nat.le_refl, Option.bind_some, Option.toList_some, Option.toList_none, List.cons_append, List.nil_append, or_true, true_or, if_true, if_false, Int32.reduceLT, Int32.reduceLE, not_true, not_false_iff, true_and, and_true, false_and, and_false]
    · have y' : ¬ nI (kd b L X.2) = nI k := fun w => y (n.mp w)
      rw [if_neg (fun w => y w.2)]
      simp +decide only [e148_0, e148_1, e148_4, e148_7, e148_8, e148_11, e148_12, e148_15, e148_16, e148_17, e148_20, e148_21, e148_24, e148_25, x2, z', e, v1, v2, t1, y', (Mod_0 hs.2.1 : ob h (g + 266) 11), (rf_g (Mod_7 hs.2.1 : rf h (g + 266) 5 (g + 269)) : gR h (g + 266) 5 = (g + 269)), (rf_is (Mod_7 hs.2.1 : rf h (g + 266) 5 (g + 269)) : isR h (g + 266) 5), (Mod_8 hs.2.1 : arI h (g + 269) 0), (rdI_0 (Mod_8 hs.2.1 : arI h (g + 269) 0) : rdI h (g + 269)), (Mod_9 hs.2.1 : aln h (g + 269) = 403), (rf_g (Mod_10 hs.2.1 : rf h (g + 266) 6 (g + 270)) : gR h (g + 266) 6 = (g + 270)), (rf_is (Mod_10 hs.2.1 : rf h (g + 266) 6 (g + 270)) : isR h (g + 266) 6), (Mod_11 hs.2.1 : arI h (g + 270) 0), (rdI_0 (Mod_11 hs.2.1 : arI h (g + 270) 0) : rdI h (g + 270)), (Mod_12 hs.2.1 : aln h (g + 270) = 403), vkk_n, vkk_i, vkk_r, vkk_l, vkk_d, catS_nil, catS_i, catS_r, catS_l, catS_d, Nat.reduceAdd, Nat.reduceLeDiff, Nat.zero_le, Nat.le_refl, Option.bind_some, Option.toList_some, Option.toList_none, List.cons_append, List.nil_append, or_true, true_or, if_true, if_false, Int32.reduceLT, Int32.reduceLE, not_true, not_false_iff, true_and, and_true, false_and, and_false]
  · have z' : ¬ nI X.1 = 0 := fun y => z (i0.mp y)
    rw [if_neg (fun y => z y.1)]
    simp +decide only [e148_0, e148_1, e148_4, e148_7, e148_8, e148_11, e148_12, e148_15, e148_16, e148_17, e148_20, e148_21, e148_24, e148_25, x2, z', (Mod_0 hs.2.1 : ob h (g + 266) 11), (rf_g (Mod_7 hs.2.1 : rf h (g + 266) 5 (g + 269)) : gR h (g + 266) 5 = (g + 269)), (rf_is (Mod_7 hs.2.1 : rf h (g + 266) 5 (g + 269)) : isR h (g + 266) 5), (Mod_8 hs.2.1 : arI h (g + 269) 0), (rdI_0 (Mod_8 hs.2.1 : arI h (g + 269) 0) : rdI h (g + 269)), (Mod_9 hs.2.1 : aln h (g + 269) = 403), (rf_g (Mod_10 hs.2.1 : rf h (g + 266) 6 (g + 270)) : gR h (g + 266) 6 = (g + 270)), (rf_is (Mod_10 hs.2.1 : rf h (g + 266) 6 (g + 270)) : isR h (g + 266) 6), (Mod_11 hs.2.1 : arI h (g + 270) 0), (rdI_0 (Mod_11 hs.2.1 : arI h (g + 270) 0) : rdI h (g + 270)), (Mod_12 hs.2.1 : aln h (g + 270) = 403), vkk_n, vkk_i, vkk_r, vkk_l, vkk_d, catS_nil, catS_i, catS_r, catS_l, catS_d, Nat.reduceAdd, Nat.reduceLeDiff, Nat.zero_le, Nat.le_refl, Option.bind_some, Option.toList_some, Option.toList_none, List.cons_append, List.nil_append, or_true, true_or, if_true, if_false, Int32.reduceLT, Int32.reduceLE, not_true, not_false_iff, true_and, and_true, false_and, and_false]
theorem c_misKind {h : VG} {g L c : Nat} {b : Nat → Nat} {X : Nat × Nat} (q : MC h g b L c) (x : MX h g b L c X) : ev 156 0 [some (.ref (g + 266))] [] h = some (some (.int (if X.1 = 0 ∧ tyC b L X.2 = 5 then 1 else 0)), h) := by
  obtain ⟨hs, tm, hc, -⟩ := q
  obtain ⟨x1, x2, x3, x4⟩ := x
  have om : ob h (g + 266) 11 := Mod_0 hs.2.1
  have i0 : nI X.1 = 0 ↔ X.1 = 0 := nI_eq (b := 0) (by omega) (by decide)
  by_cases z : X.1 = 0
  · obtain ⟨e, lt⟩ := x3 z
    have v1 : vp_in (nI X.2) 403 := vp_in_nI (by omega) (by decide)
    have v2 : (nI X.2).toNatClampNeg = X.2 := nI_clamp (by omega)
    have t1 := (tm X.2 lt).1
    have ko := kd_or b L X.2
    have z' := i0.mpr z
    have c5 : tyC b L X.2 = 5 ↔ 24 ≤ kd b L X.2 := (cTy_0 ko).2.2.2.2.2.2.1
    have k33 : nI (kd b L X.2) ≤ 33 := nI_le (b := 33) (by omega) (by decide)
    by_cases y : tyC b L X.2 = 5
    · have y' : ¬ nI (kd b L X.2) < 24 := fun w => by
        have := (nI_ltI (b := 24) (by omega) (by decide)).mp w
        have := c5.mp y
        omega
      rw [if_pos ⟨z, y⟩]
      simp +decide only [e156_0, e156_1, e156_4, e156_7, e156_8, e156_11, e156_12, e156_15, e156_16, e156_18, e156_21, e156_22, e156_25, e156_26, e156_29, e156_30, e156_32, e156_35, e156_36, e156_39, e156_40, x2, z', e, v1, v2, t1, y', k33, (Mod_0 hs.2.1 : ob h (g + 266) 11), (rf_g (Mod_7 hs.2.1 : rf h (g + 266) 5 (g + 269)) : gR h (g + 266) 5 = (g + 269)), (rf_is (Mod_7 hs.2.1 : rf h (g + 266) 5 (g + 269)) : isR h (g + 266) 5), (Mod_8 hs.2.1 : arI h (g + 269) 0), (rdI_0 (Mod_8 hs.2.1 : arI h (g + 269) 0) : rdI h (g + 269)), (Mod_9 hs.2.1 : aln h (g + 269) = 403), (rf_g (Mod_10 hs.2.1 : rf h (g + 266) 6 (g + 270)) : gR h (g + 266) 6 = (g + 270)), (rf_is (Mod_10 hs.2.1 : rf h (g + 266) 6 (g + 270)) : isR h (g + 266) 6), (Mod_11 hs.2.1 : arI h (g + 270) 0), (rdI_0 (Mod_11 hs.2.1 : arI h (g + 270) 0) : rdI h (g + 270)), (Mod_12 hs.2.1 : aln h (g + 270) = 403), vkk_n, vkk_i, vkk_r, vkk_l, vkk_d, catS_nil, catS_i, catS_r, catS_l, catS_d, Nat.reduceAdd, Nat.reduceLeDiff, Nat.zero_le, Nat.le_refl, Option.bind_some, Option.toList_some, Option.toList_none, List.cons_append, List.nil_append, or_true, true_or, if_true, if_false, Int32.reduceLT, Int32.reduceLE, not_true, not_false_iff, true_and, and_true, false_and, and_false]
    · have y' : nI (kd b L X.2) < 24 := nI_lt (b := 24) (by
        have : ¬ 24 ≤ kd b L X.2 := fun w => y (c5.mpr w)
        omega) (by decide)
      rw [if_neg (fun w => y w.2)]
      simp +decide only [e156_0, e156_1, e156_4, e156_7, e156_8, e156_11, e156_12, e156_15, e156_16, e156_18, e156_21, e156_22, e156_25, e156_26, e156_29, e156_30, e156_32, e156_35, e156_36, e156_39, e156_40, x2, z', e, v1, v2, t1, y', (Mod_0 hs.2.1 : ob h (g + 266) 11), (rf_g (Mod_7 hs.2.1 : rf h (g + 266) 5 (g + 269)) : gR h (g + 266) 5 = (g + 269)), (rf_is (Mod_7 hs.2.1 : rf h (g + 266) 5 (g + 269)) : isR h (g + 266) 5), (Mod_8 hs.2.1 : arI h (g + 269) 0), (rdI_0 (Mod_8 hs.2.1 : arI h (g + 269) 0) : rdI h (g + 269)), (Mod_9 hs.2.1 : aln h (g + 269) = 403), (rf_g (Mod_10 hs.2.1 : rf h (g + 266) 6 (g + 270)) : gR h (g + 266) 6 = (g + 270)), (rf_is (Mod_10 hs.2.1 : rf h (g + 266) 6 (g + 270)) : isR h (g + 266) 6), (Mod_11 hs.2.1 : arI h (g + 270) 0), (rdI_0 (Mod_11 hs.2.1 : arI h (g + 270) 0) : rdI h (g + 270)), (Mod_12 hs.2.1 : aln h (g + 270) = 403), vkk_n, vkk_i, vkk_r, vkk_l, vkk_d, catS_nil, catS_i, catS_r, catS_l, catS_d, Nat.reduceAdd, Nat.reduceLeDiff, Nat.zero_le, Nat.le_refl, Option.bind_some, Option.toList_some, Option.toList_none, List.cons_append, List.nil_append, or_true, true_or, if_true, if_false, Int32.reduceLT, Int32.reduceLE, not_true, not_false_iff, true_and, and_true, false_and, and_false]
  · have z' : ¬ nI X.1 = 0 := fun y => z (i0.mp y)
    rw [if_neg (fun y => z y.1)]
    simp +decide only [e156_0, e156_1, e156_4, e156_7, e156_8, e156_11, e156_12, e156_15, e156_16, e156_18, e156_21, e156_22, e156_25, e156_26, e156_29, e156_30, e156_32, e156_35, e156_36, e156_39, e156_40, x2, z', (Mod_0 hs.2.1 : ob h (g + 266) 11), (rf_g (Mod_7 hs.2.1 : rf h (g + 266) 5 (g + 269)) : gR h (g + 266) 5 = (g + 269)), (rf_is (Mod_7 hs.2.1 : rf h (g + 266) 5 (g + 269)) : isR h (g + 266) 5), (Mod_8 hs.2.1 : arI h (g + 269) 0), (rdI_0 (Mod_8 hs.2.1 : arI h (g + 269) 0) : rdI h (g + 269)), (Mod_9 hs.2.1 : aln h (g + 269) = 403), (rf_g (Mod_10 hs.2.1 : rf h (g + 266) 6 (g + 270)) : gR h (g + 266) 6 = (g + 270)), (rf_is (Mod_10 hs.2.1 : rf h (g + 266) 6 (g + 270)) : isR h (g + 266) 6), (Mod_11 hs.2.1 : arI h (g + 270) 0), (rdI_0 (Mod_11 hs.2.1 : arI h (g + 270) 0) : rdI h (g + 270)), (Mod_12 hs.2.1 : aln h (g + 270) = 403), vkk_n, vkk_i, vkk_r, vkk_l, vkk_d, catS_nil, catS_i, catS_r, catS_l, catS_d, Nat.reduceAdd, Nat.reduceLeDiff, Nat.zero_le, Nat.le_refl, Option.bind_some, Option.toList_some, Option.toList_none, List.cons_append, List.nil_append, or_true, true_or, if_true, if_false, Int32.reduceLT, Int32.reduceLE, not_true, not_false_iff, true_and, and_true, false_and, and_false]
theorem c_mfail {h : VG} {g L c f : Nat} {b : Nat → Nat} {X : Nat × Nat} (q : MC h g b L c) (x : MX h g b L c X) (hf : f = 1 ∨ f = 2) : ∃ h1, ev 149 0 [some (.ref (g + 266)), some (.int (nI f))] [] h = some (none, h1) ∧ Fr NR (FTM g) h h1 ∧ MX h1 g b L c (rB X fun s => (f, s)) := by
  have x' := x
  obtain ⟨hs, tm, hc, -⟩ := q
  obtain ⟨x1, x2, x3, x4⟩ := x
  have om : ob h (g + 266) 11 := Mod_0 hs.2.1
  have i0 : nI X.1 ≤ 0 ↔ X.1 ≤ 0 := nI_leI (b := 0) (by omega) (by decide)
  by_cases z : X.1 = 0
  · obtain ⟨e, lt⟩ := x3 z
    have v1 : vp_in (nI X.2) 403 := vp_in_nI (by omega) (by decide)
    have v2 : (nI X.2).toNatClampNeg = X.2 := nI_clamp (by omega)
    have t1 := (tm X.2 lt).2.1
    have z' := i0.mpr (by omega)
    rw [rB_o _ z]
    refine ⟨pI (pI h (g + 266) 12 (nI f)) (g + 266) 13 (nI (tPl b L X.2)), ?_, (Fr_pI _ _ _ _ ⟨rfl, by omega⟩).tr (Fr_pI _ _ _ _ ⟨rfl, by omega⟩), ?_, ?_, ?_, ?_⟩
    · simp +decide only [e149_0, e149_1, e149_4, e149_7, e149_8, e149_9, e149_10, e149_13, e149_14, e149_15, e149_18, e149_19, e149_22, e149_23, e149_26, x2, z', e, v1, v2, t1, (Mod_0 hs.2.1 : ob h (g + 266) 11), (rf_g (Mod_7 hs.2.1 : rf h (g + 266) 5 (g + 269)) : gR h (g + 266) 5 = (g + 269)), (rf_is (Mod_7 hs.2.1 : rf h (g + 266) 5 (g + 269)) : isR h (g + 266) 5), (Mod_8 hs.2.1 : arI h (g + 269) 0), (rdI_0 (Mod_8 hs.2.1 : arI h (g + 269) 0) : rdI h (g + 269)), (Mod_9 hs.2.1 : aln h (g + 269) = 403), (rf_g (Mod_10 hs.2.1 : rf h (g + 266) 6 (g + 270)) : gR h (g + 266) 6 = (g + 270)), (rf_is (Mod_10 hs.2.1 : rf h (g + 266) 6 (g + 270)) : isR h (g + 266) 6), (Mod_11 hs.2.1 : arI h (g + 270) 0), (rdI_0 (Mod_11 hs.2.1 : arI h (g + 270) 0) : rdI h (g + 270)), (Mod_12 hs.2.1 : aln h (g + 270) = 403), ob_pI, rf_pI, isR_pI, isI_pI, isL_pI, arI_pI, arL_pI, arR_pI, arD_pI, aln_pI, rdI_pI, rdB_pI, rdR_pI, aR_pI, pI_2, gI_pI, gL_pI, gD_pI, gR_pI, aI_pI, aL_pI, aD_pI, ob_pL, rf_pL, isR_pL, isI_pL, isL_pL, arI_pL, arL_pL, arR_pL, arD_pL, aln_pL, rdI_pL, rdB_pL, rdR_pL, aR_pL, pL_2, gI_pL, gL_pL, gD_pL, gR_pL, aI_pL, aL_pL, aD_pL, ob_wI, rf_wI, isR_wI, isI_wI, isL_wI, arI_wI, arL_wI, arR_wI, arD_wI, aln_wI, rdI_wI, rdB_wI, rdR_wI, aR_wI, wI_2, gI_wI, gL_wI, gD_wI, gR_wI, aL_wI, aD_wI, aI_wI_ne, ob_wL, rf_wL, isR_wL, isI_wL, isL_wL, arI_wL, arL_wL, arR_wL, arD_wL, aln_wL, rdI_wL, rdB_wL, rdR_wL, aR_wL, wL_2, gI_wL, gL_wL, gD_wL, gR_wL, aI_wL, aD_wL, aL_wL_ne, ob_bI, rf_bI, isR_bI, isI_bI, isL_bI, arI_bI, arL_bI, arR_bI, arD_bI, aln_bI, rdI_bI, rdB_bI, rdR_bI, aR_bI, bI_2, gI_bI, gL_bI, gD_bI, gR_bI, aL_bI, aD_bI, aI_bI_ne, ob_bL, rf_bL, isR_bL, isI_bL, isL_bL, arI_bL, arL_bL, arR_bL, arD_bL, aln_bL, rdI_bL, rdB_bL, rdR_bL, aR_bL, bL_2, gI_bL, gL_bL, gD_bL, gR_bL, aI_bL, aD_bL, aL_bL_ne, vkk_n, vkk_i, vkk_r, vkk_l, vkk_d, catS_nil, catS_i, catS_r, catS_l, catS_d, Nat.reduceAdd, Nat.reduceLeDiff, Nat.zero_le, Nat.le_refl, Option.bind_some, Option.toList_some, Option.toList_none, List.cons_append, List.nil_append, or_true, true_or, if_true, if_false, Int32.reduceLT, Int32.reduceLE, not_true, not_false_iff, true_and, and_true, false_and, and_false, Nat.add_assoc, Nat.reduceAdd, Nat.add_left_cancel_iff, Nat.reduceEqDiff, Nat.add_eq_left, Nat.left_eq_add]
    · show f ≤ 2
      omega
    · simp +decide only [gI_pI, isI_pI, (eq_true (isI_ob om rfl : isI h (g + 266) 12)), true_and, and_true, false_and, and_false, if_true, if_false]
    · intro y
      have y : f = 0 := y
      omega
    · intro _
      simp +decide only [gI_pI, isI_pI, (eq_true (isI_ob om rfl : isI h (g + 266) 13)), true_and, and_true, false_and, and_false, if_true, if_false]
  · have z' : ¬ nI X.1 ≤ 0 := fun y => z (by have := i0.mp y; omega)
    rw [rB_x _ z]
    refine ⟨h, ?_, Fr.rfl _, x'⟩
    simp +decide only [e149_0, e149_1, e149_4, e149_7, e149_8, e149_9, e149_10, e149_13, e149_14, e149_15, e149_18, e149_19, e149_22, e149_23, e149_26, x2, z', (Mod_0 hs.2.1 : ob h (g + 266) 11), (rf_g (Mod_7 hs.2.1 : rf h (g + 266) 5 (g + 269)) : gR h (g + 266) 5 = (g + 269)), (rf_is (Mod_7 hs.2.1 : rf h (g + 266) 5 (g + 269)) : isR h (g + 266) 5), (Mod_8 hs.2.1 : arI h (g + 269) 0), (rdI_0 (Mod_8 hs.2.1 : arI h (g + 269) 0) : rdI h (g + 269)), (Mod_9 hs.2.1 : aln h (g + 269) = 403), (rf_g (Mod_10 hs.2.1 : rf h (g + 266) 6 (g + 270)) : gR h (g + 266) 6 = (g + 270)), (rf_is (Mod_10 hs.2.1 : rf h (g + 266) 6 (g + 270)) : isR h (g + 266) 6), (Mod_11 hs.2.1 : arI h (g + 270) 0), (rdI_0 (Mod_11 hs.2.1 : arI h (g + 270) 0) : rdI h (g + 270)), (Mod_12 hs.2.1 : aln h (g + 270) = 403), vkk_n, vkk_i, vkk_r, vkk_l, vkk_d, catS_nil, catS_i, catS_r, catS_l, catS_d, Nat.reduceAdd, Nat.reduceLeDiff, Nat.zero_le, Nat.le_refl, Option.bind_some, Option.toList_some, Option.toList_none, List.cons_append, List.nil_append, or_true, true_or, if_true, if_false, Int32.reduceLT, Int32.reduceLE, not_true, not_false_iff, true_and, and_true, false_and, and_false]
theorem c_mpass {h : VG} {g L c s : Nat} {b : Nat → Nat} (q : MC h g b L c) (x : MX h g b L c (0, s)) (hk : ¬ kd b L s = 0) : ∃ h1, ev 151 0 [some (.ref (g + 266))] [] h = some (none, h1) ∧ Fr NR (FTM g) h h1 ∧ MX h1 g b L c (if s = 400 then (2, s) else (0, s + 1)) := by
  have fl := c_mfail (f := 2) q x (Or.inr rfl)
  obtain ⟨hs, tm, hc, hd⟩ := q
  obtain ⟨x1, x2, x3, x4⟩ := x
  have om : ob h (g + 266) 11 := Mod_0 hs.2.1
  obtain ⟨e, lt⟩ := x3 rfl
  have e : gI h (g + 266) 11 = nI s := e
  have lt : s < c := lt
  have i4 : nI s = 400 ↔ s = 400 := nI_eq (b := 400) (by omega) (by decide)
  by_cases z : s = 400
  · rw [if_pos z]
    obtain ⟨h1, u1, u2, u3⟩ := fl
    have u1 : ev 149 0 [some (.ref (g + 266)), some (.int 2)] [] h = _ := u1
    have z' := i4.mpr z
    refine ⟨h1, ?_, u2, u3⟩
    simp +decide only [e151_0, e151_1, e151_4, e151_7, e151_10, e151_11, e151_12, e151_15, e151_18, e151_19b, e151_19, e151_20, e151_23, e151_24, e151_25, e151_28, e, z', u1, om, vkk_n, vkk_i, vkk_r, vkk_l, vkk_d, catS_nil, catS_i, catS_r, catS_l, catS_d, Nat.reduceAdd, Nat.reduceLeDiff, Nat.zero_le, Nat.le_refl, Option.bind_some, Option.toList_some, Option.toList_none, List.cons_append, List.nil_append, or_true, true_or, if_true, if_false, Int32.reduceLT, Int32.reduceLE, not_true, not_false_iff, true_and, and_true, false_and, and_false]
  · rw [if_neg z]
    have z' : ¬ nI s = 400 := fun y => z (i4.mp y)
    have ls : s + 1 < c := by
      rcases hd with hd | ⟨hd1, hd2⟩
      · omega
      · by_cases y : s = c - 1
        · rw [← y] at hd2
          exact absurd hd2 hk
        · omega
    have E11 : gI (pI h (g + 266) 11 (nI (s + 1))) (g + 266) 11 = nI (s + 1) := by simp +decide only [gI_pI, (eq_true (isI_ob om rfl : isI h (g + 266) 11)), true_and, and_true, if_true]
    have y1 : Fr NR (FTM g) h (pI h (g + 266) 11 (nI (s + 1))) := Fr_pI _ _ _ _ ⟨rfl, Or.inl rfl⟩
    have y2 : Fr NR (fun a k => a = g + 266 ∧ k = 11) h (pI h (g + 266) 11 (nI (s + 1))) := Fr_pI _ _ _ _ ⟨rfl, rfl⟩
    refine ⟨_, ?_, y1, ⟨Nat.zero_le _, (y2.gI (fun z => by omega)).trans x2, fun _ => ⟨E11, ls⟩, fun y => absurd rfl y⟩⟩
    simp +decide only [e151_0, e151_1, e151_4, e151_7, e151_10, e151_11, e151_12, e151_15, e151_18, e151_19b, e151_19, e151_20, e151_23, e151_24, e151_25, e151_28, e, z', nI_1, nI_add, om, vkk_n, vkk_i, vkk_r, vkk_l, vkk_d, catS_nil, catS_i, catS_r, catS_l, catS_d, Nat.reduceAdd, Nat.reduceLeDiff, Nat.zero_le, Nat.le_refl, Option.bind_some, Option.toList_some, Option.toList_none, List.cons_append, List.nil_append, or_true, true_or, if_true, if_false, Int32.reduceLT, Int32.reduceLE, not_true, not_false_iff, true_and, and_true, false_and, and_false]
theorem c_mmust {h : VG} {g L c k y : Nat} {b : Nat → Nat} {X : Nat × Nat} (q : MC h g b L c) (x : MX h g b L c X) (hk : (k = 1 ∧ y = 2) ∨ (k = 2 ∧ y = 3) ∨ (k = 4 ∧ y = 4)) : ∃ h1, ev 152 0 [some (.ref (g + 266)), some (.int (nI k))] [] h = some (none, h1) ∧ Fr NR (FTM g) h h1 ∧ MX h1 g b L c (rB X (rP (tyC b L) y)) := by
  have om : ob h (g + 266) 11 := Mod_0 q.1.2.1
  have e := c_mis q x (k := k) (by omega)
  obtain ⟨h1, u1, u2, u3⟩ := c_mfail (f := 1) q x (Or.inl rfl)
  have u1 : ev 149 0 [some (.ref (g + 266)), some (.int 1)] [] h = _ := u1
  have ct := cTy_0 (kd_or b L X.2)
  have ty : tyC b L X.2 = y ↔ kd b L X.2 = k := by
    rcases hk with ⟨rfl, rfl⟩ | ⟨rfl, rfl⟩ | ⟨rfl, rfl⟩
    · exact ct.2.2.2.1
    · exact ct.2.2.2.2.1
    · exact ct.2.2.2.2.2.1
  by_cases z : X.1 = 0
  · by_cases t : kd b L X.2 = k
    · rw [if_pos ⟨z, t⟩] at e
      have ex : X = (0, X.2) := by rw [← z]
      rw [ex] at x
      obtain ⟨h2, w1, w2, w3⟩ := c_mpass q x (by omega)
      refine ⟨h2, ?_, w2, ?_⟩
      · simp +decide only [e152_0, e152_1, e152_2, e152_5, e152_8, e152_9, e152_12, e152_15, e152_16, e152_17, e152_20, e, w1, om, vkk_n, vkk_i, vkk_r, vkk_l, vkk_d, catS_nil, catS_i, catS_r, catS_l, catS_d, Nat.reduceAdd, Nat.reduceLeDiff, Nat.zero_le, Nat.le_refl, Option.bind_some, Option.toList_some, Option.toList_none, List.cons_append, List.nil_append, or_true, true_or, if_true, if_false, Int32.reduceLT, Int32.reduceLE, not_true, not_false_iff, true_and, and_true, false_and, and_false]
      · rw [rB_o _ z]
        unfold rP
        rw [if_pos (ty.mpr t)]
        exact w3
    · rw [if_neg (fun w => t w.2)] at e
      refine ⟨h1, ?_, u2, ?_⟩
      · simp +decide only [e152_0, e152_1, e152_2, e152_5, e152_8, e152_9, e152_12, e152_15, e152_16, e152_17, e152_20, e, u1, om, vkk_n, vkk_i, vkk_r, vkk_l, vkk_d, catS_nil, catS_i, catS_r, catS_l, catS_d, Nat.reduceAdd, Nat.reduceLeDiff, Nat.zero_le, Nat.le_refl, Option.bind_some, Option.toList_some, Option.toList_none, List.cons_append, List.nil_append, or_true, true_or, if_true, if_false, Int32.reduceLT, Int32.reduceLE, not_true, not_false_iff, true_and, and_true, false_and, and_false]
      · rw [rB_o _ z] at u3 ⊢
        unfold rP
        rw [if_neg (fun w => t (ty.mp w))]
        exact u3
  · rw [if_neg (fun w => z w.1)] at e
    refine ⟨h1, ?_, u2, ?_⟩
    · simp +decide only [e152_0, e152_1, e152_2, e152_5, e152_8, e152_9, e152_12, e152_15, e152_16, e152_17, e152_20, e, u1, om, vkk_n, vkk_i, vkk_r, vkk_l, vkk_d, catS_nil, catS_i, catS_r, catS_l, catS_d, Nat.reduceAdd, Nat.reduceLeDiff, Nat.zero_le, Nat.le_refl, Option.bind_some, Option.toList_some, Option.toList_none, List.cons_append, List.nil_append, or_true, true_or, if_true, if_false, Int32.reduceLT, Int32.reduceLE, not_true, not_false_iff, true_and, and_true, false_and, and_false]
    · rw [rB_x _ z] at u3 ⊢
      exact u3
/-- one member -/
def rM1 (T : Nat → Nat) (m s : Nat) : Nat × Nat := if m = 8 then (2, s) else rB (rP T 5 s) fun s1 => if T s1 = 3 then rP T 3 s1 else (0, s1)
theorem c_mmember {h : VG} {g L c m s : Nat} {b : Nat → Nat} (q : MC h g b L c) (x : MX h g b L c (0, s)) (hm : m ≤ 8) (ht : tyC b L s = 5) : ∃ h1, ev 158 0 [some (.ref (g + 266)), some (.int (nI m))] [] h = some (none, h1) ∧ Fr NR (FTM g) h h1 ∧ MX h1 g b L c (rM1 (tyC b L) m s) := by
  have om : ob h (g + 266) 11 := Mod_0 q.1.2.1
  have n8 : nI m = 8 ↔ m = 8 := nI_eq (b := 8) (by omega) (by decide)
  unfold rM1
  by_cases z : m = 8
  · rw [if_pos z]
    have z' := n8.mpr z
    obtain ⟨h1, u1, u2, u3⟩ := c_mfail (f := 2) q x (Or.inr rfl)
    have u1 : ev 149 0 [some (.ref (g + 266)), some (.int 2)] [] h = _ := u1
    refine ⟨h1, ?_, u2, u3⟩
    simp +decide only [e158_0, e158_1, e158_3, e158_6, e158_7, e158_8, e158_11, e158_12, e158_13, e158_16, e158_17, e158_18, e158_21, e158_24, e158_25, e158_28, z', u1, om, vkk_n, vkk_i, vkk_r, vkk_l, vkk_d, catS_nil, catS_i, catS_r, catS_l, catS_d, Nat.reduceAdd, Nat.reduceLeDiff, Nat.zero_le, Nat.le_refl, Option.bind_some, Option.toList_some, Option.toList_none, List.cons_append, List.nil_append, or_true, true_or, if_true, if_false, Int32.reduceLT, Int32.reduceLE, not_true, not_false_iff, true_and, and_true, false_and, and_false]
  rw [if_neg z]
  have z' : ¬ nI m = 8 := fun y => z (n8.mp y)
  have k5 := (cTy_0 (kd_or b L s)).2.2.2.2.2.2.1.mp ht
  obtain ⟨h1, u1, u2, u3⟩ := c_mpass q x (by omega)
  have eP : rP (tyC b L) 5 s = if s = 400 then (2, s) else (0, s + 1) := if_pos ht
  rw [eP]
  have q1 := MC_fr u2 q
  have om1 : ob h1 (g + 266) 11 := Mod_0 q1.1.2.1
  generalize (if s = 400 then (2, s) else (0, s + 1)) = Y at u3 ⊢
  have e := c_mis q1 u3 (k := 2) (by decide)
  have e : ev 148 0 [some (.ref (g + 266)), some (.int 2)] [] h1 = _ := e
  have t3 : tyC b L Y.2 = 3 ↔ kd b L Y.2 = 2 := (cTy_0 (kd_or b L Y.2)).2.2.2.2.1
  by_cases y : Y.1 = 0
  · rw [rB_o _ y]
    by_cases t : kd b L Y.2 = 2
    · rw [if_pos ⟨y, t⟩] at e
      rw [if_pos (t3.mpr t)]
      have ex : Y = (0, Y.2) := by rw [← y]
      rw [ex] at u3
      obtain ⟨h2, w1, w2, w3⟩ := c_mpass q1 u3 (by omega)
      refine ⟨h2, ?_, u2.tr w2, ?_⟩
      · simp +decide only [e158_0, e158_1, e158_3, e158_6, e158_7, e158_8, e158_11, e158_12, e158_13, e158_16, e158_17, e158_18, e158_21, e158_24, e158_25, e158_28, z', u1, e, w1, om, om1, vkk_n, vkk_i, vkk_r, vkk_l, vkk_d, catS_nil, catS_i, catS_r, catS_l, catS_d, Nat.reduceAdd, Nat.reduceLeDiff, Nat.zero_le, Nat.le_refl, Option.bind_some, Option.toList_some, Option.toList_none, List.cons_append, List.nil_append, or_true, true_or, if_true, if_false, Int32.reduceLT, Int32.reduceLE, not_true, not_false_iff, true_and, and_true, false_and, and_false]
      · unfold rP
        rw [if_pos (t3.mpr t)]
        exact w3
    · rw [if_neg (fun w => t w.2)] at e
      rw [if_neg (fun w => t (t3.mp w))]
      refine ⟨h1, ?_, u2, ?_⟩
      · simp +decide only [e158_0, e158_1, e158_3, e158_6, e158_7, e158_8, e158_11, e158_12, e158_13, e158_16, e158_17, e158_18, e158_21, e158_24, e158_25, e158_28, z', u1, e, om, om1, vkk_n, vkk_i, vkk_r, vkk_l, vkk_d, catS_nil, catS_i, catS_r, catS_l, catS_d, Nat.reduceAdd, Nat.reduceLeDiff, Nat.zero_le, Nat.le_refl, Option.bind_some, Option.toList_some, Option.toList_none, List.cons_append, List.nil_append, or_true, true_or, if_true, if_false, Int32.reduceLT, Int32.reduceLE, not_true, not_false_iff, true_and, and_true, false_and, and_false]
      · rw [← y]
        exact u3
  · rw [rB_x _ y]
    rw [if_neg (fun w => y w.1)] at e
    refine ⟨h1, ?_, u2, u3⟩
    simp +decide only [e158_0, e158_1, e158_3, e158_6, e158_7, e158_8, e158_11, e158_12, e158_13, e158_16, e158_17, e158_18, e158_21, e158_24, e158_25, e158_28, z', u1, e, om, om1, vkk_n, vkk_i, vkk_r, vkk_l, vkk_d, catS_nil, catS_i, catS_r, catS_l, catS_d, Nat.reduceAdd, Nat.reduceLeDiff, Nat.zero_le, Nat.le_refl, Option.bind_some, Option.toList_some, Option.toList_none, List.cons_append, List.nil_append, or_true, true_or, if_true, if_false, Int32.reduceLT, Int32.reduceLE, not_true, not_false_iff, true_and, and_true, false_and, and_false]
