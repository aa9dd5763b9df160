set_option maxHeartbeats 4000000 in
/-! read: what lines mean, by the model, whole -/
def QS (h : VG) (g : Nat) (b : Nat → Nat) (L : Nat) (σ : SG) : Prop := WM h g b L (sgW σ) ∧ gI h (g + 266) 26 = nI (sgN σ) ∧ gI h (g + 266) 24 = nI (sgB σ) ∧ ((sgW σ).1 = 0 → gI h (g + 266) 25 = nI (sgL σ)) ∧ NM h g (sgM σ) ∧ ∀ f, f < sgN σ → aI h (g + 278) f = nI (sgC σ f) ∧ ∀ j, j < sgC σ f → aI h (g + 279) (8 * f + j) = nI (mKk b L (sgF σ f + 2) j) ∧ ((sgW σ).1 = 0 → aI h (g + 280) (8 * f + j) = nI (mRr b L (sgF σ f + 2) j))
def FP (b : Nat → Nat) (L : Nat) (σ : SG) : Prop := (∀ f, f < sgN σ → sgF σ f + 1 < sgS σ ∧ kd b L (sgF σ f) = 22 ∧ kd b L (sgF σ f + 1) = 1 ∧ 1 ≤ sgC σ f ∧ sgC σ f ≤ 8) ∧ (∀ x, x < sgS σ → kd b L x = 22 → ∃ f, f < sgN σ ∧ sgF σ f = x) ∧ (sgS σ = 0 ∨ kd b L (sgS σ - 1) = 4) ∧ WL (sgW σ) (sgS σ)
theorem WL_M {b : Nat → Nat} {L s0 : Nat} {W : Nat × Nat} (q : WL W s0) : ∀ m, WL (wM b L s0 W m) (mt (tyC b L) s0 m) := by
  intro m
  induction m with
  | zero => exact q
  | succ m ih =>
    show WL (wRp (tyC b L) (vC b L) (wM b L s0 W m) (mr (tyC b L) (mt (tyC b L) s0 m))) (if tyC b L (mt (tyC b L) s0 m + 1) = 3 then mt (tyC b L) s0 m + 2 else mt (tyC b L) s0 m + 1)
    unfold wRp mr
    by_cases y : tyC b L (mt (tyC b L) s0 m + 1) = 3
    · rw [if_pos y, if_pos y]
      split
      · exact WL_N _ (WL_up (by omega) ih)
      · exact WL_up (by omega) ih
    · rw [if_neg y, if_neg y]
      split
      · exact WL_N _ ih
      · exact WL_up (by omega) ih
theorem wDp_is {b : Nat → Nat} {L : Nat} {σ : SG} (p : FP b L σ) : wDp b L σ = wDU b L (sgS σ + 1) (sgW σ) (sgS σ) := by
  unfold wDp wDU
  have e : dup b L (sgF σ) (sgN σ) (sgS σ) ↔ dpU b L (sgS σ + 1) (sgS σ) := by
    refine ⟨fun ⟨f, f1, f2⟩ => ?_, fun ⟨j, j1, j2, j3⟩ => ?_⟩
    · obtain ⟨a1, a2, -⟩ := p.1 f f1
      exact ⟨sgF σ f, by omega, a2, f2⟩
    · obtain ⟨f, f1, f2⟩ := p.2.1 j j1 j2
      exact ⟨f, f1, by rw [f2]; exact j3⟩
  by_cases y : dup b L (sgF σ) (sgN σ) (sgS σ)
  · rw [if_pos y, if_pos (e.mp y)]
  · rw [if_neg y, if_neg (fun z => y (e.mpr z))]
theorem FP_s {b : Nat → Nat} {L : Nat} {σ : SG} (v : VAL b L σ) (p : FP b L σ) : FP b L (stp1 b L σ) := by
  obtain ⟨i1, i2, i3, i4⟩ := VAL_in v
  obtain ⟨-, v⟩ := v
  have pp := p
  obtain ⟨p1, p2, p3, p4⟩ := p
  have k8 : tyC b L (sgS σ) = 8 ↔ kd b L (sgS σ) = 22 := (cTy_0 (kd_or b L (sgS σ))).2.2.2.2.2.2.2.2.2.1
  -- a line that is no form
  have no : ∀ W s1, ¬ tyC b L (sgS σ) = 8 → sgS (stp1 b L σ) = s1 → sgN (stp1 b L σ) = sgN σ → sgF (stp1 b L σ) = sgF σ → sgC (stp1 b L σ) = sgC σ → sgW (stp1 b L σ) = W → WL W s1 → FP b L (stp1 b L σ) := by
    intro W s1 n8 e1 e2 e3 e4 e5 e6
    unfold FP
    rw [e2, e3, e4, e5]
    refine ⟨fun f hf => ?_, fun x hx kx => ?_, Or.inr i2, by rw [e1]; exact e6⟩
    · obtain ⟨a1, a2⟩ := p1 f hf
      exact ⟨by omega, a2⟩
    · by_cases y : x < sgS σ
      · exact p2 x y kx
      · by_cases z : x = sgS σ
        · rw [z] at kx
          exact absurd (k8.mpr kx) n8
        · have := i4 x (by omega) hx
          omega
  rcases v with ⟨v1, v2⟩ | ⟨v1, v2, v3⟩ | ⟨v1, v2, v3, v4, v5, v6, v7⟩ | ⟨v1, v2, v3, v4, v5, v6⟩
  · have e : stp1 b L σ = stB b L σ := if_pos v1
    rw [e]
    rw [e] at no
    exact no (sgW σ) (sgS σ + 2) (by omega) rfl rfl rfl rfl rfl (WL_up (by omega) p4)
  · have e : stp1 b L σ = stL b L σ := by unfold stp1; rw [if_neg (by omega), if_pos v1]
    rw [e]
    rw [e] at no
    refine no _ (sgS σ + 3) (by omega) rfl rfl rfl rfl rfl ?_
    show WL (if 1 ≤ vC b L (sgS σ + 1) ∧ vC b L (sgS σ + 1) ≤ 256 then sgW σ else wN (sgW σ) 5 (sgS σ + 1)) (sgS σ + 3)
    split
    · exact WL_up (by omega) p4
    · exact WL_up (by omega) (WL_N 5 (WL_up (show sgS σ ≤ sgS σ + 1 by omega) p4))
  · have e : stp1 b L σ = stF b L σ := by unfold stp1; rw [if_neg (by omega), if_neg (by omega), if_pos v1]
    rw [e] at i1 i2 i3 i4 ⊢
    have k2 : kd b L (sgS σ + 1) = 1 := (cTy_0 (kd_or b L (sgS σ + 1))).2.2.2.1.mp v2
    have ge := mt_ge (tyC b L) (sgS σ + 2) (fmN b L σ)
    have eS : sgS (stF b L σ) = mt (tyC b L) (sgS σ + 2) (fmN b L σ) + 1 := rfl
    have eN : sgN (stF b L σ) = sgN σ + 1 := rfl
    have eF : ∀ f, sgF (stF b L σ) f = if f = sgN σ then sgS σ else sgF σ f := fun f => rfl
    have eC : ∀ f, sgC (stF b L σ) f = if f = sgN σ then fmN b L σ else sgC σ f := fun f => rfl
    refine ⟨fun f hf => ?_, fun x hx kx => ?_, Or.inr i2, ?_⟩
    · rw [eF, eC, eS]
      by_cases y : f = sgN σ
      · rw [if_pos y, if_pos y]
        exact ⟨by omega, k8.mp v1, k2, v4, v5⟩
      · rw [if_neg y, if_neg y]
        obtain ⟨a1, a2⟩ := p1 f (by omega)
        exact ⟨by omega, a2⟩
    · by_cases y : x < sgS σ
      · obtain ⟨f, f1, f2⟩ := p2 x y kx
        exact ⟨f, by omega, by rw [eF, if_neg (by omega)]; exact f2⟩
      · by_cases z : x = sgS σ
        · exact ⟨sgN σ, by omega, by rw [eF, if_pos rfl]; exact z.symm⟩
        · have := i4 x (by omega) hx
          omega
    · show WL (wM b L (sgS σ + 2) (wDp b L σ) (fmN b L σ)) (mt (tyC b L) (sgS σ + 2) (fmN b L σ) + 1)
      refine WL_up (Nat.le_succ _) (WL_M ?_ _)
      unfold wDp
      split
      · exact WL_N 3 (WL_up (show sgS σ ≤ sgS σ + 1 by omega) p4)
      · exact WL_up (by omega) p4
  · have e : stp1 b L σ = stI b L σ := by unfold stp1; rw [if_neg (by omega), if_neg (by omega), if_neg (by omega)]
    rw [e]
    rw [e] at no
    refine no _ (sgS σ + 2 + flN b L σ + 1) (by omega) rfl rfl rfl rfl rfl ?_
    refine WL_up (show sgS σ + 2 + flN b L σ ≤ sgS σ + 2 + flN b L σ + 1 by omega) (WL_F ?_ _)
    split
    · exact WL_N 5 (WL_up (show sgS σ ≤ sgS σ + 1 by omega) p4)
    · exact WL_up (by omega) p4
theorem FP_N {b : Nat → Nat} {L N : Nat} (ok : OKS b L N) : ∀ i, i ≤ N → FP b L (LSt b L i) := by
  intro i
  induction i with
  | zero =>
    intro _
    exact ⟨fun f hf => absurd hf (Nat.not_lt_zero _), fun x hx => absurd hx (Nat.not_lt_zero _), Or.inl rfl, Or.inl rfl⟩
  | succ i ih =>
    intro hi
    exact FP_s (ok i (by omega)).1 (ih (by omega))
theorem wM_0 {b : Nat → Nat} {L s0 : Nat} {W : Nat × Nat} : ∀ m, (wM b L s0 W m).1 = 0 → W.1 = 0 := by
  intro m
  induction m with
  | zero => exact fun z => z
  | succ m ih =>
    intro z
    apply ih
    have z : (wRp (tyC b L) (vC b L) (wM b L s0 W m) (mr (tyC b L) (mt (tyC b L) s0 m))).1 = 0 := z
    unfold wRp wN at z
    split at z
    · split at z
      · assumption
      · exact z
    · exact z
theorem wFb_0 {V : Nat → Nat} {A s2 : Nat} {W : Nat × Nat} : ∀ m, (wFb V A s2 W m).1 = 0 → W.1 = 0 := by
  intro m
  induction m with
  | zero => exact fun z => z
  | succ m ih =>
    intro z
    apply ih
    have z : (if V (s2 + m) ≤ 255 ∧ A + m ≤ 255 then wFb V A s2 W m else wN (wFb V A s2 W m) 5 (s2 + m)).1 = 0 := z
    unfold wN at z
    split at z
    · exact z
    · split at z
      · assumption
      · exact z
theorem QS_fr {R : Nat → Prop} {F : Nat → Nat → Prop} {h h1 : VG} {g L : Nat} {b : Nat → Nat} {σ : SG} (x : Fr R F h h1) (c1 : ∀ a, R a → ¬ (g + 277 < a ∧ a < g + 282)) (d1 : ∀ k, F (g + 266) k → ¬ k = 14 ∧ ¬ k = 15 ∧ ¬ k = 24 ∧ ¬ k = 25 ∧ ¬ k = 26) (q : QS h g b L σ) : QS h1 g b L σ := by
  obtain ⟨q1, q2, q3, q4, q5, q6⟩ := q
  refine ⟨WM_fr x (fun k z => ⟨(d1 k z).1, (d1 k z).2.1⟩) q1, (x.gI (fun z => (d1 _ z).2.2.2.2 rfl)).trans q2, (x.gI (fun z => (d1 _ z).2.2.1 rfl)).trans q3, fun z => (x.gI (fun z => (d1 _ z).2.2.2.1 rfl)).trans (q4 z), NM_fr x (fun z => c1 _ z (by omega)) q5, fun f hf => ?_⟩
  rw [x.I (fun z => c1 _ z (by omega))]
  refine ⟨(q6 f hf).1, fun j hj => ?_⟩
  rw [x.I (fun z => c1 _ z (by omega)), x.I (fun z => c1 _ z (by omega))]
  exact (q6 f hf).2 j hj
theorem c_mmean {h : VG} {g L c : Nat} {b : Nat → Nat} {σ : SG} (q : MZ h g b L c) (e10 : gI h (g + 266) 10 = nI c) (v : VAL b L σ) (p : FP b L σ) (hn : sgN σ ≤ 6) (hc : sgS (stp1 b L σ) < c) (s : QS h g b L σ) : ∃ h1, ev 159 41 [some (.ref (g + 266)), some (.int (nI (sgS σ)))] [] h = ev 159 41 [some (.ref (g + 266)), some (.int (nI (sgS σ + 1)))] [] h1 ∧ Fr (fun a => g + 277 < a ∧ a < g + 282) (FTZ g) h h1 ∧ QS h1 g b L (stp1 b L σ) := by
  have hs := q.1.1
  have om : ob h (g + 266) 11 := Mod_0 hs.2.1
  have hcc := q.1.2.2.1
  have il := VAL_in v
  have lt := il.1
  obtain ⟨-, v⟩ := v
  have s' := s
  obtain ⟨s1, s2, s3, s4, s5, s6⟩ := s
  have v1 : vp_in (nI (sgS σ)) 403 := vp_in_nI (by omega) (by decide)
  have v2 : (nI (sgS σ)).toNatClampNeg = sgS σ := nI_clamp (by omega)
  have t1 := (q.1.2.1 (sgS σ) (by omega)).1
  have ct := cTy_0 (kd_or b L (sgS σ))
  have ent : ev 159 41 [some (.ref (g + 266)), some (.int (nI (sgS σ)))] [] h = ev 159 68 [some (.ref (g + 266)), some (.int (nI (sgS σ)))] [] h := by
    have i1 : nI (sgS σ) < nI c := nI_lt (by omega) (by omega)
    rcases p.2.2.1 with z | z
    · have i2 : nI (sgS σ) ≤ 0 := by rw [z]; decide
      simp +decide only [e159_41, e159_42, e159_43, e159_46, e159_49, e159_50, e159_53, e159_54, e159_57, e159_58, e159_59, e159_60, e159_61, e159_62, om, e10, i1, i2, vkk_n, vkk_i, vkk_r, vkk_l, vkk_d, catS_nil, catS_i, catS_r, catS_l, catS_d, Nat.reduceAdd, Nat.reduceLeDiff, Nat.zero_le, Nat.le_refl, Option.bind_some, Option.toList_some, Option.toList_none, List.cons_append, List.nil_append, or_true, true_or, if_true, if_false, Int32.reduceLT, Int32.reduceLE, not_true, not_false_iff, true_and, and_true, false_and, and_false]
    · by_cases y : sgS σ = 0
      · have i2 : nI (sgS σ) ≤ 0 := by rw [y]; decide
        simp +decide only [e159_41, e159_42, e159_43, e159_46, e159_49, e159_50, e159_53, e159_54, e159_57, e159_58, e159_59, e159_60, e159_61, e159_62, om, e10, i1, i2, vkk_n, vkk_i, vkk_r, vkk_l, vkk_d, catS_nil, catS_i, catS_r, catS_l, catS_d, Nat.reduceAdd, Nat.reduceLeDiff, Nat.zero_le, Nat.le_refl, Option.bind_some, Option.toList_some, Option.toList_none, List.cons_append, List.nil_append, or_true, true_or, if_true, if_false, Int32.reduceLT, Int32.reduceLE, not_true, not_false_iff, true_and, and_true, false_and, and_false]
      · have i2 : ¬ nI (sgS σ) ≤ 0 := fun w => by have := (nI_leI (b := 0) (by omega) (by decide)).mp w; omega
        have sb : nI (sgS σ) - 1 = nI (sgS σ - 1) := by rw [show (1 : Int32) = nI 1 from rfl, pk_sub (by omega)]
        have v3 : vp_in (nI (sgS σ - 1)) 403 := vp_in_nI (by omega) (by decide)
        have v4 : (nI (sgS σ - 1)).toNatClampNeg = sgS σ - 1 := nI_clamp (by omega)
        have t2 := (q.1.2.1 (sgS σ - 1) (by omega)).1
        rw [z] at t2
        have t2 : aI h (g + 269) (sgS σ - 1) = 4 := t2
        simp +decide only [e159_41, e159_42, e159_43, e159_46, e159_49, e159_50, e159_53, e159_54, e159_57, e159_58, e159_59, e159_60, e159_61, e159_62, om, e10, i1, i2, sb, v3, v4, t2, (Mod_0 hs.2.1 : ob h (g + 266) 11), (rf_g (Mod_7 hs.2.1 : rf h (g + 266) 5 (g + 269)) : gR h (g + 266) 5 = (g + 269)), (rf_is (Mod_7 hs.2.1 : rf h (g + 266) 5 (g + 269)) : isR h (g + 266) 5), (Mod_8 hs.2.1 : arI h (g + 269) 0), (rdI_0 (Mod_8 hs.2.1 : arI h (g + 269) 0) : rdI h (g + 269)), (Mod_9 hs.2.1 : aln h (g + 269) = 403), (rf_g (Mod_13 hs.2.1 : rf h (g + 266) 7 (g + 271)) : gR h (g + 266) 7 = (g + 271)), (rf_is (Mod_13 hs.2.1 : rf h (g + 266) 7 (g + 271)) : isR h (g + 266) 7), (Mod_14 hs.2.1 : arI h (g + 271) 0), (rdI_0 (Mod_14 hs.2.1 : arI h (g + 271) 0) : rdI h (g + 271)), (Mod_15 hs.2.1 : aln h (g + 271) = 403), (rf_g (Mod_43 hs.2.1 : rf h (g + 266) 30 (g + 281)) : gR h (g + 266) 30 = (g + 281)), (rf_is (Mod_43 hs.2.1 : rf h (g + 266) 30 (g + 281)) : isR h (g + 266) 30), (Mod_44 hs.2.1 : arI h (g + 281) 0), (rdI_0 (Mod_44 hs.2.1 : arI h (g + 281) 0) : rdI h (g + 281)), (Mod_45 hs.2.1 : aln h (g + 281) = 256), vkk_n, vkk_i, vkk_r, vkk_l, vkk_d, catS_nil, catS_i, catS_r, catS_l, catS_d, Nat.reduceAdd, Nat.reduceLeDiff, Nat.zero_le, Nat.le_refl, Option.bind_some, Option.toList_some, Option.toList_none, List.cons_append, List.nil_append, or_true, true_or, if_true, if_false, Int32.reduceLT, Int32.reduceLE, not_true, not_false_iff, true_and, and_true, false_and, and_false]
  rw [ent]
  rcases v with ⟨w1, w2⟩ | ⟨w1, w2, w3⟩ | ⟨w1, w2, w3, w4, w5, w6, w7⟩ | ⟨w1, w2, w3, w4, w5, w6⟩
  · have e : stp1 b L σ = stB b L σ := if_pos w1
    rw [e]
    rw [ct.2.2.2.2.2.2.2.1.mp w1] at t1
    have t1 : aI h (g + 269) (sgS σ) = 20 := t1
    have x1 : Fr (fun a => g + 277 < a ∧ a < g + 282) (FTZ g) h (pI h (g + 266) 24 1) := Fr_pI _ _ _ _ ⟨rfl, by omega⟩
    have x2 : Fr NR (fun a k => a = g + 266 ∧ k = 24) h (pI h (g + 266) 24 1) := Fr_pI _ _ _ _ ⟨rfl, rfl⟩
    have E24 : gI (pI h (g + 266) 24 1) (g + 266) 24 = 1 := by simp +decide only [gI_pI, (eq_true (isI_ob om rfl : isI h (g + 266) 24)), true_and, and_true, if_true]
    refine ⟨pI h (g + 266) 24 1, ?_, x1, ⟨WM_fr x2 (fun k z => by omega) s1, (x2.gI (fun z => by omega)).trans s2, E24, fun z => (x2.gI (fun z => by omega)).trans (s4 z), NM_fr x2 (fun z => z) s5, fun f hf => by simp only [aI_pI]; exact s6 f hf⟩⟩
    · generalize hZ : ev 159 41 [some (.ref (g + 266)), some (.int (nI (sgS σ + 1)))] [] (pI h (g + 266) 24 1) = Z
      simp +decide only [e159_68, e159_69, e159_72, e159_73, e159_74, e159_76, e159_79, e159_80, e159_81, e159_84, e159_85, e159_88, e159_89, e159_90, e159_92, e159_129, e159_130, e159_133, e159_134, e159_135, e159_137, e159_140, e159_141, e159_142, e159_145, e159_146, e159_149, e159_150, e159_151, e159_153, e159_156, e159_157, e159_158, e159_161, e159_164, om, v1, v2, t1, nI_1, nI_add, (Mod_0 hs.2.1 : ob h (g + 266) 11), (rf_g (Mod_7 hs.2.1 : rf h (g + 266) 5 (g + 269)) : gR h (g + 266) 5 = (g + 269)), (rf_is (Mod_7 hs.2.1 : rf h (g + 266) 5 (g + 269)) : isR h (g + 266) 5), (Mod_8 hs.2.1 : arI h (g + 269) 0), (rdI_0 (Mod_8 hs.2.1 : arI h (g + 269) 0) : rdI h (g + 269)), (Mod_9 hs.2.1 : aln h (g + 269) = 403), (rf_g (Mod_13 hs.2.1 : rf h (g + 266) 7 (g + 271)) : gR h (g + 266) 7 = (g + 271)), (rf_is (Mod_13 hs.2.1 : rf h (g + 266) 7 (g + 271)) : isR h (g + 266) 7), (Mod_14 hs.2.1 : arI h (g + 271) 0), (rdI_0 (Mod_14 hs.2.1 : arI h (g + 271) 0) : rdI h (g + 271)), (Mod_15 hs.2.1 : aln h (g + 271) = 403), (rf_g (Mod_43 hs.2.1 : rf h (g + 266) 30 (g + 281)) : gR h (g + 266) 30 = (g + 281)), (rf_is (Mod_43 hs.2.1 : rf h (g + 266) 30 (g + 281)) : isR h (g + 266) 30), (Mod_44 hs.2.1 : arI h (g + 281) 0), (rdI_0 (Mod_44 hs.2.1 : arI h (g + 281) 0) : rdI h (g + 281)), (Mod_45 hs.2.1 : aln h (g + 281) = 256), ob_pI, rf_pI, isR_pI, isI_pI, isL_pI, arI_pI, arL_pI, arR_pI, arD_pI, aln_pI, rdI_pI, rdB_pI, rdR_pI, aR_pI, pI_2, gI_pI, gL_pI, gD_pI, gR_pI, aI_pI, aL_pI, aD_pI, ob_pL, rf_pL, isR_pL, isI_pL, isL_pL, arI_pL, arL_pL, arR_pL, arD_pL, aln_pL, rdI_pL, rdB_pL, rdR_pL, aR_pL, pL_2, gI_pL, gL_pL, gD_pL, gR_pL, aI_pL, aL_pL, aD_pL, ob_wI, rf_wI, isR_wI, isI_wI, isL_wI, arI_wI, arL_wI, arR_wI, arD_wI, aln_wI, rdI_wI, rdB_wI, rdR_wI, aR_wI, wI_2, gI_wI, gL_wI, gD_wI, gR_wI, aL_wI, aD_wI, aI_wI_ne, ob_wL, rf_wL, isR_wL, isI_wL, isL_wL, arI_wL, arL_wL, arR_wL, arD_wL, aln_wL, rdI_wL, rdB_wL, rdR_wL, aR_wL, wL_2, gI_wL, gL_wL, gD_wL, gR_wL, aI_wL, aD_wL, aL_wL_ne, ob_bI, rf_bI, isR_bI, isI_bI, isL_bI, arI_bI, arL_bI, arR_bI, arD_bI, aln_bI, rdI_bI, rdB_bI, rdR_bI, aR_bI, bI_2, gI_bI, gL_bI, gD_bI, gR_bI, aL_bI, aD_bI, aI_bI_ne, ob_bL, rf_bL, isR_bL, isI_bL, isL_bL, arI_bL, arL_bL, arR_bL, arD_bL, aln_bL, rdI_bL, rdB_bL, rdR_bL, aR_bL, bL_2, gI_bL, gL_bL, gD_bL, gR_bL, aI_bL, aD_bL, aL_bL_ne, vkk_n, vkk_i, vkk_r, vkk_l, vkk_d, catS_nil, catS_i, catS_r, catS_l, catS_d, Nat.reduceAdd, Nat.reduceLeDiff, Nat.zero_le, Nat.le_refl, Option.bind_some, Option.toList_some, Option.toList_none, List.cons_append, List.nil_append, or_true, true_or, if_true, if_false, Int32.reduceLT, Int32.reduceLE, not_true, not_false_iff, true_and, and_true, false_and, and_false, Nat.add_assoc, Nat.reduceAdd, Nat.add_left_cancel_iff, Nat.reduceEqDiff, Nat.add_eq_left, Nat.left_eq_add]
      exact hZ
  · have e : stp1 b L σ = stL b L σ := by unfold stp1; rw [if_neg (by omega), if_pos w1]
    rw [e] at hc ⊢
    have hc : sgS σ + 3 < c := hc
    rw [ct.2.2.2.2.2.2.2.2.1.mp w1] at t1
    have t1 : aI h (g + 269) (sgS σ) = 21 := t1
    have k2 : kd b L (sgS σ + 1) = 2 := (cTy_0 (kd_or b L (sgS σ + 1))).2.2.2.2.1.mp w2
    have v3 : vp_in (nI (sgS σ + 1)) 403 := vp_in_nI (by omega) (by decide)
    have v4 : (nI (sgS σ + 1)).toNatClampNeg = sgS σ + 1 := nI_clamp (by omega)
    have t3 : aI h (g + 271) (sgS σ + 1) = nI (vC b L (sgS σ + 1)) := (q.1.2.1 (sgS σ + 1) (by omega)).2.2.1 k2
    have vl : vC b L (sgS σ + 1) < 10000 := tIv_lt b L _ k2
    have eW : sgW (stL b L σ) = if 1 ≤ vC b L (sgS σ + 1) ∧ vC b L (sgS σ + 1) ≤ 256 then sgW σ else wN (sgW σ) 5 (sgS σ + 1) := rfl
    have eL : sgL (stL b L σ) = if 1 ≤ vC b L (sgS σ + 1) ∧ vC b L (sgS σ + 1) ≤ 256 then vC b L (sgS σ + 1) else sgL σ := rfl
    have x1 : Fr NR (fun a k => a = g + 266 ∧ k = 25) h (pI h (g + 266) 25 (nI (vC b L (sgS σ + 1)))) := Fr_pI _ _ _ _ ⟨rfl, rfl⟩
    have E25 : gI (pI h (g + 266) 25 (nI (vC b L (sgS σ + 1)))) (g + 266) 25 = nI (vC b L (sgS σ + 1)) := by simp +decide only [gI_pI, (eq_true (isI_ob om rfl : isI h (g + 266) 25)), true_and, and_true, if_true]
    have ent2 : ev 159 68 [some (.ref (g + 266)), some (.int (nI (sgS σ)))] [] h = ev 159 107 [some (.ref (g + 266)), some (.int (nI (sgS σ)))] [] (pI h (g + 266) 25 (nI (vC b L (sgS σ + 1)))) := by
      simp +decide only [e159_68, e159_69, e159_72, e159_73, e159_74, e159_76, e159_79, e159_80, e159_81, e159_84, e159_85, e159_88, e159_89, e159_90, e159_92, e159_95, e159_96, e159_97, e159_100, e159_101, e159_102, e159_103, e159_104, om, v1, v2, v3, v4, t1, t3, nI_1, nI_add, (Mod_0 hs.2.1 : ob h (g + 266) 11), (rf_g (Mod_7 hs.2.1 : rf h (g + 266) 5 (g + 269)) : gR h (g + 266) 5 = (g + 269)), (rf_is (Mod_7 hs.2.1 : rf h (g + 266) 5 (g + 269)) : isR h (g + 266) 5), (Mod_8 hs.2.1 : arI h (g + 269) 0), (rdI_0 (Mod_8 hs.2.1 : arI h (g + 269) 0) : rdI h (g + 269)), (Mod_9 hs.2.1 : aln h (g + 269) = 403), (rf_g (Mod_13 hs.2.1 : rf h (g + 266) 7 (g + 271)) : gR h (g + 266) 7 = (g + 271)), (rf_is (Mod_13 hs.2.1 : rf h (g + 266) 7 (g + 271)) : isR h (g + 266) 7), (Mod_14 hs.2.1 : arI h (g + 271) 0), (rdI_0 (Mod_14 hs.2.1 : arI h (g + 271) 0) : rdI h (g + 271)), (Mod_15 hs.2.1 : aln h (g + 271) = 403), (rf_g (Mod_43 hs.2.1 : rf h (g + 266) 30 (g + 281)) : gR h (g + 266) 30 = (g + 281)), (rf_is (Mod_43 hs.2.1 : rf h (g + 266) 30 (g + 281)) : isR h (g + 266) 30), (Mod_44 hs.2.1 : arI h (g + 281) 0), (rdI_0 (Mod_44 hs.2.1 : arI h (g + 281) 0) : rdI h (g + 281)), (Mod_45 hs.2.1 : aln h (g + 281) = 256), vkk_n, vkk_i, vkk_r, vkk_l, vkk_d, catS_nil, catS_i, catS_r, catS_l, catS_d, Nat.reduceAdd, Nat.reduceLeDiff, Nat.zero_le, Nat.le_refl, Option.bind_some, Option.toList_some, Option.toList_none, List.cons_append, List.nil_append, or_true, true_or, if_true, if_false, Int32.reduceLT, Int32.reduceLE, not_true, not_false_iff, true_and, and_true, false_and, and_false]
    rw [ent2]
    have t1H : aI (pI h (g + 266) 25 (nI (vC b L (sgS σ + 1)))) (g + 269) (sgS σ) = 21 := (aI_pI _ _ _ _ _ _).trans t1
    have qH : MZ (pI h (g + 266) 25 (nI (vC b L (sgS σ + 1)))) g b L c := MZ_fr x1 (fun a z => z.elim) (fun k z => by omega) q
    generalize pI h (g + 266) 25 (nI (vC b L (sgS σ + 1))) = H at x1 E25 t1H qH
    have hsH := qH.1.1
    have omH : ob H (g + 266) 11 := Mod_0 hsH.2.1
    have wH : WM H g b L (sgW σ) := WM_fr x1 (fun k z => by omega) s1
    by_cases ok : 1 ≤ vC b L (sgS σ + 1) ∧ vC b L (sgS σ + 1) ≤ 256
    · have mi : mIn (nI (vC b L (sgS σ + 1))) 1 256 = 1 := (mIn_nI (l := 1) (u := 256) (by omega) (by decide) (by decide)).trans (if_pos ok)
      refine ⟨H, ?_, x1.mo (fun a z => z.elim) (fun a k z => by unfold FTZ; omega), ?_⟩
      · generalize hZ : ev 159 41 [some (.ref (g + 266)), some (.int (nI (sgS σ + 1)))] [] H = Z
        simp +decide only [e159_107, e159_108, e159_111, e159_112, e159_115, e159_118, e159_121, e159_122, e159_123, e159_124, e159_125, e159_126, e159_129, e159_130, e159_133, e159_134, e159_135, e159_137, e159_140, e159_141, e159_142, e159_145, e159_146, e159_149, e159_150, e159_151, e159_153, e159_156, e159_157, e159_158, e159_161, e159_164, omH, v1, v2, t1H, E25, c_m_in, mi, nI_1, nI_add, (Mod_0 hsH.2.1 : ob H (g + 266) 11), (rf_g (Mod_7 hsH.2.1 : rf H (g + 266) 5 (g + 269)) : gR H (g + 266) 5 = (g + 269)), (rf_is (Mod_7 hsH.2.1 : rf H (g + 266) 5 (g + 269)) : isR H (g + 266) 5), (Mod_8 hsH.2.1 : arI H (g + 269) 0), (rdI_0 (Mod_8 hsH.2.1 : arI H (g + 269) 0) : rdI H (g + 269)), (Mod_9 hsH.2.1 : aln H (g + 269) = 403), (rf_g (Mod_13 hsH.2.1 : rf H (g + 266) 7 (g + 271)) : gR H (g + 266) 7 = (g + 271)), (rf_is (Mod_13 hsH.2.1 : rf H (g + 266) 7 (g + 271)) : isR H (g + 266) 7), (Mod_14 hsH.2.1 : arI H (g + 271) 0), (rdI_0 (Mod_14 hsH.2.1 : arI H (g + 271) 0) : rdI H (g + 271)), (Mod_15 hsH.2.1 : aln H (g + 271) = 403), (rf_g (Mod_43 hsH.2.1 : rf H (g + 266) 30 (g + 281)) : gR H (g + 266) 30 = (g + 281)), (rf_is (Mod_43 hsH.2.1 : rf H (g + 266) 30 (g + 281)) : isR H (g + 266) 30), (Mod_44 hsH.2.1 : arI H (g + 281) 0), (rdI_0 (Mod_44 hsH.2.1 : arI H (g + 281) 0) : rdI H (g + 281)), (Mod_45 hsH.2.1 : aln H (g + 281) = 256), vkk_n, vkk_i, vkk_r, vkk_l, vkk_d, catS_nil, catS_i, catS_r, catS_l, catS_d, Nat.reduceAdd, Nat.reduceLeDiff, Nat.zero_le, Nat.le_refl, Option.bind_some, Option.toList_some, Option.toList_none, List.cons_append, List.nil_append, or_true, true_or, if_true, if_false, Int32.reduceLT, Int32.reduceLE, not_true, not_false_iff, true_and, and_true, false_and, and_false]
        exact hZ
      · refine ⟨?_, (x1.gI (fun z => by omega)).trans s2, (x1.gI (fun z => by omega)).trans s3, fun _ => ?_, NM_fr x1 (fun z => z) s5, fun f hf => ?_⟩
        · rw [eW, if_pos ok]
          exact wH
        · rw [eL, if_pos ok]
          exact E25
        · rw [eW, if_pos ok]
          have := s6 f hf
          simp only [x1.I (fun z => z)]
          exact this
    · have mi : mIn (nI (vC b L (sgS σ + 1))) 1 256 = 0 := (mIn_nI (l := 1) (u := 256) (by omega) (by decide) (by decide)).trans (if_neg ok)
      obtain ⟨h3, r1, r2, r3⟩ := c_wrong (k := 5) (x := sgS σ + 1) qH (by omega) wH (Or.inr rfl) (by have := p.2.2.2; unfold WL at this; omega)
      have r1 : ev 150 0 [some (.ref (g + 266)), some (.int 5), some (.int (nI (sgS σ + 1))), none] [] H = _ := r1
      have t13 : aI h3 (g + 269) (sgS σ) = 21 := (r2.I (fun z => z) _).trans t1H
      have q3 : MZ h3 g b L c := MZ_fr r2 (fun a z => z.elim) (fun k z => by unfold FTW at z; omega) qH
      have hs3 := q3.1.1
      have om3 : ob h3 (g + 266) 11 := Mod_0 hs3.2.1
      have x3 : Fr NR (fun a k => a = g + 266 ∧ (k = 14 ∨ k = 15 ∨ k = 25)) h h3 := (x1.mo (fun a z => z) (fun a k z => by omega)).tr (r2.mo (fun a z => z) (fun a k z => by unfold FTW at z; omega))
      refine ⟨h3, ?_, x3.mo (fun a z => z.elim) (fun a k z => by unfold FTZ; omega), ?_⟩
      · generalize hZ : ev 159 41 [some (.ref (g + 266)), some (.int (nI (sgS σ + 1)))] [] h3 = Z
        simp +decide only [e159_107, e159_108, e159_111, e159_112, e159_115, e159_118, e159_121, e159_122, e159_123, e159_124, e159_125, e159_126, e159_129, e159_130, e159_133, e159_134, e159_135, e159_137, e159_140, e159_141, e159_142, e159_145, e159_146, e159_149, e159_150, e159_151, e159_153, e159_156, e159_157, e159_158, e159_161, e159_164, omH, om3, v1, v2, t13, E25, c_m_in, mi, r1, nI_1, nI_add, (Mod_0 hs3.2.1 : ob h3 (g + 266) 11), (rf_g (Mod_7 hs3.2.1 : rf h3 (g + 266) 5 (g + 269)) : gR h3 (g + 266) 5 = (g + 269)), (rf_is (Mod_7 hs3.2.1 : rf h3 (g + 266) 5 (g + 269)) : isR h3 (g + 266) 5), (Mod_8 hs3.2.1 : arI h3 (g + 269) 0), (rdI_0 (Mod_8 hs3.2.1 : arI h3 (g + 269) 0) : rdI h3 (g + 269)), (Mod_9 hs3.2.1 : aln h3 (g + 269) = 403), (rf_g (Mod_13 hs3.2.1 : rf h3 (g + 266) 7 (g + 271)) : gR h3 (g + 266) 7 = (g + 271)), (rf_is (Mod_13 hs3.2.1 : rf h3 (g + 266) 7 (g + 271)) : isR h3 (g + 266) 7), (Mod_14 hs3.2.1 : arI h3 (g + 271) 0), (rdI_0 (Mod_14 hs3.2.1 : arI h3 (g + 271) 0) : rdI h3 (g + 271)), (Mod_15 hs3.2.1 : aln h3 (g + 271) = 403), (rf_g (Mod_43 hs3.2.1 : rf h3 (g + 266) 30 (g + 281)) : gR h3 (g + 266) 30 = (g + 281)), (rf_is (Mod_43 hs3.2.1 : rf h3 (g + 266) 30 (g + 281)) : isR h3 (g + 266) 30), (Mod_44 hs3.2.1 : arI h3 (g + 281) 0), (rdI_0 (Mod_44 hs3.2.1 : arI h3 (g + 281) 0) : rdI h3 (g + 281)), (Mod_45 hs3.2.1 : aln h3 (g + 281) = 256), vkk_n, vkk_i, vkk_r, vkk_l, vkk_d, catS_nil, catS_i, catS_r, catS_l, catS_d, Nat.reduceAdd, Nat.reduceLeDiff, Nat.zero_le, Nat.le_refl, Option.bind_some, Option.toList_some, Option.toList_none, List.cons_append, List.nil_append, or_true, true_or, if_true, if_false, Int32.reduceLT, Int32.reduceLE, not_true, not_false_iff, true_and, and_true, false_and, and_false]
        exact hZ
      · have wn : ¬ (wN (sgW σ) 5 (sgS σ + 1)).1 = 0 := by
          unfold wN
          split
          · show ¬ (5 : Nat) = 0
            decide
          · assumption
        refine ⟨?_, (x3.gI (fun z => by omega)).trans s2, (x3.gI (fun z => by omega)).trans s3, fun z => ?_, NM_fr x3 (fun z => z) s5, fun f hf => ?_⟩
        · rw [eW, if_neg ok]
          exact r3
        · rw [eW, if_neg ok] at z
          exact absurd z wn
        · rw [eW, if_neg ok]
          have := s6 f hf
          simp only [x3.I (fun z => z)]
          exact ⟨this.1, fun j hj => ⟨(this.2 j hj).1, fun z => absurd z wn⟩⟩
  · have e : stp1 b L σ = stF b L σ := by unfold stp1; rw [if_neg (by omega), if_neg (by omega), if_pos w1]
    rw [e] at hc ⊢
    have hc : mt (tyC b L) (sgS σ + 2) (fmN b L σ) + 1 < c := hc
    rw [ct.2.2.2.2.2.2.2.2.2.1.mp w1] at t1
    have t1 : aI h (g + 269) (sgS σ) = 22 := t1
    obtain ⟨h1, r1, r2, r3, r4, r5, r6, r7⟩ := c_mform (M := fmN b L σ) q s2 s1 p.2.2.2 w5 w3 (by omega) ((cTy_0 (kd_or b L (sgS σ + 1))).2.2.2.1.mp w2) w6 ((cTy_0 (kd_or b L _)).2.2.2.2.2.1.mp w7) (fun i hi ki => by
      obtain ⟨f, f1, f2⟩ := p.2.1 i hi ki
      have := (p.1 f f1).2.2.1
      rw [f2] at this
      exact this)
    rw [← wDp_is p] at r3 r7
    have t11 : aI h1 (g + 269) (sgS σ) = 22 := (r2.I (fun z => by omega) _).trans t1
    have q1 : MZ h1 g b L c := MZ_fr r2 (fun a z => by omega) (fun k z => by omega) q
    have hs1 := q1.1.1
    have om1 : ob h1 (g + 266) 11 := Mod_0 hs1.2.1
    have eN : sgN (stF b L σ) = sgN σ + 1 := rfl
    have eW : sgW (stF b L σ) = wM b L (sgS σ + 2) (wDp b L σ) (fmN b L σ) := rfl
    have eF : ∀ f, sgF (stF b L σ) f = if f = sgN σ then sgS σ else sgF σ f := fun f => rfl
    have eC : ∀ f, sgC (stF b L σ) f = if f = sgN σ then fmN b L σ else sgC σ f := fun f => rfl
    have w00 : (sgW (stF b L σ)).1 = 0 → (sgW σ).1 = 0 := fun z => by
      rw [eW] at z
      have z := wM_0 _ z
      unfold wDp wN at z
      split at z
      · split at z
        · assumption
        · exact z
      · exact z
    refine ⟨h1, ?_, r2.mo (fun a z => by omega) (fun a k z => by unfold FTZ; omega), r3, r4, (r2.gI (fun z => by omega)).trans s3, fun z => (r2.gI (fun z => by omega)).trans (s4 (w00 z)), NM_fr r2 (fun z => by omega) s5, fun f hf => ?_⟩
    · generalize hZ : ev 159 41 [some (.ref (g + 266)), some (.int (nI (sgS σ + 1)))] [] h1 = Z
      simp +decide only [e159_68, e159_69, e159_72, e159_73, e159_74, e159_76, e159_79, e159_80, e159_81, e159_84, e159_85, e159_88, e159_89, e159_90, e159_92, e159_129, e159_130, e159_133, e159_134, e159_135, e159_137, e159_140, e159_141, e159_142, e159_145, e159_146, e159_149, e159_150, e159_151, e159_153, e159_156, e159_157, e159_158, e159_161, e159_164, om, om1, v1, v2, t1, r1, t11, nI_1, nI_add, (Mod_0 hs.2.1 : ob h (g + 266) 11), (rf_g (Mod_7 hs.2.1 : rf h (g + 266) 5 (g + 269)) : gR h (g + 266) 5 = (g + 269)), (rf_is (Mod_7 hs.2.1 : rf h (g + 266) 5 (g + 269)) : isR h (g + 266) 5), (Mod_8 hs.2.1 : arI h (g + 269) 0), (rdI_0 (Mod_8 hs.2.1 : arI h (g + 269) 0) : rdI h (g + 269)), (Mod_9 hs.2.1 : aln h (g + 269) = 403), (rf_g (Mod_13 hs.2.1 : rf h (g + 266) 7 (g + 271)) : gR h (g + 266) 7 = (g + 271)), (rf_is (Mod_13 hs.2.1 : rf h (g + 266) 7 (g + 271)) : isR h (g + 266) 7), (Mod_14 hs.2.1 : arI h (g + 271) 0), (rdI_0 (Mod_14 hs.2.1 : arI h (g + 271) 0) : rdI h (g + 271)), (Mod_15 hs.2.1 : aln h (g + 271) = 403), (rf_g (Mod_43 hs.2.1 : rf h (g + 266) 30 (g + 281)) : gR h (g + 266) 30 = (g + 281)), (rf_is (Mod_43 hs.2.1 : rf h (g + 266) 30 (g + 281)) : isR h (g + 266) 30), (Mod_44 hs.2.1 : arI h (g + 281) 0), (rdI_0 (Mod_44 hs.2.1 : arI h (g + 281) 0) : rdI h (g + 281)), (Mod_45 hs.2.1 : aln h (g + 281) = 256), (Mod_0 hs1.2.1 : ob h1 (g + 266) 11), (rf_g (Mod_7 hs1.2.1 : rf h1 (g + 266) 5 (g + 269)) : gR h1 (g + 266) 5 = (g + 269)), (rf_is (Mod_7 hs1.2.1 : rf h1 (g + 266) 5 (g + 269)) : isR h1 (g + 266) 5), (Mod_8 hs1.2.1 : arI h1 (g + 269) 0), (rdI_0 (Mod_8 hs1.2.1 : arI h1 (g + 269) 0) : rdI h1 (g + 269)), (Mod_9 hs1.2.1 : aln h1 (g + 269) = 403), (rf_g (Mod_13 hs1.2.1 : rf h1 (g + 266) 7 (g + 271)) : gR h1 (g + 266) 7 = (g + 271)), (rf_is (Mod_13 hs1.2.1 : rf h1 (g + 266) 7 (g + 271)) : isR h1 (g + 266) 7), (Mod_14 hs1.2.1 : arI h1 (g + 271) 0), (rdI_0 (Mod_14 hs1.2.1 : arI h1 (g + 271) 0) : rdI h1 (g + 271)), (Mod_15 hs1.2.1 : aln h1 (g + 271) = 403), (rf_g (Mod_43 hs1.2.1 : rf h1 (g + 266) 30 (g + 281)) : gR h1 (g + 266) 30 = (g + 281)), (rf_is (Mod_43 hs1.2.1 : rf h1 (g + 266) 30 (g + 281)) : isR h1 (g + 266) 30), (Mod_44 hs1.2.1 : arI h1 (g + 281) 0), (rdI_0 (Mod_44 hs1.2.1 : arI h1 (g + 281) 0) : rdI h1 (g + 281)), (Mod_45 hs1.2.1 : aln h1 (g + 281) = 256), vkk_n, vkk_i, vkk_r, vkk_l, vkk_d, catS_nil, catS_i, catS_r, catS_l, catS_d, Nat.reduceAdd, Nat.reduceLeDiff, Nat.zero_le, Nat.le_refl, Option.bind_some, Option.toList_some, Option.toList_none, List.cons_append, List.nil_append, or_true, true_or, if_true, if_false, Int32.reduceLT, Int32.reduceLE, not_true, not_false_iff, true_and, and_true, false_and, and_false]
      exact hZ
    · rw [eF, eC, eW]
      by_cases y : f = sgN σ
      · rw [if_pos y, if_pos y, y]
        exact ⟨r5, fun j hj => r7.1 j hj⟩
      · rw [if_neg y, if_neg y]
        have a := s6 f (by omega)
        have c8 := (p.1 f (by omega)).2.2.2.2
        refine ⟨(r6 f (by omega)).trans a.1, fun j hj => ?_⟩
        have b2 := r7.2 (8 * f + j) (by omega)
        rw [b2.1, b2.2]
        exact ⟨(a.2 j hj).1, fun z => (a.2 j hj).2 (w00 z)⟩
  · have e : stp1 b L σ = stI b L σ := by unfold stp1; rw [if_neg (by omega), if_neg (by omega), if_neg (by omega)]
    rw [e] at hc ⊢
    have hc : sgS σ + 2 + flN b L σ + 1 < c := hc
    rw [ct.2.2.2.2.2.2.2.2.2.2.mp w1] at t1
    have t1 : aI h (g + 269) (sgS σ) = 23 := t1
    have k6 := (cTy_0 (kd_or b L (sgS σ + 2 + flN b L σ))).2.2.2.2.2.1.mp w6
    obtain ⟨h1, r1, r2, r3, r4⟩ := c_mfill (n := flN b L σ) q s1 s5 p.2.2.2 w4 (by omega) ((cTy_0 (kd_or b L (sgS σ + 1))).2.2.2.2.1.mp w2) (fun x hx => (cTy_0 (kd_or b L _)).2.2.2.2.1.mp (w5 x hx)) (by omega)
    have t11 : aI h1 (g + 269) (sgS σ) = 23 := (r2.I (fun z => by omega) _).trans t1
    have eW : sgW (stI b L σ) = wFb (vC b L) (vC b L (sgS σ + 1)) (sgS σ + 2) (if 255 < vC b L (sgS σ + 1) then wN (sgW σ) 5 (sgS σ + 1) else sgW σ) (flN b L σ) := rfl
    have w00 : (sgW (stI b L σ)).1 = 0 → (sgW σ).1 = 0 := fun z => by
      rw [eW] at z
      have z := wFb_0 _ z
      unfold wN at z
      split at z
      · split at z
        · assumption
        · exact z
      · exact z
    refine ⟨h1, ?_, r2.mo (fun a z => by omega) (fun a k z => by unfold FTW at z; unfold FTZ; omega), r3, (r2.gI (fun z => by unfold FTW at z; omega)).trans s2, (r2.gI (fun z => by unfold FTW at z; omega)).trans s3, fun z => (r2.gI (fun z => by unfold FTW at z; omega)).trans (s4 (w00 z)), r4, fun f hf => ?_⟩
    · generalize hZ : ev 159 41 [some (.ref (g + 266)), some (.int (nI (sgS σ + 1)))] [] h1 = Z
      simp +decide only [e159_68, e159_69, e159_72, e159_73, e159_74, e159_76, e159_79, e159_80, e159_81, e159_84, e159_85, e159_88, e159_89, e159_90, e159_92, e159_129, e159_130, e159_133, e159_134, e159_135, e159_137, e159_140, e159_141, e159_142, e159_145, e159_146, e159_149, e159_150, e159_151, e159_153, e159_156, e159_157, e159_158, e159_161, e159_164, om, v1, v2, t1, r1, t11, nI_1, nI_add, (Mod_0 hs.2.1 : ob h (g + 266) 11), (rf_g (Mod_7 hs.2.1 : rf h (g + 266) 5 (g + 269)) : gR h (g + 266) 5 = (g + 269)), (rf_is (Mod_7 hs.2.1 : rf h (g + 266) 5 (g + 269)) : isR h (g + 266) 5), (Mod_8 hs.2.1 : arI h (g + 269) 0), (rdI_0 (Mod_8 hs.2.1 : arI h (g + 269) 0) : rdI h (g + 269)), (Mod_9 hs.2.1 : aln h (g + 269) = 403), (rf_g (Mod_13 hs.2.1 : rf h (g + 266) 7 (g + 271)) : gR h (g + 266) 7 = (g + 271)), (rf_is (Mod_13 hs.2.1 : rf h (g + 266) 7 (g + 271)) : isR h (g + 266) 7), (Mod_14 hs.2.1 : arI h (g + 271) 0), (rdI_0 (Mod_14 hs.2.1 : arI h (g + 271) 0) : rdI h (g + 271)), (Mod_15 hs.2.1 : aln h (g + 271) = 403), (rf_g (Mod_43 hs.2.1 : rf h (g + 266) 30 (g + 281)) : gR h (g + 266) 30 = (g + 281)), (rf_is (Mod_43 hs.2.1 : rf h (g + 266) 30 (g + 281)) : isR h (g + 266) 30), (Mod_44 hs.2.1 : arI h (g + 281) 0), (rdI_0 (Mod_44 hs.2.1 : arI h (g + 281) 0) : rdI h (g + 281)), (Mod_45 hs.2.1 : aln h (g + 281) = 256), vkk_n, vkk_i, vkk_r, vkk_l, vkk_d, catS_nil, catS_i, catS_r, catS_l, catS_d, Nat.reduceAdd, Nat.reduceLeDiff, Nat.zero_le, Nat.le_refl, Option.bind_some, Option.toList_some, Option.toList_none, List.cons_append, List.nil_append, or_true, true_or, if_true, if_false, Int32.reduceLT, Int32.reduceLE, not_true, not_false_iff, true_and, and_true, false_and, and_false]
      exact hZ
    · have := s6 f hf
      rw [r2.I (fun z => by omega)]
      refine ⟨this.1, fun j hj => ?_⟩
      rw [r2.I (fun z => by omega), r2.I (fun z => by omega)]
      exact ⟨(this.2 j hj).1, fun z => (this.2 j hj).2 (w00 z)⟩
