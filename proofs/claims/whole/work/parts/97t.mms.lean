set_option maxHeartbeats 4000000 in
/-! read: what all lines mean, by the model -/
theorem l_mskip (g L c s1 : Nat) (b : Nat → Nat) (hc : s1 < c) : ∀ d k h, k + d = s1 → 1 ≤ k → MZ h g b L c → gI h (g + 266) 10 = nI c → (∀ x, k ≤ x → x < s1 → ¬ kd b L (x - 1) = 4) → ev 159 41 [some (.ref (g + 266)), some (.int (nI k))] [] h = ev 159 41 [some (.ref (g + 266)), some (.int (nI s1))] [] h := by
  intro d
  induction d with
  | zero =>
    intro k h hd h1 q e10 hk
    obtain rfl : k = s1 := by omega
    rfl
  | succ d ih =>
    intro k h hd h1 q e10 hk
    have hs := q.1.1
    have om : ob h (g + 266) 11 := Mod_0 hs.2.1
    have hcc := q.1.2.2.1
    rw [← ih (k + 1) h (by omega) (by omega) q e10 (fun x x1 x2 => hk x (by omega) x2)]
    have i1 : nI k < nI c := nI_lt (by omega) (by omega)
    have i2 : ¬ nI k ≤ 0 := fun w => by have := (nI_leI (b := 0) (by omega) (by decide)).mp w; omega
    have sb : nI k - 1 = nI (k - 1) := by rw [show (1 : Int32) = nI 1 from rfl, pk_sub (by omega)]
    have v3 : vp_in (nI (k - 1)) 403 := vp_in_nI (by omega) (by decide)
    have v4 : (nI (k - 1)).toNatClampNeg = k - 1 := nI_clamp (by omega)
    have t2 := (q.1.2.1 (k - 1) (by omega)).1
    have ko := kd_or b L (k - 1)
    have n4 : ¬ nI (kd b L (k - 1)) = 4 := fun w => hk k (Nat.le_refl _) (by omega) ((nI_eq (b := 4) (by omega) (by decide)).mp w)
    have st0 : ev 159 41 [some (.ref (g + 266)), some (.int (nI k))] [] h = ev 159 161 [some (.ref (g + 266)), some (.int (nI k))] [] h := by
      simp +decide only [e159_41, e159_42, e159_43, e159_46, e159_49, e159_50, e159_53, e159_54, e159_57, e159_58, e159_59, e159_60, e159_61, e159_62, e159_167, e159_65, om, e10, i1, i2, sb, v3, v4, t2, n4, (Mod_0 hs.2.1 : ob h (g + 266) 11), (rf_g (Mod_7 hs.2.1 : rf h (g + 266) 5 (g + 269)) : gR h (g + 266) 5 = (g + 269)), (rf_is (Mod_7 hs.2.1 : rf h (g + 266) 5 (g + 269)) : isR h (g + 266) 5), (Mod_8 hs.2.1 : arI h (g + 269) 0), (rdI_0 (Mod_8 hs.2.1 : arI h (g + 269) 0) : rdI h (g + 269)), (Mod_9 hs.2.1 : aln h (g + 269) = 403), (rf_g (Mod_43 hs.2.1 : rf h (g + 266) 30 (g + 281)) : gR h (g + 266) 30 = (g + 281)), (rf_is (Mod_43 hs.2.1 : rf h (g + 266) 30 (g + 281)) : isR h (g + 266) 30), (Mod_44 hs.2.1 : arI h (g + 281) 0), (rdI_0 (Mod_44 hs.2.1 : arI h (g + 281) 0) : rdI h (g + 281)), (Mod_45 hs.2.1 : aln h (g + 281) = 256), vkk_n, vkk_i, vkk_r, vkk_l, vkk_d, catS_nil, catS_i, catS_r, catS_l, catS_d, Nat.reduceAdd, Nat.reduceLeDiff, Nat.zero_le, Nat.le_refl, Option.bind_some, Option.toList_some, Option.toList_none, List.cons_append, List.nil_append, or_true, true_or, if_true, if_false, Int32.reduceLT, Int32.reduceLE, not_true, not_false_iff, true_and, and_true, false_and, and_false]
    rw [st0]
    generalize hZ : ev 159 41 [some (.ref (g + 266)), some (.int (nI (k + 1)))] [] h = Z
    simp +decide only [e159_161, e159_164, nI_1, nI_add, vkk_n, vkk_i, vkk_r, vkk_l, vkk_d, catS_nil, catS_i, catS_r, catS_l, catS_d, Nat.reduceAdd, Nat.reduceLeDiff, Nat.zero_le, Nat.le_refl, Option.bind_some, Option.toList_some, Option.toList_none, List.cons_append, List.nil_append, or_true, true_or, if_true, if_false, Int32.reduceLT, Int32.reduceLE, not_true, not_false_iff, true_and, and_true, false_and, and_false]
    exact hZ
theorem l_mmeans (g L c N : Nat) (b : Nat → Nat) (ok : OKS b L N) (hc : sgS (LSt b L N) < c) : ∀ d i h, i + d = N → MZ h g b L c → gI h (g + 266) 10 = nI c → QS h g b L (LSt b L i) → ∃ h1, ev 159 41 [some (.ref (g + 266)), some (.int (nI (sgS (LSt b L i))))] [] h = ev 159 41 [some (.ref (g + 266)), some (.int (nI (sgS (LSt b L N))))] [] h1 ∧ Fr (fun a => g + 277 < a ∧ a < g + 282) (FTZ g) h h1 ∧ QS h1 g b L (LSt b L N) := by
  have up : ∀ d i, i + d = N → sgS (LSt b L i) ≤ sgS (LSt b L N) := by
    intro d
    induction d with
    | zero =>
      intro i hi
      obtain rfl : i = N := by omega
      exact Nat.le_refl _
    | succ d ih =>
      intro i hi
      have a := ih (i + 1) (by omega)
      have e : LSt b L (i + 1) = stp1 b L (LSt b L i) := rfl
      have c := (VAL_in (ok i (by omega)).1).1
      rw [e] at a
      omega
  intro d
  induction d with
  | zero =>
    intro i h hd q e10 s
    obtain rfl : i = N := by omega
    exact ⟨h, rfl, Fr.rfl _, s⟩
  | succ d ih =>
    intro i h hd q e10 s
    have v := (ok i (by omega)).1
    have il := VAL_in v
    have e : LSt b L (i + 1) = stp1 b L (LSt b L i) := rfl
    have u := up d (i + 1) (by omega)
    rw [e] at u
    obtain ⟨h1, a1, a2, a3⟩ := c_mmean q e10 v (FP_N ok i (by omega)) (sgN_le ok i (by omega)) (by omega) s
    have q1 : MZ h1 g b L c := MZ_fr a2 (fun a z => z.1) (fun k z => by unfold FTZ at z; omega) q
    have e11 : gI h1 (g + 266) 10 = nI c := (a2.gI (fun z => by unfold FTZ at z; omega)).trans e10
    have sk := l_mskip g L c (sgS (stp1 b L (LSt b L i))) b (by omega) (sgS (stp1 b L (LSt b L i)) - (sgS (LSt b L i) + 1)) (sgS (LSt b L i) + 1) h1 (by have := il.1; omega) (by omega) q1 e11 (fun x x1 x2 => il.2.2.1 (x - 1) (by omega) (by omega))
    obtain ⟨h2, n1, n2, n3⟩ := ih (i + 1) h1 (by omega) q1 e11 a3
    refine ⟨h2, ?_, a2.tr n2, n3⟩
    rw [a1, sk]
    exact n1
theorem l_mzero (g : Nat) : ∀ d i h, i + d = 256 → Sh h g → (∀ j, j < i → aI h (g + 281) j = nI 0) → ∃ h1, ev 159 19 [some (.ref (g + 266)), some (.int (nI i))] [] h = ev 159 39 [some (.ref (g + 266)), some (.int (nI 256))] [] h1 ∧ Fr (fun a => a = g + 281) NF h h1 ∧ ∀ j, j < 256 → aI h1 (g + 281) j = nI 0 := by
  intro d
  induction d with
  | zero =>
    intro i h hd hs z
    obtain rfl : i = 256 := by omega
    refine ⟨h, ?_, Fr.rfl _, z⟩
    have i1 : ¬ nI 256 < 256 := by decide
    simp +decide only [e159_19, e159_20, e159_23, i1, vkk_n, vkk_i, vkk_r, vkk_l, vkk_d, catS_nil, catS_i, catS_r, catS_l, catS_d, Nat.reduceAdd, Nat.reduceLeDiff, Nat.zero_le, Nat.le_refl, Option.bind_some, Option.toList_some, Option.toList_none, List.cons_append, List.nil_append, or_true, true_or, if_true, if_false, Int32.reduceLT, Int32.reduceLE, not_true, not_false_iff, true_and, and_true, false_and, and_false]
  | succ d ih =>
    intro i h hd hs z
    have om : ob h (g + 266) 11 := Mod_0 hs.2.1
    have i1 : nI i < 256 := nI_lt (b := 256) (by omega) (by decide)
    have v1 : vp_in (nI i) 256 := vp_in_nI (by omega) (by decide)
    have v2 : (nI i).toNatClampNeg = i := nI_clamp (by omega)
    have x1 : Fr (fun a => a = g + 281) NF h (wI h (g + 281) i 0) := Fr_wI _ _ _ _ rfl
    have s1 : Sh (wI h (g + 281) i 0) g := Sh_fr x1 (fun a z => by omega) hs
    obtain ⟨h2, n1, n2, n3⟩ := ih (i + 1) _ (by omega) s1 (fun j hj => by
      rw [aI_wI0 _ _ _ _ _ _ (Mod_44 hs.2.1)]
      by_cases e : j = i
      · rw [if_pos ⟨rfl, e⟩]
        rfl
      · rw [if_neg (fun y => e y.2)]
        exact z j (by omega))
    refine ⟨h2, ?_, x1.tr n2, n3⟩
    rw [← n1]
    generalize hZ : ev 159 19 [some (.ref (g + 266)), some (.int (nI (i + 1)))] [] (wI h (g + 281) i 0) = Z
    have st0 : ev 159 19 [some (.ref (g + 266)), some (.int (nI i))] [] h = ev 159 26 [some (.ref (g + 266)), some (.int (nI i))] [] h := by
      simp +decide only [e159_19, e159_20, e159_23, i1, vkk_n, vkk_i, vkk_r, vkk_l, vkk_d, catS_nil, catS_i, catS_r, catS_l, catS_d, Nat.reduceAdd, Nat.reduceLeDiff, Nat.zero_le, Nat.le_refl, Option.bind_some, Option.toList_some, Option.toList_none, List.cons_append, List.nil_append, or_true, true_or, if_true, if_false, Int32.reduceLT, Int32.reduceLE, not_true, not_false_iff, true_and, and_true, false_and, and_false]
    rw [st0]
    simp +decide only [e159_26, e159_27, e159_30, e159_31, e159_32, e159_33, e159_36, om, v1, v2, nI_1, nI_add, (Mod_0 hs.2.1 : ob h (g + 266) 11), (rf_g (Mod_7 hs.2.1 : rf h (g + 266) 5 (g + 269)) : gR h (g + 266) 5 = (g + 269)), (rf_is (Mod_7 hs.2.1 : rf h (g + 266) 5 (g + 269)) : isR h (g + 266) 5), (Mod_8 hs.2.1 : arI h (g + 269) 0), (rdI_0 (Mod_8 hs.2.1 : arI h (g + 269) 0) : rdI h (g + 269)), (Mod_9 hs.2.1 : aln h (g + 269) = 403), (rf_g (Mod_43 hs.2.1 : rf h (g + 266) 30 (g + 281)) : gR h (g + 266) 30 = (g + 281)), (rf_is (Mod_43 hs.2.1 : rf h (g + 266) 30 (g + 281)) : isR h (g + 266) 30), (Mod_44 hs.2.1 : arI h (g + 281) 0), (rdI_0 (Mod_44 hs.2.1 : arI h (g + 281) 0) : rdI h (g + 281)), (Mod_45 hs.2.1 : aln h (g + 281) = 256), vkk_n, vkk_i, vkk_r, vkk_l, vkk_d, catS_nil, catS_i, catS_r, catS_l, catS_d, Nat.reduceAdd, Nat.reduceLeDiff, Nat.zero_le, Nat.le_refl, Option.bind_some, Option.toList_some, Option.toList_none, List.cons_append, List.nil_append, or_true, true_or, if_true, if_false, Int32.reduceLT, Int32.reduceLE, not_true, not_false_iff, true_and, and_true, false_and, and_false]
    exact hZ
theorem c_mmeans {h : VG} {g L c N : Nat} {b : Nat → Nat} (q : MZ h g b L c) (e10 : gI h (g + 266) 10 = nI c) (e14 : gI h (g + 266) 14 = 0) (ok : OKS b L N) (hc : sgS (LSt b L N) + 1 = c) (k0 : kd b L (sgS (LSt b L N)) = 0) : ∃ h1, ev 159 0 [some (.ref (g + 266)), none] [] h = some (none, h1) ∧ Fr (fun a => g + 277 < a ∧ a < g + 282) (FTZ g) h h1 ∧ QS h1 g b L (LSt b L N) := by
  have hs := q.1.1
  have om : ob h (g + 266) 11 := Mod_0 hs.2.1
  have hcc := q.1.2.2.1
  have x1 : Fr (fun a => g + 277 < a ∧ a < g + 282) (fun a k => a = g + 266 ∧ (k = 24 ∨ k = 25 ∨ k = 26)) h (pI (pI (pI h (g + 266) 24 0) (g + 266) 25 256) (g + 266) 26 0) := ((Fr_pI _ _ _ _ ⟨rfl, by omega⟩).tr (Fr_pI _ _ _ _ ⟨rfl, by omega⟩)).tr (Fr_pI _ _ _ _ ⟨rfl, by omega⟩)
  have e24 : gI (pI (pI (pI h (g + 266) 24 0) (g + 266) 25 256) (g + 266) 26 0) (g + 266) 24 = 0 := by simp +decide only [gI_pI, isI_pI, (eq_true (isI_ob om rfl : isI h (g + 266) 24)), true_and, and_true, false_and, and_false, if_true, if_false]
  have e25 : gI (pI (pI (pI h (g + 266) 24 0) (g + 266) 25 256) (g + 266) 26 0) (g + 266) 25 = 256 := by simp +decide only [gI_pI, isI_pI, (eq_true (isI_ob om rfl : isI h (g + 266) 25)), true_and, and_true, false_and, and_false, if_true, if_false]
  have e26 : gI (pI (pI (pI h (g + 266) 24 0) (g + 266) 25 256) (g + 266) 26 0) (g + 266) 26 = 0 := by simp +decide only [gI_pI, isI_pI, (eq_true (isI_ob om rfl : isI h (g + 266) 26)), true_and, and_true, false_and, and_false, if_true, if_false]
  have ent : ev 159 0 [some (.ref (g + 266)), none] [] h = ev 159 19 [some (.ref (g + 266)), some (.int (nI 0))] [] (pI (pI (pI h (g + 266) 24 0) (g + 266) 25 256) (g + 266) 26 0) := by
    simp +decide only [e159_0, e159_1, e159_2, e159_5, e159_6, e159_9, e159_12, e159_13, e159_14, e159_17, e159_18, om, ob_pI, vkk_n, vkk_i, vkk_r, vkk_l, vkk_d, catS_nil, catS_i, catS_r, catS_l, catS_d, Nat.reduceAdd, Nat.reduceLeDiff, Nat.zero_le, Nat.le_refl, Option.bind_some, Option.toList_some, Option.toList_none, List.cons_append, List.nil_append, or_true, true_or, if_true, if_false, Int32.reduceLT, Int32.reduceLE, not_true, not_false_iff, true_and, and_true, false_and, and_false]
    rfl
  rw [ent]
  generalize pI (pI (pI h (g + 266) 24 0) (g + 266) 25 256) (g + 266) 26 0 = H at x1 e24 e25 e26
  have qH : MZ H g b L c := MZ_fr x1 (fun a z => z.1) (fun k z => by omega) q
  obtain ⟨h1, a1, a2, a3⟩ := l_mzero g 256 0 H rfl qH.1.1 (fun j hj => absurd hj (Nat.not_lt_zero _))
  rw [a1]
  have q1 : MZ h1 g b L c := MZ_fr a2 (fun a z => by omega) (fun k z => z.elim) qH
  have e11 : gI h1 (g + 266) 10 = nI c := (a2.gI (fun z => z)).trans ((x1.gI (fun z => by omega)).trans e10)
  have s0 : QS h1 g b L (LSt b L 0) := ⟨⟨by show (0 : Nat) < 6; decide, (a2.gI (fun z => z)).trans ((x1.gI (fun z => by omega)).trans e14), fun z => absurd rfl z⟩, (a2.gI (fun z => z)).trans e26, (a2.gI (fun z => z)).trans e24, fun _ => (a2.gI (fun z => z)).trans e25, a3, fun f hf => absurd hf (Nat.not_lt_zero _)⟩
  have ent2 : ev 159 39 [some (.ref (g + 266)), some (.int (nI 256))] [] h1 = ev 159 41 [some (.ref (g + 266)), some (.int (nI (sgS (LSt b L 0))))] [] h1 := by
    simp +decide only [e159_39, e159_40, vkk_n, vkk_i, vkk_r, vkk_l, vkk_d, catS_nil, catS_i, catS_r, catS_l, catS_d, Nat.reduceAdd, Nat.reduceLeDiff, Nat.zero_le, Nat.le_refl, Option.bind_some, Option.toList_some, Option.toList_none, List.cons_append, List.nil_append, or_true, true_or, if_true, if_false, Int32.reduceLT, Int32.reduceLE, not_true, not_false_iff, true_and, and_true, false_and, and_false]
    rfl
  rw [ent2]
  obtain ⟨h2, n1, n2, n3⟩ := l_mmeans g L c N b ok (by omega) N 0 h1 (by omega) q1 e11 s0
  rw [n1]
  have q2 : MZ h2 g b L c := MZ_fr n2 (fun a z => z.1) (fun k z => by unfold FTZ at z; omega) q1
  have e12 : gI h2 (g + 266) 10 = nI c := (n2.gI (fun z => by unfold FTZ at z; omega)).trans e11
  refine ⟨h2, ?_, (x1.mo (fun a z => z) (fun a k z => by unfold FTZ; omega)).tr ((a2.mo (fun a z => by omega) (fun a k z => z.elim)).tr n2), n3⟩
  have p := (FP_N ok N (Nat.le_refl _)).2.2.1
  have hs2 := q2.1.1
  have om2 : ob h2 (g + 266) 11 := Mod_0 hs2.2.1
  generalize sgS (LSt b L N) = s at hc k0 p ⊢
  have v1 : vp_in (nI s) 403 := vp_in_nI (by omega) (by decide)
  have v2 : (nI s).toNatClampNeg = s := nI_clamp (by omega)
  have t1 := (q2.1.2.1 s (by omega)).1
  rw [k0] at t1
  have t1 : aI h2 (g + 269) s = 0 := t1
  have i1 : nI s < nI c := nI_lt (by omega) (by omega)
  have i3 : ¬ nI c < nI c := fun w => by have := (nI_ltI (by omega) (by omega)).mp w; omega
  have st2 : ev 159 68 [some (.ref (g + 266)), some (.int (nI s))] [] h2 = ev 159 41 [some (.ref (g + 266)), some (.int (nI c))] [] h2 := by
    rw [← hc]
    generalize hZ : ev 159 41 [some (.ref (g + 266)), some (.int (nI (s + 1)))] [] h2 = Z
    simp +decide only [e159_68, e159_69, e159_72, e159_73, e159_74, e159_76, e159_79, e159_80, e159_81, e159_84, e159_85, e159_88, e159_89, e159_90, e159_92, e159_129, e159_130, e159_133, e159_134, e159_135, e159_137, e159_140, e159_141, e159_142, e159_145, e159_146, e159_149, e159_150, e159_151, e159_153, e159_156, e159_157, e159_158, e159_161, e159_164, om2, v1, v2, t1, nI_1, nI_add, (Mod_0 hs2.2.1 : ob h2 (g + 266) 11), (rf_g (Mod_7 hs2.2.1 : rf h2 (g + 266) 5 (g + 269)) : gR h2 (g + 266) 5 = (g + 269)), (rf_is (Mod_7 hs2.2.1 : rf h2 (g + 266) 5 (g + 269)) : isR h2 (g + 266) 5), (Mod_8 hs2.2.1 : arI h2 (g + 269) 0), (rdI_0 (Mod_8 hs2.2.1 : arI h2 (g + 269) 0) : rdI h2 (g + 269)), (Mod_9 hs2.2.1 : aln h2 (g + 269) = 403), (rf_g (Mod_43 hs2.2.1 : rf h2 (g + 266) 30 (g + 281)) : gR h2 (g + 266) 30 = (g + 281)), (rf_is (Mod_43 hs2.2.1 : rf h2 (g + 266) 30 (g + 281)) : isR h2 (g + 266) 30), (Mod_44 hs2.2.1 : arI h2 (g + 281) 0), (rdI_0 (Mod_44 hs2.2.1 : arI h2 (g + 281) 0) : rdI h2 (g + 281)), (Mod_45 hs2.2.1 : aln h2 (g + 281) = 256), vkk_n, vkk_i, vkk_r, vkk_l, vkk_d, catS_nil, catS_i, catS_r, catS_l, catS_d, Nat.reduceAdd, Nat.reduceLeDiff, Nat.zero_le, Nat.le_refl, Option.bind_some, Option.toList_some, Option.toList_none, List.cons_append, List.nil_append, or_true, true_or, if_true, if_false, Int32.reduceLT, Int32.reduceLE, not_true, not_false_iff, true_and, and_true, false_and, and_false]
    exact hZ
  have st3 : ev 159 41 [some (.ref (g + 266)), some (.int (nI s))] [] h2 = ev 159 41 [some (.ref (g + 266)), some (.int (nI c))] [] h2 := by
    by_cases y : s = 0
    · have i2 : nI s ≤ 0 := by rw [y]; decide
      rw [← st2]
      simp +decide only [e159_41, e159_42, e159_43, e159_46, e159_49, e159_50, e159_53, e159_54, e159_57, e159_58, e159_59, e159_60, e159_61, e159_62, e159_167, e159_65, om2, e12, i1, i2, vkk_n, vkk_i, vkk_r, vkk_l, vkk_d, catS_nil, catS_i, catS_r, catS_l, catS_d, Nat.reduceAdd, Nat.reduceLeDiff, Nat.zero_le, Nat.le_refl, Option.bind_some, Option.toList_some, Option.toList_none, List.cons_append, List.nil_append, or_true, true_or, if_true, if_false, Int32.reduceLT, Int32.reduceLE, not_true, not_false_iff, true_and, and_true, false_and, and_false]
    · have i2 : ¬ nI s ≤ 0 := fun w => by have := (nI_leI (b := 0) (by omega) (by decide)).mp w; omega
      have sb : nI s - 1 = nI (s - 1) := by rw [show (1 : Int32) = nI 1 from rfl, pk_sub (by omega)]
      have v3 : vp_in (nI (s - 1)) 403 := vp_in_nI (by omega) (by decide)
      have v4 : (nI (s - 1)).toNatClampNeg = s - 1 := nI_clamp (by omega)
      have t2 := (q2.1.2.1 (s - 1) (by omega)).1
      have k4 : kd b L (s - 1) = 4 := by
        rcases p with z | z
        · exact absurd z y
        · exact z
      rw [k4] at t2
      have t2 : aI h2 (g + 269) (s - 1) = 4 := t2
      rw [← st2]
      simp +decide only [e159_41, e159_42, e159_43, e159_46, e159_49, e159_50, e159_53, e159_54, e159_57, e159_58, e159_59, e159_60, e159_61, e159_62, e159_167, e159_65, om2, e12, i1, i2, sb, v3, v4, t2, (Mod_0 hs2.2.1 : ob h2 (g + 266) 11), (rf_g (Mod_7 hs2.2.1 : rf h2 (g + 266) 5 (g + 269)) : gR h2 (g + 266) 5 = (g + 269)), (rf_is (Mod_7 hs2.2.1 : rf h2 (g + 266) 5 (g + 269)) : isR h2 (g + 266) 5), (Mod_8 hs2.2.1 : arI h2 (g + 269) 0), (rdI_0 (Mod_8 hs2.2.1 : arI h2 (g + 269) 0) : rdI h2 (g + 269)), (Mod_9 hs2.2.1 : aln h2 (g + 269) = 403), (rf_g (Mod_43 hs2.2.1 : rf h2 (g + 266) 30 (g + 281)) : gR h2 (g + 266) 30 = (g + 281)), (rf_is (Mod_43 hs2.2.1 : rf h2 (g + 266) 30 (g + 281)) : isR h2 (g + 266) 30), (Mod_44 hs2.2.1 : arI h2 (g + 281) 0), (rdI_0 (Mod_44 hs2.2.1 : arI h2 (g + 281) 0) : rdI h2 (g + 281)), (Mod_45 hs2.2.1 : aln h2 (g + 281) = 256), vkk_n, vkk_i, vkk_r, vkk_l, vkk_d, catS_nil, catS_i, catS_r, catS_l, catS_d, Nat.reduceAdd, Nat.reduceLeDiff, Nat.zero_le, Nat.le_refl, Option.bind_some, Option.toList_some, Option.toList_none, List.cons_append, List.nil_append, or_true, true_or, if_true, if_false, Int32.reduceLT, Int32.reduceLE, not_true, not_false_iff, true_and, and_true, false_and, and_false]
  rw [st3]
  simp +decide only [e159_41, e159_42, e159_43, e159_46, e159_49, e159_50, e159_53, e159_54, e159_57, e159_58, e159_59, e159_60, e159_61, e159_62, e159_167, e159_65, om2, e12, i3, vkk_n, vkk_i, vkk_r, vkk_l, vkk_d, catS_nil, catS_i, catS_r, catS_l, catS_d, Nat.reduceAdd, Nat.reduceLeDiff, Nat.zero_le, Nat.le_refl, Option.bind_some, Option.toList_some, Option.toList_none, List.cons_append, List.nil_append, or_true, true_or, if_true, if_false, Int32.reduceLT, Int32.reduceLE, not_true, not_false_iff, true_and, and_true, false_and, and_false]
