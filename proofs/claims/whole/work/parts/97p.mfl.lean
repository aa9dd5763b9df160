set_option maxHeartbeats 4000000 in
/-! read: what lines mean, by the model: what is wrong; fill lines -/
def FTZ (g a k : Nat) : Prop := a = g + 266 ∧ (k = 14 ∨ k = 15 ∨ k = 24 ∨ k = 25 ∨ k = 26)
def FTW (g a k : Nat) : Prop := a = g + 266 ∧ (k = 14 ∨ k = 15)
/-- the model behind the reading of lines -/
def MZ (h : VG) (g : Nat) (b : Nat → Nat) (L c : Nat) : Prop := MC h g b L c ∧ gI h (g + 266) 12 = 0 ∧ L ≤ 2000 ∧ ∀ x y, x < c → y < x → tPl b L y < tPl b L x
theorem MZ_fr {R : Nat → Prop} {F : Nat → Nat → Prop} {h h1 : VG} {g L c : Nat} {b : Nat → Nat} (x : Fr R F h h1) (c1 : ∀ a, R a → g + 277 < a) (d1 : ∀ k, F (g + 266) k → ¬ k = 12) (q : MZ h g b L c) : MZ h1 g b L c := by
  obtain ⟨⟨q1, q2, q3⟩, q4, q5⟩ := q
  refine ⟨⟨Sh_fr x (fun a z => by have := c1 a z; omega) q1, fun t ht => ?_, q3⟩, (x.gI (fun z => d1 _ z rfl)).trans q4, q5⟩
  rw [x.I (fun z => by have := c1 _ z; omega), x.I (fun z => by have := c1 _ z; omega), x.I (fun z => by have := c1 _ z; omega), x.L (fun z => by have := c1 _ z; omega)]
  exact q2 t ht
def WM (h : VG) (g : Nat) (b : Nat → Nat) (L : Nat) (W : Nat × Nat) : Prop := W.1 < 6 ∧ gI h (g + 266) 14 = nI W.1 ∧ (¬ W.1 = 0 → gI h (g + 266) 15 = nI (tPl b L W.2))
theorem WM_fr {R : Nat → Prop} {F : Nat → Nat → Prop} {h h1 : VG} {g L : Nat} {b : Nat → Nat} {W : Nat × Nat} (x : Fr R F h h1) (d1 : ∀ k, F (g + 266) k → ¬ k = 14 ∧ ¬ k = 15) (q : WM h g b L W) : WM h1 g b L W := ⟨q.1, (x.gI (fun z => (d1 _ z).1 rfl)).trans q.2.1, fun z => (x.gI (fun z => (d1 _ z).2 rfl)).trans (q.2.2 z)⟩
/-- what is wrong lies before token x -/
def WL (W : Nat × Nat) (x : Nat) : Prop := W.1 = 0 ∨ W.2 < x
theorem WL_up {W : Nat × Nat} {x y : Nat} (h : x ≤ y) (q : WL W x) : WL W y := by
  unfold WL at q ⊢
  omega
theorem WL_N {W : Nat × Nat} {x : Nat} (c : Nat) (q : WL W x) : WL (wN W c x) (x + 1) := by
  unfold WL wN at *
  split
  · right
    show x < x + 1
    omega
  · omega
theorem c_wrong {h : VG} {g L c k x : Nat} {b : Nat → Nat} {W : Nat × Nat} (q : MZ h g b L c) (hx : x < c) (wm : WM h g b L W) (hk : k = 3 ∨ k = 5) (hW : W.1 = 0 ∨ W.2 < x ∨ (W.2 = x ∧ W.1 ≤ k)) : ∃ h1, ev 150 0 [some (.ref (g + 266)), some (.int (nI k)), some (.int (nI x)), none] [] h = some (none, h1) ∧ Fr NR (FTW g) h h1 ∧ WM h1 g b L (wN W k x) := by
  have wm' := wm
  obtain ⟨⟨hs, tm, hc, -⟩, f0, hL, up⟩ := q
  obtain ⟨w1, w2, w3⟩ := wm
  have om : ob h (g + 266) 11 := Mod_0 hs.2.1
  have v1 : vp_in (nI x) 403 := vp_in_nI (by omega) (by decide)
  have v2 : (nI x).toNatClampNeg = x := nI_clamp (by omega)
  have t1 := (tm x hx).2.1
  have pl := tPl_le b L x
  have i0 : nI W.1 = 0 ↔ W.1 = 0 := nI_eq (b := 0) (by omega) (by decide)
  unfold wN
  by_cases z : W.1 = 0
  · rw [if_pos z]
    have z' := i0.mpr z
    refine ⟨pI (pI h (g + 266) 14 (nI k)) (g + 266) 15 (nI (tPl b L x)), ?_, (Fr_pI _ _ _ _ ⟨rfl, by omega⟩).tr (Fr_pI _ _ _ _ ⟨rfl, by omega⟩), by show k < 6; omega, ?_, fun _ => ?_⟩
    · simp +decide only [e150_0, e150_1, e150_4, e150_5, e150_6, e150_7, e150_8, e150_11, e150_14, e150_15, e150_18, e150_21, e150_22, e150_23, e150_26, e150_29, e150_30, e150_31, e150_34, e150_37, e150_38, e150_39, e150_42, e150_45, e150_46, e150_47, e150_48, e150_51, e150_52, e150_53, e150_56, f0, w2, z', v1, v2, t1, (Mod_0 hs.2.1 : ob h (g + 266) 11), (rf_g (Mod_7 hs.2.1 : rf h (g + 266) 5 (g + 269)) : gR h (g + 266) 5 = (g + 269)), (rf_is (Mod_7 hs.2.1 : rf h (g + 266) 5 (g + 269)) : isR h (g + 266) 5), (Mod_8 hs.2.1 : arI h (g + 269) 0), (rdI_0 (Mod_8 hs.2.1 : arI h (g + 269) 0) : rdI h (g + 269)), (Mod_9 hs.2.1 : aln h (g + 269) = 403), (rf_g (Mod_10 hs.2.1 : rf h (g + 266) 6 (g + 270)) : gR h (g + 266) 6 = (g + 270)), (rf_is (Mod_10 hs.2.1 : rf h (g + 266) 6 (g + 270)) : isR h (g + 266) 6), (Mod_11 hs.2.1 : arI h (g + 270) 0), (rdI_0 (Mod_11 hs.2.1 : arI h (g + 270) 0) : rdI h (g + 270)), (Mod_12 hs.2.1 : aln h (g + 270) = 403), (rf_g (Mod_13 hs.2.1 : rf h (g + 266) 7 (g + 271)) : gR h (g + 266) 7 = (g + 271)), (rf_is (Mod_13 hs.2.1 : rf h (g + 266) 7 (g + 271)) : isR h (g + 266) 7), (Mod_14 hs.2.1 : arI h (g + 271) 0), (rdI_0 (Mod_14 hs.2.1 : arI h (g + 271) 0) : rdI h (g + 271)), (Mod_15 hs.2.1 : aln h (g + 271) = 403), (rf_g (Mod_43 hs.2.1 : rf h (g + 266) 30 (g + 281)) : gR h (g + 266) 30 = (g + 281)), (rf_is (Mod_43 hs.2.1 : rf h (g + 266) 30 (g + 281)) : isR h (g + 266) 30), (Mod_44 hs.2.1 : arI h (g + 281) 0), (rdI_0 (Mod_44 hs.2.1 : arI h (g + 281) 0) : rdI h (g + 281)), (Mod_45 hs.2.1 : aln h (g + 281) = 256), ob_pI, rf_pI, isR_pI, isI_pI, isL_pI, arI_pI, arL_pI, arR_pI, arD_pI, aln_pI, rdI_pI, rdB_pI, rdR_pI, aR_pI, pI_2, gI_pI, gL_pI, gD_pI, gR_pI, aI_pI, aL_pI, aD_pI, ob_pL, rf_pL, isR_pL, isI_pL, isL_pL, arI_pL, arL_pL, arR_pL, arD_pL, aln_pL, rdI_pL, rdB_pL, rdR_pL, aR_pL, pL_2, gI_pL, gL_pL, gD_pL, gR_pL, aI_pL, aL_pL, aD_pL, ob_wI, rf_wI, isR_wI, isI_wI, isL_wI, arI_wI, arL_wI, arR_wI, arD_wI, aln_wI, rdI_wI, rdB_wI, rdR_wI, aR_wI, wI_2, gI_wI, gL_wI, gD_wI, gR_wI, aL_wI, aD_wI, aI_wI_ne, ob_wL, rf_wL, isR_wL, isI_wL, isL_wL, arI_wL, arL_wL, arR_wL, arD_wL, aln_wL, rdI_wL, rdB_wL, rdR_wL, aR_wL, wL_2, gI_wL, gL_wL, gD_wL, gR_wL, aI_wL, aD_wL, aL_wL_ne, ob_bI, rf_bI, isR_bI, isI_bI, isL_bI, arI_bI, arL_bI, arR_bI, arD_bI, aln_bI, rdI_bI, rdB_bI, rdR_bI, aR_bI, bI_2, gI_bI, gL_bI, gD_bI, gR_bI, aL_bI, aD_bI, aI_bI_ne, ob_bL, rf_bL, isR_bL, isI_bL, isL_bL, arI_bL, arL_bL, arR_bL, arD_bL, aln_bL, rdI_bL, rdB_bL, rdR_bL, aR_bL, bL_2, gI_bL, gL_bL, gD_bL, gR_bL, aI_bL, aD_bL, aL_bL_ne, vkk_n, vkk_i, vkk_r, vkk_l, vkk_d, catS_nil, catS_i, catS_r, catS_l, catS_d, Nat.reduceAdd, Nat.reduceLeDiff, Nat.zero_le, Nat.le_refl, Option.bind_some, Option.toList_some, Option.toList_none, List.cons_append, List.nil_append, or_true, true_or, if_true, if_false, Int32.reduceLT, Int32.reduceLE, not_true, not_false_iff, true_and, and_true, false_and, and_false, Nat.add_assoc, Nat.reduceAdd, Nat.add_left_cancel_iff, Nat.reduceEqDiff, Nat.add_eq_left, Nat.left_eq_add]
    · simp +decide only [gI_pI, isI_pI, (eq_true (isI_ob om rfl : isI h (g + 266) 14)), true_and, and_true, false_and, and_false, if_true, if_false]
    · simp +decide only [gI_pI, isI_pI, (eq_true (isI_ob om rfl : isI h (g + 266) 15)), true_and, and_true, false_and, and_false, if_true, if_false]
  · rw [if_neg z]
    have z' : ¬ nI W.1 = 0 := fun y => z (i0.mp y)
    have e15 := w3 z
    have pw := tPl_le b L W.2
    refine ⟨h, ?_, Fr.rfl _, wm'⟩
    by_cases y : W.2 < x
    · have u := up x W.2 hx y
      have u' : ¬ nI (tPl b L x) ≤ nI (tPl b L W.2) := fun v => by
        have := (nI_leI (by omega) (by omega)).mp v
        omega
      simp +decide only [e150_0, e150_1, e150_4, e150_5, e150_6, e150_7, e150_8, e150_11, e150_14, e150_15, e150_18, e150_21, e150_22, e150_23, e150_26, e150_29, e150_30, e150_31, e150_34, e150_37, e150_38, e150_39, e150_42, e150_45, e150_46, e150_47, e150_48, e150_51, e150_52, e150_53, e150_56, f0, w2, z', v1, v2, t1, e15, u', (Mod_0 hs.2.1 : ob h (g + 266) 11), (rf_g (Mod_7 hs.2.1 : rf h (g + 266) 5 (g + 269)) : gR h (g + 266) 5 = (g + 269)), (rf_is (Mod_7 hs.2.1 : rf h (g + 266) 5 (g + 269)) : isR h (g + 266) 5), (Mod_8 hs.2.1 : arI h (g + 269) 0), (rdI_0 (Mod_8 hs.2.1 : arI h (g + 269) 0) : rdI h (g + 269)), (Mod_9 hs.2.1 : aln h (g + 269) = 403), (rf_g (Mod_10 hs.2.1 : rf h (g + 266) 6 (g + 270)) : gR h (g + 266) 6 = (g + 270)), (rf_is (Mod_10 hs.2.1 : rf h (g + 266) 6 (g + 270)) : isR h (g + 266) 6), (Mod_11 hs.2.1 : arI h (g + 270) 0), (rdI_0 (Mod_11 hs.2.1 : arI h (g + 270) 0) : rdI h (g + 270)), (Mod_12 hs.2.1 : aln h (g + 270) = 403), (rf_g (Mod_13 hs.2.1 : rf h (g + 266) 7 (g + 271)) : gR h (g + 266) 7 = (g + 271)), (rf_is (Mod_13 hs.2.1 : rf h (g + 266) 7 (g + 271)) : isR h (g + 266) 7), (Mod_14 hs.2.1 : arI h (g + 271) 0), (rdI_0 (Mod_14 hs.2.1 : arI h (g + 271) 0) : rdI h (g + 271)), (Mod_15 hs.2.1 : aln h (g + 271) = 403), (rf_g (Mod_43 hs.2.1 : rf h (g + 266) 30 (g + 281)) : gR h (g + 266) 30 = (g + 281)), (rf_is (Mod_43 hs.2.1 : rf h (g + 266) 30 (g + 281)) : isR h (g + 266) 30), (Mod_44 hs.2.1 : arI h (g + 281) 0), (rdI_0 (Mod_44 hs.2.1 : arI h (g + 281) 0) : rdI h (g + 281)), (Mod_45 hs.2.1 : aln h (g + 281) = 256), vkk_n, vkk_i, vkk_r, vkk_l, vkk_d, catS_nil, catS_i, catS_r, catS_l, catS_d, Nat.reduceAdd, Nat.reduceLeDiff, Nat.zero_le, Nat.le_refl, Option.bind_some, Option.toList_some, Option.toList_none, List.cons_append, List.nil_append, or_true, true_or, if_true, if_false, Int32.reduceLT, Int32.reduceLE, not_true, not_false_iff, true_and, and_true, false_and, and_false]
    · have y2 : W.2 = x ∧ W.1 ≤ k := by omega
      rw [y2.1] at e15
      have u1 : nI (tPl b L x) ≤ nI (tPl b L x) := nI_le (Nat.le_refl _) (by omega)
      have u2 : ¬ nI k < nI W.1 := fun v => by
        have := (nI_ltI (by omega) (by omega)).mp v
        omega
      simp +decide only [e150_0, e150_1, e150_4, e150_5, e150_6, e150_7, e150_8, e150_11, e150_14, e150_15, e150_18, e150_21, e150_22, e150_23, e150_26, e150_29, e150_30, e150_31, e150_34, e150_37, e150_38, e150_39, e150_42, e150_45, e150_46, e150_47, e150_48, e150_51, e150_52, e150_53, e150_56, f0, w2, z', v1, v2, t1, e15, u1, u2, (Mod_0 hs.2.1 : ob h (g + 266) 11), (rf_g (Mod_7 hs.2.1 : rf h (g + 266) 5 (g + 269)) : gR h (g + 266) 5 = (g + 269)), (rf_is (Mod_7 hs.2.1 : rf h (g + 266) 5 (g + 269)) : isR h (g + 266) 5), (Mod_8 hs.2.1 : arI h (g + 269) 0), (rdI_0 (Mod_8 hs.2.1 : arI h (g + 269) 0) : rdI h (g + 269)), (Mod_9 hs.2.1 : aln h (g + 269) = 403), (rf_g (Mod_10 hs.2.1 : rf h (g + 266) 6 (g + 270)) : gR h (g + 266) 6 = (g + 270)), (rf_is (Mod_10 hs.2.1 : rf h (g + 266) 6 (g + 270)) : isR h (g + 266) 6), (Mod_11 hs.2.1 : arI h (g + 270) 0), (rdI_0 (Mod_11 hs.2.1 : arI h (g + 270) 0) : rdI h (g + 270)), (Mod_12 hs.2.1 : aln h (g + 270) = 403), (rf_g (Mod_13 hs.2.1 : rf h (g + 266) 7 (g + 271)) : gR h (g + 266) 7 = (g + 271)), (rf_is (Mod_13 hs.2.1 : rf h (g + 266) 7 (g + 271)) : isR h (g + 266) 7), (Mod_14 hs.2.1 : arI h (g + 271) 0), (rdI_0 (Mod_14 hs.2.1 : arI h (g + 271) 0) : rdI h (g + 271)), (Mod_15 hs.2.1 : aln h (g + 271) = 403), (rf_g (Mod_43 hs.2.1 : rf h (g + 266) 30 (g + 281)) : gR h (g + 266) 30 = (g + 281)), (rf_is (Mod_43 hs.2.1 : rf h (g + 266) 30 (g + 281)) : isR h (g + 266) 30), (Mod_44 hs.2.1 : arI h (g + 281) 0), (rdI_0 (Mod_44 hs.2.1 : arI h (g + 281) 0) : rdI h (g + 281)), (Mod_45 hs.2.1 : aln h (g + 281) = 256), vkk_n, vkk_i, vkk_r, vkk_l, vkk_d, catS_nil, catS_i, catS_r, catS_l, catS_d, Nat.reduceAdd, Nat.reduceLeDiff, Nat.zero_le, Nat.le_refl, Option.bind_some, Option.toList_some, Option.toList_none, List.cons_append, List.nil_append, or_true, true_or, if_true, if_false, Int32.reduceLT, Int32.reduceLE, not_true, not_false_iff, true_and, and_true, false_and, and_false]
/-- the model's new memory -/
def NM (h : VG) (g : Nat) (M : Nat → Nat) : Prop := ∀ j, j < 256 → aI h (g + 281) j = nI (M j)
theorem NM_fr {R : Nat → Prop} {F : Nat → Nat → Prop} {h h1 : VG} {g : Nat} {M : Nat → Nat} (x : Fr R F h h1) (c : ¬ R (g + 281)) (q : NM h g M) : NM h1 g M := fun j hj => (x.I c j).trans (q j hj)
theorem WL_F {V : Nat → Nat} {A s2 : Nat} {W : Nat × Nat} (q : WL W s2) : ∀ i, WL (wFb V A s2 W i) (s2 + i) := by
  intro i
  induction i with
  | zero => exact q
  | succ i ih =>
    have e : wFb V A s2 W (i + 1) = if V (s2 + i) ≤ 255 ∧ A + i ≤ 255 then wFb V A s2 W i else wN (wFb V A s2 W i) 5 (s2 + i) := rfl
    rw [e]
    split
    · exact WL_up (by omega) ih
    · exact WL_N _ ih
theorem l_mfb (g L c A s n : Nat) (b : Nat → Nat) (W : Nat × Nat) (M : Nat → Nat) (hA : A < 10000) (hn : n ≤ 16) (hc : s + 2 + n < c) (hI : ∀ x, x < n → kd b L (s + 2 + x) = 2) (h4 : ¬ kd b L (s + 2 + n) = 2) (hW : WL W (s + 2)) : ∀ d x h (l4 : Option Value), x + d = n → MZ h g b L c → WM h g b L (wFb (vC b L) A (s + 2) W x) → NM h g (mFb (vC b L) A (s + 2) M x) → ∃ h1, ev 161 28 [some (.ref (g + 266)), some (.int (nI s)), some (.int (nI A)), some (.int (nI (s + 2 + x))), l4] [] h = some (none, h1) ∧ Fr (fun a => a = g + 281) (FTW g) h h1 ∧ WM h1 g b L (wFb (vC b L) A (s + 2) W n) ∧ NM h1 g (mFb (vC b L) A (s + 2) M n) := by
  intro d
  induction d with
  | zero =>
    intro x h l4 hd q wm nm
    obtain rfl : x = n := by omega
    have hs := q.1.1
    have hcc := q.1.2.2.1
    have v1 : vp_in (nI (s + 2 + x)) 403 := vp_in_nI (by omega) (by decide)
    have v2 : (nI (s + 2 + x)).toNatClampNeg = s + 2 + x := nI_clamp (by omega)
    have t1 := (q.1.2.1 (s + 2 + x) hc).1
    have ko := kd_or b L (s + 2 + x)
    have k2 : ¬ nI (kd b L (s + 2 + x)) = 2 := fun z => h4 ((nI_eq (b := 2) (by omega) (by decide)).mp z)
    refine ⟨h, ?_, Fr.rfl _, wm, nm⟩
    simp +decide only [e161_28, e161_29, e161_32, e161_33, e161_34, e161_35, e161_95, v1, v2, t1, k2, (Mod_0 hs.2.1 : ob h (g + 266) 11), (rf_g (Mod_7 hs.2.1 : rf h (g + 266) 5 (g + 269)) : gR h (g + 266) 5 = (g + 269)), (rf_is (Mod_7 hs.2.1 : rf h (g + 266) 5 (g + 269)) : isR h (g + 266) 5), (Mod_8 hs.2.1 : arI h (g + 269) 0), (rdI_0 (Mod_8 hs.2.1 : arI h (g + 269) 0) : rdI h (g + 269)), (Mod_9 hs.2.1 : aln h (g + 269) = 403), (rf_g (Mod_10 hs.2.1 : rf h (g + 266) 6 (g + 270)) : gR h (g + 266) 6 = (g + 270)), (rf_is (Mod_10 hs.2.1 : rf h (g + 266) 6 (g + 270)) : isR h (g + 266) 6), (Mod_11 hs.2.1 : arI h (g + 270) 0), (rdI_0 (Mod_11 hs.2.1 : arI h (g + 270) 0) : rdI h (g + 270)), (Mod_12 hs.2.1 : aln h (g + 270) = 403), (rf_g (Mod_13 hs.2.1 : rf h (g + 266) 7 (g + 271)) : gR h (g + 266) 7 = (g + 271)), (rf_is (Mod_13 hs.2.1 : rf h (g + 266) 7 (g + 271)) : isR h (g + 266) 7), (Mod_14 hs.2.1 : arI h (g + 271) 0), (rdI_0 (Mod_14 hs.2.1 : arI h (g + 271) 0) : rdI h (g + 271)), (Mod_15 hs.2.1 : aln h (g + 271) = 403), (rf_g (Mod_43 hs.2.1 : rf h (g + 266) 30 (g + 281)) : gR h (g + 266) 30 = (g + 281)), (rf_is (Mod_43 hs.2.1 : rf h (g + 266) 30 (g + 281)) : isR h (g + 266) 30), (Mod_44 hs.2.1 : arI h (g + 281) 0), (rdI_0 (Mod_44 hs.2.1 : arI h (g + 281) 0) : rdI h (g + 281)), (Mod_45 hs.2.1 : aln h (g + 281) = 256), vkk_n, vkk_i, vkk_r, vkk_l, vkk_d, catS_nil, catS_i, catS_r, catS_l, catS_d, Nat.reduceAdd, Nat.reduceLeDiff, Nat.zero_le, Nat.le_refl, Option.bind_some, Option.toList_some, Option.toList_none, List.cons_append, List.nil_append, or_true, true_or, if_true, if_false, Int32.reduceLT, Int32.reduceLE, not_true, not_false_iff, true_and, and_true, false_and, and_false]
  | succ d ih =>
    intro x h l4 hd q wm nm
    have hs := q.1.1
    have om : ob h (g + 266) 11 := Mod_0 hs.2.1
    have hcc := q.1.2.2.1
    have v1 : vp_in (nI (s + 2 + x)) 403 := vp_in_nI (by omega) (by decide)
    have v2 : (nI (s + 2 + x)).toNatClampNeg = s + 2 + x := nI_clamp (by omega)
    obtain ⟨t1, -, t3, -⟩ := q.1.2.1 (s + 2 + x) (by omega)
    have k2 := hI x (by omega)
    rw [k2] at t1
    have t1 : aI h (g + 269) (s + 2 + x) = 2 := t1
    have t3 : aI h (g + 271) (s + 2 + x) = nI (vC b L (s + 2 + x)) := t3 k2
    have vl : vC b L (s + 2 + x) < 10000 := tIv_lt b L _ k2
    have ad1 : nI A + nI (s + 2 + x) - nI s - 2 = nI (A + x) := by
      rw [nI_add, show (2 : Int32) = nI 2 from rfl, pk_sub (by omega), pk_sub (by omega)]
      congr 1
      omega
    have ent : ev 161 28 [some (.ref (g + 266)), some (.int (nI s)), some (.int (nI A)), some (.int (nI (s + 2 + x))), l4] [] h = ev 161 47 [some (.ref (g + 266)), some (.int (nI s)), some (.int (nI A)), some (.int (nI (s + 2 + x))), some (.int (nI (A + x)))] [] h := by
      simp +decide only [e161_28, e161_29, e161_32, e161_33, e161_34, e161_35, e161_95, e161_38, e161_39, e161_40, e161_41, e161_42, e161_43, e161_44, e161_45, v1, v2, t1, ad1, (Mod_0 hs.2.1 : ob h (g + 266) 11), (rf_g (Mod_7 hs.2.1 : rf h (g + 266) 5 (g + 269)) : gR h (g + 266) 5 = (g + 269)), (rf_is (Mod_7 hs.2.1 : rf h (g + 266) 5 (g + 269)) : isR h (g + 266) 5), (Mod_8 hs.2.1 : arI h (g + 269) 0), (rdI_0 (Mod_8 hs.2.1 : arI h (g + 269) 0) : rdI h (g + 269)), (Mod_9 hs.2.1 : aln h (g + 269) = 403), (rf_g (Mod_10 hs.2.1 : rf h (g + 266) 6 (g + 270)) : gR h (g + 266) 6 = (g + 270)), (rf_is (Mod_10 hs.2.1 : rf h (g + 266) 6 (g + 270)) : isR h (g + 266) 6), (Mod_11 hs.2.1 : arI h (g + 270) 0), (rdI_0 (Mod_11 hs.2.1 : arI h (g + 270) 0) : rdI h (g + 270)), (Mod_12 hs.2.1 : aln h (g + 270) = 403), (rf_g (Mod_13 hs.2.1 : rf h (g + 266) 7 (g + 271)) : gR h (g + 266) 7 = (g + 271)), (rf_is (Mod_13 hs.2.1 : rf h (g + 266) 7 (g + 271)) : isR h (g + 266) 7), (Mod_14 hs.2.1 : arI h (g + 271) 0), (rdI_0 (Mod_14 hs.2.1 : arI h (g + 271) 0) : rdI h (g + 271)), (Mod_15 hs.2.1 : aln h (g + 271) = 403), (rf_g (Mod_43 hs.2.1 : rf h (g + 266) 30 (g + 281)) : gR h (g + 266) 30 = (g + 281)), (rf_is (Mod_43 hs.2.1 : rf h (g + 266) 30 (g + 281)) : isR h (g + 266) 30), (Mod_44 hs.2.1 : arI h (g + 281) 0), (rdI_0 (Mod_44 hs.2.1 : arI h (g + 281) 0) : rdI h (g + 281)), (Mod_45 hs.2.1 : aln h (g + 281) = 256), vkk_n, vkk_i, vkk_r, vkk_l, vkk_d, catS_nil, catS_i, catS_r, catS_l, catS_d, Nat.reduceAdd, Nat.reduceLeDiff, Nat.zero_le, Nat.le_refl, Option.bind_some, Option.toList_some, Option.toList_none, List.cons_append, List.nil_append, or_true, true_or, if_true, if_false, Int32.reduceLT, Int32.reduceLE, not_true, not_false_iff, true_and, and_true, false_and, and_false]
    rw [ent]
    have eW : wFb (vC b L) A (s + 2) W (x + 1) = if vC b L (s + 2 + x) ≤ 255 ∧ A + x ≤ 255 then wFb (vC b L) A (s + 2) W x else wN (wFb (vC b L) A (s + 2) W x) 5 (s + 2 + x) := rfl
    have eM : ∀ j, mFb (vC b L) A (s + 2) M (x + 1) j = if (vC b L (s + 2 + x) ≤ 255 ∧ A + x ≤ 255) ∧ j = A + x then vC b L (s + 2 + x) else mFb (vC b L) A (s + 2) M x j := fun _ => rfl
    have stp_ : ∃ h1, ev 161 47 [some (.ref (g + 266)), some (.int (nI s)), some (.int (nI A)), some (.int (nI (s + 2 + x))), some (.int (nI (A + x)))] [] h = ev 161 28 [some (.ref (g + 266)), some (.int (nI s)), some (.int (nI A)), some (.int (nI (s + 2 + (x + 1)))), some (.int (nI (A + x)))] [] h1 ∧ Fr (fun a => a = g + 281) (FTW g) h h1 ∧ WM h1 g b L (wFb (vC b L) A (s + 2) W (x + 1)) ∧ NM h1 g (mFb (vC b L) A (s + 2) M (x + 1)) := by
      by_cases ok : vC b L (s + 2 + x) ≤ 255 ∧ A + x ≤ 255
      · rw [eW, if_pos ok]
        have y1 : nI (vC b L (s + 2 + x)) ≤ 255 := nI_le (b := 255) ok.1 (by decide)
        have y2 : nI (A + x) ≤ 255 := nI_le (b := 255) ok.2 (by decide)
        have v3 : vp_in (nI (A + x)) 256 := vp_in_nI (by omega) (by decide)
        have v4 : (nI (A + x)).toNatClampNeg = A + x := nI_clamp (by omega)
        have x1 : Fr (fun a => a = g + 281) (FTW g) h (wI h (g + 281) (A + x) (nI (vC b L (s + 2 + x)))) := Fr_wI _ _ _ _ rfl
        have x2 : Fr (fun a => a = g + 281) NF h (wI h (g + 281) (A + x) (nI (vC b L (s + 2 + x)))) := Fr_wI _ _ _ _ rfl
        refine ⟨_, ?_, x1, WM_fr x2 (fun k z => z.elim) wm, fun j hj => ?_⟩
        · generalize hZ : ev 161 28 [some (.ref (g + 266)), some (.int (nI s)), some (.int (nI A)), some (.int (nI (s + 2 + (x + 1)))), some (.int (nI (A + x)))] [] (wI h (g + 281) (A + x) (nI (vC b L (s + 2 + x)))) = Z
          simp +decide only [e161_47, e161_48, e161_51, e161_52, e161_53, e161_56, e161_59, e161_61, e161_64, e161_67, e161_68, e161_69, e161_70, e161_73, e161_76, e161_77, e161_80, e161_82, e161_83, e161_86, e161_87, e161_88, e161_89, e161_92, v1, v2, v3, v4, t3, y1, y2, nI_1, nI_add, (Mod_0 hs.2.1 : ob h (g + 266) 11), (rf_g (Mod_7 hs.2.1 : rf h (g + 266) 5 (g + 269)) : gR h (g + 266) 5 = (g + 269)), (rf_is (Mod_7 hs.2.1 : rf h (g + 266) 5 (g + 269)) : isR h (g + 266) 5), (Mod_8 hs.2.1 : arI h (g + 269) 0), (rdI_0 (Mod_8 hs.2.1 : arI h (g + 269) 0) : rdI h (g + 269)), (Mod_9 hs.2.1 : aln h (g + 269) = 403), (rf_g (Mod_10 hs.2.1 : rf h (g + 266) 6 (g + 270)) : gR h (g + 266) 6 = (g + 270)), (rf_is (Mod_10 hs.2.1 : rf h (g + 266) 6 (g + 270)) : isR h (g + 266) 6), (Mod_11 hs.2.1 : arI h (g + 270) 0), (rdI_0 (Mod_11 hs.2.1 : arI h (g + 270) 0) : rdI h (g + 270)), (Mod_12 hs.2.1 : aln h (g + 270) = 403), (rf_g (Mod_13 hs.2.1 : rf h (g + 266) 7 (g + 271)) : gR h (g + 266) 7 = (g + 271)), (rf_is (Mod_13 hs.2.1 : rf h (g + 266) 7 (g + 271)) : isR h (g + 266) 7), (Mod_14 hs.2.1 : arI h (g + 271) 0), (rdI_0 (Mod_14 hs.2.1 : arI h (g + 271) 0) : rdI h (g + 271)), (Mod_15 hs.2.1 : aln h (g + 271) = 403), (rf_g (Mod_43 hs.2.1 : rf h (g + 266) 30 (g + 281)) : gR h (g + 266) 30 = (g + 281)), (rf_is (Mod_43 hs.2.1 : rf h (g + 266) 30 (g + 281)) : isR h (g + 266) 30), (Mod_44 hs.2.1 : arI h (g + 281) 0), (rdI_0 (Mod_44 hs.2.1 : arI h (g + 281) 0) : rdI h (g + 281)), (Mod_45 hs.2.1 : aln h (g + 281) = 256), vkk_n, vkk_i, vkk_r, vkk_l, vkk_d, catS_nil, catS_i, catS_r, catS_l, catS_d, Nat.reduceAdd, Nat.reduceLeDiff, Nat.zero_le, Nat.le_refl, Option.bind_some, Option.toList_some, Option.toList_none, List.cons_append, List.nil_append, or_true, true_or, if_true, if_false, Int32.reduceLT, Int32.reduceLE, not_true, not_false_iff, true_and, and_true, false_and, and_false]
          exact hZ
        · rw [eM j, aI_wI0 _ _ _ _ _ _ (Mod_44 hs.2.1)]
          by_cases z : j = A + x
          · rw [if_pos ⟨rfl, z⟩, if_pos ⟨ok, z⟩]
          · rw [if_neg (fun y => z y.2), if_neg (fun y => z y.2)]
            exact nm j hj
      · rw [eW, if_neg ok]
        obtain ⟨h1, u1, u2, u3⟩ := c_wrong (k := 5) (x := s + 2 + x) q (by omega) wm (Or.inr rfl) (by have := WL_F (V := vC b L) (A := A) hW x; unfold WL at this; omega)
        have u1 : ev 150 0 [some (.ref (g + 266)), some (.int 5), some (.int (nI (s + 2 + x))), none] [] h = _ := u1
        refine ⟨h1, ?_, u2.mo (fun a z => z.elim) (fun a k z => z), u3, fun j hj => ?_⟩
        · generalize hZ : ev 161 28 [some (.ref (g + 266)), some (.int (nI s)), some (.int (nI A)), some (.int (nI (s + 2 + (x + 1)))), some (.int (nI (A + x)))] [] h1 = Z
          by_cases k1 : vC b L (s + 2 + x) ≤ 255
          · have y1 : nI (vC b L (s + 2 + x)) ≤ 255 := nI_le (b := 255) k1 (by decide)
            have y2 : ¬ nI (A + x) ≤ 255 := fun z => ok ⟨k1, (nI_leI (b := 255) (by omega) (by decide)).mp z⟩
            simp +decide only [e161_47, e161_48, e161_51, e161_52, e161_53, e161_56, e161_59, e161_61, e161_64, e161_67, e161_68, e161_69, e161_70, e161_73, e161_76, e161_77, e161_80, e161_82, e161_83, e161_86, e161_87, e161_88, e161_89, e161_92, v1, v2, t3, y1, y2, u1, nI_1, nI_add, (Mod_0 hs.2.1 : ob h (g + 266) 11), (rf_g (Mod_7 hs.2.1 : rf h (g + 266) 5 (g + 269)) : gR h (g + 266) 5 = (g + 269)), (rf_is (Mod_7 hs.2.1 : rf h (g + 266) 5 (g + 269)) : isR h (g + 266) 5), (Mod_8 hs.2.1 : arI h (g + 269) 0), (rdI_0 (Mod_8 hs.2.1 : arI h (g + 269) 0) : rdI h (g + 269)), (Mod_9 hs.2.1 : aln h (g + 269) = 403), (rf_g (Mod_10 hs.2.1 : rf h (g + 266) 6 (g + 270)) : gR h (g + 266) 6 = (g + 270)), (rf_is (Mod_10 hs.2.1 : rf h (g + 266) 6 (g + 270)) : isR h (g + 266) 6), (Mod_11 hs.2.1 : arI h (g + 270) 0), (rdI_0 (Mod_11 hs.2.1 : arI h (g + 270) 0) : rdI h (g + 270)), (Mod_12 hs.2.1 : aln h (g + 270) = 403), (rf_g (Mod_13 hs.2.1 : rf h (g + 266) 7 (g + 271)) : gR h (g + 266) 7 = (g + 271)), (rf_is (Mod_13 hs.2.1 : rf h (g + 266) 7 (g + 271)) : isR h (g + 266) 7), (Mod_14 hs.2.1 : arI h (g + 271) 0), (rdI_0 (Mod_14 hs.2.1 : arI h (g + 271) 0) : rdI h (g + 271)), (Mod_15 hs.2.1 : aln h (g + 271) = 403), (rf_g (Mod_43 hs.2.1 : rf h (g + 266) 30 (g + 281)) : gR h (g + 266) 30 = (g + 281)), (rf_is (Mod_43 hs.2.1 : rf h (g + 266) 30 (g + 281)) : isR h (g + 266) 30), (Mod_44 hs.2.1 : arI h (g + 281) 0), (rdI_0 (Mod_44 hs.2.1 : arI h (g + 281) 0) : rdI h (g + 281)), (Mod_45 hs.2.1 : aln h (g + 281) = 256), vkk_n, vkk_i, vkk_r, vkk_l, vkk_d, catS_nil, catS_i, catS_r, catS_l, catS_d, Nat.reduceAdd, Nat.reduceLeDiff, Nat.zero_le, Nat.le_refl, Option.bind_some, Option.toList_some, Option.toList_none, List.cons_append, List.nil_append, or_true, true_or, if_true, if_false, Int32.reduceLT, Int32.reduceLE, not_true, not_false_iff, true_and, and_true, false_and, and_false]
            exact hZ
          · have y1 : ¬ nI (vC b L (s + 2 + x)) ≤ 255 := fun z => k1 ((nI_leI (b := 255) (by omega) (by decide)).mp z)
            simp +decide only [e161_47, e161_48, e161_51, e161_52, e161_53, e161_56, e161_59, e161_61, e161_64, e161_67, e161_68, e161_69, e161_70, e161_73, e161_76, e161_77, e161_80, e161_82, e161_83, e161_86, e161_87, e161_88, e161_89, e161_92, v1, v2, t3, y1, u1, nI_1, nI_add, (Mod_0 hs.2.1 : ob h (g + 266) 11), (rf_g (Mod_7 hs.2.1 : rf h (g + 266) 5 (g + 269)) : gR h (g + 266) 5 = (g + 269)), (rf_is (Mod_7 hs.2.1 : rf h (g + 266) 5 (g + 269)) : isR h (g + 266) 5), (Mod_8 hs.2.1 : arI h (g + 269) 0), (rdI_0 (Mod_8 hs.2.1 : arI h (g + 269) 0) : rdI h (g + 269)), (Mod_9 hs.2.1 : aln h (g + 269) = 403), (rf_g (Mod_10 hs.2.1 : rf h (g + 266) 6 (g + 270)) : gR h (g + 266) 6 = (g + 270)), (rf_is (Mod_10 hs.2.1 : rf h (g + 266) 6 (g + 270)) : isR h (g + 266) 6), (Mod_11 hs.2.1 : arI h (g + 270) 0), (rdI_0 (Mod_11 hs.2.1 : arI h (g + 270) 0) : rdI h (g + 270)), (Mod_12 hs.2.1 : aln h (g + 270) = 403), (rf_g (Mod_13 hs.2.1 : rf h (g + 266) 7 (g + 271)) : gR h (g + 266) 7 = (g + 271)), (rf_is (Mod_13 hs.2.1 : rf h (g + 266) 7 (g + 271)) : isR h (g + 266) 7), (Mod_14 hs.2.1 : arI h (g + 271) 0), (rdI_0 (Mod_14 hs.2.1 : arI h (g + 271) 0) : rdI h (g + 271)), (Mod_15 hs.2.1 : aln h (g + 271) = 403), (rf_g (Mod_43 hs.2.1 : rf h (g + 266) 30 (g + 281)) : gR h (g + 266) 30 = (g + 281)), (rf_is (Mod_43 hs.2.1 : rf h (g + 266) 30 (g + 281)) : isR h (g + 266) 30), (Mod_44 hs.2.1 : arI h (g + 281) 0), (rdI_0 (Mod_44 hs.2.1 : arI h (g + 281) 0) : rdI h (g + 281)), (Mod_45 hs.2.1 : aln h (g + 281) = 256), vkk_n, vkk_i, vkk_r, vkk_l, vkk_d, catS_nil, catS_i, catS_r, catS_l, catS_d, Nat.reduceAdd, Nat.reduceLeDiff, Nat.zero_le, Nat.le_refl, Option.bind_some, Option.toList_some, Option.toList_none, List.cons_append, List.nil_append, or_true, true_or, if_true, if_false, Int32.reduceLT, Int32.reduceLE, not_true, not_false_iff, true_and, and_true, false_and, and_false]
            exact hZ
        · rw [eM j, if_neg (fun y => ok y.1), u2.I (fun z => z)]
          exact nm j hj
    obtain ⟨h1, s1, s2, s3, s4⟩ := stp_
    have q1 : MZ h1 g b L c := MZ_fr s2 (fun a z => by omega) (fun k z => by unfold FTW at z; omega) q
    obtain ⟨h2, n1, n2, n3⟩ := ih (x + 1) h1 (some (.int (nI (A + x)))) (by omega) q1 s3 s4
    exact ⟨h2, s1.trans n1, s2.tr n2, n3⟩
theorem c_mfill {h : VG} {g L c s n : Nat} {b : Nat → Nat} {W : Nat × Nat} {M : Nat → Nat} (q : MZ h g b L c) (wm : WM h g b L W) (nm : NM h g M) (hW : WL W s) (hn : n ≤ 16) (hc : s + 2 + n < c) (k1 : kd b L (s + 1) = 2) (hI : ∀ x, x < n → kd b L (s + 2 + x) = 2) (h4 : ¬ kd b L (s + 2 + n) = 2) : ∃ h1, ev 161 0 [some (.ref (g + 266)), some (.int (nI s)), none, none, none] [] h = some (none, h1) ∧ Fr (fun a => a = g + 281) (FTW g) h h1 ∧ WM h1 g b L (wFb (vC b L) (vC b L (s + 1)) (s + 2) (if 255 < vC b L (s + 1) then wN W 5 (s + 1) else W) n) ∧ NM h1 g (mFb (vC b L) (vC b L (s + 1)) (s + 2) M n) := by
  have hs := q.1.1
  have om : ob h (g + 266) 11 := Mod_0 hs.2.1
  have hcc := q.1.2.2.1
  have v1 : vp_in (nI (s + 1)) 403 := vp_in_nI (by omega) (by decide)
  have v2 : (nI (s + 1)).toNatClampNeg = s + 1 := nI_clamp (by omega)
  obtain ⟨-, -, t3, -⟩ := q.1.2.1 (s + 1) (by omega)
  have t3 : aI h (g + 271) (s + 1) = nI (vC b L (s + 1)) := t3 k1
  have vl : vC b L (s + 1) < 10000 := tIv_lt b L _ k1
  have n2 : nI s + 2 = nI (s + 2) := by rw [show (2 : Int32) = nI 2 from rfl, nI_add]
  generalize vC b L (s + 1) = A at t3 vl ⊢
  have mid : ∃ (h1 : VG), ev 161 0 [some (.ref (g + 266)), some (.int (nI s)), none, none, none] [] h = ev 161 28 [some (.ref (g + 266)), some (.int (nI s)), some (.int (nI A)), some (.int (nI (s + 2))), none] [] h1 ∧ Fr NR (FTW g) h h1 ∧ WM h1 g b L (if 255 < A then wN W 5 (s + 1) else W) ∧ WL (if 255 < A then wN W 5 (s + 1) else W) (s + 2) := by
    by_cases y : 255 < A
    · have y' : ¬ nI A ≤ 255 := fun z => by have := (nI_leI (b := 255) (by omega) (by decide)).mp z; omega
      obtain ⟨h1, u1, u2, u3⟩ := c_wrong (k := 5) (x := s + 1) q (by omega) wm (Or.inr rfl) (by unfold WL at hW; omega)
      have u1 : ev 150 0 [some (.ref (g + 266)), some (.int 5), some (.int (nI (s + 1))), none] [] h = _ := u1
      rw [if_pos y]
      refine ⟨h1, ?_, u2, u3, WL_N _ (WL_up (by omega) hW)⟩
      simp +decide only [e161_0, e161_1, e161_4, e161_5, e161_6, e161_7, e161_8, e161_9, e161_10, e161_13, e161_16, e161_17, e161_18, e161_19, e161_20, e161_21, e161_24, e161_25, e161_26, e161_27, om, nI_1, nI_add, v1, v2, t3, y', u1, n2, (Mod_0 hs.2.1 : ob h (g + 266) 11), (rf_g (Mod_7 hs.2.1 : rf h (g + 266) 5 (g + 269)) : gR h (g + 266) 5 = (g + 269)), (rf_is (Mod_7 hs.2.1 : rf h (g + 266) 5 (g + 269)) : isR h (g + 266) 5), (Mod_8 hs.2.1 : arI h (g + 269) 0), (rdI_0 (Mod_8 hs.2.1 : arI h (g + 269) 0) : rdI h (g + 269)), (Mod_9 hs.2.1 : aln h (g + 269) = 403), (rf_g (Mod_10 hs.2.1 : rf h (g + 266) 6 (g + 270)) : gR h (g + 266) 6 = (g + 270)), (rf_is (Mod_10 hs.2.1 : rf h (g + 266) 6 (g + 270)) : isR h (g + 266) 6), (Mod_11 hs.2.1 : arI h (g + 270) 0), (rdI_0 (Mod_11 hs.2.1 : arI h (g + 270) 0) : rdI h (g + 270)), (Mod_12 hs.2.1 : aln h (g + 270) = 403), (rf_g (Mod_13 hs.2.1 : rf h (g + 266) 7 (g + 271)) : gR h (g + 266) 7 = (g + 271)), (rf_is (Mod_13 hs.2.1 : rf h (g + 266) 7 (g + 271)) : isR h (g + 266) 7), (Mod_14 hs.2.1 : arI h (g + 271) 0), (rdI_0 (Mod_14 hs.2.1 : arI h (g + 271) 0) : rdI h (g + 271)), (Mod_15 hs.2.1 : aln h (g + 271) = 403), (rf_g (Mod_43 hs.2.1 : rf h (g + 266) 30 (g + 281)) : gR h (g + 266) 30 = (g + 281)), (rf_is (Mod_43 hs.2.1 : rf h (g + 266) 30 (g + 281)) : isR h (g + 266) 30), (Mod_44 hs.2.1 : arI h (g + 281) 0), (rdI_0 (Mod_44 hs.2.1 : arI h (g + 281) 0) : rdI h (g + 281)), (Mod_45 hs.2.1 : aln h (g + 281) = 256), vkk_n, vkk_i, vkk_r, vkk_l, vkk_d, catS_nil, catS_i, catS_r, catS_l, catS_d, Nat.reduceAdd, Nat.reduceLeDiff, Nat.zero_le, Nat.le_refl, Option.bind_some, Option.toList_some, Option.toList_none, List.cons_append, List.nil_append, or_true, true_or, if_true, if_false, Int32.reduceLT, Int32.reduceLE, not_true, not_false_iff, true_and, and_true, false_and, and_false]
    · have y' : nI A ≤ 255 := nI_le (b := 255) (by omega) (by decide)
      rw [if_neg y]
      refine ⟨h, ?_, Fr.rfl _, wm, WL_up (by omega) hW⟩
      simp +decide only [e161_0, e161_1, e161_4, e161_5, e161_6, e161_7, e161_8, e161_9, e161_10, e161_13, e161_16, e161_17, e161_18, e161_19, e161_20, e161_21, e161_24, e161_25, e161_26, e161_27, om, nI_1, nI_add, v1, v2, t3, y', n2, (Mod_0 hs.2.1 : ob h (g + 266) 11), (rf_g (Mod_7 hs.2.1 : rf h (g + 266) 5 (g + 269)) : gR h (g + 266) 5 = (g + 269)), (rf_is (Mod_7 hs.2.1 : rf h (g + 266) 5 (g + 269)) : isR h (g + 266) 5), (Mod_8 hs.2.1 : arI h (g + 269) 0), (rdI_0 (Mod_8 hs.2.1 : arI h (g + 269) 0) : rdI h (g + 269)), (Mod_9 hs.2.1 : aln h (g + 269) = 403), (rf_g (Mod_10 hs.2.1 : rf h (g + 266) 6 (g + 270)) : gR h (g + 266) 6 = (g + 270)), (rf_is (Mod_10 hs.2.1 : rf h (g + 266) 6 (g + 270)) : isR h (g + 266) 6), (Mod_11 hs.2.1 : arI h (g + 270) 0), (rdI_0 (Mod_11 hs.2.1 : arI h (g + 270) 0) : rdI h (g + 270)), (Mod_12 hs.2.1 : aln h (g + 270) = 403), (rf_g (Mod_13 hs.2.1 : rf h (g + 266) 7 (g + 271)) : gR h (g + 266) 7 = (g + 271)), (rf_is (Mod_13 hs.2.1 : rf h (g + 266) 7 (g + 271)) : isR h (g + 266) 7), (Mod_14 hs.2.1 : arI h (g + 271) 0), (rdI_0 (Mod_14 hs.2.1 : arI h (g + 271) 0) : rdI h (g + 271)), (Mod_15 hs.2.1 : aln h (g + 271) = 403), (rf_g (Mod_43 hs.2.1 : rf h (g + 266) 30 (g + 281)) : gR h (g + 266) 30 = (g + 281)), (rf_is (Mod_43 hs.2.1 : rf h (g + 266) 30 (g + 281)) : isR h (g + 266) 30), (Mod_44 hs.2.1 : arI h (g + 281) 0), (rdI_0 (Mod_44 hs.2.1 : arI h (g + 281) 0) : rdI h (g + 281)), (Mod_45 hs.2.1 : aln h (g + 281) = 256), vkk_n, vkk_i, vkk_r, vkk_l, vkk_d, catS_nil, catS_i, catS_r, catS_l, catS_d, Nat.reduceAdd, Nat.reduceLeDiff, Nat.zero_le, Nat.le_refl, Option.bind_some, Option.toList_some, Option.toList_none, List.cons_append, List.nil_append, or_true, true_or, if_true, if_false, Int32.reduceLT, Int32.reduceLE, not_true, not_false_iff, true_and, and_true, false_and, and_false]
  obtain ⟨h1, m1, m2, m3, m4⟩ := mid
  have q1 : MZ h1 g b L c := MZ_fr m2 (fun a z => z.elim) (fun k z => by unfold FTW at z; omega) q
  obtain ⟨h2, n1, n2, n3⟩ := l_mfb g L c A s n b (if 255 < A then wN W 5 (s + 1) else W) M vl hn hc hI h4 m4 n 0 h1 none (by omega) q1 m3 (NM_fr m2 (fun z => z) nm)
  have n1 : ev 161 28 [some (.ref (g + 266)), some (.int (nI s)), some (.int (nI A)), some (.int (nI (s + 2))), none] [] h1 = _ := n1
  exact ⟨h2, m1.trans n1, (m2.mo (fun a z => z.elim) (fun a k z => z)).tr n2, n3⟩
