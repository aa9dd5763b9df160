/-! read: the class's reader, its small steps -/
def tyC (b : Nat → Nat) (L t : Nat) : Nat := cTy (kd b L t)
def vC (b : Nat → Nat) (L t : Nat) : Nat := tIv b L (tPl b L t)
/-- the reader at token s of TT -/
def RD (h : VG) (g P : Nat) (b : Nat → Nat) (L TT s : Nat) : Prop := Sh h g ∧ rf h (g + 2) 2 P ∧ TC h g b L (TT + 1) ∧ gI h (g + 2) 3 = nI s ∧ s ≤ TT ∧ TT ≤ 400 ∧ (TT = 400 ∨ kd b L TT = 0 ∨ kd b L TT = 3)
/-- what stands is told: f at p -/
def ST (h : VG) (g f p : Nat) : Prop := gI h (g + 2) 4 = nI f ∧ gI h (g + 2) 0 = nI p ∧ gI h (g + 2) 5 = 1
/-- what is wrong by now: its number, its token -/
def WF (h : VG) (g : Nat) (b : Nat → Nat) (L : Nat) (W : Nat × Nat) : Prop := W.1 < 6 ∧ gI h (g + 2) 4 = nI W.1 ∧ (¬ W.1 = 0 → gI h (g + 2) 0 = nI (tPl b L W.2)) ∧ gI h (g + 2) 5 = 0
def wN (W : Nat × Nat) (c x : Nat) : Nat × Nat := if W.1 = 0 then (c, x) else W
/-- what the reader changes: its own fields, the plan at P -/
def PR (P a : Nat) : Prop := P ≤ a ∧ a ≤ P + 81
def PF (g P a k : Nat) : Prop := (a = g + 2 ∧ ¬ k = 1 ∧ ¬ k = 2) ∨ (P ≤ a ∧ a ≤ P + 81 ∧ (1 ≤ k ∨ (a - P) % 13 = 4))
theorem TC_fr {R : Nat → Prop} {F : Nat → Nat → Prop} {h h1 : VG} {g L n : Nat} {b : Nat → Nat} (x : Fr R F h h1) (c : ∀ a, R a → ¬ (g + 3 < a ∧ a < g + 7)) (q : TC h g b L n) : TC h1 g b L n := by
  intro t ht
  obtain ⟨a1, a2, a3, a4, a5⟩ := q t ht
  have e4 := x.I (a := g + 4) (fun z => c _ z (by omega)) t
  have e5 := x.I (a := g + 5) (fun z => c _ z (by omega)) t
  have e6 := x.L (a := g + 6) (fun z => c _ z (by omega)) t
  rw [e4, e5, e6]
  exact ⟨a1, a2, a3, a4, a5⟩
theorem RD_fr {R : Nat → Prop} {F : Nat → Nat → Prop} {h h1 : VG} {g P L TT s s1 : Nat} {b : Nat → Nat} (x : Fr R F h h1) (c : ∀ a, R a → g ≤ a ∧ ¬ (g + 3 < a ∧ a < g + 7)) (e : gI h1 (g + 2) 3 = nI s1) (hs : s1 ≤ TT) (q : RD h g P b L TT s) : RD h1 g P b L TT s1 := by
  obtain ⟨q1, q2, q3, q4, q5, q6, q7⟩ := q
  exact ⟨Sh_fr x (fun a z => (c a z).1) q1, (rf_kp x.1 ..).mpr q2, TC_fr x (fun a z => (c a z).2) q3, e, hs, q6, q7⟩
theorem ty_lt (b : Nat → Nat) (L t : Nat) : tyC b L t < 10 := (cTy_0 (kd_or b L t)).1
theorem rd_ty {h : VG} {g P L TT s : Nat} {b : Nat → Nat} (q : RD h g P b L TT s) : aI h (g + 4) s = nI (tyC b L s) ∧ aI h (g + 5) s = nI (tPl b L s) := by
  obtain ⟨q1, q2, q3, q4, q5, q6, q7⟩ := q
  obtain ⟨a1, a2, -⟩ := q3 s (by omega)
  exact ⟨a1, a2⟩
theorem c_isNext {h : VG} {g P L TT s y : Nat} {b : Nat → Nat} (q : RD h g P b L TT s) (hy : y < 10) : ev 67 0 [some (.ref (g + 2)), some (.int (nI y))] [] h = some (some (.int (if tyC b L s = y then 1 else 0)), h) := by
  have e := (rd_ty q).1
  obtain ⟨hs, q2, q3, q4, q5, q6, q7⟩ := q
  have v1 : vp_in (nI s) 401 := vp_in_nI (by omega) (by decide)
  have v2 : (nI s).toNatClampNeg = s := nI_clamp (by omega)
  have ty := ty_lt b L s
  have n : nI (tyC b L s) = nI y ↔ tyC b L s = y := nI_eq (by omega) (by omega)
  by_cases z : tyC b L s = y
  · have z' := n.mpr z
    rw [if_pos z]
    simp +decide only [e67_0, e67_1, e67_4, e67_7, e67_8, e67_11, e67_12, e67_13, e67_16, e67_17, e67_20, e67_21, q4, v1, v2, e, z', (Cls_11 hs.1 : ob h (g + 2) 7), (rf_g (Cls_12 hs.1 : rf h (g + 2) 1 (g + 3)) : gR h (g + 2) 1 = (g + 3)), (rf_is (Cls_12 hs.1 : rf h (g + 2) 1 (g + 3)) : isR h (g + 2) 1), (Tok_0 (Cls_13 hs.1) : ob h (g + 3) 9), (rf_g (Tok_1 (Cls_13 hs.1) : rf h (g + 3) 0 (g + 4)) : gR h (g + 3) 0 = (g + 4)), (rf_is (Tok_1 (Cls_13 hs.1) : rf h (g + 3) 0 (g + 4)) : isR h (g + 3) 0), (rf_g (Tok_2 (Cls_13 hs.1) : rf h (g + 3) 1 (g + 5)) : gR h (g + 3) 1 = (g + 5)), (rf_is (Tok_2 (Cls_13 hs.1) : rf h (g + 3) 1 (g + 5)) : isR h (g + 3) 1), (rf_g (Tok_3 (Cls_13 hs.1) : rf h (g + 3) 2 (g + 6)) : gR h (g + 3) 2 = (g + 6)), (rf_is (Tok_3 (Cls_13 hs.1) : rf h (g + 3) 2 (g + 6)) : isR h (g + 3) 2), (rf_g (Tok_4 (Cls_13 hs.1) : rf h (g + 3) 3 (g + 7)) : gR h (g + 3) 3 = (g + 7)), (rf_is (Tok_4 (Cls_13 hs.1) : rf h (g + 3) 3 (g + 7)) : isR h (g + 3) 3), (Tok_5 (Cls_13 hs.1) : arI h (g + 4) 0), (rdI_0 (Tok_5 (Cls_13 hs.1) : arI h (g + 4) 0) : rdI h (g + 4)), (Tok_6 (Cls_13 hs.1) : aln h (g + 4) = 401), (Tok_7 (Cls_13 hs.1) : arI h (g + 5) 0), (rdI_0 (Tok_7 (Cls_13 hs.1) : arI h (g + 5) 0) : rdI h (g + 5)), (Tok_8 (Cls_13 hs.1) : aln h (g + 5) = 401), (Tok_9 (Cls_13 hs.1) : arL h (g + 6)), (Tok_10 (Cls_13 hs.1) : aln h (g + 6) = 401), (Tok_11 (Cls_13 hs.1) : arL h (g + 7)), (Tok_12 (Cls_13 hs.1) : aln h (g + 7) = 14), vkk_n, vkk_i, vkk_r, vkk_l, vkk_d, catS_nil, catS_i, catS_r, catS_l, catS_d, Nat.reduceAdd, Nat.reduceLeDiff, Nat.zero_le, Nat.le_refl, Option.bind_some, Option.toList_some, Option.toList_none, List.cons_append, List.nil_append, or_true, true_or, if_true, if_false, Int32.reduceLT, Int32.reduceLE, not_true, not_false_iff, true_and, and_true, false_and, and_false]
  · have z' : ¬ nI (tyC b L s) = nI y := fun w => z (n.mp w)
    rw [if_neg z]
    simp +decide only [e67_0, e67_1, e67_4, e67_7, e67_8, e67_11, e67_12, e67_13, e67_16, e67_17, e67_20, e67_21, q4, v1, v2, e, z', (Cls_11 hs.1 : ob h (g + 2) 7), (rf_g (Cls_12 hs.1 : rf h (g + 2) 1 (g + 3)) : gR h (g + 2) 1 = (g + 3)), (rf_is (Cls_12 hs.1 : rf h (g + 2) 1 (g + 3)) : isR h (g + 2) 1), (Tok_0 (Cls_13 hs.1) : ob h (g + 3) 9), (rf_g (Tok_1 (Cls_13 hs.1) : rf h (g + 3) 0 (g + 4)) : gR h (g + 3) 0 = (g + 4)), (rf_is (Tok_1 (Cls_13 hs.1) : rf h (g + 3) 0 (g + 4)) : isR h (g + 3) 0), (rf_g (Tok_2 (Cls_13 hs.1) : rf h (g + 3) 1 (g + 5)) : gR h (g + 3) 1 = (g + 5)), (rf_is (Tok_2 (Cls_13 hs.1) : rf h (g + 3) 1 (g + 5)) : isR h (g + 3) 1), (rf_g (Tok_3 (Cls_13 hs.1) : rf h (g + 3) 2 (g + 6)) : gR h (g + 3) 2 = (g + 6)), (rf_is (Tok_3 (Cls_13 hs.1) : rf h (g + 3) 2 (g + 6)) : isR h (g + 3) 2), (rf_g (Tok_4 (Cls_13 hs.1) : rf h (g + 3) 3 (g + 7)) : gR h (g + 3) 3 = (g + 7)), (rf_is (Tok_4 (Cls_13 hs.1) : rf h (g + 3) 3 (g + 7)) : isR h (g + 3) 3), (Tok_5 (Cls_13 hs.1) : arI h (g + 4) 0), (rdI_0 (Tok_5 (Cls_13 hs.1) : arI h (g + 4) 0) : rdI h (g + 4)), (Tok_6 (Cls_13 hs.1) : aln h (g + 4) = 401), (Tok_7 (Cls_13 hs.1) : arI h (g + 5) 0), (rdI_0 (Tok_7 (Cls_13 hs.1) : arI h (g + 5) 0) : rdI h (g + 5)), (Tok_8 (Cls_13 hs.1) : aln h (g + 5) = 401), (Tok_9 (Cls_13 hs.1) : arL h (g + 6)), (Tok_10 (Cls_13 hs.1) : aln h (g + 6) = 401), (Tok_11 (Cls_13 hs.1) : arL h (g + 7)), (Tok_12 (Cls_13 hs.1) : aln h (g + 7) = 14), vkk_n, vkk_i, vkk_r, vkk_l, vkk_d, catS_nil, catS_i, catS_r, catS_l, catS_d, Nat.reduceAdd, Nat.reduceLeDiff, Nat.zero_le, Nat.le_refl, Option.bind_some, Option.toList_some, Option.toList_none, List.cons_append, List.nil_append, or_true, true_or, if_true, if_false, Int32.reduceLT, Int32.reduceLE, not_true, not_false_iff, true_and, and_true, false_and, and_false]
theorem c_stop {h : VG} {g P L TT s f : Nat} {b : Nat → Nat} (q : RD h g P b L TT s) : ∃ h1, ev 70 0 [some (.ref (g + 2)), some (.int (nI f))] [] h = some (some (.int 0), h1) ∧ Fr NR (fun a k => a = g + 2 ∧ (k = 0 ∨ k = 4 ∨ k = 5)) h h1 ∧ ST h1 g f (tPl b L s) := by
  have e := (rd_ty q).2
  obtain ⟨hs, q2, q3, q4, q5, q6, q7⟩ := q
  have v1 : vp_in (nI s) 401 := vp_in_nI (by omega) (by decide)
  have v2 : (nI s).toNatClampNeg = s := nI_clamp (by omega)
  have o7 : ob h (g + 2) 7 := Cls_11 hs.1
  refine ⟨pI (pI (pI h (g + 2) 4 (nI f)) (g + 2) 0 (nI (tPl b L s))) (g + 2) 5 1, ?_, ?_, ?_, ?_, ?_⟩
  · simp +decide only [e70_0, e70_1, e70_2, e70_5, e70_6, e70_7, e70_10, e70_13, e70_14, e70_17, e70_18, e70_21, e70_22, e70_23, e70_26, e70_27, q4, v1, v2, e, gI_pI, (Cls_11 hs.1 : ob h (g + 2) 7), (rf_g (Cls_12 hs.1 : rf h (g + 2) 1 (g + 3)) : gR h (g + 2) 1 = (g + 3)), (rf_is (Cls_12 hs.1 : rf h (g + 2) 1 (g + 3)) : isR h (g + 2) 1), (Tok_0 (Cls_13 hs.1) : ob h (g + 3) 9), (rf_g (Tok_1 (Cls_13 hs.1) : rf h (g + 3) 0 (g + 4)) : gR h (g + 3) 0 = (g + 4)), (rf_is (Tok_1 (Cls_13 hs.1) : rf h (g + 3) 0 (g + 4)) : isR h (g + 3) 0), (rf_g (Tok_2 (Cls_13 hs.1) : rf h (g + 3) 1 (g + 5)) : gR h (g + 3) 1 = (g + 5)), (rf_is (Tok_2 (Cls_13 hs.1) : rf h (g + 3) 1 (g + 5)) : isR h (g + 3) 1), (rf_g (Tok_3 (Cls_13 hs.1) : rf h (g + 3) 2 (g + 6)) : gR h (g + 3) 2 = (g + 6)), (rf_is (Tok_3 (Cls_13 hs.1) : rf h (g + 3) 2 (g + 6)) : isR h (g + 3) 2), (rf_g (Tok_4 (Cls_13 hs.1) : rf h (g + 3) 3 (g + 7)) : gR h (g + 3) 3 = (g + 7)), (rf_is (Tok_4 (Cls_13 hs.1) : rf h (g + 3) 3 (g + 7)) : isR h (g + 3) 3), (Tok_5 (Cls_13 hs.1) : arI h (g + 4) 0), (rdI_0 (Tok_5 (Cls_13 hs.1) : arI h (g + 4) 0) : rdI h (g + 4)), (Tok_6 (Cls_13 hs.1) : aln h (g + 4) = 401), (Tok_7 (Cls_13 hs.1) : arI h (g + 5) 0), (rdI_0 (Tok_7 (Cls_13 hs.1) : arI h (g + 5) 0) : rdI h (g + 5)), (Tok_8 (Cls_13 hs.1) : aln h (g + 5) = 401), (Tok_9 (Cls_13 hs.1) : arL h (g + 6)), (Tok_10 (Cls_13 hs.1) : aln h (g + 6) = 401), (Tok_11 (Cls_13 hs.1) : arL h (g + 7)), (Tok_12 (Cls_13 hs.1) : aln h (g + 7) = 14), ob_pI, rf_pI, isR_pI, isI_pI, isL_pI, arI_pI, arL_pI, arR_pI, arD_pI, aln_pI, rdI_pI, rdB_pI, rdR_pI, aR_pI, pI_2, gI_pI, gL_pI, gD_pI, gR_pI, aI_pI, aL_pI, aD_pI, ob_pL, rf_pL, isR_pL, isI_pL, isL_pL, arI_pL, arL_pL, arR_pL, arD_pL, aln_pL, rdI_pL, rdB_pL, rdR_pL, aR_pL, pL_2, gI_pL, gL_pL, gD_pL, gR_pL, aI_pL, aL_pL, aD_pL, ob_wI, rf_wI, isR_wI, isI_wI, isL_wI, arI_wI, arL_wI, arR_wI, arD_wI, aln_wI, rdI_wI, rdB_wI, rdR_wI, aR_wI, wI_2, gI_wI, gL_wI, gD_wI, gR_wI, aL_wI, aD_wI, aI_wI_ne, ob_wL, rf_wL, isR_wL, isI_wL, isL_wL, arI_wL, arL_wL, arR_wL, arD_wL, aln_wL, rdI_wL, rdB_wL, rdR_wL, aR_wL, wL_2, gI_wL, gL_wL, gD_wL, gR_wL, aI_wL, aD_wL, aL_wL_ne, ob_bI, rf_bI, isR_bI, isI_bI, isL_bI, arI_bI, arL_bI, arR_bI, arD_bI, aln_bI, rdI_bI, rdB_bI, rdR_bI, aR_bI, bI_2, gI_bI, gL_bI, gD_bI, gR_bI, aL_bI, aD_bI, aI_bI_ne, ob_bL, rf_bL, isR_bL, isI_bL, isL_bL, arI_bL, arL_bL, arR_bL, arD_bL, aln_bL, rdI_bL, rdB_bL, rdR_bL, aR_bL, bL_2, gI_bL, gL_bL, gD_bL, gR_bL, aI_bL, aD_bL, aL_bL_ne, vkk_n, vkk_i, vkk_r, vkk_l, vkk_d, catS_nil, catS_i, catS_r, catS_l, catS_d, Nat.reduceAdd, Nat.reduceLeDiff, Nat.zero_le, Nat.le_refl, Option.bind_some, Option.toList_some, Option.toList_none, List.cons_append, List.nil_append, or_true, true_or, if_true, if_false, Int32.reduceLT, Int32.reduceLE, not_true, not_false_iff, true_and, and_true, false_and, and_false, Nat.add_assoc, Nat.reduceAdd, Nat.add_left_cancel_iff, Nat.reduceEqDiff, Nat.add_eq_left, Nat.left_eq_add]
  · exact ((Fr_pI _ _ _ _ ⟨rfl, Or.inr (Or.inl rfl)⟩).tr (Fr_pI _ _ _ _ ⟨rfl, Or.inl rfl⟩)).tr (Fr_pI _ _ _ _ ⟨rfl, Or.inr (Or.inr rfl)⟩)
  · simp +decide only [gI_pI, isI_pI, (eq_true (isI_ob o7 rfl : isI h (g + 2) 4)), true_and, and_true, false_and, and_false, if_true, if_false]
  · simp +decide only [gI_pI, isI_pI, (eq_true (isI_ob o7 rfl : isI h (g + 2) 0)), true_and, and_true, false_and, and_false, if_true, if_false]
  · simp +decide only [gI_pI, isI_pI, (eq_true (isI_ob o7 rfl : isI h (g + 2) 5)), true_and, and_true, false_and, and_false, if_true, if_false]
def rP (T : Nat → Nat) (y s : Nat) : Nat × Nat := if T s = y then (if s = 400 then (2, s) else (0, s + 1)) else (1, s)
def rB (r : Nat × Nat) (f : Nat → Nat × Nat) : Nat × Nat := if r.1 = 0 then f r.2 else r
/-- a token passed, or what stands there told -/
theorem c_pass {h : VG} {g P L TT s y : Nat} {b : Nat → Nat} (q : RD h g P b L TT s) (h2 : 2 ≤ y) (hy : y < 10) : (∃ h1, rP (tyC b L) y s = (0, s + 1) ∧ tyC b L s = y ∧ ev 68 0 [some (.ref (g + 2)), some (.int (nI y))] [] h = some (some (.int 1), h1) ∧ Fr NR (fun a k => a = g + 2 ∧ k = 3) h h1 ∧ RD h1 g P b L TT (s + 1)) ∨ (∃ (h1 : VG) (f : Nat), rP (tyC b L) y s = (f, s) ∧ (f = 1 ∨ f = 2) ∧ ev 68 0 [some (.ref (g + 2)), some (.int (nI y))] [] h = some (some (.int 0), h1) ∧ Fr NR (fun a k => a = g + 2 ∧ (k = 0 ∨ k = 4 ∨ k = 5)) h h1 ∧ ST h1 g f (tPl b L s)) := by
  have nx := c_isNext q hy
  have st1 := c_stop (f := 1) q
  have st2 := c_stop (f := 2) q
  have q' := q
  obtain ⟨hs, q2, q3, q4, q5, q6, q7⟩ := q
  have o7 : ob h (g + 2) 7 := Cls_11 hs.1
  unfold rP
  by_cases z : tyC b L s = y
  · rw [if_pos z] at nx ⊢
    by_cases z4 : s = 400
    · have z4' : nI s = 400 := by rw [z4]; rfl
      obtain ⟨h1, u1, u2, u3⟩ := st2
      have u1 : ev 70 0 [some (.ref (g + 2)), some (.int 2)] [] h = some (some (.int 0), h1) := u1
      rw [if_pos z4]
      refine Or.inr ⟨h1, 2, rfl, Or.inr rfl, ?_, u2, u3⟩
      simp +decide only [e68_0, e68_1, e68_2, e68_5, e68_8, e68_9, e68_10, e68_13, e68_14, e68_15, e68_18, e68_21, e68_24, e68_25, e68_26, e68_29, e68_30, e68_31b, e68_31, e68_32, e68_35, e68_36, e68_37, e68_40, e68_41, nx, q4, z4', u1, o7, vkk_n, vkk_i, vkk_r, vkk_l, vkk_d, catS_nil, catS_i, catS_r, catS_l, catS_d, Nat.reduceAdd, Nat.reduceLeDiff, Nat.zero_le, Nat.le_refl, Option.bind_some, Option.toList_some, Option.toList_none, List.cons_append, List.nil_append, or_true, true_or, if_true, if_false, Int32.reduceLT, Int32.reduceLE, not_true, not_false_iff, true_and, and_true, false_and, and_false]
    · have z4' : ¬ nI s = 400 := fun w => z4 ((nI_eq (b := 400) (by omega) (by decide)).mp w)
      rw [if_neg z4]
      have x1 : Fr NR (fun a k => a = g + 2 ∧ k = 3) h (pI h (g + 2) 3 (nI (s + 1))) := Fr_pI _ _ _ _ ⟨rfl, rfl⟩
      have sl : s + 1 ≤ TT := by
        rcases Nat.lt_or_ge s TT with w | w
        · exact w
        · exfalso
          have e : s = TT := by omega
          rcases q7 with w1 | w1 | w1
          · omega
          · have : tyC b L s = 0 := by
              unfold tyC
              rw [e, w1]
              rfl
            omega
          · have : tyC b L s = 1 := by
              unfold tyC
              rw [e, w1]
              rfl
            omega
      have g3 : gI (pI h (g + 2) 3 (nI (s + 1))) (g + 2) 3 = nI (s + 1) := by
        simp +decide only [gI_pI, (eq_true (isI_ob o7 rfl : isI h (g + 2) 3)), true_and, and_true, if_true]
      refine Or.inl ⟨pI h (g + 2) 3 (nI (s + 1)), rfl, z, ?_, x1, RD_fr x1 (fun a z => z.elim) g3 sl q'⟩
      simp +decide only [e68_0, e68_1, e68_2, e68_5, e68_8, e68_9, e68_10, e68_13, e68_14, e68_15, e68_18, e68_21, e68_24, e68_25, e68_26, e68_29, e68_30, e68_31b, e68_31, e68_32, e68_35, e68_36, e68_37, e68_40, e68_41, nx, q4, z4', o7, nI_1, nI_add, vkk_n, vkk_i, vkk_r, vkk_l, vkk_d, catS_nil, catS_i, catS_r, catS_l, catS_d, Nat.reduceAdd, Nat.reduceLeDiff, Nat.zero_le, Nat.le_refl, Option.bind_some, Option.toList_some, Option.toList_none, List.cons_append, List.nil_append, or_true, true_or, if_true, if_false, Int32.reduceLT, Int32.reduceLE, not_true, not_false_iff, true_and, and_true, false_and, and_false]
  · rw [if_neg z] at nx ⊢
    obtain ⟨h1, u1, u2, u3⟩ := st1
    have u1 : ev 70 0 [some (.ref (g + 2)), some (.int 1)] [] h = some (some (.int 0), h1) := u1
    refine Or.inr ⟨h1, 1, rfl, Or.inl rfl, ?_, u2, u3⟩
    simp +decide only [e68_0, e68_1, e68_2, e68_5, e68_8, e68_9, e68_10, e68_13, e68_14, e68_15, e68_18, e68_21, e68_24, e68_25, e68_26, e68_29, e68_30, e68_31b, e68_31, e68_32, e68_35, e68_36, e68_37, e68_40, e68_41, nx, u1, o7, vkk_n, vkk_i, vkk_r, vkk_l, vkk_d, catS_nil, catS_i, catS_r, catS_l, catS_d, Nat.reduceAdd, Nat.reduceLeDiff, Nat.zero_le, Nat.le_refl, Option.bind_some, Option.toList_some, Option.toList_none, List.cons_append, List.nil_append, or_true, true_or, if_true, if_false, Int32.reduceLT, Int32.reduceLE, not_true, not_false_iff, true_and, and_true, false_and, and_false]
theorem ofN_32 {n : Nat} (h : n < 1073741824) : (Int64.ofNat n).toInt32 = nI n := toInt32_lN (by omega)
/-- the number, the kind of the token just passed -/
theorem c_passed {h : VG} {g P L TT s : Nat} {b : Nat → Nat} (q : RD h g P b L TT (s + 1)) : (tyC b L s = 3 → ev 69 0 [some (.ref (g + 2))] [] h = some (some (.int (nI (vC b L s))), h) ∧ vC b L s < 10000) ∧ (tyC b L s = 5 → ev 69 0 [some (.ref (g + 2))] [] h = some (some (.int (nI (kd b L s - 24))), h) ∧ 24 ≤ kd b L s ∧ kd b L s ≤ 33) := by
  obtain ⟨hs, q2, q3, q4, q5, q6, q7⟩ := q
  obtain ⟨-, -, a3, -, a5⟩ := q3 s (by omega)
  have v1 : vp_in (nI s) 401 := vp_in_nI (by omega) (by decide)
  have v2 : (nI s).toNatClampNeg = s := nI_clamp (by omega)
  have sb : nI (s + 1) - 1 = nI s := by rw [show (1 : Int32) = nI 1 from rfl, pk_sub (by omega)]; rfl
  obtain ⟨-, -, -, -, c3, -, c5, -⟩ := cTy_0 (kd_or b L s)
  refine ⟨fun z => ?_, fun z => ?_⟩
  · have k2 := c3.mp z
    have e := a5 k2
    have lt := tIv_lt b L (tPl b L s) k2
    have t32 : (Int64.ofNat (tIv b L (tPl b L s))).toInt32 = nI (tIv b L (tPl b L s)) := ofN_32 (by omega)
    refine ⟨?_, lt⟩
    unfold vC
    simp +decide only [e69_0, e69_1, e69_4, e69_7, e69_8, e69_11, e69_12, e69_13, e69_14, e69_15, q4, sb, v1, v2, e, t32, (Cls_11 hs.1 : ob h (g + 2) 7), (rf_g (Cls_12 hs.1 : rf h (g + 2) 1 (g + 3)) : gR h (g + 2) 1 = (g + 3)), (rf_is (Cls_12 hs.1 : rf h (g + 2) 1 (g + 3)) : isR h (g + 2) 1), (Tok_0 (Cls_13 hs.1) : ob h (g + 3) 9), (rf_g (Tok_1 (Cls_13 hs.1) : rf h (g + 3) 0 (g + 4)) : gR h (g + 3) 0 = (g + 4)), (rf_is (Tok_1 (Cls_13 hs.1) : rf h (g + 3) 0 (g + 4)) : isR h (g + 3) 0), (rf_g (Tok_2 (Cls_13 hs.1) : rf h (g + 3) 1 (g + 5)) : gR h (g + 3) 1 = (g + 5)), (rf_is (Tok_2 (Cls_13 hs.1) : rf h (g + 3) 1 (g + 5)) : isR h (g + 3) 1), (rf_g (Tok_3 (Cls_13 hs.1) : rf h (g + 3) 2 (g + 6)) : gR h (g + 3) 2 = (g + 6)), (rf_is (Tok_3 (Cls_13 hs.1) : rf h (g + 3) 2 (g + 6)) : isR h (g + 3) 2), (rf_g (Tok_4 (Cls_13 hs.1) : rf h (g + 3) 3 (g + 7)) : gR h (g + 3) 3 = (g + 7)), (rf_is (Tok_4 (Cls_13 hs.1) : rf h (g + 3) 3 (g + 7)) : isR h (g + 3) 3), (Tok_5 (Cls_13 hs.1) : arI h (g + 4) 0), (rdI_0 (Tok_5 (Cls_13 hs.1) : arI h (g + 4) 0) : rdI h (g + 4)), (Tok_6 (Cls_13 hs.1) : aln h (g + 4) = 401), (Tok_7 (Cls_13 hs.1) : arI h (g + 5) 0), (rdI_0 (Tok_7 (Cls_13 hs.1) : arI h (g + 5) 0) : rdI h (g + 5)), (Tok_8 (Cls_13 hs.1) : aln h (g + 5) = 401), (Tok_9 (Cls_13 hs.1) : arL h (g + 6)), (Tok_10 (Cls_13 hs.1) : aln h (g + 6) = 401), (Tok_11 (Cls_13 hs.1) : arL h (g + 7)), (Tok_12 (Cls_13 hs.1) : aln h (g + 7) = 14), vkk_n, vkk_i, vkk_r, vkk_l, vkk_d, catS_nil, catS_i, catS_r, catS_l, catS_d, Nat.reduceAdd, Nat.reduceLeDiff, Nat.zero_le, Nat.le_refl, Option.bind_some, Option.toList_some, Option.toList_none, List.cons_append, List.nil_append, or_true, true_or, if_true, if_false, Int32.reduceLT, Int32.reduceLE, not_true, not_false_iff, true_and, and_true, false_and, and_false]
  · have k2 := c5.mp z
    have ko := kd_or b L s
    have e := a3 k2
    have t32 : (Int64.ofNat (kd b L s - 24)).toInt32 = nI (kd b L s - 24) := ofN_32 (by omega)
    refine ⟨?_, k2, by omega⟩
    simp +decide only [e69_0, e69_1, e69_4, e69_7, e69_8, e69_11, e69_12, e69_13, e69_14, e69_15, q4, sb, v1, v2, e, t32, (Cls_11 hs.1 : ob h (g + 2) 7), (rf_g (Cls_12 hs.1 : rf h (g + 2) 1 (g + 3)) : gR h (g + 2) 1 = (g + 3)), (rf_is (Cls_12 hs.1 : rf h (g + 2) 1 (g + 3)) : isR h (g + 2) 1), (Tok_0 (Cls_13 hs.1) : ob h (g + 3) 9), (rf_g (Tok_1 (Cls_13 hs.1) : rf h (g + 3) 0 (g + 4)) : gR h (g + 3) 0 = (g + 4)), (rf_is (Tok_1 (Cls_13 hs.1) : rf h (g + 3) 0 (g + 4)) : isR h (g + 3) 0), (rf_g (Tok_2 (Cls_13 hs.1) : rf h (g + 3) 1 (g + 5)) : gR h (g + 3) 1 = (g + 5)), (rf_is (Tok_2 (Cls_13 hs.1) : rf h (g + 3) 1 (g + 5)) : isR h (g + 3) 1), (rf_g (Tok_3 (Cls_13 hs.1) : rf h (g + 3) 2 (g + 6)) : gR h (g + 3) 2 = (g + 6)), (rf_is (Tok_3 (Cls_13 hs.1) : rf h (g + 3) 2 (g + 6)) : isR h (g + 3) 2), (rf_g (Tok_4 (Cls_13 hs.1) : rf h (g + 3) 3 (g + 7)) : gR h (g + 3) 3 = (g + 7)), (rf_is (Tok_4 (Cls_13 hs.1) : rf h (g + 3) 3 (g + 7)) : isR h (g + 3) 3), (Tok_5 (Cls_13 hs.1) : arI h (g + 4) 0), (rdI_0 (Tok_5 (Cls_13 hs.1) : arI h (g + 4) 0) : rdI h (g + 4)), (Tok_6 (Cls_13 hs.1) : aln h (g + 4) = 401), (Tok_7 (Cls_13 hs.1) : arI h (g + 5) 0), (rdI_0 (Tok_7 (Cls_13 hs.1) : arI h (g + 5) 0) : rdI h (g + 5)), (Tok_8 (Cls_13 hs.1) : aln h (g + 5) = 401), (Tok_9 (Cls_13 hs.1) : arL h (g + 6)), (Tok_10 (Cls_13 hs.1) : aln h (g + 6) = 401), (Tok_11 (Cls_13 hs.1) : arL h (g + 7)), (Tok_12 (Cls_13 hs.1) : aln h (g + 7) = 14), vkk_n, vkk_i, vkk_r, vkk_l, vkk_d, catS_nil, catS_i, catS_r, catS_l, catS_d, Nat.reduceAdd, Nat.reduceLeDiff, Nat.zero_le, Nat.le_refl, Option.bind_some, Option.toList_some, Option.toList_none, List.cons_append, List.nil_append, or_true, true_or, if_true, if_false, Int32.reduceLT, Int32.reduceLE, not_true, not_false_iff, true_and, and_true, false_and, and_false]
theorem c_note {h : VG} {g P L TT s c : Nat} {b : Nat → Nat} {W : Nat × Nat} (q : RD h g P b L TT (s + 1)) (hw : WF h g b L W) (hc : c = 3 ∨ c = 5) : ∃ h1, ev 71 0 [some (.ref (g + 2)), some (.int (nI c))] [] h = some (none, h1) ∧ Fr NR (fun a k => a = g + 2 ∧ (k = 0 ∨ k = 4)) h h1 ∧ WF h1 g b L (wN W c s) ∧ RD h1 g P b L TT (s + 1) := by
  have q' := q
  obtain ⟨hs, q2, q3, q4, q5, q6, q7⟩ := q
  obtain ⟨-, a2, -⟩ := q3 s (by omega)
  have v1 : vp_in (nI s) 401 := vp_in_nI (by omega) (by decide)
  have v2 : (nI s).toNatClampNeg = s := nI_clamp (by omega)
  have sb : nI (s + 1) - 1 = nI s := by rw [show (1 : Int32) = nI 1 from rfl, pk_sub (by omega)]; rfl
  have o7 : ob h (g + 2) 7 := Cls_11 hs.1
  obtain ⟨w0, w1, w2, w3⟩ := hw
  unfold wN
  by_cases z : W.1 = 0
  · rw [if_pos z]
    rw [z] at w1
    have w1' : gI h (g + 2) 4 = 0 := w1
    have x1 : Fr NR (fun a k => a = g + 2 ∧ (k = 0 ∨ k = 4)) h (pI (pI h (g + 2) 4 (nI c)) (g + 2) 0 (nI (tPl b L s))) := (Fr_pI _ _ _ _ ⟨rfl, Or.inr rfl⟩).tr (Fr_pI _ _ _ _ ⟨rfl, Or.inl rfl⟩)
    refine ⟨_, ?_, x1, ⟨by show c < 6; omega, ?_, fun _ => ?_, (x1.gI (fun z => by omega)).trans w3⟩, RD_fr x1 (fun a z => z.elim) ((x1.gI (fun z => by omega)).trans q4) q5 q'⟩
    · simp +decide only [e71_0, e71_1, e71_4, e71_7, e71_8, e71_9, e71_12, e71_13, e71_14, e71_17, e71_20, e71_21, e71_24, e71_25, e71_26, e71_27, e71_30, w1', q4, sb, v1, v2, a2, gI_pI, (Cls_11 hs.1 : ob h (g + 2) 7), (rf_g (Cls_12 hs.1 : rf h (g + 2) 1 (g + 3)) : gR h (g + 2) 1 = (g + 3)), (rf_is (Cls_12 hs.1 : rf h (g + 2) 1 (g + 3)) : isR h (g + 2) 1), (Tok_0 (Cls_13 hs.1) : ob h (g + 3) 9), (rf_g (Tok_1 (Cls_13 hs.1) : rf h (g + 3) 0 (g + 4)) : gR h (g + 3) 0 = (g + 4)), (rf_is (Tok_1 (Cls_13 hs.1) : rf h (g + 3) 0 (g + 4)) : isR h (g + 3) 0), (rf_g (Tok_2 (Cls_13 hs.1) : rf h (g + 3) 1 (g + 5)) : gR h (g + 3) 1 = (g + 5)), (rf_is (Tok_2 (Cls_13 hs.1) : rf h (g + 3) 1 (g + 5)) : isR h (g + 3) 1), (rf_g (Tok_3 (Cls_13 hs.1) : rf h (g + 3) 2 (g + 6)) : gR h (g + 3) 2 = (g + 6)), (rf_is (Tok_3 (Cls_13 hs.1) : rf h (g + 3) 2 (g + 6)) : isR h (g + 3) 2), (rf_g (Tok_4 (Cls_13 hs.1) : rf h (g + 3) 3 (g + 7)) : gR h (g + 3) 3 = (g + 7)), (rf_is (Tok_4 (Cls_13 hs.1) : rf h (g + 3) 3 (g + 7)) : isR h (g + 3) 3), (Tok_5 (Cls_13 hs.1) : arI h (g + 4) 0), (rdI_0 (Tok_5 (Cls_13 hs.1) : arI h (g + 4) 0) : rdI h (g + 4)), (Tok_6 (Cls_13 hs.1) : aln h (g + 4) = 401), (Tok_7 (Cls_13 hs.1) : arI h (g + 5) 0), (rdI_0 (Tok_7 (Cls_13 hs.1) : arI h (g + 5) 0) : rdI h (g + 5)), (Tok_8 (Cls_13 hs.1) : aln h (g + 5) = 401), (Tok_9 (Cls_13 hs.1) : arL h (g + 6)), (Tok_10 (Cls_13 hs.1) : aln h (g + 6) = 401), (Tok_11 (Cls_13 hs.1) : arL h (g + 7)), (Tok_12 (Cls_13 hs.1) : aln h (g + 7) = 14), ob_pI, rf_pI, isR_pI, isI_pI, isL_pI, arI_pI, arL_pI, arR_pI, arD_pI, aln_pI, rdI_pI, rdB_pI, rdR_pI, aR_pI, pI_2, gI_pI, gL_pI, gD_pI, gR_pI, aI_pI, aL_pI, aD_pI, ob_pL, rf_pL, isR_pL, isI_pL, isL_pL, arI_pL, arL_pL, arR_pL, arD_pL, aln_pL, rdI_pL, rdB_pL, rdR_pL, aR_pL, pL_2, gI_pL, gL_pL, gD_pL, gR_pL, aI_pL, aL_pL, aD_pL, ob_wI, rf_wI, isR_wI, isI_wI, isL_wI, arI_wI, arL_wI, arR_wI, arD_wI, aln_wI, rdI_wI, rdB_wI, rdR_wI, aR_wI, wI_2, gI_wI, gL_wI, gD_wI, gR_wI, aL_wI, aD_wI, aI_wI_ne, ob_wL, rf_wL, isR_wL, isI_wL, isL_wL, arI_wL, arL_wL, arR_wL, arD_wL, aln_wL, rdI_wL, rdB_wL, rdR_wL, aR_wL, wL_2, gI_wL, gL_wL, gD_wL, gR_wL, aI_wL, aD_wL, aL_wL_ne, ob_bI, rf_bI, isR_bI, isI_bI, isL_bI, arI_bI, arL_bI, arR_bI, arD_bI, aln_bI, rdI_bI, rdB_bI, rdR_bI, aR_bI, bI_2, gI_bI, gL_bI, gD_bI, gR_bI, aL_bI, aD_bI, aI_bI_ne, ob_bL, rf_bL, isR_bL, isI_bL, isL_bL, arI_bL, arL_bL, arR_bL, arD_bL, aln_bL, rdI_bL, rdB_bL, rdR_bL, aR_bL, bL_2, gI_bL, gL_bL, gD_bL, gR_bL, aI_bL, aD_bL, aL_bL_ne, vkk_n, vkk_i, vkk_r, vkk_l, vkk_d, catS_nil, catS_i, catS_r, catS_l, catS_d, Nat.reduceAdd, Nat.reduceLeDiff, Nat.zero_le, Nat.le_refl, Option.bind_some, Option.toList_some, Option.toList_none, List.cons_append, List.nil_append, or_true, true_or, if_true, if_false, Int32.reduceLT, Int32.reduceLE, not_true, not_false_iff, true_and, and_true, false_and, and_false, Nat.add_assoc, Nat.reduceAdd, Nat.add_left_cancel_iff, Nat.reduceEqDiff, Nat.add_eq_left, Nat.left_eq_add]
    · simp +decide only [gI_pI, isI_pI, (eq_true (isI_ob o7 rfl : isI h (g + 2) 4)), true_and, and_true, false_and, and_false, if_true, if_false]
    · simp +decide only [gI_pI, isI_pI, (eq_true (isI_ob o7 rfl : isI h (g + 2) 0)), true_and, and_true, false_and, and_false, if_true, if_false]
  · rw [if_neg z]
    have w1' : ¬ gI h (g + 2) 4 = 0 := by
      rw [w1]
      exact fun y => z ((nI_eq (b := 0) (by omega) (by decide)).mp y)
    refine ⟨h, ?_, Fr.rfl _, ⟨w0, w1, w2, w3⟩, q'⟩
    simp +decide only [e71_0, e71_1, e71_4, e71_7, e71_8, e71_9, e71_12, e71_13, e71_14, e71_17, e71_20, e71_21, e71_24, e71_25, e71_26, e71_27, e71_30, w1', o7, vkk_n, vkk_i, vkk_r, vkk_l, vkk_d, catS_nil, catS_i, catS_r, catS_l, catS_d, Nat.reduceAdd, Nat.reduceLeDiff, Nat.zero_le, Nat.le_refl, Option.bind_some, Option.toList_some, Option.toList_none, List.cons_append, List.nil_append, or_true, true_or, if_true, if_false, Int32.reduceLT, Int32.reduceLE, not_true, not_false_iff, true_and, and_true, false_and, and_false]
