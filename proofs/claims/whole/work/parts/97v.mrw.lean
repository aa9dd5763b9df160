set_option maxHeartbeats 4000000 in
/-! read: the model, whole -/
def RMR (g a : Nat) : Prop := (g + 267 < a ∧ a < g + 273) ∨ (g + 277 < a ∧ a < g + 282)
def FMR (g a k : Nat) : Prop := a = g + 266 ∧ (k = 2 ∨ k = 4 ∨ (10 ≤ k ∧ k ≤ 16) ∨ (24 ≤ k ∧ k ≤ 26))
/-- a text that is stopped -/
theorem c_mreadB {h : VG} {g L N : Nat} {b : Nat → Nat} (hs : Sh h g) (hL : L ≤ 2000) (e2 : gI h (g + 266) 2 = nI L) (hb : ∀ x, x < L → b x < 256 ∧ aI h (g + 267) x = sB (b x)) (hk : ∀ j, j < 14 → aL h (g + 273) j = mKey j) (ok : OKS b L N) (t0 : ¬ tyC b L (sgS (LSt b L N)) = 0) (f0 : ¬ (rTel (tyC b L) (sgN (LSt b L N)) (sgS (LSt b L N))).1 = 0) : ∃ h1, ev 153 0 [some (.ref (g + 266)), none] [] h = some (some (.int (nI (rTel (tyC b L) (sgN (LSt b L N)) (sgS (LSt b L N))).1)), h1) ∧ Fr (RMR g) (FMR g) h h1 ∧ gI h1 (g + 266) 2 = 0 ∧ gI h1 (g + 266) 16 = nI (tPl b L (rTel (tyC b L) (sgN (LSt b L N)) (sgS (LSt b L N))).2) := by
  obtain ⟨h1, c, a1, a2, q, x, a5, a6, a7, a8, a9⟩ := c_mread0 hs hL e2 hb hk
  obtain ⟨h2, b1, b2, b3⟩ := c_mparseB (some (.int (nI L))) ok q x a8 t0 f0
  rw [a1, b1]
  have q2 := MC_fr b2 q
  have om2 : ob h2 (g + 266) 11 := Mod_0 q2.1.2.1
  generalize rTel (tyC b L) (sgN (LSt b L N)) (sgS (LSt b L N)) = X at b3 f0 ⊢
  obtain ⟨c1, c2, -, c4⟩ := b3
  have c4 := c4 f0
  have i1 : ¬ nI X.1 = 0 := fun z => f0 ((nI_eq (b := 0) (by omega) (by decide)).mp z)
  have i2 : ¬ nI X.1 ≤ 0 := fun z => f0 (by have := (nI_leI (b := 0) (by omega) (by decide)).mp z; omega)
  have x3 : Fr NR (fun a k => a = g + 266 ∧ k = 16) h2 (pI h2 (g + 266) 16 (nI (tPl b L X.2))) := Fr_pI _ _ _ _ ⟨rfl, rfl⟩
  have e16 : gI (pI h2 (g + 266) 16 (nI (tPl b L X.2))) (g + 266) 16 = nI (tPl b L X.2) := by simp +decide only [gI_pI, (eq_true (isI_ob om2 rfl : isI h2 (g + 266) 16)), true_and, and_true, if_true]
  have e12 : gI (pI h2 (g + 266) 16 (nI (tPl b L X.2))) (g + 266) 12 = nI X.1 := (x3.gI (fun z => by omega)).trans c2
  refine ⟨pI h2 (g + 266) 16 (nI (tPl b L X.2)), ?_, ((a2.mo (fun a z => by unfold RMR; omega) (fun a k z => by unfold FMR; omega)).tr (b2.mo (fun a z => z.elim) (fun a k z => by unfold FTN at z; unfold FMR; omega))).tr (x3.mo (fun a z => z.elim) (fun a k z => by unfold FMR; omega)), (x3.gI (fun z => by omega)).trans ((b2.gI (fun z => by unfold FTN at z; omega)).trans a5), e16⟩
  simp +decide only [e153_87, e153_88, e153_91, e153_94, e153_95, e153_98, e153_99, e153_100, e153_103, e153_106, e153_107, e153_110, e153_113, e153_114, e153_117, e153_120, e153_121, e153_124, e153_127, e153_128, e153_131, e153_132, e153_135, e153_138, e153_139, e153_142, om2, c2, c4, i1, i2, e12, ob_pI, vkk_n, vkk_i, vkk_r, vkk_l, vkk_d, catS_nil, catS_i, catS_r, catS_l, catS_d, Nat.reduceAdd, Nat.reduceLeDiff, Nat.zero_le, Nat.le_refl, Option.bind_some, Option.toList_some, Option.toList_none, List.cons_append, List.nil_append, or_true, true_or, if_true, if_false, Int32.reduceLT, Int32.reduceLE, not_true, not_false_iff, true_and, and_true, false_and, and_false]
theorem c_mread1 {h : VG} {g L N : Nat} {b : Nat → Nat} (hs : Sh h g) (hL : L ≤ 2000) (e2 : gI h (g + 266) 2 = nI L) (hb : ∀ x, x < L → b x < 256 ∧ aI h (g + 267) x = sB (b x)) (hk : ∀ j, j < 14 → aL h (g + 273) j = mKey j) (ok : OKS b L N) (t0 : tyC b L (sgS (LSt b L N)) = 0) : ∃ h1, ev 153 0 [some (.ref (g + 266)), none] [] h = ev 153 98 [some (.ref (g + 266)), some (.int (nI L))] [] h1 ∧ Fr (RMR g) (FMR g) h h1 ∧ gI h1 (g + 266) 2 = 0 ∧ gI h1 (g + 266) 12 = 0 ∧ Sh h1 g ∧ QS h1 g b L (LSt b L N) := by
  obtain ⟨h1, c, a1, a2, q, x, a5, a6, a7, a8, a9⟩ := c_mread0 hs hL e2 hb hk
  obtain ⟨h2, b1, b2, b3⟩ := c_mparseA (some (.int (nI L))) ok q x a8 t0
  rw [a1, b1]
  have q2 := MC_fr b2 q
  have om2 : ob h2 (g + 266) 11 := Mod_0 q2.1.2.1
  have k0 := (cTy_0 (kd_or b L (sgS (LSt b L N)))).2.1.mp t0
  have e12 : gI h2 (g + 266) 12 = 0 := b3.2.1
  have lt : sgS (LSt b L N) < c := (b3.2.2.1 rfl).2
  have ce : sgS (LSt b L N) + 1 = c := by
    by_cases z : sgS (LSt b L N) + 1 < c
    · exact absurd k0 (a9 _ z)
    · omega
  have up : ∀ x y, x < c → y < x → tPl b L y < tPl b L x := by
    intro x
    induction x with
    | zero =>
      intro y _ hy
      omega
    | succ x ih =>
      intro y hx hy
      have u := tPl_up b L x (fun z => a9 x (by omega) z)
      by_cases e : y = x
      · rw [e]
        exact u
      · have := ih y (by omega) (by omega)
        omega
  have mz : MZ h2 g b L c := ⟨q2, e12, hL, up⟩
  obtain ⟨h3, d1, d2, d3⟩ := c_mmeans mz ((b2.gI (fun z => by unfold FTN at z; omega)).trans a6) ((b2.gI (fun z => by unfold FTN at z; omega)).trans a7) ok ce k0
  refine ⟨h3, ?_, ((a2.mo (fun a z => by unfold RMR; omega) (fun a k z => by unfold FMR; omega)).tr (b2.mo (fun a z => z.elim) (fun a k z => by unfold FTN at z; unfold FMR; omega))).tr (d2.mo (fun a z => by unfold RMR; omega) (fun a k z => by unfold FTZ at z; unfold FMR; omega)), (d2.gI (fun z => by unfold FTZ at z; omega)).trans ((b2.gI (fun z => by unfold FTN at z; omega)).trans a5), (d2.gI (fun z => by unfold FTZ at z; omega)).trans e12, Sh_fr d2 (fun a z => by omega) q2.1, d3⟩
  simp +decide only [e153_87, e153_88, e153_91, e153_94, e153_95, om2, e12, d1, vkk_n, vkk_i, vkk_r, vkk_l, vkk_d, catS_nil, catS_i, catS_r, catS_l, catS_d, Nat.reduceAdd, Nat.reduceLeDiff, Nat.zero_le, Nat.le_refl, Option.bind_some, Option.toList_some, Option.toList_none, List.cons_append, List.nil_append, or_true, true_or, if_true, if_false, Int32.reduceLT, Int32.reduceLE, not_true, not_false_iff, true_and, and_true, false_and, and_false]
/-- a text with something wrong -/
theorem c_mreadW {h : VG} {g L N : Nat} {b : Nat → Nat} (hs : Sh h g) (hL : L ≤ 2000) (e2 : gI h (g + 266) 2 = nI L) (hb : ∀ x, x < L → b x < 256 ∧ aI h (g + 267) x = sB (b x)) (hk : ∀ j, j < 14 → aL h (g + 273) j = mKey j) (ok : OKS b L N) (t0 : tyC b L (sgS (LSt b L N)) = 0) (w0 : ¬ (sgW (LSt b L N)).1 = 0) : ∃ h1, ev 153 0 [some (.ref (g + 266)), none] [] h = some (some (.int (nI (sgW (LSt b L N)).1)), h1) ∧ Fr (RMR g) (FMR g) h h1 ∧ gI h1 (g + 266) 2 = 0 ∧ gI h1 (g + 266) 16 = nI (tPl b L (sgW (LSt b L N)).2) := by
  obtain ⟨h1, a1, a2, a3, a4, a5, s⟩ := c_mread1 hs hL e2 hb hk ok t0
  rw [a1]
  have om2 : ob h1 (g + 266) 11 := Mod_0 a5.2.1
  obtain ⟨c1, c2, c4⟩ := s.1
  generalize sgW (LSt b L N) = X at c1 c2 c4 w0 ⊢
  have c4 := c4 w0
  have i2 : ¬ nI X.1 ≤ 0 := fun z => w0 (by have := (nI_leI (b := 0) (by omega) (by decide)).mp z; omega)
  have i0 : (0 : Int32) ≤ 0 := by decide
  have x3 : Fr NR (fun a k => a = g + 266 ∧ k = 16) h1 (pI h1 (g + 266) 16 (nI (tPl b L X.2))) := Fr_pI _ _ _ _ ⟨rfl, rfl⟩
  have e16 : gI (pI h1 (g + 266) 16 (nI (tPl b L X.2))) (g + 266) 16 = nI (tPl b L X.2) := by simp +decide only [gI_pI, (eq_true (isI_ob om2 rfl : isI h1 (g + 266) 16)), true_and, and_true, if_true]
  have e12 : gI (pI h1 (g + 266) 16 (nI (tPl b L X.2))) (g + 266) 12 = 0 := (x3.gI (fun z => by omega)).trans a4
  have e14 : gI (pI h1 (g + 266) 16 (nI (tPl b L X.2))) (g + 266) 14 = nI X.1 := (x3.gI (fun z => by omega)).trans c2
  refine ⟨pI h1 (g + 266) 16 (nI (tPl b L X.2)), ?_, a2.tr (x3.mo (fun a z => z.elim) (fun a k z => by unfold FMR; omega)), (x3.gI (fun z => by omega)).trans a3, e16⟩
  simp +decide only [e153_98, e153_99, e153_100, e153_103, e153_106, e153_107, e153_110, e153_113, e153_114, e153_117, e153_120, e153_121, e153_124, e153_127, e153_128, e153_131, e153_132, e153_135, e153_138, e153_139, e153_142, e153_143, e153_144, e153_147, e153_150, e153_151, e153_154, e153_155, e153_156, e153_157, e153_160, e153_163, e153_164, e153_165, e153_168, e153_171, e153_172, e153_173, e153_176, e153_179, e153_180, om2, a4, c2, c4, i2, i0, e12, e14, ob_pI, vkk_n, vkk_i, vkk_r, vkk_l, vkk_d, catS_nil, catS_i, catS_r, catS_l, catS_d, Nat.reduceAdd, Nat.reduceLeDiff, Nat.zero_le, Nat.le_refl, Option.bind_some, Option.toList_some, Option.toList_none, List.cons_append, List.nil_append, or_true, true_or, if_true, if_false, Int32.reduceLT, Int32.reduceLE, not_true, not_false_iff, true_and, and_true, false_and, and_false]
def RMA (g a : Nat) : Prop := (g + 267 < a ∧ a < g + 273) ∨ (g + 273 < a ∧ a < g + 282) ∨ a = g + 285 ∨ a = g + 286 ∨ a = g + 298 ∨ a = g + 299
def FMA (g a k : Nat) : Prop := a = g + 266 ∧ (k = 2 ∨ k = 4 ∨ (10 ≤ k ∧ k ≤ 19) ∨ (24 ≤ k ∧ k ≤ 26) ∨ k = 31 ∨ k = 32 ∨ k = 57)
/-- a text that is right -/
theorem c_mreadA {h : VG} {g L N : Nat} {b : Nat → Nat} (hs : Sh h g) (hL : L ≤ 2000) (e2 : gI h (g + 266) 2 = nI L) (hb : ∀ x, x < L → b x < 256 ∧ aI h (g + 267) x = sB (b x)) (hk : ∀ j, j < 14 → aL h (g + 273) j = mKey j) (ok : OKS b L N) (t0 : tyC b L (sgS (LSt b L N)) = 0) (w0 : (sgW (LSt b L N)).1 = 0) (hB : sgB (LSt b L N) ≤ 1) : ∃ h1, ev 153 0 [some (.ref (g + 266)), none] [] h = some (some (.int 0), h1) ∧ Fr (RMA g) (FMA g) h h1 ∧ gI h1 (g + 266) 2 = 0 ∧ gI h1 (g + 266) 16 = -1 ∧ gI h1 (g + 266) 17 = nI (sgB (LSt b L N)) ∧ gI h1 (g + 266) 18 = nI (sgL (LSt b L N)) ∧ gI h1 (g + 266) 19 = nI (sgN (LSt b L N)) ∧ (∀ j, j < 256 → aI h1 (g + 277) j = nI (sgM (LSt b L N) j)) ∧ (∀ f, f < sgN (LSt b L N) → aI h1 (g + 274) f = nI (sgC (LSt b L N) f) ∧ ∀ j, j < sgC (LSt b L N) f → aI h1 (g + 275) (8 * f + j) = nI (mKk b L (sgF (LSt b L N) f + 2) j) ∧ aI h1 (g + 276) (8 * f + j) = nI (mRr b L (sgF (LSt b L N) f + 2) j)) ∧ (∀ j, j < 8 → aI h1 (g + 285) j = 11 ∧ aI h1 (g + 286) j = 0 ∧ aL h1 (g + 298) j = 0) ∧ aI h1 (g + 299) 0 = 0 ∧ aI h1 (g + 299) 1 = 0 ∧ gI h1 (g + 266) 57 = 0 ∧ gI h1 (g + 266) 31 = 0 ∧ gI h1 (g + 266) 32 = 0 := by
  have n6 := sgN_le ok N (Nat.le_refl _)
  have fp := FP_N ok N (Nat.le_refl _)
  obtain ⟨h1, a1, a2, a3, a4, a5, s⟩ := c_mread1 hs hL e2 hb hk ok t0
  rw [a1]
  have om1 : ob h1 (g + 266) 11 := Mod_0 a5.2.1
  obtain ⟨s1, s2, s3, s4, s5, s6⟩ := s
  have s4 := s4 w0
  have c2 := s1.2.1
  rw [w0] at c2
  have c2 : gI h1 (g + 266) 14 = 0 := c2
  generalize hσ : LSt b L N = σ at *
  have i0 : (0 : Int32) ≤ 0 := by decide
  have hz : gI h1 (g + 266) 24 = 0 ∨ gI h1 (g + 266) 24 = 1 := by
    rw [s3]
    rcases (by omega : sgB σ = 0 ∨ sgB σ = 1) with z | z <;> rw [z]
    · exact Or.inl rfl
    · exact Or.inr rfl
  have x1 : Fr NR (fun a k => a = g + 266 ∧ (16 ≤ k ∧ k ≤ 19)) h1 (pI (pI (pI (pI h1 (g + 266) 16 (-1)) (g + 266) 17 (nI (sgB σ))) (g + 266) 18 (nI (sgL σ))) (g + 266) 19 (nI (sgN σ))) := (((Fr_pI _ _ _ _ ⟨rfl, by omega⟩).tr (Fr_pI _ _ _ _ ⟨rfl, by omega⟩)).tr (Fr_pI _ _ _ _ ⟨rfl, by omega⟩)).tr (Fr_pI _ _ _ _ ⟨rfl, by omega⟩)
  have f16 : gI (pI (pI (pI (pI h1 (g + 266) 16 (-1)) (g + 266) 17 (nI (sgB σ))) (g + 266) 18 (nI (sgL σ))) (g + 266) 19 (nI (sgN σ))) (g + 266) 16 = -1 := by simp +decide only [gI_pI, isI_pI, (eq_true (isI_ob om1 rfl : isI h1 (g + 266) 16)), true_and, and_true, false_and, and_false, if_true, if_false]
  have f17 : gI (pI (pI (pI (pI h1 (g + 266) 16 (-1)) (g + 266) 17 (nI (sgB σ))) (g + 266) 18 (nI (sgL σ))) (g + 266) 19 (nI (sgN σ))) (g + 266) 17 = nI (sgB σ) := by simp +decide only [gI_pI, isI_pI, (eq_true (isI_ob om1 rfl : isI h1 (g + 266) 17)), true_and, and_true, false_and, and_false, if_true, if_false]
  have f18 : gI (pI (pI (pI (pI h1 (g + 266) 16 (-1)) (g + 266) 17 (nI (sgB σ))) (g + 266) 18 (nI (sgL σ))) (g + 266) 19 (nI (sgN σ))) (g + 266) 18 = nI (sgL σ) := by simp +decide only [gI_pI, isI_pI, (eq_true (isI_ob om1 rfl : isI h1 (g + 266) 18)), true_and, and_true, false_and, and_false, if_true, if_false]
  have f19 : gI (pI (pI (pI (pI h1 (g + 266) 16 (-1)) (g + 266) 17 (nI (sgB σ))) (g + 266) 18 (nI (sgL σ))) (g + 266) 19 (nI (sgN σ))) (g + 266) 19 = nI (sgN σ) := by simp +decide only [gI_pI, isI_pI, (eq_true (isI_ob om1 rfl : isI h1 (g + 266) 19)), true_and, and_true, false_and, and_false, if_true, if_false]
  have ent : ev 153 98 [some (.ref (g + 266)), some (.int (nI L))] [] h1 = ev 153 181 [some (.ref (g + 266)), some (.int 0)] [] (pI (pI (pI (pI h1 (g + 266) 16 (-1)) (g + 266) 17 (nI (sgB σ))) (g + 266) 18 (nI (sgL σ))) (g + 266) 19 (nI (sgN σ))) := by
    have hz' : nI (sgB σ) = 0 ∨ nI (sgB σ) = 1 := s3 ▸ hz
    simp +decide only [e153_98, e153_99, e153_100, e153_103, e153_106, e153_107, e153_110, e153_113, e153_114, e153_117, e153_120, e153_121, e153_124, e153_127, e153_128, e153_131, e153_132, e153_135, e153_138, e153_139, e153_142, e153_143, e153_144, e153_147, e153_150, e153_151, e153_154, e153_155, e153_156, e153_157, e153_160, e153_163, e153_164, e153_165, e153_168, e153_171, e153_172, e153_173, e153_176, e153_179, e153_180, om1, a4, c2, i0, s3, s4, s2, hz', ob_pI, gI_pI, vkk_n, vkk_i, vkk_r, vkk_l, vkk_d, catS_nil, catS_i, catS_r, catS_l, catS_d, Nat.reduceAdd, Nat.reduceLeDiff, Nat.zero_le, Nat.le_refl, Option.bind_some, Option.toList_some, Option.toList_none, List.cons_append, List.nil_append, or_true, true_or, if_true, if_false, Int32.reduceLT, Int32.reduceLE, not_true, not_false_iff, true_and, and_true, false_and, and_false, Nat.add_assoc, Nat.reduceAdd, Nat.add_left_cancel_iff, Nat.reduceEqDiff, Nat.add_eq_left, Nat.left_eq_add]
  rw [ent]
  generalize pI (pI (pI (pI h1 (g + 266) 16 (-1)) (g + 266) 17 (nI (sgB σ))) (g + 266) 18 (nI (sgL σ))) (g + 266) 19 (nI (sgN σ)) = H at x1 f16 f17 f18 f19
  have sH : Sh H g := Sh_fr x1 (fun a z => z.elim) a5
  obtain ⟨h2, b1, b2, b3, -⟩ := l_cme g (aI H (g + 278)) 6 0 H rfl sH (fun i _ => rfl)
  have b1 : ev 153 181 [some (.ref (g + 266)), some (.int 0)] [] H = _ := b1
  have S2 : Sh h2 g := Sh_fr b2 (fun a z => by omega) sH
  obtain ⟨h3, d1, d2, d3, -⟩ := l_ckc g (aI h2 (g + 279)) (aI h2 (g + 280)) 48 0 h2 rfl S2 (fun i _ => rfl) (fun i _ => rfl)
  have d1 : ev 153 207 [some (.ref (g + 266)), some (.int 0)] [] h2 = _ := d1
  have S3 : Sh h3 g := Sh_fr d2 (fun a z => by omega) S2
  obtain ⟨h4, e1, e2', e3, -⟩ := l_cmm g (aI h3 (g + 281)) 256 0 h3 rfl S3 (fun i _ => rfl)
  have e1 : ev 153 245 [some (.ref (g + 266)), some (.int 0)] [] h3 = _ := e1
  have S4 : Sh h4 g := Sh_fr e2' (fun a z => by omega) S3
  have om4 : ob h4 (g + 266) 11 := Mod_0 S4.2.1
  obtain ⟨h5, j1, j2, j3, j4, j5, j6, j7, j8⟩ := c_mnew S4
  have y2 : Fr (fun a => g + 273 < a ∧ a < g + 278) NF H h4 := ((b2.mo (fun a z => by omega) (fun a k z => z)).tr (d2.mo (fun a z => by omega) (fun a k z => z))).tr (e2'.mo (fun a z => by omega) (fun a k z => z))
  have y5 : Fr (fun a => (g + 273 < a ∧ a < g + 278) ∨ a = g + 285 ∨ a = g + 286 ∨ a = g + 298 ∨ a = g + 299) (fun a k => a = g + 266 ∧ (k = 57 ∨ k = 31 ∨ k = 32)) H h5 := (y2.mo (fun a z => by omega) (fun a k z => z.elim)).tr (j2.mo (fun a z => by omega) (fun a k z => z))
  refine ⟨h5, ?_, (a2.mo (fun a z => by unfold RMR at z; unfold RMA; omega) (fun a k z => by unfold FMR at z; unfold FMA; omega)).tr ((x1.mo (fun a z => z.elim) (fun a k z => by unfold FMA; omega)).tr (y5.mo (fun a z => by unfold RMA; omega) (fun a k z => by unfold FMA; omega))), (y5.gI (fun z => by omega)).trans ((x1.gI (fun z => by omega)).trans a3), (y5.gI (fun z => by omega)).trans f16, (y5.gI (fun z => by omega)).trans f17, (y5.gI (fun z => by omega)).trans f18, (y5.gI (fun z => by omega)).trans f19, fun j hj => ?_, fun f hf => ⟨?_, fun j hj => ⟨?_, ?_⟩⟩, j3, j4, j5, j6, j7, j8⟩
  · rw [b1]
    have t1 : ev 153 205 [some (.ref (g + 266)), some (.int 6)] [] h2 = ev 153 207 [some (.ref (g + 266)), some (.int 0)] [] h2 := by
      simp +decide only [e153_205, e153_206, vkk_n, vkk_i, vkk_r, vkk_l, vkk_d, catS_nil, catS_i, catS_r, catS_l, catS_d, Nat.reduceAdd, Nat.reduceLeDiff, Nat.zero_le, Nat.le_refl, Option.bind_some, Option.toList_some, Option.toList_none, List.cons_append, List.nil_append, or_true, true_or, if_true, if_false, Int32.reduceLT, Int32.reduceLE, not_true, not_false_iff, true_and, and_true, false_and, and_false]
    have t2 : ev 153 243 [some (.ref (g + 266)), some (.int 48)] [] h3 = ev 153 245 [some (.ref (g + 266)), some (.int 0)] [] h3 := by
      simp +decide only [e153_243, e153_244, vkk_n, vkk_i, vkk_r, vkk_l, vkk_d, catS_nil, catS_i, catS_r, catS_l, catS_d, Nat.reduceAdd, Nat.reduceLeDiff, Nat.zero_le, Nat.le_refl, Option.bind_some, Option.toList_some, Option.toList_none, List.cons_append, List.nil_append, or_true, true_or, if_true, if_false, Int32.reduceLT, Int32.reduceLE, not_true, not_false_iff, true_and, and_true, false_and, and_false]
    have b1' : ev 153 205 [some (.ref (g + 266)), some (.int (nI 6))] [] h2 = ev 153 205 [some (.ref (g + 266)), some (.int 6)] [] h2 := rfl
    rw [b1', t1, d1]
    have d1' : ev 153 243 [some (.ref (g + 266)), some (.int (nI 48))] [] h3 = ev 153 243 [some (.ref (g + 266)), some (.int 48)] [] h3 := rfl
    rw [d1', t2, e1]
    simp +decide only [e153_270, e153_271, e153_274, e153_275, om4, j1, vkk_n, vkk_i, vkk_r, vkk_l, vkk_d, catS_nil, catS_i, catS_r, catS_l, catS_d, Nat.reduceAdd, Nat.reduceLeDiff, Nat.zero_le, Nat.le_refl, Option.bind_some, Option.toList_some, Option.toList_none, List.cons_append, List.nil_append, or_true, true_or, if_true, if_false, Int32.reduceLT, Int32.reduceLE, not_true, not_false_iff, true_and, and_true, false_and, and_false]
  · rw [j2.I (fun z => by omega)]
    have a := e3 j (Nat.zero_le _) hj
    rw [a, d2.I (fun z => by omega), b2.I (fun z => by omega), x1.I (fun z => z)]
    exact s5 j hj
  · rw [j2.I (fun z => by omega), e2'.I (fun z => by omega), d2.I (fun z => by omega)]
    have a := b3 f (Nat.zero_le _) (by omega)
    rw [a, x1.I (fun z => z)]
    exact (s6 f hf).1
  · have c8 := (fp.1 f hf).2.2.2.2
    rw [j2.I (fun z => by omega), e2'.I (fun z => by omega)]
    have a := (d3 (8 * f + j) (Nat.zero_le _) (by omega)).1
    rw [a, b2.I (fun z => by omega), x1.I (fun z => z)]
    exact ((s6 f hf).2 j hj).1
  · have c8 := (fp.1 f hf).2.2.2.2
    rw [j2.I (fun z => by omega), e2'.I (fun z => by omega)]
    have a := (d3 (8 * f + j) (Nat.zero_le _) (by omega)).2
    rw [a, b2.I (fun z => by omega), x1.I (fun z => z)]
    exact ((s6 f hf).2 j hj).2 w0
