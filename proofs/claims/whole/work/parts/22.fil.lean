/-! java.util.Arrays.fill -/
theorem bI_id (h : VG) (a : Nat) : bI h a (aI h a) = h := by
  unfold bI hset
  refine Prod.ext ?_ rfl
  funext z
  dsimp only
  by_cases hz : z = a
  · rw [if_pos hz, hz]
    unfold aI
    cases hc : h.1 a with
    | inr y => rfl
    | inl y =>
      obtain ⟨t, n, r⟩ := y
      rcases r with f | f | f | f | f <;> rfl
  · rw [if_neg hz]
theorem bL_id (h : VG) (a : Nat) : bL h a (aL h a) = h := by
  unfold bL hset
  refine Prod.ext ?_ rfl
  funext z
  dsimp only
  by_cases hz : z = a
  · rw [if_pos hz, hz]
    unfold aL
    cases hc : h.1 a with
    | inr y => rfl
    | inl y =>
      obtain ⟨t, n, r⟩ := y
      rcases r with f | f | f | f | f <;> rfl
  · rw [if_neg hz]
theorem l_fillI (a : Nat) (v : Int32) (n : Nat) (hn : n < 2147483648) : ∀ (d k : Nat) (h : VG), k + d = n → arI h a 0 → aln h a = n → ev 238 5 [some (.ref a), some (.int v), some (.int (nI k)), some (.int (nI n))] [] h = some (none, bI h a (fun j => if k ≤ j ∧ j < n then v else aI h a j)) := by
  intro d
  induction d with
  | zero =>
    intro k h hk ha hl
    have hc : ¬ nI k < nI n := by rw [nI_ltI (by omega) (by omega)]; omega
    have hf : (fun j => if k ≤ j ∧ j < n then v else aI h a j) = aI h a := by
      funext j
      rw [if_neg (by omega)]
    rw [hf, bI_id]
    simp only [e238_5, e238_6, e238_7, hc, if_false]
    simp only [e238_20]
  | succ d ih =>
    intro k h hk ha hl
    have hc : nI k < nI n := by rw [nI_ltI (by omega) (by omega)]; omega
    have hi : vp_in (nI k) (aln h a) := by rw [hl]; exact vp_in_nI (by omega) (by omega)
    have hcl : (nI k).toNatClampNeg = k := nI_clamp (by omega)
    simp only [e238_5, e238_6, e238_7, hc, if_true]
    simp only [e238_10, e238_11, e238_12, e238_13, e238_14, e238_17, ha, hi, hcl, nI_1, vkk_i, vkk_r, vkk_n, vkk_l]
    rw [ih (k + 1) (wI h a k (v)) (by omega) ((arI_wI _ _ _ _ _ _).mpr ha) ((aln_wI ..).trans hl)]
    rw [wI_b, bI_bI]
    congr 3
    funext j
    rw [aI_bI _ _ _ _ ha]
    by_cases hj : j = k
    · subst hj
      rw [if_neg (by omega), if_pos (by omega)]
      simp [upd]
    · by_cases hj2 : k + 1 ≤ j ∧ j < n
      · rw [if_pos hj2, if_pos (by omega)]
      · rw [if_neg hj2, if_neg (by omega)]
        simp [upd, hj]
theorem c_fillI (h : VG) (a : Nat) (v : Int32) (n : Nat) (hn : n < 2147483648) (ha : arI h a 0) (hl : aln h a = n) : ev 238 0 [some (.ref a), some (.int v), none, none] [] h = some (none, bI h a (fun j => if j < n then v else aI h a j)) := by
  have hx : ∃ t n f, h.1 a = .inl (t, n, f) ∧ (t < 8 ∨ t = 20 ∨ t = 21) := by
    obtain ⟨n, f, h1⟩ := ha
    exact ⟨_, _, _, h1, Or.inl (by decide)⟩
  have e0 : (0 : Int32) = nI 0 := rfl
  simp only [e238_0, e238_1, e238_2, e238_3, e238_4, hx, hl, vkk_i, vkk_r, vkk_n, vkk_l]
  have := l_fillI a v n hn n 0 h (by omega) ha hl
  simp only [Nat.zero_le, true_and] at this
  exact this
theorem l_fillB (a : Nat) (v : Int32) (n : Nat) (hn : n < 2147483648) : ∀ (d k : Nat) (h : VG), k + d = n → arI h a 2 → aln h a = n → ev 239 5 [some (.ref a), some (.int v), some (.int (nI k)), some (.int (nI n))] [] h = some (none, bI h a (fun j => if k ≤ j ∧ j < n then vp_nar .byte v else aI h a j)) := by
  intro d
  induction d with
  | zero =>
    intro k h hk ha hl
    have hc : ¬ nI k < nI n := by rw [nI_ltI (by omega) (by omega)]; omega
    have hf : (fun j => if k ≤ j ∧ j < n then vp_nar .byte v else aI h a j) = aI h a := by
      funext j
      rw [if_neg (by omega)]
    rw [hf, bI_id]
    simp only [e239_5, e239_6, e239_7, hc, if_false]
    simp only [e239_20]
  | succ d ih =>
    intro k h hk ha hl
    have hc : nI k < nI n := by rw [nI_ltI (by omega) (by omega)]; omega
    have hi : vp_in (nI k) (aln h a) := by rw [hl]; exact vp_in_nI (by omega) (by omega)
    have hcl : (nI k).toNatClampNeg = k := nI_clamp (by omega)
    simp only [e239_5, e239_6, e239_7, hc, if_true]
    simp only [e239_10, e239_11, e239_12, e239_13, e239_13z, e239_14, e239_17, ha, hi, hcl, nI_1, vkk_i, vkk_r, vkk_n, vkk_l]
    rw [ih (k + 1) (wI h a k (vp_nar .byte v)) (by omega) ((arI_wI _ _ _ _ _ _).mpr ha) ((aln_wI ..).trans hl)]
    rw [wI_b, bI_bI]
    congr 3
    funext j
    rw [aI_bI _ _ _ _ ha]
    by_cases hj : j = k
    · subst hj
      rw [if_neg (by omega), if_pos (by omega)]
      simp [upd]
    · by_cases hj2 : k + 1 ≤ j ∧ j < n
      · rw [if_pos hj2, if_pos (by omega)]
      · rw [if_neg hj2, if_neg (by omega)]
        simp [upd, hj]
theorem c_fillB (h : VG) (a : Nat) (v : Int32) (n : Nat) (hn : n < 2147483648) (ha : arI h a 2) (hl : aln h a = n) : ev 239 0 [some (.ref a), some (.int v), none, none] [] h = some (none, bI h a (fun j => if j < n then vp_nar .byte v else aI h a j)) := by
  have hx : ∃ t n f, h.1 a = .inl (t, n, f) ∧ (t < 8 ∨ t = 20 ∨ t = 21) := by
    obtain ⟨n, f, h1⟩ := ha
    exact ⟨_, _, _, h1, Or.inl (by decide)⟩
  have e0 : (0 : Int32) = nI 0 := rfl
  simp only [e239_0, e239_1, e239_2, e239_3, e239_4, hx, hl, vkk_i, vkk_r, vkk_n, vkk_l]
  have := l_fillB a v n hn n 0 h (by omega) ha hl
  simp only [Nat.zero_le, true_and] at this
  exact this
theorem l_fillJ (a : Nat) (v : Int64) (n : Nat) (hn : n < 2147483648) : ∀ (d k : Nat) (h : VG), k + d = n → arL h a → aln h a = n → ev 237 6 [some (.ref a), some (.long v), none, some (.int (nI k)), some (.int (nI n))] [] h = some (none, bL h a (fun j => if k ≤ j ∧ j < n then v else aL h a j)) := by
  intro d
  induction d with
  | zero =>
    intro k h hk ha hl
    have hc : ¬ nI k < nI n := by rw [nI_ltI (by omega) (by omega)]; omega
    have hf : (fun j => if k ≤ j ∧ j < n then v else aL h a j) = aL h a := by
      funext j
      rw [if_neg (by omega)]
    rw [hf, bL_id]
    simp only [e237_6, e237_7, e237_9, hc, if_false]
    simp only [e237_22]
  | succ d ih =>
    intro k h hk ha hl
    have hc : nI k < nI n := by rw [nI_ltI (by omega) (by omega)]; omega
    have hi : vp_in (nI k) (aln h a) := by rw [hl]; exact vp_in_nI (by omega) (by omega)
    have hcl : (nI k).toNatClampNeg = k := nI_clamp (by omega)
    simp only [e237_6, e237_7, e237_9, hc, if_true]
    simp only [e237_12, e237_13, e237_14, e237_15, e237_16, e237_19, ha, hi, hcl, nI_1, vkk_i, vkk_r, vkk_n, vkk_l]
    rw [ih (k + 1) (wL h a k (v)) (by omega) ((arL_wL _ _ _ _ _).mpr ha) ((aln_wL ..).trans hl)]
    rw [wL_b, bL_bL]
    congr 3
    funext j
    rw [aL_bL _ _ _ _ ha]
    by_cases hj : j = k
    · subst hj
      rw [if_neg (by omega), if_pos (by omega)]
      simp [vp_updL]
    · by_cases hj2 : k + 1 ≤ j ∧ j < n
      · rw [if_pos hj2, if_pos (by omega)]
      · rw [if_neg hj2, if_neg (by omega)]
        simp [vp_updL, hj]
theorem c_fillJ (h : VG) (a : Nat) (v : Int64) (n : Nat) (hn : n < 2147483648) (ha : arL h a) (hl : aln h a = n) : ev 237 0 [some (.ref a), some (.long v), none, none, none] [] h = some (none, bL h a (fun j => if j < n then v else aL h a j)) := by
  have hx : ∃ t n f, h.1 a = .inl (t, n, f) ∧ (t < 8 ∨ t = 20 ∨ t = 21) := by
    obtain ⟨n, f, h1⟩ := ha
    exact ⟨_, _, _, h1, Or.inl (by decide)⟩
  have e0 : (0 : Int32) = nI 0 := rfl
  simp only [e237_0, e237_1, e237_2, e237_3, e237_4, hx, hl, vkk_i, vkk_r, vkk_n, vkk_l]
  have := l_fillJ a v n hn n 0 h (by omega) ha hl
  simp only [Nat.zero_le, true_and] at this
  exact this
