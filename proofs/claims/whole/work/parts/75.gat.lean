/-! move: bytes gathered by the class -/
def sN (z : Nat → Nat) : Nat → Nat
  | 0 => 0
  | k + 1 => sN z k + z k
/-- where the p-th byte of the buffers lies -/
def fl (b z : Nat → Nat) : Nat → Nat → Nat
  | 0, _ => 0
  | k + 1, p => if p < sN z k then fl b z k p else b k + (p - sN z k)
theorem sN_mono (z : Nat → Nat) (a : Nat) : ∀ b, a ≤ b → sN z a ≤ sN z b
  | 0, h => by
    have : a = 0 := by omega
    rw [this]
    exact Nat.le_refl _
  | b + 1, h => by
    by_cases e : a = b + 1
    · rw [e]
      exact Nat.le_refl _
    · have := sN_mono z a b (by omega)
      show _ ≤ sN z b + z b
      omega
theorem fl_low (b z : Nat → Nat) (k p : Nat) (hp : p < sN z k) : ∀ n, k ≤ n → fl b z n p = fl b z k p
  | 0, h => by
    have : k = 0 := by omega
    rw [this]
  | n + 1, h => by
    by_cases e : k = n + 1
    · rw [e]
    · have m := sN_mono z k n (by omega)
      show (if p < sN z n then fl b z n p else _) = _
      rw [if_pos (by omega)]
      exact fl_low b z k p hp n (by omega)
theorem l_gat (g n : Nat) (b z : Nat → Nat) (hn : n ≤ 8) (hz : sN z n ≤ 256) (hbz : ∀ j, j < n → z j = 0 ∨ b j + z j ≤ 256) : ∀ d k (h : VG), k + d = n → Sh h g → gI h (g + 262) 2 = nI n → (∀ j, j < n → aI h (g + 264) j = nI (z j) ∧ (z j = 0 ∨ aI h (g + 263) j = nI (b j))) → (∀ i, i < 256 → fits .byte (.int (aI h (g + 174) i)) = true) → ∃ h1, ev 24 5 [some (.ref (g + 262)), some (.ref (g + 174)), some (.ref (g + 265)), some (.int (nI (sN z k))), some (.int (nI k))] [] h = some (none, h1) ∧ Fr (fun a => a = g + 265) NF h h1 ∧ ∀ j, aI h1 (g + 265) j = if sN z k ≤ j ∧ j < sN z n then aI h (g + 174) (fl b z n j) else aI h (g + 265) j := by
  intro d
  induction d with
  | zero =>
    intro k h hk hs h2 hr hf
    obtain rfl : k = n := by omega
    have q : ¬ nI k < nI k := nI_nlt (Nat.le_refl _) (by omega)
    refine ⟨h, ?_, Fr.rfl _, fun j => (if_neg (by omega)).symm⟩
    simp +decide only [e24_5, e24_7, e24_8, e24_11, e24_60, (rf_g (Cls_7 hs.1 : rf h g 12 (g + 262)) : gR h g 12 = (g + 262)), (rf_is (Cls_7 hs.1 : rf h g 12 (g + 262)) : isR h g 12), (Cls_28 hs.1 : ob h (g + 262) 2), (eq_true (isI_ob (Cls_28 hs.1 : ob h (g + 262) 2) rfl : isI h (g + 262) 2)), (eq_true (isI_ob (Cls_28 hs.1 : ob h (g + 262) 2) rfl : isI h (g + 262) 3)), (eq_true (isI_ob (Cls_28 hs.1 : ob h (g + 262) 2) rfl : isI h (g + 262) 4)), (eq_true (isI_ob (Cls_28 hs.1 : ob h (g + 262) 2) rfl : isI h (g + 262) 5)), (rf_g (Cls_29 hs.1 : rf h (g + 262) 0 (g + 263)) : gR h (g + 262) 0 = (g + 263)), (rf_is (Cls_29 hs.1 : rf h (g + 262) 0 (g + 263)) : isR h (g + 262) 0), (rf_g (Cls_30 hs.1 : rf h (g + 262) 1 (g + 264)) : gR h (g + 262) 1 = (g + 264)), (rf_is (Cls_30 hs.1 : rf h (g + 262) 1 (g + 264)) : isR h (g + 262) 1), (Cls_31 hs.1 : arI h (g + 263) 0), (rdI_0 (Cls_31 hs.1 : arI h (g + 263) 0) : rdI h (g + 263)), (Cls_32 hs.1 : aln h (g + 263) = 8), (Cls_33 hs.1 : arI h (g + 264) 0), (rdI_0 (Cls_33 hs.1 : arI h (g + 264) 0) : rdI h (g + 264)), (Cls_34 hs.1 : aln h (g + 264) = 8), h2, q, vkk_n, vkk_i, vkk_r, vkk_l, vkk_d, catS_nil, catS_i, catS_r, catS_l, catS_d, Nat.reduceAdd, Nat.reduceLeDiff, Nat.zero_le, Nat.le_refl, Option.bind_some, Option.toList_some, Option.toList_none, List.cons_append, List.nil_append, or_true, true_or, if_true, if_false, Int32.reduceLT, Int32.reduceLE, not_true, not_false_iff, true_and, and_true, false_and, and_false]
  | succ d ih =>
    intro k h hk hs h2 hr hf
    have q : nI k < nI n := nI_lt (by omega) (by omega)
    have hv : vp_in (nI k) 8 := vp_in_nI (by omega) (by decide)
    have hc : (nI k).toNatClampNeg = k := nI_clamp (by omega)
    obtain ⟨r1, r2⟩ := hr k (by omega)
    have mo : sN z k + z k ≤ sN z n := sN_mono z (k + 1) n (by omega)
    have es : sN z (k + 1) = sN z k + z k := rfl
    by_cases z0 : z k = 0
    · obtain ⟨h1, u1, u2, u3⟩ := ih (k + 1) h (by omega) hs h2 hr hf
      rw [es, z0, Nat.add_zero] at u1 u3
      refine ⟨h1, ?_, u2, u3⟩
      rw [z0] at r1
      have q0 : nI 0 ≤ 0 := by decide
      simp +decide only [e24_5, e24_7, e24_8, e24_11, (rf_g (Cls_7 hs.1 : rf h g 12 (g + 262)) : gR h g 12 = (g + 262)), (rf_is (Cls_7 hs.1 : rf h g 12 (g + 262)) : isR h g 12), (Cls_28 hs.1 : ob h (g + 262) 2), (eq_true (isI_ob (Cls_28 hs.1 : ob h (g + 262) 2) rfl : isI h (g + 262) 2)), (eq_true (isI_ob (Cls_28 hs.1 : ob h (g + 262) 2) rfl : isI h (g + 262) 3)), (eq_true (isI_ob (Cls_28 hs.1 : ob h (g + 262) 2) rfl : isI h (g + 262) 4)), (eq_true (isI_ob (Cls_28 hs.1 : ob h (g + 262) 2) rfl : isI h (g + 262) 5)), (rf_g (Cls_29 hs.1 : rf h (g + 262) 0 (g + 263)) : gR h (g + 262) 0 = (g + 263)), (rf_is (Cls_29 hs.1 : rf h (g + 262) 0 (g + 263)) : isR h (g + 262) 0), (rf_g (Cls_30 hs.1 : rf h (g + 262) 1 (g + 264)) : gR h (g + 262) 1 = (g + 264)), (rf_is (Cls_30 hs.1 : rf h (g + 262) 1 (g + 264)) : isR h (g + 262) 1), (Cls_31 hs.1 : arI h (g + 263) 0), (rdI_0 (Cls_31 hs.1 : arI h (g + 263) 0) : rdI h (g + 263)), (Cls_32 hs.1 : aln h (g + 263) = 8), (Cls_33 hs.1 : arI h (g + 264) 0), (rdI_0 (Cls_33 hs.1 : arI h (g + 264) 0) : rdI h (g + 264)), (Cls_34 hs.1 : aln h (g + 264) = 8), h2, q, if_true, vkk_n, vkk_i, vkk_r, vkk_l, vkk_d, catS_nil, catS_i, catS_r, catS_l, catS_d, Nat.reduceAdd, Nat.reduceLeDiff, Nat.zero_le, Nat.le_refl, Option.bind_some, Option.toList_some, Option.toList_none, List.cons_append, List.nil_append, or_true, true_or, if_true, if_false, Int32.reduceLT, Int32.reduceLE, not_true, not_false_iff, true_and, and_true, false_and, and_false]
      simp +decide only [e24_14, e24_15, e24_18, e24_20, e24_21, e24_24, e24_25, e24_26, e24_29, e24_31, e24_32, e24_33, e24_34, e24_35, e24_38, e24_40, e24_41, e24_44, e24_45, e24_46, e24_49, e24_51, e24_52, e24_53, e24_54, e24_57, (rf_g (Cls_7 hs.1 : rf h g 12 (g + 262)) : gR h g 12 = (g + 262)), (rf_is (Cls_7 hs.1 : rf h g 12 (g + 262)) : isR h g 12), (Cls_28 hs.1 : ob h (g + 262) 2), (eq_true (isI_ob (Cls_28 hs.1 : ob h (g + 262) 2) rfl : isI h (g + 262) 2)), (eq_true (isI_ob (Cls_28 hs.1 : ob h (g + 262) 2) rfl : isI h (g + 262) 3)), (eq_true (isI_ob (Cls_28 hs.1 : ob h (g + 262) 2) rfl : isI h (g + 262) 4)), (eq_true (isI_ob (Cls_28 hs.1 : ob h (g + 262) 2) rfl : isI h (g + 262) 5)), (rf_g (Cls_29 hs.1 : rf h (g + 262) 0 (g + 263)) : gR h (g + 262) 0 = (g + 263)), (rf_is (Cls_29 hs.1 : rf h (g + 262) 0 (g + 263)) : isR h (g + 262) 0), (rf_g (Cls_30 hs.1 : rf h (g + 262) 1 (g + 264)) : gR h (g + 262) 1 = (g + 264)), (rf_is (Cls_30 hs.1 : rf h (g + 262) 1 (g + 264)) : isR h (g + 262) 1), (Cls_31 hs.1 : arI h (g + 263) 0), (rdI_0 (Cls_31 hs.1 : arI h (g + 263) 0) : rdI h (g + 263)), (Cls_32 hs.1 : aln h (g + 263) = 8), (Cls_33 hs.1 : arI h (g + 264) 0), (rdI_0 (Cls_33 hs.1 : arI h (g + 264) 0) : rdI h (g + 264)), (Cls_34 hs.1 : aln h (g + 264) = 8), r1, hv, hc, q0, nI_1, nI_add, if_true, if_false, vkk_n, vkk_i, vkk_r, vkk_l, vkk_d, catS_nil, catS_i, catS_r, catS_l, catS_d, Nat.reduceAdd, Nat.reduceLeDiff, Nat.zero_le, Nat.le_refl, Option.bind_some, Option.toList_some, Option.toList_none, List.cons_append, List.nil_append, or_true, true_or, if_true, if_false, Int32.reduceLT, Int32.reduceLE, not_true, not_false_iff, true_and, and_true, false_and, and_false]
      exact u1
    · have r2' := r2.resolve_left z0
      have bz := (hbz k (by omega)).resolve_left z0
      have q0 : ¬ nI (z k) ≤ 0 := Int32.not_le.mpr (nI_lt (a := 0) (by omega) (by omega))
      have cp := vcopyI (h := h) (s := g + 174) (d := g + 265) (t := 2) (a := b k) (b := sN z k) (n := z k) (Mem_2 (State_4 (Cls_17 hs.1))) (Cls_35 hs.1) (Or.inr rfl) (by rw [show aln h (g + 174) = 256 from Mem_3 (State_4 (Cls_17 hs.1))]; omega) (by rw [Cls_36 hs.1]; omega) (by omega) (by omega) (by omega) (fun _ i hi => hf _ (by omega))
      have x1 : Fr (fun a => a = g + 265) NF h (bI h (g + 265) (va_cpy (aI h (g + 174)) (aI h (g + 265)) (b k) (sN z k) (z k))) := Fr_bI _ _ _ rfl
      have c1 : ∀ j, aI (bI h (g + 265) (va_cpy (aI h (g + 174)) (aI h (g + 265)) (b k) (sN z k) (z k))) (g + 265) j = if sN z k ≤ j ∧ j < sN z k + z k then aI h (g + 174) (b k + (j - sN z k)) else aI h (g + 265) j := by
        intro j
        rw [aI_bI2 _ _ _ _ (Cls_35 hs.1)]
        rfl
      have sW := Sh_fr x1 (fun a y => by omega) hs
      have mW : ∀ i, aI (bI h (g + 265) (va_cpy (aI h (g + 174)) (aI h (g + 265)) (b k) (sN z k) (z k))) (g + 174) i = aI h (g + 174) i := fun i => x1.I (a := g + 174) (fun y => by omega) i
      have rW := x1.I (a := g + 264) (fun y => by omega) k
      have gW : gI (bI h (g + 265) (va_cpy (aI h (g + 174)) (aI h (g + 265)) (b k) (sN z k) (z k))) (g + 262) 2 = nI n := (x1.gI (fun y => y)).trans h2
      obtain ⟨h1, u1, u2, u3⟩ := ih (k + 1) _ (by omega) sW gW (fun j hj => ⟨(x1.I (a := g + 264) (fun y => by omega) j).trans (hr j hj).1, (hr j hj).2.imp id (fun y => (x1.I (a := g + 263) (fun y => by omega) j).trans y)⟩) (fun i hi => by rw [mW]; exact hf i hi)
      rw [r1] at rW
      refine ⟨h1, ?_, x1.tr u2, fun j => ?_⟩
      · simp +decide only [e24_5, e24_7, e24_8, e24_11, (rf_g (Cls_7 hs.1 : rf h g 12 (g + 262)) : gR h g 12 = (g + 262)), (rf_is (Cls_7 hs.1 : rf h g 12 (g + 262)) : isR h g 12), (Cls_28 hs.1 : ob h (g + 262) 2), (eq_true (isI_ob (Cls_28 hs.1 : ob h (g + 262) 2) rfl : isI h (g + 262) 2)), (eq_true (isI_ob (Cls_28 hs.1 : ob h (g + 262) 2) rfl : isI h (g + 262) 3)), (eq_true (isI_ob (Cls_28 hs.1 : ob h (g + 262) 2) rfl : isI h (g + 262) 4)), (eq_true (isI_ob (Cls_28 hs.1 : ob h (g + 262) 2) rfl : isI h (g + 262) 5)), (rf_g (Cls_29 hs.1 : rf h (g + 262) 0 (g + 263)) : gR h (g + 262) 0 = (g + 263)), (rf_is (Cls_29 hs.1 : rf h (g + 262) 0 (g + 263)) : isR h (g + 262) 0), (rf_g (Cls_30 hs.1 : rf h (g + 262) 1 (g + 264)) : gR h (g + 262) 1 = (g + 264)), (rf_is (Cls_30 hs.1 : rf h (g + 262) 1 (g + 264)) : isR h (g + 262) 1), (Cls_31 hs.1 : arI h (g + 263) 0), (rdI_0 (Cls_31 hs.1 : arI h (g + 263) 0) : rdI h (g + 263)), (Cls_32 hs.1 : aln h (g + 263) = 8), (Cls_33 hs.1 : arI h (g + 264) 0), (rdI_0 (Cls_33 hs.1 : arI h (g + 264) 0) : rdI h (g + 264)), (Cls_34 hs.1 : aln h (g + 264) = 8), h2, q, if_true, vkk_n, vkk_i, vkk_r, vkk_l, vkk_d, catS_nil, catS_i, catS_r, catS_l, catS_d, Nat.reduceAdd, Nat.reduceLeDiff, Nat.zero_le, Nat.le_refl, Option.bind_some, Option.toList_some, Option.toList_none, List.cons_append, List.nil_append, or_true, true_or, if_true, if_false, Int32.reduceLT, Int32.reduceLE, not_true, not_false_iff, true_and, and_true, false_and, and_false]
        simp +decide only [e24_14, e24_15, e24_18, e24_20, e24_21, e24_24, e24_25, e24_26, e24_29, e24_31, e24_32, e24_33, e24_34, e24_35, e24_38, e24_40, (rf_g (Cls_7 hs.1 : rf h g 12 (g + 262)) : gR h g 12 = (g + 262)), (rf_is (Cls_7 hs.1 : rf h g 12 (g + 262)) : isR h g 12), (Cls_28 hs.1 : ob h (g + 262) 2), (eq_true (isI_ob (Cls_28 hs.1 : ob h (g + 262) 2) rfl : isI h (g + 262) 2)), (eq_true (isI_ob (Cls_28 hs.1 : ob h (g + 262) 2) rfl : isI h (g + 262) 3)), (eq_true (isI_ob (Cls_28 hs.1 : ob h (g + 262) 2) rfl : isI h (g + 262) 4)), (eq_true (isI_ob (Cls_28 hs.1 : ob h (g + 262) 2) rfl : isI h (g + 262) 5)), (rf_g (Cls_29 hs.1 : rf h (g + 262) 0 (g + 263)) : gR h (g + 262) 0 = (g + 263)), (rf_is (Cls_29 hs.1 : rf h (g + 262) 0 (g + 263)) : isR h (g + 262) 0), (rf_g (Cls_30 hs.1 : rf h (g + 262) 1 (g + 264)) : gR h (g + 262) 1 = (g + 264)), (rf_is (Cls_30 hs.1 : rf h (g + 262) 1 (g + 264)) : isR h (g + 262) 1), (Cls_31 hs.1 : arI h (g + 263) 0), (rdI_0 (Cls_31 hs.1 : arI h (g + 263) 0) : rdI h (g + 263)), (Cls_32 hs.1 : aln h (g + 263) = 8), (Cls_33 hs.1 : arI h (g + 264) 0), (rdI_0 (Cls_33 hs.1 : arI h (g + 264) 0) : rdI h (g + 264)), (Cls_34 hs.1 : aln h (g + 264) = 8), r1, r2', hv, hc, q0, if_true, if_false, vkk_n, vkk_i, vkk_r, vkk_l, vkk_d, catS_nil, catS_i, catS_r, catS_l, catS_d, Nat.reduceAdd, Nat.reduceLeDiff, Nat.zero_le, Nat.le_refl, Option.bind_some, Option.toList_some, Option.toList_none, List.cons_append, List.nil_append, or_true, true_or, if_true, if_false, Int32.reduceLT, Int32.reduceLE, not_true, not_false_iff, true_and, and_true, false_and, and_false]
        rw [e24_41 _ _ _ _ _ _ _ _ _ (by decide) cp]
        generalize bI h (g + 265) (va_cpy (aI h (g + 174)) (aI h (g + 265)) (b k) (sN z k) (z k)) = W at sW rW u1 ⊢
        simp +decide only [e24_44, e24_45, e24_46, e24_49, e24_51, e24_52, e24_53, e24_54, e24_57, (rf_g (Cls_7 sW.1 : rf W g 12 (g + 262)) : gR W g 12 = (g + 262)), (rf_is (Cls_7 sW.1 : rf W g 12 (g + 262)) : isR W g 12), (Cls_28 sW.1 : ob W (g + 262) 2), (eq_true (isI_ob (Cls_28 sW.1 : ob W (g + 262) 2) rfl : isI W (g + 262) 2)), (eq_true (isI_ob (Cls_28 sW.1 : ob W (g + 262) 2) rfl : isI W (g + 262) 3)), (eq_true (isI_ob (Cls_28 sW.1 : ob W (g + 262) 2) rfl : isI W (g + 262) 4)), (eq_true (isI_ob (Cls_28 sW.1 : ob W (g + 262) 2) rfl : isI W (g + 262) 5)), (rf_g (Cls_29 sW.1 : rf W (g + 262) 0 (g + 263)) : gR W (g + 262) 0 = (g + 263)), (rf_is (Cls_29 sW.1 : rf W (g + 262) 0 (g + 263)) : isR W (g + 262) 0), (rf_g (Cls_30 sW.1 : rf W (g + 262) 1 (g + 264)) : gR W (g + 262) 1 = (g + 264)), (rf_is (Cls_30 sW.1 : rf W (g + 262) 1 (g + 264)) : isR W (g + 262) 1), (Cls_31 sW.1 : arI W (g + 263) 0), (rdI_0 (Cls_31 sW.1 : arI W (g + 263) 0) : rdI W (g + 263)), (Cls_32 sW.1 : aln W (g + 263) = 8), (Cls_33 sW.1 : arI W (g + 264) 0), (rdI_0 (Cls_33 sW.1 : arI W (g + 264) 0) : rdI W (g + 264)), (Cls_34 sW.1 : aln W (g + 264) = 8), rW, hv, hc, nI_1, nI_add, if_true, if_false, vkk_n, vkk_i, vkk_r, vkk_l, vkk_d, catS_nil, catS_i, catS_r, catS_l, catS_d, Nat.reduceAdd, Nat.reduceLeDiff, Nat.zero_le, Nat.le_refl, Option.bind_some, Option.toList_some, Option.toList_none, List.cons_append, List.nil_append, or_true, true_or, if_true, if_false, Int32.reduceLT, Int32.reduceLE, not_true, not_false_iff, true_and, and_true, false_and, and_false]
        exact u1
      · rw [u3 j, c1 j, mW, es]
        by_cases y : sN z k ≤ j ∧ j < sN z n
        · rw [if_pos y]
          by_cases y2 : sN z k + z k ≤ j ∧ j < sN z n
          · rw [if_pos y2]
          · rw [if_neg y2, if_pos (by omega), fl_low b z (k + 1) j (by rw [es]; omega) n (by omega)]
            show _ = aI h (g + 174) (if j < sN z k then _ else b k + (j - sN z k))
            rw [if_neg (by omega)]
        · rw [if_neg y, if_neg (by omega), if_neg (by omega)]
