/-! forms: where a cell lies, by the model -/
theorem run_lOff (w : Int32) (C : Nat → Nat) (p k : Nat) (hk : k < 10) (i : Nat) (h : ∀ x, x < i + 1 → C (p + x) = k) : lOff w C (p + i) = lOff w C p + i * nBy k w := by
  obtain ⟨b1, -, b3⟩ := mBy_ok w k hk
  have e0 : C p = k := h 0 (by omega)
  cases i with
  | zero =>
    rw [Nat.zero_mul]
    rfl
  | succ r =>
    have e := (run_lEnd w C p k hk r (fun x hx => h x (by omega))).1
    have e1 : C (p + (r + 1)) = k := h (r + 1) (by omega)
    unfold lOff
    rw [e1, e0, e, upN_id b1 (by rw [Nat.add_mod, upN_mod, Nat.mul_mod, b3]; simp)]
theorem l_first (g f m j c : Nat) (w : Int32) (K R : Nat → Nat) (h : VG) (hs : Sh h g) (hf : FM h g f m K R) (hj : j < m) : ∀ d p, p + d = j → ev 175 14 [some (.ref (g + 266)), some (.int (nI f)), some (.int (nI c)), some (.int w), some (.int (nI j)), some (.int (nI (pre R p))), some (.int (nI p))] [] h = ev 175 44 [some (.ref (g + 266)), some (.int (nI f)), some (.int (nI c)), some (.int w), some (.int (nI j)), some (.int (nI (pre R j))), some (.int (nI j))] [] h := by
  have f6 := hf.1
  have m8' := hf.2.1
  intro d
  induction d with
  | zero =>
    intro p hp
    obtain rfl : p = j := by omega
    have q : ¬ nI p < nI p := nI_nlt (Nat.le_refl _) (by omega)
    simp +decide only [e175_14, e175_16, e175_18, q, vkk_n, vkk_i, vkk_r, vkk_l, vkk_d, catS_nil, catS_i, catS_r, catS_l, catS_d, Nat.reduceAdd, Nat.reduceLeDiff, Nat.zero_le, Nat.le_refl, Option.bind_some, Option.toList_some, Option.toList_none, List.cons_append, List.nil_append, or_true, true_or, if_true, if_false, Int32.reduceLT, Int32.reduceLE, not_true, not_false_iff, true_and, and_true, false_and, and_false]
  | succ d ih =>
    intro p hp
    have q : nI p < nI j := nI_lt (by omega) (by omega)
    have hv : vp_in (nI (8 * f + p)) 48 := vp_in_nI (by omega) (by decide)
    have hc : (nI (8 * f + p)).toNatClampNeg = 8 * f + p := nI_clamp (by omega)
    have fr := (hf.2.2.2 p (by omega)).2
    have y := ih (p + 1) (by omega)
    have e : pre R (p + 1) = pre R p + R p := rfl
    rw [e] at y
    simp +decide only [e175_14, e175_16, e175_18, q, if_true]
    simp +decide only [e175_21, e175_23, e175_24, e175_27, e175_29, e175_30, e175_31, e175_33, e175_34, e175_35, e175_36, e175_38, e175_41, (Mod_0 hs.2.1 : ob h (g + 266) 11), (rf_g (Mod_22 hs.2.1 : rf h (g + 266) 20 (g + 274)) : gR h (g + 266) 20 = (g + 274)), (rf_is (Mod_22 hs.2.1 : rf h (g + 266) 20 (g + 274)) : isR h (g + 266) 20), (Mod_23 hs.2.1 : arI h (g + 274) 0), (rdI_0 (Mod_23 hs.2.1 : arI h (g + 274) 0) : rdI h (g + 274)), (Mod_24 hs.2.1 : aln h (g + 274) = 6), (rf_g (Mod_25 hs.2.1 : rf h (g + 266) 21 (g + 275)) : gR h (g + 266) 21 = (g + 275)), (rf_is (Mod_25 hs.2.1 : rf h (g + 266) 21 (g + 275)) : isR h (g + 266) 21), (Mod_26 hs.2.1 : arI h (g + 275) 0), (rdI_0 (Mod_26 hs.2.1 : arI h (g + 275) 0) : rdI h (g + 275)), (Mod_27 hs.2.1 : aln h (g + 275) = 48), (rf_g (Mod_28 hs.2.1 : rf h (g + 266) 22 (g + 276)) : gR h (g + 266) 22 = (g + 276)), (rf_is (Mod_28 hs.2.1 : rf h (g + 266) 22 (g + 276)) : isR h (g + 266) 22), (Mod_29 hs.2.1 : arI h (g + 276) 0), (rdI_0 (Mod_29 hs.2.1 : arI h (g + 276) 0) : rdI h (g + 276)), (Mod_30 hs.2.1 : aln h (g + 276) = 48), (rf_g (Mod_52 hs.2.1 : rf h (g + 266) 35 (g + 284)) : gR h (g + 266) 35 = (g + 284)), (rf_is (Mod_52 hs.2.1 : rf h (g + 266) 35 (g + 284)) : isR h (g + 266) 35), (Mod_53 hs.2.1 : arI h (g + 284) 0), (rdI_0 (Mod_53 hs.2.1 : arI h (g + 284) 0) : rdI h (g + 284)), (Mod_54 hs.2.1 : aln h (g + 284) = 8), m8, nI_add, hv, hc, fr, nI_1, vkk_n, vkk_i, vkk_r, vkk_l, vkk_d, catS_nil, catS_i, catS_r, catS_l, catS_d, Nat.reduceAdd, Nat.reduceLeDiff, Nat.zero_le, Nat.le_refl, Option.bind_some, Option.toList_some, Option.toList_none, List.cons_append, List.nil_append, or_true, true_or, if_true, if_false, Int32.reduceLT, Int32.reduceLE, not_true, not_false_iff, true_and, and_true, false_and, and_false]
    exact y
theorem c_offsetAt (g f m j i : Nat) (w : Int32) (K R C : Nat → Nat) (h : VG) (hs : Sh h g) (hb : Kb h g) (hf : FM h g f m K R) (hKR : ∀ j, j < m → K j < 10 ∧ 1 ≤ R j ∧ R j ≤ 4) (hC : ∀ j i, j < m → i < R j → C (pre R j + i) = K j) (ho : ∀ i, i < m → aI h (g + 284) i = nI (lOff w C (pre R i))) (hj : j < m) (hi : i < R j) : ev 175 0 [some (.ref (g + 266)), some (.int (nI f)), some (.int (nI (pre R j + i))), some (.int w), none, none, none] [] h = some (some (.int (nI (lOff w C (pre R j + i)))), h) := by
  have f6 := hf.1
  have m8' := hf.2.1
  have u := (c_kindAt g f m j i K R h hs hf (fun j hj => (hKR j hj).2) hj hi).2
  have y : ev 175 14 [some (.ref (g + 266)), some (.int (nI f)), some (.int (nI (pre R j + i))), some (.int w), some (.int (nI j)), some (.int 0), some (.int 0)] [] h = _ := l_first g f m j (pre R j + i) w K R h hs hf hj j 0 (by omega)
  have hv : vp_in (nI (8 * f + j)) 48 := vp_in_nI (by omega) (by decide)
  have hc : (nI (8 * f + j)).toNatClampNeg = 8 * f + j := nI_clamp (by omega)
  have hv8 : vp_in (nI j) 8 := vp_in_nI (by omega) (by decide)
  have hc8 : (nI j).toNatClampNeg = j := nI_clamp (by omega)
  have fk := (hf.2.2.2 j hj).1
  have oj := ho j hj
  have ub := c_m_bytes h g (K j) w hs hb (hKR j hj).1
  have e1 : nI (pre R j + i) - nI (pre R j) = nI i := by
    rw [pk_sub (by omega), show pre R j + i - pre R j = i by omega]
  have e2 : nI (lOff w C (pre R j)) + nI i * nI (nBy (K j) w) = nI (lOff w C (pre R j + i)) := by
    rw [pk_mul, nI_add, run_lOff w C (pre R j) (K j) (hKR j hj).1 i (fun x hx => hC j x hj (by omega))]
  simp +decide only [e175_0, e175_1, e175_2, e175_3, e175_6, e175_8, e175_9, e175_11, e175_12, (Mod_0 hs.2.1 : ob h (g + 266) 11), u, vkk_n, vkk_i, vkk_r, vkk_l, vkk_d, catS_nil, catS_i, catS_r, catS_l, catS_d, Nat.reduceAdd, Nat.reduceLeDiff, Nat.zero_le, Nat.le_refl, Option.bind_some, Option.toList_some, Option.toList_none, List.cons_append, List.nil_append, or_true, true_or, if_true, if_false, Int32.reduceLT, Int32.reduceLE, not_true, not_false_iff, true_and, and_true, false_and, and_false]
  rw [y]
  simp +decide only [e175_44, e175_45, e175_48, e175_50, e175_51, e175_52, e175_54, e175_55, e175_56, e175_57, e175_60, e175_62, e175_63, e175_64, e175_66, e175_67, e175_68, e175_69, e175_72, e175_73, e175_74, (Mod_0 hs.2.1 : ob h (g + 266) 11), (rf_g (Mod_22 hs.2.1 : rf h (g + 266) 20 (g + 274)) : gR h (g + 266) 20 = (g + 274)), (rf_is (Mod_22 hs.2.1 : rf h (g + 266) 20 (g + 274)) : isR h (g + 266) 20), (Mod_23 hs.2.1 : arI h (g + 274) 0), (rdI_0 (Mod_23 hs.2.1 : arI h (g + 274) 0) : rdI h (g + 274)), (Mod_24 hs.2.1 : aln h (g + 274) = 6), (rf_g (Mod_25 hs.2.1 : rf h (g + 266) 21 (g + 275)) : gR h (g + 266) 21 = (g + 275)), (rf_is (Mod_25 hs.2.1 : rf h (g + 266) 21 (g + 275)) : isR h (g + 266) 21), (Mod_26 hs.2.1 : arI h (g + 275) 0), (rdI_0 (Mod_26 hs.2.1 : arI h (g + 275) 0) : rdI h (g + 275)), (Mod_27 hs.2.1 : aln h (g + 275) = 48), (rf_g (Mod_28 hs.2.1 : rf h (g + 266) 22 (g + 276)) : gR h (g + 266) 22 = (g + 276)), (rf_is (Mod_28 hs.2.1 : rf h (g + 266) 22 (g + 276)) : isR h (g + 266) 22), (Mod_29 hs.2.1 : arI h (g + 276) 0), (rdI_0 (Mod_29 hs.2.1 : arI h (g + 276) 0) : rdI h (g + 276)), (Mod_30 hs.2.1 : aln h (g + 276) = 48), (rf_g (Mod_52 hs.2.1 : rf h (g + 266) 35 (g + 284)) : gR h (g + 266) 35 = (g + 284)), (rf_is (Mod_52 hs.2.1 : rf h (g + 266) 35 (g + 284)) : isR h (g + 266) 35), (Mod_53 hs.2.1 : arI h (g + 284) 0), (rdI_0 (Mod_53 hs.2.1 : arI h (g + 284) 0) : rdI h (g + 284)), (Mod_54 hs.2.1 : aln h (g + 284) = 8), m8, nI_add, hv, hc, hv8, hc8, fk, oj, e1, ub, e2, vkk_n, vkk_i, vkk_r, vkk_l, vkk_d, catS_nil, catS_i, catS_r, catS_l, catS_d, Nat.reduceAdd, Nat.reduceLeDiff, Nat.zero_le, Nat.le_refl, Option.bind_some, Option.toList_some, Option.toList_none, List.cons_append, List.nil_append, or_true, true_or, if_true, if_false, Int32.reduceLT, Int32.reduceLE, not_true, not_false_iff, true_and, and_true, false_and, and_false]
