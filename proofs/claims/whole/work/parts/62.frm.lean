/-! frame -/
theorem m4 (s : Nat) : (4 : Int32) * nI s = nI (4 * s) := by rw [show (4 : Int32) = nI 4 from rfl, pk_mul]
theorem lt36 : ∀ a, a < 36 → nI a - 36 < 0 := by decide
theorem kFit_or (v : Int64) : kFit v = 1 ∨ kFit v = 0 := by
  unfold kFit
  split
  · exact Or.inl rfl
  · exact Or.inr rfl
theorem l_fitC (g : Nat) (h : VG) (hs : Sh h g) : ∀ d i, i + d = 8 → ((∀ r, i ≤ r → r < 8 → kFit (aL h (g + 176) r) = 1) ∧ ev 130 7 [some (.ref g), some (.int (nI i)), none] [] h = ev 130 49 [some (.ref g), some (.int 8), none] [] h) ∨ ((∃ r, i ≤ r ∧ r < 8 ∧ kFit (aL h (g + 176) r) = 0) ∧ ev 130 7 [some (.ref g), some (.int (nI i)), none] [] h = some (some (.int (-1)), rfs h g 6)) := by
  intro d
  induction d with
  | zero =>
    intro i hi
    obtain rfl : i = 8 := by omega
    left
    refine ⟨fun r h1 h2 => by omega, ?_⟩
    have q : ¬ (8 : Int32) < 8 := by decide
    rw [show nI 8 = (8 : Int32) from rfl]
    simp +decide only [e130_7, e130_8, e130_10, q, vkk_n, vkk_i, vkk_r, vkk_l, vkk_d, catS_nil, catS_i, catS_r, catS_l, catS_d, Nat.reduceAdd, Nat.reduceLeDiff, Nat.zero_le, Nat.le_refl, Option.bind_some, Option.toList_some, Option.toList_none, List.cons_append, List.nil_append, or_true, true_or, if_true, if_false, Int32.reduceLT, Int32.reduceLE, not_true, not_false_iff, true_and, and_true, false_and, and_false]
  | succ d ih =>
    intro i hi
    have q : nI i < nI 8 := nI_lt (by omega) (by omega)
    have q' : nI i < 8 := q
    have hv : vp_in (nI i) 8 := vp_in_nI (by omega) (by decide)
    have hc : (nI i).toNatClampNeg = i := nI_clamp (by omega)
    rcases kFit_or (aL h (g + 176) i) with k | k
    · rcases ih (i + 1) (by omega) with ⟨u1, u2⟩ | ⟨⟨r, r1, r2, r3⟩, u2⟩
      · left
        refine ⟨fun r h1 h2 => ?_, ?_⟩
        · by_cases e : r = i
          · rw [e]; exact k
          · exact u1 r (by omega) h2
        · simp +decide only [e130_7, e130_8, e130_10, q', if_true]
          simp +decide only [e130_13, e130_14, e130_15, e130_18, e130_21, e130_22, e130_23, e130_26, e130_29, e130_30, e130_33, e130_35, e130_38, e130_41, e130_42, e130_43, e130_46, (State_0 (Cls_17 (hs.1)) : ob h (g + 172) 8), (eq_true (isI_ob (State_0 (Cls_17 (hs.1)) : ob h (g + 172) 8) rfl : isI h (g + 172) 3)), (rf_g (State_1 (Cls_17 (hs.1)) : rf h (g + 172) 0 (g + 173)) : gR h (g + 172) 0 = (g + 173)), (rf_is (State_1 (Cls_17 (hs.1)) : rf h (g + 172) 0 (g + 173)) : isR h (g + 172) 0), (rf_g (State_2 (Cls_17 (hs.1)) : rf h (g + 172) 1 (g + 175)) : gR h (g + 172) 1 = (g + 175)), (rf_is (State_2 (Cls_17 (hs.1)) : rf h (g + 172) 1 (g + 175)) : isR h (g + 172) 1), (rf_g (State_3 (Cls_17 (hs.1)) : rf h (g + 172) 2 (g + 176)) : gR h (g + 172) 2 = (g + 176)), (rf_is (State_3 (Cls_17 (hs.1)) : rf h (g + 172) 2 (g + 176)) : isR h (g + 172) 2), (State_5 (Cls_17 (hs.1)) : arR h (g + 175) 5), (rdR_5 (State_5 (Cls_17 (hs.1)) : arR h (g + 175) 5) : rdR h (g + 175)), (State_6 (Cls_17 (hs.1)) : aln h (g + 175) = 8), (State_8 (Cls_17 (hs.1)) : arL h (g + 176)), (State_9 (Cls_17 (hs.1)) : aln h (g + 176) = 8), (Mem_0 (State_4 (Cls_17 (hs.1))) : ob h (g + 173) 5), (eq_true (isI_ob (Mem_0 (State_4 (Cls_17 (hs.1))) : ob h (g + 173) 5) rfl : isI h (g + 173) 1)), (eq_true (isI_ob (Mem_0 (State_4 (Cls_17 (hs.1))) : ob h (g + 173) 5) rfl : isI h (g + 173) 2)), (rf_g (Mem_1 (State_4 (Cls_17 (hs.1))) : rf h (g + 173) 0 (g + 174)) : gR h (g + 173) 0 = (g + 174)), (rf_is (Mem_1 (State_4 (Cls_17 (hs.1))) : rf h (g + 173) 0 (g + 174)) : isR h (g + 173) 0), (Mem_2 (State_4 (Cls_17 (hs.1))) : arI h (g + 174) 2), (rdB_2 (Mem_2 (State_4 (Cls_17 (hs.1))) : arI h (g + 174) 2) : rdB h (g + 174)), (Mem_3 (State_4 (Cls_17 (hs.1))) : aln h (g + 174) = 256), (Cls_0 (hs.1) : ob h g 10), (rf_g (Cls_3 (hs.1) : rf h g 6 (g + 172)) : gR h g 6 = (g + 172)), (rf_is (Cls_3 (hs.1) : rf h g 6 (g + 172)) : isR h g 6), c_fitsInt, c_refuses, rfs, hv, hc, k, nI_add, nI_1, Nat.add_assoc, Nat.reduceAdd, Nat.add_left_cancel_iff, Nat.reduceEqDiff, Nat.add_eq_left, Nat.left_eq_add, vkk_n, vkk_i, vkk_r, vkk_l, vkk_d, catS_nil, catS_i, catS_r, catS_l, catS_d, Nat.reduceAdd, Nat.reduceLeDiff, Nat.zero_le, Nat.le_refl, Option.bind_some, Option.toList_some, Option.toList_none, List.cons_append, List.nil_append, or_true, true_or, if_true, if_false, Int32.reduceLT, Int32.reduceLE, not_true, not_false_iff, true_and, and_true, false_and, and_false]
          exact u2
      · right
        refine ⟨⟨r, by omega, r2, r3⟩, ?_⟩
        simp +decide only [e130_7, e130_8, e130_10, q', if_true]
        simp +decide only [e130_13, e130_14, e130_15, e130_18, e130_21, e130_22, e130_23, e130_26, e130_29, e130_30, e130_33, e130_35, e130_38, e130_41, e130_42, e130_43, e130_46, (State_0 (Cls_17 (hs.1)) : ob h (g + 172) 8), (eq_true (isI_ob (State_0 (Cls_17 (hs.1)) : ob h (g + 172) 8) rfl : isI h (g + 172) 3)), (rf_g (State_1 (Cls_17 (hs.1)) : rf h (g + 172) 0 (g + 173)) : gR h (g + 172) 0 = (g + 173)), (rf_is (State_1 (Cls_17 (hs.1)) : rf h (g + 172) 0 (g + 173)) : isR h (g + 172) 0), (rf_g (State_2 (Cls_17 (hs.1)) : rf h (g + 172) 1 (g + 175)) : gR h (g + 172) 1 = (g + 175)), (rf_is (State_2 (Cls_17 (hs.1)) : rf h (g + 172) 1 (g + 175)) : isR h (g + 172) 1), (rf_g (State_3 (Cls_17 (hs.1)) : rf h (g + 172) 2 (g + 176)) : gR h (g + 172) 2 = (g + 176)), (rf_is (State_3 (Cls_17 (hs.1)) : rf h (g + 172) 2 (g + 176)) : isR h (g + 172) 2), (State_5 (Cls_17 (hs.1)) : arR h (g + 175) 5), (rdR_5 (State_5 (Cls_17 (hs.1)) : arR h (g + 175) 5) : rdR h (g + 175)), (State_6 (Cls_17 (hs.1)) : aln h (g + 175) = 8), (State_8 (Cls_17 (hs.1)) : arL h (g + 176)), (State_9 (Cls_17 (hs.1)) : aln h (g + 176) = 8), (Mem_0 (State_4 (Cls_17 (hs.1))) : ob h (g + 173) 5), (eq_true (isI_ob (Mem_0 (State_4 (Cls_17 (hs.1))) : ob h (g + 173) 5) rfl : isI h (g + 173) 1)), (eq_true (isI_ob (Mem_0 (State_4 (Cls_17 (hs.1))) : ob h (g + 173) 5) rfl : isI h (g + 173) 2)), (rf_g (Mem_1 (State_4 (Cls_17 (hs.1))) : rf h (g + 173) 0 (g + 174)) : gR h (g + 173) 0 = (g + 174)), (rf_is (Mem_1 (State_4 (Cls_17 (hs.1))) : rf h (g + 173) 0 (g + 174)) : isR h (g + 173) 0), (Mem_2 (State_4 (Cls_17 (hs.1))) : arI h (g + 174) 2), (rdB_2 (Mem_2 (State_4 (Cls_17 (hs.1))) : arI h (g + 174) 2) : rdB h (g + 174)), (Mem_3 (State_4 (Cls_17 (hs.1))) : aln h (g + 174) = 256), (Cls_0 (hs.1) : ob h g 10), (rf_g (Cls_3 (hs.1) : rf h g 6 (g + 172)) : gR h g 6 = (g + 172)), (rf_is (Cls_3 (hs.1) : rf h g 6 (g + 172)) : isR h g 6), c_fitsInt, c_refuses, hv, hc, k, nI_add, nI_1, Nat.add_assoc, Nat.reduceAdd, Nat.add_left_cancel_iff, Nat.reduceEqDiff, Nat.add_eq_left, Nat.left_eq_add, vkk_n, vkk_i, vkk_r, vkk_l, vkk_d, catS_nil, catS_i, catS_r, catS_l, catS_d, Nat.reduceAdd, Nat.reduceLeDiff, Nat.zero_le, Nat.le_refl, Option.bind_some, Option.toList_some, Option.toList_none, List.cons_append, List.nil_append, or_true, true_or, if_true, if_false, Int32.reduceLT, Int32.reduceLE, not_true, not_false_iff, true_and, and_true, false_and, and_false]
        simp only [show rfs h g 0 = h from rfl]
        exact u2
    · right
      refine ⟨⟨i, Nat.le_refl _, by omega, k⟩, ?_⟩
      simp +decide only [e130_7, e130_8, e130_10, q', if_true]
      simp +decide only [e130_13, e130_14, e130_15, e130_18, e130_21, e130_22, e130_23, e130_26, e130_29, e130_30, e130_33, e130_35, e130_38, e130_41, e130_42, e130_43, e130_46, (State_0 (Cls_17 (hs.1)) : ob h (g + 172) 8), (eq_true (isI_ob (State_0 (Cls_17 (hs.1)) : ob h (g + 172) 8) rfl : isI h (g + 172) 3)), (rf_g (State_1 (Cls_17 (hs.1)) : rf h (g + 172) 0 (g + 173)) : gR h (g + 172) 0 = (g + 173)), (rf_is (State_1 (Cls_17 (hs.1)) : rf h (g + 172) 0 (g + 173)) : isR h (g + 172) 0), (rf_g (State_2 (Cls_17 (hs.1)) : rf h (g + 172) 1 (g + 175)) : gR h (g + 172) 1 = (g + 175)), (rf_is (State_2 (Cls_17 (hs.1)) : rf h (g + 172) 1 (g + 175)) : isR h (g + 172) 1), (rf_g (State_3 (Cls_17 (hs.1)) : rf h (g + 172) 2 (g + 176)) : gR h (g + 172) 2 = (g + 176)), (rf_is (State_3 (Cls_17 (hs.1)) : rf h (g + 172) 2 (g + 176)) : isR h (g + 172) 2), (State_5 (Cls_17 (hs.1)) : arR h (g + 175) 5), (rdR_5 (State_5 (Cls_17 (hs.1)) : arR h (g + 175) 5) : rdR h (g + 175)), (State_6 (Cls_17 (hs.1)) : aln h (g + 175) = 8), (State_8 (Cls_17 (hs.1)) : arL h (g + 176)), (State_9 (Cls_17 (hs.1)) : aln h (g + 176) = 8), (Mem_0 (State_4 (Cls_17 (hs.1))) : ob h (g + 173) 5), (eq_true (isI_ob (Mem_0 (State_4 (Cls_17 (hs.1))) : ob h (g + 173) 5) rfl : isI h (g + 173) 1)), (eq_true (isI_ob (Mem_0 (State_4 (Cls_17 (hs.1))) : ob h (g + 173) 5) rfl : isI h (g + 173) 2)), (rf_g (Mem_1 (State_4 (Cls_17 (hs.1))) : rf h (g + 173) 0 (g + 174)) : gR h (g + 173) 0 = (g + 174)), (rf_is (Mem_1 (State_4 (Cls_17 (hs.1))) : rf h (g + 173) 0 (g + 174)) : isR h (g + 173) 0), (Mem_2 (State_4 (Cls_17 (hs.1))) : arI h (g + 174) 2), (rdB_2 (Mem_2 (State_4 (Cls_17 (hs.1))) : arI h (g + 174) 2) : rdB h (g + 174)), (Mem_3 (State_4 (Cls_17 (hs.1))) : aln h (g + 174) = 256), (Cls_0 (hs.1) : ob h g 10), (rf_g (Cls_3 (hs.1) : rf h g 6 (g + 172)) : gR h g 6 = (g + 172)), (rf_is (Cls_3 (hs.1) : rf h g 6 (g + 172)) : isR h g 6), c_fitsInt, c_refuses, hv, hc, k, Nat.add_assoc, Nat.reduceAdd, Nat.add_left_cancel_iff, Nat.reduceEqDiff, Nat.add_eq_left, Nat.left_eq_add, vkk_n, vkk_i, vkk_r, vkk_l, vkk_d, catS_nil, catS_i, catS_r, catS_l, catS_d, Nat.reduceAdd, Nat.reduceLeDiff, Nat.zero_le, Nat.le_refl, Option.bind_some, Option.toList_some, Option.toList_none, List.cons_append, List.nil_append, or_true, true_or, if_true, if_false, Int32.reduceLT, Int32.reduceLE, not_true, not_false_iff, true_and, and_true, false_and, and_false]
theorem l_fitM (g : Nat) (h : VG) (hs : Sh h g) : ∀ d i (w : Int32), i + d = 8 → ∃ w1, ev 227 4 [some (.ref (g + 266)), some (.int w), some (.int (nI i))] [] h = ev 227 31 [some (.ref (g + 266)), some (.int w1), some (.int 8)] [] h ∧ ((∀ r, i ≤ r → r < 8 → kFit (aL h (g + 298) r) = 1) → w1 = w) ∧ ((∃ r, i ≤ r ∧ r < 8 ∧ kFit (aL h (g + 298) r) = 0) → w1 = 6) := by
  intro d
  induction d with
  | zero =>
    intro i w hi
    obtain rfl : i = 8 := by omega
    refine ⟨w, ?_, fun _ => rfl, fun ⟨r, h1, h2, _⟩ => by omega⟩
    have q : ¬ (8 : Int32) < 8 := by decide
    rw [show nI 8 = (8 : Int32) from rfl]
    simp +decide only [e227_4, e227_5, e227_7, q, vkk_n, vkk_i, vkk_r, vkk_l, vkk_d, catS_nil, catS_i, catS_r, catS_l, catS_d, Nat.reduceAdd, Nat.reduceLeDiff, Nat.zero_le, Nat.le_refl, Option.bind_some, Option.toList_some, Option.toList_none, List.cons_append, List.nil_append, or_true, true_or, if_true, if_false, Int32.reduceLT, Int32.reduceLE, not_true, not_false_iff, true_and, and_true, false_and, and_false]
  | succ d ih =>
    intro i w hi
    have q : nI i < nI 8 := nI_lt (by omega) (by omega)
    have q' : nI i < 8 := q
    have hv : vp_in (nI i) 8 := vp_in_nI (by omega) (by decide)
    have hc : (nI i).toNatClampNeg = i := nI_clamp (by omega)
    rcases kFit_or (aL h (g + 298) i) with k | k
    · obtain ⟨w1, u1, u2, u3⟩ := ih (i + 1) w (by omega)
      refine ⟨w1, ?_, fun z => u2 fun r h1 h2 => z r (by omega) h2, fun ⟨r, h1, h2, h3⟩ => ?_⟩
      · simp +decide only [e227_4, e227_5, e227_7, q', if_true]
        simp +decide only [e227_10, e227_11, e227_14, e227_15, e227_16, e227_19, e227_22, e227_24, e227_25, e227_28, (Mod_0 hs.2.1 : ob h (g + 266) 11), (rf_g (Mod_94 hs.2.1 : rf h (g + 266) 56 (g + 298)) : gR h (g + 266) 56 = (g + 298)), (rf_is (Mod_94 hs.2.1 : rf h (g + 266) 56 (g + 298)) : isR h (g + 266) 56), (Mod_95 hs.2.1 : arL h (g + 298)), (Mod_96 hs.2.1 : aln h (g + 298) = 8), c_m_isInt, hv, hc, k, nI_add, nI_1, Nat.add_assoc, Nat.reduceAdd, Nat.add_left_cancel_iff, Nat.reduceEqDiff, Nat.add_eq_left, Nat.left_eq_add, vkk_n, vkk_i, vkk_r, vkk_l, vkk_d, catS_nil, catS_i, catS_r, catS_l, catS_d, Nat.reduceAdd, Nat.reduceLeDiff, Nat.zero_le, Nat.le_refl, Option.bind_some, Option.toList_some, Option.toList_none, List.cons_append, List.nil_append, or_true, true_or, if_true, if_false, Int32.reduceLT, Int32.reduceLE, not_true, not_false_iff, true_and, and_true, false_and, and_false]
        exact u1
      · by_cases e : r = i
        · rw [e, k] at h3
          exact absurd h3 (by decide)
        · exact u3 ⟨r, by omega, h2, h3⟩
    · obtain ⟨w1, u1, u2, u3⟩ := ih (i + 1) 6 (by omega)
      refine ⟨w1, ?_, fun z => ?_, fun _ => ?_⟩
      · simp +decide only [e227_4, e227_5, e227_7, q', if_true]
        simp +decide only [e227_10, e227_11, e227_14, e227_15, e227_16, e227_19, e227_22, e227_24, e227_25, e227_28, (Mod_0 hs.2.1 : ob h (g + 266) 11), (rf_g (Mod_94 hs.2.1 : rf h (g + 266) 56 (g + 298)) : gR h (g + 266) 56 = (g + 298)), (rf_is (Mod_94 hs.2.1 : rf h (g + 266) 56 (g + 298)) : isR h (g + 266) 56), (Mod_95 hs.2.1 : arL h (g + 298)), (Mod_96 hs.2.1 : aln h (g + 298) = 8), c_m_isInt, hv, hc, k, nI_add, nI_1, Nat.add_assoc, Nat.reduceAdd, Nat.add_left_cancel_iff, Nat.reduceEqDiff, Nat.add_eq_left, Nat.left_eq_add, vkk_n, vkk_i, vkk_r, vkk_l, vkk_d, catS_nil, catS_i, catS_r, catS_l, catS_d, Nat.reduceAdd, Nat.reduceLeDiff, Nat.zero_le, Nat.le_refl, Option.bind_some, Option.toList_some, Option.toList_none, List.cons_append, List.nil_append, or_true, true_or, if_true, if_false, Int32.reduceLT, Int32.reduceLE, not_true, not_false_iff, true_and, and_true, false_and, and_false]
        exact u1
      · rw [z i (Nat.le_refl _) (by omega)] at k
        exact absurd k (by decide)
      · by_cases e : ∀ r, i + 1 ≤ r → r < 8 → kFit (aL h (g + 298) r) = 1
        · exact u2 e
        · refine u3 ?_
          apply Classical.byContradiction
          intro n
          refine e fun r h1 h2 => ?_
          rcases kFit_or (aL h (g + 298) r) with k2 | k2
          · exact k2
          · exact absurd ⟨r, h1, h2, k2⟩ n
theorem l_frameC (g k : Nat) (V : Nat → Int64) (hk : k + 36 ≤ 256) : ∀ d i (h : VG), i + d = 8 → Sh h g → (∀ r, r < 8 → aL h (g + 176) r = V r) → ∃ h1, ev 130 82 [some (.ref g), some (.int (nI k)), some (.int (nI i))] [] h = ev 130 119 [some (.ref g), some (.int (nI k)), some (.int 8)] [] h1 ∧ Fr (fun a => a = g + 174) NF h h1 ∧ ∀ j, aI h1 (g + 174) j = if k + 4 * i ≤ j ∧ j < k + 32 then cB (V ((j - k) / 4)) (bP (gI h (g + 173) 2) 4 ((j - k) % 4)) else aI h (g + 174) j := by
  intro d
  induction d with
  | zero =>
    intro i h hi hs hV
    obtain rfl : i = 8 := by omega
    refine ⟨h, ?_, Fr.rfl _, fun j => (if_neg (by omega)).symm⟩
    have q : ¬ (8 : Int32) < 8 := by decide
    rw [show nI 8 = (8 : Int32) from rfl]
    simp +decide only [e130_82, e130_83, e130_85, q, vkk_n, vkk_i, vkk_r, vkk_l, vkk_d, catS_nil, catS_i, catS_r, catS_l, catS_d, Nat.reduceAdd, Nat.reduceLeDiff, Nat.zero_le, Nat.le_refl, Option.bind_some, Option.toList_some, Option.toList_none, List.cons_append, List.nil_append, or_true, true_or, if_true, if_false, Int32.reduceLT, Int32.reduceLE, not_true, not_false_iff, true_and, and_true, false_and, and_false]
  | succ d ih =>
    intro i h hi hs hV
    have q : nI i < nI 8 := nI_lt (by omega) (by omega)
    have q' : nI i < 8 := q
    have hv : vp_in (nI i) 8 := vp_in_nI (by omega) (by decide)
    have hc : (nI i).toNatClampNeg = i := nI_clamp (by omega)
    have hm : ShMem h (g + 173) := State_4 (Cls_17 hs.1)
    have ei := hV i (by omega)
    obtain ⟨h1, u1, u2, u3⟩ := c_lay h (g + 173) (k + 4 * i) 4 (V i) hm (by decide) (by omega)
    have u1' : ev 57 0 [some (.ref (g + 173)), some (.int (nI (k + 4 * i))), some (.int 4), some (.long (V i)), none, none, none] [] h = some (none, h1) := u1
    have u2' : Fr (fun a => a = g + 174) NF h h1 := u2
    have u3' : ∀ j, aI h1 (g + 174) j = if k + 4 * i ≤ j ∧ j < k + 4 * i + 4 then cB (V i) (bP (gI h (g + 173) 2) 4 (j - (k + 4 * i))) else aI h (g + 174) j := u3
    obtain ⟨h2, v1, v2, v3⟩ := ih (i + 1) h1 (by omega) (Sh_fr u2' (fun a z => by omega) hs) (fun r hr => (u2'.L (a := g + 176) (fun z => by omega) r).trans (hV r hr))
    refine ⟨h2, ?_, u2'.tr v2, fun j => ?_⟩
    · simp +decide only [e130_82, e130_83, e130_85, q', if_true]
      simp +decide only [e130_88, e130_89, e130_92, e130_95, e130_96, e130_97, e130_98, e130_99, e130_100, e130_101, e130_102, e130_105, e130_108, e130_109, e130_110, e130_113, e130_116, (State_0 (Cls_17 (hs.1)) : ob h (g + 172) 8), (eq_true (isI_ob (State_0 (Cls_17 (hs.1)) : ob h (g + 172) 8) rfl : isI h (g + 172) 3)), (rf_g (State_1 (Cls_17 (hs.1)) : rf h (g + 172) 0 (g + 173)) : gR h (g + 172) 0 = (g + 173)), (rf_is (State_1 (Cls_17 (hs.1)) : rf h (g + 172) 0 (g + 173)) : isR h (g + 172) 0), (rf_g (State_2 (Cls_17 (hs.1)) : rf h (g + 172) 1 (g + 175)) : gR h (g + 172) 1 = (g + 175)), (rf_is (State_2 (Cls_17 (hs.1)) : rf h (g + 172) 1 (g + 175)) : isR h (g + 172) 1), (rf_g (State_3 (Cls_17 (hs.1)) : rf h (g + 172) 2 (g + 176)) : gR h (g + 172) 2 = (g + 176)), (rf_is (State_3 (Cls_17 (hs.1)) : rf h (g + 172) 2 (g + 176)) : isR h (g + 172) 2), (State_5 (Cls_17 (hs.1)) : arR h (g + 175) 5), (rdR_5 (State_5 (Cls_17 (hs.1)) : arR h (g + 175) 5) : rdR h (g + 175)), (State_6 (Cls_17 (hs.1)) : aln h (g + 175) = 8), (State_8 (Cls_17 (hs.1)) : arL h (g + 176)), (State_9 (Cls_17 (hs.1)) : aln h (g + 176) = 8), (Mem_0 (State_4 (Cls_17 (hs.1))) : ob h (g + 173) 5), (eq_true (isI_ob (Mem_0 (State_4 (Cls_17 (hs.1))) : ob h (g + 173) 5) rfl : isI h (g + 173) 1)), (eq_true (isI_ob (Mem_0 (State_4 (Cls_17 (hs.1))) : ob h (g + 173) 5) rfl : isI h (g + 173) 2)), (rf_g (Mem_1 (State_4 (Cls_17 (hs.1))) : rf h (g + 173) 0 (g + 174)) : gR h (g + 173) 0 = (g + 174)), (rf_is (Mem_1 (State_4 (Cls_17 (hs.1))) : rf h (g + 173) 0 (g + 174)) : isR h (g + 173) 0), (Mem_2 (State_4 (Cls_17 (hs.1))) : arI h (g + 174) 2), (rdB_2 (Mem_2 (State_4 (Cls_17 (hs.1))) : arI h (g + 174) 2) : rdB h (g + 174)), (Mem_3 (State_4 (Cls_17 (hs.1))) : aln h (g + 174) = 256), (Cls_0 (hs.1) : ob h g 10), (rf_g (Cls_3 (hs.1) : rf h g 6 (g + 172)) : gR h g 6 = (g + 172)), (rf_is (Cls_3 (hs.1) : rf h g 6 (g + 172)) : isR h g 6), m4, nI_add, ei, u1', hv, hc, nI_1, Nat.add_assoc, Nat.reduceAdd, Nat.add_left_cancel_iff, Nat.reduceEqDiff, Nat.add_eq_left, Nat.left_eq_add, vkk_n, vkk_i, vkk_r, vkk_l, vkk_d, catS_nil, catS_i, catS_r, catS_l, catS_d, Nat.reduceAdd, Nat.reduceLeDiff, Nat.zero_le, Nat.le_refl, Option.bind_some, Option.toList_some, Option.toList_none, List.cons_append, List.nil_append, or_true, true_or, if_true, if_false, Int32.reduceLT, Int32.reduceLE, not_true, not_false_iff, true_and, and_true, false_and, and_false]
      exact v1
    · rw [v3 j, u3' j, u2'.gI (fun z => z)]
      by_cases a : k + 4 * i ≤ j ∧ j < k + 32
      · rw [if_pos a]
        by_cases b : k + 4 * (i + 1) ≤ j ∧ j < k + 32
        · rw [if_pos b]
        · rw [if_neg b, if_pos (by omega), show (j - k) / 4 = i by omega, show (j - k) % 4 = j - (k + 4 * i) by omega]
      · rw [if_neg a, if_neg (by omega), if_neg (by omega)]
theorem l_frameM (g : Nat) (V : Nat → Int64) (w : Int32) : ∀ d i (h : VG), i + d = 8 → Sh h g → (∀ r, r < 8 → aL h (g + 298) r = V r) → ∃ h1, ev 227 62 [some (.ref (g + 266)), some (.int w), some (.int (nI i))] [] h = ev 227 88 [some (.ref (g + 266)), some (.int w), some (.int 8)] [] h1 ∧ Fr (fun x => x = g + 293 ∨ x = g + 294) NF h h1 ∧ ∀ j, (aI h1 (g + 293) j = if 4 * i ≤ j ∧ j < 32 then nI (wB (V (j / 4)) (bP (gI h (g + 266) 17) 4 (j % 4))) else aI h (g + 293) j) ∧ (aI h1 (g + 294) j = if 4 * i ≤ j ∧ j < 32 then 1 else aI h (g + 294) j) := by
  intro d
  induction d with
  | zero =>
    intro i h hi hs hV
    obtain rfl : i = 8 := by omega
    refine ⟨h, ?_, Fr.rfl _, fun j => ⟨(if_neg (by omega)).symm, (if_neg (by omega)).symm⟩⟩
    have q : ¬ (8 : Int32) < 8 := by decide
    rw [show nI 8 = (8 : Int32) from rfl]
    simp +decide only [e227_62, e227_63, e227_65, q, vkk_n, vkk_i, vkk_r, vkk_l, vkk_d, catS_nil, catS_i, catS_r, catS_l, catS_d, Nat.reduceAdd, Nat.reduceLeDiff, Nat.zero_le, Nat.le_refl, Option.bind_some, Option.toList_some, Option.toList_none, List.cons_append, List.nil_append, or_true, true_or, if_true, if_false, Int32.reduceLT, Int32.reduceLE, not_true, not_false_iff, true_and, and_true, false_and, and_false]
  | succ d ih =>
    intro i h hi hs hV
    have q : nI i < nI 8 := nI_lt (by omega) (by omega)
    have q' : nI i < 8 := q
    have hv : vp_in (nI i) 8 := vp_in_nI (by omega) (by decide)
    have hc : (nI i).toNatClampNeg = i := nI_clamp (by omega)
    have ei := hV i (by omega)
    obtain ⟨h1, u1, u2, u3⟩ := c_putsOut h g (4 * i) 4 (V i) hs (by decide) (by omega)
    have u1' : ev 206 0 [some (.ref (g + 266)), some (.int (nI (4 * i))), some (.int 4), some (.long (V i)), none, none, none] [] h = some (none, h1) := u1
    obtain ⟨h2, v1, v2, v3⟩ := ih (i + 1) h1 (by omega) (Sh_fr u2 (fun a z => by omega) hs) (fun r hr => (u2.L (a := g + 298) (fun z => by omega) r).trans (hV r hr))
    refine ⟨h2, ?_, u2.tr v2, fun j => ⟨?_, ?_⟩⟩
    · simp +decide only [e227_62, e227_63, e227_65, q', if_true]
      simp +decide only [e227_68, e227_69, e227_70, e227_71, e227_72, e227_73, e227_74, e227_77, e227_78, e227_79, e227_82, e227_85, (Mod_0 hs.2.1 : ob h (g + 266) 11), (rf_g (Mod_94 hs.2.1 : rf h (g + 266) 56 (g + 298)) : gR h (g + 266) 56 = (g + 298)), (rf_is (Mod_94 hs.2.1 : rf h (g + 266) 56 (g + 298)) : isR h (g + 266) 56), (Mod_95 hs.2.1 : arL h (g + 298)), (Mod_96 hs.2.1 : aln h (g + 298) = 8), m4, nI_add, ei, u1', hv, hc, nI_1, Nat.add_assoc, Nat.reduceAdd, Nat.add_left_cancel_iff, Nat.reduceEqDiff, Nat.add_eq_left, Nat.left_eq_add, vkk_n, vkk_i, vkk_r, vkk_l, vkk_d, catS_nil, catS_i, catS_r, catS_l, catS_d, Nat.reduceAdd, Nat.reduceLeDiff, Nat.zero_le, Nat.le_refl, Option.bind_some, Option.toList_some, Option.toList_none, List.cons_append, List.nil_append, or_true, true_or, if_true, if_false, Int32.reduceLT, Int32.reduceLE, not_true, not_false_iff, true_and, and_true, false_and, and_false]
      exact v1
    · rw [(v3 j).1, (u3 j).1, u2.gI (fun z => z)]
      by_cases a : 4 * i ≤ j ∧ j < 32
      · rw [if_pos a]
        by_cases b : 4 * (i + 1) ≤ j ∧ j < 32
        · rw [if_pos b]
        · rw [if_neg b, if_pos (by omega), show j / 4 = i by omega, show j % 4 = j - 4 * i by omega]
      · rw [if_neg a, if_neg (by omega), if_neg (by omega)]
    · rw [(v3 j).2, (u3 j).2]
      by_cases a : 4 * i ≤ j ∧ j < 32
      · rw [if_pos a]
        by_cases b : 4 * (i + 1) ≤ j ∧ j < 32
        · rw [if_pos b]
        · rw [if_neg b, if_pos (by omega)]
      · rw [if_neg a, if_neg (by omega), if_neg (by omega)]
theorem nI_ge36 {a : Nat} (ha : a ≤ 256) (h : 36 ≤ a) : ¬ nI a < 36 := by
  have := nI_nlt (b := 36) (a := a) h (by omega)
  exact this
theorem nI_lt36 {a : Nat} (h : a < 36) : nI a < 36 := by
  have := nI_lt (a := a) (b := 36) h (by omega)
  exact this
theorem k_frame (h : VG) (g : Nat) (R : Inv h g) : CalI h g 130 [some (.ref g), none, none] 227 [some (.ref (g + 266)), none, none] := by
  obtain ⟨l, fr, l1, l2, l3, e1, e2, e3, e4, e5, e6⟩ := R.hd
  have ho : ob h g 10 := Cls_0 R.cls
  have hm : ob h (g + 266) 11 := Mod_0 R.mod
  have hs := R.sh
  have s0 : Sh (cRf h g 0) g := cRf_sh hs
  have F0 := cRf_fr h g 0
  have cr : ∀ r, aL (cRf h g 0) (g + 176) r = aL h (g + 176) r := fun r => F0.L (a := g + 176) (fun z => z.elim) r
  have mr : ∀ r, r < 8 → aL h (g + 298) r = aL h (g + 176) r := fun r hr => (RRg_all R.reg hr).symm
  have t36 : (36 : Int32) * nI fr = nI (36 * fr) := by rw [show (36 : Int32) = nI 36 from rfl, pk_mul]
  have tst : nI l - nI (36 * fr) = nI (l - 36 * fr) := pk_sub l3
  have bad : ∀ f : Int32, ¬ f < 0 → ¬ f = 0 → ev 130 0 [some (.ref g), none, none] [] h = some (some (.int (-1)), cRf h g f) → (∀ h1, Sh h1 g → (∀ r, aL h1 (g + 298) r = aL h (g + 298) r) → gI h1 (g + 266) 18 = nI l → gI h1 (g + 266) 57 = nI fr → ev 227 0 [some (.ref (g + 266)), none, none] [] h1 = some (some (.int (-1)), mRf h1 (g + 266) f)) → CalI h g 130 [some (.ref g), none, none] 227 [some (.ref (g + 266)), none, none] := by
    intro f f0 f1 a1 a2
    have o3 : ob (cRf h g f) (g + 266) 11 := cRf_ob.mpr hm
    refine ⟨_, _, _, a1, a2 _ (cRf_sh hs) (fun r => (cRf_fr h g f).L (a := g + 298) (fun z => z.elim) r) (((cRf_fr h g f).gI (fun z => by unfold AC at z; omega)).trans e2) (((cRf_fr h g f).gI (fun z => by unfold AC at z; omega)).trans e4), Inv_ans (cRf_fr h g f) (mRf_fr _ _ f) (fun _ z => z.elim) (fun a k z => Or.inr z) (fun _ z => z.elim) (fun a k z => Or.inr z) (cRf_CA f ho) (mRf_MA f o3) R, (mRf_fr ..).two.trans (cRf_fr ..).two⟩
  rcases l_fitC g (cRf h g 0) s0 8 0 rfl with ⟨c1, c2⟩ | ⟨⟨r, r1, r2, r3⟩, c2⟩
  · have c2' : ev 130 7 [some (.ref g), some (.int 0), none] [] (cRf h g 0) = ev 130 49 [some (.ref g), some (.int 8), none] [] (cRf h g 0) := c2
    rw [cRf_0] at c2'
    have gl : ∀ k, gI (pI h g 9 0) (g + 173) k = gI h (g + 173) k := fun k => gI_pI_ne _ _ _ _ _ _ (fun z => by omega)
    have gf : gI (pI h g 9 0) (g + 172) 3 = nI fr := (gI_pI_ne _ _ _ _ _ _ (fun z => by omega)).trans e3
    have sp : Sh (pI h g 9 0) g := by rw [← cRf_0]; exact s0
    by_cases q : 36 ≤ l - 36 * fr
    · sorry
    · refine bad 5 (by decide) (by decide) ?_ ?_
      · have lo := lt36 _ (Nat.lt_of_not_le q)
        have mm : memRef (nI l) (nI (l - 36 * fr) - 36).toInt64 36 = 5 := by
          rcases there_ok l2 (show 36 < 1073741824 by decide) (nI (l - 36 * fr) - 36) with ⟨q1, q2, q3⟩ | ⟨q1, q2⟩
          · rcases q3 with q3 | ⟨k, q3, q4⟩
            · exact absurd q3 (by decide)
            · rw [q3] at lo
              exact absurd lo (nI_nlt (b := 0) (a := k) (Nat.zero_le _) (by omega))
          · exact q1
        have a5 : rfs (pI h g 9 0) g 5 = cRf h g 5 := rfs_0 h g 5 ho
        simp +decide only [e130_0, e130_1, e130_2, e130_5, e130_6, ho, c2', vkk_n, vkk_i, vkk_r, vkk_l, vkk_d, catS_nil, catS_i, catS_r, catS_l, catS_d, Nat.reduceAdd, Nat.reduceLeDiff, Nat.zero_le, Nat.le_refl, Option.bind_some, Option.toList_some, Option.toList_none, List.cons_append, List.nil_append, or_true, true_or, if_true, if_false, Int32.reduceLT, Int32.reduceLE, not_true, not_false_iff, true_and, and_true, false_and, and_false]
        generalize pI h g 9 0 = hp at gl gf sp a5 ⊢
        simp +decide only [e130_49, e130_50, e130_53, e130_55, e130_56, e130_57, e130_58, e130_59, e130_62, e130_65, e130_66, e130_67, e130_69, e130_72, e130_75, e130_78, e130_79, (State_0 (Cls_17 sp.1) : ob hp (g + 172) 8), (eq_true (isI_ob (State_0 (Cls_17 sp.1) : ob hp (g + 172) 8) rfl : isI hp (g + 172) 3)), (rf_g (State_1 (Cls_17 sp.1) : rf hp (g + 172) 0 (g + 173)) : gR hp (g + 172) 0 = (g + 173)), (rf_is (State_1 (Cls_17 sp.1) : rf hp (g + 172) 0 (g + 173)) : isR hp (g + 172) 0), (rf_g (State_2 (Cls_17 sp.1) : rf hp (g + 172) 1 (g + 175)) : gR hp (g + 172) 1 = (g + 175)), (rf_is (State_2 (Cls_17 sp.1) : rf hp (g + 172) 1 (g + 175)) : isR hp (g + 172) 1), (rf_g (State_3 (Cls_17 sp.1) : rf hp (g + 172) 2 (g + 176)) : gR hp (g + 172) 2 = (g + 176)), (rf_is (State_3 (Cls_17 sp.1) : rf hp (g + 172) 2 (g + 176)) : isR hp (g + 172) 2), (State_5 (Cls_17 sp.1) : arR hp (g + 175) 5), (rdR_5 (State_5 (Cls_17 sp.1) : arR hp (g + 175) 5) : rdR hp (g + 175)), (State_6 (Cls_17 sp.1) : aln hp (g + 175) = 8), (State_8 (Cls_17 sp.1) : arL hp (g + 176)), (State_9 (Cls_17 sp.1) : aln hp (g + 176) = 8), (Mem_0 (State_4 (Cls_17 sp.1)) : ob hp (g + 173) 5), (eq_true (isI_ob (Mem_0 (State_4 (Cls_17 sp.1)) : ob hp (g + 173) 5) rfl : isI hp (g + 173) 1)), (eq_true (isI_ob (Mem_0 (State_4 (Cls_17 sp.1)) : ob hp (g + 173) 5) rfl : isI hp (g + 173) 2)), (rf_g (Mem_1 (State_4 (Cls_17 sp.1)) : rf hp (g + 173) 0 (g + 174)) : gR hp (g + 173) 0 = (g + 174)), (rf_is (Mem_1 (State_4 (Cls_17 sp.1)) : rf hp (g + 173) 0 (g + 174)) : isR hp (g + 173) 0), (Mem_2 (State_4 (Cls_17 sp.1)) : arI hp (g + 174) 2), (rdB_2 (Mem_2 (State_4 (Cls_17 sp.1)) : arI hp (g + 174) 2) : rdB hp (g + 174)), (Mem_3 (State_4 (Cls_17 sp.1)) : aln hp (g + 174) = 256), (Cls_0 sp.1 : ob hp g 10), (rf_g (Cls_3 sp.1 : rf hp g 6 (g + 172)) : gR hp g 6 = (g + 172)), (rf_is (Cls_3 sp.1 : rf hp g 6 (g + 172)) : isR hp g 6), c_stackAddress _ _ sp, gl, gf, e1, t36, tst, mm, c_refusalOf, c_refuses, a5, vkk_n, vkk_i, vkk_r, vkk_l, vkk_d, catS_nil, catS_i, catS_r, catS_l, catS_d, Nat.reduceAdd, Nat.reduceLeDiff, Nat.zero_le, Nat.le_refl, Option.bind_some, Option.toList_some, Option.toList_none, List.cons_append, List.nil_append, or_true, true_or, if_true, if_false, Int32.reduceLT, Int32.reduceLE, not_true, not_false_iff, true_and, and_true, false_and, and_false]
      · intro h1 sh hr g18 g57
        obtain ⟨w1, u1, u2, u3⟩ := l_fitM g h1 sh 8 0 0 rfl
        have u1' : ev 227 4 [some (.ref (g + 266)), some (.int 0), some (.int 0)] [] h1 = ev 227 31 [some (.ref (g + 266)), some (.int w1), some (.int 8)] [] h1 := u1
        obtain rfl := u2 (fun r r1 r2 => by rw [hr, mr r r2, ← cr]; exact c1 r r1 r2)
        have lo := nI_lt36 (Nat.lt_of_not_le q)
        have om : ob h1 (g + 266) 11 := Mod_0 sh.2.1
        have m2 := (msy_0 h1 (g + 266) 5 (by decide) om).2
        simp +decide only [e227_0, e227_1, e227_2, e227_3, u1', vkk_n, vkk_i, vkk_r, vkk_l, vkk_d, catS_nil, catS_i, catS_r, catS_l, catS_d, Nat.reduceAdd, Nat.reduceLeDiff, Nat.zero_le, Nat.le_refl, Option.bind_some, Option.toList_some, Option.toList_none, List.cons_append, List.nil_append, or_true, true_or, if_true, if_false, Int32.reduceLT, Int32.reduceLE, not_true, not_false_iff, true_and, and_true, false_and, and_false]
        simp +decide only [e227_31, e227_32, e227_35, e227_36, e227_39, e227_41, e227_44, e227_45, e227_46, e227_47, e227_48, e227_51, e227_54, e227_55, e226_0, e226_1, e226_4, e226_6, e226_7, e226_10, e226_11, e226_12, (Mod_0 sh.2.1 : ob h1 (g + 266) 11), (rf_g (Mod_94 sh.2.1 : rf h1 (g + 266) 56 (g + 298)) : gR h1 (g + 266) 56 = (g + 298)), (rf_is (Mod_94 sh.2.1 : rf h1 (g + 266) 56 (g + 298)) : isR h1 (g + 266) 56), (Mod_95 sh.2.1 : arL h1 (g + 298)), (Mod_96 sh.2.1 : aln h1 (g + 298) = 8), om, g18, g57, t36, tst, lo, c_m_says, m2, if_true, if_false, vkk_n, vkk_i, vkk_r, vkk_l, vkk_d, catS_nil, catS_i, catS_r, catS_l, catS_d, Nat.reduceAdd, Nat.reduceLeDiff, Nat.zero_le, Nat.le_refl, Option.bind_some, Option.toList_some, Option.toList_none, List.cons_append, List.nil_append, or_true, true_or, if_true, if_false, Int32.reduceLT, Int32.reduceLE, not_true, not_false_iff, true_and, and_true, false_and, and_false]
  · have c2' : ev 130 7 [some (.ref g), some (.int 0), none] [] (cRf h g 0) = some (some (.int (-1)), rfs (cRf h g 0) g 6) := c2
    rw [cRf_0] at c2'
    refine bad 6 (by decide) (by decide) ?_ ?_
    · rw [rfs_0 h g 6 ho] at c2'
      simp +decide only [e130_0, e130_1, e130_2, e130_5, e130_6, ho, c2', vkk_n, vkk_i, vkk_r, vkk_l, vkk_d, catS_nil, catS_i, catS_r, catS_l, catS_d, Nat.reduceAdd, Nat.reduceLeDiff, Nat.zero_le, Nat.le_refl, Option.bind_some, Option.toList_some, Option.toList_none, List.cons_append, List.nil_append, or_true, true_or, if_true, if_false, Int32.reduceLT, Int32.reduceLE, not_true, not_false_iff, true_and, and_true, false_and, and_false]
    · intro h1 sh hr g18 g57
      obtain ⟨w1, u1, u2, u3⟩ := l_fitM g h1 sh 8 0 0 rfl
      have u1' : ev 227 4 [some (.ref (g + 266)), some (.int 0), some (.int 0)] [] h1 = ev 227 31 [some (.ref (g + 266)), some (.int w1), some (.int 8)] [] h1 := u1
      obtain rfl := u3 ⟨r, r1, r2, by rw [hr, mr r r2, ← cr]; exact r3⟩
      have om : ob h1 (g + 266) 11 := Mod_0 sh.2.1
      have m2 := (msy_0 h1 (g + 266) 6 (by decide) om).2
      simp +decide only [e227_0, e227_1, e227_2, e227_3, u1', vkk_n, vkk_i, vkk_r, vkk_l, vkk_d, catS_nil, catS_i, catS_r, catS_l, catS_d, Nat.reduceAdd, Nat.reduceLeDiff, Nat.zero_le, Nat.le_refl, Option.bind_some, Option.toList_some, Option.toList_none, List.cons_append, List.nil_append, or_true, true_or, if_true, if_false, Int32.reduceLT, Int32.reduceLE, not_true, not_false_iff, true_and, and_true, false_and, and_false]
      simp +decide only [e227_31, e227_32, e227_35, e227_36, e227_39, e227_41, e227_44, e227_45, e227_46, e227_47, e227_48, e227_51, e227_54, e227_55, om, c_m_says, m2, vkk_n, vkk_i, vkk_r, vkk_l, vkk_d, catS_nil, catS_i, catS_r, catS_l, catS_d, Nat.reduceAdd, Nat.reduceLeDiff, Nat.zero_le, Nat.le_refl, Option.bind_some, Option.toList_some, Option.toList_none, List.cons_append, List.nil_append, or_true, true_or, if_true, if_false, Int32.reduceLT, Int32.reduceLE, not_true, not_false_iff, true_and, and_true, false_and, and_false]
