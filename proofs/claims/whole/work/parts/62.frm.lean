/-! frame -/
theorem m4 (s : Nat) : (4 : Int32) * nI s = nI (4 * s) := by rw [show (4 : Int32) = nI 4 from rfl, pk_mul]
theorem lt36 : ∀ a, a < 36 → nI a - 36 < 0 := by decide
theorem kFit_or (v : Int64) : kFit v = 1 ∨ kFit v = 0 := by
  unfold kFit
  split
  · exact Or.inl rfl
  · exact Or.inr rfl
theorem l_fitC (g : Nat) (h : VG) (hs : Sh h g) : ∀ d i, i + d = 8 → ((∀ r, i ≤ r → r < 8 → kFit (aL h (g + 176) r) = 1) ∧ ev 130 7 [some (.ref g), some (.int (nI i)), none] [] h = ev 130 49 [some (.ref g), some (.int 8), none] [] h) ∨ ((∃ r, i ≤ r ∧ r < 8 ∧ kFit (aL h (g + 176) r) = 0) ∧ ev 130 7 [some (.ref g), some (.int (nI i)), none] [] h = some (some (.int (-1)), rfs h g 6)) := by
  intro d
  induction d with
  | zero =>
    intro i hi
    obtain rfl : i = 8 := by omega
    left
    refine ⟨fun r h1 h2 => by omega, ?_⟩
    have q : ¬ (8 : Int32) < 8 := by decide
    rw [show nI 8 = (8 : Int32) from rfl]
    simp +decide only [e130_7, e130_8, e130_10, q, vkk_n, vkk_i, vkk_r, vkk_l, vkk_d, catS_nil, catS_i, catS_r, catS_l, catS_d, Nat.reduceAdd, Nat.reduceLeDiff, Nat.zero_le, Nat.le_refl, Option.bind_some, Option.toList_some, Option.toList_none, List.cons_append, List.nil_append, or_true, true_or, if_true, if_false, Int32.reduceLT, Int32.reduceLE, not_true, not_false_iff, true_and, and_true, false_and, and_false]
  | succ d ih =>
    intro i hi
    have q : nI i < nI 8 := nI_lt (by omega) (by omega)
    have q' : nI i < 8 := q
    have hv : vp_in (nI i) 8 := vp_in_nI (by omega) (by decide)
    have hc : (nI i).toNatClampNeg = i := nI_clamp (by omega)
    rcases kFit_or (aL h (g + 176) i) with k | k
    · rcases ih (i + 1) (by omega) with ⟨u1, u2⟩ | ⟨⟨r, r1, r2, r3⟩, u2⟩
      · left
        refine ⟨fun r h1 h2 => ?_, ?_⟩
        · by_cases e : r = i
          · rw [e]; exact k
          · exact u1 r (by omega) h2
        · simp +decide only [e130_7, e130_8, e130_10, q', if_true]
          simp +decide only [e130_13, e130_14, e130_15, e130_18, e130_21, e130_22, e130_23, e130_26, e130_29, e130_30, e130_33, e130_35, e130_38, e130_41, e130_42, e130_43, e130_46, (State_0 (Cls_17 (hs.1)) : ob h (g + 172) 8), (eq_true (isI_ob (State_0 (Cls_17 (hs.1)) : ob h (g + 172) 8) rfl : isI h (g + 172) 3)), (rf_g (State_1 (Cls_17 (hs.1)) : rf h (g + 172) 0 (g + 173)) : gR h (g + 172) 0 = (g + 173)), (rf_is (State_1 (Cls_17 (hs.1)) : rf h (g + 172) 0 (g + 173)) : isR h (g + 172) 0), (rf_g (State_2 (Cls_17 (hs.1)) : rf h (g + 172) 1 (g + 175)) : gR h (g + 172) 1 = (g + 175)), (rf_is (State_2 (Cls_17 (hs.1)) : rf h (g + 172) 1 (g + 175)) : isR h (g + 172) 1), (rf_g (State_3 (Cls_17 (hs.1)) : rf h (g + 172) 2 (g + 176)) : gR h (g + 172) 2 = (g + 176)), (rf_is (State_3 (Cls_17 (hs.1)) : rf h (g + 172) 2 (g + 176)) : isR h (g + 172) 2), (State_5 (Cls_17 (hs.1)) : arR h (g + 175) 5), (rdR_5 (State_5 (Cls_17 (hs.1)) : arR h (g + 175) 5) : rdR h (g + 175)), (State_6 (Cls_17 (hs.1)) : aln h (g + 175) = 8), (State_8 (Cls_17 (hs.1)) : arL h (g + 176)), (State_9 (Cls_17 (hs.1)) : aln h (g + 176) = 8), (Mem_0 (State_4 (Cls_17 (hs.1))) : ob h (g + 173) 5), (eq_true (isI_ob (Mem_0 (State_4 (Cls_17 (hs.1))) : ob h (g + 173) 5) rfl : isI h (g + 173) 1)), (eq_true (isI_ob (Mem_0 (State_4 (Cls_17 (hs.1))) : ob h (g + 173) 5) rfl : isI h (g + 173) 2)), (rf_g (Mem_1 (State_4 (Cls_17 (hs.1))) : rf h (g + 173) 0 (g + 174)) : gR h (g + 173) 0 = (g + 174)), (rf_is (Mem_1 (State_4 (Cls_17 (hs.1))) : rf h (g + 173) 0 (g + 174)) : isR h (g + 173) 0), (Mem_2 (State_4 (Cls_17 (hs.1))) : arI h (g + 174) 2), (rdB_2 (Mem_2 (State_4 (Cls_17 (hs.1))) : arI h (g + 174) 2) : rdB h (g + 174)), (Mem_3 (State_4 (Cls_17 (hs.1))) : aln h (g + 174) = 256), (Cls_0 (hs.1) : ob h g 10), (rf_g (Cls_3 (hs.1) : rf h g 6 (g + 172)) : gR h g 6 = (g + 172)), (rf_is (Cls_3 (hs.1) : rf h g 6 (g + 172)) : isR h g 6), c_fitsInt, c_refuses, rfs, hv, hc, k, nI_add, nI_1, Nat.add_assoc, Nat.reduceAdd, Nat.add_left_cancel_iff, Nat.reduceEqDiff, Nat.add_eq_left, Nat.left_eq_add, vkk_n, vkk_i, vkk_r, vkk_l, vkk_d, catS_nil, catS_i, catS_r, catS_l, catS_d, Nat.reduceAdd, Nat.reduceLeDiff, Nat.zero_le, Nat.le_refl, Option.bind_some, Option.toList_some, Option.toList_none, List.cons_append, List.nil_append, or_true, true_or, if_true, if_false, Int32.reduceLT, Int32.reduceLE, not_true, not_false_iff, true_and, and_true, false_and, and_false]
          exact u2
      · right
        refine ⟨⟨r, by omega, r2, r3⟩, ?_⟩
        simp +decide only [e130_7, e130_8, e130_10, q', if_true]
        simp +decide only [e130_13, e130_14, e130_15, e130_18, e130_21, e130_22, e130_23, e130_26, e130_29, e130_30, e130_33, e130_35, e130_38, e130_41, e130_42, e130_43, e130_46, (State_0 (Cls_17 (hs.1)) : ob h (g + 172) 8), (eq_true (isI_ob (State_0 (Cls_17 (hs.1)) : ob h (g + 172) 8) rfl : isI h (g + 172) 3)), (rf_g (State_1 (Cls_17 (hs.1)) : rf h (g + 172) 0 (g + 173)) : gR h (g + 172) 0 = (g + 173)), (rf_is (State_1 (Cls_17 (hs.1)) : rf h (g + 172) 0 (g + 173)) : isR h (g + 172) 0), (rf_g (State_2 (Cls_17 (hs.1)) : rf h (g + 172) 1 (g + 175)) : gR h (g + 172) 1 = (g + 175)), (rf_is (State_2 (Cls_17 (hs.1)) : rf h (g + 172) 1 (g + 175)) : isR h (g + 172) 1), (rf_g (State_3 (Cls_17 (hs.1)) : rf h (g + 172) 2 (g + 176)) : gR h (g + 172) 2 = (g + 176)), (rf_is (State_3 (Cls_17 (hs.1)) : rf h (g + 172) 2 (g + 176)) : isR h (g + 172) 2), (State_5 (Cls_17 (hs.1)) : arR h (g + 175) 5), (rdR_5 (State_5 (Cls_17 (hs.1)) : arR h (g + 175) 5) : rdR h (g + 175)), (State_6 (Cls_17 (hs.1)) : aln h (g + 175) = 8), (State_8 (Cls_17 (hs.1)) : arL h (g + 176)), (State_9 (Cls_17 (hs.1)) : aln h (g + 176) = 8), (Mem_0 (State_4 (Cls_17 (hs.1))) : ob h (g + 173) 5), (eq_true (isI_ob (Mem_0 (State_4 (Cls_17 (hs.1))) : ob h (g + 173) 5) rfl : isI h (g + 173) 1)), (eq_true (isI_ob (Mem_0 (State_4 (Cls_17 (hs.1))) : ob h (g + 173) 5) rfl : isI h (g + 173) 2)), (rf_g (Mem_1 (State_4 (Cls_17 (hs.1))) : rf h (g + 173) 0 (g + 174)) : gR h (g + 173) 0 = (g + 174)), (rf_is (Mem_1 (State_4 (Cls_17 (hs.1))) : rf h (g + 173) 0 (g + 174)) : isR h (g + 173) 0), (Mem_2 (State_4 (Cls_17 (hs.1))) : arI h (g + 174) 2), (rdB_2 (Mem_2 (State_4 (Cls_17 (hs.1))) : arI h (g + 174) 2) : rdB h (g + 174)), (Mem_3 (State_4 (Cls_17 (hs.1))) : aln h (g + 174) = 256), (Cls_0 (hs.1) : ob h g 10), (rf_g (Cls_3 (hs.1) : rf h g 6 (g + 172)) : gR h g 6 = (g + 172)), (rf_is (Cls_3 (hs.1) : rf h g 6 (g + 172)) : isR h g 6), c_fitsInt, c_refuses, hv, hc, k, nI_add, nI_1, Nat.add_assoc, Nat.reduceAdd, Nat.add_left_cancel_iff, Nat.reduceEqDiff, Nat.add_eq_left, Nat.left_eq_add, vkk_n, vkk_i, vkk_r, vkk_l, vkk_d, catS_nil, catS_i, catS_r, catS_l, catS_d, Nat.reduceAdd, Nat.reduceLeDiff, Nat.zero_le, Nat.le_refl, Option.bind_some, Option.toList_some, Option.toList_none, List.cons_append, List.nil_append, or_true, true_or, if_true, if_false, Int32.reduceLT, Int32.reduceLE, not_true, not_false_iff, true_and, and_true, false_and, and_false]
        simp only [show rfs h g 0 = h from rfl]
        exact u2
    · right
      refine ⟨⟨i, Nat.le_refl _, by omega, k⟩, ?_⟩
      simp +decide only [e130_7, e130_8, e130_10, q', if_true]
      simp +decide only [e130_13, e130_14, e130_15, e130_18, e130_21, e130_22, e130_23, e130_26, e130_29, e130_30, e130_33, e130_35, e130_38, e130_41, e130_42, e130_43, e130_46, (State_0 (Cls_17 (hs.1)) : ob h (g + 172) 8), (eq_true (isI_ob (State_0 (Cls_17 (hs.1)) : ob h (g + 172) 8) rfl : isI h (g + 172) 3)), (rf_g (State_1 (Cls_17 (hs.1)) : rf h (g + 172) 0 (g + 173)) : gR h (g + 172) 0 = (g + 173)), (rf_is (State_1 (Cls_17 (hs.1)) : rf h (g + 172) 0 (g + 173)) : isR h (g + 172) 0), (rf_g (State_2 (Cls_17 (hs.1)) : rf h (g + 172) 1 (g + 175)) : gR h (g + 172) 1 = (g + 175)), (rf_is (State_2 (Cls_17 (hs.1)) : rf h (g + 172) 1 (g + 175)) : isR h (g + 172) 1), (rf_g (State_3 (Cls_17 (hs.1)) : rf h (g + 172) 2 (g + 176)) : gR h (g + 172) 2 = (g + 176)), (rf_is (State_3 (Cls_17 (hs.1)) : rf h (g + 172) 2 (g + 176)) : isR h (g + 172) 2), (State_5 (Cls_17 (hs.1)) : arR h (g + 175) 5), (rdR_5 (State_5 (Cls_17 (hs.1)) : arR h (g + 175) 5) : rdR h (g + 175)), (State_6 (Cls_17 (hs.1)) : aln h (g + 175) = 8), (State_8 (Cls_17 (hs.1)) : arL h (g + 176)), (State_9 (Cls_17 (hs.1)) : aln h (g + 176) = 8), (Mem_0 (State_4 (Cls_17 (hs.1))) : ob h (g + 173) 5), (eq_true (isI_ob (Mem_0 (State_4 (Cls_17 (hs.1))) : ob h (g + 173) 5) rfl : isI h (g + 173) 1)), (eq_true (isI_ob (Mem_0 (State_4 (Cls_17 (hs.1))) : ob h (g + 173) 5) rfl : isI h (g + 173) 2)), (rf_g (Mem_1 (State_4 (Cls_17 (hs.1))) : rf h (g + 173) 0 (g + 174)) : gR h (g + 173) 0 = (g + 174)), (rf_is (Mem_1 (State_4 (Cls_17 (hs.1))) : rf h (g + 173) 0 (g + 174)) : isR h (g + 173) 0), (Mem_2 (State_4 (Cls_17 (hs.1))) : arI h (g + 174) 2), (rdB_2 (Mem_2 (State_4 (Cls_17 (hs.1))) : arI h (g + 174) 2) : rdB h (g + 174)), (Mem_3 (State_4 (Cls_17 (hs.1))) : aln h (g + 174) = 256), (Cls_0 (hs.1) : ob h g 10), (rf_g (Cls_3 (hs.1) : rf h g 6 (g + 172)) : gR h g 6 = (g + 172)), (rf_is (Cls_3 (hs.1) : rf h g 6 (g + 172)) : isR h g 6), c_fitsInt, c_refuses, hv, hc, k, Nat.add_assoc, Nat.reduceAdd, Nat.add_left_cancel_iff, Nat.reduceEqDiff, Nat.add_eq_left, Nat.left_eq_add, vkk_n, vkk_i, vkk_r, vkk_l, vkk_d, catS_nil, catS_i, catS_r, catS_l, catS_d, Nat.reduceAdd, Nat.reduceLeDiff, Nat.zero_le, Nat.le_refl, Option.bind_some, Option.toList_some, Option.toList_none, List.cons_append, List.nil_append, or_true, true_or, if_true, if_false, Int32.reduceLT, Int32.reduceLE, not_true, not_false_iff, true_and, and_true, false_and, and_false]
theorem l_fitM (g : Nat) (h : VG) (hs : Sh h g) : ∀ d i (w : Int32), i + d = 8 → ∃ w1, ev 227 4 [some (.ref (g + 266)), some (.int w), some (.int (nI i))] [] h = ev 227 31 [some (.ref (g + 266)), some (.int w1), some (.int 8)] [] h ∧ ((∀ r, i ≤ r → r < 8 → kFit (aL h (g + 298) r) = 1) → w1 = w) ∧ ((∃ r, i ≤ r ∧ r < 8 ∧ kFit (aL h (g + 298) r) = 0) → w1 = 6) := by
  intro d
  induction d with
  | zero =>
    intro i w hi
    obtain rfl : i = 8 := by omega
    refine ⟨w, ?_, fun _ => rfl, fun ⟨r, h1, h2, _⟩ => by omega⟩
    have q : ¬ (8 : Int32) < 8 := by decide
    rw [show nI 8 = (8 : Int32) from rfl]
    simp +decide only [e227_4, e227_5, e227_7, q, vkk_n, vkk_i, vkk_r, vkk_l, vkk_d, catS_nil, catS_i, catS_r, catS_l, catS_d, Nat.reduceAdd, Nat.reduceLeDiff, Nat.zero_le, Nat.le_refl, Option.bind_some, Option.toList_some, Option.toList_none, List.cons_append, List.nil_append, or_true, true_or, if_true, if_false, Int32.reduceLT, Int32.reduceLE, not_true, not_false_iff, true_and, and_true, false_and, and_false]
  | succ d ih =>
    intro i w hi
    have q : nI i < nI 8 := nI_lt (by omega) (by omega)
    have q' : nI i < 8 := q
    have hv : vp_in (nI i) 8 := vp_in_nI (by omega) (by decide)
    have hc : (nI i).toNatClampNeg = i := nI_clamp (by omega)
    rcases kFit_or (aL h (g + 298) i) with k | k
    · obtain ⟨w1, u1, u2, u3⟩ := ih (i + 1) w (by omega)
      refine ⟨w1, ?_, fun z => u2 fun r h1 h2 => z r (by omega) h2, fun ⟨r, h1, h2, h3⟩ => ?_⟩
      · simp +decide only [e227_4, e227_5, e227_7, q', if_true]
        simp +decide only [e227_10, e227_11, e227_14, e227_15, e227_16, e227_19, e227_22, e227_24, e227_25, e227_28, (Mod_0 hs.2.1 : ob h (g + 266) 11), (rf_g (Mod_94 hs.2.1 : rf h (g + 266) 56 (g + 298)) : gR h (g + 266) 56 = (g + 298)), (rf_is (Mod_94 hs.2.1 : rf h (g + 266) 56 (g + 298)) : isR h (g + 266) 56), (Mod_95 hs.2.1 : arL h (g + 298)), (Mod_96 hs.2.1 : aln h (g + 298) = 8), c_m_isInt, hv, hc, k, nI_add, nI_1, Nat.add_assoc, Nat.reduceAdd, Nat.add_left_cancel_iff, Nat.reduceEqDiff, Nat.add_eq_left, Nat.left_eq_add, vkk_n, vkk_i, vkk_r, vkk_l, vkk_d, catS_nil, catS_i, catS_r, catS_l, catS_d, Nat.reduceAdd, Nat.reduceLeDiff, Nat.zero_le, Nat.le_refl, Option.bind_some, Option.toList_some, Option.toList_none, List.cons_append, List.nil_append, or_true, true_or, if_true, if_false, Int32.reduceLT, Int32.reduceLE, not_true, not_false_iff, true_and, and_true, false_and, and_false]
        exact u1
      · by_cases e : r = i
        · rw [e, k] at h3
          exact absurd h3 (by decide)
        · exact u3 ⟨r, by omega, h2, h3⟩
    · obtain ⟨w1, u1, u2, u3⟩ := ih (i + 1) 6 (by omega)
      refine ⟨w1, ?_, fun z => ?_, fun _ => ?_⟩
      · simp +decide only [e227_4, e227_5, e227_7, q', if_true]
        simp +decide only [e227_10, e227_11, e227_14, e227_15, e227_16, e227_19, e227_22, e227_24, e227_25, e227_28, (Mod_0 hs.2.1 : ob h (g + 266) 11), (rf_g (Mod_94 hs.2.1 : rf h (g + 266) 56 (g + 298)) : gR h (g + 266) 56 = (g + 298)), (rf_is (Mod_94 hs.2.1 : rf h (g + 266) 56 (g + 298)) : isR h (g + 266) 56), (Mod_95 hs.2.1 : arL h (g + 298)), (Mod_96 hs.2.1 : aln h (g + 298) = 8), c_m_isInt, hv, hc, k, nI_add, nI_1, Nat.add_assoc, Nat.reduceAdd, Nat.add_left_cancel_iff, Nat.reduceEqDiff, Nat.add_eq_left, Nat.left_eq_add, vkk_n, vkk_i, vkk_r, vkk_l, vkk_d, catS_nil, catS_i, catS_r, catS_l, catS_d, Nat.reduceAdd, Nat.reduceLeDiff, Nat.zero_le, Nat.le_refl, Option.bind_some, Option.toList_some, Option.toList_none, List.cons_append, List.nil_append, or_true, true_or, if_true, if_false, Int32.reduceLT, Int32.reduceLE, not_true, not_false_iff, true_and, and_true, false_and, and_false]
        exact u1
      · rw [z i (Nat.le_refl _) (by omega)] at k
        exact absurd k (by decide)
      · by_cases e : ∀ r, i + 1 ≤ r → r < 8 → kFit (aL h (g + 298) r) = 1
        · exact u2 e
        · refine u3 ?_
          apply Classical.byContradiction
          intro n
          refine e fun r h1 h2 => ?_
          rcases kFit_or (aL h (g + 298) r) with k2 | k2
          · exact k2
          · exact absurd ⟨r, h1, h2, k2⟩ n
theorem l_frameC (g k : Nat) (V : Nat → Int64) (hk : k + 36 ≤ 256) : ∀ d i (h : VG), i + d = 8 → Sh h g → (∀ r, r < 8 → aL h (g + 176) r = V r) → ∃ h1, ev 130 82 [some (.ref g), some (.int (nI k)), some (.int (nI i))] [] h = ev 130 119 [some (.ref g), some (.int (nI k)), some (.int 8)] [] h1 ∧ Fr (fun a => a = g + 174) NF h h1 ∧ ∀ j, aI h1 (g + 174) j = if k + 4 * i ≤ j ∧ j < k + 32 then cB (V ((j - k) / 4)) (bP (gI h (g + 173) 2) 4 ((j - k) % 4)) else aI h (g + 174) j := by
  intro d
  induction d with
  | zero =>
    intro i h hi hs hV
    obtain rfl : i = 8 := by omega
    refine ⟨h, ?_, Fr.rfl _, fun j => (if_neg (by omega)).symm⟩
    have q : ¬ (8 : Int32) < 8 := by decide
    rw [show nI 8 = (8 : Int32) from rfl]
    simp +decide only [e130_82, e130_83, e130_85, q, vkk_n, vkk_i, vkk_r, vkk_l, vkk_d, catS_nil, catS_i, catS_r, catS_l, catS_d, Nat.reduceAdd, Nat.reduceLeDiff, Nat.zero_le, Nat.le_refl, Option.bind_some, Option.toList_some, Option.toList_none, List.cons_append, List.nil_append, or_true, true_or, if_true, if_false, Int32.reduceLT, Int32.reduceLE, not_true, not_false_iff, true_and, and_true, false_and, and_false]
  | succ d ih =>
    intro i h hi hs hV
    have q : nI i < nI 8 := nI_lt (by omega) (by omega)
    have q' : nI i < 8 := q
    have hv : vp_in (nI i) 8 := vp_in_nI (by omega) (by decide)
    have hc : (nI i).toNatClampNeg = i := nI_clamp (by omega)
    have hm : ShMem h (g + 173) := State_4 (Cls_17 hs.1)
    have ei := hV i (by omega)
    obtain ⟨h1, u1, u2, u3⟩ := c_lay h (g + 173) (k + 4 * i) 4 (V i) hm (by decide) (by omega)
    have u1' : ev 57 0 [some (.ref (g + 173)), some (.int (nI (k + 4 * i))), some (.int 4), some (.long (V i)), none, none, none] [] h = some (none, h1) := u1
    have u2' : Fr (fun a => a = g + 174) NF h h1 := u2
    have u3' : ∀ j, aI h1 (g + 174) j = if k + 4 * i ≤ j ∧ j < k + 4 * i + 4 then cB (V i) (bP (gI h (g + 173) 2) 4 (j - (k + 4 * i))) else aI h (g + 174) j := u3
    obtain ⟨h2, v1, v2, v3⟩ := ih (i + 1) h1 (by omega) (Sh_fr u2' (fun a z => by omega) hs) (fun r hr => (u2'.L (a := g + 176) (fun z => by omega) r).trans (hV r hr))
    refine ⟨h2, ?_, u2'.tr v2, fun j => ?_⟩
    · simp +decide only [e130_82, e130_83, e130_85, q', if_true]
      simp +decide only [e130_88, e130_89, e130_92, e130_95, e130_96, e130_97, e130_98, e130_99, e130_100, e130_101, e130_102, e130_105, e130_108, e130_109, e130_110, e130_113, e130_116, (State_0 (Cls_17 (hs.1)) : ob h (g + 172) 8), (eq_true (isI_ob (State_0 (Cls_17 (hs.1)) : ob h (g + 172) 8) rfl : isI h (g + 172) 3)), (rf_g (State_1 (Cls_17 (hs.1)) : rf h (g + 172) 0 (g + 173)) : gR h (g + 172) 0 = (g + 173)), (rf_is (State_1 (Cls_17 (hs.1)) : rf h (g + 172) 0 (g + 173)) : isR h (g + 172) 0), (rf_g (State_2 (Cls_17 (hs.1)) : rf h (g + 172) 1 (g + 175)) : gR h (g + 172) 1 = (g + 175)), (rf_is (State_2 (Cls_17 (hs.1)) : rf h (g + 172) 1 (g + 175)) : isR h (g + 172) 1), (rf_g (State_3 (Cls_17 (hs.1)) : rf h (g + 172) 2 (g + 176)) : gR h (g + 172) 2 = (g + 176)), (rf_is (State_3 (Cls_17 (hs.1)) : rf h (g + 172) 2 (g + 176)) : isR h (g + 172) 2), (State_5 (Cls_17 (hs.1)) : arR h (g + 175) 5), (rdR_5 (State_5 (Cls_17 (hs.1)) : arR h (g + 175) 5) : rdR h (g + 175)), (State_6 (Cls_17 (hs.1)) : aln h (g + 175) = 8), (State_8 (Cls_17 (hs.1)) : arL h (g + 176)), (State_9 (Cls_17 (hs.1)) : aln h (g + 176) = 8), (Mem_0 (State_4 (Cls_17 (hs.1))) : ob h (g + 173) 5), (eq_true (isI_ob (Mem_0 (State_4 (Cls_17 (hs.1))) : ob h (g + 173) 5) rfl : isI h (g + 173) 1)), (eq_true (isI_ob (Mem_0 (State_4 (Cls_17 (hs.1))) : ob h (g + 173) 5) rfl : isI h (g + 173) 2)), (rf_g (Mem_1 (State_4 (Cls_17 (hs.1))) : rf h (g + 173) 0 (g + 174)) : gR h (g + 173) 0 = (g + 174)), (rf_is (Mem_1 (State_4 (Cls_17 (hs.1))) : rf h (g + 173) 0 (g + 174)) : isR h (g + 173) 0), (Mem_2 (State_4 (Cls_17 (hs.1))) : arI h (g + 174) 2), (rdB_2 (Mem_2 (State_4 (Cls_17 (hs.1))) : arI h (g + 174) 2) : rdB h (g + 174)), (Mem_3 (State_4 (Cls_17 (hs.1))) : aln h (g + 174) = 256), (Cls_0 (hs.1) : ob h g 10), (rf_g (Cls_3 (hs.1) : rf h g 6 (g + 172)) : gR h g 6 = (g + 172)), (rf_is (Cls_3 (hs.1) : rf h g 6 (g + 172)) : isR h g 6), m4, nI_add, ei, u1', hv, hc, nI_1, Nat.add_assoc, Nat.reduceAdd, Nat.add_left_cancel_iff, Nat.reduceEqDiff, Nat.add_eq_left, Nat.left_eq_add, vkk_n, vkk_i, vkk_r, vkk_l, vkk_d, catS_nil, catS_i, catS_r, catS_l, catS_d, Nat.reduceAdd, Nat.reduceLeDiff, Nat.zero_le, Nat.le_refl, Option.bind_some, Option.toList_some, Option.toList_none, List.cons_append, List.nil_append, or_true, true_or, if_true, if_false, Int32.reduceLT, Int32.reduceLE, not_true, not_false_iff, true_and, and_true, false_and, and_false]
      exact v1
    · rw [v3 j, u3' j, u2'.gI (fun z => z)]
      by_cases a : k + 4 * i ≤ j ∧ j < k + 32
      · rw [if_pos a]
        by_cases b : k + 4 * (i + 1) ≤ j ∧ j < k + 32
        · rw [if_pos b]
        · rw [if_neg b, if_pos (by omega), show (j - k) / 4 = i by omega, show (j - k) % 4 = j - (k + 4 * i) by omega]
      · rw [if_neg a, if_neg (by omega), if_neg (by omega)]
theorem l_frameM (g : Nat) (V : Nat → Int64) (w : Int32) : ∀ d i (h : VG), i + d = 8 → Sh h g → (∀ r, r < 8 → aL h (g + 298) r = V r) → ∃ h1, ev 227 62 [some (.ref (g + 266)), some (.int w), some (.int (nI i))] [] h = ev 227 88 [some (.ref (g + 266)), some (.int w), some (.int 8)] [] h1 ∧ Fr (fun x => x = g + 293 ∨ x = g + 294) NF h h1 ∧ ∀ j, (aI h1 (g + 293) j = if 4 * i ≤ j ∧ j < 32 then nI (wB (V (j / 4)) (bP (gI h (g + 266) 17) 4 (j % 4))) else aI h (g + 293) j) ∧ (aI h1 (g + 294) j = if 4 * i ≤ j ∧ j < 32 then 1 else aI h (g + 294) j) := by
  intro d
  induction d with
  | zero =>
    intro i h hi hs hV
    obtain rfl : i = 8 := by omega
    refine ⟨h, ?_, Fr.rfl _, fun j => ⟨(if_neg (by omega)).symm, (if_neg (by omega)).symm⟩⟩
    have q : ¬ (8 : Int32) < 8 := by decide
    rw [show nI 8 = (8 : Int32) from rfl]
    simp +decide only [e227_62, e227_63, e227_65, q, vkk_n, vkk_i, vkk_r, vkk_l, vkk_d, catS_nil, catS_i, catS_r, catS_l, catS_d, Nat.reduceAdd, Nat.reduceLeDiff, Nat.zero_le, Nat.le_refl, Option.bind_some, Option.toList_some, Option.toList_none, List.cons_append, List.nil_append, or_true, true_or, if_true, if_false, Int32.reduceLT, Int32.reduceLE, not_true, not_false_iff, true_and, and_true, false_and, and_false]
  | succ d ih =>
    intro i h hi hs hV
    have q : nI i < nI 8 := nI_lt (by omega) (by omega)
    have q' : nI i < 8 := q
    have hv : vp_in (nI i) 8 := vp_in_nI (by omega) (by decide)
    have hc : (nI i).toNatClampNeg = i := nI_clamp (by omega)
    have ei := hV i (by omega)
    obtain ⟨h1, u1, u2, u3⟩ := c_putsOut h g (4 * i) 4 (V i) hs (by decide) (by omega)
    have u1' : ev 206 0 [some (.ref (g + 266)), some (.int (nI (4 * i))), some (.int 4), some (.long (V i)), none, none, none] [] h = some (none, h1) := u1
    obtain ⟨h2, v1, v2, v3⟩ := ih (i + 1) h1 (by omega) (Sh_fr u2 (fun a z => by omega) hs) (fun r hr => (u2.L (a := g + 298) (fun z => by omega) r).trans (hV r hr))
    refine ⟨h2, ?_, u2.tr v2, fun j => ⟨?_, ?_⟩⟩
    · simp +decide only [e227_62, e227_63, e227_65, q', if_true]
      simp +decide only [e227_68, e227_69, e227_70, e227_71, e227_72, e227_73, e227_74, e227_77, e227_78, e227_79, e227_82, e227_85, (Mod_0 hs.2.1 : ob h (g + 266) 11), (rf_g (Mod_94 hs.2.1 : rf h (g + 266) 56 (g + 298)) : gR h (g + 266) 56 = (g + 298)), (rf_is (Mod_94 hs.2.1 : rf h (g + 266) 56 (g + 298)) : isR h (g + 266) 56), (Mod_95 hs.2.1 : arL h (g + 298)), (Mod_96 hs.2.1 : aln h (g + 298) = 8), m4, nI_add, ei, u1', hv, hc, nI_1, Nat.add_assoc, Nat.reduceAdd, Nat.add_left_cancel_iff, Nat.reduceEqDiff, Nat.add_eq_left, Nat.left_eq_add, vkk_n, vkk_i, vkk_r, vkk_l, vkk_d, catS_nil, catS_i, catS_r, catS_l, catS_d, Nat.reduceAdd, Nat.reduceLeDiff, Nat.zero_le, Nat.le_refl, Option.bind_some, Option.toList_some, Option.toList_none, List.cons_append, List.nil_append, or_true, true_or, if_true, if_false, Int32.reduceLT, Int32.reduceLE, not_true, not_false_iff, true_and, and_true, false_and, and_false]
      exact v1
    · rw [(v3 j).1, (u3 j).1, u2.gI (fun z => z)]
      by_cases a : 4 * i ≤ j ∧ j < 32
      · rw [if_pos a]
        by_cases b : 4 * (i + 1) ≤ j ∧ j < 32
        · rw [if_pos b]
        · rw [if_neg b, if_pos (by omega), show j / 4 = i by omega, show j % 4 = j - 4 * i by omega]
      · rw [if_neg a, if_neg (by omega), if_neg (by omega)]
    · rw [(v3 j).2, (u3 j).2]
      by_cases a : 4 * i ≤ j ∧ j < 32
      · rw [if_pos a]
        by_cases b : 4 * (i + 1) ≤ j ∧ j < 32
        · rw [if_pos b]
        · rw [if_neg b, if_pos (by omega)]
      · rw [if_neg a, if_neg (by omega), if_neg (by omega)]
theorem nI_ge36 {a : Nat} (ha : a ≤ 256) (h : 36 ≤ a) : ¬ nI a < 36 := by
  have := nI_nlt (b := 36) (a := a) h (by omega)
  exact this
theorem nI_lt36 {a : Nat} (h : a < 36) : nI a < 36 := by
  have := nI_lt (a := a) (b := 36) h (by omega)
  exact this
def fV (V : Nat → Int64) (fr r : Nat) : Int64 := if r < 8 then V r else (nI fr).toInt64
theorem frameC (h : VG) (g l fr k : Nat) (V : Nat → Int64) (hs : Sh h g) (e1 : gI h (g + 173) 1 = nI l) (e3 : gI h (g + 172) 3 = nI fr) (l2 : l ≤ 256) (l3 : 36 * fr ≤ l) (hk : l - 36 * fr = k + 36) (hV : ∀ r, r < 8 → aL h (g + 176) r = V r) (hf : ∀ r, r < 8 → kFit (V r) = 1) : ∃ h1, ev 130 0 [some (.ref g), none, none] [] h = some (some (.int (nI k)), h1) ∧ Fr (fun a => a = g + 174) (fun a j => AC g a j ∨ (a = g + 172 ∧ j = 3)) h h1 ∧ gI h1 (g + 172) 3 = nI (fr + 1) ∧ CA h h1 g 0 ∧ ∀ j, aI h1 (g + 174) j = if k ≤ j ∧ j < k + 36 then cB (fV V fr ((j - k) / 4)) (bP (gI h (g + 173) 2) 4 ((j - k) % 4)) else aI h (g + 174) j := by
  have ho : ob h g 10 := Cls_0 hs.1
  have s0 : Sh (cRf h g 0) g := cRf_sh hs
  have F0 := cRf_fr h g 0
  have CA0 := cRf_CA (h := h) 0 ho
  have t36 : (36 : Int32) * nI fr = nI (36 * fr) := by rw [show (36 : Int32) = nI 36 from rfl, pk_mul]
  have tst : nI l - nI (36 * fr) = nI (l - 36 * fr) := pk_sub l3
  have tk : nI (k + 36) - 36 = nI k := by
    rw [show (36 : Int32) = nI 36 from rfl, pk_sub (by omega), show k + 36 - 36 = k by omega]
  have t32 : nI k + 32 = nI (k + 32) := nI_add (a := k) (b := 32)
  have t1 : nI fr + 1 = nI (fr + 1) := nI_add (a := fr) (b := 1)
  have mm : memRef (nI l) (nI k).toInt64 36 = 0 := by
    rcases there_ok l2 (show 36 < 1073741824 by decide) (nI k) with ⟨q1, q2, q3⟩ | ⟨q1, q2⟩
    · exact q1
    · exfalso
      unfold mThere at q2
      have n0 : ¬ nI k < 0 := nI_nlt (b := 0) (a := k) (Nat.zero_le _) (by omega)
      rw [if_neg (by decide), if_neg n0, if_pos] at q2
      · exact absurd q2 (by decide)
      · rw [pk_sub (by omega), nI_lti (by omega)]
        exact nI_lt (by omega) (by omega)
  have cr : ∀ r, r < 8 → aL (cRf h g 0) (g + 176) r = V r := fun r hr => (F0.L (a := g + 176) (fun z => z.elim) r).trans (hV r hr)
  rcases l_fitC g (cRf h g 0) s0 8 0 rfl with ⟨c1, c2⟩ | ⟨⟨r, r1, r2, r3⟩, c2⟩
  · have c2' : ev 130 7 [some (.ref g), some (.int 0), none] [] (cRf h g 0) = ev 130 49 [some (.ref g), some (.int 8), none] [] (cRf h g 0) := c2
    obtain ⟨hA, a1, a2, a3⟩ := l_frameC g k V (by omega) 8 0 (cRf h g 0) rfl s0 cr
    have a1' : ev 130 82 [some (.ref g), some (.int (nI k)), some (.int 0)] [] (cRf h g 0) = ev 130 119 [some (.ref g), some (.int (nI k)), some (.int 8)] [] hA := a1
    have sA : Sh hA g := Sh_fr a2 (fun a z => by omega) s0
    obtain ⟨hB, b1, b2, b3⟩ := c_lay hA (g + 173) (k + 32) 4 (nI fr).toInt64 (State_4 (Cls_17 sA.1)) (by decide) (by omega)
    have b1' : ev 57 0 [some (.ref (g + 173)), some (.int (nI (k + 32))), some (.int 4), some (.long (nI fr).toInt64), none, none, none] [] hA = some (none, hB) := b1
    have b2' : Fr (fun a => a = g + 174) NF hA hB := b2
    have b3' : ∀ j, aI hB (g + 174) j = if k + 32 ≤ j ∧ j < k + 32 + 4 then cB (nI fr).toInt64 (bP (gI hA (g + 173) 2) 4 (j - (k + 32))) else aI hA (g + 174) j := b3
    have sB : Sh hB g := Sh_fr b2' (fun a z => by omega) sA
    have gl : ∀ j, gI (cRf h g 0) (g + 173) j = gI h (g + 173) j := fun j => F0.gI (fun z => by unfold AC at z; omega)
    have gf : gI (cRf h g 0) (g + 172) 3 = nI fr := (F0.gI (fun z => by unfold AC at z; omega)).trans e3
    have gA : gI hA (g + 172) 3 = nI fr := (a2.gI (fun z => z)).trans gf
    have gB : gI hB (g + 172) 3 = nI fr := (b2'.gI (fun z => z)).trans gA
    have oB : ob hB (g + 172) 8 := State_0 (Cls_17 sB.1)
    have f9 : Fr (fun a => a = g + 174) (fun a j => AC g a j ∨ (a = g + 172 ∧ j = 3)) hB (pI hB (g + 172) 3 (nI (fr + 1))) := Fr_pI _ _ _ _ (Or.inr ⟨rfl, rfl⟩)
    have fA : Fr (fun a => a = g + 174) (fun a j => AC g a j ∨ (a = g + 172 ∧ j = 3)) h hB := ((F0.mo (fun _ z => z.elim) (fun _ _ z => Or.inl z)).tr (a2.mo (fun _ z => z) (fun _ _ z => z.elim))).tr (b2'.mo (fun _ z => z) (fun _ _ z => z.elim))
    have gne : ∀ y, gI (pI hB (g + 172) 3 (nI (fr + 1))) g y = gI (cRf h g 0) g y := fun y => (gI_pI_ne _ _ _ _ _ _ (fun z => by omega)).trans ((b2'.gI (fun z => z)).trans (a2.gI (fun z => z)))
    refine ⟨pI hB (g + 172) 3 (nI (fr + 1)), ?_, fA.tr f9, ?_, ?_, fun j => ?_⟩
    · rw [cRf_0] at c2'
      simp +decide only [e130_0, e130_1, e130_2, e130_5, e130_6, ho, c2', vkk_n, vkk_i, vkk_r, vkk_l, vkk_d, catS_nil, catS_i, catS_r, catS_l, catS_d, Nat.reduceAdd, Nat.reduceLeDiff, Nat.zero_le, Nat.le_refl, Option.bind_some, Option.toList_some, Option.toList_none, List.cons_append, List.nil_append, or_true, true_or, if_true, if_false, Int32.reduceLT, Int32.reduceLE, not_true, not_false_iff, true_and, and_true, false_and, and_false]
      have r0 : rfs (pI h g 9 0) g 0 = pI h g 9 0 := rfl
      rw [cRf_0] at gl gf s0 a1'
      generalize pI h g 9 0 = hp at gl gf s0 a1' r0 ⊢
      simp +decide only [e130_49, e130_50, e130_53, e130_55, e130_56, e130_57, e130_58, e130_59, e130_62, e130_65, e130_66, e130_67, e130_69, e130_72, e130_75, e130_78, e130_79, e130_80, e130_81, (State_0 (Cls_17 s0.1) : ob hp (g + 172) 8), (eq_true (isI_ob (State_0 (Cls_17 s0.1) : ob hp (g + 172) 8) rfl : isI hp (g + 172) 3)), (rf_g (State_1 (Cls_17 s0.1) : rf hp (g + 172) 0 (g + 173)) : gR hp (g + 172) 0 = (g + 173)), (rf_is (State_1 (Cls_17 s0.1) : rf hp (g + 172) 0 (g + 173)) : isR hp (g + 172) 0), (rf_g (State_2 (Cls_17 s0.1) : rf hp (g + 172) 1 (g + 175)) : gR hp (g + 172) 1 = (g + 175)), (rf_is (State_2 (Cls_17 s0.1) : rf hp (g + 172) 1 (g + 175)) : isR hp (g + 172) 1), (rf_g (State_3 (Cls_17 s0.1) : rf hp (g + 172) 2 (g + 176)) : gR hp (g + 172) 2 = (g + 176)), (rf_is (State_3 (Cls_17 s0.1) : rf hp (g + 172) 2 (g + 176)) : isR hp (g + 172) 2), (State_5 (Cls_17 s0.1) : arR hp (g + 175) 5), (rdR_5 (State_5 (Cls_17 s0.1) : arR hp (g + 175) 5) : rdR hp (g + 175)), (State_6 (Cls_17 s0.1) : aln hp (g + 175) = 8), (State_8 (Cls_17 s0.1) : arL hp (g + 176)), (State_9 (Cls_17 s0.1) : aln hp (g + 176) = 8), (Mem_0 (State_4 (Cls_17 s0.1)) : ob hp (g + 173) 5), (eq_true (isI_ob (Mem_0 (State_4 (Cls_17 s0.1)) : ob hp (g + 173) 5) rfl : isI hp (g + 173) 1)), (eq_true (isI_ob (Mem_0 (State_4 (Cls_17 s0.1)) : ob hp (g + 173) 5) rfl : isI hp (g + 173) 2)), (rf_g (Mem_1 (State_4 (Cls_17 s0.1)) : rf hp (g + 173) 0 (g + 174)) : gR hp (g + 173) 0 = (g + 174)), (rf_is (Mem_1 (State_4 (Cls_17 s0.1)) : rf hp (g + 173) 0 (g + 174)) : isR hp (g + 173) 0), (Mem_2 (State_4 (Cls_17 s0.1)) : arI hp (g + 174) 2), (rdB_2 (Mem_2 (State_4 (Cls_17 s0.1)) : arI hp (g + 174) 2) : rdB hp (g + 174)), (Mem_3 (State_4 (Cls_17 s0.1)) : aln hp (g + 174) = 256), (Cls_0 s0.1 : ob hp g 10), (rf_g (Cls_3 s0.1 : rf hp g 6 (g + 172)) : gR hp g 6 = (g + 172)), (rf_is (Cls_3 s0.1 : rf hp g 6 (g + 172)) : isR hp g 6), c_stackAddress _ _ s0, gl, gf, e1, t36, tst, hk, tk, mm, c_refusalOf, c_refuses, r0, a1', vkk_n, vkk_i, vkk_r, vkk_l, vkk_d, catS_nil, catS_i, catS_r, catS_l, catS_d, Nat.reduceAdd, Nat.reduceLeDiff, Nat.zero_le, Nat.le_refl, Option.bind_some, Option.toList_some, Option.toList_none, List.cons_append, List.nil_append, or_true, true_or, if_true, if_false, Int32.reduceLT, Int32.reduceLE, not_true, not_false_iff, true_and, and_true, false_and, and_false]
      simp +decide only [e130_119, e130_120, e130_123, e130_126, e130_127, e130_129, e130_130, e130_131, e130_132, e130_135, e130_138, e130_139, (State_0 (Cls_17 sA.1) : ob hA (g + 172) 8), (eq_true (isI_ob (State_0 (Cls_17 sA.1) : ob hA (g + 172) 8) rfl : isI hA (g + 172) 3)), (rf_g (State_1 (Cls_17 sA.1) : rf hA (g + 172) 0 (g + 173)) : gR hA (g + 172) 0 = (g + 173)), (rf_is (State_1 (Cls_17 sA.1) : rf hA (g + 172) 0 (g + 173)) : isR hA (g + 172) 0), (rf_g (State_2 (Cls_17 sA.1) : rf hA (g + 172) 1 (g + 175)) : gR hA (g + 172) 1 = (g + 175)), (rf_is (State_2 (Cls_17 sA.1) : rf hA (g + 172) 1 (g + 175)) : isR hA (g + 172) 1), (rf_g (State_3 (Cls_17 sA.1) : rf hA (g + 172) 2 (g + 176)) : gR hA (g + 172) 2 = (g + 176)), (rf_is (State_3 (Cls_17 sA.1) : rf hA (g + 172) 2 (g + 176)) : isR hA (g + 172) 2), (State_5 (Cls_17 sA.1) : arR hA (g + 175) 5), (rdR_5 (State_5 (Cls_17 sA.1) : arR hA (g + 175) 5) : rdR hA (g + 175)), (State_6 (Cls_17 sA.1) : aln hA (g + 175) = 8), (State_8 (Cls_17 sA.1) : arL hA (g + 176)), (State_9 (Cls_17 sA.1) : aln hA (g + 176) = 8), (Mem_0 (State_4 (Cls_17 sA.1)) : ob hA (g + 173) 5), (eq_true (isI_ob (Mem_0 (State_4 (Cls_17 sA.1)) : ob hA (g + 173) 5) rfl : isI hA (g + 173) 1)), (eq_true (isI_ob (Mem_0 (State_4 (Cls_17 sA.1)) : ob hA (g + 173) 5) rfl : isI hA (g + 173) 2)), (rf_g (Mem_1 (State_4 (Cls_17 sA.1)) : rf hA (g + 173) 0 (g + 174)) : gR hA (g + 173) 0 = (g + 174)), (rf_is (Mem_1 (State_4 (Cls_17 sA.1)) : rf hA (g + 173) 0 (g + 174)) : isR hA (g + 173) 0), (Mem_2 (State_4 (Cls_17 sA.1)) : arI hA (g + 174) 2), (rdB_2 (Mem_2 (State_4 (Cls_17 sA.1)) : arI hA (g + 174) 2) : rdB hA (g + 174)), (Mem_3 (State_4 (Cls_17 sA.1)) : aln hA (g + 174) = 256), (Cls_0 sA.1 : ob hA g 10), (rf_g (Cls_3 sA.1 : rf hA g 6 (g + 172)) : gR hA g 6 = (g + 172)), (rf_is (Cls_3 sA.1 : rf hA g 6 (g + 172)) : isR hA g 6), gA, t32, b1', vkk_n, vkk_i, vkk_r, vkk_l, vkk_d, catS_nil, catS_i, catS_r, catS_l, catS_d, Nat.reduceAdd, Nat.reduceLeDiff, Nat.zero_le, Nat.le_refl, Option.bind_some, Option.toList_some, Option.toList_none, List.cons_append, List.nil_append, or_true, true_or, if_true, if_false, Int32.reduceLT, Int32.reduceLE, not_true, not_false_iff, true_and, and_true, false_and, and_false]
      simp +decide only [e130_142, e130_143, e130_146b, e130_146, e130_147, e130_150, e130_151, e130_152, e130_155, e130_156, (State_0 (Cls_17 sB.1) : ob hB (g + 172) 8), (eq_true (isI_ob (State_0 (Cls_17 sB.1) : ob hB (g + 172) 8) rfl : isI hB (g + 172) 3)), (rf_g (State_1 (Cls_17 sB.1) : rf hB (g + 172) 0 (g + 173)) : gR hB (g + 172) 0 = (g + 173)), (rf_is (State_1 (Cls_17 sB.1) : rf hB (g + 172) 0 (g + 173)) : isR hB (g + 172) 0), (rf_g (State_2 (Cls_17 sB.1) : rf hB (g + 172) 1 (g + 175)) : gR hB (g + 172) 1 = (g + 175)), (rf_is (State_2 (Cls_17 sB.1) : rf hB (g + 172) 1 (g + 175)) : isR hB (g + 172) 1), (rf_g (State_3 (Cls_17 sB.1) : rf hB (g + 172) 2 (g + 176)) : gR hB (g + 172) 2 = (g + 176)), (rf_is (State_3 (Cls_17 sB.1) : rf hB (g + 172) 2 (g + 176)) : isR hB (g + 172) 2), (State_5 (Cls_17 sB.1) : arR hB (g + 175) 5), (rdR_5 (State_5 (Cls_17 sB.1) : arR hB (g + 175) 5) : rdR hB (g + 175)), (State_6 (Cls_17 sB.1) : aln hB (g + 175) = 8), (State_8 (Cls_17 sB.1) : arL hB (g + 176)), (State_9 (Cls_17 sB.1) : aln hB (g + 176) = 8), (Mem_0 (State_4 (Cls_17 sB.1)) : ob hB (g + 173) 5), (eq_true (isI_ob (Mem_0 (State_4 (Cls_17 sB.1)) : ob hB (g + 173) 5) rfl : isI hB (g + 173) 1)), (eq_true (isI_ob (Mem_0 (State_4 (Cls_17 sB.1)) : ob hB (g + 173) 5) rfl : isI hB (g + 173) 2)), (rf_g (Mem_1 (State_4 (Cls_17 sB.1)) : rf hB (g + 173) 0 (g + 174)) : gR hB (g + 173) 0 = (g + 174)), (rf_is (Mem_1 (State_4 (Cls_17 sB.1)) : rf hB (g + 173) 0 (g + 174)) : isR hB (g + 173) 0), (Mem_2 (State_4 (Cls_17 sB.1)) : arI hB (g + 174) 2), (rdB_2 (Mem_2 (State_4 (Cls_17 sB.1)) : arI hB (g + 174) 2) : rdB hB (g + 174)), (Mem_3 (State_4 (Cls_17 sB.1)) : aln hB (g + 174) = 256), (Cls_0 sB.1 : ob hB g 10), (rf_g (Cls_3 sB.1 : rf hB g 6 (g + 172)) : gR hB g 6 = (g + 172)), (rf_is (Cls_3 sB.1 : rf hB g 6 (g + 172)) : isR hB g 6), gB, t1, vkk_n, vkk_i, vkk_r, vkk_l, vkk_d, catS_nil, catS_i, catS_r, catS_l, catS_d, Nat.reduceAdd, Nat.reduceLeDiff, Nat.zero_le, Nat.le_refl, Option.bind_some, Option.toList_some, Option.toList_none, List.cons_append, List.nil_append, or_true, true_or, if_true, if_false, Int32.reduceLT, Int32.reduceLE, not_true, not_false_iff, true_and, and_true, false_and, and_false]
    · rw [gI_pI, if_pos ⟨rfl, rfl, isI_ob oB rfl⟩]
    · unfold CA at CA0 ⊢
      rw [gne, gne]
      exact CA0
    · rw [aI_pI, b3' j, a3 j, F0.I (fun z => z), a2.gI (fun z => z), gl]
      unfold fV
      by_cases z : k ≤ j ∧ j < k + 36
      · rw [if_pos z]
        by_cases y : k + 32 ≤ j ∧ j < k + 32 + 4
        · rw [if_pos y, if_neg (show ¬ (j - k) / 4 < 8 by omega), show (j - k) % 4 = j - (k + 32) by omega]
        · rw [if_neg y, if_pos (by omega), if_pos (show (j - k) / 4 < 8 by omega)]
      · rw [if_neg z, if_neg (by omega), if_neg (by omega)]
  · rw [cr r r2, hf r r2] at r3
    exact absurd r3 (by decide)
theorem frameM (h : VG) (g l fr k : Nat) (V : Nat → Int64) (hs : Sh h g) (e1 : gI h (g + 266) 18 = nI l) (e3 : gI h (g + 266) 57 = nI fr) (l2 : l ≤ 256) (l3 : 36 * fr ≤ l) (hk : l - 36 * fr = k + 36) (hV : ∀ r, r < 8 → aL h (g + 298) r = V r) (hf : ∀ r, r < 8 → kFit (V r) = 1) : ∃ h1, ev 227 0 [some (.ref (g + 266)), none, none] [] h = some (some (.int (nI k)), h1) ∧ Fr (fun a => a = g + 293 ∨ a = g + 294 ∨ a = g + 277) (fun a j => AM (g + 266) a j ∨ (a = g + 266 ∧ j = 57)) h h1 ∧ gI h1 (g + 266) 57 = nI (fr + 1) ∧ MA h h1 (g + 266) 0 ∧ ∀ j, aI h1 (g + 277) j = if k ≤ j ∧ j < k + 36 then nI (wB (fV V fr ((j - k) / 4)) (bP (gI h (g + 266) 17) 4 ((j - k) % 4))) else aI h (g + 277) j := by
  have om : ob h (g + 266) 11 := Mod_0 hs.2.1
  have F0 := mRf_fr h (g + 266) 0
  have s0 : Sh (mRf h (g + 266) 0) g := Sh_fr F0 (fun _ z => z.elim) hs
  have MA0 := mRf_MA (h := h) 0 om
  have m2 := (msy_0 h (g + 266) 0 (by decide) om).2
  have t36 : (36 : Int32) * nI fr = nI (36 * fr) := by rw [show (36 : Int32) = nI 36 from rfl, pk_mul]
  have t36' : (36 : Int32) * nI (fr + 1) = nI (36 * (fr + 1)) := by rw [show (36 : Int32) = nI 36 from rfl, pk_mul]
  have tst : nI l - nI (36 * fr) = nI (l - 36 * fr) := pk_sub l3
  have tst' : nI l - nI (36 * (fr + 1)) = nI k := by rw [pk_sub (by omega), show l - 36 * (fr + 1) = k by omega]
  have nlo := nI_ge36 (a := k + 36) (by omega) (by omega)
  have t1 : nI fr + 1 = nI (fr + 1) := nI_add (a := fr) (b := 1)
  obtain ⟨w1, u1, u2, u3⟩ := l_fitM g h hs 8 0 0 rfl
  have u1' : ev 227 4 [some (.ref (g + 266)), some (.int 0), some (.int 0)] [] h = ev 227 31 [some (.ref (g + 266)), some (.int w1), some (.int 8)] [] h := u1
  obtain rfl := u2 (fun r r1 r2 => by rw [hV r r2]; exact hf r r2)
  obtain ⟨hA, a1, a2, a3⟩ := c_clears (mRf h (g + 266) 0) g s0
  have sA : Sh hA g := Sh_fr a2 (fun a z => by omega) s0
  have rA : ∀ r, r < 8 → aL hA (g + 298) r = V r := fun r hr => (a2.L (a := g + 298) (fun z => by omega) r).trans ((F0.L (a := g + 298) (fun z => z) r).trans (hV r hr))
  obtain ⟨hB, b1, b2, b3⟩ := l_frameM g V 0 8 0 hA rfl sA rA
  have b1' : ev 227 62 [some (.ref (g + 266)), some (.int 0), some (.int 0)] [] hA = ev 227 88 [some (.ref (g + 266)), some (.int 0), some (.int 8)] [] hB := b1
  have sB : Sh hB g := Sh_fr b2 (fun a z => by omega) sA
  obtain ⟨hC, c1, c2, c3⟩ := c_putsOut hB g 32 4 (nI fr).toInt64 sB (by decide) (by decide)
  have c1' : ev 206 0 [some (.ref (g + 266)), some (.int 32), some (.int 4), some (.long (nI fr).toInt64), none, none, none] [] hB = some (none, hC) := c1
  have sC : Sh hC g := Sh_fr c2 (fun a z => by omega) sB
  have g57 : ∀ y, ¬ AM (g + 266) (g + 266) y → gI hC (g + 266) y = gI h (g + 266) y := fun y hy => (c2.gI (fun z => z)).trans ((b2.gI (fun z => z)).trans ((a2.gI (fun z => z)).trans (F0.gI hy)))
  have g57B : gI hB (g + 266) 57 = nI fr := (b2.gI (fun z => z)).trans ((a2.gI (fun z => z)).trans ((F0.gI (fun z => by unfold AM at z; omega)).trans e3))
  have g57C : gI hC (g + 266) 57 = nI fr := (c2.gI (fun z => z)).trans g57B
  have oC : ob hC (g + 266) 11 := Mod_0 sC.2.1
  have fD : Fr NR (fun a j => a = g + 266 ∧ j = 57) hC (pI hC (g + 266) 57 (nI (fr + 1))) := Fr_pI _ _ _ _ ⟨rfl, rfl⟩
  have sD : Sh (pI hC (g + 266) 57 (nI (fr + 1))) g := Sh_fr fD (fun _ z => z.elim) sC
  have d57 : gI (pI hC (g + 266) 57 (nI (fr + 1))) (g + 266) 57 = nI (fr + 1) := by rw [gI_pI, if_pos ⟨rfl, rfl, isI_ob oC rfl⟩]
  have d18 : gI (pI hC (g + 266) 57 (nI (fr + 1))) (g + 266) 18 = nI l := (fD.gI (fun z => by omega)).trans ((g57 18 (fun z => by unfold AM at z; omega)).trans e1)
  obtain ⟨hE, k1, k2, k3⟩ := c_laysDown (pI hC (g + 266) 57 (nI (fr + 1))) g k 36 sD (by decide) (by omega)
  have k1' : ev 207 0 [some (.ref (g + 266)), some (.int (nI k)), some (.int 36), none] [] (pI hC (g + 266) 57 (nI (fr + 1))) = some (none, hE) := k1
  have sE : Sh hE g := Sh_fr k2 (fun a z => by omega) sD
  have x57 : gI hE (g + 266) 57 = nI (fr + 1) := (k2.gI (fun z => z)).trans d57
  have x18 : gI hE (g + 266) 18 = nI l := (k2.gI (fun z => z)).trans d18
  have n57 : ¬ AM (g + 266) (g + 266) 57 := fun z => by unfold AM at z; omega
  have em : ∀ y, ¬ y = 57 → gI hE (g + 266) y = gI (mRf h (g + 266) 0) (g + 266) y := fun y hy => (k2.gI (fun z => z)).trans ((fD.gI (fun z => hy z.2)).trans ((c2.gI (fun z => z)).trans ((b2.gI (fun z => z)).trans (a2.gI (fun z => z)))))
  refine ⟨hE, ?_, ?_, x57, ?_, fun j => ?_⟩
  · simp +decide only [e227_0, e227_1, e227_2, e227_3, u1', vkk_n, vkk_i, vkk_r, vkk_l, vkk_d, catS_nil, catS_i, catS_r, catS_l, catS_d, Nat.reduceAdd, Nat.reduceLeDiff, Nat.zero_le, Nat.le_refl, Option.bind_some, Option.toList_some, Option.toList_none, List.cons_append, List.nil_append, or_true, true_or, if_true, if_false, Int32.reduceLT, Int32.reduceLE, not_true, not_false_iff, true_and, and_true, false_and, and_false]
    simp +decide only [e227_31, e227_32, e227_35, e227_36, e227_39, e227_41, e227_44, e227_45, e227_46, e227_47, e227_48, e227_51, e227_54, e227_55, e227_56, e227_57, e227_60, e227_61, e226_0, e226_1, e226_4, e226_6, e226_7, e226_10, e226_11, e226_12, (Mod_0 hs.2.1 : ob h (g + 266) 11), (rf_g (Mod_94 hs.2.1 : rf h (g + 266) 56 (g + 298)) : gR h (g + 266) 56 = (g + 298)), (rf_is (Mod_94 hs.2.1 : rf h (g + 266) 56 (g + 298)) : isR h (g + 266) 56), (Mod_95 hs.2.1 : arL h (g + 298)), (Mod_96 hs.2.1 : aln h (g + 298) = 8), (Mod_0 s0.2.1 : ob (mRf h (g + 266) 0) (g + 266) 11), e1, e3, t36, tst, hk, nlo, c_m_says, m2, a1, b1', if_true, if_false, vkk_n, vkk_i, vkk_r, vkk_l, vkk_d, catS_nil, catS_i, catS_r, catS_l, catS_d, Nat.reduceAdd, Nat.reduceLeDiff, Nat.zero_le, Nat.le_refl, Option.bind_some, Option.toList_some, Option.toList_none, List.cons_append, List.nil_append, or_true, true_or, if_true, if_false, Int32.reduceLT, Int32.reduceLE, not_true, not_false_iff, true_and, and_true, false_and, and_false]
    simp +decide only [e227_88, e227_89, e227_91, e227_92, e227_93, e227_96, e227_97, (Mod_0 sB.2.1 : ob hB (g + 266) 11), (rf_g (Mod_94 sB.2.1 : rf hB (g + 266) 56 (g + 298)) : gR hB (g + 266) 56 = (g + 298)), (rf_is (Mod_94 sB.2.1 : rf hB (g + 266) 56 (g + 298)) : isR hB (g + 266) 56), (Mod_95 sB.2.1 : arL hB (g + 298)), (Mod_96 sB.2.1 : aln hB (g + 298) = 8), g57B, c1', vkk_n, vkk_i, vkk_r, vkk_l, vkk_d, catS_nil, catS_i, catS_r, catS_l, catS_d, Nat.reduceAdd, Nat.reduceLeDiff, Nat.zero_le, Nat.le_refl, Option.bind_some, Option.toList_some, Option.toList_none, List.cons_append, List.nil_append, or_true, true_or, if_true, if_false, Int32.reduceLT, Int32.reduceLE, not_true, not_false_iff, true_and, and_true, false_and, and_false]
    simp +decide only [e227_100, e227_101b, e227_101, e227_102, e227_105, e227_106, e227_107, (Mod_0 sC.2.1 : ob hC (g + 266) 11), (rf_g (Mod_94 sC.2.1 : rf hC (g + 266) 56 (g + 298)) : gR hC (g + 266) 56 = (g + 298)), (rf_is (Mod_94 sC.2.1 : rf hC (g + 266) 56 (g + 298)) : isR hC (g + 266) 56), (Mod_95 sC.2.1 : arL hC (g + 298)), (Mod_96 sC.2.1 : aln hC (g + 298) = 8), g57C, t1, vkk_n, vkk_i, vkk_r, vkk_l, vkk_d, catS_nil, catS_i, catS_r, catS_l, catS_d, Nat.reduceAdd, Nat.reduceLeDiff, Nat.zero_le, Nat.le_refl, Option.bind_some, Option.toList_some, Option.toList_none, List.cons_append, List.nil_append, or_true, true_or, if_true, if_false, Int32.reduceLT, Int32.reduceLE, not_true, not_false_iff, true_and, and_true, false_and, and_false]
    generalize pI hC (g + 266) 57 (nI (fr + 1)) = hz at sD d57 d18 k1' ⊢
    simp +decide only [e227_110, e227_111, e227_112, e227_115, e227_117, e226_0, e226_1, e226_4, e226_6, e226_7, e226_10, e226_11, e226_12, (Mod_0 sD.2.1 : ob hz (g + 266) 11), (rf_g (Mod_94 sD.2.1 : rf hz (g + 266) 56 (g + 298)) : gR hz (g + 266) 56 = (g + 298)), (rf_is (Mod_94 sD.2.1 : rf hz (g + 266) 56 (g + 298)) : isR hz (g + 266) 56), (Mod_95 sD.2.1 : arL hz (g + 298)), (Mod_96 sD.2.1 : aln hz (g + 298) = 8), d57, d18, t36', tst', k1', vkk_n, vkk_i, vkk_r, vkk_l, vkk_d, catS_nil, catS_i, catS_r, catS_l, catS_d, Nat.reduceAdd, Nat.reduceLeDiff, Nat.zero_le, Nat.le_refl, Option.bind_some, Option.toList_some, Option.toList_none, List.cons_append, List.nil_append, or_true, true_or, if_true, if_false, Int32.reduceLT, Int32.reduceLE, not_true, not_false_iff, true_and, and_true, false_and, and_false]
    simp +decide only [e227_120, e227_121, e227_124, e226_0, e226_1, e226_4, e226_6, e226_7, e226_10, e226_11, e226_12, (Mod_0 sE.2.1 : ob hE (g + 266) 11), (rf_g (Mod_94 sE.2.1 : rf hE (g + 266) 56 (g + 298)) : gR hE (g + 266) 56 = (g + 298)), (rf_is (Mod_94 sE.2.1 : rf hE (g + 266) 56 (g + 298)) : isR hE (g + 266) 56), (Mod_95 sE.2.1 : arL hE (g + 298)), (Mod_96 sE.2.1 : aln hE (g + 298) = 8), x57, x18, t36', tst', vkk_n, vkk_i, vkk_r, vkk_l, vkk_d, catS_nil, catS_i, catS_r, catS_l, catS_d, Nat.reduceAdd, Nat.reduceLeDiff, Nat.zero_le, Nat.le_refl, Option.bind_some, Option.toList_some, Option.toList_none, List.cons_append, List.nil_append, or_true, true_or, if_true, if_false, Int32.reduceLT, Int32.reduceLE, not_true, not_false_iff, true_and, and_true, false_and, and_false]
  · have y1 := (F0.mo (R1 := fun a => a = g + 293 ∨ a = g + 294 ∨ a = g + 277) (F1 := fun a j => AM (g + 266) a j ∨ (a = g + 266 ∧ j = 57)) (fun _ z => z.elim) (fun _ _ z => Or.inl z)).tr (a2.mo (fun _ z => z.elim Or.inl (fun z => Or.inr (Or.inl z))) (fun _ _ z => z.elim))
    have y2 := (y1.tr (b2.mo (fun _ z => z.elim Or.inl (fun z => Or.inr (Or.inl z))) (fun _ _ z => z.elim))).tr (c2.mo (fun _ z => z.elim Or.inl (fun z => Or.inr (Or.inl z))) (fun _ _ z => z.elim))
    exact (y2.tr (fD.mo (fun _ z => z.elim) (fun _ _ z => Or.inr z))).tr (k2.mo (fun _ z => Or.inr (Or.inr z)) (fun _ _ z => z.elim))
  · unfold MA at MA0 ⊢
    rw [em 31 (by decide), em 32 (by decide)]
    exact MA0
  · have m0 : aI (pI hC (g + 266) 57 (nI (fr + 1))) (g + 277) j = aI h (g + 277) j := by
      rw [aI_pI, c2.I (a := g + 277) (fun z => by omega), b2.I (a := g + 277) (fun z => by omega), a2.I (a := g + 277) (fun z => by omega), F0.I (fun z => z)]
    have big : ∀ H, H = hA ∨ H = hB → gI H (g + 266) 17 = gI h (g + 266) 17 := by
      intro H z
      rcases z with rfl | rfl
      · exact (a2.gI (fun z => z)).trans (F0.gI (fun z => by unfold AM at z; omega))
      · exact (b2.gI (fun z => z)).trans ((a2.gI (fun z => z)).trans (F0.gI (fun z => by unfold AM at z; omega)))
    rw [k3 j, m0]
    by_cases z : k ≤ j ∧ j < k + 36
    · rw [if_pos z]
      have v1 := (c3 (j - k)).1
      have v2 := (c3 (j - k)).2
      have w1 := (b3 (j - k)).1
      have w2 := (b3 (j - k)).2
      rw [big hB (Or.inr rfl)] at v1
      rw [big hA (Or.inl rfl)] at w1
      unfold fV
      by_cases y : 32 ≤ j - k ∧ j - k < 32 + 4
      · rw [if_pos y] at v1 v2
        rw [aI_pI, aI_pI, v1, v2, if_pos ⟨z.1, z.2, by decide⟩, if_neg (show ¬ (j - k) / 4 < 8 by omega), show (j - k) % 4 = j - k - 32 by omega]
      · rw [if_neg y] at v1 v2
        rw [if_pos (by omega)] at w1 w2
        rw [aI_pI, aI_pI, v1, v2, w1, w2, if_pos ⟨z.1, z.2, by decide⟩, if_pos (show (j - k) / 4 < 8 by omega)]
    · rw [if_neg z, if_neg (fun y => z ⟨y.1, y.2.1⟩)]
theorem k_frame (h : VG) (g : Nat) (R : Inv h g) : CalI h g 130 [some (.ref g), none, none] 227 [some (.ref (g + 266)), none, none] := by
  obtain ⟨l, fr, l1, l2, l3, e1, e2, e3, e4, e5, e6⟩ := R.hd
  have ho : ob h g 10 := Cls_0 R.cls
  have hm : ob h (g + 266) 11 := Mod_0 R.mod
  have hs := R.sh
  have s0 : Sh (cRf h g 0) g := cRf_sh hs
  have F0 := cRf_fr h g 0
  have cr : ∀ r, aL (cRf h g 0) (g + 176) r = aL h (g + 176) r := fun r => F0.L (a := g + 176) (fun z => z.elim) r
  have mr : ∀ r, r < 8 → aL h (g + 298) r = aL h (g + 176) r := fun r hr => (RRg_all R.reg hr).symm
  have t36 : (36 : Int32) * nI fr = nI (36 * fr) := by rw [show (36 : Int32) = nI 36 from rfl, pk_mul]
  have tst : nI l - nI (36 * fr) = nI (l - 36 * fr) := pk_sub l3
  have bad : ∀ f : Int32, ¬ f < 0 → ¬ f = 0 → ev 130 0 [some (.ref g), none, none] [] h = some (some (.int (-1)), cRf h g f) → (∀ h1, Sh h1 g → (∀ r, aL h1 (g + 298) r = aL h (g + 298) r) → gI h1 (g + 266) 18 = nI l → gI h1 (g + 266) 57 = nI fr → ev 227 0 [some (.ref (g + 266)), none, none] [] h1 = some (some (.int (-1)), mRf h1 (g + 266) f)) → CalI h g 130 [some (.ref g), none, none] 227 [some (.ref (g + 266)), none, none] := by
    intro f f0 f1 a1 a2
    have o3 : ob (cRf h g f) (g + 266) 11 := cRf_ob.mpr hm
    refine ⟨_, _, _, a1, a2 _ (cRf_sh hs) (fun r => (cRf_fr h g f).L (a := g + 298) (fun z => z.elim) r) (((cRf_fr h g f).gI (fun z => by unfold AC at z; omega)).trans e2) (((cRf_fr h g f).gI (fun z => by unfold AC at z; omega)).trans e4), Inv_ans (cRf_fr h g f) (mRf_fr _ _ f) (fun _ z => z.elim) (fun a k z => Or.inr z) (fun _ z => z.elim) (fun a k z => Or.inr z) (cRf_CA f ho) (mRf_MA f o3) R, (mRf_fr ..).two.trans (cRf_fr ..).two⟩
  rcases l_fitC g (cRf h g 0) s0 8 0 rfl with ⟨c1, c2⟩ | ⟨⟨r, r1, r2, r3⟩, c2⟩
  · have c2' : ev 130 7 [some (.ref g), some (.int 0), none] [] (cRf h g 0) = ev 130 49 [some (.ref g), some (.int 8), none] [] (cRf h g 0) := c2
    rw [cRf_0] at c2'
    have gl : ∀ k, gI (pI h g 9 0) (g + 173) k = gI h (g + 173) k := fun k => gI_pI_ne _ _ _ _ _ _ (fun z => by omega)
    have gf : gI (pI h g 9 0) (g + 172) 3 = nI fr := (gI_pI_ne _ _ _ _ _ _ (fun z => by omega)).trans e3
    have sp : Sh (pI h g 9 0) g := by rw [← cRf_0]; exact s0
    by_cases q : 36 ≤ l - 36 * fr
    · obtain ⟨h1, a1, a2, a3, a4, a5⟩ := frameC h g l fr (l - 36 * fr - 36) (fun r => aL h (g + 176) r) hs e1 e3 l2 l3 (by omega) (fun _ _ => rfl) (fun r hr => by rw [← cr]; exact c1 r (Nat.zero_le _) hr)
      have s1 : Sh h1 g := Sh_fr a2 (fun a z => by omega) hs
      obtain ⟨h2, b1, b2, b3, b4, b5⟩ := frameM h1 g l fr (l - 36 * fr - 36) (fun r => aL h (g + 176) r) s1 ((a2.gI (fun z => by unfold AC at z; omega)).trans e2) ((a2.gI (fun z => by unfold AC at z; omega)).trans e4) l2 l3 (by omega) (fun r hr => (a2.L (a := g + 298) (fun z => by omega) r).trans (mr r hr)) (fun r hr => by rw [← cr]; exact c1 r (Nat.zero_le _) hr)
      have zz := a2.un b2
      have cR : ∀ a, (a = g + 174 ∨ (a = g + 293 ∨ a = g + 294 ∨ a = g + 277)) → a = g + 174 ∨ a = g + 293 ∨ a = g + 294 ∨ a = g + 277 := fun a z => z
      have dF : ∀ a j, ((AC g a j ∨ (a = g + 172 ∧ j = 3)) ∨ (AM (g + 266) a j ∨ (a = g + 266 ∧ j = 57))) → (a = g ∧ (j = 9 ∨ j = 10)) ∨ (a = g + 172 ∧ j = 3) ∨ (a = g + 266 ∧ (j = 31 ∨ j = 32 ∨ j = 57)) := by
        intro a j z
        unfold AC AM at z
        omega
      have gz : ∀ a y, ¬ (a = g ∧ (y = 9 ∨ y = 10)) → ¬ (a = g + 172 ∧ y = 3) → ¬ (a = g + 266 ∧ (y = 31 ∨ y = 32 ∨ y = 57)) → gI h2 a y = gI h a y := fun a y z1 z2 z3 => zz.gI (fun z => by have := dF a y z; omega)
      refine ⟨_, h1, h2, a1, b1, Inv_now a2 b2 ?_ ?_ ?_ ?_ a4 b4 ?_ ?_ (RReg_fr zz (fun a z => by have := cR a z; omega) R.reg) (RBins_fr zz ?_ ?_ R.bins) R, zz.two⟩
      · intro a z
        unfold NwR
        omega
      · intro a y z
        unfold NwF
        unfold AC at z
        omega
      · intro a z
        unfold NwR SR
        omega
      · intro a y z
        unfold NwF
        unfold AM at z
        omega
      · refine ⟨l, fr + 1, l1, l2, by omega, ?_, ?_, ?_, b3, ?_, ?_⟩
        · rw [gz _ _ (by omega) (by omega) (by omega)]; exact e1
        · rw [gz _ _ (by omega) (by omega) (by omega)]; exact e2
        · rw [b2.gI (fun z => by unfold AM at z; omega)]; exact a3
        · rw [gz _ _ (by omega) (by omega) (by omega), gz _ _ (by omega) (by omega) (by omega)]; exact e5
        · rw [gz _ _ (by omega) (by omega) (by omega)]; exact e6
      · intro j hj
        have p1 : aI h2 (g + 277) (0 + j) = _ := (congrArg _ (Nat.zero_add j)).trans (b5 j)
        have p2 : aI h2 (g + 174) j = _ := (b2.I (a := g + 174) (fun z => by omega) j).trans (a5 j)
        rw [a2.gI (a := g + 266) (k := 17) (fun z => by unfold AC at z; omega), a2.I (a := g + 277) (fun z => by omega)] at p1
        rw [e5] at p2
        by_cases z : l - 36 * fr - 36 ≤ j ∧ j < l - 36 * fr - 36 + 36
        · rw [if_pos z] at p1 p2
          exact ⟨_, wB_lt _ _, p1, p2⟩
        · rw [if_neg z] at p1 p2
          obtain ⟨v, v1, v2, v3⟩ := R.mem j hj
          rw [Nat.zero_add] at v2
          exact ⟨v, v1, p1.trans v2, p2.trans v3⟩
      · intro a z
        have := cR a z
        omega
      · intro a y z
        have := dF a y z
        omega
    · refine bad 5 (by decide) (by decide) ?_ ?_
      · have lo := lt36 _ (Nat.lt_of_not_le q)
        have mm : memRef (nI l) (nI (l - 36 * fr) - 36).toInt64 36 = 5 := by
          rcases there_ok l2 (show 36 < 1073741824 by decide) (nI (l - 36 * fr) - 36) with ⟨q1, q2, q3⟩ | ⟨q1, q2⟩
          · rcases q3 with q3 | ⟨k, q3, q4⟩
            · exact absurd q3 (by decide)
            · rw [q3] at lo
              exact absurd lo (nI_nlt (b := 0) (a := k) (Nat.zero_le _) (by omega))
          · exact q1
        have a5 : rfs (pI h g 9 0) g 5 = cRf h g 5 := rfs_0 h g 5 ho
        simp +decide only [e130_0, e130_1, e130_2, e130_5, e130_6, ho, c2', vkk_n, vkk_i, vkk_r, vkk_l, vkk_d, catS_nil, catS_i, catS_r, catS_l, catS_d, Nat.reduceAdd, Nat.reduceLeDiff, Nat.zero_le, Nat.le_refl, Option.bind_some, Option.toList_some, Option.toList_none, List.cons_append, List.nil_append, or_true, true_or, if_true, if_false, Int32.reduceLT, Int32.reduceLE, not_true, not_false_iff, true_and, and_true, false_and, and_false]
        generalize pI h g 9 0 = hp at gl gf sp a5 ⊢
        simp +decide only [e130_49, e130_50, e130_53, e130_55, e130_56, e130_57, e130_58, e130_59, e130_62, e130_65, e130_66, e130_67, e130_69, e130_72, e130_75, e130_78, e130_79, (State_0 (Cls_17 sp.1) : ob hp (g + 172) 8), (eq_true (isI_ob (State_0 (Cls_17 sp.1) : ob hp (g + 172) 8) rfl : isI hp (g + 172) 3)), (rf_g (State_1 (Cls_17 sp.1) : rf hp (g + 172) 0 (g + 173)) : gR hp (g + 172) 0 = (g + 173)), (rf_is (State_1 (Cls_17 sp.1) : rf hp (g + 172) 0 (g + 173)) : isR hp (g + 172) 0), (rf_g (State_2 (Cls_17 sp.1) : rf hp (g + 172) 1 (g + 175)) : gR hp (g + 172) 1 = (g + 175)), (rf_is (State_2 (Cls_17 sp.1) : rf hp (g + 172) 1 (g + 175)) : isR hp (g + 172) 1), (rf_g (State_3 (Cls_17 sp.1) : rf hp (g + 172) 2 (g + 176)) : gR hp (g + 172) 2 = (g + 176)), (rf_is (State_3 (Cls_17 sp.1) : rf hp (g + 172) 2 (g + 176)) : isR hp (g + 172) 2), (State_5 (Cls_17 sp.1) : arR hp (g + 175) 5), (rdR_5 (State_5 (Cls_17 sp.1) : arR hp (g + 175) 5) : rdR hp (g + 175)), (State_6 (Cls_17 sp.1) : aln hp (g + 175) = 8), (State_8 (Cls_17 sp.1) : arL hp (g + 176)), (State_9 (Cls_17 sp.1) : aln hp (g + 176) = 8), (Mem_0 (State_4 (Cls_17 sp.1)) : ob hp (g + 173) 5), (eq_true (isI_ob (Mem_0 (State_4 (Cls_17 sp.1)) : ob hp (g + 173) 5) rfl : isI hp (g + 173) 1)), (eq_true (isI_ob (Mem_0 (State_4 (Cls_17 sp.1)) : ob hp (g + 173) 5) rfl : isI hp (g + 173) 2)), (rf_g (Mem_1 (State_4 (Cls_17 sp.1)) : rf hp (g + 173) 0 (g + 174)) : gR hp (g + 173) 0 = (g + 174)), (rf_is (Mem_1 (State_4 (Cls_17 sp.1)) : rf hp (g + 173) 0 (g + 174)) : isR hp (g + 173) 0), (Mem_2 (State_4 (Cls_17 sp.1)) : arI hp (g + 174) 2), (rdB_2 (Mem_2 (State_4 (Cls_17 sp.1)) : arI hp (g + 174) 2) : rdB hp (g + 174)), (Mem_3 (State_4 (Cls_17 sp.1)) : aln hp (g + 174) = 256), (Cls_0 sp.1 : ob hp g 10), (rf_g (Cls_3 sp.1 : rf hp g 6 (g + 172)) : gR hp g 6 = (g + 172)), (rf_is (Cls_3 sp.1 : rf hp g 6 (g + 172)) : isR hp g 6), c_stackAddress _ _ sp, gl, gf, e1, t36, tst, mm, c_refusalOf, c_refuses, a5, vkk_n, vkk_i, vkk_r, vkk_l, vkk_d, catS_nil, catS_i, catS_r, catS_l, catS_d, Nat.reduceAdd, Nat.reduceLeDiff, Nat.zero_le, Nat.le_refl, Option.bind_some, Option.toList_some, Option.toList_none, List.cons_append, List.nil_append, or_true, true_or, if_true, if_false, Int32.reduceLT, Int32.reduceLE, not_true, not_false_iff, true_and, and_true, false_and, and_false]
      · intro h1 sh hr g18 g57
        obtain ⟨w1, u1, u2, u3⟩ := l_fitM g h1 sh 8 0 0 rfl
        have u1' : ev 227 4 [some (.ref (g + 266)), some (.int 0), some (.int 0)] [] h1 = ev 227 31 [some (.ref (g + 266)), some (.int w1), some (.int 8)] [] h1 := u1
        obtain rfl := u2 (fun r r1 r2 => by rw [hr, mr r r2, ← cr]; exact c1 r r1 r2)
        have lo := nI_lt36 (Nat.lt_of_not_le q)
        have om : ob h1 (g + 266) 11 := Mod_0 sh.2.1
        have m2 := (msy_0 h1 (g + 266) 5 (by decide) om).2
        simp +decide only [e227_0, e227_1, e227_2, e227_3, u1', vkk_n, vkk_i, vkk_r, vkk_l, vkk_d, catS_nil, catS_i, catS_r, catS_l, catS_d, Nat.reduceAdd, Nat.reduceLeDiff, Nat.zero_le, Nat.le_refl, Option.bind_some, Option.toList_some, Option.toList_none, List.cons_append, List.nil_append, or_true, true_or, if_true, if_false, Int32.reduceLT, Int32.reduceLE, not_true, not_false_iff, true_and, and_true, false_and, and_false]
        simp +decide only [e227_31, e227_32, e227_35, e227_36, e227_39, e227_41, e227_44, e227_45, e227_46, e227_47, e227_48, e227_51, e227_54, e227_55, e226_0, e226_1, e226_4, e226_6, e226_7, e226_10, e226_11, e226_12, (Mod_0 sh.2.1 : ob h1 (g + 266) 11), (rf_g (Mod_94 sh.2.1 : rf h1 (g + 266) 56 (g + 298)) : gR h1 (g + 266) 56 = (g + 298)), (rf_is (Mod_94 sh.2.1 : rf h1 (g + 266) 56 (g + 298)) : isR h1 (g + 266) 56), (Mod_95 sh.2.1 : arL h1 (g + 298)), (Mod_96 sh.2.1 : aln h1 (g + 298) = 8), om, g18, g57, t36, tst, lo, c_m_says, m2, if_true, if_false, vkk_n, vkk_i, vkk_r, vkk_l, vkk_d, catS_nil, catS_i, catS_r, catS_l, catS_d, Nat.reduceAdd, Nat.reduceLeDiff, Nat.zero_le, Nat.le_refl, Option.bind_some, Option.toList_some, Option.toList_none, List.cons_append, List.nil_append, or_true, true_or, if_true, if_false, Int32.reduceLT, Int32.reduceLE, not_true, not_false_iff, true_and, and_true, false_and, and_false]
  · have c2' : ev 130 7 [some (.ref g), some (.int 0), none] [] (cRf h g 0) = some (some (.int (-1)), rfs (cRf h g 0) g 6) := c2
    rw [cRf_0] at c2'
    refine bad 6 (by decide) (by decide) ?_ ?_
    · rw [rfs_0 h g 6 ho] at c2'
      simp +decide only [e130_0, e130_1, e130_2, e130_5, e130_6, ho, c2', vkk_n, vkk_i, vkk_r, vkk_l, vkk_d, catS_nil, catS_i, catS_r, catS_l, catS_d, Nat.reduceAdd, Nat.reduceLeDiff, Nat.zero_le, Nat.le_refl, Option.bind_some, Option.toList_some, Option.toList_none, List.cons_append, List.nil_append, or_true, true_or, if_true, if_false, Int32.reduceLT, Int32.reduceLE, not_true, not_false_iff, true_and, and_true, false_and, and_false]
    · intro h1 sh hr g18 g57
      obtain ⟨w1, u1, u2, u3⟩ := l_fitM g h1 sh 8 0 0 rfl
      have u1' : ev 227 4 [some (.ref (g + 266)), some (.int 0), some (.int 0)] [] h1 = ev 227 31 [some (.ref (g + 266)), some (.int w1), some (.int 8)] [] h1 := u1
      obtain rfl := u3 ⟨r, r1, r2, by rw [hr, mr r r2, ← cr]; exact r3⟩
      have om : ob h1 (g + 266) 11 := Mod_0 sh.2.1
      have m2 := (msy_0 h1 (g + 266) 6 (by decide) om).2
      simp +decide only [e227_0, e227_1, e227_2, e227_3, u1', vkk_n, vkk_i, vkk_r, vkk_l, vkk_d, catS_nil, catS_i, catS_r, catS_l, catS_d, Nat.reduceAdd, Nat.reduceLeDiff, Nat.zero_le, Nat.le_refl, Option.bind_some, Option.toList_some, Option.toList_none, List.cons_append, List.nil_append, or_true, true_or, if_true, if_false, Int32.reduceLT, Int32.reduceLE, not_true, not_false_iff, true_and, and_true, false_and, and_false]
      simp +decide only [e227_31, e227_32, e227_35, e227_36, e227_39, e227_41, e227_44, e227_45, e227_46, e227_47, e227_48, e227_51, e227_54, e227_55, om, c_m_says, m2, vkk_n, vkk_i, vkk_r, vkk_l, vkk_d, catS_nil, catS_i, catS_r, catS_l, catS_d, Nat.reduceAdd, Nat.reduceLeDiff, Nat.zero_le, Nat.le_refl, Option.bind_some, Option.toList_some, Option.toList_none, List.cons_append, List.nil_append, or_true, true_or, if_true, if_false, Int32.reduceLT, Int32.reduceLE, not_true, not_false_iff, true_and, and_true, false_and, and_false]
