/-! put -/
def cPut (c : Int32) : Prop := c = -2 ∨ ∃ j, j < 10 ∧ c = nI j
theorem m2_ne {j : Nat} (hj : j < 1000) : ¬ nI j = -2 := fun z => by
  have h3 : (nI j).toInt = (j : Int) := nI_toInt (by omega)
  rw [z] at h3
  have h4 : (-2 : Int32).toInt = -2 := rfl
  omega
theorem kNum_n {j : Nat} (hj : j < 12) : kNum (nI j) = if j < 8 then 1 else 0 := by
  have : ∀ j : Fin 12, kNum (nI j.val) = if j.val < 8 then 1 else 0 := by decide
  exact this ⟨j, hj⟩
theorem kWid_8 {j s : Nat} (hj : j < 12) (h8 : 8 ≤ j) (hs : s < 8) : kWid (nI j) (nI s) = 0 := by
  have : ∀ j : Fin 12, ∀ s : Fin 8, 8 ≤ j.val → kWid (nI j.val) (nI s.val) = 0 := by decide +kernel
  exact this ⟨j, hj⟩ ⟨s, hs⟩ h8
theorem kTak_lo {s j : Nat} (hs : s < 8) (hj : j < 10) : kTak (nI s) (nI j) = 0 ↔ kWid (nI j) (nI s) = 0 := by
  have : ∀ s : Fin 8, ∀ j : Fin 10, kTak (nI s.val) (nI j.val) = 0 ↔ kWid (nI j.val) (nI s.val) = 0 := by decide +kernel
  exact this ⟨s, hs⟩ ⟨j, hj⟩
/-- what lies in the cell behind it -/
def pK (s : Nat) (c : Int32) : Int32 := if s < 8 then nI s else c
def pX (s : Nat) (c : Int32) (x : Int64) : Int64 := if s < 8 then kWdn x c (nI s) else x
theorem put_ok {s n : Nat} {i c : Int32} (hs : s < 12) (hn : n ≤ 40) (hc : cPut c) (h : putRef (nI s) (nI n) i c = 0) : s < 10 ∧ (∃ j, j < n ∧ i = nI j) ∧ (s < 8 → ∃ j, j < 8 ∧ c = nI j ∧ ¬ kWid (nI j) (nI s) = 0) ∧ (s = 9 → c = -2 ∨ c = 8) := by
  unfold putRef at h
  have l7 : nI s ≤ 7 ↔ s < 8 := (nI_leI (b := 7) (by omega) (by decide)).trans (by omega)
  by_cases q : nI s ≤ 7 ∧ c = -2
  · rw [if_pos q] at h
    exact absurd h (by decide)
  · rw [if_neg q] at h
    by_cases q1 : celRef (nI s) (nI n) i = 0
    · rw [if_pos q1] at h
      have a := cel_ok hs hn q1
      refine ⟨a.1, a.2, fun h8 => ?_, fun h9 => ?_⟩
      · have n7 := l7.mpr h8
        obtain rfl | ⟨j, hj, rfl⟩ := hc
        · exact absurd ⟨n7, rfl⟩ q
        · have k1 : ¬ kTak (nI s) (nI j) = 0 := by
            intro z
            rw [if_pos z] at h
            exact absurd h (by decide)
          have k2 : ¬ kWid (nI j) (nI s) = 0 := fun z => k1 ((kTak_lo h8 hj).mpr z)
          refine ⟨j, ?_, rfl, k2⟩
          rcases Nat.lt_or_ge j 8 with z | z
          · exact z
          · exact absurd (kWid_8 (by omega) z h8) k2
      · unfold kTak at h
        have n7 : ¬ nI s ≤ 7 := fun z => by have := l7.mp z; omega
        have n8 : ¬ nI s = 8 := fun z => by have := (nI_eq (b := 8) (by omega) (by decide)).mp z; omega
        rw [if_neg n7, if_neg n8] at h
        by_cases c8 : c = 8
        · exact Or.inr c8
        · by_cases c2 : c = -2
          · exact Or.inl c2
          · rw [if_neg c8, if_neg c2, if_pos rfl] at h
            exact absurd h (by decide)
    · rw [if_neg q1] at h
      exact absurd h q1
set_option maxHeartbeats 4000000 in
theorem c_m_comes_no (h : VG) (g b s n : Nat) (i c : Int32) (hs : Sh h g) (hb : b < 8) (es : aI h (g + 285) b = nI s) (en : aI h (g + 286) b = nI n) (hs' : s < 12) (hn : n ≤ 40) (hc0 : cPut c) (hv : gI h (g + 266) 38 = c) (hq : ¬ putRef (nI s) (nI n) i c = 0) : ev 194 0 [some (.ref (g + 266)), some (.int (nI b)), some (.int i), none] [] h = some (some (.int (putRef (nI s) (nI n) i c)), h) := by
  have hi : vp_in (nI b) 8 := vp_in_nI hb (by decide)
  have hc : (nI b).toNatClampNeg = b := nI_clamp (by omega)
  have w1 := c_m_hasCell h g b n i hs hb en hn
  have b11 : nI s = 11 ↔ s = 11 := nI_eq (b := 11) (by omega) (by decide)
  have b10 : nI s = 10 ↔ s = 10 := nI_eq (b := 10) (by omega) (by decide)
  have b9 : nI s = 9 ↔ s = 9 := nI_eq (b := 9) (by omega) (by decide)
  have b8 : nI s = 8 ↔ s = 8 := nI_eq (b := 8) (by omega) (by decide)
  have l7 : nI s ≤ 7 ↔ s < 8 := (nI_leI (b := 7) (by omega) (by decide)).trans (by omega)
  have l8 : nI s < 8 ↔ s < 8 := nI_ltI (b := 8) (by omega) (by decide)
  have f11 : nI s = 11 ∨ ¬ nI s = 11 := Classical.em _
  by_cases s11 : s = 11
  · have a1 := b11.mpr s11
    have a2 : ¬ nI s ≤ 7 := fun z => by have := l7.mp z; omega
    have e : putRef (nI s) (nI n) i c = 3 := by
      unfold putRef celRef rowRef
      simp +decide only [a1, if_true, if_false, true_and, and_true, false_and, and_false, not_true, not_false_iff]
    rw [e]
    simp +decide only [e194_0, e194_1, e194_4, e194_5, e194_6, e194_7, e194_8, e194_10, e194_13, e194_14, e194_15, e194_16, e194_18, e194_21, e194_22, e194_24, e194_27, e194_28, e194_31, e194_33, e194_36, e194_37, e194_38, e194_39, e194_40, e194_41, e194_44, e194_47, e194_48, e194_49, e194_50, e194_52, e194_55, e194_56, e194_59, e194_60, e194_63, e194_66, e194_69, e194_70, e194_72, e194_75, e194_76, e194_79, e194_81, e194_84, e194_85, e194_88, e194_90, e194_93, e194_94, e194_95, e194_96, e194_98, e194_101, e194_102, e194_103, e194_106, e194_107, e194_109, e194_110, e194_111, e194_112, e194_113, e194_116, e194_117, hi, hc, es, a1, (Mod_0 hs.2.1 : ob h (g + 266) 11), (rf_g (Mod_55 hs.2.1 : rf h (g + 266) 42 (g + 285)) : gR h (g + 266) 42 = (g + 285)), (rf_is (Mod_55 hs.2.1 : rf h (g + 266) 42 (g + 285)) : isR h (g + 266) 42), (Mod_56 hs.2.1 : arI h (g + 285) 0), (rdI_0 (Mod_56 hs.2.1 : arI h (g + 285) 0) : rdI h (g + 285)), (Mod_57 hs.2.1 : aln h (g + 285) = 8), Nat.add_assoc, Nat.reduceAdd, Nat.add_left_cancel_iff, Nat.reduceEqDiff, Nat.add_eq_left, Nat.left_eq_add, vkk_n, vkk_i, vkk_r, vkk_l, vkk_d, catS_nil, catS_i, catS_r, catS_l, catS_d, Nat.reduceAdd, Nat.reduceLeDiff, Nat.zero_le, Nat.le_refl, Option.bind_some, Option.toList_some, Option.toList_none, List.cons_append, List.nil_append, or_true, true_or, if_true, if_false, Int32.reduceLT, Int32.reduceLE, not_true, not_false_iff, true_and, and_true, false_and, and_false]
  · have a1 : ¬ nI s = 11 := fun z => s11 (b11.mp z)
    by_cases s10 : s = 10
    · have a2 := b10.mpr s10
      have e : putRef (nI s) (nI n) i c = 2 := by
        unfold putRef celRef rowRef
        simp +decide only [a2, if_true, if_false, true_and, and_true, false_and, and_false, not_true, not_false_iff]
      rw [e]
      simp +decide only [e194_0, e194_1, e194_4, e194_5, e194_6, e194_7, e194_8, e194_10, e194_13, e194_14, e194_15, e194_16, e194_18, e194_21, e194_22, e194_24, e194_27, e194_28, e194_31, e194_33, e194_36, e194_37, e194_38, e194_39, e194_40, e194_41, e194_44, e194_47, e194_48, e194_49, e194_50, e194_52, e194_55, e194_56, e194_59, e194_60, e194_63, e194_66, e194_69, e194_70, e194_72, e194_75, e194_76, e194_79, e194_81, e194_84, e194_85, e194_88, e194_90, e194_93, e194_94, e194_95, e194_96, e194_98, e194_101, e194_102, e194_103, e194_106, e194_107, e194_109, e194_110, e194_111, e194_112, e194_113, e194_116, e194_117, hi, hc, es, a1, a2, (Mod_0 hs.2.1 : ob h (g + 266) 11), (rf_g (Mod_55 hs.2.1 : rf h (g + 266) 42 (g + 285)) : gR h (g + 266) 42 = (g + 285)), (rf_is (Mod_55 hs.2.1 : rf h (g + 266) 42 (g + 285)) : isR h (g + 266) 42), (Mod_56 hs.2.1 : arI h (g + 285) 0), (rdI_0 (Mod_56 hs.2.1 : arI h (g + 285) 0) : rdI h (g + 285)), (Mod_57 hs.2.1 : aln h (g + 285) = 8), Nat.add_assoc, Nat.reduceAdd, Nat.add_left_cancel_iff, Nat.reduceEqDiff, Nat.add_eq_left, Nat.left_eq_add, vkk_n, vkk_i, vkk_r, vkk_l, vkk_d, catS_nil, catS_i, catS_r, catS_l, catS_d, Nat.reduceAdd, Nat.reduceLeDiff, Nat.zero_le, Nat.le_refl, Option.bind_some, Option.toList_some, Option.toList_none, List.cons_append, List.nil_append, or_true, true_or, if_true, if_false, Int32.reduceLT, Int32.reduceLE, not_true, not_false_iff, true_and, and_true, false_and, and_false]
    · have a2 : ¬ nI s = 10 := fun z => s10 (b10.mp z)
      have r0 : rowRef (nI s) = 0 := by
        unfold rowRef
        rw [if_neg a1, if_neg a2]
      by_cases s8 : s < 8
      · have a3 := l7.mpr s8
        have a4 := l8.mpr s8
        have a9 : ¬ nI s = 9 := fun z => by have := b9.mp z; omega
        by_cases c2 : c = -2
        · have e : putRef (nI s) (nI n) i c = 2 := by
            unfold putRef
            rw [if_pos ⟨a3, c2⟩]
          rw [e]
          simp +decide only [e194_0, e194_1, e194_4, e194_5, e194_6, e194_7, e194_8, e194_10, e194_13, e194_14, e194_15, e194_16, e194_18, e194_21, e194_22, e194_24, e194_27, e194_28, e194_31, e194_33, e194_36, e194_37, e194_38, e194_39, e194_40, e194_41, e194_44, e194_47, e194_48, e194_49, e194_50, e194_52, e194_55, e194_56, e194_59, e194_60, e194_63, e194_66, e194_69, e194_70, e194_72, e194_75, e194_76, e194_79, e194_81, e194_84, e194_85, e194_88, e194_90, e194_93, e194_94, e194_95, e194_96, e194_98, e194_101, e194_102, e194_103, e194_106, e194_107, e194_109, e194_110, e194_111, e194_112, e194_113, e194_116, e194_117, hi, hc, es, a1, a2, a4, hv, c2, (Mod_0 hs.2.1 : ob h (g + 266) 11), (rf_g (Mod_55 hs.2.1 : rf h (g + 266) 42 (g + 285)) : gR h (g + 266) 42 = (g + 285)), (rf_is (Mod_55 hs.2.1 : rf h (g + 266) 42 (g + 285)) : isR h (g + 266) 42), (Mod_56 hs.2.1 : arI h (g + 285) 0), (rdI_0 (Mod_56 hs.2.1 : arI h (g + 285) 0) : rdI h (g + 285)), (Mod_57 hs.2.1 : aln h (g + 285) = 8), Nat.add_assoc, Nat.reduceAdd, Nat.add_left_cancel_iff, Nat.reduceEqDiff, Nat.add_eq_left, Nat.left_eq_add, vkk_n, vkk_i, vkk_r, vkk_l, vkk_d, catS_nil, catS_i, catS_r, catS_l, catS_d, Nat.reduceAdd, Nat.reduceLeDiff, Nat.zero_le, Nat.le_refl, Option.bind_some, Option.toList_some, Option.toList_none, List.cons_append, List.nil_append, or_true, true_or, if_true, if_false, Int32.reduceLT, Int32.reduceLE, not_true, not_false_iff, true_and, and_true, false_and, and_false]
        · obtain ⟨j, hj, rfl⟩ := hc0.resolve_left c2
          have w2 := c_m_wid h (show j < 12 by omega) hs'
          rcases plc_b (nI n) i with p | p
          · rw [p] at w1
            rw [if_pos rfl] at w1
            have e : putRef (nI s) (nI n) i (nI j) = 2 ∧ kWid (nI j) (nI s) = 0 := by
              unfold putRef celRef at hq ⊢
              rw [if_neg (fun z => c2 z.2), r0, if_pos rfl, p, if_pos rfl] at hq ⊢
              by_cases k0 : kTak (nI s) (nI j) = 0
              · rw [if_pos k0]
                exact ⟨rfl, (kTak_lo s8 hj).mp k0⟩
              · rw [if_neg k0] at hq
                exact absurd rfl hq
            rw [e.1]
            have k0 := e.2
            simp +decide only [e194_0, e194_1, e194_4, e194_5, e194_6, e194_7, e194_8, e194_10, e194_13, e194_14, e194_15, e194_16, e194_18, e194_21, e194_22, e194_24, e194_27, e194_28, e194_31, e194_33, e194_36, e194_37, e194_38, e194_39, e194_40, e194_41, e194_44, e194_47, e194_48, e194_49, e194_50, e194_52, e194_55, e194_56, e194_59, e194_60, e194_63, e194_66, e194_69, e194_70, e194_72, e194_75, e194_76, e194_79, e194_81, e194_84, e194_85, e194_88, e194_90, e194_93, e194_94, e194_95, e194_96, e194_98, e194_101, e194_102, e194_103, e194_106, e194_107, e194_109, e194_110, e194_111, e194_112, e194_113, e194_116, e194_117, hi, hc, es, a1, a2, a4, hv, c2, w1, w2, k0, (Mod_0 hs.2.1 : ob h (g + 266) 11), (rf_g (Mod_55 hs.2.1 : rf h (g + 266) 42 (g + 285)) : gR h (g + 266) 42 = (g + 285)), (rf_is (Mod_55 hs.2.1 : rf h (g + 266) 42 (g + 285)) : isR h (g + 266) 42), (Mod_56 hs.2.1 : arI h (g + 285) 0), (rdI_0 (Mod_56 hs.2.1 : arI h (g + 285) 0) : rdI h (g + 285)), (Mod_57 hs.2.1 : aln h (g + 285) = 8), Nat.add_assoc, Nat.reduceAdd, Nat.add_left_cancel_iff, Nat.reduceEqDiff, Nat.add_eq_left, Nat.left_eq_add, vkk_n, vkk_i, vkk_r, vkk_l, vkk_d, catS_nil, catS_i, catS_r, catS_l, catS_d, Nat.reduceAdd, Nat.reduceLeDiff, Nat.zero_le, Nat.le_refl, Option.bind_some, Option.toList_some, Option.toList_none, List.cons_append, List.nil_append, or_true, true_or, if_true, if_false, Int32.reduceLT, Int32.reduceLE, not_true, not_false_iff, true_and, and_true, false_and, and_false]
          · rw [p] at w1
            rw [if_neg (by decide)] at w1
            have e : putRef (nI s) (nI n) i (nI j) = 1 := by
              unfold putRef celRef
              rw [if_neg (fun z => c2 z.2), r0, if_pos rfl, p, if_neg (by decide)]
            rw [e]
            simp +decide only [e194_0, e194_1, e194_4, e194_5, e194_6, e194_7, e194_8, e194_10, e194_13, e194_14, e194_15, e194_16, e194_18, e194_21, e194_22, e194_24, e194_27, e194_28, e194_31, e194_33, e194_36, e194_37, e194_38, e194_39, e194_40, e194_41, e194_44, e194_47, e194_48, e194_49, e194_50, e194_52, e194_55, e194_56, e194_59, e194_60, e194_63, e194_66, e194_69, e194_70, e194_72, e194_75, e194_76, e194_79, e194_81, e194_84, e194_85, e194_88, e194_90, e194_93, e194_94, e194_95, e194_96, e194_98, e194_101, e194_102, e194_103, e194_106, e194_107, e194_109, e194_110, e194_111, e194_112, e194_113, e194_116, e194_117, hi, hc, es, a1, a2, a4, hv, c2, w1, (Mod_0 hs.2.1 : ob h (g + 266) 11), (rf_g (Mod_55 hs.2.1 : rf h (g + 266) 42 (g + 285)) : gR h (g + 266) 42 = (g + 285)), (rf_is (Mod_55 hs.2.1 : rf h (g + 266) 42 (g + 285)) : isR h (g + 266) 42), (Mod_56 hs.2.1 : arI h (g + 285) 0), (rdI_0 (Mod_56 hs.2.1 : arI h (g + 285) 0) : rdI h (g + 285)), (Mod_57 hs.2.1 : aln h (g + 285) = 8), Nat.add_assoc, Nat.reduceAdd, Nat.add_left_cancel_iff, Nat.reduceEqDiff, Nat.add_eq_left, Nat.left_eq_add, vkk_n, vkk_i, vkk_r, vkk_l, vkk_d, catS_nil, catS_i, catS_r, catS_l, catS_d, Nat.reduceAdd, Nat.reduceLeDiff, Nat.zero_le, Nat.le_refl, Option.bind_some, Option.toList_some, Option.toList_none, List.cons_append, List.nil_append, or_true, true_or, if_true, if_false, Int32.reduceLT, Int32.reduceLE, not_true, not_false_iff, true_and, and_true, false_and, and_false]
      · have a3 : ¬ nI s ≤ 7 := fun z => s8 (l7.mp z)
        have a4 : ¬ nI s < 8 := fun z => s8 (l8.mp z)
        rcases plc_b (nI n) i with p | p
        · rw [p] at w1
          rw [if_pos rfl] at w1
          have e : putRef (nI s) (nI n) i c = 2 ∧ nI s = 9 ∧ ¬ c = 8 ∧ ¬ c = -2 := by
            unfold putRef celRef kTak at hq ⊢
            rw [if_neg (fun z => a3 z.1), r0, if_pos rfl, p, if_pos rfl, if_neg a3] at hq ⊢
            by_cases q8 : nI s = 8
            · rw [if_pos q8] at hq
              exact absurd (by decide) hq
            · have q9 : nI s = 9 := b9.mpr (by have : ¬ s = 8 := fun z => q8 (b8.mpr z); omega)
              rw [if_neg q8] at hq ⊢
              by_cases c8 : c = 8
              · rw [if_pos c8] at hq
                exact absurd (by decide) hq
              · rw [if_neg c8] at hq ⊢
                by_cases c2 : c = -2
                · rw [if_pos c2] at hq
                  exact absurd (by decide) hq
                · rw [if_neg c2, if_pos rfl]
                  exact ⟨rfl, q9, c8, c2⟩
          obtain ⟨e1, e2, e3, e4⟩ := e
          rw [e1]
          simp +decide only [e194_0, e194_1, e194_4, e194_5, e194_6, e194_7, e194_8, e194_10, e194_13, e194_14, e194_15, e194_16, e194_18, e194_21, e194_22, e194_24, e194_27, e194_28, e194_31, e194_33, e194_36, e194_37, e194_38, e194_39, e194_40, e194_41, e194_44, e194_47, e194_48, e194_49, e194_50, e194_52, e194_55, e194_56, e194_59, e194_60, e194_63, e194_66, e194_69, e194_70, e194_72, e194_75, e194_76, e194_79, e194_81, e194_84, e194_85, e194_88, e194_90, e194_93, e194_94, e194_95, e194_96, e194_98, e194_101, e194_102, e194_103, e194_106, e194_107, e194_109, e194_110, e194_111, e194_112, e194_113, e194_116, e194_117, hi, hc, es, a1, a2, a4, hv, w1, e2, e3, e4, (Mod_0 hs.2.1 : ob h (g + 266) 11), (rf_g (Mod_55 hs.2.1 : rf h (g + 266) 42 (g + 285)) : gR h (g + 266) 42 = (g + 285)), (rf_is (Mod_55 hs.2.1 : rf h (g + 266) 42 (g + 285)) : isR h (g + 266) 42), (Mod_56 hs.2.1 : arI h (g + 285) 0), (rdI_0 (Mod_56 hs.2.1 : arI h (g + 285) 0) : rdI h (g + 285)), (Mod_57 hs.2.1 : aln h (g + 285) = 8), Nat.add_assoc, Nat.reduceAdd, Nat.add_left_cancel_iff, Nat.reduceEqDiff, Nat.add_eq_left, Nat.left_eq_add, vkk_n, vkk_i, vkk_r, vkk_l, vkk_d, catS_nil, catS_i, catS_r, catS_l, catS_d, Nat.reduceAdd, Nat.reduceLeDiff, Nat.zero_le, Nat.le_refl, Option.bind_some, Option.toList_some, Option.toList_none, List.cons_append, List.nil_append, or_true, true_or, if_true, if_false, Int32.reduceLT, Int32.reduceLE, not_true, not_false_iff, true_and, and_true, false_and, and_false]
        · rw [p] at w1
          rw [if_neg (by decide)] at w1
          have e : putRef (nI s) (nI n) i c = 1 := by
            unfold putRef celRef
            rw [if_neg (fun z => a3 z.1), r0, if_pos rfl, p, if_neg (by decide)]
          rw [e]
          simp +decide only [e194_0, e194_1, e194_4, e194_5, e194_6, e194_7, e194_8, e194_10, e194_13, e194_14, e194_15, e194_16, e194_18, e194_21, e194_22, e194_24, e194_27, e194_28, e194_31, e194_33, e194_36, e194_37, e194_38, e194_39, e194_40, e194_41, e194_44, e194_47, e194_48, e194_49, e194_50, e194_52, e194_55, e194_56, e194_59, e194_60, e194_63, e194_66, e194_69, e194_70, e194_72, e194_75, e194_76, e194_79, e194_81, e194_84, e194_85, e194_88, e194_90, e194_93, e194_94, e194_95, e194_96, e194_98, e194_101, e194_102, e194_103, e194_106, e194_107, e194_109, e194_110, e194_111, e194_112, e194_113, e194_116, e194_117, hi, hc, es, a1, a2, a4, hv, w1, (Mod_0 hs.2.1 : ob h (g + 266) 11), (rf_g (Mod_55 hs.2.1 : rf h (g + 266) 42 (g + 285)) : gR h (g + 266) 42 = (g + 285)), (rf_is (Mod_55 hs.2.1 : rf h (g + 266) 42 (g + 285)) : isR h (g + 266) 42), (Mod_56 hs.2.1 : arI h (g + 285) 0), (rdI_0 (Mod_56 hs.2.1 : arI h (g + 285) 0) : rdI h (g + 285)), (Mod_57 hs.2.1 : aln h (g + 285) = 8), Nat.add_assoc, Nat.reduceAdd, Nat.add_left_cancel_iff, Nat.reduceEqDiff, Nat.add_eq_left, Nat.left_eq_add, vkk_n, vkk_i, vkk_r, vkk_l, vkk_d, catS_nil, catS_i, catS_r, catS_l, catS_d, Nat.reduceAdd, Nat.reduceLeDiff, Nat.zero_le, Nat.le_refl, Option.bind_some, Option.toList_some, Option.toList_none, List.cons_append, List.nil_append, or_true, true_or, if_true, if_false, Int32.reduceLT, Int32.reduceLE, not_true, not_false_iff, true_and, and_true, false_and, and_false]
set_option maxHeartbeats 4000000 in
theorem c_m_comes_ok (h : VG) (g b s n i : Nat) (c : Int32) (x : Int64) (z0 : Int32) (hs : Sh h g) (hb : b < 8) (es : aI h (g + 285) b = nI s) (en : aI h (g + 286) b = nI n) (hs' : s < 12) (hn : n ≤ 40) (h10 : s < 10) (hi : i < n) (hc8 : s < 8 → ∃ j, j < 8 ∧ c = nI j ∧ ¬ kWid (nI j) (nI s) = 0) (hc9 : s = 9 → c = -2 ∨ c = 8) (hcar : Car h (g + 266) c z0 x) : ∃ h1, ev 194 0 [some (.ref (g + 266)), some (.int (nI b)), some (.int (nI i)), none] [] h = some (some (.int 0), h1) ∧ Lay h h1 g (40 * b + i) (pK s c) (pX s c x) := by
  have hib : vp_in (nI b) 8 := vp_in_nI hb (by decide)
  have hc : (nI b).toNatClampNeg = b := nI_clamp (by omega)
  have w1 := c_m_hasCell h g b n (nI i) hs hb en hn
  rw [plc_0 hi hn, if_pos rfl] at w1
  have a1 : ¬ nI s = 11 := fun z => by have := (nI_eq (b := 11) (by omega) (by decide)).mp z; omega
  have a2 : ¬ nI s = 10 := fun z => by have := (nI_eq (b := 10) (by omega) (by decide)).mp z; omega
  have o0 : ob h (g + 266) 11 := Mod_0 hs.2.1
  have hv := hcar.1
  by_cases s8 : s < 8
  · obtain ⟨j, hj, rfl, hw⟩ := hc8 s8
    have a4 : nI s < 8 := nI_lt (b := 8) s8 (by decide)
    have c2 := m2_ne (show j < 1000 by omega)
    have w2 := c_m_wid h (show j < 12 by omega) hs'
    obtain ⟨h1, u1, u2, u3⟩ := c_m_becomes h (g + 266) j s z0 x o0 hj s8 hw hcar
    have s1 : Sh h1 g := Sh_fr u2 (fun _ z => z.elim) hs
    have o1 : ob h1 (g + 266) 11 := Mod_0 s1.2.1
    obtain ⟨h2, v1, v2⟩ := c_m_lays h1 g (40 * b + i) (nI s) z0 (kWdn x (nI j) (nI s)) s1 (by omega) u3
    have e1 : pK s (nI j) = nI s := if_pos s8
    have e2 : pX s (nI j) x = kWdn x (nI j) (nI s) := if_pos s8
    rw [e1, e2]
    refine ⟨h2, ?_, (u2.mo (fun _ z => z.elim) (fun _ _ z => z)).tr v2.1, fun j hj => ?_, v2.2.2⟩
    · simp +decide only [e194_0, e194_1, e194_4, e194_5, e194_6, e194_7, e194_8, e194_10, e194_13, e194_14, e194_15, e194_16, e194_18, e194_21, e194_22, e194_24, e194_27, e194_28, e194_31, e194_33, e194_36, e194_37, e194_38, e194_39, e194_40, e194_41, e194_44, e194_47, e194_48, e194_49, e194_50, e194_52, e194_55, e194_56, e194_59, e194_60, e194_63, e194_66, e194_69, e194_70, e194_72, e194_75, e194_76, e194_79, e194_81, e194_84, e194_85, e194_88, e194_90, e194_93, e194_94, e194_95, e194_96, e194_98, e194_101, e194_102, e194_103, e194_106, e194_107, e194_109, e194_110, e194_111, e194_112, e194_113, e194_116, e194_117, hib, hc, es, a1, a2, a4, hv, c2, w1, w2, hw, nI_40, u1, v1, o1, (Mod_0 hs.2.1 : ob h (g + 266) 11), (rf_g (Mod_55 hs.2.1 : rf h (g + 266) 42 (g + 285)) : gR h (g + 266) 42 = (g + 285)), (rf_is (Mod_55 hs.2.1 : rf h (g + 266) 42 (g + 285)) : isR h (g + 266) 42), (Mod_56 hs.2.1 : arI h (g + 285) 0), (rdI_0 (Mod_56 hs.2.1 : arI h (g + 285) 0) : rdI h (g + 285)), (Mod_57 hs.2.1 : aln h (g + 285) = 8), Nat.add_assoc, Nat.reduceAdd, Nat.add_left_cancel_iff, Nat.reduceEqDiff, Nat.add_eq_left, Nat.left_eq_add, vkk_n, vkk_i, vkk_r, vkk_l, vkk_d, catS_nil, catS_i, catS_r, catS_l, catS_d, Nat.reduceAdd, Nat.reduceLeDiff, Nat.zero_le, Nat.le_refl, Option.bind_some, Option.toList_some, Option.toList_none, List.cons_append, List.nil_append, or_true, true_or, if_true, if_false, Int32.reduceLT, Int32.reduceLE, not_true, not_false_iff, true_and, and_true, false_and, and_false]
    · have a := v2.2.1 j hj
      rw [a.1, a.2.1, a.2.2]
      exact ⟨u2.I (fun z => z) _, u2.L (fun z => z) _, u2.D (fun z => z) _⟩
  · have a4 : ¬ nI s < 8 := fun z => s8 ((nI_ltI (b := 8) (by omega) (by decide)).mp z)
    obtain ⟨h2, v1, v2⟩ := c_m_lays h g (40 * b + i) c z0 x hs (by omega) hcar
    have e1 : pK s c = c := if_neg s8
    have e2 : pX s c x = x := if_neg s8
    rw [e1, e2]
    refine ⟨h2, ?_, v2⟩
    by_cases s9 : s = 9
    · have a9 : nI s = 9 := by rw [s9]; rfl
      rcases hc9 s9 with rfl | rfl
      · simp +decide only [e194_0, e194_1, e194_4, e194_5, e194_6, e194_7, e194_8, e194_10, e194_13, e194_14, e194_15, e194_16, e194_18, e194_21, e194_22, e194_24, e194_27, e194_28, e194_31, e194_33, e194_36, e194_37, e194_38, e194_39, e194_40, e194_41, e194_44, e194_47, e194_48, e194_49, e194_50, e194_52, e194_55, e194_56, e194_59, e194_60, e194_63, e194_66, e194_69, e194_70, e194_72, e194_75, e194_76, e194_79, e194_81, e194_84, e194_85, e194_88, e194_90, e194_93, e194_94, e194_95, e194_96, e194_98, e194_101, e194_102, e194_103, e194_106, e194_107, e194_109, e194_110, e194_111, e194_112, e194_113, e194_116, e194_117, hib, hc, es, a1, a2, a4, a9, hv, w1, nI_40, v1, (Mod_0 hs.2.1 : ob h (g + 266) 11), (rf_g (Mod_55 hs.2.1 : rf h (g + 266) 42 (g + 285)) : gR h (g + 266) 42 = (g + 285)), (rf_is (Mod_55 hs.2.1 : rf h (g + 266) 42 (g + 285)) : isR h (g + 266) 42), (Mod_56 hs.2.1 : arI h (g + 285) 0), (rdI_0 (Mod_56 hs.2.1 : arI h (g + 285) 0) : rdI h (g + 285)), (Mod_57 hs.2.1 : aln h (g + 285) = 8), Nat.add_assoc, Nat.reduceAdd, Nat.add_left_cancel_iff, Nat.reduceEqDiff, Nat.add_eq_left, Nat.left_eq_add, vkk_n, vkk_i, vkk_r, vkk_l, vkk_d, catS_nil, catS_i, catS_r, catS_l, catS_d, Nat.reduceAdd, Nat.reduceLeDiff, Nat.zero_le, Nat.le_refl, Option.bind_some, Option.toList_some, Option.toList_none, List.cons_append, List.nil_append, or_true, true_or, if_true, if_false, Int32.reduceLT, Int32.reduceLE, not_true, not_false_iff, true_and, and_true, false_and, and_false]
      · simp +decide only [e194_0, e194_1, e194_4, e194_5, e194_6, e194_7, e194_8, e194_10, e194_13, e194_14, e194_15, e194_16, e194_18, e194_21, e194_22, e194_24, e194_27, e194_28, e194_31, e194_33, e194_36, e194_37, e194_38, e194_39, e194_40, e194_41, e194_44, e194_47, e194_48, e194_49, e194_50, e194_52, e194_55, e194_56, e194_59, e194_60, e194_63, e194_66, e194_69, e194_70, e194_72, e194_75, e194_76, e194_79, e194_81, e194_84, e194_85, e194_88, e194_90, e194_93, e194_94, e194_95, e194_96, e194_98, e194_101, e194_102, e194_103, e194_106, e194_107, e194_109, e194_110, e194_111, e194_112, e194_113, e194_116, e194_117, hib, hc, es, a1, a2, a4, a9, hv, w1, nI_40, v1, (Mod_0 hs.2.1 : ob h (g + 266) 11), (rf_g (Mod_55 hs.2.1 : rf h (g + 266) 42 (g + 285)) : gR h (g + 266) 42 = (g + 285)), (rf_is (Mod_55 hs.2.1 : rf h (g + 266) 42 (g + 285)) : isR h (g + 266) 42), (Mod_56 hs.2.1 : arI h (g + 285) 0), (rdI_0 (Mod_56 hs.2.1 : arI h (g + 285) 0) : rdI h (g + 285)), (Mod_57 hs.2.1 : aln h (g + 285) = 8), Nat.add_assoc, Nat.reduceAdd, Nat.add_left_cancel_iff, Nat.reduceEqDiff, Nat.add_eq_left, Nat.left_eq_add, vkk_n, vkk_i, vkk_r, vkk_l, vkk_d, catS_nil, catS_i, catS_r, catS_l, catS_d, Nat.reduceAdd, Nat.reduceLeDiff, Nat.zero_le, Nat.le_refl, Option.bind_some, Option.toList_some, Option.toList_none, List.cons_append, List.nil_append, or_true, true_or, if_true, if_false, Int32.reduceLT, Int32.reduceLE, not_true, not_false_iff, true_and, and_true, false_and, and_false]
    · have a9 : ¬ nI s = 9 := fun z => s9 ((nI_eq (b := 9) (by omega) (by decide)).mp z)
      simp +decide only [e194_0, e194_1, e194_4, e194_5, e194_6, e194_7, e194_8, e194_10, e194_13, e194_14, e194_15, e194_16, e194_18, e194_21, e194_22, e194_24, e194_27, e194_28, e194_31, e194_33, e194_36, e194_37, e194_38, e194_39, e194_40, e194_41, e194_44, e194_47, e194_48, e194_49, e194_50, e194_52, e194_55, e194_56, e194_59, e194_60, e194_63, e194_66, e194_69, e194_70, e194_72, e194_75, e194_76, e194_79, e194_81, e194_84, e194_85, e194_88, e194_90, e194_93, e194_94, e194_95, e194_96, e194_98, e194_101, e194_102, e194_103, e194_106, e194_107, e194_109, e194_110, e194_111, e194_112, e194_113, e194_116, e194_117, hib, hc, es, a1, a2, a4, a9, hv, w1, nI_40, v1, (Mod_0 hs.2.1 : ob h (g + 266) 11), (rf_g (Mod_55 hs.2.1 : rf h (g + 266) 42 (g + 285)) : gR h (g + 266) 42 = (g + 285)), (rf_is (Mod_55 hs.2.1 : rf h (g + 266) 42 (g + 285)) : isR h (g + 266) 42), (Mod_56 hs.2.1 : arI h (g + 285) 0), (rdI_0 (Mod_56 hs.2.1 : arI h (g + 285) 0) : rdI h (g + 285)), (Mod_57 hs.2.1 : aln h (g + 285) = 8), Nat.add_assoc, Nat.reduceAdd, Nat.add_left_cancel_iff, Nat.reduceEqDiff, Nat.add_eq_left, Nat.left_eq_add, vkk_n, vkk_i, vkk_r, vkk_l, vkk_d, catS_nil, catS_i, catS_r, catS_l, catS_d, Nat.reduceAdd, Nat.reduceLeDiff, Nat.zero_le, Nat.le_refl, Option.bind_some, Option.toList_some, Option.toList_none, List.cons_append, List.nil_append, or_true, true_or, if_true, if_false, Int32.reduceLT, Int32.reduceLE, not_true, not_false_iff, true_and, and_true, false_and, and_false]
theorem put_k {k : Int32} : (∃ j, j < 11 ∧ k = nI j) ∨ ((k < 0 ∨ ¬ k ≤ 10) ∧ mIn k 0 10 = 0) := by
  by_cases h0 : k < 0
  · exact Or.inr ⟨Or.inl h0, mIn_0 h0⟩
  · by_cases h1 : k ≤ 10
    · exact Or.inl (vnat (n := 11) (by decide) h0 ((nI_lti (n := 10) (by decide)).mp h1))
    · exact Or.inr ⟨Or.inr h1, mIn_2 h1⟩
def pC (j : Nat) : Int32 := if j = 10 then -2 else nI j
theorem pC_put {j : Nat} (hj : j < 11) : cPut (pC j) := by
  unfold pC cPut
  split
  · exact Or.inl rfl
  · exact Or.inr ⟨j, by omega, rfl⟩
/-- the model's part of put up to the cell -/
theorem c_m_put0 (h : VG) (g j : Nat) (b i : Int32) (v : Int64) (hs : Sh h g) (hj : j < 11) (hb : mIn b 0 7 = 1) : ∃ h2 z, (∀ f h3, ev 194 0 [some (.ref (g + 266)), some (.int b), some (.int i), none] [] h2 = some (some (.int f), h3) → ¬ f < 0 → ob h3 (g + 266) 11 → ev 195 0 [some (.ref (g + 266)), some (.int b), some (.int i), some (.int (nI j)), some (.long v), none] [] h = some (some (.int (if f = 0 then 1 else 0)), mRf h3 (g + 266) f)) ∧ Fr NR (VF (g + 266)) (pI h (g + 266) 31 0) h2 ∧ Car h2 (g + 266) (pC j) z (kBox (pC j) v) := by
  have i1 : mIn (nI j) 0 10 = 1 := by
    have : ∀ j : Fin 11, mIn (nI j.val) 0 10 = 1 := by decide
    exact this ⟨j, hj⟩
  have b1 := fun h => mBin_c (h := h) hb
  have b2 := fun h => mIn_c (h := h) i1
  have s2 := m0_sh hs
  have ho : ob h (g + 266) 11 := Mod_0 hs.2.1
  have o2 : ob (pI h (g + 266) 31 0) (g + 266) 11 := Mod_0 s2.2.1
  by_cases j8 : j < 8
  · obtain ⟨h2, t1, t2, t3⟩ := c_m_made (pI h (g + 266) 31 0) (g + 266) j v o2 j8
    have o3 : ob h2 (g + 266) 11 := (ob_kp t2.1 ..).mpr o2
    have b3 := fun h => mNum_c (h := h) (c_kd1 j8).2
    have e1 : pC j = nI j := if_neg (by omega)
    have e2 : kBox (nI j) v = kMade v (nI j) := by
      unfold kBox
      rw [kNum_n (by omega), if_pos j8, if_neg (by decide)]
    rw [e1, e2]
    refine ⟨h2, 0, fun f h3 r1 hf o4 => ?_, t2, t3⟩
    have m2 := (msy_0 h3 (g + 266) f hf o4).2
    rcases Classical.em (f = 0) with rfl | f0
    · simp +decide only [e195_0, e195_1, e195_2, e195_5, e195_6, e195_9, e195_12, e195_13, e195_14, e195_16, e195_19, e195_22, e195_23, e195_24, e195_25, e195_28, e195_31, e195_32, e195_33, e195_35, e195_38, e195_41, e195_42, e195_43, e195_45, e195_48, e195_50, e195_53, e195_54, e195_56, e195_59, e195_61, e195_64, e195_66, e195_69, e195_70, e195_71, e195_73, e195_76, e195_78, e195_81, e195_82, e195_85, e195_86, e195_89, e195_90, e195_91, e195_92, e195_93, e195_96, e195_99, b1, b2, b3, ho, o2, o3, o4, t1, r1, c_m_says, m2, ob_pI, rf_pI, isR_pI, isI_pI, isL_pI, arI_pI, arL_pI, arR_pI, arD_pI, aln_pI, rdI_pI, rdB_pI, rdR_pI, aR_pI, pI_2, gI_pI, gL_pI, gD_pI, gR_pI, aI_pI, aL_pI, aD_pI, ob_pL, rf_pL, isR_pL, isI_pL, isL_pL, arI_pL, arL_pL, arR_pL, arD_pL, aln_pL, rdI_pL, rdB_pL, rdR_pL, aR_pL, pL_2, gI_pL, gL_pL, gD_pL, gR_pL, aI_pL, aL_pL, aD_pL, ob_wI, rf_wI, isR_wI, isI_wI, isL_wI, arI_wI, arL_wI, arR_wI, arD_wI, aln_wI, rdI_wI, rdB_wI, rdR_wI, aR_wI, wI_2, gI_wI, gL_wI, gD_wI, gR_wI, aL_wI, aD_wI, aI_wI_ne, ob_wL, rf_wL, isR_wL, isI_wL, isL_wL, arI_wL, arL_wL, arR_wL, arD_wL, aln_wL, rdI_wL, rdB_wL, rdR_wL, aR_wL, wL_2, gI_wL, gL_wL, gD_wL, gR_wL, aI_wL, aD_wL, aL_wL_ne, ob_bI, rf_bI, isR_bI, isI_bI, isL_bI, arI_bI, arL_bI, arR_bI, arD_bI, aln_bI, rdI_bI, rdB_bI, rdR_bI, aR_bI, bI_2, gI_bI, gL_bI, gD_bI, gR_bI, aL_bI, aD_bI, aI_bI_ne, ob_bL, rf_bL, isR_bL, isI_bL, isL_bL, arI_bL, arL_bL, arR_bL, arD_bL, aln_bL, rdI_bL, rdB_bL, rdR_bL, aR_bL, bL_2, gI_bL, gL_bL, gD_bL, gR_bL, aI_bL, aD_bL, aL_bL_ne, Nat.add_assoc, Nat.reduceAdd, Nat.add_left_cancel_iff, Nat.reduceEqDiff, Nat.add_eq_left, Nat.left_eq_add, vkk_n, vkk_i, vkk_r, vkk_l, vkk_d, catS_nil, catS_i, catS_r, catS_l, catS_d, Nat.reduceAdd, Nat.reduceLeDiff, Nat.zero_le, Nat.le_refl, Option.bind_some, Option.toList_some, Option.toList_none, List.cons_append, List.nil_append, or_true, true_or, if_true, if_false, Int32.reduceLT, Int32.reduceLE, not_true, not_false_iff, true_and, and_true, false_and, and_false]
    · simp +decide only [e195_0, e195_1, e195_2, e195_5, e195_6, e195_9, e195_12, e195_13, e195_14, e195_16, e195_19, e195_22, e195_23, e195_24, e195_25, e195_28, e195_31, e195_32, e195_33, e195_35, e195_38, e195_41, e195_42, e195_43, e195_45, e195_48, e195_50, e195_53, e195_54, e195_56, e195_59, e195_61, e195_64, e195_66, e195_69, e195_70, e195_71, e195_73, e195_76, e195_78, e195_81, e195_82, e195_85, e195_86, e195_89, e195_90, e195_91, e195_92, e195_93, e195_96, e195_99, b1, b2, b3, ho, o2, o3, o4, t1, r1, c_m_says, m2, f0, ob_pI, rf_pI, isR_pI, isI_pI, isL_pI, arI_pI, arL_pI, arR_pI, arD_pI, aln_pI, rdI_pI, rdB_pI, rdR_pI, aR_pI, pI_2, gI_pI, gL_pI, gD_pI, gR_pI, aI_pI, aL_pI, aD_pI, ob_pL, rf_pL, isR_pL, isI_pL, isL_pL, arI_pL, arL_pL, arR_pL, arD_pL, aln_pL, rdI_pL, rdB_pL, rdR_pL, aR_pL, pL_2, gI_pL, gL_pL, gD_pL, gR_pL, aI_pL, aL_pL, aD_pL, ob_wI, rf_wI, isR_wI, isI_wI, isL_wI, arI_wI, arL_wI, arR_wI, arD_wI, aln_wI, rdI_wI, rdB_wI, rdR_wI, aR_wI, wI_2, gI_wI, gL_wI, gD_wI, gR_wI, aL_wI, aD_wI, aI_wI_ne, ob_wL, rf_wL, isR_wL, isI_wL, isL_wL, arI_wL, arL_wL, arR_wL, arD_wL, aln_wL, rdI_wL, rdB_wL, rdR_wL, aR_wL, wL_2, gI_wL, gL_wL, gD_wL, gR_wL, aI_wL, aD_wL, aL_wL_ne, ob_bI, rf_bI, isR_bI, isI_bI, isL_bI, arI_bI, arL_bI, arR_bI, arD_bI, aln_bI, rdI_bI, rdB_bI, rdR_bI, aR_bI, bI_2, gI_bI, gL_bI, gD_bI, gR_bI, aL_bI, aD_bI, aI_bI_ne, ob_bL, rf_bL, isR_bL, isI_bL, isL_bL, arI_bL, arL_bL, arR_bL, arD_bL, aln_bL, rdI_bL, rdB_bL, rdR_bL, aR_bL, bL_2, gI_bL, gL_bL, gD_bL, gR_bL, aI_bL, aD_bL, aL_bL_ne, Nat.add_assoc, Nat.reduceAdd, Nat.add_left_cancel_iff, Nat.reduceEqDiff, Nat.add_eq_left, Nat.left_eq_add, vkk_n, vkk_i, vkk_r, vkk_l, vkk_d, catS_nil, catS_i, catS_r, catS_l, catS_d, Nat.reduceAdd, Nat.reduceLeDiff, Nat.zero_le, Nat.le_refl, Option.bind_some, Option.toList_some, Option.toList_none, List.cons_append, List.nil_append, or_true, true_or, if_true, if_false, Int32.reduceLT, Int32.reduceLE, not_true, not_false_iff, true_and, and_true, false_and, and_false]
  · have i0 : mIn (nI j) 0 7 = 0 := by
      rcases (show j = 8 ∨ j = 9 ∨ j = 10 by omega) with rfl | rfl | rfl <;> decide
    have b3 := fun h => mNum_c (h := h) i0
    have kn : ∀ c : Int32, c = 9 ∨ c = -2 → kBox c v = 0 := by
      intro c hc
      unfold kBox
      rcases hc with rfl | rfl
      · rw [if_pos (by decide), if_neg (by decide)]
      · rw [if_pos (by decide), if_neg (by decide)]
    rcases (show j = 8 ∨ j = 9 ∨ j = 10 by omega) with rfl | rfl | rfl
    · refine ⟨pL (pI (pI h (g + 266) 31 0) (g + 266) 38 8) (g + 266) 39 (v &&& 7), gI h (g + 266) 41, fun f h3 r1 hf o4 => ?_, (Fr_pI _ _ _ _ (VF_38 _)).tr (Fr_pL _ _ _ _ (VF_39 _)), ?_, ?_, ?_⟩
      · have m2 := (msy_0 h3 (g + 266) f hf o4).2
        rw [show (nI 8 : Int32) = 8 from rfl] at b2 b3 ⊢
        rcases Classical.em (f = 0) with rfl | f0
        · simp +decide only [e195_0, e195_1, e195_2, e195_5, e195_6, e195_9, e195_12, e195_13, e195_14, e195_16, e195_19, e195_22, e195_23, e195_24, e195_25, e195_28, e195_31, e195_32, e195_33, e195_35, e195_38, e195_41, e195_42, e195_43, e195_45, e195_48, e195_50, e195_53, e195_54, e195_56, e195_59, e195_61, e195_64, e195_66, e195_69, e195_70, e195_71, e195_73, e195_76, e195_78, e195_81, e195_82, e195_85, e195_86, e195_89, e195_90, e195_91, e195_92, e195_93, e195_96, e195_99, b1, b2, b3, ho, o2, o4, r1, c_m_says, m2, ob_pI, rf_pI, isR_pI, isI_pI, isL_pI, arI_pI, arL_pI, arR_pI, arD_pI, aln_pI, rdI_pI, rdB_pI, rdR_pI, aR_pI, pI_2, gI_pI, gL_pI, gD_pI, gR_pI, aI_pI, aL_pI, aD_pI, ob_pL, rf_pL, isR_pL, isI_pL, isL_pL, arI_pL, arL_pL, arR_pL, arD_pL, aln_pL, rdI_pL, rdB_pL, rdR_pL, aR_pL, pL_2, gI_pL, gL_pL, gD_pL, gR_pL, aI_pL, aL_pL, aD_pL, ob_wI, rf_wI, isR_wI, isI_wI, isL_wI, arI_wI, arL_wI, arR_wI, arD_wI, aln_wI, rdI_wI, rdB_wI, rdR_wI, aR_wI, wI_2, gI_wI, gL_wI, gD_wI, gR_wI, aL_wI, aD_wI, aI_wI_ne, ob_wL, rf_wL, isR_wL, isI_wL, isL_wL, arI_wL, arL_wL, arR_wL, arD_wL, aln_wL, rdI_wL, rdB_wL, rdR_wL, aR_wL, wL_2, gI_wL, gL_wL, gD_wL, gR_wL, aI_wL, aD_wL, aL_wL_ne, ob_bI, rf_bI, isR_bI, isI_bI, isL_bI, arI_bI, arL_bI, arR_bI, arD_bI, aln_bI, rdI_bI, rdB_bI, rdR_bI, aR_bI, bI_2, gI_bI, gL_bI, gD_bI, gR_bI, aL_bI, aD_bI, aI_bI_ne, ob_bL, rf_bL, isR_bL, isI_bL, isL_bL, arI_bL, arL_bL, arR_bL, arD_bL, aln_bL, rdI_bL, rdB_bL, rdR_bL, aR_bL, bL_2, gI_bL, gL_bL, gD_bL, gR_bL, aI_bL, aD_bL, aL_bL_ne, Nat.add_assoc, Nat.reduceAdd, Nat.add_left_cancel_iff, Nat.reduceEqDiff, Nat.add_eq_left, Nat.left_eq_add, vkk_n, vkk_i, vkk_r, vkk_l, vkk_d, catS_nil, catS_i, catS_r, catS_l, catS_d, Nat.reduceAdd, Nat.reduceLeDiff, Nat.zero_le, Nat.le_refl, Option.bind_some, Option.toList_some, Option.toList_none, List.cons_append, List.nil_append, or_true, true_or, if_true, if_false, Int32.reduceLT, Int32.reduceLE, not_true, not_false_iff, true_and, and_true, false_and, and_false]
        · simp +decide only [e195_0, e195_1, e195_2, e195_5, e195_6, e195_9, e195_12, e195_13, e195_14, e195_16, e195_19, e195_22, e195_23, e195_24, e195_25, e195_28, e195_31, e195_32, e195_33, e195_35, e195_38, e195_41, e195_42, e195_43, e195_45, e195_48, e195_50, e195_53, e195_54, e195_56, e195_59, e195_61, e195_64, e195_66, e195_69, e195_70, e195_71, e195_73, e195_76, e195_78, e195_81, e195_82, e195_85, e195_86, e195_89, e195_90, e195_91, e195_92, e195_93, e195_96, e195_99, b1, b2, b3, ho, o2, o4, r1, c_m_says, m2, f0, ob_pI, rf_pI, isR_pI, isI_pI, isL_pI, arI_pI, arL_pI, arR_pI, arD_pI, aln_pI, rdI_pI, rdB_pI, rdR_pI, aR_pI, pI_2, gI_pI, gL_pI, gD_pI, gR_pI, aI_pI, aL_pI, aD_pI, ob_pL, rf_pL, isR_pL, isI_pL, isL_pL, arI_pL, arL_pL, arR_pL, arD_pL, aln_pL, rdI_pL, rdB_pL, rdR_pL, aR_pL, pL_2, gI_pL, gL_pL, gD_pL, gR_pL, aI_pL, aL_pL, aD_pL, ob_wI, rf_wI, isR_wI, isI_wI, isL_wI, arI_wI, arL_wI, arR_wI, arD_wI, aln_wI, rdI_wI, rdB_wI, rdR_wI, aR_wI, wI_2, gI_wI, gL_wI, gD_wI, gR_wI, aL_wI, aD_wI, aI_wI_ne, ob_wL, rf_wL, isR_wL, isI_wL, isL_wL, arI_wL, arL_wL, arR_wL, arD_wL, aln_wL, rdI_wL, rdB_wL, rdR_wL, aR_wL, wL_2, gI_wL, gL_wL, gD_wL, gR_wL, aI_wL, aD_wL, aL_wL_ne, ob_bI, rf_bI, isR_bI, isI_bI, isL_bI, arI_bI, arL_bI, arR_bI, arD_bI, aln_bI, rdI_bI, rdB_bI, rdR_bI, aR_bI, bI_2, gI_bI, gL_bI, gD_bI, gR_bI, aL_bI, aD_bI, aI_bI_ne, ob_bL, rf_bL, isR_bL, isI_bL, isL_bL, arI_bL, arL_bL, arR_bL, arD_bL, aln_bL, rdI_bL, rdB_bL, rdR_bL, aR_bL, bL_2, gI_bL, gL_bL, gD_bL, gR_bL, aI_bL, aD_bL, aL_bL_ne, Nat.add_assoc, Nat.reduceAdd, Nat.add_left_cancel_iff, Nat.reduceEqDiff, Nat.add_eq_left, Nat.left_eq_add, vkk_n, vkk_i, vkk_r, vkk_l, vkk_d, catS_nil, catS_i, catS_r, catS_l, catS_d, Nat.reduceAdd, Nat.reduceLeDiff, Nat.zero_le, Nat.le_refl, Option.bind_some, Option.toList_some, Option.toList_none, List.cons_append, List.nil_append, or_true, true_or, if_true, if_false, Int32.reduceLT, Int32.reduceLE, not_true, not_false_iff, true_and, and_true, false_and, and_false]
      · show _ = pC 8
        simp +decide only [(eq_true (isI_ob ho rfl : isI h (g + 266) 38)), (eq_true (isL_ob ho rfl : isL h (g + 266) 39)), gI_pI, gL_pL, gI_pL, gL_pI, gD_pI, gD_pL, isI_pI, isI_pL, isL_pI, isL_pL, true_and, and_true, false_and, and_false, if_true, if_false, Nat.add_assoc, Nat.reduceAdd, Nat.add_left_cancel_iff, Nat.reduceEqDiff, Nat.add_eq_left, Nat.left_eq_add]
        try rfl
      · simp +decide only [(eq_true (isI_ob ho rfl : isI h (g + 266) 38)), (eq_true (isL_ob ho rfl : isL h (g + 266) 39)), gI_pI, gL_pL, gI_pL, gL_pI, gD_pI, gD_pL, isI_pI, isI_pL, isL_pI, isL_pL, true_and, and_true, false_and, and_false, if_true, if_false, Nat.add_assoc, Nat.reduceAdd, Nat.add_left_cancel_iff, Nat.reduceEqDiff, Nat.add_eq_left, Nat.left_eq_add]
      · show RNm 8 (kBox 8 v) _ _
        simp +decide only [(eq_true (isI_ob ho rfl : isI h (g + 266) 38)), (eq_true (isL_ob ho rfl : isL h (g + 266) 39)), gI_pI, gL_pL, gI_pL, gL_pI, gD_pI, gD_pL, isI_pI, isI_pL, isL_pI, isL_pL, true_and, and_true, false_and, and_false, if_true, if_false, Nat.add_assoc, Nat.reduceAdd, Nat.add_left_cancel_iff, Nat.reduceEqDiff, Nat.add_eq_left, Nat.left_eq_add]
        have e : kBox 8 v = v &&& 7 := by
          unfold kBox
          rw [if_pos (by decide), if_pos rfl]
        rw [e]
        exact RNm_lo (j := 8) (Or.inr rfl) rfl
    · refine ⟨pL (pI (pI h (g + 266) 31 0) (g + 266) 38 9) (g + 266) 39 (0), gI h (g + 266) 41, fun f h3 r1 hf o4 => ?_, (Fr_pI _ _ _ _ (VF_38 _)).tr (Fr_pL _ _ _ _ (VF_39 _)), ?_, ?_, ?_⟩
      · have m2 := (msy_0 h3 (g + 266) f hf o4).2
        rw [show (nI 9 : Int32) = 9 from rfl] at b2 b3 ⊢
        rcases Classical.em (f = 0) with rfl | f0
        · simp +decide only [e195_0, e195_1, e195_2, e195_5, e195_6, e195_9, e195_12, e195_13, e195_14, e195_16, e195_19, e195_22, e195_23, e195_24, e195_25, e195_28, e195_31, e195_32, e195_33, e195_35, e195_38, e195_41, e195_42, e195_43, e195_45, e195_48, e195_50, e195_53, e195_54, e195_56, e195_59, e195_61, e195_64, e195_66, e195_69, e195_70, e195_71, e195_73, e195_76, e195_78, e195_81, e195_82, e195_85, e195_86, e195_89, e195_90, e195_91, e195_92, e195_93, e195_96, e195_99, b1, b2, b3, ho, o2, o4, r1, c_m_says, m2, ob_pI, rf_pI, isR_pI, isI_pI, isL_pI, arI_pI, arL_pI, arR_pI, arD_pI, aln_pI, rdI_pI, rdB_pI, rdR_pI, aR_pI, pI_2, gI_pI, gL_pI, gD_pI, gR_pI, aI_pI, aL_pI, aD_pI, ob_pL, rf_pL, isR_pL, isI_pL, isL_pL, arI_pL, arL_pL, arR_pL, arD_pL, aln_pL, rdI_pL, rdB_pL, rdR_pL, aR_pL, pL_2, gI_pL, gL_pL, gD_pL, gR_pL, aI_pL, aL_pL, aD_pL, ob_wI, rf_wI, isR_wI, isI_wI, isL_wI, arI_wI, arL_wI, arR_wI, arD_wI, aln_wI, rdI_wI, rdB_wI, rdR_wI, aR_wI, wI_2, gI_wI, gL_wI, gD_wI, gR_wI, aL_wI, aD_wI, aI_wI_ne, ob_wL, rf_wL, isR_wL, isI_wL, isL_wL, arI_wL, arL_wL, arR_wL, arD_wL, aln_wL, rdI_wL, rdB_wL, rdR_wL, aR_wL, wL_2, gI_wL, gL_wL, gD_wL, gR_wL, aI_wL, aD_wL, aL_wL_ne, ob_bI, rf_bI, isR_bI, isI_bI, isL_bI, arI_bI, arL_bI, arR_bI, arD_bI, aln_bI, rdI_bI, rdB_bI, rdR_bI, aR_bI, bI_2, gI_bI, gL_bI, gD_bI, gR_bI, aL_bI, aD_bI, aI_bI_ne, ob_bL, rf_bL, isR_bL, isI_bL, isL_bL, arI_bL, arL_bL, arR_bL, arD_bL, aln_bL, rdI_bL, rdB_bL, rdR_bL, aR_bL, bL_2, gI_bL, gL_bL, gD_bL, gR_bL, aI_bL, aD_bL, aL_bL_ne, Nat.add_assoc, Nat.reduceAdd, Nat.add_left_cancel_iff, Nat.reduceEqDiff, Nat.add_eq_left, Nat.left_eq_add, vkk_n, vkk_i, vkk_r, vkk_l, vkk_d, catS_nil, catS_i, catS_r, catS_l, catS_d, Nat.reduceAdd, Nat.reduceLeDiff, Nat.zero_le, Nat.le_refl, Option.bind_some, Option.toList_some, Option.toList_none, List.cons_append, List.nil_append, or_true, true_or, if_true, if_false, Int32.reduceLT, Int32.reduceLE, not_true, not_false_iff, true_and, and_true, false_and, and_false]
        · simp +decide only [e195_0, e195_1, e195_2, e195_5, e195_6, e195_9, e195_12, e195_13, e195_14, e195_16, e195_19, e195_22, e195_23, e195_24, e195_25, e195_28, e195_31, e195_32, e195_33, e195_35, e195_38, e195_41, e195_42, e195_43, e195_45, e195_48, e195_50, e195_53, e195_54, e195_56, e195_59, e195_61, e195_64, e195_66, e195_69, e195_70, e195_71, e195_73, e195_76, e195_78, e195_81, e195_82, e195_85, e195_86, e195_89, e195_90, e195_91, e195_92, e195_93, e195_96, e195_99, b1, b2, b3, ho, o2, o4, r1, c_m_says, m2, f0, ob_pI, rf_pI, isR_pI, isI_pI, isL_pI, arI_pI, arL_pI, arR_pI, arD_pI, aln_pI, rdI_pI, rdB_pI, rdR_pI, aR_pI, pI_2, gI_pI, gL_pI, gD_pI, gR_pI, aI_pI, aL_pI, aD_pI, ob_pL, rf_pL, isR_pL, isI_pL, isL_pL, arI_pL, arL_pL, arR_pL, arD_pL, aln_pL, rdI_pL, rdB_pL, rdR_pL, aR_pL, pL_2, gI_pL, gL_pL, gD_pL, gR_pL, aI_pL, aL_pL, aD_pL, ob_wI, rf_wI, isR_wI, isI_wI, isL_wI, arI_wI, arL_wI, arR_wI, arD_wI, aln_wI, rdI_wI, rdB_wI, rdR_wI, aR_wI, wI_2, gI_wI, gL_wI, gD_wI, gR_wI, aL_wI, aD_wI, aI_wI_ne, ob_wL, rf_wL, isR_wL, isI_wL, isL_wL, arI_wL, arL_wL, arR_wL, arD_wL, aln_wL, rdI_wL, rdB_wL, rdR_wL, aR_wL, wL_2, gI_wL, gL_wL, gD_wL, gR_wL, aI_wL, aD_wL, aL_wL_ne, ob_bI, rf_bI, isR_bI, isI_bI, isL_bI, arI_bI, arL_bI, arR_bI, arD_bI, aln_bI, rdI_bI, rdB_bI, rdR_bI, aR_bI, bI_2, gI_bI, gL_bI, gD_bI, gR_bI, aL_bI, aD_bI, aI_bI_ne, ob_bL, rf_bL, isR_bL, isI_bL, isL_bL, arI_bL, arL_bL, arR_bL, arD_bL, aln_bL, rdI_bL, rdB_bL, rdR_bL, aR_bL, bL_2, gI_bL, gL_bL, gD_bL, gR_bL, aI_bL, aD_bL, aL_bL_ne, Nat.add_assoc, Nat.reduceAdd, Nat.add_left_cancel_iff, Nat.reduceEqDiff, Nat.add_eq_left, Nat.left_eq_add, vkk_n, vkk_i, vkk_r, vkk_l, vkk_d, catS_nil, catS_i, catS_r, catS_l, catS_d, Nat.reduceAdd, Nat.reduceLeDiff, Nat.zero_le, Nat.le_refl, Option.bind_some, Option.toList_some, Option.toList_none, List.cons_append, List.nil_append, or_true, true_or, if_true, if_false, Int32.reduceLT, Int32.reduceLE, not_true, not_false_iff, true_and, and_true, false_and, and_false]
      · show _ = pC 9
        simp +decide only [(eq_true (isI_ob ho rfl : isI h (g + 266) 38)), (eq_true (isL_ob ho rfl : isL h (g + 266) 39)), gI_pI, gL_pL, gI_pL, gL_pI, gD_pI, gD_pL, isI_pI, isI_pL, isL_pI, isL_pL, true_and, and_true, false_and, and_false, if_true, if_false, Nat.add_assoc, Nat.reduceAdd, Nat.add_left_cancel_iff, Nat.reduceEqDiff, Nat.add_eq_left, Nat.left_eq_add]
        try rfl
      · simp +decide only [(eq_true (isI_ob ho rfl : isI h (g + 266) 38)), (eq_true (isL_ob ho rfl : isL h (g + 266) 39)), gI_pI, gL_pL, gI_pL, gL_pI, gD_pI, gD_pL, isI_pI, isI_pL, isL_pI, isL_pL, true_and, and_true, false_and, and_false, if_true, if_false, Nat.add_assoc, Nat.reduceAdd, Nat.add_left_cancel_iff, Nat.reduceEqDiff, Nat.add_eq_left, Nat.left_eq_add]
      · show RNm 9 (kBox 9 v) _ _
        simp +decide only [(eq_true (isI_ob ho rfl : isI h (g + 266) 38)), (eq_true (isL_ob ho rfl : isL h (g + 266) 39)), gI_pI, gL_pL, gI_pL, gL_pI, gD_pI, gD_pL, isI_pI, isI_pL, isL_pI, isL_pL, true_and, and_true, false_and, and_false, if_true, if_false, Nat.add_assoc, Nat.reduceAdd, Nat.add_left_cancel_iff, Nat.reduceEqDiff, Nat.add_eq_left, Nat.left_eq_add]
        rw [kn 9 (Or.inl rfl)]
        exact ⟨fun z => absurd z (by decide), fun z => absurd z (by decide), fun _ _ z => absurd rfl z, fun _ => rfl, fun _ => rfl⟩
    · refine ⟨pL (pI (pI h (g + 266) 31 0) (g + 266) 38 (-2)) (g + 266) 39 (0), gI h (g + 266) 41, fun f h3 r1 hf o4 => ?_, (Fr_pI _ _ _ _ (VF_38 _)).tr (Fr_pL _ _ _ _ (VF_39 _)), ?_, ?_, ?_⟩
      · have m2 := (msy_0 h3 (g + 266) f hf o4).2
        rw [show (nI 10 : Int32) = 10 from rfl] at b2 b3 ⊢
        rcases Classical.em (f = 0) with rfl | f0
        · simp +decide only [e195_0, e195_1, e195_2, e195_5, e195_6, e195_9, e195_12, e195_13, e195_14, e195_16, e195_19, e195_22, e195_23, e195_24, e195_25, e195_28, e195_31, e195_32, e195_33, e195_35, e195_38, e195_41, e195_42, e195_43, e195_45, e195_48, e195_50, e195_53, e195_54, e195_56, e195_59, e195_61, e195_64, e195_66, e195_69, e195_70, e195_71, e195_73, e195_76, e195_78, e195_81, e195_82, e195_85, e195_86, e195_89, e195_90, e195_91, e195_92, e195_93, e195_96, e195_99, b1, b2, b3, ho, o2, o4, r1, c_m_says, m2, ob_pI, rf_pI, isR_pI, isI_pI, isL_pI, arI_pI, arL_pI, arR_pI, arD_pI, aln_pI, rdI_pI, rdB_pI, rdR_pI, aR_pI, pI_2, gI_pI, gL_pI, gD_pI, gR_pI, aI_pI, aL_pI, aD_pI, ob_pL, rf_pL, isR_pL, isI_pL, isL_pL, arI_pL, arL_pL, arR_pL, arD_pL, aln_pL, rdI_pL, rdB_pL, rdR_pL, aR_pL, pL_2, gI_pL, gL_pL, gD_pL, gR_pL, aI_pL, aL_pL, aD_pL, ob_wI, rf_wI, isR_wI, isI_wI, isL_wI, arI_wI, arL_wI, arR_wI, arD_wI, aln_wI, rdI_wI, rdB_wI, rdR_wI, aR_wI, wI_2, gI_wI, gL_wI, gD_wI, gR_wI, aL_wI, aD_wI, aI_wI_ne, ob_wL, rf_wL, isR_wL, isI_wL, isL_wL, arI_wL, arL_wL, arR_wL, arD_wL, aln_wL, rdI_wL, rdB_wL, rdR_wL, aR_wL, wL_2, gI_wL, gL_wL, gD_wL, gR_wL, aI_wL, aD_wL, aL_wL_ne, ob_bI, rf_bI, isR_bI, isI_bI, isL_bI, arI_bI, arL_bI, arR_bI, arD_bI, aln_bI, rdI_bI, rdB_bI, rdR_bI, aR_bI, bI_2, gI_bI, gL_bI, gD_bI, gR_bI, aL_bI, aD_bI, aI_bI_ne, ob_bL, rf_bL, isR_bL, isI_bL, isL_bL, arI_bL, arL_bL, arR_bL, arD_bL, aln_bL, rdI_bL, rdB_bL, rdR_bL, aR_bL, bL_2, gI_bL, gL_bL, gD_bL, gR_bL, aI_bL, aD_bL, aL_bL_ne, Nat.add_assoc, Nat.reduceAdd, Nat.add_left_cancel_iff, Nat.reduceEqDiff, Nat.add_eq_left, Nat.left_eq_add, vkk_n, vkk_i, vkk_r, vkk_l, vkk_d, catS_nil, catS_i, catS_r, catS_l, catS_d, Nat.reduceAdd, Nat.reduceLeDiff, Nat.zero_le, Nat.le_refl, Option.bind_some, Option.toList_some, Option.toList_none, List.cons_append, List.nil_append, or_true, true_or, if_true, if_false, Int32.reduceLT, Int32.reduceLE, not_true, not_false_iff, true_and, and_true, false_and, and_false]
        · simp +decide only [e195_0, e195_1, e195_2, e195_5, e195_6, e195_9, e195_12, e195_13, e195_14, e195_16, e195_19, e195_22, e195_23, e195_24, e195_25, e195_28, e195_31, e195_32, e195_33, e195_35, e195_38, e195_41, e195_42, e195_43, e195_45, e195_48, e195_50, e195_53, e195_54, e195_56, e195_59, e195_61, e195_64, e195_66, e195_69, e195_70, e195_71, e195_73, e195_76, e195_78, e195_81, e195_82, e195_85, e195_86, e195_89, e195_90, e195_91, e195_92, e195_93, e195_96, e195_99, b1, b2, b3, ho, o2, o4, r1, c_m_says, m2, f0, ob_pI, rf_pI, isR_pI, isI_pI, isL_pI, arI_pI, arL_pI, arR_pI, arD_pI, aln_pI, rdI_pI, rdB_pI, rdR_pI, aR_pI, pI_2, gI_pI, gL_pI, gD_pI, gR_pI, aI_pI, aL_pI, aD_pI, ob_pL, rf_pL, isR_pL, isI_pL, isL_pL, arI_pL, arL_pL, arR_pL, arD_pL, aln_pL, rdI_pL, rdB_pL, rdR_pL, aR_pL, pL_2, gI_pL, gL_pL, gD_pL, gR_pL, aI_pL, aL_pL, aD_pL, ob_wI, rf_wI, isR_wI, isI_wI, isL_wI, arI_wI, arL_wI, arR_wI, arD_wI, aln_wI, rdI_wI, rdB_wI, rdR_wI, aR_wI, wI_2, gI_wI, gL_wI, gD_wI, gR_wI, aL_wI, aD_wI, aI_wI_ne, ob_wL, rf_wL, isR_wL, isI_wL, isL_wL, arI_wL, arL_wL, arR_wL, arD_wL, aln_wL, rdI_wL, rdB_wL, rdR_wL, aR_wL, wL_2, gI_wL, gL_wL, gD_wL, gR_wL, aI_wL, aD_wL, aL_wL_ne, ob_bI, rf_bI, isR_bI, isI_bI, isL_bI, arI_bI, arL_bI, arR_bI, arD_bI, aln_bI, rdI_bI, rdB_bI, rdR_bI, aR_bI, bI_2, gI_bI, gL_bI, gD_bI, gR_bI, aL_bI, aD_bI, aI_bI_ne, ob_bL, rf_bL, isR_bL, isI_bL, isL_bL, arI_bL, arL_bL, arR_bL, arD_bL, aln_bL, rdI_bL, rdB_bL, rdR_bL, aR_bL, bL_2, gI_bL, gL_bL, gD_bL, gR_bL, aI_bL, aD_bL, aL_bL_ne, Nat.add_assoc, Nat.reduceAdd, Nat.add_left_cancel_iff, Nat.reduceEqDiff, Nat.add_eq_left, Nat.left_eq_add, vkk_n, vkk_i, vkk_r, vkk_l, vkk_d, catS_nil, catS_i, catS_r, catS_l, catS_d, Nat.reduceAdd, Nat.reduceLeDiff, Nat.zero_le, Nat.le_refl, Option.bind_some, Option.toList_some, Option.toList_none, List.cons_append, List.nil_append, or_true, true_or, if_true, if_false, Int32.reduceLT, Int32.reduceLE, not_true, not_false_iff, true_and, and_true, false_and, and_false]
      · show _ = pC 10
        simp +decide only [(eq_true (isI_ob ho rfl : isI h (g + 266) 38)), (eq_true (isL_ob ho rfl : isL h (g + 266) 39)), gI_pI, gL_pL, gI_pL, gL_pI, gD_pI, gD_pL, isI_pI, isI_pL, isL_pI, isL_pL, true_and, and_true, false_and, and_false, if_true, if_false, Nat.add_assoc, Nat.reduceAdd, Nat.add_left_cancel_iff, Nat.reduceEqDiff, Nat.add_eq_left, Nat.left_eq_add]
        try rfl
      · simp +decide only [(eq_true (isI_ob ho rfl : isI h (g + 266) 38)), (eq_true (isL_ob ho rfl : isL h (g + 266) 39)), gI_pI, gL_pL, gI_pL, gL_pI, gD_pI, gD_pL, isI_pI, isI_pL, isL_pI, isL_pL, true_and, and_true, false_and, and_false, if_true, if_false, Nat.add_assoc, Nat.reduceAdd, Nat.add_left_cancel_iff, Nat.reduceEqDiff, Nat.add_eq_left, Nat.left_eq_add]
      · show RNm (-2) (kBox (-2) v) _ _
        simp +decide only [(eq_true (isI_ob ho rfl : isI h (g + 266) 38)), (eq_true (isL_ob ho rfl : isL h (g + 266) 39)), gI_pI, gL_pL, gI_pL, gL_pI, gD_pI, gD_pL, isI_pI, isI_pL, isL_pI, isL_pL, true_and, and_true, false_and, and_false, if_true, if_false, Nat.add_assoc, Nat.reduceAdd, Nat.add_left_cancel_iff, Nat.reduceEqDiff, Nat.add_eq_left, Nat.left_eq_add]
        rw [kn (-2) (Or.inr rfl)]
        exact ⟨fun z => absurd z (by decide), fun z => absurd z (by decide), fun _ _ _ z => absurd rfl z, fun _ => rfl, fun _ => rfl⟩
theorem k_put (h : VG) (g : Nat) (R : Inv h g) (b i k : Int32) (v : Int64) : CalI h g 115 [some (.ref g), some (.int b), some (.int i), some (.int k), some (.long v), none, none] 195 [some (.ref (g + 266)), some (.int b), some (.int i), some (.int k), some (.long v), none] := by
  rcases c_bn (b := b) with ⟨b, hb, rfl⟩ | ⟨q1, q2⟩
  · rcases put_k (k := k) with ⟨k, hk, rfl⟩ | ⟨p1, p2⟩
    · have hk0 : ¬ nI k < 0 := nI_pos (by omega)
      have hk10 : nI k ≤ 10 := nI_le (b := 10) (by omega) (by decide)
      have ec : pC k = if nI k = 10 then -2 else nI k := by
        unfold pC
        by_cases z : k = 10
        · rw [if_pos z, if_pos (by rw [z]; rfl)]
        · have z2 : ¬ nI k = 10 := fun q => z ((nI_eq (b := 10) (by omega) (by decide)).mp q)
          rw [if_neg z, if_neg z2]
      obtain ⟨c1, c2⟩ := c_put h g b i (nI k) v R hb hk0 hk10 (pC k) ec
      obtain ⟨s, n, e1, e2, e3, e4, e5, e6, e7, e8⟩ := bin_kn R hb (Fr.rfl (R := NR) (F := NF) h) nr_285
      rw [e4, e6] at c1 c2
      by_cases q : putRef (nI s) (nI n) i (pC k) = 0
      · obtain ⟨h10, ⟨j, hj, rfl⟩, hc8, hc9⟩ := put_ok e1 e2 (pC_put hk) q
        have d1 := c2 j (by omega) rfl q
        obtain ⟨hB, eR⟩ := bin_sh (cRf_sh (f := 0) R.sh) hb
        have a1 := cRf_fr h g 0
        have gs := (a1.gI (a := g + (177 + 3 * b)) (k := 0) (fun z => by unfold AC at z; omega)).trans e4
        have fl : FilC (cRf h g 0) (fil (cRf h g 0) (g + (177 + 3 * b)) j (pC k) (kBox (pC k) v)) (g + (177 + 3 * b)) j (pK s (pC k)) (pX s (pC k) (kBox (pC k) v)) := by
          unfold pK pX
          by_cases s8 : s < 8
          · rw [if_pos s8, if_pos s8]
            exact fil_lo hB gs s8 ((a1.I (fun z => z) _).trans ((e8 j hj).1.1 s8))
          · rw [if_neg s8, if_neg s8]
            exact fil_hi hB gs s8 e1
        generalize hh1 : fil (cRf h g 0) (g + (177 + 3 * b)) j (pC k) (kBox (pC k) v) = h1 at d1 fl
        have s1 : Sh h1 g := Sh_fr fl.1 (fun a z => by omega) (cRf_sh R.sh)
        have s2 := m0_sh s1
        obtain ⟨h2, z, t1, t2, t3⟩ := c_m_put0 h1 g k (nI b) (nI j) v s1 hk (c_bn1 hb).2
        have s3 : Sh h2 g := Sh_fr t2 (fun _ z => z.elim) s2
        have x := (((cRf_fr h g 0).un fl.1).un (m0_fr h1 (g + 266))).un t2
        have nn : ∀ a, g + 266 ≤ a → ¬ (((NR a ∨ (a = g + (177 + 3 * b) + 1 ∨ a = g + (177 + 3 * b) + 2)) ∨ NR a) ∨ NR a) := by
          intro a ha z
          rcases z with ((z | z) | z) | z
          · exact z
          · omega
          · exact z
          · exact z
        obtain ⟨h3, u1, u2⟩ := c_m_comes_ok h2 g b s n j (pC k) (kBox (pC k) v) z s3 hb ((x.I (nn _ (by omega)) _).trans e5) ((x.I (nn _ (by omega)) _).trans e7) e1 e2 h10 hj hc8 hc9 t3
        have ho3 : ob h3 (g + 266) 11 := (ob_kp u2.1.1 ..).mpr (Mod_0 s3.2.1)
        have r := t1 0 h3 u1 (by decide) ho3
        have ck : cOk s (pK s (pC k)) := by
          unfold pK
          by_cases s8 : s < 8
          · rw [if_pos s8]
            exact cOk_lo s8
          · rw [if_neg s8]
            refine ⟨fun z => absurd z s8, fun _ => ?_, fun z => hc9 z⟩
            rcases pC_put hk with q | ⟨y, hy, q⟩
            · exact Or.inl q
            · exact Or.inr ⟨y, hy, q⟩
        have iv := Inv_lay (F := M0 (g + 266)) R hb hj e2 e1 e4 e6 ck fl (fun a j z => by unfold M0 AM VF at z; omega) ((Fr_pI h1 (g + 266) 31 0 (Or.inl ⟨⟨rfl, Or.inl rfl⟩, rfl⟩)).tr (t2.mo (fun _ z => z.elim) (fun _ _ z => Or.inr z))) ((t2.gI (fun z => by unfold VF at z; omega)).trans (gI_pI_ne _ _ _ _ _ _ (fun z => absurd z.2 (by decide)))) u2
        exact ⟨_, _, mRf h3 (g + 266) 0, d1, r, iv.1, iv.2⟩
      · have d1 := c1 _ rfl q
        generalize hf : putRef (nI s) (nI n) i (pC k) = f at d1 q
        have sh := m0_sh (cRf_sh (f := f) R.sh)
        obtain ⟨h2, z, t1, t2, t3⟩ := c_m_put0 (cRf h g f) g k (nI b) i v (cRf_sh R.sh) hk (c_bn1 hb).2
        have s3 : Sh h2 g := Sh_fr t2 (fun _ z => z.elim) sh
        have x := ((cRf_fr h g f).un (m0_fr (cRf h g f) (g + 266))).un t2
        have nn : ∀ a, ¬ ((NR a ∨ NR a) ∨ NR a) := fun a z => z.elim (fun q => q.elim id id) id
        have r1 := c_m_comes_no h2 g b s n i (pC k) s3 hb ((x.I (nn _) _).trans e5) ((x.I (nn _) _).trans e7) e1 e2 (pC_put hk) t3.1 (by rw [hf]; exact q)
        rw [hf] at r1
        have r := t1 f h2 r1 (by rw [← hf]; exact ref_nn (put_b ..)) (Mod_0 s3.2.1)
        rw [if_neg q] at r
        exact ⟨_, _, mRf h2 (g + 266) f, d1, r, Inv_val R t2, two_val t2⟩
    · refine ⟨0, cRf h g 0, mRf (cRf h g 0) (g + 266) 0, ?_, ?_, Inv_bad R, rfl⟩
      · have ho : ob h g 10 := Cls_0 R.cls
        have b1 := isBin_c (h := pI h g 9 0) (c_bn1 hb).1
        rcases p1 with p1 | p1
        · simp +decide only [e115_0, e115_1, e115_2, e115_5, e115_6, e115_9, e115_12, e115_13, e115_16, e115_17, e115_19, e115_22, e115_23, e115_24, e115_25, e115_27, e115_30, e115_32, e115_35, e115_36, e115_38, e115_39, e115_40, e115_43, e115_46, e115_47, e115_48, e115_49, e115_51, e115_54, e115_57, e115_60, e115_61, e115_62, e115_63, e115_66, e115_69, e115_70, e115_71, e115_72, e115_74, e115_76, e115_78, e115_81, e115_84, e115_85, b1, p1, ho, cRf_0, vkk_n, vkk_i, vkk_r, vkk_l, vkk_d, catS_nil, catS_i, catS_r, catS_l, catS_d, Nat.reduceAdd, Nat.reduceLeDiff, Nat.zero_le, Nat.le_refl, Option.bind_some, Option.toList_some, Option.toList_none, List.cons_append, List.nil_append, or_true, true_or, if_true, if_false, Int32.reduceLT, Int32.reduceLE, not_true, not_false_iff, true_and, and_true, false_and, and_false]
        · by_cases p0 : k < 0
          · simp +decide only [e115_0, e115_1, e115_2, e115_5, e115_6, e115_9, e115_12, e115_13, e115_16, e115_17, e115_19, e115_22, e115_23, e115_24, e115_25, e115_27, e115_30, e115_32, e115_35, e115_36, e115_38, e115_39, e115_40, e115_43, e115_46, e115_47, e115_48, e115_49, e115_51, e115_54, e115_57, e115_60, e115_61, e115_62, e115_63, e115_66, e115_69, e115_70, e115_71, e115_72, e115_74, e115_76, e115_78, e115_81, e115_84, e115_85, b1, p0, p1, ho, cRf_0, vkk_n, vkk_i, vkk_r, vkk_l, vkk_d, catS_nil, catS_i, catS_r, catS_l, catS_d, Nat.reduceAdd, Nat.reduceLeDiff, Nat.zero_le, Nat.le_refl, Option.bind_some, Option.toList_some, Option.toList_none, List.cons_append, List.nil_append, or_true, true_or, if_true, if_false, Int32.reduceLT, Int32.reduceLE, not_true, not_false_iff, true_and, and_true, false_and, and_false]
          · simp +decide only [e115_0, e115_1, e115_2, e115_5, e115_6, e115_9, e115_12, e115_13, e115_16, e115_17, e115_19, e115_22, e115_23, e115_24, e115_25, e115_27, e115_30, e115_32, e115_35, e115_36, e115_38, e115_39, e115_40, e115_43, e115_46, e115_47, e115_48, e115_49, e115_51, e115_54, e115_57, e115_60, e115_61, e115_62, e115_63, e115_66, e115_69, e115_70, e115_71, e115_72, e115_74, e115_76, e115_78, e115_81, e115_84, e115_85, b1, p0, p1, ho, cRf_0, vkk_n, vkk_i, vkk_r, vkk_l, vkk_d, catS_nil, catS_i, catS_r, catS_l, catS_d, Nat.reduceAdd, Nat.reduceLeDiff, Nat.zero_le, Nat.le_refl, Option.bind_some, Option.toList_some, Option.toList_none, List.cons_append, List.nil_append, or_true, true_or, if_true, if_false, Int32.reduceLT, Int32.reduceLE, not_true, not_false_iff, true_and, and_true, false_and, and_false]
      · have ho : ob (pI h g 9 0) (g + 266) 11 := (ob_pI ..).mpr (Mod_0 R.mod)
        have b1 := fun h => mBin_c (h := h) (c_bn1 hb).2
        have b2 := fun h => mIn_c (h := h) p2
        simp +decide only [e195_0, e195_1, e195_2, e195_5, e195_6, e195_9, e195_12, e195_13, e195_14, e195_16, e195_19, e195_22, e195_23, e195_24, e195_25, e195_28, e195_31, e195_32, e195_33, e195_35, e195_38, e195_41, e195_42, e195_43, e195_45, e195_48, e195_50, e195_53, e195_54, e195_56, e195_59, e195_61, e195_64, e195_66, e195_69, e195_70, e195_71, e195_73, e195_76, e195_78, e195_81, e195_82, e195_85, e195_86, e195_89, e195_90, e195_91, e195_92, e195_93, e195_96, e195_99, b1, b2, ho, cRf_0, mRf_0, vkk_n, vkk_i, vkk_r, vkk_l, vkk_d, catS_nil, catS_i, catS_r, catS_l, catS_d, Nat.reduceAdd, Nat.reduceLeDiff, Nat.zero_le, Nat.le_refl, Option.bind_some, Option.toList_some, Option.toList_none, List.cons_append, List.nil_append, or_true, true_or, if_true, if_false, Int32.reduceLT, Int32.reduceLE, not_true, not_false_iff, true_and, and_true, false_and, and_false]
  ·
    refine ⟨0, cRf h g 0, mRf (cRf h g 0) (g + 266) 0, ?_, ?_, Inv_bad R, rfl⟩
    · have ho : ob h g 10 := Cls_0 R.cls
      have b1 := isBin_c (h := pI h g 9 0) q1
      simp +decide only [e115_0, e115_1, e115_2, e115_5, e115_6, e115_9, e115_12, e115_13, e115_16, e115_17, e115_19, e115_22, e115_23, e115_24, e115_25, e115_27, e115_30, e115_32, e115_35, e115_36, e115_38, e115_39, e115_40, e115_43, e115_46, e115_47, e115_48, e115_49, e115_51, e115_54, e115_57, e115_60, e115_61, e115_62, e115_63, e115_66, e115_69, e115_70, e115_71, e115_72, e115_74, e115_76, e115_78, e115_81, e115_84, e115_85, b1, ho, cRf_0, vkk_n, vkk_i, vkk_r, vkk_l, vkk_d, catS_nil, catS_i, catS_r, catS_l, catS_d, Nat.reduceAdd, Nat.reduceLeDiff, Nat.zero_le, Nat.le_refl, Option.bind_some, Option.toList_some, Option.toList_none, List.cons_append, List.nil_append, or_true, true_or, if_true, if_false, Int32.reduceLT, Int32.reduceLE, not_true, not_false_iff, true_and, and_true, false_and, and_false]
    · have ho : ob (pI h g 9 0) (g + 266) 11 := (ob_pI ..).mpr (Mod_0 R.mod)
      have b1 := fun h => mBin_c (h := h) q2
      simp +decide only [e195_0, e195_1, e195_2, e195_5, e195_6, e195_9, e195_12, e195_13, e195_14, e195_16, e195_19, e195_22, e195_23, e195_24, e195_25, e195_28, e195_31, e195_32, e195_33, e195_35, e195_38, e195_41, e195_42, e195_43, e195_45, e195_48, e195_50, e195_53, e195_54, e195_56, e195_59, e195_61, e195_64, e195_66, e195_69, e195_70, e195_71, e195_73, e195_76, e195_78, e195_81, e195_82, e195_85, e195_86, e195_89, e195_90, e195_91, e195_92, e195_93, e195_96, e195_99, b1, ho, cRf_0, mRf_0, vkk_n, vkk_i, vkk_r, vkk_l, vkk_d, catS_nil, catS_i, catS_r, catS_l, catS_d, Nat.reduceAdd, Nat.reduceLeDiff, Nat.zero_le, Nat.le_refl, Option.bind_some, Option.toList_some, Option.toList_none, List.cons_append, List.nil_append, or_true, true_or, if_true, if_false, Int32.reduceLT, Int32.reduceLE, not_true, not_false_iff, true_and, and_true, false_and, and_false]
