/-! arguments passed -/
theorem aSt_le (C : Nat → Nat) : ∀ k, (aSt C k).1 ≤ 6 ∧ (aSt C k).2.1 ≤ 16 * k
  | 0 => ⟨Nat.zero_le _, Nat.zero_le _⟩
  | k + 1 => by
    obtain ⟨i1, i2⟩ := aSt_le C k
    have n : aNd (C k) = 1 ∨ aNd (C k) = 2 := by
      unfold aNd
      split
      · exact Or.inr rfl
      · exact Or.inl rfl
    have e : aSt C (k + 1) = if (aSt C k).2.2 = true ∨ 6 < upN (aSt C k).1 (aNd (C k)) + aNd (C k) then ((aSt C k).1, upN (aSt C k).2.1 (4 * aNd (C k)) + 4 * aNd (C k), true) else (upN (aSt C k).1 (aNd (C k)) + aNd (C k), (aSt C k).2.1, false) := rfl
    rw [e]
    have u := (upN_le (v := (aSt C k).2.1) (b := 4 * aNd (C k)) (by omega)).2
    split
    · refine ⟨i1, ?_⟩
      show upN (aSt C k).2.1 (4 * aNd (C k)) + 4 * aNd (C k) ≤ _
      omega
    · rename_i z
      refine ⟨?_, ?_⟩
      · show upN (aSt C k).1 (aNd (C k)) + aNd (C k) ≤ _
        by_cases y : 6 < upN (aSt C k).1 (aNd (C k)) + aNd (C k)
        · exact absurd (Or.inr y) z
        · omega
      · show (aSt C k).2.1 ≤ _
        omega
theorem up_lit {v : Nat} (hv : v ≤ 1024) (h : VG) : ev 168 0 [some (.int (nI v)), some (.int 2)] [] h = some (some (.int (nI (upN v 2))), h) ∧ ev 168 0 [some (.int (nI v)), some (.int 4)] [] h = some (some (.int (nI (upN v 4))), h) ∧ ev 168 0 [some (.int (nI v)), some (.int 8)] [] h = some (some (.int (nI (upN v 8))), h) := by
  have a := c_m_up h (nI v) (nI 2) (nI_fr0 (by decide) (by decide))
  have b := c_m_up h (nI v) (nI 4) (nI_fr0 (by decide) (by decide))
  have d := c_m_up h (nI v) (nI 8) (nI_fr0 (by decide) (by decide))
  rw [up_nI hv (by decide) (by decide)] at a b d
  exact ⟨a, b, d⟩
theorem l_args (g f m c : Nat) (t : Int32) (K R C : Nat → Nat) (h : VG) (hs : Sh h g) (hb : Kb h g) (hf : FM h g f m K R) (hKR : ∀ j, j < m → K j < 10 ∧ 1 ≤ R j ∧ R j ≤ 4) (hC : ∀ j i, j < m → i < R j → C (pre R j + i) = K j) (hc : c < pre R m) : ∀ d k (rg of : Int32) (l10 l11 l12 : Option Value), k + d = c + 1 → (k = 0 ∨ (rg = aReg C (k - 1) ∧ ((aSt C k).2.2 = true → of = aSta C (k - 1)))) → ∃ (rg1 of1 : Int32) (x10 x11 x12 : Option Value), ev 176 54 [some (.ref (g + 266)), some (.int (nI f)), some (.int (nI c)), some (.int t), some (.int (nI (aSt C (k)).1)), some (.int (nI (aSt C (k)).2.1)), some (.int (if (aSt C (k)).2.2 = true then 1 else 0)), some (.int rg), some (.int of), some (.int (nI (k))), l10, l11, l12] [] h = ev 176 191 [some (.ref (g + 266)), some (.int (nI f)), some (.int (nI c)), some (.int t), some (.int (nI (aSt C (c + 1)).1)), some (.int (nI (aSt C (c + 1)).2.1)), some (.int (if (aSt C (c + 1)).2.2 = true then 1 else 0)), some (.int rg1), some (.int of1), some (.int (nI (c + 1))), x10, x11, x12] [] h ∧ rg1 = aReg C c ∧ ((aSt C (c + 1)).2.2 = true → of1 = aSta C c) := by
  have m8' := hf.2.1
  have ple := pre_le R m (fun i hi => (hKR i hi).2) m (Nat.le_refl _)
  intro d
  induction d with
  | zero =>
    intro k rg of l10 l11 l12 hk hr
    obtain rfl : k = c + 1 := by omega
    have q : ¬ nI (c + 1) ≤ nI c := Int32.not_le.mpr (nI_lt (by omega) (by omega))
    refine ⟨rg, of, l10, l11, l12, ?_, ?_⟩
    · simp +decide only [e176_54, e176_56, e176_57, q, vkk_n, vkk_i, vkk_r, vkk_l, vkk_d, catS_nil, catS_i, catS_r, catS_l, catS_d, Nat.reduceAdd, Nat.reduceLeDiff, Nat.zero_le, Nat.le_refl, Option.bind_some, Option.toList_some, Option.toList_none, List.cons_append, List.nil_append, or_true, true_or, if_true, if_false, Int32.reduceLT, Int32.reduceLE, not_true, not_false_iff, true_and, and_true, false_and, and_false]
    · rcases hr with hr | hr
      · omega
      · exact hr
  | succ d ih =>
    intro k rg of l10 l11 l12 hk hr
    have q : nI k ≤ nI c := Int32.not_lt.mp (nI_nlt (by omega) (by omega))
    obtain ⟨j, i, hj, hi, ek⟩ := pre_cell R m k (by omega)
    have eC : C k = K j := by
      rw [ek]
      exact hC j i hj hi
    have k10 := (hKR j hj).1
    have u := (c_kindAt g f m j i K R h hs hf (fun j hj => (hKR j hj).2) hj hi).1
    rw [← ek, ← eC] at u
    rw [← eC] at k10
    have sm := (hb (C k) k10).1
    rw [vSmall_n _ k10] at sm
    have hv : vp_in (nI (C k)) 10 := vp_in_nI k10 (by decide)
    have hcl : (nI (C k)).toNatClampNeg = C k := nI_clamp (by omega)
    have al := aSt_le C k
    have s8l := (nSm_le (C k) k10).2
    have e : aSt C (k + 1) = if (aSt C k).2.2 = true ∨ 6 < upN (aSt C k).1 (aNd (C k)) + aNd (C k) then ((aSt C k).1, upN (aSt C k).2.1 (4 * aNd (C k)) + 4 * aNd (C k), true) else (upN (aSt C k).1 (aNd (C k)) + aNd (C k), (aSt C k).2.1, false) := rfl
    have eR : aReg C k = if (aSt C (k + 1)).2.2 = true then -2 else nI (upN (aSt C k).1 (aNd (C k))) := rfl
    have eS : aSta C k = if (aSt C (k + 1)).2.2 = true then nI (upN (aSt C k).2.1 (4 * aNd (C k))) else -2 := rfl
    rcases hA : aSt C k with ⟨tk, st, ov⟩
    rw [hA] at e eR eS al
    simp only at e eR eS al
    obtain ⟨v2, -, -⟩ := up_lit (v := tk) (by omega) h
    obtain ⟨-, w4, w8⟩ := up_lit (v := st) (by omega) h
    have b2 := (upN_le (v := tk) (b := 2) (by decide)).2
    have b1 : upN tk 1 = tk := upN_id (Nat.le_refl 1) (Nat.mod_one _)
    by_cases z8 : nSm (C k) = 8
    · have nd : aNd (C k) = 2 := if_pos z8
      rw [z8] at sm
      rw [nd] at e eR eS
      have aF : nI (upN tk 2) + 2 = nI (upN tk 2 + 2) := nI_add (a := upN tk 2) (b := 2)
      have aB : nI (upN st 8) + 8 = nI (upN st 8 + 8) := nI_add (a := upN st 8) (b := 8)
      rcases ov with - | -
      · by_cases c6 : 6 < upN tk 2 + 2
        · have q6 : ¬ nI (upN tk 2 + 2) ≤ 6 := Int32.not_le.mpr (nI_lt (a := 6) (by omega) (by omega))
          rw [if_pos (Or.inr c6)] at e
          have e2 : (aSt C (k + 1)).2.2 = true := by rw [e]
          rw [if_pos e2] at eR eS
          have y := ih (k + 1) (-2) (nI (upN st 8)) (some (.int (nI 8))) (some (.int (nI (upN tk 2)))) (some (.int (nI (upN tk 2 + 2)))) (by omega) (Or.inr ⟨eR.symm, fun _ => eS.symm⟩)
          rw [e] at y
          simp only [if_true, if_false, Bool.false_eq_true, Nat.reduceMul] at y ⊢
          obtain ⟨rg1, of1, x10, x11, x12, y1, y2⟩ := y
          refine ⟨rg1, of1, x10, x11, x12, ?_, y2⟩
          simp +decide only [e176_54, e176_56, e176_57, q, if_true]
          simp +decide only [e176_60, e176_61, e176_64, e176_65, e176_66, e176_68, e176_71, e176_72, e176_74, e176_76, e176_78, e176_81, e176_83, e176_84, e176_87, e176_90, e176_92, e176_94, e176_96, e176_98, e176_100, e176_103, e176_104, e176_107, e176_108, e176_109, e176_111, e176_113, e176_115, e176_118, e176_119, e176_121, e176_123, e176_126, e176_128, e176_131, e176_133, e176_135, e176_137, e176_140, e176_142, e176_144, e176_146, e176_149, e176_151, e176_154, e176_155, e176_158, e176_160, e176_162, e176_164, e176_166, e176_169, e176_171, e176_174, e176_175, e176_176, e176_178, e176_181, e176_183, e176_185, e176_188, (Mod_0 hs.2.1 : ob h (g + 266) 11), (rf_g (Mod_22 hs.2.1 : rf h (g + 266) 20 (g + 274)) : gR h (g + 266) 20 = (g + 274)), (rf_is (Mod_22 hs.2.1 : rf h (g + 266) 20 (g + 274)) : isR h (g + 266) 20), (Mod_23 hs.2.1 : arI h (g + 274) 0), (rdI_0 (Mod_23 hs.2.1 : arI h (g + 274) 0) : rdI h (g + 274)), (Mod_24 hs.2.1 : aln h (g + 274) = 6), (rf_g (Mod_25 hs.2.1 : rf h (g + 266) 21 (g + 275)) : gR h (g + 266) 21 = (g + 275)), (rf_is (Mod_25 hs.2.1 : rf h (g + 266) 21 (g + 275)) : isR h (g + 266) 21), (Mod_26 hs.2.1 : arI h (g + 275) 0), (rdI_0 (Mod_26 hs.2.1 : arI h (g + 275) 0) : rdI h (g + 275)), (Mod_27 hs.2.1 : aln h (g + 275) = 48), (rf_g (Mod_28 hs.2.1 : rf h (g + 266) 22 (g + 276)) : gR h (g + 266) 22 = (g + 276)), (rf_is (Mod_28 hs.2.1 : rf h (g + 266) 22 (g + 276)) : isR h (g + 266) 22), (Mod_29 hs.2.1 : arI h (g + 276) 0), (rdI_0 (Mod_29 hs.2.1 : arI h (g + 276) 0) : rdI h (g + 276)), (Mod_30 hs.2.1 : aln h (g + 276) = 48), (rf_g (Mod_46 hs.2.1 : rf h (g + 266) 33 (g + 282)) : gR h (g + 266) 33 = (g + 282)), (rf_is (Mod_46 hs.2.1 : rf h (g + 266) 33 (g + 282)) : isR h (g + 266) 33), (Mod_47 hs.2.1 : arI h (g + 282) 0), (rdI_0 (Mod_47 hs.2.1 : arI h (g + 282) 0) : rdI h (g + 282)), (Mod_48 hs.2.1 : aln h (g + 282) = 10), (rf_g (Mod_49 hs.2.1 : rf h (g + 266) 34 (g + 283)) : gR h (g + 266) 34 = (g + 283)), (rf_is (Mod_49 hs.2.1 : rf h (g + 266) 34 (g + 283)) : isR h (g + 266) 34), (Mod_50 hs.2.1 : arI h (g + 283) 0), (rdI_0 (Mod_50 hs.2.1 : arI h (g + 283) 0) : rdI h (g + 283)), (Mod_51 hs.2.1 : aln h (g + 283) = 10), (rf_g (Mod_52 hs.2.1 : rf h (g + 266) 35 (g + 284)) : gR h (g + 266) 35 = (g + 284)), (rf_is (Mod_52 hs.2.1 : rf h (g + 266) 35 (g + 284)) : isR h (g + 266) 35), (Mod_53 hs.2.1 : arI h (g + 284) 0), (rdI_0 (Mod_53 hs.2.1 : arI h (g + 284) 0) : rdI h (g + 284)), (Mod_54 hs.2.1 : aln h (g + 284) = 8), u, sm, hv, hcl, show nI 8 = (8 : Int32) from rfl, v2, w4, w8, aF, aB, q6, nI_1, if_true, if_false, vkk_n, vkk_i, vkk_r, vkk_l, vkk_d, catS_nil, catS_i, catS_r, catS_l, catS_d, Nat.reduceAdd, Nat.reduceLeDiff, Nat.zero_le, Nat.le_refl, Option.bind_some, Option.toList_some, Option.toList_none, List.cons_append, List.nil_append, or_true, true_or, if_true, if_false, Int32.reduceLT, Int32.reduceLE, not_true, not_false_iff, true_and, and_true, false_and, and_false]
          exact y1
        · have q6 : nI (upN tk 2 + 2) ≤ 6 := Int32.not_lt.mp (nI_nlt (a := 6) (by omega) (by omega))
          rw [if_neg (fun z => z.elim (fun z => by cases z) c6)] at e
          have e2 : ¬ (aSt C (k + 1)).2.2 = true := by rw [e]; intro z; cases z
          rw [if_neg e2] at eR
          have y := ih (k + 1) (nI (upN tk 2)) of (some (.int (nI 8))) (some (.int (nI (upN tk 2)))) (some (.int (nI (upN tk 2 + 2)))) (by omega) (Or.inr ⟨eR.symm, fun z => absurd z e2⟩)
          rw [e] at y
          simp only [if_true, if_false, Bool.false_eq_true, Nat.reduceMul] at y ⊢
          obtain ⟨rg1, of1, x10, x11, x12, y1, y2⟩ := y
          refine ⟨rg1, of1, x10, x11, x12, ?_, y2⟩
          simp +decide only [e176_54, e176_56, e176_57, q, if_true]
          simp +decide only [e176_60, e176_61, e176_64, e176_65, e176_66, e176_68, e176_71, e176_72, e176_74, e176_76, e176_78, e176_81, e176_83, e176_84, e176_87, e176_90, e176_92, e176_94, e176_96, e176_98, e176_100, e176_103, e176_104, e176_107, e176_108, e176_109, e176_111, e176_113, e176_115, e176_118, e176_119, e176_121, e176_123, e176_126, e176_128, e176_131, e176_133, e176_135, e176_137, e176_140, e176_142, e176_144, e176_146, e176_149, e176_151, e176_154, e176_155, e176_158, e176_160, e176_162, e176_164, e176_166, e176_169, e176_171, e176_174, e176_175, e176_176, e176_178, e176_181, e176_183, e176_185, e176_188, (Mod_0 hs.2.1 : ob h (g + 266) 11), (rf_g (Mod_22 hs.2.1 : rf h (g + 266) 20 (g + 274)) : gR h (g + 266) 20 = (g + 274)), (rf_is (Mod_22 hs.2.1 : rf h (g + 266) 20 (g + 274)) : isR h (g + 266) 20), (Mod_23 hs.2.1 : arI h (g + 274) 0), (rdI_0 (Mod_23 hs.2.1 : arI h (g + 274) 0) : rdI h (g + 274)), (Mod_24 hs.2.1 : aln h (g + 274) = 6), (rf_g (Mod_25 hs.2.1 : rf h (g + 266) 21 (g + 275)) : gR h (g + 266) 21 = (g + 275)), (rf_is (Mod_25 hs.2.1 : rf h (g + 266) 21 (g + 275)) : isR h (g + 266) 21), (Mod_26 hs.2.1 : arI h (g + 275) 0), (rdI_0 (Mod_26 hs.2.1 : arI h (g + 275) 0) : rdI h (g + 275)), (Mod_27 hs.2.1 : aln h (g + 275) = 48), (rf_g (Mod_28 hs.2.1 : rf h (g + 266) 22 (g + 276)) : gR h (g + 266) 22 = (g + 276)), (rf_is (Mod_28 hs.2.1 : rf h (g + 266) 22 (g + 276)) : isR h (g + 266) 22), (Mod_29 hs.2.1 : arI h (g + 276) 0), (rdI_0 (Mod_29 hs.2.1 : arI h (g + 276) 0) : rdI h (g + 276)), (Mod_30 hs.2.1 : aln h (g + 276) = 48), (rf_g (Mod_46 hs.2.1 : rf h (g + 266) 33 (g + 282)) : gR h (g + 266) 33 = (g + 282)), (rf_is (Mod_46 hs.2.1 : rf h (g + 266) 33 (g + 282)) : isR h (g + 266) 33), (Mod_47 hs.2.1 : arI h (g + 282) 0), (rdI_0 (Mod_47 hs.2.1 : arI h (g + 282) 0) : rdI h (g + 282)), (Mod_48 hs.2.1 : aln h (g + 282) = 10), (rf_g (Mod_49 hs.2.1 : rf h (g + 266) 34 (g + 283)) : gR h (g + 266) 34 = (g + 283)), (rf_is (Mod_49 hs.2.1 : rf h (g + 266) 34 (g + 283)) : isR h (g + 266) 34), (Mod_50 hs.2.1 : arI h (g + 283) 0), (rdI_0 (Mod_50 hs.2.1 : arI h (g + 283) 0) : rdI h (g + 283)), (Mod_51 hs.2.1 : aln h (g + 283) = 10), (rf_g (Mod_52 hs.2.1 : rf h (g + 266) 35 (g + 284)) : gR h (g + 266) 35 = (g + 284)), (rf_is (Mod_52 hs.2.1 : rf h (g + 266) 35 (g + 284)) : isR h (g + 266) 35), (Mod_53 hs.2.1 : arI h (g + 284) 0), (rdI_0 (Mod_53 hs.2.1 : arI h (g + 284) 0) : rdI h (g + 284)), (Mod_54 hs.2.1 : aln h (g + 284) = 8), u, sm, hv, hcl, show nI 8 = (8 : Int32) from rfl, v2, w4, w8, aF, aB, q6, nI_1, if_true, if_false, vkk_n, vkk_i, vkk_r, vkk_l, vkk_d, catS_nil, catS_i, catS_r, catS_l, catS_d, Nat.reduceAdd, Nat.reduceLeDiff, Nat.zero_le, Nat.le_refl, Option.bind_some, Option.toList_some, Option.toList_none, List.cons_append, List.nil_append, or_true, true_or, if_true, if_false, Int32.reduceLT, Int32.reduceLE, not_true, not_false_iff, true_and, and_true, false_and, and_false]
          exact y1
      · by_cases c6 : 6 < upN tk 2 + 2
        · have q6 : ¬ nI (upN tk 2 + 2) ≤ 6 := Int32.not_le.mpr (nI_lt (a := 6) (by omega) (by omega))
          rw [if_pos (Or.inl rfl)] at e
          have e2 : (aSt C (k + 1)).2.2 = true := by rw [e]
          rw [if_pos e2] at eR eS
          have y := ih (k + 1) (-2) (nI (upN st 8)) (some (.int (nI 8))) (some (.int (nI (upN tk 2)))) (some (.int (nI (upN tk 2 + 2)))) (by omega) (Or.inr ⟨eR.symm, fun _ => eS.symm⟩)
          rw [e] at y
          simp only [if_true, if_false, Bool.false_eq_true, Nat.reduceMul] at y ⊢
          obtain ⟨rg1, of1, x10, x11, x12, y1, y2⟩ := y
          refine ⟨rg1, of1, x10, x11, x12, ?_, y2⟩
          simp +decide only [e176_54, e176_56, e176_57, q, if_true]
          simp +decide only [e176_60, e176_61, e176_64, e176_65, e176_66, e176_68, e176_71, e176_72, e176_74, e176_76, e176_78, e176_81, e176_83, e176_84, e176_87, e176_90, e176_92, e176_94, e176_96, e176_98, e176_100, e176_103, e176_104, e176_107, e176_108, e176_109, e176_111, e176_113, e176_115, e176_118, e176_119, e176_121, e176_123, e176_126, e176_128, e176_131, e176_133, e176_135, e176_137, e176_140, e176_142, e176_144, e176_146, e176_149, e176_151, e176_154, e176_155, e176_158, e176_160, e176_162, e176_164, e176_166, e176_169, e176_171, e176_174, e176_175, e176_176, e176_178, e176_181, e176_183, e176_185, e176_188, (Mod_0 hs.2.1 : ob h (g + 266) 11), (rf_g (Mod_22 hs.2.1 : rf h (g + 266) 20 (g + 274)) : gR h (g + 266) 20 = (g + 274)), (rf_is (Mod_22 hs.2.1 : rf h (g + 266) 20 (g + 274)) : isR h (g + 266) 20), (Mod_23 hs.2.1 : arI h (g + 274) 0), (rdI_0 (Mod_23 hs.2.1 : arI h (g + 274) 0) : rdI h (g + 274)), (Mod_24 hs.2.1 : aln h (g + 274) = 6), (rf_g (Mod_25 hs.2.1 : rf h (g + 266) 21 (g + 275)) : gR h (g + 266) 21 = (g + 275)), (rf_is (Mod_25 hs.2.1 : rf h (g + 266) 21 (g + 275)) : isR h (g + 266) 21), (Mod_26 hs.2.1 : arI h (g + 275) 0), (rdI_0 (Mod_26 hs.2.1 : arI h (g + 275) 0) : rdI h (g + 275)), (Mod_27 hs.2.1 : aln h (g + 275) = 48), (rf_g (Mod_28 hs.2.1 : rf h (g + 266) 22 (g + 276)) : gR h (g + 266) 22 = (g + 276)), (rf_is (Mod_28 hs.2.1 : rf h (g + 266) 22 (g + 276)) : isR h (g + 266) 22), (Mod_29 hs.2.1 : arI h (g + 276) 0), (rdI_0 (Mod_29 hs.2.1 : arI h (g + 276) 0) : rdI h (g + 276)), (Mod_30 hs.2.1 : aln h (g + 276) = 48), (rf_g (Mod_46 hs.2.1 : rf h (g + 266) 33 (g + 282)) : gR h (g + 266) 33 = (g + 282)), (rf_is (Mod_46 hs.2.1 : rf h (g + 266) 33 (g + 282)) : isR h (g + 266) 33), (Mod_47 hs.2.1 : arI h (g + 282) 0), (rdI_0 (Mod_47 hs.2.1 : arI h (g + 282) 0) : rdI h (g + 282)), (Mod_48 hs.2.1 : aln h (g + 282) = 10), (rf_g (Mod_49 hs.2.1 : rf h (g + 266) 34 (g + 283)) : gR h (g + 266) 34 = (g + 283)), (rf_is (Mod_49 hs.2.1 : rf h (g + 266) 34 (g + 283)) : isR h (g + 266) 34), (Mod_50 hs.2.1 : arI h (g + 283) 0), (rdI_0 (Mod_50 hs.2.1 : arI h (g + 283) 0) : rdI h (g + 283)), (Mod_51 hs.2.1 : aln h (g + 283) = 10), (rf_g (Mod_52 hs.2.1 : rf h (g + 266) 35 (g + 284)) : gR h (g + 266) 35 = (g + 284)), (rf_is (Mod_52 hs.2.1 : rf h (g + 266) 35 (g + 284)) : isR h (g + 266) 35), (Mod_53 hs.2.1 : arI h (g + 284) 0), (rdI_0 (Mod_53 hs.2.1 : arI h (g + 284) 0) : rdI h (g + 284)), (Mod_54 hs.2.1 : aln h (g + 284) = 8), u, sm, hv, hcl, show nI 8 = (8 : Int32) from rfl, v2, w4, w8, aF, aB, q6, nI_1, if_true, if_false, vkk_n, vkk_i, vkk_r, vkk_l, vkk_d, catS_nil, catS_i, catS_r, catS_l, catS_d, Nat.reduceAdd, Nat.reduceLeDiff, Nat.zero_le, Nat.le_refl, Option.bind_some, Option.toList_some, Option.toList_none, List.cons_append, List.nil_append, or_true, true_or, if_true, if_false, Int32.reduceLT, Int32.reduceLE, not_true, not_false_iff, true_and, and_true, false_and, and_false]
          exact y1
        · have q6 : nI (upN tk 2 + 2) ≤ 6 := Int32.not_lt.mp (nI_nlt (a := 6) (by omega) (by omega))
          rw [if_pos (Or.inl rfl)] at e
          have e2 : (aSt C (k + 1)).2.2 = true := by rw [e]
          rw [if_pos e2] at eR eS
          have y := ih (k + 1) (-2) (nI (upN st 8)) (some (.int (nI 8))) (some (.int (nI (upN tk 2)))) (some (.int (nI (upN tk 2 + 2)))) (by omega) (Or.inr ⟨eR.symm, fun _ => eS.symm⟩)
          rw [e] at y
          simp only [if_true, if_false, Bool.false_eq_true, Nat.reduceMul] at y ⊢
          obtain ⟨rg1, of1, x10, x11, x12, y1, y2⟩ := y
          refine ⟨rg1, of1, x10, x11, x12, ?_, y2⟩
          simp +decide only [e176_54, e176_56, e176_57, q, if_true]
          simp +decide only [e176_60, e176_61, e176_64, e176_65, e176_66, e176_68, e176_71, e176_72, e176_74, e176_76, e176_78, e176_81, e176_83, e176_84, e176_87, e176_90, e176_92, e176_94, e176_96, e176_98, e176_100, e176_103, e176_104, e176_107, e176_108, e176_109, e176_111, e176_113, e176_115, e176_118, e176_119, e176_121, e176_123, e176_126, e176_128, e176_131, e176_133, e176_135, e176_137, e176_140, e176_142, e176_144, e176_146, e176_149, e176_151, e176_154, e176_155, e176_158, e176_160, e176_162, e176_164, e176_166, e176_169, e176_171, e176_174, e176_175, e176_176, e176_178, e176_181, e176_183, e176_185, e176_188, (Mod_0 hs.2.1 : ob h (g + 266) 11), (rf_g (Mod_22 hs.2.1 : rf h (g + 266) 20 (g + 274)) : gR h (g + 266) 20 = (g + 274)), (rf_is (Mod_22 hs.2.1 : rf h (g + 266) 20 (g + 274)) : isR h (g + 266) 20), (Mod_23 hs.2.1 : arI h (g + 274) 0), (rdI_0 (Mod_23 hs.2.1 : arI h (g + 274) 0) : rdI h (g + 274)), (Mod_24 hs.2.1 : aln h (g + 274) = 6), (rf_g (Mod_25 hs.2.1 : rf h (g + 266) 21 (g + 275)) : gR h (g + 266) 21 = (g + 275)), (rf_is (Mod_25 hs.2.1 : rf h (g + 266) 21 (g + 275)) : isR h (g + 266) 21), (Mod_26 hs.2.1 : arI h (g + 275) 0), (rdI_0 (Mod_26 hs.2.1 : arI h (g + 275) 0) : rdI h (g + 275)), (Mod_27 hs.2.1 : aln h (g + 275) = 48), (rf_g (Mod_28 hs.2.1 : rf h (g + 266) 22 (g + 276)) : gR h (g + 266) 22 = (g + 276)), (rf_is (Mod_28 hs.2.1 : rf h (g + 266) 22 (g + 276)) : isR h (g + 266) 22), (Mod_29 hs.2.1 : arI h (g + 276) 0), (rdI_0 (Mod_29 hs.2.1 : arI h (g + 276) 0) : rdI h (g + 276)), (Mod_30 hs.2.1 : aln h (g + 276) = 48), (rf_g (Mod_46 hs.2.1 : rf h (g + 266) 33 (g + 282)) : gR h (g + 266) 33 = (g + 282)), (rf_is (Mod_46 hs.2.1 : rf h (g + 266) 33 (g + 282)) : isR h (g + 266) 33), (Mod_47 hs.2.1 : arI h (g + 282) 0), (rdI_0 (Mod_47 hs.2.1 : arI h (g + 282) 0) : rdI h (g + 282)), (Mod_48 hs.2.1 : aln h (g + 282) = 10), (rf_g (Mod_49 hs.2.1 : rf h (g + 266) 34 (g + 283)) : gR h (g + 266) 34 = (g + 283)), (rf_is (Mod_49 hs.2.1 : rf h (g + 266) 34 (g + 283)) : isR h (g + 266) 34), (Mod_50 hs.2.1 : arI h (g + 283) 0), (rdI_0 (Mod_50 hs.2.1 : arI h (g + 283) 0) : rdI h (g + 283)), (Mod_51 hs.2.1 : aln h (g + 283) = 10), (rf_g (Mod_52 hs.2.1 : rf h (g + 266) 35 (g + 284)) : gR h (g + 266) 35 = (g + 284)), (rf_is (Mod_52 hs.2.1 : rf h (g + 266) 35 (g + 284)) : isR h (g + 266) 35), (Mod_53 hs.2.1 : arI h (g + 284) 0), (rdI_0 (Mod_53 hs.2.1 : arI h (g + 284) 0) : rdI h (g + 284)), (Mod_54 hs.2.1 : aln h (g + 284) = 8), u, sm, hv, hcl, show nI 8 = (8 : Int32) from rfl, v2, w4, w8, aF, aB, q6, nI_1, if_true, if_false, vkk_n, vkk_i, vkk_r, vkk_l, vkk_d, catS_nil, catS_i, catS_r, catS_l, catS_d, Nat.reduceAdd, Nat.reduceLeDiff, Nat.zero_le, Nat.le_refl, Option.bind_some, Option.toList_some, Option.toList_none, List.cons_append, List.nil_append, or_true, true_or, if_true, if_false, Int32.reduceLT, Int32.reduceLE, not_true, not_false_iff, true_and, and_true, false_and, and_false]
          exact y1
    · have nd : aNd (C k) = 1 := if_neg z8
      have n8 : ¬ nI (nSm (C k)) = 8 := fun z => z8 ((nI_eq (a := nSm (C k)) (b := 8) (by omega) (by omega)).mp z)
      rw [nd] at e eR eS
      rw [b1] at e eR
      have aF : nI (tk) + 1 = nI (tk + 1) := nI_add (a := tk) (b := 1)
      have aB : nI (upN st 4) + 4 = nI (upN st 4 + 4) := nI_add (a := upN st 4) (b := 4)
      rcases ov with - | -
      · by_cases c6 : 6 < tk + 1
        · have q6 : ¬ nI (tk + 1) ≤ 6 := Int32.not_le.mpr (nI_lt (a := 6) (by omega) (by omega))
          rw [if_pos (Or.inr c6)] at e
          have e2 : (aSt C (k + 1)).2.2 = true := by rw [e]
          rw [if_pos e2] at eR eS
          have y := ih (k + 1) (-2) (nI (upN st 4)) (some (.int (nI (nSm (C k))))) (some (.int (nI (tk)))) (some (.int (nI (tk + 1)))) (by omega) (Or.inr ⟨eR.symm, fun _ => eS.symm⟩)
          rw [e] at y
          simp only [if_true, if_false, Bool.false_eq_true, Nat.reduceMul] at y ⊢
          obtain ⟨rg1, of1, x10, x11, x12, y1, y2⟩ := y
          refine ⟨rg1, of1, x10, x11, x12, ?_, y2⟩
          simp +decide only [e176_54, e176_56, e176_57, q, if_true]
          simp +decide only [e176_60, e176_61, e176_64, e176_65, e176_66, e176_68, e176_71, e176_72, e176_74, e176_76, e176_78, e176_81, e176_83, e176_84, e176_87, e176_90, e176_92, e176_94, e176_96, e176_98, e176_100, e176_103, e176_104, e176_107, e176_108, e176_109, e176_111, e176_113, e176_115, e176_118, e176_119, e176_121, e176_123, e176_126, e176_128, e176_131, e176_133, e176_135, e176_137, e176_140, e176_142, e176_144, e176_146, e176_149, e176_151, e176_154, e176_155, e176_158, e176_160, e176_162, e176_164, e176_166, e176_169, e176_171, e176_174, e176_175, e176_176, e176_178, e176_181, e176_183, e176_185, e176_188, (Mod_0 hs.2.1 : ob h (g + 266) 11), (rf_g (Mod_22 hs.2.1 : rf h (g + 266) 20 (g + 274)) : gR h (g + 266) 20 = (g + 274)), (rf_is (Mod_22 hs.2.1 : rf h (g + 266) 20 (g + 274)) : isR h (g + 266) 20), (Mod_23 hs.2.1 : arI h (g + 274) 0), (rdI_0 (Mod_23 hs.2.1 : arI h (g + 274) 0) : rdI h (g + 274)), (Mod_24 hs.2.1 : aln h (g + 274) = 6), (rf_g (Mod_25 hs.2.1 : rf h (g + 266) 21 (g + 275)) : gR h (g + 266) 21 = (g + 275)), (rf_is (Mod_25 hs.2.1 : rf h (g + 266) 21 (g + 275)) : isR h (g + 266) 21), (Mod_26 hs.2.1 : arI h (g + 275) 0), (rdI_0 (Mod_26 hs.2.1 : arI h (g + 275) 0) : rdI h (g + 275)), (Mod_27 hs.2.1 : aln h (g + 275) = 48), (rf_g (Mod_28 hs.2.1 : rf h (g + 266) 22 (g + 276)) : gR h (g + 266) 22 = (g + 276)), (rf_is (Mod_28 hs.2.1 : rf h (g + 266) 22 (g + 276)) : isR h (g + 266) 22), (Mod_29 hs.2.1 : arI h (g + 276) 0), (rdI_0 (Mod_29 hs.2.1 : arI h (g + 276) 0) : rdI h (g + 276)), (Mod_30 hs.2.1 : aln h (g + 276) = 48), (rf_g (Mod_46 hs.2.1 : rf h (g + 266) 33 (g + 282)) : gR h (g + 266) 33 = (g + 282)), (rf_is (Mod_46 hs.2.1 : rf h (g + 266) 33 (g + 282)) : isR h (g + 266) 33), (Mod_47 hs.2.1 : arI h (g + 282) 0), (rdI_0 (Mod_47 hs.2.1 : arI h (g + 282) 0) : rdI h (g + 282)), (Mod_48 hs.2.1 : aln h (g + 282) = 10), (rf_g (Mod_49 hs.2.1 : rf h (g + 266) 34 (g + 283)) : gR h (g + 266) 34 = (g + 283)), (rf_is (Mod_49 hs.2.1 : rf h (g + 266) 34 (g + 283)) : isR h (g + 266) 34), (Mod_50 hs.2.1 : arI h (g + 283) 0), (rdI_0 (Mod_50 hs.2.1 : arI h (g + 283) 0) : rdI h (g + 283)), (Mod_51 hs.2.1 : aln h (g + 283) = 10), (rf_g (Mod_52 hs.2.1 : rf h (g + 266) 35 (g + 284)) : gR h (g + 266) 35 = (g + 284)), (rf_is (Mod_52 hs.2.1 : rf h (g + 266) 35 (g + 284)) : isR h (g + 266) 35), (Mod_53 hs.2.1 : arI h (g + 284) 0), (rdI_0 (Mod_53 hs.2.1 : arI h (g + 284) 0) : rdI h (g + 284)), (Mod_54 hs.2.1 : aln h (g + 284) = 8), u, sm, hv, hcl, n8, v2, w4, w8, aF, aB, q6, nI_1, if_true, if_false, vkk_n, vkk_i, vkk_r, vkk_l, vkk_d, catS_nil, catS_i, catS_r, catS_l, catS_d, Nat.reduceAdd, Nat.reduceLeDiff, Nat.zero_le, Nat.le_refl, Option.bind_some, Option.toList_some, Option.toList_none, List.cons_append, List.nil_append, or_true, true_or, if_true, if_false, Int32.reduceLT, Int32.reduceLE, not_true, not_false_iff, true_and, and_true, false_and, and_false]
          exact y1
        · have q6 : nI (tk + 1) ≤ 6 := Int32.not_lt.mp (nI_nlt (a := 6) (by omega) (by omega))
          rw [if_neg (fun z => z.elim (fun z => by cases z) c6)] at e
          have e2 : ¬ (aSt C (k + 1)).2.2 = true := by rw [e]; intro z; cases z
          rw [if_neg e2] at eR
          have y := ih (k + 1) (nI (tk)) of (some (.int (nI (nSm (C k))))) (some (.int (nI (tk)))) (some (.int (nI (tk + 1)))) (by omega) (Or.inr ⟨eR.symm, fun z => absurd z e2⟩)
          rw [e] at y
          simp only [if_true, if_false, Bool.false_eq_true, Nat.reduceMul] at y ⊢
          obtain ⟨rg1, of1, x10, x11, x12, y1, y2⟩ := y
          refine ⟨rg1, of1, x10, x11, x12, ?_, y2⟩
          simp +decide only [e176_54, e176_56, e176_57, q, if_true]
          simp +decide only [e176_60, e176_61, e176_64, e176_65, e176_66, e176_68, e176_71, e176_72, e176_74, e176_76, e176_78, e176_81, e176_83, e176_84, e176_87, e176_90, e176_92, e176_94, e176_96, e176_98, e176_100, e176_103, e176_104, e176_107, e176_108, e176_109, e176_111, e176_113, e176_115, e176_118, e176_119, e176_121, e176_123, e176_126, e176_128, e176_131, e176_133, e176_135, e176_137, e176_140, e176_142, e176_144, e176_146, e176_149, e176_151, e176_154, e176_155, e176_158, e176_160, e176_162, e176_164, e176_166, e176_169, e176_171, e176_174, e176_175, e176_176, e176_178, e176_181, e176_183, e176_185, e176_188, (Mod_0 hs.2.1 : ob h (g + 266) 11), (rf_g (Mod_22 hs.2.1 : rf h (g + 266) 20 (g + 274)) : gR h (g + 266) 20 = (g + 274)), (rf_is (Mod_22 hs.2.1 : rf h (g + 266) 20 (g + 274)) : isR h (g + 266) 20), (Mod_23 hs.2.1 : arI h (g + 274) 0), (rdI_0 (Mod_23 hs.2.1 : arI h (g + 274) 0) : rdI h (g + 274)), (Mod_24 hs.2.1 : aln h (g + 274) = 6), (rf_g (Mod_25 hs.2.1 : rf h (g + 266) 21 (g + 275)) : gR h (g + 266) 21 = (g + 275)), (rf_is (Mod_25 hs.2.1 : rf h (g + 266) 21 (g + 275)) : isR h (g + 266) 21), (Mod_26 hs.2.1 : arI h (g + 275) 0), (rdI_0 (Mod_26 hs.2.1 : arI h (g + 275) 0) : rdI h (g + 275)), (Mod_27 hs.2.1 : aln h (g + 275) = 48), (rf_g (Mod_28 hs.2.1 : rf h (g + 266) 22 (g + 276)) : gR h (g + 266) 22 = (g + 276)), (rf_is (Mod_28 hs.2.1 : rf h (g + 266) 22 (g + 276)) : isR h (g + 266) 22), (Mod_29 hs.2.1 : arI h (g + 276) 0), (rdI_0 (Mod_29 hs.2.1 : arI h (g + 276) 0) : rdI h (g + 276)), (Mod_30 hs.2.1 : aln h (g + 276) = 48), (rf_g (Mod_46 hs.2.1 : rf h (g + 266) 33 (g + 282)) : gR h (g + 266) 33 = (g + 282)), (rf_is (Mod_46 hs.2.1 : rf h (g + 266) 33 (g + 282)) : isR h (g + 266) 33), (Mod_47 hs.2.1 : arI h (g + 282) 0), (rdI_0 (Mod_47 hs.2.1 : arI h (g + 282) 0) : rdI h (g + 282)), (Mod_48 hs.2.1 : aln h (g + 282) = 10), (rf_g (Mod_49 hs.2.1 : rf h (g + 266) 34 (g + 283)) : gR h (g + 266) 34 = (g + 283)), (rf_is (Mod_49 hs.2.1 : rf h (g + 266) 34 (g + 283)) : isR h (g + 266) 34), (Mod_50 hs.2.1 : arI h (g + 283) 0), (rdI_0 (Mod_50 hs.2.1 : arI h (g + 283) 0) : rdI h (g + 283)), (Mod_51 hs.2.1 : aln h (g + 283) = 10), (rf_g (Mod_52 hs.2.1 : rf h (g + 266) 35 (g + 284)) : gR h (g + 266) 35 = (g + 284)), (rf_is (Mod_52 hs.2.1 : rf h (g + 266) 35 (g + 284)) : isR h (g + 266) 35), (Mod_53 hs.2.1 : arI h (g + 284) 0), (rdI_0 (Mod_53 hs.2.1 : arI h (g + 284) 0) : rdI h (g + 284)), (Mod_54 hs.2.1 : aln h (g + 284) = 8), u, sm, hv, hcl, n8, v2, w4, w8, aF, aB, q6, nI_1, if_true, if_false, vkk_n, vkk_i, vkk_r, vkk_l, vkk_d, catS_nil, catS_i, catS_r, catS_l, catS_d, Nat.reduceAdd, Nat.reduceLeDiff, Nat.zero_le, Nat.le_refl, Option.bind_some, Option.toList_some, Option.toList_none, List.cons_append, List.nil_append, or_true, true_or, if_true, if_false, Int32.reduceLT, Int32.reduceLE, not_true, not_false_iff, true_and, and_true, false_and, and_false]
          exact y1
      · by_cases c6 : 6 < tk + 1
        · have q6 : ¬ nI (tk + 1) ≤ 6 := Int32.not_le.mpr (nI_lt (a := 6) (by omega) (by omega))
          rw [if_pos (Or.inl rfl)] at e
          have e2 : (aSt C (k + 1)).2.2 = true := by rw [e]
          rw [if_pos e2] at eR eS
          have y := ih (k + 1) (-2) (nI (upN st 4)) (some (.int (nI (nSm (C k))))) (some (.int (nI (tk)))) (some (.int (nI (tk + 1)))) (by omega) (Or.inr ⟨eR.symm, fun _ => eS.symm⟩)
          rw [e] at y
          simp only [if_true, if_false, Bool.false_eq_true, Nat.reduceMul] at y ⊢
          obtain ⟨rg1, of1, x10, x11, x12, y1, y2⟩ := y
          refine ⟨rg1, of1, x10, x11, x12, ?_, y2⟩
          simp +decide only [e176_54, e176_56, e176_57, q, if_true]
          simp +decide only [e176_60, e176_61, e176_64, e176_65, e176_66, e176_68, e176_71, e176_72, e176_74, e176_76, e176_78, e176_81, e176_83, e176_84, e176_87, e176_90, e176_92, e176_94, e176_96, e176_98, e176_100, e176_103, e176_104, e176_107, e176_108, e176_109, e176_111, e176_113, e176_115, e176_118, e176_119, e176_121, e176_123, e176_126, e176_128, e176_131, e176_133, e176_135, e176_137, e176_140, e176_142, e176_144, e176_146, e176_149, e176_151, e176_154, e176_155, e176_158, e176_160, e176_162, e176_164, e176_166, e176_169, e176_171, e176_174, e176_175, e176_176, e176_178, e176_181, e176_183, e176_185, e176_188, (Mod_0 hs.2.1 : ob h (g + 266) 11), (rf_g (Mod_22 hs.2.1 : rf h (g + 266) 20 (g + 274)) : gR h (g + 266) 20 = (g + 274)), (rf_is (Mod_22 hs.2.1 : rf h (g + 266) 20 (g + 274)) : isR h (g + 266) 20), (Mod_23 hs.2.1 : arI h (g + 274) 0), (rdI_0 (Mod_23 hs.2.1 : arI h (g + 274) 0) : rdI h (g + 274)), (Mod_24 hs.2.1 : aln h (g + 274) = 6), (rf_g (Mod_25 hs.2.1 : rf h (g + 266) 21 (g + 275)) : gR h (g + 266) 21 = (g + 275)), (rf_is (Mod_25 hs.2.1 : rf h (g + 266) 21 (g + 275)) : isR h (g + 266) 21), (Mod_26 hs.2.1 : arI h (g + 275) 0), (rdI_0 (Mod_26 hs.2.1 : arI h (g + 275) 0) : rdI h (g + 275)), (Mod_27 hs.2.1 : aln h (g + 275) = 48), (rf_g (Mod_28 hs.2.1 : rf h (g + 266) 22 (g + 276)) : gR h (g + 266) 22 = (g + 276)), (rf_is (Mod_28 hs.2.1 : rf h (g + 266) 22 (g + 276)) : isR h (g + 266) 22), (Mod_29 hs.2.1 : arI h (g + 276) 0), (rdI_0 (Mod_29 hs.2.1 : arI h (g + 276) 0) : rdI h (g + 276)), (Mod_30 hs.2.1 : aln h (g + 276) = 48), (rf_g (Mod_46 hs.2.1 : rf h (g + 266) 33 (g + 282)) : gR h (g + 266) 33 = (g + 282)), (rf_is (Mod_46 hs.2.1 : rf h (g + 266) 33 (g + 282)) : isR h (g + 266) 33), (Mod_47 hs.2.1 : arI h (g + 282) 0), (rdI_0 (Mod_47 hs.2.1 : arI h (g + 282) 0) : rdI h (g + 282)), (Mod_48 hs.2.1 : aln h (g + 282) = 10), (rf_g (Mod_49 hs.2.1 : rf h (g + 266) 34 (g + 283)) : gR h (g + 266) 34 = (g + 283)), (rf_is (Mod_49 hs.2.1 : rf h (g + 266) 34 (g + 283)) : isR h (g + 266) 34), (Mod_50 hs.2.1 : arI h (g + 283) 0), (rdI_0 (Mod_50 hs.2.1 : arI h (g + 283) 0) : rdI h (g + 283)), (Mod_51 hs.2.1 : aln h (g + 283) = 10), (rf_g (Mod_52 hs.2.1 : rf h (g + 266) 35 (g + 284)) : gR h (g + 266) 35 = (g + 284)), (rf_is (Mod_52 hs.2.1 : rf h (g + 266) 35 (g + 284)) : isR h (g + 266) 35), (Mod_53 hs.2.1 : arI h (g + 284) 0), (rdI_0 (Mod_53 hs.2.1 : arI h (g + 284) 0) : rdI h (g + 284)), (Mod_54 hs.2.1 : aln h (g + 284) = 8), u, sm, hv, hcl, n8, v2, w4, w8, aF, aB, q6, nI_1, if_true, if_false, vkk_n, vkk_i, vkk_r, vkk_l, vkk_d, catS_nil, catS_i, catS_r, catS_l, catS_d, Nat.reduceAdd, Nat.reduceLeDiff, Nat.zero_le, Nat.le_refl, Option.bind_some, Option.toList_some, Option.toList_none, List.cons_append, List.nil_append, or_true, true_or, if_true, if_false, Int32.reduceLT, Int32.reduceLE, not_true, not_false_iff, true_and, and_true, false_and, and_false]
          exact y1
        · have q6 : nI (tk + 1) ≤ 6 := Int32.not_lt.mp (nI_nlt (a := 6) (by omega) (by omega))
          rw [if_pos (Or.inl rfl)] at e
          have e2 : (aSt C (k + 1)).2.2 = true := by rw [e]
          rw [if_pos e2] at eR eS
          have y := ih (k + 1) (-2) (nI (upN st 4)) (some (.int (nI (nSm (C k))))) (some (.int (nI (tk)))) (some (.int (nI (tk + 1)))) (by omega) (Or.inr ⟨eR.symm, fun _ => eS.symm⟩)
          rw [e] at y
          simp only [if_true, if_false, Bool.false_eq_true, Nat.reduceMul] at y ⊢
          obtain ⟨rg1, of1, x10, x11, x12, y1, y2⟩ := y
          refine ⟨rg1, of1, x10, x11, x12, ?_, y2⟩
          simp +decide only [e176_54, e176_56, e176_57, q, if_true]
          simp +decide only [e176_60, e176_61, e176_64, e176_65, e176_66, e176_68, e176_71, e176_72, e176_74, e176_76, e176_78, e176_81, e176_83, e176_84, e176_87, e176_90, e176_92, e176_94, e176_96, e176_98, e176_100, e176_103, e176_104, e176_107, e176_108, e176_109, e176_111, e176_113, e176_115, e176_118, e176_119, e176_121, e176_123, e176_126, e176_128, e176_131, e176_133, e176_135, e176_137, e176_140, e176_142, e176_144, e176_146, e176_149, e176_151, e176_154, e176_155, e176_158, e176_160, e176_162, e176_164, e176_166, e176_169, e176_171, e176_174, e176_175, e176_176, e176_178, e176_181, e176_183, e176_185, e176_188, (Mod_0 hs.2.1 : ob h (g + 266) 11), (rf_g (Mod_22 hs.2.1 : rf h (g + 266) 20 (g + 274)) : gR h (g + 266) 20 = (g + 274)), (rf_is (Mod_22 hs.2.1 : rf h (g + 266) 20 (g + 274)) : isR h (g + 266) 20), (Mod_23 hs.2.1 : arI h (g + 274) 0), (rdI_0 (Mod_23 hs.2.1 : arI h (g + 274) 0) : rdI h (g + 274)), (Mod_24 hs.2.1 : aln h (g + 274) = 6), (rf_g (Mod_25 hs.2.1 : rf h (g + 266) 21 (g + 275)) : gR h (g + 266) 21 = (g + 275)), (rf_is (Mod_25 hs.2.1 : rf h (g + 266) 21 (g + 275)) : isR h (g + 266) 21), (Mod_26 hs.2.1 : arI h (g + 275) 0), (rdI_0 (Mod_26 hs.2.1 : arI h (g + 275) 0) : rdI h (g + 275)), (Mod_27 hs.2.1 : aln h (g + 275) = 48), (rf_g (Mod_28 hs.2.1 : rf h (g + 266) 22 (g + 276)) : gR h (g + 266) 22 = (g + 276)), (rf_is (Mod_28 hs.2.1 : rf h (g + 266) 22 (g + 276)) : isR h (g + 266) 22), (Mod_29 hs.2.1 : arI h (g + 276) 0), (rdI_0 (Mod_29 hs.2.1 : arI h (g + 276) 0) : rdI h (g + 276)), (Mod_30 hs.2.1 : aln h (g + 276) = 48), (rf_g (Mod_46 hs.2.1 : rf h (g + 266) 33 (g + 282)) : gR h (g + 266) 33 = (g + 282)), (rf_is (Mod_46 hs.2.1 : rf h (g + 266) 33 (g + 282)) : isR h (g + 266) 33), (Mod_47 hs.2.1 : arI h (g + 282) 0), (rdI_0 (Mod_47 hs.2.1 : arI h (g + 282) 0) : rdI h (g + 282)), (Mod_48 hs.2.1 : aln h (g + 282) = 10), (rf_g (Mod_49 hs.2.1 : rf h (g + 266) 34 (g + 283)) : gR h (g + 266) 34 = (g + 283)), (rf_is (Mod_49 hs.2.1 : rf h (g + 266) 34 (g + 283)) : isR h (g + 266) 34), (Mod_50 hs.2.1 : arI h (g + 283) 0), (rdI_0 (Mod_50 hs.2.1 : arI h (g + 283) 0) : rdI h (g + 283)), (Mod_51 hs.2.1 : aln h (g + 283) = 10), (rf_g (Mod_52 hs.2.1 : rf h (g + 266) 35 (g + 284)) : gR h (g + 266) 35 = (g + 284)), (rf_is (Mod_52 hs.2.1 : rf h (g + 266) 35 (g + 284)) : isR h (g + 266) 35), (Mod_53 hs.2.1 : arI h (g + 284) 0), (rdI_0 (Mod_53 hs.2.1 : arI h (g + 284) 0) : rdI h (g + 284)), (Mod_54 hs.2.1 : aln h (g + 284) = 8), u, sm, hv, hcl, n8, v2, w4, w8, aF, aB, q6, nI_1, if_true, if_false, vkk_n, vkk_i, vkk_r, vkk_l, vkk_d, catS_nil, catS_i, catS_r, catS_l, catS_d, Nat.reduceAdd, Nat.reduceLeDiff, Nat.zero_le, Nat.le_refl, Option.bind_some, Option.toList_some, Option.toList_none, List.cons_append, List.nil_append, or_true, true_or, if_true, if_false, Int32.reduceLT, Int32.reduceLE, not_true, not_false_iff, true_and, and_true, false_and, and_false]
          exact y1
