/-! unlike: both sides -/
noncomputable def uR (P : Nat → Prop) (E : Int32) : Nat → Nat → Int32
  | 0, _ => E
  | d + 1, c => @ite Int32 (P c) (Classical.propDecidable _) (uR P E d (c + 1)) (nI c)
theorem uR_eq {P Q : Nat → Prop} {E : Int32} : ∀ (d c : Nat), (∀ j, c ≤ j → j < c + d → (P j ↔ Q j)) → uR P E d c = uR Q E d c
  | 0, _, _ => rfl
  | d + 1, c, h => by
    have h1 := uR_eq (E := E) d (c + 1) (fun j j1 j2 => h j (by omega) (by omega))
    have h2 := h c (Nat.le_refl _) (by omega)
    unfold uR
    rw [h1]
    by_cases q : P c
    · rw [if_pos q, if_pos (h2.mp q)]
    · rw [if_neg q, if_neg (fun z => q (h2.mpr z))]
theorem l_unl (h : VG) (g A B n : Nat) (x1 x2 : Int32) (hA : ShBin h A) (hB : ShBin h B) (hn : n ≤ 40) : ∀ (d c : Nat), c + d = n → ev 119 86 [some (.ref g), some (.int x1), some (.int x2), some (.ref A), some (.ref B), some (.int (nI n)), some (.int (nI c))] [] h = some (some (.int (uR (fun i => alk (aI h (A + 1) i) (aL h (A + 2) i) (aI h (B + 1) i) (aL h (B + 2) i)) (if gI h A 1 = gI h B 1 then -1 else nI n) d c)), h) := by
  have oA := Bin_0 hA
  have oB := Bin_0 hB
  intro d
  induction d with
  | zero =>
    intro c hc
    obtain rfl : c = n := by omega
    have q : ¬ nI c < nI c := nI_nlt (Nat.le_refl _) (by omega)
    unfold uR
    by_cases e : gI h A 1 = gI h B 1
    · rw [if_pos e]
      simp +decide only [e119_86, e119_88, e119_90, e119_113, e119_114, e119_117, e119_119, e119_122, e119_125, e119_126, e119_129, e119_131, q, e, oA, oB, vkk_n, vkk_i, vkk_r, vkk_l, vkk_d, catS_nil, catS_i, catS_r, catS_l, catS_d, Nat.reduceAdd, Nat.reduceLeDiff, Nat.zero_le, Nat.le_refl, Option.bind_some, Option.toList_some, Option.toList_none, List.cons_append, List.nil_append, or_true, true_or, if_true, if_false, Int32.reduceLT, Int32.reduceLE, not_true, not_false_iff, true_and, and_true, false_and, and_false]
    · rw [if_neg e]
      simp +decide only [e119_86, e119_88, e119_90, e119_113, e119_114, e119_117, e119_119, e119_122, e119_125, e119_126, e119_129, e119_131, q, e, oA, oB, vkk_n, vkk_i, vkk_r, vkk_l, vkk_d, catS_nil, catS_i, catS_r, catS_l, catS_d, Nat.reduceAdd, Nat.reduceLeDiff, Nat.zero_le, Nat.le_refl, Option.bind_some, Option.toList_some, Option.toList_none, List.cons_append, List.nil_append, or_true, true_or, if_true, if_false, Int32.reduceLT, Int32.reduceLE, not_true, not_false_iff, true_and, and_true, false_and, and_false]
  | succ d ih =>
    intro c hc
    have q : nI c < nI n := nI_lt (by omega) (by omega)
    have e := c_isAlike h A B c hA hB (by omega)
    have t := ih (c + 1) (by omega)
    unfold uR
    simp +decide only [e119_86, e119_88, e119_90, q, if_true]
    by_cases z : alk (aI h (A + 1) c) (aL h (A + 2) c) (aI h (B + 1) c) (aL h (B + 2) c)
    · rw [cI_1 z] at e
      rw [if_pos z]
      simp +decide only [e119_93, e119_94, e119_96, e119_98, e119_101, e119_104, e119_106, e119_107, e119_110, e, oA, oB, nI_1, vkk_n, vkk_i, vkk_r, vkk_l, vkk_d, catS_nil, catS_i, catS_r, catS_l, catS_d, Nat.reduceAdd, Nat.reduceLeDiff, Nat.zero_le, Nat.le_refl, Option.bind_some, Option.toList_some, Option.toList_none, List.cons_append, List.nil_append, or_true, true_or, if_true, if_false, Int32.reduceLT, Int32.reduceLE, not_true, not_false_iff, true_and, and_true, false_and, and_false]
      exact t
    · rw [cI_0 z] at e
      rw [if_neg z]
      simp +decide only [e119_93, e119_94, e119_96, e119_98, e119_101, e119_104, e119_106, e119_107, e119_110, e, oA, oB, nI_1, vkk_n, vkk_i, vkk_r, vkk_l, vkk_d, catS_nil, catS_i, catS_r, catS_l, catS_d, Nat.reduceAdd, Nat.reduceLeDiff, Nat.zero_le, Nat.le_refl, Option.bind_some, Option.toList_some, Option.toList_none, List.cons_append, List.nil_append, or_true, true_or, if_true, if_false, Int32.reduceLT, Int32.reduceLE, not_true, not_false_iff, true_and, and_true, false_and, and_false]
theorem l_m_unl (h : VG) (g b1 b2 n n1 n2 : Nat) (x3 : Int32) (hs : Sh h g) (hb1 : b1 < 8) (hb2 : b2 < 8) (m1 : aI h (g + 286) b1 = nI n1) (m2 : aI h (g + 286) b2 = nI n2) (hn : n ≤ 40) (P : Nat → Prop) (hP : ∀ c, c < n → ev 200 0 [some (.ref (g + 266)), some (.int (nI (40 * b1 + c))), some (.int (nI (40 * b2 + c))), none] [] h = some (some (.int (cI (P c))), h)) : ∀ (d c : Nat), c + d = n → ev 201 115 [some (.ref (g + 266)), some (.int (nI b1)), some (.int (nI b2)), some (.int x3), some (.int (nI n)), some (.int (nI c))] [] h = some (some (.int (uR P (if nI n1 = nI n2 then -1 else nI n) d c)), h) := by
  have v1 : vp_in (nI b1) 8 := vp_in_nI hb1 (by decide)
  have c1 : (nI b1).toNatClampNeg = b1 := nI_clamp (by omega)
  have v2 : vp_in (nI b2) 8 := vp_in_nI hb2 (by decide)
  have c2 : (nI b2).toNatClampNeg = b2 := nI_clamp (by omega)
  intro d
  induction d with
  | zero =>
    intro c hc
    obtain rfl : c = n := by omega
    have q : ¬ nI c < nI c := nI_nlt (Nat.le_refl _) (by omega)
    unfold uR
    by_cases e : nI n1 = nI n2
    · rw [if_pos e]
      simp +decide only [e201_115, e201_117, e201_119, e201_152, e201_153, e201_156, e201_157, e201_158, e201_159, e201_162, e201_163, e201_164, e201_167, e201_168, e201_171, e201_173, q, m1, m2, e, v1, c1, v2, c2, (Mod_0 hs.2.1 : ob h (g + 266) 11), (rf_g (Mod_55 hs.2.1 : rf h (g + 266) 42 (g + 285)) : gR h (g + 266) 42 = (g + 285)), (rf_is (Mod_55 hs.2.1 : rf h (g + 266) 42 (g + 285)) : isR h (g + 266) 42), (Mod_56 hs.2.1 : arI h (g + 285) 0), (rdI_0 (Mod_56 hs.2.1 : arI h (g + 285) 0) : rdI h (g + 285)), (Mod_57 hs.2.1 : aln h (g + 285) = 8), (rf_g (Mod_58 hs.2.1 : rf h (g + 266) 43 (g + 286)) : gR h (g + 266) 43 = (g + 286)), (rf_is (Mod_58 hs.2.1 : rf h (g + 266) 43 (g + 286)) : isR h (g + 266) 43), (Mod_59 hs.2.1 : arI h (g + 286) 0), (rdI_0 (Mod_59 hs.2.1 : arI h (g + 286) 0) : rdI h (g + 286)), (Mod_60 hs.2.1 : aln h (g + 286) = 8), vkk_n, vkk_i, vkk_r, vkk_l, vkk_d, catS_nil, catS_i, catS_r, catS_l, catS_d, Nat.reduceAdd, Nat.reduceLeDiff, Nat.zero_le, Nat.le_refl, Option.bind_some, Option.toList_some, Option.toList_none, List.cons_append, List.nil_append, or_true, true_or, if_true, if_false, Int32.reduceLT, Int32.reduceLE, not_true, not_false_iff, true_and, and_true, false_and, and_false, Nat.add_assoc, Nat.reduceAdd, Nat.add_left_cancel_iff, Nat.reduceEqDiff, Nat.add_eq_left, Nat.left_eq_add]
    · rw [if_neg e]
      simp +decide only [e201_115, e201_117, e201_119, e201_152, e201_153, e201_156, e201_157, e201_158, e201_159, e201_162, e201_163, e201_164, e201_167, e201_168, e201_171, e201_173, q, m1, m2, e, v1, c1, v2, c2, (Mod_0 hs.2.1 : ob h (g + 266) 11), (rf_g (Mod_55 hs.2.1 : rf h (g + 266) 42 (g + 285)) : gR h (g + 266) 42 = (g + 285)), (rf_is (Mod_55 hs.2.1 : rf h (g + 266) 42 (g + 285)) : isR h (g + 266) 42), (Mod_56 hs.2.1 : arI h (g + 285) 0), (rdI_0 (Mod_56 hs.2.1 : arI h (g + 285) 0) : rdI h (g + 285)), (Mod_57 hs.2.1 : aln h (g + 285) = 8), (rf_g (Mod_58 hs.2.1 : rf h (g + 266) 43 (g + 286)) : gR h (g + 266) 43 = (g + 286)), (rf_is (Mod_58 hs.2.1 : rf h (g + 266) 43 (g + 286)) : isR h (g + 266) 43), (Mod_59 hs.2.1 : arI h (g + 286) 0), (rdI_0 (Mod_59 hs.2.1 : arI h (g + 286) 0) : rdI h (g + 286)), (Mod_60 hs.2.1 : aln h (g + 286) = 8), vkk_n, vkk_i, vkk_r, vkk_l, vkk_d, catS_nil, catS_i, catS_r, catS_l, catS_d, Nat.reduceAdd, Nat.reduceLeDiff, Nat.zero_le, Nat.le_refl, Option.bind_some, Option.toList_some, Option.toList_none, List.cons_append, List.nil_append, or_true, true_or, if_true, if_false, Int32.reduceLT, Int32.reduceLE, not_true, not_false_iff, true_and, and_true, false_and, and_false, Nat.add_assoc, Nat.reduceAdd, Nat.add_left_cancel_iff, Nat.reduceEqDiff, Nat.add_eq_left, Nat.left_eq_add]
  | succ d ih =>
    intro c hc
    have q : nI c < nI n := nI_lt (by omega) (by omega)
    have e := hP c (by omega)
    have t := ih (c + 1) (by omega)
    have hm : ob h (g + 266) 11 := Mod_0 hs.2.1
    unfold uR
    simp +decide only [e201_115, e201_117, e201_119, q, if_true]
    by_cases z : P c
    · rw [cI_1 z] at e
      rw [if_pos z]
      simp +decide only [e201_122, e201_123, e201_125, e201_126, e201_127, e201_129, e201_130, e201_132, e201_133, e201_134, e201_136, e201_137, e201_140, e201_143, e201_145, e201_146, e201_149, hm, e, nI_40, nI_1, vkk_n, vkk_i, vkk_r, vkk_l, vkk_d, catS_nil, catS_i, catS_r, catS_l, catS_d, Nat.reduceAdd, Nat.reduceLeDiff, Nat.zero_le, Nat.le_refl, Option.bind_some, Option.toList_some, Option.toList_none, List.cons_append, List.nil_append, or_true, true_or, if_true, if_false, Int32.reduceLT, Int32.reduceLE, not_true, not_false_iff, true_and, and_true, false_and, and_false]
      exact t
    · rw [cI_0 z] at e
      rw [if_neg z]
      simp +decide only [e201_122, e201_123, e201_125, e201_126, e201_127, e201_129, e201_130, e201_132, e201_133, e201_134, e201_136, e201_137, e201_140, e201_143, e201_145, e201_146, e201_149, hm, e, nI_40, nI_1, vkk_n, vkk_i, vkk_r, vkk_l, vkk_d, catS_nil, catS_i, catS_r, catS_l, catS_d, Nat.reduceAdd, Nat.reduceLeDiff, Nat.zero_le, Nat.le_refl, Option.bind_some, Option.toList_some, Option.toList_none, List.cons_append, List.nil_append, or_true, true_or, if_true, if_false, Int32.reduceLT, Int32.reduceLE, not_true, not_false_iff, true_and, and_true, false_and, and_false]
theorem cOk_put {s : Nat} {k : Int32} (hs : s < 10) (h : cOk s k) : cPut k := by
  rcases (show s < 8 ∨ s = 8 ∨ s = 9 by omega) with z | z | z
  · exact Or.inr ⟨s, hs, h.1 z⟩
  · exact h.2.1 z
  · rcases h.2.2 z with y | y
    · exact Or.inl y
    · exact Or.inr ⟨8, by decide, y⟩
theorem min_n {a b : Nat} (ha : a ≤ 40) (hb : b ≤ 40) : (if nI b < nI a then nI b else nI a) = nI (min a b) ∧ (if nI a < nI b then nI a else nI b) = nI (min a b) := by
  rcases Nat.lt_trichotomy a b with z | z | z
  · rw [if_neg (nI_nlt (by omega) (by omega)), if_pos (nI_lt z (by omega)), Nat.min_eq_left (by omega)]
    exact ⟨rfl, rfl⟩
  · subst z
    rw [if_neg (nI_nlt (Nat.le_refl _) (by omega)), Nat.min_self]
    exact ⟨rfl, rfl⟩
  · rw [if_pos (nI_lt z (by omega)), if_neg (nI_nlt (by omega) (by omega)), Nat.min_eq_right (by omega)]
    exact ⟨rfl, rfl⟩
theorem c_m_unl_no (h : VG) (g a b s1 s2 : Nat) (f : Int32) (hs : Sh h g) (ha : a < 8) (hb : b < 8) (e1 : aI h (g + 285) a = nI s1) (e2 : aI h (g + 285) b = nI s2) (hf : f = rowRef (nI s1) ∨ (rowRef (nI s1) = 0 ∧ f = rowRef (nI s2))) (f0 : ¬ f = 0) : ev 201 0 [some (.ref (g + 266)), some (.int (nI a)), some (.int (nI b)), none, none, none] [] h = some (some (.int (-2)), mRf h (g + 266) f) := by
  have v1 : vp_in (nI a) 8 := vp_in_nI ha (by decide)
  have c1 : (nI a).toNatClampNeg = a := nI_clamp (by omega)
  have v2 : vp_in (nI b) 8 := vp_in_nI hb (by decide)
  have c2 : (nI b).toNatClampNeg = b := nI_clamp (by omega)
  have j1 := fun h => mBin_c (h := h) (c_bn1 ha).2
  have j2 := fun h => mBin_c (h := h) (c_bn1 hb).2
  have hm : ob h (g + 266) 11 := Mod_0 hs.2.1
  have m3 := (msy_0 h (g + 266) 3 (by decide) hm).1
  have m2 := (msy_0 h (g + 266) 2 (by decide) hm).1
  by_cases q1 : nI s1 = 11
  · have e : f = 3 := by
      unfold rowRef at hf
      rw [if_pos q1] at hf
      exact hf.resolve_right (fun z => absurd z.1 (by decide))
    subst e
    simp +decide only [e201_0, e201_1, e201_2, e201_5, e201_6, e201_9, e201_12, e201_13, e201_16, e201_19, e201_21, e201_22, e201_23, e201_26, e201_27, e201_28, e201_30, e201_33, e201_34, e201_37, e201_38, e201_41, e201_42, e201_43, e201_45, e201_48, e201_49, e201_52, e201_53, e201_56, e201_57, e201_58, e201_60, e201_63, e201_64, e201_67, e201_68, e201_71, e201_72, e201_73, e201_75, e201_78, e201_79, e201_82, e201_83, e201_84, e201_85, e201_86, e201_89, e201_92, e201_94, e201_95, e201_96, e201_99, e201_100, e201_101, e201_102, e201_105, e201_106, e201_107, e201_110, e201_112, e201_113, e201_115, e201_117, e201_119, e201_122, e201_123, e201_125, e201_126, e201_127, e201_129, e201_130, e201_132, e201_133, e201_134, e201_136, e201_137, e201_140, e201_143, e201_145, e201_146, e201_149, e201_152, e201_153, e201_156, e201_157, e201_158, e201_159, e201_162, e201_163, e201_164, e201_167, e201_168, e201_171, e201_173, j1, j2, hm, v1, c1, v2, c2, e1, e2, q1, c_m_says, m2, m3, (Mod_0 hs.2.1 : ob h (g + 266) 11), (rf_g (Mod_55 hs.2.1 : rf h (g + 266) 42 (g + 285)) : gR h (g + 266) 42 = (g + 285)), (rf_is (Mod_55 hs.2.1 : rf h (g + 266) 42 (g + 285)) : isR h (g + 266) 42), (Mod_56 hs.2.1 : arI h (g + 285) 0), (rdI_0 (Mod_56 hs.2.1 : arI h (g + 285) 0) : rdI h (g + 285)), (Mod_57 hs.2.1 : aln h (g + 285) = 8), ob_pI, rf_pI, isR_pI, isI_pI, isL_pI, arI_pI, arL_pI, arR_pI, arD_pI, aln_pI, rdI_pI, rdB_pI, rdR_pI, aR_pI, pI_2, gI_pI, gL_pI, gD_pI, gR_pI, aI_pI, aL_pI, aD_pI, ob_pL, rf_pL, isR_pL, isI_pL, isL_pL, arI_pL, arL_pL, arR_pL, arD_pL, aln_pL, rdI_pL, rdB_pL, rdR_pL, aR_pL, pL_2, gI_pL, gL_pL, gD_pL, gR_pL, aI_pL, aL_pL, aD_pL, ob_wI, rf_wI, isR_wI, isI_wI, isL_wI, arI_wI, arL_wI, arR_wI, arD_wI, aln_wI, rdI_wI, rdB_wI, rdR_wI, aR_wI, wI_2, gI_wI, gL_wI, gD_wI, gR_wI, aL_wI, aD_wI, aI_wI_ne, ob_wL, rf_wL, isR_wL, isI_wL, isL_wL, arI_wL, arL_wL, arR_wL, arD_wL, aln_wL, rdI_wL, rdB_wL, rdR_wL, aR_wL, wL_2, gI_wL, gL_wL, gD_wL, gR_wL, aI_wL, aD_wL, aL_wL_ne, ob_bI, rf_bI, isR_bI, isI_bI, isL_bI, arI_bI, arL_bI, arR_bI, arD_bI, aln_bI, rdI_bI, rdB_bI, rdR_bI, aR_bI, bI_2, gI_bI, gL_bI, gD_bI, gR_bI, aL_bI, aD_bI, aI_bI_ne, ob_bL, rf_bL, isR_bL, isI_bL, isL_bL, arI_bL, arL_bL, arR_bL, arD_bL, aln_bL, rdI_bL, rdB_bL, rdR_bL, aR_bL, bL_2, gI_bL, gL_bL, gD_bL, gR_bL, aI_bL, aD_bL, aL_bL_ne, Nat.add_assoc, Nat.reduceAdd, Nat.add_left_cancel_iff, Nat.reduceEqDiff, Nat.add_eq_left, Nat.left_eq_add, vkk_n, vkk_i, vkk_r, vkk_l, vkk_d, catS_nil, catS_i, catS_r, catS_l, catS_d, Nat.reduceAdd, Nat.reduceLeDiff, Nat.zero_le, Nat.le_refl, Option.bind_some, Option.toList_some, Option.toList_none, List.cons_append, List.nil_append, or_true, true_or, if_true, if_false, Int32.reduceLT, Int32.reduceLE, not_true, not_false_iff, true_and, and_true, false_and, and_false]
  · by_cases q2 : nI s1 = 10
    · have e : f = 2 := by
        unfold rowRef at hf
        rw [if_neg q1, if_pos q2] at hf
        exact hf.resolve_right (fun z => absurd z.1 (by decide))
      subst e
      simp +decide only [e201_0, e201_1, e201_2, e201_5, e201_6, e201_9, e201_12, e201_13, e201_16, e201_19, e201_21, e201_22, e201_23, e201_26, e201_27, e201_28, e201_30, e201_33, e201_34, e201_37, e201_38, e201_41, e201_42, e201_43, e201_45, e201_48, e201_49, e201_52, e201_53, e201_56, e201_57, e201_58, e201_60, e201_63, e201_64, e201_67, e201_68, e201_71, e201_72, e201_73, e201_75, e201_78, e201_79, e201_82, e201_83, e201_84, e201_85, e201_86, e201_89, e201_92, e201_94, e201_95, e201_96, e201_99, e201_100, e201_101, e201_102, e201_105, e201_106, e201_107, e201_110, e201_112, e201_113, e201_115, e201_117, e201_119, e201_122, e201_123, e201_125, e201_126, e201_127, e201_129, e201_130, e201_132, e201_133, e201_134, e201_136, e201_137, e201_140, e201_143, e201_145, e201_146, e201_149, e201_152, e201_153, e201_156, e201_157, e201_158, e201_159, e201_162, e201_163, e201_164, e201_167, e201_168, e201_171, e201_173, j1, j2, hm, v1, c1, v2, c2, e1, e2, q1, q2, c_m_says, m2, m3, (Mod_0 hs.2.1 : ob h (g + 266) 11), (rf_g (Mod_55 hs.2.1 : rf h (g + 266) 42 (g + 285)) : gR h (g + 266) 42 = (g + 285)), (rf_is (Mod_55 hs.2.1 : rf h (g + 266) 42 (g + 285)) : isR h (g + 266) 42), (Mod_56 hs.2.1 : arI h (g + 285) 0), (rdI_0 (Mod_56 hs.2.1 : arI h (g + 285) 0) : rdI h (g + 285)), (Mod_57 hs.2.1 : aln h (g + 285) = 8), ob_pI, rf_pI, isR_pI, isI_pI, isL_pI, arI_pI, arL_pI, arR_pI, arD_pI, aln_pI, rdI_pI, rdB_pI, rdR_pI, aR_pI, pI_2, gI_pI, gL_pI, gD_pI, gR_pI, aI_pI, aL_pI, aD_pI, ob_pL, rf_pL, isR_pL, isI_pL, isL_pL, arI_pL, arL_pL, arR_pL, arD_pL, aln_pL, rdI_pL, rdB_pL, rdR_pL, aR_pL, pL_2, gI_pL, gL_pL, gD_pL, gR_pL, aI_pL, aL_pL, aD_pL, ob_wI, rf_wI, isR_wI, isI_wI, isL_wI, arI_wI, arL_wI, arR_wI, arD_wI, aln_wI, rdI_wI, rdB_wI, rdR_wI, aR_wI, wI_2, gI_wI, gL_wI, gD_wI, gR_wI, aL_wI, aD_wI, aI_wI_ne, ob_wL, rf_wL, isR_wL, isI_wL, isL_wL, arI_wL, arL_wL, arR_wL, arD_wL, aln_wL, rdI_wL, rdB_wL, rdR_wL, aR_wL, wL_2, gI_wL, gL_wL, gD_wL, gR_wL, aI_wL, aD_wL, aL_wL_ne, ob_bI, rf_bI, isR_bI, isI_bI, isL_bI, arI_bI, arL_bI, arR_bI, arD_bI, aln_bI, rdI_bI, rdB_bI, rdR_bI, aR_bI, bI_2, gI_bI, gL_bI, gD_bI, gR_bI, aL_bI, aD_bI, aI_bI_ne, ob_bL, rf_bL, isR_bL, isI_bL, isL_bL, arI_bL, arL_bL, arR_bL, arD_bL, aln_bL, rdI_bL, rdB_bL, rdR_bL, aR_bL, bL_2, gI_bL, gL_bL, gD_bL, gR_bL, aI_bL, aD_bL, aL_bL_ne, Nat.add_assoc, Nat.reduceAdd, Nat.add_left_cancel_iff, Nat.reduceEqDiff, Nat.add_eq_left, Nat.left_eq_add, vkk_n, vkk_i, vkk_r, vkk_l, vkk_d, catS_nil, catS_i, catS_r, catS_l, catS_d, Nat.reduceAdd, Nat.reduceLeDiff, Nat.zero_le, Nat.le_refl, Option.bind_some, Option.toList_some, Option.toList_none, List.cons_append, List.nil_append, or_true, true_or, if_true, if_false, Int32.reduceLT, Int32.reduceLE, not_true, not_false_iff, true_and, and_true, false_and, and_false]
    · have e : f = rowRef (nI s2) := by
        rcases hf with z | z
        · exfalso
          unfold rowRef at z
          rw [if_neg q1, if_neg q2] at z
          exact f0 z
        · exact z.2
      unfold rowRef at e
      by_cases q3 : nI s2 = 11
      · rw [if_pos q3] at e
        subst e
        simp +decide only [e201_0, e201_1, e201_2, e201_5, e201_6, e201_9, e201_12, e201_13, e201_16, e201_19, e201_21, e201_22, e201_23, e201_26, e201_27, e201_28, e201_30, e201_33, e201_34, e201_37, e201_38, e201_41, e201_42, e201_43, e201_45, e201_48, e201_49, e201_52, e201_53, e201_56, e201_57, e201_58, e201_60, e201_63, e201_64, e201_67, e201_68, e201_71, e201_72, e201_73, e201_75, e201_78, e201_79, e201_82, e201_83, e201_84, e201_85, e201_86, e201_89, e201_92, e201_94, e201_95, e201_96, e201_99, e201_100, e201_101, e201_102, e201_105, e201_106, e201_107, e201_110, e201_112, e201_113, e201_115, e201_117, e201_119, e201_122, e201_123, e201_125, e201_126, e201_127, e201_129, e201_130, e201_132, e201_133, e201_134, e201_136, e201_137, e201_140, e201_143, e201_145, e201_146, e201_149, e201_152, e201_153, e201_156, e201_157, e201_158, e201_159, e201_162, e201_163, e201_164, e201_167, e201_168, e201_171, e201_173, j1, j2, hm, v1, c1, v2, c2, e1, e2, q1, q2, q3, c_m_says, m2, m3, (Mod_0 hs.2.1 : ob h (g + 266) 11), (rf_g (Mod_55 hs.2.1 : rf h (g + 266) 42 (g + 285)) : gR h (g + 266) 42 = (g + 285)), (rf_is (Mod_55 hs.2.1 : rf h (g + 266) 42 (g + 285)) : isR h (g + 266) 42), (Mod_56 hs.2.1 : arI h (g + 285) 0), (rdI_0 (Mod_56 hs.2.1 : arI h (g + 285) 0) : rdI h (g + 285)), (Mod_57 hs.2.1 : aln h (g + 285) = 8), ob_pI, rf_pI, isR_pI, isI_pI, isL_pI, arI_pI, arL_pI, arR_pI, arD_pI, aln_pI, rdI_pI, rdB_pI, rdR_pI, aR_pI, pI_2, gI_pI, gL_pI, gD_pI, gR_pI, aI_pI, aL_pI, aD_pI, ob_pL, rf_pL, isR_pL, isI_pL, isL_pL, arI_pL, arL_pL, arR_pL, arD_pL, aln_pL, rdI_pL, rdB_pL, rdR_pL, aR_pL, pL_2, gI_pL, gL_pL, gD_pL, gR_pL, aI_pL, aL_pL, aD_pL, ob_wI, rf_wI, isR_wI, isI_wI, isL_wI, arI_wI, arL_wI, arR_wI, arD_wI, aln_wI, rdI_wI, rdB_wI, rdR_wI, aR_wI, wI_2, gI_wI, gL_wI, gD_wI, gR_wI, aL_wI, aD_wI, aI_wI_ne, ob_wL, rf_wL, isR_wL, isI_wL, isL_wL, arI_wL, arL_wL, arR_wL, arD_wL, aln_wL, rdI_wL, rdB_wL, rdR_wL, aR_wL, wL_2, gI_wL, gL_wL, gD_wL, gR_wL, aI_wL, aD_wL, aL_wL_ne, ob_bI, rf_bI, isR_bI, isI_bI, isL_bI, arI_bI, arL_bI, arR_bI, arD_bI, aln_bI, rdI_bI, rdB_bI, rdR_bI, aR_bI, bI_2, gI_bI, gL_bI, gD_bI, gR_bI, aL_bI, aD_bI, aI_bI_ne, ob_bL, rf_bL, isR_bL, isI_bL, isL_bL, arI_bL, arL_bL, arR_bL, arD_bL, aln_bL, rdI_bL, rdB_bL, rdR_bL, aR_bL, bL_2, gI_bL, gL_bL, gD_bL, gR_bL, aI_bL, aD_bL, aL_bL_ne, Nat.add_assoc, Nat.reduceAdd, Nat.add_left_cancel_iff, Nat.reduceEqDiff, Nat.add_eq_left, Nat.left_eq_add, vkk_n, vkk_i, vkk_r, vkk_l, vkk_d, catS_nil, catS_i, catS_r, catS_l, catS_d, Nat.reduceAdd, Nat.reduceLeDiff, Nat.zero_le, Nat.le_refl, Option.bind_some, Option.toList_some, Option.toList_none, List.cons_append, List.nil_append, or_true, true_or, if_true, if_false, Int32.reduceLT, Int32.reduceLE, not_true, not_false_iff, true_and, and_true, false_and, and_false]
      · rw [if_neg q3] at e
        by_cases q4 : nI s2 = 10
        · rw [if_pos q4] at e
          subst e
          simp +decide only [e201_0, e201_1, e201_2, e201_5, e201_6, e201_9, e201_12, e201_13, e201_16, e201_19, e201_21, e201_22, e201_23, e201_26, e201_27, e201_28, e201_30, e201_33, e201_34, e201_37, e201_38, e201_41, e201_42, e201_43, e201_45, e201_48, e201_49, e201_52, e201_53, e201_56, e201_57, e201_58, e201_60, e201_63, e201_64, e201_67, e201_68, e201_71, e201_72, e201_73, e201_75, e201_78, e201_79, e201_82, e201_83, e201_84, e201_85, e201_86, e201_89, e201_92, e201_94, e201_95, e201_96, e201_99, e201_100, e201_101, e201_102, e201_105, e201_106, e201_107, e201_110, e201_112, e201_113, e201_115, e201_117, e201_119, e201_122, e201_123, e201_125, e201_126, e201_127, e201_129, e201_130, e201_132, e201_133, e201_134, e201_136, e201_137, e201_140, e201_143, e201_145, e201_146, e201_149, e201_152, e201_153, e201_156, e201_157, e201_158, e201_159, e201_162, e201_163, e201_164, e201_167, e201_168, e201_171, e201_173, j1, j2, hm, v1, c1, v2, c2, e1, e2, q1, q2, q3, q4, c_m_says, m2, m3, (Mod_0 hs.2.1 : ob h (g + 266) 11), (rf_g (Mod_55 hs.2.1 : rf h (g + 266) 42 (g + 285)) : gR h (g + 266) 42 = (g + 285)), (rf_is (Mod_55 hs.2.1 : rf h (g + 266) 42 (g + 285)) : isR h (g + 266) 42), (Mod_56 hs.2.1 : arI h (g + 285) 0), (rdI_0 (Mod_56 hs.2.1 : arI h (g + 285) 0) : rdI h (g + 285)), (Mod_57 hs.2.1 : aln h (g + 285) = 8), ob_pI, rf_pI, isR_pI, isI_pI, isL_pI, arI_pI, arL_pI, arR_pI, arD_pI, aln_pI, rdI_pI, rdB_pI, rdR_pI, aR_pI, pI_2, gI_pI, gL_pI, gD_pI, gR_pI, aI_pI, aL_pI, aD_pI, ob_pL, rf_pL, isR_pL, isI_pL, isL_pL, arI_pL, arL_pL, arR_pL, arD_pL, aln_pL, rdI_pL, rdB_pL, rdR_pL, aR_pL, pL_2, gI_pL, gL_pL, gD_pL, gR_pL, aI_pL, aL_pL, aD_pL, ob_wI, rf_wI, isR_wI, isI_wI, isL_wI, arI_wI, arL_wI, arR_wI, arD_wI, aln_wI, rdI_wI, rdB_wI, rdR_wI, aR_wI, wI_2, gI_wI, gL_wI, gD_wI, gR_wI, aL_wI, aD_wI, aI_wI_ne, ob_wL, rf_wL, isR_wL, isI_wL, isL_wL, arI_wL, arL_wL, arR_wL, arD_wL, aln_wL, rdI_wL, rdB_wL, rdR_wL, aR_wL, wL_2, gI_wL, gL_wL, gD_wL, gR_wL, aI_wL, aD_wL, aL_wL_ne, ob_bI, rf_bI, isR_bI, isI_bI, isL_bI, arI_bI, arL_bI, arR_bI, arD_bI, aln_bI, rdI_bI, rdB_bI, rdR_bI, aR_bI, bI_2, gI_bI, gL_bI, gD_bI, gR_bI, aL_bI, aD_bI, aI_bI_ne, ob_bL, rf_bL, isR_bL, isI_bL, isL_bL, arI_bL, arL_bL, arR_bL, arD_bL, aln_bL, rdI_bL, rdB_bL, rdR_bL, aR_bL, bL_2, gI_bL, gL_bL, gD_bL, gR_bL, aI_bL, aD_bL, aL_bL_ne, Nat.add_assoc, Nat.reduceAdd, Nat.add_left_cancel_iff, Nat.reduceEqDiff, Nat.add_eq_left, Nat.left_eq_add, vkk_n, vkk_i, vkk_r, vkk_l, vkk_d, catS_nil, catS_i, catS_r, catS_l, catS_d, Nat.reduceAdd, Nat.reduceLeDiff, Nat.zero_le, Nat.le_refl, Option.bind_some, Option.toList_some, Option.toList_none, List.cons_append, List.nil_append, or_true, true_or, if_true, if_false, Int32.reduceLT, Int32.reduceLE, not_true, not_false_iff, true_and, and_true, false_and, and_false]
        · rw [if_neg q4] at e
          exact absurd e f0
theorem k_unlike (h : VG) (g : Nat) (R : Inv h g) (a b : Int32) : CalI h g 119 [some (.ref g), some (.int a), some (.int b), none, none, none, none] 201 [some (.ref (g + 266)), some (.int a), some (.int b), none, none, none] := by
  rcases c_bn (b := a) with ⟨a, ha, rfl⟩ | ⟨q1, q2⟩
  · have i1 := fun h => isBin_c (h := h) (c_bn1 ha).1
    have j1 := fun h => mBin_c (h := h) (c_bn1 ha).2
    rcases c_bn (b := b) with ⟨b, hb, rfl⟩ | ⟨q1, q2⟩
    · have i2 := fun h => isBin_c (h := h) (c_bn1 hb).1
      have j2 := fun h => mBin_c (h := h) (c_bn1 hb).2
      have ho : ob h g 10 := Cls_0 R.cls
      have hm : ob h (g + 266) 11 := Mod_0 R.mod
      have v1 : vp_in (nI a) 8 := vp_in_nI ha (by decide)
      have c1 : (nI a).toNatClampNeg = a := nI_clamp (by omega)
      have v2 : vp_in (nI b) 8 := vp_in_nI hb (by decide)
      have c2 : (nI b).toNatClampNeg = b := nI_clamp (by omega)
      obtain ⟨hA, eA⟩ := bin_sh R.sh ha
      obtain ⟨hB, eB⟩ := bin_sh R.sh hb
      have oA : ob h (g + (177 + 3 * a)) 1 := Bin_0 hA
      have oB : ob h (g + (177 + 3 * b)) 1 := Bin_0 hB
      obtain ⟨s1, n1, e1, e2, e3, e4, e5, e6, e7, e8⟩ := R.bins a ha
      obtain ⟨s2, n2, f1, f2, f3, f4, f5, f6, f7, f8⟩ := R.bins b hb
      rw [Nat.zero_add] at e5 e7 f5 f7
      have gA : ∀ k, gI (pI h g 9 0) (g + (177 + 3 * a)) k = gI h (g + (177 + 3 * a)) k := fun k => gI_pI_ne _ _ _ _ _ _ (fun z => by omega)
      have gB : ∀ f k, gI (cRf h g f) (g + (177 + 3 * b)) k = gI h (g + (177 + 3 * b)) k := fun f k => (cRf_fr h g f).gI (fun z => by unfold AC at z; omega)
      have gA2 : ∀ f k, gI (cRf h g f) (g + (177 + 3 * a)) k = gI h (g + (177 + 3 * a)) k := fun f k => (cRf_fr h g f).gI (fun z => by unfold AC at z; omega)
      have r1 := c_rowRefusal (pI h g 9 0) (g + (177 + 3 * a)) ((ob_pI ..).mpr oA)
      rw [gA, e4] at r1
      have r2 := fun f => c_rowRefusal (cRf h g f) (g + (177 + 3 * b)) (cRf_ob.mpr oB)
      have r2' : ∀ f, ev 5 0 [some (.ref (g + (177 + 3 * b)))] [] (cRf h g f) = some (some (.int (rowRef (nI s2))), cRf h g f) := fun f => by
        have := r2 f
        rw [gB, f4] at this
        exact this
      have oc : ∀ f, ob (cRf h g f) g 10 := fun f => cRf_ob.mpr ho
      have mo : ∀ f, ob (cRf h g f) (g + 266) 11 := fun f => cRf_ob.mpr hm
      have msay : ∀ f, ¬ f < 0 → msy (pI (cRf h g f) (g + 266) 31 0) (g + 266) f = mRf (cRf h g f) (g + 266) f := fun f hf => (msy_0 (cRf h g f) (g + 266) f hf (mo f)).1
      -- the refusals of the model
      have w5 : ∀ f, aI (pI (cRf h g f) (g + 266) 31 0) (g + 285) a = nI s1 ∧ aI (pI (cRf h g f) (g + 266) 31 0) (g + 285) b = nI s2 := fun f => by
        rw [aI_pI, aI_pI, (cRf_fr h g f).I (fun z => z), (cRf_fr h g f).I (fun z => z)]
        exact ⟨e5, f5⟩
      by_cases z1 : rowRef (nI s1) = 0
      · by_cases z2 : rowRef (nI s2) = 0
        · rw [z1] at r1
          have r3 := r2' 0
          rw [z2] at r3
          have a10 : s1 < 10 := by
            rcases Nat.lt_or_ge s1 10 with y | y
            · exact y
            · exfalso
              rcases (show s1 = 10 ∨ s1 = 11 by omega) with rfl | rfl <;> exact absurd z1 (by decide)
          have b10 : s2 < 10 := by
            rcases Nat.lt_or_ge s2 10 with y | y
            · exact y
            · exfalso
              rcases (show s2 = 10 ∨ s2 = 11 by omega) with rfl | rfl <;> exact absurd z2 (by decide)
          obtain ⟨mn1, mn2⟩ := min_n e2 f2
          have hA1 : ShBin (cRf h g 0) (g + (177 + 3 * a)) := (ShBin_kp (cRf_fr h g 0).1 _).mpr hA
          have hB1 : ShBin (cRf h g 0) (g + (177 + 3 * b)) := (ShBin_kp (cRf_fr h g 0).1 _).mpr hB
          have L1 := l_unl (cRf h g 0) g _ _ (min n1 n2) (nI a) (nI b) hA1 hB1 (by omega) (min n1 n2) 0 (by omega)
          rw [gA2, gB, e6, f6] at L1
          have mx : Fr NR (AM (g + 266)) (cRf h g 0) (mRf (cRf h g 0) (g + 266) 0) := mRf_fr _ _ _
          have s3 : Sh (mRf (cRf h g 0) (g + 266) 0) g := Sh_fr mx (fun _ z => z.elim) (cRf_sh R.sh)
          have x := (cRf_fr h g 0).un mx
          have nn : ∀ y, ¬ (NR y ∨ NR y) := fun y z => z.elim id id
          have L2 := l_m_unl (mRf (cRf h g 0) (g + 266) 0) g a b (min n1 n2) n1 n2 0 s3 ha hb ((x.I (nn _) _).trans e7) ((x.I (nn _) _).trans f7) (by omega) (fun i => alk (aI h (g + (177 + 3 * a) + 1) i) (aL h (g + (177 + 3 * a) + 2) i) (aI h (g + (177 + 3 * b) + 1) i) (aL h (g + (177 + 3 * b) + 2) i)) (fun c hc => by
            have p1 := e8 c (by omega)
            have p2 := f8 c (by omega)
            rw [Nat.zero_add] at p1 p2
            refine c_m_alike _ g _ _ _ _ _ _ s3 (by omega) (by omega) ((x.I (nn _) _).trans p1.2.1) ((x.I (nn _) _).trans p2.2.1) (cOk_put a10 p1.1) (cOk_put b10 p2.1) ?_ ?_
            · rw [x.L (nn _), x.D (nn _)]
              exact p1.2.2
            · rw [x.L (nn _), x.D (nn _)]
              exact p2.2.2) (min n1 n2) 0 (by omega)
          have eq : uR (fun i => alk (aI (cRf h g 0) (g + (177 + 3 * a) + 1) i) (aL (cRf h g 0) (g + (177 + 3 * a) + 2) i) (aI (cRf h g 0) (g + (177 + 3 * b) + 1) i) (aL (cRf h g 0) (g + (177 + 3 * b) + 2) i)) (if nI n1 = nI n2 then -1 else nI (min n1 n2)) (min n1 n2) 0 = uR (fun i => alk (aI h (g + (177 + 3 * a) + 1) i) (aL h (g + (177 + 3 * a) + 2) i) (aI h (g + (177 + 3 * b) + 1) i) (aL h (g + (177 + 3 * b) + 2) i)) (if nI n1 = nI n2 then -1 else nI (min n1 n2)) (min n1 n2) 0 := by
            refine uR_eq _ _ (fun j _ _ => ?_)
            rw [(cRf_fr h g 0).I (fun z => z), (cRf_fr h g 0).I (fun z => z), (cRf_fr h g 0).L (fun z => z), (cRf_fr h g 0).L (fun z => z)]
          rw [eq] at L1
          rw [show nI 0 = (0 : Int32) from rfl] at L1 L2
          have ma := msay 0 (by decide)
          generalize uR (fun i => alk (aI h (g + (177 + 3 * a) + 1) i) (aL h (g + (177 + 3 * a) + 2) i) (aI h (g + (177 + 3 * b) + 1) i) (aL h (g + (177 + 3 * b) + 2) i)) (if nI n1 = nI n2 then -1 else nI (min n1 n2)) (min n1 n2) 0 = V at L1 L2
          refine ⟨V, cRf h g 0, mRf (cRf h g 0) (g + 266) 0, ?_, ?_, Inv_bad R, mx.two.trans (cRf_fr h g 0).two⟩
          · have oc0 := oc 0
            have g0A := gA2 0 1
            have g0B := gB 0 1
            have oA0 : ob (cRf h g 0) (g + (177 + 3 * a)) 1 := Bin_0 hA1
            have oB0 : ob (cRf h g 0) (g + (177 + 3 * b)) 1 := Bin_0 hB1
            rw [cRf_0] at r3 L1 ⊢
            have gB0 : ∀ k, gI (pI h g 9 0) (g + (177 + 3 * b)) k = gI h (g + (177 + 3 * b)) k := gB 0
            simp +decide only [e119_0, e119_1, e119_2, e119_5, e119_6, e119_9, e119_12, e119_13, e119_16, e119_19, e119_21, e119_22, e119_23, e119_26, e119_29, e119_30, e119_31, e119_32, e119_33, e119_36, e119_39, e119_40, e119_41, e119_43, e119_44, e119_45, e119_48, e119_51, e119_54, e119_55, e119_57, e119_60, e119_63, e119_66, e119_68, e119_69, e119_70, e119_73, e119_75, e119_78, e119_81, e119_83, e119_84, i1, i2, r1, r3, gB0, e6, f6, mn1, cRf_0, ho, c_refuses, rfs_0, vrf_some, v1, c1, v2, c2, eA, eB, oA, oB, gA, (Cls_0 R.cls : ob h g 10), (rf_g (Cls_3 R.cls : rf h g 6 (g + 172)) : gR h g 6 = (g + 172)), (rf_is (Cls_3 R.cls : rf h g 6 (g + 172)) : isR h g 6), (State_0 (Cls_17 R.cls) : ob h (g + 172) 8), (eq_true (isI_ob (State_0 (Cls_17 R.cls) : ob h (g + 172) 8) rfl : isI h (g + 172) 3)), (rf_g (State_2 (Cls_17 R.cls) : rf h (g + 172) 1 (g + 175)) : gR h (g + 172) 1 = (g + 175)), (rf_is (State_2 (Cls_17 R.cls) : rf h (g + 172) 1 (g + 175)) : isR h (g + 172) 1), (State_5 (Cls_17 R.cls) : arR h (g + 175) 5), (rdR_5 (State_5 (Cls_17 R.cls) : arR h (g + 175) 5) : rdR h (g + 175)), (State_6 (Cls_17 R.cls) : aln h (g + 175) = 8), ob_pI, rf_pI, isR_pI, isI_pI, isL_pI, arI_pI, arL_pI, arR_pI, arD_pI, aln_pI, rdI_pI, rdB_pI, rdR_pI, aR_pI, pI_2, gI_pI, gL_pI, gD_pI, gR_pI, aI_pI, aL_pI, aD_pI, ob_pL, rf_pL, isR_pL, isI_pL, isL_pL, arI_pL, arL_pL, arR_pL, arD_pL, aln_pL, rdI_pL, rdB_pL, rdR_pL, aR_pL, pL_2, gI_pL, gL_pL, gD_pL, gR_pL, aI_pL, aL_pL, aD_pL, ob_wI, rf_wI, isR_wI, isI_wI, isL_wI, arI_wI, arL_wI, arR_wI, arD_wI, aln_wI, rdI_wI, rdB_wI, rdR_wI, aR_wI, wI_2, gI_wI, gL_wI, gD_wI, gR_wI, aL_wI, aD_wI, aI_wI_ne, ob_wL, rf_wL, isR_wL, isI_wL, isL_wL, arI_wL, arL_wL, arR_wL, arD_wL, aln_wL, rdI_wL, rdB_wL, rdR_wL, aR_wL, wL_2, gI_wL, gL_wL, gD_wL, gR_wL, aI_wL, aD_wL, aL_wL_ne, ob_bI, rf_bI, isR_bI, isI_bI, isL_bI, arI_bI, arL_bI, arR_bI, arD_bI, aln_bI, rdI_bI, rdB_bI, rdR_bI, aR_bI, bI_2, gI_bI, gL_bI, gD_bI, gR_bI, aL_bI, aD_bI, aI_bI_ne, ob_bL, rf_bL, isR_bL, isI_bL, isL_bL, arI_bL, arL_bL, arR_bL, arD_bL, aln_bL, rdI_bL, rdB_bL, rdR_bL, aR_bL, bL_2, gI_bL, gL_bL, gD_bL, gR_bL, aI_bL, aD_bL, aL_bL_ne, vkk_n, vkk_i, vkk_r, vkk_l, vkk_d, catS_nil, catS_i, catS_r, catS_l, catS_d, Nat.reduceAdd, Nat.reduceLeDiff, Nat.zero_le, Nat.le_refl, Option.bind_some, Option.toList_some, Option.toList_none, List.cons_append, List.nil_append, or_true, true_or, if_true, if_false, Int32.reduceLT, Int32.reduceLE, not_true, not_false_iff, true_and, and_true, false_and, and_false, Nat.add_assoc, Nat.reduceAdd, Nat.add_left_cancel_iff, Nat.reduceEqDiff, Nat.add_eq_left, Nat.left_eq_add]
            exact L1
          · have w6 := w5 0
            have t11 : ∀ s : Nat, s < 10 → ¬ nI s = 11 ∧ ¬ nI s = 10 := fun s hs => ⟨fun z => by have := (nI_eq (b := 11) (by omega) (by decide)).mp z; omega, fun z => by have := (nI_eq (b := 10) (by omega) (by decide)).mp z; omega⟩
            have ta := t11 s1 a10
            have tb := t11 s2 b10
            have s4 : Sh (pI (cRf h g 0) (g + 266) 31 0) g := m0_sh (cRf_sh R.sh)
            have mo2 := Mod_0 s3.2.1
            have mo3 := Mod_0 s4.2.1
            have y1 := (x.I (nn (g + 286)) a).trans e7
            have y2 := (x.I (nn (g + 286)) b).trans f7
            have mo0 := mo 0
            have w7 := w6.1
            have w8 := w6.2
            have ta1 := ta.1
            have ta2 := ta.2
            have tb1 := tb.1
            have tb2 := tb.2
            generalize mRf (cRf h g 0) (g + 266) 0 = h3 at *
            generalize hH : pI (cRf h g 0) (g + 266) 31 0 = h4 at *
            simp +decide only [e201_0, e201_1, e201_2, e201_5, e201_6, e201_9, e201_12, e201_13, e201_16, e201_19, e201_21, e201_22, e201_23, e201_26, e201_27, e201_28, e201_30, e201_33, e201_34, e201_37, e201_38, e201_41, e201_42, e201_43, e201_45, e201_48, e201_49, e201_52, e201_53, e201_56, e201_57, e201_58, e201_60, e201_63, e201_64, e201_67, e201_68, e201_71, e201_72, e201_73, e201_75, e201_78, e201_79, e201_82, e201_83, e201_84, e201_85, e201_86, e201_89, e201_92, e201_94, e201_95, e201_96, e201_99, e201_100, e201_101, e201_102, e201_105, e201_106, e201_107, e201_110, e201_112, e201_113, j1, j2, mo0, hH, mo2, mo3, w7, w8, ta1, ta2, tb1, tb2, v1, c1, v2, c2, c_m_says, ma, y1, y2, c_m_less, mn2, (Mod_0 s4.2.1 : ob h4 (g + 266) 11), (rf_g (Mod_55 s4.2.1 : rf h4 (g + 266) 42 (g + 285)) : gR h4 (g + 266) 42 = (g + 285)), (rf_is (Mod_55 s4.2.1 : rf h4 (g + 266) 42 (g + 285)) : isR h4 (g + 266) 42), (Mod_56 s4.2.1 : arI h4 (g + 285) 0), (rdI_0 (Mod_56 s4.2.1 : arI h4 (g + 285) 0) : rdI h4 (g + 285)), (Mod_57 s4.2.1 : aln h4 (g + 285) = 8), (rf_g (Mod_58 s4.2.1 : rf h4 (g + 266) 43 (g + 286)) : gR h4 (g + 266) 43 = (g + 286)), (rf_is (Mod_58 s4.2.1 : rf h4 (g + 266) 43 (g + 286)) : isR h4 (g + 266) 43), (Mod_59 s4.2.1 : arI h4 (g + 286) 0), (rdI_0 (Mod_59 s4.2.1 : arI h4 (g + 286) 0) : rdI h4 (g + 286)), (Mod_60 s4.2.1 : aln h4 (g + 286) = 8), (Mod_0 s3.2.1 : ob h3 (g + 266) 11), (rf_g (Mod_58 s3.2.1 : rf h3 (g + 266) 43 (g + 286)) : gR h3 (g + 266) 43 = (g + 286)), (rf_is (Mod_58 s3.2.1 : rf h3 (g + 266) 43 (g + 286)) : isR h3 (g + 266) 43), (Mod_59 s3.2.1 : arI h3 (g + 286) 0), (rdI_0 (Mod_59 s3.2.1 : arI h3 (g + 286) 0) : rdI h3 (g + 286)), (Mod_60 s3.2.1 : aln h3 (g + 286) = 8), vkk_n, vkk_i, vkk_r, vkk_l, vkk_d, catS_nil, catS_i, catS_r, catS_l, catS_d, Nat.reduceAdd, Nat.reduceLeDiff, Nat.zero_le, Nat.le_refl, Option.bind_some, Option.toList_some, Option.toList_none, List.cons_append, List.nil_append, or_true, true_or, if_true, if_false, Int32.reduceLT, Int32.reduceLE, not_true, not_false_iff, true_and, and_true, false_and, and_false, Nat.add_assoc, Nat.reduceAdd, Nat.add_left_cancel_iff, Nat.reduceEqDiff, Nat.add_eq_left, Nat.left_eq_add]
            exact L2
        · have f0 := z2
          have r3 := r2' 0
          rw [z1] at r1
          have oc0 := oc 0
          have E1 : ev 119 0 [some (.ref g), some (.int (nI a)), some (.int (nI b)), none, none, none, none] [] h = some (some (.int (-2)), cRf h g (rowRef (nI s2))) := by
            rw [cRf_0] at r3
            simp +decide only [e119_0, e119_1, e119_2, e119_5, e119_6, e119_9, e119_12, e119_13, e119_16, e119_19, e119_21, e119_22, e119_23, e119_26, e119_29, e119_30, e119_31, e119_32, e119_33, e119_36, e119_39, e119_40, e119_41, e119_43, e119_44, e119_45, e119_48, e119_51, e119_54, e119_55, e119_57, e119_60, e119_63, e119_66, e119_68, e119_69, e119_70, i1, i2, r1, r3, cRf_0, f0, c_refuses, rfs_0, ho, vrf_some, v1, c1, v2, c2, eA, eB, oA, oB, (Cls_0 R.cls : ob h g 10), (rf_g (Cls_3 R.cls : rf h g 6 (g + 172)) : gR h g 6 = (g + 172)), (rf_is (Cls_3 R.cls : rf h g 6 (g + 172)) : isR h g 6), (State_0 (Cls_17 R.cls) : ob h (g + 172) 8), (eq_true (isI_ob (State_0 (Cls_17 R.cls) : ob h (g + 172) 8) rfl : isI h (g + 172) 3)), (rf_g (State_2 (Cls_17 R.cls) : rf h (g + 172) 1 (g + 175)) : gR h (g + 172) 1 = (g + 175)), (rf_is (State_2 (Cls_17 R.cls) : rf h (g + 172) 1 (g + 175)) : isR h (g + 172) 1), (State_5 (Cls_17 R.cls) : arR h (g + 175) 5), (rdR_5 (State_5 (Cls_17 R.cls) : arR h (g + 175) 5) : rdR h (g + 175)), (State_6 (Cls_17 R.cls) : aln h (g + 175) = 8), ob_pI, rf_pI, isR_pI, isI_pI, isL_pI, arI_pI, arL_pI, arR_pI, arD_pI, aln_pI, rdI_pI, rdB_pI, rdR_pI, aR_pI, pI_2, gI_pI, gL_pI, gD_pI, gR_pI, aI_pI, aL_pI, aD_pI, ob_pL, rf_pL, isR_pL, isI_pL, isL_pL, arI_pL, arL_pL, arR_pL, arD_pL, aln_pL, rdI_pL, rdB_pL, rdR_pL, aR_pL, pL_2, gI_pL, gL_pL, gD_pL, gR_pL, aI_pL, aL_pL, aD_pL, ob_wI, rf_wI, isR_wI, isI_wI, isL_wI, arI_wI, arL_wI, arR_wI, arD_wI, aln_wI, rdI_wI, rdB_wI, rdR_wI, aR_wI, wI_2, gI_wI, gL_wI, gD_wI, gR_wI, aL_wI, aD_wI, aI_wI_ne, ob_wL, rf_wL, isR_wL, isI_wL, isL_wL, arI_wL, arL_wL, arR_wL, arD_wL, aln_wL, rdI_wL, rdB_wL, rdR_wL, aR_wL, wL_2, gI_wL, gL_wL, gD_wL, gR_wL, aI_wL, aD_wL, aL_wL_ne, ob_bI, rf_bI, isR_bI, isI_bI, isL_bI, arI_bI, arL_bI, arR_bI, arD_bI, aln_bI, rdI_bI, rdB_bI, rdR_bI, aR_bI, bI_2, gI_bI, gL_bI, gD_bI, gR_bI, aL_bI, aD_bI, aI_bI_ne, ob_bL, rf_bL, isR_bL, isI_bL, isL_bL, arI_bL, arL_bL, arR_bL, arD_bL, aln_bL, rdI_bL, rdB_bL, rdR_bL, aR_bL, bL_2, gI_bL, gL_bL, gD_bL, gR_bL, aI_bL, aD_bL, aL_bL_ne, vkk_n, vkk_i, vkk_r, vkk_l, vkk_d, catS_nil, catS_i, catS_r, catS_l, catS_d, Nat.reduceAdd, Nat.reduceLeDiff, Nat.zero_le, Nat.le_refl, Option.bind_some, Option.toList_some, Option.toList_none, List.cons_append, List.nil_append, or_true, true_or, if_true, if_false, Int32.reduceLT, Int32.reduceLE, not_true, not_false_iff, true_and, and_true, false_and, and_false, Nat.add_assoc, Nat.reduceAdd, Nat.add_left_cancel_iff, Nat.reduceEqDiff, Nat.add_eq_left, Nat.left_eq_add]
          have E2 := c_m_unl_no (cRf h g (rowRef (nI s2))) g a b s1 s2 (rowRef (nI s2)) (cRf_sh R.sh) ha hb (((cRf_fr h g _).I (fun z => z) _).trans e5) (((cRf_fr h g _).I (fun z => z) _).trans f5) (Or.inr ⟨z1, rfl⟩) f0
          exact ⟨-2, _, _, E1, E2, Inv_ans (cRf_fr h g _) (mRf_fr _ _ _) (fun _ z => z.elim) (fun a k z => Or.inr z) (fun _ z => z.elim) (fun a k z => Or.inr z) (cRf_CA _ ho) (mRf_MA _ (mo _)) R, (mRf_fr ..).two.trans (cRf_fr ..).two⟩
      · have f0 := z1
        have E1 : ev 119 0 [some (.ref g), some (.int (nI a)), some (.int (nI b)), none, none, none, none] [] h = some (some (.int (-2)), cRf h g (rowRef (nI s1))) := by
          simp +decide only [e119_0, e119_1, e119_2, e119_5, e119_6, e119_9, e119_12, e119_13, e119_16, e119_19, e119_21, e119_22, e119_23, e119_26, e119_29, e119_30, e119_31, e119_32, e119_33, e119_36, e119_39, e119_40, e119_41, e119_43, e119_44, e119_45, e119_48, e119_51, e119_54, e119_55, e119_57, e119_60, e119_63, e119_66, e119_68, e119_69, e119_70, i1, i2, r1, f0, c_refuses, rfs_0, ho, vrf_some, v1, c1, v2, c2, eA, eB, oA, oB, (Cls_0 R.cls : ob h g 10), (rf_g (Cls_3 R.cls : rf h g 6 (g + 172)) : gR h g 6 = (g + 172)), (rf_is (Cls_3 R.cls : rf h g 6 (g + 172)) : isR h g 6), (State_0 (Cls_17 R.cls) : ob h (g + 172) 8), (eq_true (isI_ob (State_0 (Cls_17 R.cls) : ob h (g + 172) 8) rfl : isI h (g + 172) 3)), (rf_g (State_2 (Cls_17 R.cls) : rf h (g + 172) 1 (g + 175)) : gR h (g + 172) 1 = (g + 175)), (rf_is (State_2 (Cls_17 R.cls) : rf h (g + 172) 1 (g + 175)) : isR h (g + 172) 1), (State_5 (Cls_17 R.cls) : arR h (g + 175) 5), (rdR_5 (State_5 (Cls_17 R.cls) : arR h (g + 175) 5) : rdR h (g + 175)), (State_6 (Cls_17 R.cls) : aln h (g + 175) = 8), ob_pI, rf_pI, isR_pI, isI_pI, isL_pI, arI_pI, arL_pI, arR_pI, arD_pI, aln_pI, rdI_pI, rdB_pI, rdR_pI, aR_pI, pI_2, gI_pI, gL_pI, gD_pI, gR_pI, aI_pI, aL_pI, aD_pI, ob_pL, rf_pL, isR_pL, isI_pL, isL_pL, arI_pL, arL_pL, arR_pL, arD_pL, aln_pL, rdI_pL, rdB_pL, rdR_pL, aR_pL, pL_2, gI_pL, gL_pL, gD_pL, gR_pL, aI_pL, aL_pL, aD_pL, ob_wI, rf_wI, isR_wI, isI_wI, isL_wI, arI_wI, arL_wI, arR_wI, arD_wI, aln_wI, rdI_wI, rdB_wI, rdR_wI, aR_wI, wI_2, gI_wI, gL_wI, gD_wI, gR_wI, aL_wI, aD_wI, aI_wI_ne, ob_wL, rf_wL, isR_wL, isI_wL, isL_wL, arI_wL, arL_wL, arR_wL, arD_wL, aln_wL, rdI_wL, rdB_wL, rdR_wL, aR_wL, wL_2, gI_wL, gL_wL, gD_wL, gR_wL, aI_wL, aD_wL, aL_wL_ne, ob_bI, rf_bI, isR_bI, isI_bI, isL_bI, arI_bI, arL_bI, arR_bI, arD_bI, aln_bI, rdI_bI, rdB_bI, rdR_bI, aR_bI, bI_2, gI_bI, gL_bI, gD_bI, gR_bI, aL_bI, aD_bI, aI_bI_ne, ob_bL, rf_bL, isR_bL, isI_bL, isL_bL, arI_bL, arL_bL, arR_bL, arD_bL, aln_bL, rdI_bL, rdB_bL, rdR_bL, aR_bL, bL_2, gI_bL, gL_bL, gD_bL, gR_bL, aI_bL, aD_bL, aL_bL_ne, vkk_n, vkk_i, vkk_r, vkk_l, vkk_d, catS_nil, catS_i, catS_r, catS_l, catS_d, Nat.reduceAdd, Nat.reduceLeDiff, Nat.zero_le, Nat.le_refl, Option.bind_some, Option.toList_some, Option.toList_none, List.cons_append, List.nil_append, or_true, true_or, if_true, if_false, Int32.reduceLT, Int32.reduceLE, not_true, not_false_iff, true_and, and_true, false_and, and_false, Nat.add_assoc, Nat.reduceAdd, Nat.add_left_cancel_iff, Nat.reduceEqDiff, Nat.add_eq_left, Nat.left_eq_add]
        have E2 := c_m_unl_no (cRf h g (rowRef (nI s1))) g a b s1 s2 (rowRef (nI s1)) (cRf_sh R.sh) ha hb (((cRf_fr h g _).I (fun z => z) _).trans e5) (((cRf_fr h g _).I (fun z => z) _).trans f5) (Or.inl rfl) f0
        exact ⟨-2, _, _, E1, E2, Inv_ans (cRf_fr h g _) (mRf_fr _ _ _) (fun _ z => z.elim) (fun a k z => Or.inr z) (fun _ z => z.elim) (fun a k z => Or.inr z) (cRf_CA _ ho) (mRf_MA _ (mo _)) R, (mRf_fr ..).two.trans (cRf_fr ..).two⟩
    · refine ⟨-2, cRf h g 0, mRf (cRf h g 0) (g + 266) 0, ?_, ?_, Inv_bad R, rfl⟩
      · have ho : ob h g 10 := Cls_0 R.cls
        have i2 := fun h => isBin_c (h := h) q1
        simp +decide only [e119_0, e119_1, e119_2, e119_5, e119_6, e119_9, e119_12, e119_13, e119_16, e119_19, e119_21, e119_22, e119_23, e119_26, e119_29, e119_30, e119_31, e119_32, e119_33, e119_36, e119_39, e119_40, e119_41, e119_43, e119_44, e119_45, e119_48, e119_51, e119_54, e119_55, e119_57, e119_60, e119_63, e119_66, e119_68, e119_69, e119_70, e119_73, e119_75, e119_78, e119_81, e119_83, e119_84, e119_86, e119_88, e119_90, e119_93, e119_94, e119_96, e119_98, e119_101, e119_104, e119_106, e119_107, e119_110, e119_113, e119_114, e119_117, e119_119, e119_122, e119_125, e119_126, e119_129, e119_131, ho, i1, i2, cRf_0, vkk_n, vkk_i, vkk_r, vkk_l, vkk_d, catS_nil, catS_i, catS_r, catS_l, catS_d, Nat.reduceAdd, Nat.reduceLeDiff, Nat.zero_le, Nat.le_refl, Option.bind_some, Option.toList_some, Option.toList_none, List.cons_append, List.nil_append, or_true, true_or, if_true, if_false, Int32.reduceLT, Int32.reduceLE, not_true, not_false_iff, true_and, and_true, false_and, and_false]
      · have ho : ob (pI h g 9 0) (g + 266) 11 := (ob_pI ..).mpr (Mod_0 R.mod)
        have j2 := fun h => mBin_c (h := h) q2
        simp +decide only [e201_0, e201_1, e201_2, e201_5, e201_6, e201_9, e201_12, e201_13, e201_16, e201_19, e201_21, e201_22, e201_23, e201_26, e201_27, e201_28, e201_30, e201_33, e201_34, e201_37, e201_38, e201_41, e201_42, e201_43, e201_45, e201_48, e201_49, e201_52, e201_53, e201_56, e201_57, e201_58, e201_60, e201_63, e201_64, e201_67, e201_68, e201_71, e201_72, e201_73, e201_75, e201_78, e201_79, e201_82, e201_83, e201_84, e201_85, e201_86, e201_89, e201_92, e201_94, e201_95, e201_96, e201_99, e201_100, e201_101, e201_102, e201_105, e201_106, e201_107, e201_110, e201_112, e201_113, e201_115, e201_117, e201_119, e201_122, e201_123, e201_125, e201_126, e201_127, e201_129, e201_130, e201_132, e201_133, e201_134, e201_136, e201_137, e201_140, e201_143, e201_145, e201_146, e201_149, e201_152, e201_153, e201_156, e201_157, e201_158, e201_159, e201_162, e201_163, e201_164, e201_167, e201_168, e201_171, e201_173, j1, j2, ho, cRf_0, mRf_0, vkk_n, vkk_i, vkk_r, vkk_l, vkk_d, catS_nil, catS_i, catS_r, catS_l, catS_d, Nat.reduceAdd, Nat.reduceLeDiff, Nat.zero_le, Nat.le_refl, Option.bind_some, Option.toList_some, Option.toList_none, List.cons_append, List.nil_append, or_true, true_or, if_true, if_false, Int32.reduceLT, Int32.reduceLE, not_true, not_false_iff, true_and, and_true, false_and, and_false]
  · refine ⟨-2, cRf h g 0, mRf (cRf h g 0) (g + 266) 0, ?_, ?_, Inv_bad R, rfl⟩
    · have ho : ob h g 10 := Cls_0 R.cls
      have i1 := fun h => isBin_c (h := h) q1
      simp +decide only [e119_0, e119_1, e119_2, e119_5, e119_6, e119_9, e119_12, e119_13, e119_16, e119_19, e119_21, e119_22, e119_23, e119_26, e119_29, e119_30, e119_31, e119_32, e119_33, e119_36, e119_39, e119_40, e119_41, e119_43, e119_44, e119_45, e119_48, e119_51, e119_54, e119_55, e119_57, e119_60, e119_63, e119_66, e119_68, e119_69, e119_70, e119_73, e119_75, e119_78, e119_81, e119_83, e119_84, e119_86, e119_88, e119_90, e119_93, e119_94, e119_96, e119_98, e119_101, e119_104, e119_106, e119_107, e119_110, e119_113, e119_114, e119_117, e119_119, e119_122, e119_125, e119_126, e119_129, e119_131, ho, i1, cRf_0, vkk_n, vkk_i, vkk_r, vkk_l, vkk_d, catS_nil, catS_i, catS_r, catS_l, catS_d, Nat.reduceAdd, Nat.reduceLeDiff, Nat.zero_le, Nat.le_refl, Option.bind_some, Option.toList_some, Option.toList_none, List.cons_append, List.nil_append, or_true, true_or, if_true, if_false, Int32.reduceLT, Int32.reduceLE, not_true, not_false_iff, true_and, and_true, false_and, and_false]
    · have ho : ob (pI h g 9 0) (g + 266) 11 := (ob_pI ..).mpr (Mod_0 R.mod)
      have j1 := fun h => mBin_c (h := h) q2
      simp +decide only [e201_0, e201_1, e201_2, e201_5, e201_6, e201_9, e201_12, e201_13, e201_16, e201_19, e201_21, e201_22, e201_23, e201_26, e201_27, e201_28, e201_30, e201_33, e201_34, e201_37, e201_38, e201_41, e201_42, e201_43, e201_45, e201_48, e201_49, e201_52, e201_53, e201_56, e201_57, e201_58, e201_60, e201_63, e201_64, e201_67, e201_68, e201_71, e201_72, e201_73, e201_75, e201_78, e201_79, e201_82, e201_83, e201_84, e201_85, e201_86, e201_89, e201_92, e201_94, e201_95, e201_96, e201_99, e201_100, e201_101, e201_102, e201_105, e201_106, e201_107, e201_110, e201_112, e201_113, e201_115, e201_117, e201_119, e201_122, e201_123, e201_125, e201_126, e201_127, e201_129, e201_130, e201_132, e201_133, e201_134, e201_136, e201_137, e201_140, e201_143, e201_145, e201_146, e201_149, e201_152, e201_153, e201_156, e201_157, e201_158, e201_159, e201_162, e201_163, e201_164, e201_167, e201_168, e201_171, e201_173, j1, ho, cRf_0, mRf_0, vkk_n, vkk_i, vkk_r, vkk_l, vkk_d, catS_nil, catS_i, catS_r, catS_l, catS_d, Nat.reduceAdd, Nat.reduceLeDiff, Nat.zero_le, Nat.le_refl, Option.bind_some, Option.toList_some, Option.toList_none, List.cons_append, List.nil_append, or_true, true_or, if_true, if_false, Int32.reduceLT, Int32.reduceLE, not_true, not_false_iff, true_and, and_true, false_and, and_false]
