/-! forms: laysOut, cellsOfForm, isForm -/
theorem c_laysOut (h : VG) (g f m : Nat) (w : Int32) (K R C : Nat → Nat) (hKR : ∀ j, j < m → K j < 10 ∧ 1 ≤ R j ∧ R j ≤ 4) (hC : ∀ j i, j < m → i < R j → C (pre R j + i) = K j) (hs : Sh h g) (hb : Kb h g) (hf : FM h g f m K R) : ∃ h1, ev 169 0 [some (.ref (g + 266)), some (.int (nI f)), some (.int w), none, none, none, none] [] h = some (none, h1) ∧ Fr (fun a => a = g + 284) (fun a k => a = g + 266 ∧ (k = 36 ∨ k = 37)) h h1 ∧ gI h1 (g + 266) 37 = nI (lMul w C (pre R m)) ∧ gI h1 (g + 266) 36 = nI (lSiz w C (pre R m)) ∧ ∀ i, i < m → aI h1 (g + 284) i = nI (lOff w C (pre R i)) := by
  have om : ob h (g + 266) 11 := Mod_0 hs.2.1
  have x1 : Fr (fun a => a = g + 284) (fun a k => a = g + 266 ∧ (k = 36 ∨ k = 37)) h (pI h (g + 266) 37 1) := Fr_pI _ _ _ _ ⟨rfl, Or.inr rfl⟩
  have s1 : Sh (pI h (g + 266) 37 1) g := Sh_fr x1 (fun a z => by omega) hs
  obtain ⟨h1, u1, u2, u3, u4, -, u6⟩ := l_laysOut g f m w K R C hKR hC m 0 (pI h (g + 266) 37 1) none none (by omega) s1 (Kb_fr x1 (fun z => by omega) (fun z => by omega) hb) (FM_fr x1 (fun a z => by omega) hf) (by rw [gI_pI, if_pos ⟨rfl, rfl, isI_ob om rfl⟩]; rfl)
  have u1' : ev 169 10 [some (.ref (g + 266)), some (.int (nI f)), some (.int w), some (.int 0), some (.int 0), none, none] [] (pI h (g + 266) 37 1) = some (none, h1) := u1
  refine ⟨h1, ?_, x1.tr u2, u3, u4, fun i hi => u6 i (Nat.zero_le _) hi⟩
  simp +decide only [e169_0, e169_1, e169_2, e169_3, e169_4, e169_7, e169_8, om, u1', vkk_n, vkk_i, vkk_r, vkk_l, vkk_d, catS_nil, catS_i, catS_r, catS_l, catS_d, Nat.reduceAdd, Nat.reduceLeDiff, Nat.zero_le, Nat.le_refl, Option.bind_some, Option.toList_some, Option.toList_none, List.cons_append, List.nil_append, or_true, true_or, if_true, if_false, Int32.reduceLT, Int32.reduceLE, not_true, not_false_iff, true_and, and_true, false_and, and_false]
theorem l_cells (g f m : Nat) (K R : Nat → Nat) (h : VG) (hs : Sh h g) (hf : FM h g f m K R) : ∀ d j, j + d = m → ev 170 4 [some (.ref (g + 266)), some (.int (nI f)), some (.int (nI (pre R j))), some (.int (nI j))] [] h = some (some (.int (nI (pre R m))), h) := by
  have hv : vp_in (nI f) 6 := vp_in_nI hf.1 (by decide)
  have f6 := hf.1
  have m8' := hf.2.1
  have hc : (nI f).toNatClampNeg = f := nI_clamp (by omega)
  have fm := hf.2.2.1
  intro d
  induction d with
  | zero =>
    intro j hj
    obtain rfl : j = m := by omega
    have q : ¬ nI j < nI j := nI_nlt (Nat.le_refl _) (by omega)
    simp +decide only [e170_4, e170_5, e170_6, e170_9, e170_10, e170_11, e170_34, e170_35, (Mod_0 hs.2.1 : ob h (g + 266) 11), (rf_g (Mod_22 hs.2.1 : rf h (g + 266) 20 (g + 274)) : gR h (g + 266) 20 = (g + 274)), (rf_is (Mod_22 hs.2.1 : rf h (g + 266) 20 (g + 274)) : isR h (g + 266) 20), (Mod_23 hs.2.1 : arI h (g + 274) 0), (rdI_0 (Mod_23 hs.2.1 : arI h (g + 274) 0) : rdI h (g + 274)), (Mod_24 hs.2.1 : aln h (g + 274) = 6), (rf_g (Mod_25 hs.2.1 : rf h (g + 266) 21 (g + 275)) : gR h (g + 266) 21 = (g + 275)), (rf_is (Mod_25 hs.2.1 : rf h (g + 266) 21 (g + 275)) : isR h (g + 266) 21), (Mod_26 hs.2.1 : arI h (g + 275) 0), (rdI_0 (Mod_26 hs.2.1 : arI h (g + 275) 0) : rdI h (g + 275)), (Mod_27 hs.2.1 : aln h (g + 275) = 48), (rf_g (Mod_28 hs.2.1 : rf h (g + 266) 22 (g + 276)) : gR h (g + 266) 22 = (g + 276)), (rf_is (Mod_28 hs.2.1 : rf h (g + 266) 22 (g + 276)) : isR h (g + 266) 22), (Mod_29 hs.2.1 : arI h (g + 276) 0), (rdI_0 (Mod_29 hs.2.1 : arI h (g + 276) 0) : rdI h (g + 276)), (Mod_30 hs.2.1 : aln h (g + 276) = 48), (rf_g (Mod_52 hs.2.1 : rf h (g + 266) 35 (g + 284)) : gR h (g + 266) 35 = (g + 284)), (rf_is (Mod_52 hs.2.1 : rf h (g + 266) 35 (g + 284)) : isR h (g + 266) 35), (Mod_53 hs.2.1 : arI h (g + 284) 0), (rdI_0 (Mod_53 hs.2.1 : arI h (g + 284) 0) : rdI h (g + 284)), (Mod_54 hs.2.1 : aln h (g + 284) = 8), fm, hv, hc, q, vkk_n, vkk_i, vkk_r, vkk_l, vkk_d, catS_nil, catS_i, catS_r, catS_l, catS_d, Nat.reduceAdd, Nat.reduceLeDiff, Nat.zero_le, Nat.le_refl, Option.bind_some, Option.toList_some, Option.toList_none, List.cons_append, List.nil_append, or_true, true_or, if_true, if_false, Int32.reduceLT, Int32.reduceLE, not_true, not_false_iff, true_and, and_true, false_and, and_false]
  | succ d ih =>
    intro j hj
    have q : nI j < nI m := nI_lt (by omega) (by omega)
    have hv2 : vp_in (nI (8 * f + j)) 48 := vp_in_nI (by omega) (by decide)
    have hc2 : (nI (8 * f + j)).toNatClampNeg = 8 * f + j := nI_clamp (by omega)
    have fr := (hf.2.2.2 j (by omega)).2
    have y := ih (j + 1) (by omega)
    have e : pre R (j + 1) = pre R j + R j := rfl
    rw [e] at y
    simp +decide only [e170_4, e170_5, e170_6, e170_9, e170_10, e170_11, (Mod_0 hs.2.1 : ob h (g + 266) 11), (rf_g (Mod_22 hs.2.1 : rf h (g + 266) 20 (g + 274)) : gR h (g + 266) 20 = (g + 274)), (rf_is (Mod_22 hs.2.1 : rf h (g + 266) 20 (g + 274)) : isR h (g + 266) 20), (Mod_23 hs.2.1 : arI h (g + 274) 0), (rdI_0 (Mod_23 hs.2.1 : arI h (g + 274) 0) : rdI h (g + 274)), (Mod_24 hs.2.1 : aln h (g + 274) = 6), (rf_g (Mod_25 hs.2.1 : rf h (g + 266) 21 (g + 275)) : gR h (g + 266) 21 = (g + 275)), (rf_is (Mod_25 hs.2.1 : rf h (g + 266) 21 (g + 275)) : isR h (g + 266) 21), (Mod_26 hs.2.1 : arI h (g + 275) 0), (rdI_0 (Mod_26 hs.2.1 : arI h (g + 275) 0) : rdI h (g + 275)), (Mod_27 hs.2.1 : aln h (g + 275) = 48), (rf_g (Mod_28 hs.2.1 : rf h (g + 266) 22 (g + 276)) : gR h (g + 266) 22 = (g + 276)), (rf_is (Mod_28 hs.2.1 : rf h (g + 266) 22 (g + 276)) : isR h (g + 266) 22), (Mod_29 hs.2.1 : arI h (g + 276) 0), (rdI_0 (Mod_29 hs.2.1 : arI h (g + 276) 0) : rdI h (g + 276)), (Mod_30 hs.2.1 : aln h (g + 276) = 48), (rf_g (Mod_52 hs.2.1 : rf h (g + 266) 35 (g + 284)) : gR h (g + 266) 35 = (g + 284)), (rf_is (Mod_52 hs.2.1 : rf h (g + 266) 35 (g + 284)) : isR h (g + 266) 35), (Mod_53 hs.2.1 : arI h (g + 284) 0), (rdI_0 (Mod_53 hs.2.1 : arI h (g + 284) 0) : rdI h (g + 284)), (Mod_54 hs.2.1 : aln h (g + 284) = 8), fm, hv, hc, q, if_true, vkk_n, vkk_i, vkk_r, vkk_l, vkk_d, catS_nil, catS_i, catS_r, catS_l, catS_d, Nat.reduceAdd, Nat.reduceLeDiff, Nat.zero_le, Nat.le_refl, Option.bind_some, Option.toList_some, Option.toList_none, List.cons_append, List.nil_append, or_true, true_or, if_true, if_false, Int32.reduceLT, Int32.reduceLE, not_true, not_false_iff, true_and, and_true, false_and, and_false]
    simp +decide only [e170_14, e170_15, e170_16, e170_19, e170_21, e170_22, e170_23, e170_24, e170_25, e170_26, e170_27, e170_28, e170_31, (Mod_0 hs.2.1 : ob h (g + 266) 11), (rf_g (Mod_22 hs.2.1 : rf h (g + 266) 20 (g + 274)) : gR h (g + 266) 20 = (g + 274)), (rf_is (Mod_22 hs.2.1 : rf h (g + 266) 20 (g + 274)) : isR h (g + 266) 20), (Mod_23 hs.2.1 : arI h (g + 274) 0), (rdI_0 (Mod_23 hs.2.1 : arI h (g + 274) 0) : rdI h (g + 274)), (Mod_24 hs.2.1 : aln h (g + 274) = 6), (rf_g (Mod_25 hs.2.1 : rf h (g + 266) 21 (g + 275)) : gR h (g + 266) 21 = (g + 275)), (rf_is (Mod_25 hs.2.1 : rf h (g + 266) 21 (g + 275)) : isR h (g + 266) 21), (Mod_26 hs.2.1 : arI h (g + 275) 0), (rdI_0 (Mod_26 hs.2.1 : arI h (g + 275) 0) : rdI h (g + 275)), (Mod_27 hs.2.1 : aln h (g + 275) = 48), (rf_g (Mod_28 hs.2.1 : rf h (g + 266) 22 (g + 276)) : gR h (g + 266) 22 = (g + 276)), (rf_is (Mod_28 hs.2.1 : rf h (g + 266) 22 (g + 276)) : isR h (g + 266) 22), (Mod_29 hs.2.1 : arI h (g + 276) 0), (rdI_0 (Mod_29 hs.2.1 : arI h (g + 276) 0) : rdI h (g + 276)), (Mod_30 hs.2.1 : aln h (g + 276) = 48), (rf_g (Mod_52 hs.2.1 : rf h (g + 266) 35 (g + 284)) : gR h (g + 266) 35 = (g + 284)), (rf_is (Mod_52 hs.2.1 : rf h (g + 266) 35 (g + 284)) : isR h (g + 266) 35), (Mod_53 hs.2.1 : arI h (g + 284) 0), (rdI_0 (Mod_53 hs.2.1 : arI h (g + 284) 0) : rdI h (g + 284)), (Mod_54 hs.2.1 : aln h (g + 284) = 8), m8, nI_add, hv2, hc2, fr, nI_1, vkk_n, vkk_i, vkk_r, vkk_l, vkk_d, catS_nil, catS_i, catS_r, catS_l, catS_d, Nat.reduceAdd, Nat.reduceLeDiff, Nat.zero_le, Nat.le_refl, Option.bind_some, Option.toList_some, Option.toList_none, List.cons_append, List.nil_append, or_true, true_or, if_true, if_false, Int32.reduceLT, Int32.reduceLE, not_true, not_false_iff, true_and, and_true, false_and, and_false]
    exact y
theorem c_cells (h : VG) (g f m : Nat) (K R : Nat → Nat) (hs : Sh h g) (hf : FM h g f m K R) : ev 170 0 [some (.ref (g + 266)), some (.int (nI f)), none, none] [] h = some (some (.int (nI (pre R m))), h) := by
  have y : ev 170 4 [some (.ref (g + 266)), some (.int (nI f)), some (.int 0), some (.int 0)] [] h = _ := l_cells g f m K R h hs hf m 0 (by omega)
  simp +decide only [e170_0, e170_1, e170_2, e170_3, vkk_n, vkk_i, vkk_r, vkk_l, vkk_d, catS_nil, catS_i, catS_r, catS_l, catS_d, Nat.reduceAdd, Nat.reduceLeDiff, Nat.zero_le, Nat.le_refl, Option.bind_some, Option.toList_some, Option.toList_none, List.cons_append, List.nil_append, or_true, true_or, if_true, if_false, Int32.reduceLT, Int32.reduceLE, not_true, not_false_iff, true_and, and_true, false_and, and_false]
  exact y
theorem mform (f : Int32) (n : Nat) (hn : n ≤ 6) : mIn f 0 (nI n - 1) = if f < 0 then 0 else if f < nI n then 1 else 0 := by
  unfold mIn
  by_cases f0 : f < 0
  · rw [if_pos f0, if_pos f0]
  · rw [if_neg f0, if_neg f0]
    by_cases n0 : n = 0
    · subst n0
      have a : ¬ f ≤ nI 0 - 1 := by
        intro z
        rw [Int32.le_iff_toInt_le] at z
        rw [Int32.lt_iff_toInt_lt] at f0
        have a1 : (nI 0 - 1).toInt = -1 := by decide
        have a2 : (0 : Int32).toInt = 0 := by decide
        omega
      have b : ¬ f < nI 0 := f0
      rw [if_neg a, if_neg b]
    · have e : nI n - 1 = nI (n - 1) := by
        rw [show (1 : Int32) = nI 1 from rfl, pk_sub (by omega)]
      have i : f ≤ nI (n - 1) ↔ f < nI n := by
        rw [nI_lti (by omega), show n - 1 + 1 = n by omega]
      rw [e]
      by_cases q : f < nI n
      · rw [if_pos q, if_pos (i.mpr q)]
      · rw [if_neg q, if_neg (fun z => q (i.mp z))]
theorem mmem (f : Int32) (n : Nat) (h1 : 1 ≤ n) (hn : n ≤ 8) : mIn f (-1) (nI n - 1) = if f = -1 then 1 else if f < 0 then 0 else if f < nI n then 1 else 0 := by
  have e : nI n - 1 = nI (n - 1) := by
    rw [show (1 : Int32) = nI 1 from rfl, pk_sub (by omega)]
  have i : f ≤ nI (n - 1) ↔ f < nI n := by
    rw [nI_lti (by omega), show n - 1 + 1 = n by omega]
  rw [e]
  unfold mIn
  by_cases f1 : f = -1
  · subst f1
    have a : (-1 : Int32) < nI n := by
      rw [Int32.lt_iff_toInt_lt]
      have := nI_nlt (b := 0) (a := n) (Nat.zero_le _) (by omega)
      rw [Int32.lt_iff_toInt_lt] at this
      have a1 : (-1 : Int32).toInt = -1 := by decide
      have a2 : (nI 0).toInt = 0 := by decide
      omega
    rw [if_pos rfl, if_neg (by decide), if_pos (i.mpr a)]
  · rw [if_neg f1]
    have c : f < -1 ↔ f < 0 := by
      rw [Int32.lt_iff_toInt_lt, Int32.lt_iff_toInt_lt]
      have a1 : (-1 : Int32).toInt = -1 := by decide
      have a2 : (0 : Int32).toInt = 0 := by decide
      have a3 : ¬ f.toInt = -1 := fun z => f1 (Int32.toInt_inj.mp (z.trans a1.symm))
      omega
    by_cases f0 : f < 0
    · rw [if_pos f0, if_pos (c.mpr f0)]
    · rw [if_neg f0, if_neg (fun z => f0 (c.mp z))]
      by_cases q : f < nI n
      · rw [if_pos q, if_pos (i.mpr q)]
      · rw [if_neg q, if_neg (fun z => q (i.mp z))]
