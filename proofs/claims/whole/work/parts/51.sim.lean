/-! calls: place, why, register, sets, byteAt, poke, back -/
theorem fa_byte_low (x : Int32) : (x &&& 255).toInt8 = x.toInt8 := by
  apply Int8.toBitVec_inj.1
  apply BitVec.eq_of_getLsbD_eq
  intro i hi
  have h2 : (255 : Int32).toBitVec.getLsbD i = true := by
    have : ∀ j : Fin 8, (255 : Int32).toBitVec.getLsbD j.val = true := by decide +kernel
    exact this ⟨i, hi⟩
  have h4 : (x &&& 255).toBitVec.getLsbD i = x.toBitVec.getLsbD i := by
    show (x.toBitVec &&& (255 : Int32).toBitVec).getLsbD i = _
    rw [BitVec.getLsbD_and, h2, Bool.and_true]
  have h3 : i < 32 := by omega
  first
    | (show (((x &&& 255).toBitVec).signExtend 8).getLsbD i = (x.toBitVec.signExtend 8).getLsbD i; rw [BitVec.getLsbD_signExtend, BitVec.getLsbD_signExtend, if_pos h3, if_pos h3, h4])
    | (show (((x &&& 255).toBitVec).setWidth 8).getLsbD i = (x.toBitVec.setWidth 8).getLsbD i; rw [BitVec.getLsbD_setWidth, BitVec.getLsbD_setWidth, h4])
    | (simp [hi, h3, h4]; done)
theorem and255 (v : Int32) : ∃ w, w < 256 ∧ v &&& 255 = nI w ∧ vp_nar .byte v = vp_nar .byte (nI w) := by
  have h1 : v &&& 255 = nI (v.toBitVec.toNat % 256) := by
    apply Int32.toBitVec_inj.mp
    rw [Int32.toBitVec_and]
    apply BitVec.eq_of_toNat_eq
    rw [BitVec.toNat_and]
    show v.toBitVec.toNat &&& 255 = (BitVec.ofNat 32 (v.toBitVec.toNat % 256)).toNat
    rw [BitVec.toNat_ofNat, show 255 = 2 ^ 8 - 1 from rfl, Nat.and_two_pow_sub_one_eq_mod]
    omega
  refine ⟨v.toBitVec.toNat % 256, Nat.mod_lt _ (by decide), h1, ?_⟩
  rw [vp_nar_byte, vp_nar_byte, ← h1, fa_byte_low]
theorem nar_255 (n : Nat) (hn : n < 256) : vp_nar .byte (nI n) &&& 255 = nI n := sc_k8 n hn
theorem lt_nn {x : Int32} {n : Nat} (hn : n < 2147483648) (hx : x < nI n) (h0 : ¬ x < 0) : x.toNatClampNeg < n := by
  obtain ⟨k, h1, rfl⟩ := vnat hn h0 hx
  rw [nI_clamp (by omega)]
  exact h1
theorem RMm_up {h h2 : VG} {A M o i : Nat} {x y : Int32} (hr : RMm h A M o) (hv : ∃ v, v < 256 ∧ y = nI v ∧ x = vp_nar .byte (nI v)) (e1 : ∀ j, aI h2 A j = if j = i then x else aI h A j) (e2 : ∀ j, aI h2 M (o + j) = if j = i then y else aI h M (o + j)) : RMm h2 A M o := by
  intro j hj
  rw [e1, e2]
  by_cases hi : j = i
  · rw [if_pos hi, if_pos hi]
    exact hv
  · rw [if_neg hi, if_neg hi]
    exact hr j hj
theorem RRg_up {h h2 : VG} {A M o i : Nat} {x : Int64} (hr : RRg h A M o) (e1 : ∀ j, aL h2 A j = if j = i then x else aL h A j) (e2 : ∀ j, aL h2 M (o + j) = if j = i then x else aL h M (o + j)) : RRg h2 A M o := by
  intro j hj
  rw [e1, e2]
  by_cases hi : j = i
  · rw [if_pos hi, if_pos hi]
  · rw [if_neg hi, if_neg hi]
    exact hr j hj
theorem RRg_all {h : VG} {A M : Nat} (hr : RRg h A M 0) {r : Nat} (hk : r < 8) : aL h A r = aL h M r := by
  have := hr r hk
  rw [Nat.zero_add] at this
  exact this
theorem RMm_all {h : VG} {A M : Nat} (hr : RMm h A M 0) {r : Nat} (hk : r < 256) : aI h A r &&& 255 = aI h M r := by
  obtain ⟨v, h1, h2, h3⟩ := hr r hk
  rw [Nat.zero_add] at h2
  rw [h3, h2]
  exact nar_255 v h1
def mThere (l a n : Int32) : Int32 := if n = 0 then 1 else if a < 0 then 0 else if a ≤ l - n then 1 else 0
theorem c_m_isThere (h : VG) (m : Nat) (a n : Int32) (ho : ob h m 11) : ev 202 0 [some (.ref m), some (.int a), some (.int n)] [] h = some (some (.int (mThere (gI h m 18) a n)), h) := by
  unfold mThere
  simp +decide only [e202_0, e202_1, e202_4, e202_5, e202_8, e202_9, e202_10, e202_13, e202_14, e202_15, e202_18, e202_19, e202_22, e202_23, ho, vkk_n, vkk_i, vkk_r, vkk_l, vkk_d, catS_nil, catS_i, catS_r, catS_l, catS_d, Nat.reduceAdd, Nat.reduceLeDiff, Nat.zero_le, Nat.le_refl, Option.bind_some, Option.toList_some, Option.toList_none, List.cons_append, List.nil_append, or_true, true_or, if_true, if_false, Int32.reduceLT, Int32.reduceLE, not_true, not_false_iff, true_and, and_true, false_and, and_false]
  (repeat' split) <;> simp_all
theorem there_ok {l n : Nat} (hl : l ≤ 256) (hn : n < 1073741824) (a : Int32) : (memRef (nI l) a.toInt64 (nI n) = 0 ∧ mThere (nI l) a (nI n) = 1 ∧ (n = 0 ∨ ∃ k, a = nI k ∧ k + n ≤ l)) ∨ (memRef (nI l) a.toInt64 (nI n) = 5 ∧ mThere (nI l) a (nI n) = 0) := by
  unfold memRef mThere
  by_cases h0 : n = 0
  · subst h0
    rw [if_pos nI_0, if_pos nI_0]
    exact Or.inl ⟨rfl, rfl, Or.inl rfl⟩
  · have h1 := nI_ne0 (n := n) (by omega) (by omega)
    rw [if_neg h1, if_neg h1]
    by_cases h2 : a < 0
    · have h3 : a.toInt64 < 0 := by
        rw [Int64.lt_iff_toInt_lt, Int32.toInt_toInt64]
        exact Int32.lt_iff_toInt_lt.mp h2
      rw [if_pos h2, if_pos h3]
      exact Or.inr ⟨rfl, rfl⟩
    · obtain ⟨k, hk, rfl⟩ := nI_of h2
      have h3 : ¬ (nI k).toInt64 < 0 := by
        rw [Int64.lt_iff_toInt_lt, Int32.toInt_toInt64]
        exact fun z => h2 (Int32.lt_iff_toInt_lt.mpr z)
      have h4 : (nI k).toInt64 + (nI n).toInt64 ≤ (nI l).toInt64 ↔ k + n ≤ l := by
        rw [nI_l hk, nI_l (by omega), nI_l (by omega), show lN k + lN n = lN (k + n) from (Int64.ofNat_add k n).symm, Int64.le_iff_toInt_le, show (lN (k + n)).toInt = ((k + n : Nat) : Int) from lg_ofNat_toInt (by omega), show (lN l).toInt = (l : Int) from lg_ofNat_toInt (by omega)]
        omega
      have h5 : nI k ≤ nI l - nI n ↔ k + n ≤ l := by
        rw [Int32.le_iff_toInt_le, pk_sub_toInt (by omega) (by omega), nI_toInt hk]
        omega
      rw [if_neg h2, if_neg h3]
      by_cases h6 : k + n ≤ l
      · rw [if_pos (h4.mpr h6), if_pos (h5.mpr h6)]
        exact Or.inl ⟨rfl, rfl, Or.inr ⟨k, rfl, h6⟩⟩
      · rw [if_neg (fun z => h6 (h4.mp z)), if_neg (fun z => h6 (h5.mp z))]
        exact Or.inr ⟨rfl, rfl⟩
theorem k_place (h : VG) (g : Nat) (R : Inv h g) : CalI h g 98 [some (.ref g)] 155 [some (.ref (g + 266))] :=
  ⟨gI h g 5, h, h, c_place h g R.sh, (c_m_place h g R.sh).trans (by rw [R.ans.1]), R, rfl⟩
theorem k_why (h : VG) (g : Nat) (R : Inv h g) : CalI h g 99 [some (.ref g)] 165 [some (.ref (g + 266))] :=
  ⟨gI h g 9, h, h, c_why h g R.sh, (c_m_why h g R.sh).trans (by rw [R.ans.2.1]), R, rfl⟩
theorem k_register (h : VG) (g : Nat) (R : Inv h g) (r : Int32) : CalL h g 127 [some (.ref g), some (.int r)] 224 [some (.ref (g + 266)), some (.int r)] := by
  refine ⟨_, h, h, c_register h g R.sh r, ?_, R, rfl⟩
  by_cases h0 : r < 0
  · have q := mIn_0 (v := r) (u := 7) h0
    simp +decide only [e224_0, e224_1, e224_4, e224_7, e224_8, e224_11, e224_12, e224_13, e224_16, e224_17, c_m_isBin, h0, q, vkk_n, vkk_i, vkk_r, vkk_l, vkk_d, catS_nil, catS_i, catS_r, catS_l, catS_d, Nat.reduceAdd, Nat.reduceLeDiff, Nat.zero_le, Nat.le_refl, Option.bind_some, Option.toList_some, Option.toList_none, List.cons_append, List.nil_append, or_true, true_or, if_true, if_false, Int32.reduceLT, Int32.reduceLE, not_true, not_false_iff, true_and, and_true, false_and, and_false]
  · by_cases h1 : r < 8
    · have hi : vp_in r 8 := vin_lt (by decide) h0 h1
      have q := mIn_t (u := 7) h0 ((nI_lti (n := 7) (by decide)).mpr h1)
      have e : aL h (g + 298) r.toNatClampNeg = aL h (g + 176) r.toNatClampNeg := (RRg_all R.reg (lt_nn (n := 8) (by decide) h1 h0)).symm
      simp +decide only [e224_0, e224_1, e224_4, e224_7, e224_8, e224_11, e224_12, e224_13, e224_16, e224_17, c_m_isBin, h0, h1, q, hi, e, (Mod_0 R.mod : ob h (g + 266) 11), (rf_g (Mod_94 R.mod : rf h (g + 266) 56 (g + 298)) : gR h (g + 266) 56 = (g + 298)), (rf_is (Mod_94 R.mod : rf h (g + 266) 56 (g + 298)) : isR h (g + 266) 56), (Mod_95 R.mod : arL h (g + 298)), (Mod_96 R.mod : aln h (g + 298) = 8), Nat.add_assoc, Nat.reduceAdd, Nat.add_left_cancel_iff, Nat.reduceEqDiff, Nat.add_eq_left, Nat.left_eq_add, vkk_n, vkk_i, vkk_r, vkk_l, vkk_d, catS_nil, catS_i, catS_r, catS_l, catS_d, Nat.reduceAdd, Nat.reduceLeDiff, Nat.zero_le, Nat.le_refl, Option.bind_some, Option.toList_some, Option.toList_none, List.cons_append, List.nil_append, or_true, true_or, if_true, if_false, Int32.reduceLT, Int32.reduceLE, not_true, not_false_iff, true_and, and_true, false_and, and_false]
    · have q := mIn_2 (v := r) (l := 0) (u := 7) (fun z => h1 ((nI_lti (n := 7) (by decide)).mp z))
      simp +decide only [e224_0, e224_1, e224_4, e224_7, e224_8, e224_11, e224_12, e224_13, e224_16, e224_17, c_m_isBin, h0, h1, q, vkk_n, vkk_i, vkk_r, vkk_l, vkk_d, catS_nil, catS_i, catS_r, catS_l, catS_d, Nat.reduceAdd, Nat.reduceLeDiff, Nat.zero_le, Nat.le_refl, Option.bind_some, Option.toList_some, Option.toList_none, List.cons_append, List.nil_append, or_true, true_or, if_true, if_false, Int32.reduceLT, Int32.reduceLE, not_true, not_false_iff, true_and, and_true, false_and, and_false]
theorem k_sets (h : VG) (g : Nat) (R : Inv h g) (r : Int32) (v : Int64) : CalI h g 128 [some (.ref g), some (.int r), some (.long v), none] 225 [some (.ref (g + 266)), some (.int r), some (.long v), none] := by
  have hS := c_sets h g R.sh r v
  by_cases h0 : r < 0
  · have q := mIn_0 (v := r) (u := 7) h0
    refine ⟨0, h, h, hS.trans (by rw [if_pos h0]), ?_, R, rfl⟩
    simp +decide only [e225_0, e225_1, e225_4, e225_7, e225_8, e225_9, e225_10, e225_13, e225_14, e225_15, e225_16, e225_17, c_m_isBin, h0, q, vkk_n, vkk_i, vkk_r, vkk_l, vkk_d, catS_nil, catS_i, catS_r, catS_l, catS_d, Nat.reduceAdd, Nat.reduceLeDiff, Nat.zero_le, Nat.le_refl, Option.bind_some, Option.toList_some, Option.toList_none, List.cons_append, List.nil_append, or_true, true_or, if_true, if_false, Int32.reduceLT, Int32.reduceLE, not_true, not_false_iff, true_and, and_true, false_and, and_false]
  · by_cases h1 : r < 8
    · have hi : vp_in r 8 := vin_lt (by decide) h0 h1
      have q := mIn_t (u := 7) h0 ((nI_lti (n := 7) (by decide)).mpr h1)
      refine ⟨1, _, wL (wL h (g + 176) r.toNatClampNeg v) (g + 298) r.toNatClampNeg v, hS.trans (by rw [if_neg h0, if_pos h1]), ?_, ?_, rfl⟩
      · simp +decide only [e225_0, e225_1, e225_4, e225_7, e225_8, e225_9, e225_10, e225_13, e225_14, e225_15, e225_16, e225_17, c_m_isBin, h0, h1, q, hi, (Mod_0 R.mod : ob h (g + 266) 11), (rf_g (Mod_94 R.mod : rf h (g + 266) 56 (g + 298)) : gR h (g + 266) 56 = (g + 298)), (rf_is (Mod_94 R.mod : rf h (g + 266) 56 (g + 298)) : isR h (g + 266) 56), (Mod_95 R.mod : arL h (g + 298)), (Mod_96 R.mod : aln h (g + 298) = 8), ob_pI, rf_pI, isR_pI, isI_pI, isL_pI, arI_pI, arL_pI, arR_pI, arD_pI, aln_pI, rdI_pI, rdB_pI, rdR_pI, aR_pI, pI_2, gI_pI, gL_pI, gD_pI, gR_pI, aI_pI, aL_pI, aD_pI, ob_pL, rf_pL, isR_pL, isI_pL, isL_pL, arI_pL, arL_pL, arR_pL, arD_pL, aln_pL, rdI_pL, rdB_pL, rdR_pL, aR_pL, pL_2, gI_pL, gL_pL, gD_pL, gR_pL, aI_pL, aL_pL, aD_pL, ob_wI, rf_wI, isR_wI, isI_wI, isL_wI, arI_wI, arL_wI, arR_wI, arD_wI, aln_wI, rdI_wI, rdB_wI, rdR_wI, aR_wI, wI_2, gI_wI, gL_wI, gD_wI, gR_wI, aL_wI, aD_wI, aI_wI_ne, ob_wL, rf_wL, isR_wL, isI_wL, isL_wL, arI_wL, arL_wL, arR_wL, arD_wL, aln_wL, rdI_wL, rdB_wL, rdR_wL, aR_wL, wL_2, gI_wL, gL_wL, gD_wL, gR_wL, aI_wL, aD_wL, aL_wL_ne, ob_bI, rf_bI, isR_bI, isI_bI, isL_bI, arI_bI, arL_bI, arR_bI, arD_bI, aln_bI, rdI_bI, rdB_bI, rdR_bI, aR_bI, bI_2, gI_bI, gL_bI, gD_bI, gR_bI, aL_bI, aD_bI, aI_bI_ne, ob_bL, rf_bL, isR_bL, isI_bL, isL_bL, arI_bL, arL_bL, arR_bL, arD_bL, aln_bL, rdI_bL, rdB_bL, rdR_bL, aR_bL, bL_2, gI_bL, gL_bL, gD_bL, gR_bL, aI_bL, aD_bL, aL_bL_ne, Nat.add_assoc, Nat.reduceAdd, Nat.add_left_cancel_iff, Nat.reduceEqDiff, Nat.add_eq_left, Nat.left_eq_add, vkk_n, vkk_i, vkk_r, vkk_l, vkk_d, catS_nil, catS_i, catS_r, catS_l, catS_d, Nat.reduceAdd, Nat.reduceLeDiff, Nat.zero_le, Nat.le_refl, Option.bind_some, Option.toList_some, Option.toList_none, List.cons_append, List.nil_append, or_true, true_or, if_true, if_false, Int32.reduceLT, Int32.reduceLE, not_true, not_false_iff, true_and, and_true, false_and, and_false]
      · have zz : Fr (fun a => a = g + 176 ∨ a = g + 298) NF h (wL (wL h (g + 176) r.toNatClampNeg v) (g + 298) r.toNatClampNeg v) := (Fr_wL _ _ _ _ (Or.inl rfl)).tr (Fr_wL _ _ _ _ (Or.inr rfl))
        have e : RReg (wL (wL h (g + 176) r.toNatClampNeg v) (g + 298) r.toNatClampNeg v) g := by
          refine RRg_up (i := r.toNatClampNeg) (x := v) R.reg (fun j => ?_) (fun j => ?_)
          · rw [aL_wL_ne _ _ _ _ _ _ (by omega), aL_wL _ _ _ _ _ _ (State_8 (Cls_17 R.cls))]
            simp only [true_and]
          · rw [aL_wL _ _ _ _ _ _ ((arL_wL ..).mpr (Mod_95 R.mod)), Nat.zero_add, aL_wL_ne _ _ _ _ _ _ (by omega)]
            simp only [true_and]
        have cR : ∀ a, a = g + 176 ∨ a = g + 298 → a = g + 176 ∨ a = g + 298 := fun a q => q
        have dF : ∀ a k, NF a k → a < g := fun a k q => q.elim
        refine ⟨⟨Sh_fr zz ?_ R.sh, RTape_fr zz ?_ ?_ R.tape, RAns_fr zz ?_ R.ans, RHd_fr zz ?_ R.hd, RMem_fr zz ?_ R.mem, e, RBins_fr zz ?_ ?_ R.bins, RSl_fr (by decide) zz ?_ ?_ R.sl0, RSl_fr (by decide) zz ?_ ?_ R.sl1, RPl_fr zz ?_ ?_ R.pl⟩, RCn_fr zz ?_ ?_ R.cn⟩
        all_goals first | (intro a q; have := cR a q; omega) | (intro a k q; have := dF a k q; omega) | (intro q; have := dF _ _ q; omega) | (intro q; have := cR _ q; omega)
    · have q := mIn_2 (v := r) (l := 0) (u := 7) (fun z => h1 ((nI_lti (n := 7) (by decide)).mp z))
      refine ⟨0, h, h, hS.trans (by rw [if_neg h0, if_neg h1]), ?_, R, rfl⟩
      simp +decide only [e225_0, e225_1, e225_4, e225_7, e225_8, e225_9, e225_10, e225_13, e225_14, e225_15, e225_16, e225_17, c_m_isBin, h0, h1, q, vkk_n, vkk_i, vkk_r, vkk_l, vkk_d, catS_nil, catS_i, catS_r, catS_l, catS_d, Nat.reduceAdd, Nat.reduceLeDiff, Nat.zero_le, Nat.le_refl, Option.bind_some, Option.toList_some, Option.toList_none, List.cons_append, List.nil_append, or_true, true_or, if_true, if_false, Int32.reduceLT, Int32.reduceLE, not_true, not_false_iff, true_and, and_true, false_and, and_false]
theorem k_byteAt (h : VG) (g : Nat) (R : Inv h g) (r : Int32) : CalI h g 108 [some (.ref g), some (.int r)] 222 [some (.ref (g + 266)), some (.int r)] := by
  refine ⟨_, h, h, c_byteAt h g R.sh r, ?_, R, rfl⟩
  by_cases h0 : r < 0
  · have q := mIn_0 (v := r) (u := 255) h0
    simp +decide only [e222_0, e222_1, e222_2, e222_5, e222_8, e222_11, e222_12, e222_15, e222_16, e222_17, e222_20, e222_21, c_m_in, h0, q, vkk_n, vkk_i, vkk_r, vkk_l, vkk_d, catS_nil, catS_i, catS_r, catS_l, catS_d, Nat.reduceAdd, Nat.reduceLeDiff, Nat.zero_le, Nat.le_refl, Option.bind_some, Option.toList_some, Option.toList_none, List.cons_append, List.nil_append, or_true, true_or, if_true, if_false, Int32.reduceLT, Int32.reduceLE, not_true, not_false_iff, true_and, and_true, false_and, and_false]
  · by_cases h1 : r < 256
    · have hi : vp_in r 256 := vin_lt (by decide) h0 h1
      have q := mIn_t (u := 255) h0 ((nI_lti (n := 255) (by decide)).mpr h1)
      have e : aI h (g + 277) r.toNatClampNeg = aI h (g + 174) r.toNatClampNeg &&& 255 := (RMm_all R.mem (lt_nn (n := 256) (by decide) h1 h0)).symm
      simp +decide only [e222_0, e222_1, e222_2, e222_5, e222_8, e222_11, e222_12, e222_15, e222_16, e222_17, e222_20, e222_21, c_m_in, h0, h1, q, hi, e, (Mod_0 R.mod : ob h (g + 266) 11), (rf_g (Mod_31 R.mod : rf h (g + 266) 23 (g + 277)) : gR h (g + 266) 23 = (g + 277)), (rf_is (Mod_31 R.mod : rf h (g + 266) 23 (g + 277)) : isR h (g + 266) 23), (Mod_32 R.mod : arI h (g + 277) 0), (rdI_0 (Mod_32 R.mod : arI h (g + 277) 0) : rdI h (g + 277)), (Mod_33 R.mod : aln h (g + 277) = 256), Nat.add_assoc, Nat.reduceAdd, Nat.add_left_cancel_iff, Nat.reduceEqDiff, Nat.add_eq_left, Nat.left_eq_add, vkk_n, vkk_i, vkk_r, vkk_l, vkk_d, catS_nil, catS_i, catS_r, catS_l, catS_d, Nat.reduceAdd, Nat.reduceLeDiff, Nat.zero_le, Nat.le_refl, Option.bind_some, Option.toList_some, Option.toList_none, List.cons_append, List.nil_append, or_true, true_or, if_true, if_false, Int32.reduceLT, Int32.reduceLE, not_true, not_false_iff, true_and, and_true, false_and, and_false]
    · have q := mIn_2 (v := r) (l := 0) (u := 255) (fun z => h1 ((nI_lti (n := 255) (by decide)).mp z))
      simp +decide only [e222_0, e222_1, e222_2, e222_5, e222_8, e222_11, e222_12, e222_15, e222_16, e222_17, e222_20, e222_21, c_m_in, h0, h1, q, vkk_n, vkk_i, vkk_r, vkk_l, vkk_d, catS_nil, catS_i, catS_r, catS_l, catS_d, Nat.reduceAdd, Nat.reduceLeDiff, Nat.zero_le, Nat.le_refl, Option.bind_some, Option.toList_some, Option.toList_none, List.cons_append, List.nil_append, or_true, true_or, if_true, if_false, Int32.reduceLT, Int32.reduceLE, not_true, not_false_iff, true_and, and_true, false_and, and_false]
theorem k_poke (h : VG) (g : Nat) (R : Inv h g) (a v : Int32) : CalI h g 109 [some (.ref g), some (.int a), some (.int v)] 223 [some (.ref (g + 266)), some (.int a), some (.int v)] := by
  obtain ⟨l, fr, l1, l2, l3, e1, e2, e3, e4, e5, e6⟩ := R.hd
  have ho : ob h g 10 := Cls_0 R.cls
  have hm : ob h (g + 266) 11 := Mod_0 R.mod
  have gl : ∀ k, gI (pI h g 9 0) (g + 173) k = gI h (g + 173) k := fun k => gI_pI_ne _ _ _ _ _ _ (fun z => by omega)
  rcases there_ok l2 (show 1 < 1073741824 by decide) a with ⟨q1, q2, q3⟩ | ⟨q1, q2⟩
  · obtain q3 | ⟨k, rfl, q3⟩ := q3
    · cases q3
    · have hi : vp_in (nI k) 256 := vp_in_nI (by omega) (by decide)
      have hc : (nI k).toNatClampNeg = k := nI_clamp (by omega)
      have q1' : memRef (nI l) (nI k).toInt64 1 = 0 := q1
      have q2' : mThere (nI l) (nI k) 1 = 1 := q2
      have s1 : ev 109 0 [some (.ref g), some (.int (nI k)), some (.int v)] [] h = some (some (.int 1), wI (cRf h g 0) (g + 174) k (vp_nar .byte v)) := by
        simp +decide only [e109_0, e109_1, e109_2, e109_5, e109_6, e109_7, e109_10, e109_13, e109_14, e109_15, e109_16, e109_19, e109_22, e109_25, e109_26, e109_27, e109_28, e109_31, e109_34, e109_37, e109_38, e109_39, e109_40, e109_40z, e109_41, e109_42, cRf_0, nar_i8, c_refusalOf, c_refuses, rfs_0, ho, gl, e1, q1', hi, hc, (Cls_0 R.cls : ob h g 10), (rf_g (Cls_3 R.cls : rf h g 6 (g + 172)) : gR h g 6 = (g + 172)), (rf_is (Cls_3 R.cls : rf h g 6 (g + 172)) : isR h g 6), (State_0 (Cls_17 R.cls) : ob h (g + 172) 8), (eq_true (isI_ob (State_0 (Cls_17 R.cls) : ob h (g + 172) 8) rfl : isI h (g + 172) 3)), (rf_g (State_1 (Cls_17 R.cls) : rf h (g + 172) 0 (g + 173)) : gR h (g + 172) 0 = (g + 173)), (rf_is (State_1 (Cls_17 R.cls) : rf h (g + 172) 0 (g + 173)) : isR h (g + 172) 0), (rf_g (State_2 (Cls_17 R.cls) : rf h (g + 172) 1 (g + 175)) : gR h (g + 172) 1 = (g + 175)), (rf_is (State_2 (Cls_17 R.cls) : rf h (g + 172) 1 (g + 175)) : isR h (g + 172) 1), (rf_g (State_3 (Cls_17 R.cls) : rf h (g + 172) 2 (g + 176)) : gR h (g + 172) 2 = (g + 176)), (rf_is (State_3 (Cls_17 R.cls) : rf h (g + 172) 2 (g + 176)) : isR h (g + 172) 2), (State_5 (Cls_17 R.cls) : arR h (g + 175) 5), (rdR_5 (State_5 (Cls_17 R.cls) : arR h (g + 175) 5) : rdR h (g + 175)), (State_6 (Cls_17 R.cls) : aln h (g + 175) = 8), (State_8 (Cls_17 R.cls) : arL h (g + 176)), (State_9 (Cls_17 R.cls) : aln h (g + 176) = 8), (Mem_0 (State_4 (Cls_17 R.cls)) : ob h (g + 173) 5), (eq_true (isI_ob (Mem_0 (State_4 (Cls_17 R.cls)) : ob h (g + 173) 5) rfl : isI h (g + 173) 1)), (eq_true (isI_ob (Mem_0 (State_4 (Cls_17 R.cls)) : ob h (g + 173) 5) rfl : isI h (g + 173) 2)), (rf_g (Mem_1 (State_4 (Cls_17 R.cls)) : rf h (g + 173) 0 (g + 174)) : gR h (g + 173) 0 = (g + 174)), (rf_is (Mem_1 (State_4 (Cls_17 R.cls)) : rf h (g + 173) 0 (g + 174)) : isR h (g + 173) 0), (Mem_2 (State_4 (Cls_17 R.cls)) : arI h (g + 174) 2), (rdB_2 (Mem_2 (State_4 (Cls_17 R.cls)) : arI h (g + 174) 2) : rdB h (g + 174)), (Mem_3 (State_4 (Cls_17 R.cls)) : aln h (g + 174) = 256), ob_pI, rf_pI, isR_pI, isI_pI, isL_pI, arI_pI, arL_pI, arR_pI, arD_pI, aln_pI, rdI_pI, rdB_pI, rdR_pI, aR_pI, pI_2, gI_pI, gL_pI, gD_pI, gR_pI, aI_pI, aL_pI, aD_pI, ob_pL, rf_pL, isR_pL, isI_pL, isL_pL, arI_pL, arL_pL, arR_pL, arD_pL, aln_pL, rdI_pL, rdB_pL, rdR_pL, aR_pL, pL_2, gI_pL, gL_pL, gD_pL, gR_pL, aI_pL, aL_pL, aD_pL, ob_wI, rf_wI, isR_wI, isI_wI, isL_wI, arI_wI, arL_wI, arR_wI, arD_wI, aln_wI, rdI_wI, rdB_wI, rdR_wI, aR_wI, wI_2, gI_wI, gL_wI, gD_wI, gR_wI, aL_wI, aD_wI, aI_wI_ne, ob_wL, rf_wL, isR_wL, isI_wL, isL_wL, arI_wL, arL_wL, arR_wL, arD_wL, aln_wL, rdI_wL, rdB_wL, rdR_wL, aR_wL, wL_2, gI_wL, gL_wL, gD_wL, gR_wL, aI_wL, aD_wL, aL_wL_ne, ob_bI, rf_bI, isR_bI, isI_bI, isL_bI, arI_bI, arL_bI, arR_bI, arD_bI, aln_bI, rdI_bI, rdB_bI, rdR_bI, aR_bI, bI_2, gI_bI, gL_bI, gD_bI, gR_bI, aL_bI, aD_bI, aI_bI_ne, ob_bL, rf_bL, isR_bL, isI_bL, isL_bL, arI_bL, arL_bL, arR_bL, arD_bL, aln_bL, rdI_bL, rdB_bL, rdR_bL, aR_bL, bL_2, gI_bL, gL_bL, gD_bL, gR_bL, aI_bL, aD_bL, aL_bL_ne, Nat.add_assoc, Nat.reduceAdd, Nat.add_left_cancel_iff, Nat.reduceEqDiff, Nat.add_eq_left, Nat.left_eq_add, vkk_n, vkk_i, vkk_r, vkk_l, vkk_d, catS_nil, catS_i, catS_r, catS_l, catS_d, Nat.reduceAdd, Nat.reduceLeDiff, Nat.zero_le, Nat.le_refl, Option.bind_some, Option.toList_some, Option.toList_none, List.cons_append, List.nil_append, or_true, true_or, if_true, if_false, Int32.reduceLT, Int32.reduceLE, not_true, not_false_iff, true_and, and_true, false_and, and_false]
      have f1 : Fr (fun a => a = g + 174) NF (cRf h g 0) (wI (cRf h g 0) (g + 174) k (vp_nar .byte v)) := Fr_wI _ _ _ _ rfl
      have s3 : Sh (wI (cRf h g 0) (g + 174) k (vp_nar .byte v)) g := Sh_fr f1 (fun a z => by omega) (cRf_sh R.sh)
      have g18 : gI (wI (cRf h g 0) (g + 174) k (vp_nar .byte v)) (g + 266) 18 = nI l := (f1.gI (fun z => z)).trans (((cRf_fr h g 0).gI (fun z => by unfold AC at z; omega)).trans e2)
      generalize hh1 : wI (cRf h g 0) (g + 174) k (vp_nar .byte v) = h1 at s1 f1 s3 g18
      have o3 : ob h1 (g + 266) 11 := Mod_0 s3.2.1
      have m2 := (msy_0 h1 (g + 266) 0 (by decide) o3).2
      have s2 : ev 223 0 [some (.ref (g + 266)), some (.int (nI k)), some (.int v)] [] h1 = some (some (.int 1), wI (mRf h1 (g + 266) 0) (g + 277) k (v &&& 255)) := by
        have t1 := c_m_isThere h1 (g + 266) (nI k) 1 o3
        rw [g18, q2'] at t1
        have o4 : Sh (mRf h1 (g + 266) 0) g := Sh_fr (mRf_fr ..) (fun _ z => z.elim) s3
        generalize mRf h1 (g + 266) 0 = h2 at m2 o4 ⊢
        simp +decide only [e223_0, e223_1, e223_2, e223_3, e223_4, e223_7, e223_10, e223_11, e223_14, e223_15, e223_18, e223_21, e223_22, e223_23, e223_24, e223_27, e223_28, e223_29, e223_32, e223_33, e223_34, e223_35, t1, c_m_says, m2, o3, hi, hc, (Mod_0 o4.2.1 : ob h2 (g + 266) 11), (rf_g (Mod_31 o4.2.1 : rf h2 (g + 266) 23 (g + 277)) : gR h2 (g + 266) 23 = (g + 277)), (rf_is (Mod_31 o4.2.1 : rf h2 (g + 266) 23 (g + 277)) : isR h2 (g + 266) 23), (Mod_32 o4.2.1 : arI h2 (g + 277) 0), (rdI_0 (Mod_32 o4.2.1 : arI h2 (g + 277) 0) : rdI h2 (g + 277)), (Mod_33 o4.2.1 : aln h2 (g + 277) = 256), (Mod_0 s3.2.1 : ob h1 (g + 266) 11), (rf_g (Mod_31 s3.2.1 : rf h1 (g + 266) 23 (g + 277)) : gR h1 (g + 266) 23 = (g + 277)), (rf_is (Mod_31 s3.2.1 : rf h1 (g + 266) 23 (g + 277)) : isR h1 (g + 266) 23), (Mod_32 s3.2.1 : arI h1 (g + 277) 0), (rdI_0 (Mod_32 s3.2.1 : arI h1 (g + 277) 0) : rdI h1 (g + 277)), (Mod_33 s3.2.1 : aln h1 (g + 277) = 256), Nat.add_assoc, Nat.reduceAdd, Nat.add_left_cancel_iff, Nat.reduceEqDiff, Nat.add_eq_left, Nat.left_eq_add, vkk_n, vkk_i, vkk_r, vkk_l, vkk_d, catS_nil, catS_i, catS_r, catS_l, catS_d, Nat.reduceAdd, Nat.reduceLeDiff, Nat.zero_le, Nat.le_refl, Option.bind_some, Option.toList_some, Option.toList_none, List.cons_append, List.nil_append, or_true, true_or, if_true, if_false, Int32.reduceLT, Int32.reduceLE, not_true, not_false_iff, true_and, and_true, false_and, and_false]
      refine ⟨_, _, _, s1, s2, ?_, ((Fr_wI (R := fun a => a = g + 277) (F := NF) (mRf h1 (g + 266) 0) (g + 277) k (v &&& 255) rfl).two.trans ((mRf_fr ..).two.trans (f1.two.trans (cRf_fr ..).two)))⟩
      obtain ⟨v0, hv1, hv2, hv3⟩ := and255 v
      have f2 : Fr (fun a => a = g + 277) NF (mRf h1 (g + 266) 0) (wI (mRf h1 (g + 266) 0) (g + 277) k (v &&& 255)) := Fr_wI _ _ _ _ rfl
      have x := (cRf_fr h g 0).un f1
      have y := (mRf_fr h1 (g + 266) 0).un f2
      have zz := x.un y
      have rm : RMem (wI (mRf h1 (g + 266) 0) (g + 277) k (v &&& 255)) g := by
        refine RMm_up (i := k) R.mem ⟨v0, hv1, hv2, hv3⟩ (fun j => ?_) (fun j => ?_)
        · rw [y.I (a := g + 174) (fun z => by rcases z with z | z; exact z.elim; omega), ← hh1, aI_wI2 _ _ _ _ _ _ ((arI_kp (cRf_fr h g 0).1 ..).mpr (Mem_2 (State_4 (Cls_17 R.cls)))), (cRf_fr h g 0).I (fun z => z)]
          simp only [true_and]
        · rw [Nat.zero_add, aI_wI0 _ _ _ _ _ _ ((arI_kp (mRf_fr h1 (g + 266) 0).1 ..).mpr (Mod_32 s3.2.1)), (mRf_fr h1 (g + 266) 0).I (fun z => z), x.I (a := g + 277) (fun z => by rcases z with z | z; exact z.elim; omega)]
          simp only [true_and]
      have ca : CA h h1 g 0 := by
        have := cRf_CA (h := h) 0 ho
        unfold CA at this ⊢
        rw [f1.gI (fun z => z), f1.gI (fun z => z)]
        exact this
      have ma : MA h1 (wI (mRf h1 (g + 266) 0) (g + 277) k (v &&& 255)) (g + 266) 0 := by
        have := mRf_MA (h := h1) 0 o3
        unfold MA at this ⊢
        rw [f2.gI (fun z => z), f2.gI (fun z => z)]
        exact this
      have cc : ∀ a, ((NR a ∨ a = g + 174) ∨ (NR a ∨ a = g + 277)) → a = g + 174 ∨ a = g + 277 := by
        intro a z
        rcases z with (z | z) | (z | z)
        · exact z.elim
        · exact Or.inl z
        · exact z.elim
        · exact Or.inr z
      have dd : ∀ a j, ((AC g a j ∨ NF a j) ∨ (AM (g + 266) a j ∨ NF a j)) → (a = g ∧ (j = 9 ∨ j = 10)) ∨ (a = g + 266 ∧ (j = 31 ∨ j = 32)) := by
        intro a j z
        rcases z with (z | z) | (z | z)
        · exact Or.inl z
        · exact z.elim
        · exact Or.inr z
        · exact z.elim
      refine Inv_now x y ?_ ?_ ?_ ?_ ca ma (RHd_fr zz ?_ R.hd) rm (RReg_fr zz ?_ R.reg) (RBins_fr zz ?_ ?_ R.bins) R
      · intro a z
        have := cc a (Or.inl z)
        unfold NwR
        rcases z with z | z
        · exact z.elim
        · omega
      · intro a j z
        have := dd a j (Or.inl z)
        unfold NwF
        rcases z with z | z
        · unfold AC at z
          omega
        · exact z.elim
      · intro a z
        have := cc a (Or.inr z)
        unfold NwR
        rcases z with z | z
        · exact z.elim
        · omega
      · intro a j z
        have := dd a j (Or.inr z)
        unfold NwF
        rcases z with z | z
        · unfold AM at z
          omega
        · exact z.elim
      · intro a j z
        have := dd a j z
        omega
      · intro a z
        have := cc a z
        omega
      · intro a z
        have := cc a z
        omega
      · intro a j z
        have := dd a j z
        omega
  · have q1' : memRef (nI l) a.toInt64 1 = 5 := q1
    have q2' : mThere (nI l) a 1 = 0 := q2
    have s1 : ev 109 0 [some (.ref g), some (.int a), some (.int v)] [] h = some (some (.int 0), cRf h g 5) := by
      simp +decide only [e109_0, e109_1, e109_2, e109_5, e109_6, e109_7, e109_10, e109_13, e109_14, e109_15, e109_16, e109_19, e109_22, e109_25, e109_26, e109_27, e109_28, e109_31, e109_34, e109_37, e109_38, e109_39, e109_40, e109_40z, e109_41, e109_42, nar_i8, c_refusalOf, c_refuses, rfs_0, ho, gl, e1, q1', (Cls_0 R.cls : ob h g 10), (rf_g (Cls_3 R.cls : rf h g 6 (g + 172)) : gR h g 6 = (g + 172)), (rf_is (Cls_3 R.cls : rf h g 6 (g + 172)) : isR h g 6), (State_0 (Cls_17 R.cls) : ob h (g + 172) 8), (eq_true (isI_ob (State_0 (Cls_17 R.cls) : ob h (g + 172) 8) rfl : isI h (g + 172) 3)), (rf_g (State_1 (Cls_17 R.cls) : rf h (g + 172) 0 (g + 173)) : gR h (g + 172) 0 = (g + 173)), (rf_is (State_1 (Cls_17 R.cls) : rf h (g + 172) 0 (g + 173)) : isR h (g + 172) 0), (rf_g (State_2 (Cls_17 R.cls) : rf h (g + 172) 1 (g + 175)) : gR h (g + 172) 1 = (g + 175)), (rf_is (State_2 (Cls_17 R.cls) : rf h (g + 172) 1 (g + 175)) : isR h (g + 172) 1), (rf_g (State_3 (Cls_17 R.cls) : rf h (g + 172) 2 (g + 176)) : gR h (g + 172) 2 = (g + 176)), (rf_is (State_3 (Cls_17 R.cls) : rf h (g + 172) 2 (g + 176)) : isR h (g + 172) 2), (State_5 (Cls_17 R.cls) : arR h (g + 175) 5), (rdR_5 (State_5 (Cls_17 R.cls) : arR h (g + 175) 5) : rdR h (g + 175)), (State_6 (Cls_17 R.cls) : aln h (g + 175) = 8), (State_8 (Cls_17 R.cls) : arL h (g + 176)), (State_9 (Cls_17 R.cls) : aln h (g + 176) = 8), (Mem_0 (State_4 (Cls_17 R.cls)) : ob h (g + 173) 5), (eq_true (isI_ob (Mem_0 (State_4 (Cls_17 R.cls)) : ob h (g + 173) 5) rfl : isI h (g + 173) 1)), (eq_true (isI_ob (Mem_0 (State_4 (Cls_17 R.cls)) : ob h (g + 173) 5) rfl : isI h (g + 173) 2)), (rf_g (Mem_1 (State_4 (Cls_17 R.cls)) : rf h (g + 173) 0 (g + 174)) : gR h (g + 173) 0 = (g + 174)), (rf_is (Mem_1 (State_4 (Cls_17 R.cls)) : rf h (g + 173) 0 (g + 174)) : isR h (g + 173) 0), (Mem_2 (State_4 (Cls_17 R.cls)) : arI h (g + 174) 2), (rdB_2 (Mem_2 (State_4 (Cls_17 R.cls)) : arI h (g + 174) 2) : rdB h (g + 174)), (Mem_3 (State_4 (Cls_17 R.cls)) : aln h (g + 174) = 256), ob_pI, rf_pI, isR_pI, isI_pI, isL_pI, arI_pI, arL_pI, arR_pI, arD_pI, aln_pI, rdI_pI, rdB_pI, rdR_pI, aR_pI, pI_2, gI_pI, gL_pI, gD_pI, gR_pI, aI_pI, aL_pI, aD_pI, ob_pL, rf_pL, isR_pL, isI_pL, isL_pL, arI_pL, arL_pL, arR_pL, arD_pL, aln_pL, rdI_pL, rdB_pL, rdR_pL, aR_pL, pL_2, gI_pL, gL_pL, gD_pL, gR_pL, aI_pL, aL_pL, aD_pL, ob_wI, rf_wI, isR_wI, isI_wI, isL_wI, arI_wI, arL_wI, arR_wI, arD_wI, aln_wI, rdI_wI, rdB_wI, rdR_wI, aR_wI, wI_2, gI_wI, gL_wI, gD_wI, gR_wI, aL_wI, aD_wI, aI_wI_ne, ob_wL, rf_wL, isR_wL, isI_wL, isL_wL, arI_wL, arL_wL, arR_wL, arD_wL, aln_wL, rdI_wL, rdB_wL, rdR_wL, aR_wL, wL_2, gI_wL, gL_wL, gD_wL, gR_wL, aI_wL, aD_wL, aL_wL_ne, ob_bI, rf_bI, isR_bI, isI_bI, isL_bI, arI_bI, arL_bI, arR_bI, arD_bI, aln_bI, rdI_bI, rdB_bI, rdR_bI, aR_bI, bI_2, gI_bI, gL_bI, gD_bI, gR_bI, aL_bI, aD_bI, aI_bI_ne, ob_bL, rf_bL, isR_bL, isI_bL, isL_bL, arI_bL, arL_bL, arR_bL, arD_bL, aln_bL, rdI_bL, rdB_bL, rdR_bL, aR_bL, bL_2, gI_bL, gL_bL, gD_bL, gR_bL, aI_bL, aD_bL, aL_bL_ne, Nat.add_assoc, Nat.reduceAdd, Nat.add_left_cancel_iff, Nat.reduceEqDiff, Nat.add_eq_left, Nat.left_eq_add, vkk_n, vkk_i, vkk_r, vkk_l, vkk_d, catS_nil, catS_i, catS_r, catS_l, catS_d, Nat.reduceAdd, Nat.reduceLeDiff, Nat.zero_le, Nat.le_refl, Option.bind_some, Option.toList_some, Option.toList_none, List.cons_append, List.nil_append, or_true, true_or, if_true, if_false, Int32.reduceLT, Int32.reduceLE, not_true, not_false_iff, true_and, and_true, false_and, and_false]
    have o3 : ob (cRf h g 5) (g + 266) 11 := cRf_ob.mpr hm
    have m2 := (msy_0 (cRf h g 5) (g + 266) 5 (by decide) o3).2
    have s2 : ev 223 0 [some (.ref (g + 266)), some (.int a), some (.int v)] [] (cRf h g 5) = some (some (.int 0), mRf (cRf h g 5) (g + 266) 5) := by
      have t1 := c_m_isThere (cRf h g 5) (g + 266) a 1 o3
      rw [(cRf_fr h g 5).gI (fun z => by unfold AC at z; omega), e2, q2'] at t1
      simp +decide only [e223_0, e223_1, e223_2, e223_3, e223_4, e223_7, e223_10, e223_11, e223_14, e223_15, e223_18, e223_21, e223_22, e223_23, e223_24, e223_27, e223_28, e223_29, e223_32, e223_33, e223_34, e223_35, t1, c_m_says, m2, o3, vkk_n, vkk_i, vkk_r, vkk_l, vkk_d, catS_nil, catS_i, catS_r, catS_l, catS_d, Nat.reduceAdd, Nat.reduceLeDiff, Nat.zero_le, Nat.le_refl, Option.bind_some, Option.toList_some, Option.toList_none, List.cons_append, List.nil_append, or_true, true_or, if_true, if_false, Int32.reduceLT, Int32.reduceLE, not_true, not_false_iff, true_and, and_true, false_and, and_false]
    exact ⟨_, _, _, s1, s2, Inv_ans (cRf_fr h g 5) (mRf_fr _ _ 5) (fun _ z => z.elim) (fun a k z => Or.inr z) (fun _ z => z.elim) (fun a k z => Or.inr z) (cRf_CA 5 ho) (mRf_MA 5 o3) R, (mRf_fr ..).two.trans (cRf_fr ..).two⟩
theorem k_back (h : VG) (g : Nat) (R : Inv h g) (n : Int32) : CalI h g 95 [some (.ref g), some (.int n)] 139 [some (.ref (g + 266)), some (.int n)] := by
  obtain ⟨⟨t, t1, t2, t3⟩, t4⟩ := R.tape
  have ho : ob h g 10 := Cls_0 R.cls
  have hm : ob h (g + 266) 11 := Mod_0 R.mod
  have bad : (n < 0 ∨ ¬ n ≤ nI t) → CalI h g 95 [some (.ref g), some (.int n)] 139 [some (.ref (g + 266)), some (.int n)] := by
    intro q
    refine ⟨-1, h, h, ?_, ?_, R, rfl⟩
    · by_cases n0 : n < 0
      · simp +decide only [e95_0, e95_1, e95_4, e95_5, e95_6, e95_9, e95_12, e95_13, e95_14, e95_15b, e95_15, e95_16, e95_19, e95_20, e95_21, e95_24, e95_25, e95_28, ho, t2, n0, vkk_n, vkk_i, vkk_r, vkk_l, vkk_d, catS_nil, catS_i, catS_r, catS_l, catS_d, Nat.reduceAdd, Nat.reduceLeDiff, Nat.zero_le, Nat.le_refl, Option.bind_some, Option.toList_some, Option.toList_none, List.cons_append, List.nil_append, or_true, true_or, if_true, if_false, Int32.reduceLT, Int32.reduceLE, not_true, not_false_iff, true_and, and_true, false_and, and_false]
      · have n1 := q.resolve_left n0
        simp +decide only [e95_0, e95_1, e95_4, e95_5, e95_6, e95_9, e95_12, e95_13, e95_14, e95_15b, e95_15, e95_16, e95_19, e95_20, e95_21, e95_24, e95_25, e95_28, ho, t2, n0, n1, vkk_n, vkk_i, vkk_r, vkk_l, vkk_d, catS_nil, catS_i, catS_r, catS_l, catS_d, Nat.reduceAdd, Nat.reduceLeDiff, Nat.zero_le, Nat.le_refl, Option.bind_some, Option.toList_some, Option.toList_none, List.cons_append, List.nil_append, or_true, true_or, if_true, if_false, Int32.reduceLT, Int32.reduceLE, not_true, not_false_iff, true_and, and_true, false_and, and_false]
    · by_cases n0 : n < 0
      · simp +decide only [e139_0, e139_1, e139_4, e139_5, e139_6, e139_9, e139_12, e139_13, e139_14, e139_15b, e139_15, e139_16, e139_19, e139_20, e139_21, e139_24, e139_25, e139_28, hm, t3, n0, vkk_n, vkk_i, vkk_r, vkk_l, vkk_d, catS_nil, catS_i, catS_r, catS_l, catS_d, Nat.reduceAdd, Nat.reduceLeDiff, Nat.zero_le, Nat.le_refl, Option.bind_some, Option.toList_some, Option.toList_none, List.cons_append, List.nil_append, or_true, true_or, if_true, if_false, Int32.reduceLT, Int32.reduceLE, not_true, not_false_iff, true_and, and_true, false_and, and_false]
      · have n1 := q.resolve_left n0
        simp +decide only [e139_0, e139_1, e139_4, e139_5, e139_6, e139_9, e139_12, e139_13, e139_14, e139_15b, e139_15, e139_16, e139_19, e139_20, e139_21, e139_24, e139_25, e139_28, hm, t3, n0, n1, vkk_n, vkk_i, vkk_r, vkk_l, vkk_d, catS_nil, catS_i, catS_r, catS_l, catS_d, Nat.reduceAdd, Nat.reduceLeDiff, Nat.zero_le, Nat.le_refl, Option.bind_some, Option.toList_some, Option.toList_none, List.cons_append, List.nil_append, or_true, true_or, if_true, if_false, Int32.reduceLT, Int32.reduceLE, not_true, not_false_iff, true_and, and_true, false_and, and_false]
  by_cases n0 : n < 0
  · exact bad (Or.inl n0)
  · by_cases n1 : n ≤ nI t
    · obtain ⟨j, hj, rfl⟩ := vnat (n := t + 1) (by omega) n0 ((nI_lti (by omega)).mp n1)
      have e : nI t - nI j = nI (t - j) := pk_sub (by omega)
      refine ⟨nI (t - j), pI h g 1 (nI (t - j)), pI (pI h g 1 (nI (t - j))) (g + 266) 2 (nI (t - j)), ?_, ?_, ?_, rfl⟩
      · simp +decide only [e95_0, e95_1, e95_4, e95_5, e95_6, e95_9, e95_12, e95_13, e95_14, e95_15b, e95_15, e95_16, e95_19, e95_20, e95_21, e95_24, e95_25, e95_28, ho, t2, n0, n1, e, gI_pI, ob_pI, (eq_true (isI_ob ho rfl : isI h g 1)), vkk_n, vkk_i, vkk_r, vkk_l, vkk_d, catS_nil, catS_i, catS_r, catS_l, catS_d, Nat.reduceAdd, Nat.reduceLeDiff, Nat.zero_le, Nat.le_refl, Option.bind_some, Option.toList_some, Option.toList_none, List.cons_append, List.nil_append, or_true, true_or, if_true, if_false, Int32.reduceLT, Int32.reduceLE, not_true, not_false_iff, true_and, and_true, false_and, and_false]
      · simp +decide only [e139_0, e139_1, e139_4, e139_5, e139_6, e139_9, e139_12, e139_13, e139_14, e139_15b, e139_15, e139_16, e139_19, e139_20, e139_21, e139_24, e139_25, e139_28, hm, t3, n0, n1, e, gI_pI, ob_pI, isI_pI, (eq_true (isI_ob hm rfl : isI h (g + 266) 2)), Nat.add_assoc, Nat.reduceAdd, Nat.add_left_cancel_iff, Nat.reduceEqDiff, Nat.add_eq_left, Nat.left_eq_add, vkk_n, vkk_i, vkk_r, vkk_l, vkk_d, catS_nil, catS_i, catS_r, catS_l, catS_d, Nat.reduceAdd, Nat.reduceLeDiff, Nat.zero_le, Nat.le_refl, Option.bind_some, Option.toList_some, Option.toList_none, List.cons_append, List.nil_append, or_true, true_or, if_true, if_false, Int32.reduceLT, Int32.reduceLE, not_true, not_false_iff, true_and, and_true, false_and, and_false]
      · have zz : Fr NR (fun a k => (a = g ∧ k = 1) ∨ (a = g + 266 ∧ k = 2)) h (pI (pI h g 1 (nI (t - j))) (g + 266) 2 (nI (t - j))) := (Fr_pI _ _ _ _ (Or.inl ⟨rfl, rfl⟩)).tr (Fr_pI _ _ _ _ (Or.inr ⟨rfl, rfl⟩))
        have rt : RTape (pI (pI h g 1 (nI (t - j))) (g + 266) 2 (nI (t - j))) g := by
          refine ⟨⟨t - j, by omega, ?_, ?_⟩, fun i hi => ?_⟩
          · simp +decide only [gI_pI, isI_pI, (eq_true (isI_ob ho rfl : isI h g 1)), true_and, and_true, if_true, false_and, and_false, if_false, Nat.add_assoc, Nat.reduceAdd, Nat.add_left_cancel_iff, Nat.reduceEqDiff, Nat.add_eq_left, Nat.left_eq_add]
          · simp +decide only [gI_pI, isI_pI, (eq_true (isI_ob hm rfl : isI h (g + 266) 2)), true_and, and_true, if_true]
          · simp only [aI_pI]
            exact t4 i hi
        have cR : ∀ a, NR a → a < g := fun a q => q.elim
        have dF : ∀ a k, ((a = g ∧ k = 1) ∨ (a = g + 266 ∧ k = 2)) → (a = g ∧ k = 1) ∨ (a = g + 266 ∧ k = 2) := fun a k q => q
        have cG : ∀ a, NR a → g ≤ a := fun a q => q.elim
        refine ⟨⟨Sh_fr zz ?_ R.sh, rt, RAns_fr zz ?_ R.ans, RHd_fr zz ?_ R.hd, RMem_fr zz ?_ R.mem, RReg_fr zz ?_ R.reg, RBins_fr zz ?_ ?_ R.bins, RSl_fr (by decide) zz ?_ ?_ R.sl0, RSl_fr (by decide) zz ?_ ?_ R.sl1, RPl_fr zz ?_ ?_ R.pl⟩, RCn_fr zz ?_ ?_ R.cn⟩
        all_goals first | (intro a q; have := cR a q; omega) | (intro a k q; have := dF a k q; omega) | (intro q; have := dF _ _ q; omega) | (intro q; have := cR _ q; omega) | (intro a q; exact cG a q)
    · exact bad (Or.inr n1)
