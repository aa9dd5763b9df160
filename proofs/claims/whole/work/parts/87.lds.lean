/-! load: one cell -/
theorem sx16 (x : Int64) : (x <<< ((64 - 8 * (2 : Int32)).toInt64 &&& 63)) >>> ((64 - 8 * (2 : Int32)).toInt64 &&& 63) = x.toInt16.toInt64 := by
  apply Int64.toBitVec_inj.mp
  rw [show ((64 - 8 * (2 : Int32)).toInt64 &&& 63) = (48 : Int64) by decide, Int64.toBitVec_shiftRight, Int64.toBitVec_shiftLeft]
  rw [show (48 : Int64).toBitVec.smod 64 = 48#64 by decide]
  rw [Int16.toBitVec_toInt64, Int64.toBitVec_toInt16, BitVec.shiftLeft_eq', BitVec.sshiftRight_eq', show (48#64).toNat = 48 from rfl]
  apply BitVec.eq_of_getLsbD_eq
  intro i hi
  rw [BitVec.getLsbD_sshiftRight, BitVec.getLsbD_signExtend]
  simp only [BitVec.getLsbD_shiftLeft, BitVec.getLsbD_setWidth, BitVec.msb_eq_getLsbD_last]
  by_cases h : 48 + i < 64
  · have h2 : i < 16 := by omega
    have a1 : ¬ 64 ≤ i := by omega
    have a2 : ¬ 48 + i < 48 := by omega
    simp [h, h2, hi, a1, a2, BitVec.getElem_signExtend]
  · have h2 : ¬ i < 16 := by omega
    have a1 : ¬ 64 ≤ i := by omega
    simp [h, h2, hi, a1, BitVec.getElem_signExtend]
theorem sx8 (x : Int64) : (x <<< ((64 - 8 * (1 : Int32)).toInt64 &&& 63)) >>> ((64 - 8 * (1 : Int32)).toInt64 &&& 63) = x.toInt8.toInt64 := by
  apply Int64.toBitVec_inj.mp
  rw [show ((64 - 8 * (1 : Int32)).toInt64 &&& 63) = (56 : Int64) by decide, Int64.toBitVec_shiftRight, Int64.toBitVec_shiftLeft]
  rw [show (56 : Int64).toBitVec.smod 64 = 56#64 by decide]
  rw [Int8.toBitVec_toInt64, Int64.toBitVec_toInt8, BitVec.shiftLeft_eq', BitVec.sshiftRight_eq', show (56#64).toNat = 56 from rfl]
  apply BitVec.eq_of_getLsbD_eq
  intro i hi
  rw [BitVec.getLsbD_sshiftRight, BitVec.getLsbD_signExtend]
  simp only [BitVec.getLsbD_shiftLeft, BitVec.getLsbD_setWidth, BitVec.msb_eq_getLsbD_last]
  by_cases h : 56 + i < 64
  · have h2 : i < 8 := by omega
    have a1 : ¬ 64 ≤ i := by omega
    have a2 : ¬ 56 + i < 56 := by omega
    simp [h, h2, hi, a1, a2, BitVec.getElem_signExtend]
  · have h2 : ¬ i < 8 := by omega
    have a1 : ¬ 64 ≤ i := by omega
    simp [h, h2, hi, a1, BitVec.getElem_signExtend]
theorem sx64 (x : Int64) : (x <<< ((64 - 8 * (8 : Int32)).toInt64 &&& 63)) >>> ((64 - 8 * (8 : Int32)).toInt64 &&& 63) = x := by
  apply Int64.toBitVec_inj.mp
  rw [show ((64 - 8 * (8 : Int32)).toInt64 &&& 63) = (0 : Int64) by decide, Int64.toBitVec_shiftRight, Int64.toBitVec_shiftLeft]
  rw [show (0 : Int64).toBitVec.smod 64 = 0#64 by decide, BitVec.shiftLeft_eq', BitVec.sshiftRight_eq', show (0#64).toNat = 0 from rfl]
  simp
def on (k : Nat) : Nat := if k = 8 then 5 else if k = 9 then 5 else k
theorem kOn_on : ∀ k, k < 10 → kOn (nI k) = nI (on k) ∧ on k < 8 := by decide
/-- what the class writes into a row of a cell's bits -/
def ldX (k : Nat) (D : Int64) : Int64 := kExt (nI k) D (nI (nSm k))
def ldV (k : Nat) (D : Int64) : Int64 := if k = 0 then kMade (ldX k D) 0 else ldX k D
theorem kNan_or (x : Int64) (k : Int32) : kNan x k = 0 ∨ kNan x k = 1 := by
  unfold kNan
  (repeat' split) <;> simp
theorem kNan_f {x : Int64} (h : uN x < 4294967296) : (kNan x 6 = 0 ∧ uN x % 2147483648 ≤ 2139095040) ∨ (kNan x 6 = 1 ∧ ¬ uN x % 2147483648 ≤ 2139095040) := by
  unfold kNan
  rw [if_pos rfl]
  have e : uN (x &&& 2147483647) = uN x % 2147483648 := uN_mask x _ (k := 31) (by decide)
  have c : uN 2139095040 = 2139095040 := by decide
  by_cases q : x &&& 2147483647 ≤ 2139095040
  · rw [if_pos q]
    rw [uN_le_iff (by omega) (by omega), e, c] at q
    exact Or.inl ⟨rfl, q⟩
  · rw [if_neg q]
    rw [uN_le_iff (by omega) (by omega), e, c] at q
    exact Or.inr ⟨rfl, q⟩
theorem kNan_d (x : Int64) : (kNan x 7 = 0 ∧ uN x % 9223372036854775808 ≤ 9218868437227405312) ∨ (kNan x 7 = 1 ∧ ¬ uN x % 9223372036854775808 ≤ 9218868437227405312) := by
  unfold kNan
  rw [if_neg (by decide), if_pos rfl]
  have e : uN (x &&& 9223372036854775807) = uN x % 9223372036854775808 := uN_mask x _ (k := 63) (by decide)
  have c : uN 9218868437227405312 = 9218868437227405312 := by decide
  by_cases q : x &&& 9223372036854775807 ≤ 9218868437227405312
  · rw [if_pos q]
    rw [uN_le_iff (by omega) (by omega), e, c] at q
    exact Or.inl ⟨rfl, q⟩
  · rw [if_neg q]
    rw [uN_le_iff (by omega) (by omega), e, c] at q
    exact Or.inr ⟨rfl, q⟩
theorem i16_bk (t : Int16) : t.toInt64.toInt32.toInt16.toInt32.toInt64 = t.toInt64 := by
  apply Int64.toInt_inj.mp
  have h1 := t.toInt_lt
  have h2 := t.le_toInt
  have e1 : t.toInt64.toInt32.toInt = t.toInt := by
    rw [Int64.toInt_toInt32, Int16.toInt_toInt64, Int.bmod_eq_of_le (by omega) (by omega)]
  have e2 : t.toInt64.toInt32.toInt16.toInt = t.toInt := by
    rw [Int32.toInt_toInt16, e1, Int.bmod_eq_of_le (by omega) (by omega)]
  rw [Int32.toInt_toInt64, Int16.toInt_toInt32, e2, Int16.toInt_toInt64]
theorem i8_bk (t : Int8) : t.toInt64.toInt32.toInt8.toInt32.toInt64 = t.toInt64 := by
  apply Int64.toInt_inj.mp
  have h1 := t.toInt_lt
  have h2 := t.le_toInt
  have e1 : t.toInt64.toInt32.toInt = t.toInt := by
    rw [Int64.toInt_toInt32, Int8.toInt_toInt64, Int.bmod_eq_of_le (by omega) (by omega)]
  have e2 : t.toInt64.toInt32.toInt8.toInt = t.toInt := by
    rw [Int32.toInt_toInt8, e1, Int.bmod_eq_of_le (by omega) (by omega)]
  rw [Int32.toInt_toInt64, Int8.toInt_toInt32, e2, Int8.toInt_toInt64]
theorem chr_bk {D : Int64} (h : uN D < 65536) : kMade ((D <<< ((64 - 8 * (2 : Int32)).toInt64 &&& 63)) >>> ((64 - 8 * (2 : Int32)).toInt64 &&& 63)) 2 = D := by
  show ((_ : Int64).toInt32.toUInt32 % 65536).toInt32.toInt64 = D
  rw [← chr_mask]
  apply uN_inj
  have e := sr_mask (D <<< ((64 - 8 * (2 : Int32)).toInt64 &&& 63)) 65535 (64 - 8 * (2 : Int32)) (k := 48) (j := 16) (by decide) (by decide) (by decide)
  rw [e]
  have e2 : uN (sl D (64 - 8 * (2 : Int32))) = _ := sl_g D (64 - 8 * (2 : Int32)) 48 (by decide)
  unfold sl at e2
  rw [e2]
  omega
theorem flg_bk {D : Int64} (h : uN D < 256) : kMade ((D <<< ((64 - 8 * (1 : Int32)).toInt64 &&& 63)) >>> ((64 - 8 * (1 : Int32)).toInt64 &&& 63)) 0 = kMade D 0 := by
  have e := sr_mask (D <<< ((64 - 8 * (1 : Int32)).toInt64 &&& 63)) 255 (64 - 8 * (1 : Int32)) (k := 56) (j := 8) (by decide) (by decide) (by decide)
  have e2 : uN (sl D (64 - 8 * (1 : Int32))) = _ := sl_g D (64 - 8 * (1 : Int32)) 56 (by decide)
  unfold sl at e2
  rw [e2] at e
  have e3 : uN D * 2 ^ 56 % 18446744073709551616 / 2 ^ 56 % 2 ^ 8 = uN D := by omega
  rw [e3] at e
  by_cases q : D = 0
  · subst q
    rfl
  · generalize ((D <<< ((64 - 8 * (1 : Int32)).toInt64 &&& 63)) >>> ((64 - 8 * (1 : Int32)).toInt64 &&& 63)) = S at e ⊢
    have hS : ¬ S = 0 := by
      intro z
      rw [z] at e
      have z0 : uN ((0 : Int64) &&& 255) = 0 := by decide
      rw [z0] at e
      exact q (uN_inj (e.symm.trans (by decide)))
    show (if S = 0 then (0 : Int64) else 1) = (if D = 0 then (0 : Int64) else 1)
    rw [if_neg q, if_neg hS]
set_option maxHeartbeats 4000000 in
theorem c_m_loads (h : VG) (g a k : Nat) (D : Int64) (hs : Sh h g) (hb : Kb h g) (hk : k < 10) (ha : a + nSm k ≤ 256) (hD : mdv (aI h (g + 277)) (gI h (g + 266) 17) a (nSm k) (nSm k) = D) (hu : nSm k ≤ 4 → uN D < 2 ^ (8 * nSm k)) : ∃ h1, ev 211 0 [some (.ref (g + 266)), some (.int (nI a)), some (.int (nI k)), none, none] [] h = some (none, h1) ∧ Fr NR (VF (g + 266)) h h1 ∧ gI h1 (g + 266) 38 = nI (on k) ∧ (kNan (ldX k D) (nI k) = 1 → gI h1 (g + 266) 41 = 1) ∧ (kNan (ldX k D) (nI k) = 0 → Car h1 (g + 266) (nI (on k)) 0 (ldV k D)) := by
  have om : ob h (g + 266) 11 := Mod_0 hs.2.1
  have hi : vp_in (nI k) 10 := vp_in_nI hk (by decide)
  have hc : (nI k).toNatClampNeg = k := nI_clamp (by omega)
  have vs := (hb k hk).1
  have nA := c_m_numberAt h g a (nSm k) hs (nSm_le k hk).2 ha
  rw [hD] at nA
  rw [vSmall_n k hk] at vs
  rcases (show k = 0 ∨ k = 1 ∨ k = 2 ∨ k = 3 ∨ k = 4 ∨ k = 5 ∨ k = 6 ∨ k = 7 ∨ k = 8 ∨ k = 9 by omega) with rfl | rfl | rfl | rfl | rfl | rfl | rfl | rfl | rfl | rfl
  · have vs : aI h (g + 282) 0 = (1 : Int32) := vs
    have nA : ev 203 0 [some (.ref (g + 266)), some (.int (nI a)), some (.int 1), none, none, none] [] h = some (some (.long D), h) := nA
    have hc : ((0 : Int32)).toNatClampNeg = 0 := hc
    have hi : vp_in (0 : Int32) 10 := hi
    obtain ⟨h1, m1, m2, m3⟩ := c_m_made h (g + 266) 0 ((D <<< ((64 - 8 * (1 : Int32)).toInt64 &&& 63)) >>> ((64 - 8 * (1 : Int32)).toInt64 &&& 63)) om (by decide)
    have m1 : ev 178 0 [some (.ref (g + 266)), some (.int 0), some (.long ((D <<< ((64 - 8 * (1 : Int32)).toInt64 &&& 63)) >>> ((64 - 8 * (1 : Int32)).toInt64 &&& 63))), none] [] h = some (none, h1) := m1
    have ev_ : kMade ((D <<< ((64 - 8 * (1 : Int32)).toInt64 &&& 63)) >>> ((64 - 8 * (1 : Int32)).toInt64 &&& 63)) (nI 0) = ldV 0 D := flg_bk (hu (by decide))
    rw [ev_] at m3
    refine ⟨h1, ?_, m2, m3.1, fun q => absurd q (by show ¬ (0 : Int32) = 1; decide), fun _ => m3⟩
    show ev 211 0 [some (.ref (g + 266)), some (.int (nI a)), some (.int 0), none, none] [] h = _
    simp +decide only [e211_0, e211_1, e211_2, e211_3, e211_6, e211_7, e211_8, e211_11, e211_12, e211_13, e211_15, e211_18, e211_19, e211_20, e211_22, e211_24, e211_27, e211_28, e211_30, e211_33, e211_36, e211_37, e211_39, e211_42, e211_43, e211_44, e211_46, e211_48, e211_51, e211_52, e211_54, e211_57, e211_60, e211_61, e211_63, e211_66, e211_67, e211_68, e211_69, e211_72, e211_75, e211_76, e211_77, e211_79, e211_82, e211_83, e211_86, e211_87, e211_88, e211_89, e211_92, e211_93, e211_94, e211_97, e211_100, om, vs, nA, c_m_signed, m1, hi, hc, (Mod_0 hs.2.1 : ob h (g + 266) 11), (rf_g (Mod_31 hs.2.1 : rf h (g + 266) 23 (g + 277)) : gR h (g + 266) 23 = (g + 277)), (rf_is (Mod_31 hs.2.1 : rf h (g + 266) 23 (g + 277)) : isR h (g + 266) 23), (Mod_32 hs.2.1 : arI h (g + 277) 0), (rdI_0 (Mod_32 hs.2.1 : arI h (g + 277) 0) : rdI h (g + 277)), (Mod_33 hs.2.1 : aln h (g + 277) = 256), (rf_g (Mod_46 hs.2.1 : rf h (g + 266) 33 (g + 282)) : gR h (g + 266) 33 = (g + 282)), (rf_is (Mod_46 hs.2.1 : rf h (g + 266) 33 (g + 282)) : isR h (g + 266) 33), (Mod_47 hs.2.1 : arI h (g + 282) 0), (rdI_0 (Mod_47 hs.2.1 : arI h (g + 282) 0) : rdI h (g + 282)), (Mod_48 hs.2.1 : aln h (g + 282) = 10), (rf_g (Mod_49 hs.2.1 : rf h (g + 266) 34 (g + 283)) : gR h (g + 266) 34 = (g + 283)), (rf_is (Mod_49 hs.2.1 : rf h (g + 266) 34 (g + 283)) : isR h (g + 266) 34), (Mod_50 hs.2.1 : arI h (g + 283) 0), (rdI_0 (Mod_50 hs.2.1 : arI h (g + 283) 0) : rdI h (g + 283)), (Mod_51 hs.2.1 : aln h (g + 283) = 10), vkk_n, vkk_i, vkk_r, vkk_l, vkk_d, catS_nil, catS_i, catS_r, catS_l, catS_d, Nat.reduceAdd, Nat.reduceLeDiff, Nat.zero_le, Nat.le_refl, Option.bind_some, Option.toList_some, Option.toList_none, List.cons_append, List.nil_append, or_true, true_or, if_true, if_false, Int32.reduceLT, Int32.reduceLE, not_true, not_false_iff, true_and, and_true, false_and, and_false]
  · have vs : aI h (g + 282) 1 = (1 : Int32) := vs
    have nA : ev 203 0 [some (.ref (g + 266)), some (.int (nI a)), some (.int 1), none, none, none] [] h = some (some (.long D), h) := nA
    have hc : ((1 : Int32)).toNatClampNeg = 1 := hc
    have hi : vp_in (1 : Int32) 10 := hi
    obtain ⟨h1, m1, m2, m3⟩ := c_m_made h (g + 266) 1 ((D <<< ((64 - 8 * (1 : Int32)).toInt64 &&& 63)) >>> ((64 - 8 * (1 : Int32)).toInt64 &&& 63)) om (by decide)
    have m1 : ev 178 0 [some (.ref (g + 266)), some (.int 1), some (.long ((D <<< ((64 - 8 * (1 : Int32)).toInt64 &&& 63)) >>> ((64 - 8 * (1 : Int32)).toInt64 &&& 63))), none] [] h = some (none, h1) := m1
    have ev_ : kMade ((D <<< ((64 - 8 * (1 : Int32)).toInt64 &&& 63)) >>> ((64 - 8 * (1 : Int32)).toInt64 &&& 63)) (nI 1) = ldV 1 D := (congrArg (fun x => kMade x 1) (sx8 D)).trans ((i8_bk D.toInt8).trans (sx8 D).symm)
    rw [ev_] at m3
    refine ⟨h1, ?_, m2, m3.1, fun q => absurd q (by show ¬ (0 : Int32) = 1; decide), fun _ => m3⟩
    show ev 211 0 [some (.ref (g + 266)), some (.int (nI a)), some (.int 1), none, none] [] h = _
    simp +decide only [e211_0, e211_1, e211_2, e211_3, e211_6, e211_7, e211_8, e211_11, e211_12, e211_13, e211_15, e211_18, e211_19, e211_20, e211_22, e211_24, e211_27, e211_28, e211_30, e211_33, e211_36, e211_37, e211_39, e211_42, e211_43, e211_44, e211_46, e211_48, e211_51, e211_52, e211_54, e211_57, e211_60, e211_61, e211_63, e211_66, e211_67, e211_68, e211_69, e211_72, e211_75, e211_76, e211_77, e211_79, e211_82, e211_83, e211_86, e211_87, e211_88, e211_89, e211_92, e211_93, e211_94, e211_97, e211_100, om, vs, nA, c_m_signed, m1, hi, hc, (Mod_0 hs.2.1 : ob h (g + 266) 11), (rf_g (Mod_31 hs.2.1 : rf h (g + 266) 23 (g + 277)) : gR h (g + 266) 23 = (g + 277)), (rf_is (Mod_31 hs.2.1 : rf h (g + 266) 23 (g + 277)) : isR h (g + 266) 23), (Mod_32 hs.2.1 : arI h (g + 277) 0), (rdI_0 (Mod_32 hs.2.1 : arI h (g + 277) 0) : rdI h (g + 277)), (Mod_33 hs.2.1 : aln h (g + 277) = 256), (rf_g (Mod_46 hs.2.1 : rf h (g + 266) 33 (g + 282)) : gR h (g + 266) 33 = (g + 282)), (rf_is (Mod_46 hs.2.1 : rf h (g + 266) 33 (g + 282)) : isR h (g + 266) 33), (Mod_47 hs.2.1 : arI h (g + 282) 0), (rdI_0 (Mod_47 hs.2.1 : arI h (g + 282) 0) : rdI h (g + 282)), (Mod_48 hs.2.1 : aln h (g + 282) = 10), (rf_g (Mod_49 hs.2.1 : rf h (g + 266) 34 (g + 283)) : gR h (g + 266) 34 = (g + 283)), (rf_is (Mod_49 hs.2.1 : rf h (g + 266) 34 (g + 283)) : isR h (g + 266) 34), (Mod_50 hs.2.1 : arI h (g + 283) 0), (rdI_0 (Mod_50 hs.2.1 : arI h (g + 283) 0) : rdI h (g + 283)), (Mod_51 hs.2.1 : aln h (g + 283) = 10), vkk_n, vkk_i, vkk_r, vkk_l, vkk_d, catS_nil, catS_i, catS_r, catS_l, catS_d, Nat.reduceAdd, Nat.reduceLeDiff, Nat.zero_le, Nat.le_refl, Option.bind_some, Option.toList_some, Option.toList_none, List.cons_append, List.nil_append, or_true, true_or, if_true, if_false, Int32.reduceLT, Int32.reduceLE, not_true, not_false_iff, true_and, and_true, false_and, and_false]
  · have vs : aI h (g + 282) 2 = (2 : Int32) := vs
    have nA : ev 203 0 [some (.ref (g + 266)), some (.int (nI a)), some (.int 2), none, none, none] [] h = some (some (.long D), h) := nA
    have hc : ((2 : Int32)).toNatClampNeg = 2 := hc
    have hi : vp_in (2 : Int32) 10 := hi
    obtain ⟨h1, m1, m2, m3⟩ := c_m_made h (g + 266) 2 ((D <<< ((64 - 8 * (2 : Int32)).toInt64 &&& 63)) >>> ((64 - 8 * (2 : Int32)).toInt64 &&& 63)) om (by decide)
    have m1 : ev 178 0 [some (.ref (g + 266)), some (.int 2), some (.long ((D <<< ((64 - 8 * (2 : Int32)).toInt64 &&& 63)) >>> ((64 - 8 * (2 : Int32)).toInt64 &&& 63))), none] [] h = some (none, h1) := m1
    have ev_ : kMade ((D <<< ((64 - 8 * (2 : Int32)).toInt64 &&& 63)) >>> ((64 - 8 * (2 : Int32)).toInt64 &&& 63)) (nI 2) = ldV 2 D := chr_bk (hu (by decide))
    rw [ev_] at m3
    refine ⟨h1, ?_, m2, m3.1, fun q => absurd q (by show ¬ (0 : Int32) = 1; decide), fun _ => m3⟩
    show ev 211 0 [some (.ref (g + 266)), some (.int (nI a)), some (.int 2), none, none] [] h = _
    simp +decide only [e211_0, e211_1, e211_2, e211_3, e211_6, e211_7, e211_8, e211_11, e211_12, e211_13, e211_15, e211_18, e211_19, e211_20, e211_22, e211_24, e211_27, e211_28, e211_30, e211_33, e211_36, e211_37, e211_39, e211_42, e211_43, e211_44, e211_46, e211_48, e211_51, e211_52, e211_54, e211_57, e211_60, e211_61, e211_63, e211_66, e211_67, e211_68, e211_69, e211_72, e211_75, e211_76, e211_77, e211_79, e211_82, e211_83, e211_86, e211_87, e211_88, e211_89, e211_92, e211_93, e211_94, e211_97, e211_100, om, vs, nA, c_m_signed, m1, hi, hc, (Mod_0 hs.2.1 : ob h (g + 266) 11), (rf_g (Mod_31 hs.2.1 : rf h (g + 266) 23 (g + 277)) : gR h (g + 266) 23 = (g + 277)), (rf_is (Mod_31 hs.2.1 : rf h (g + 266) 23 (g + 277)) : isR h (g + 266) 23), (Mod_32 hs.2.1 : arI h (g + 277) 0), (rdI_0 (Mod_32 hs.2.1 : arI h (g + 277) 0) : rdI h (g + 277)), (Mod_33 hs.2.1 : aln h (g + 277) = 256), (rf_g (Mod_46 hs.2.1 : rf h (g + 266) 33 (g + 282)) : gR h (g + 266) 33 = (g + 282)), (rf_is (Mod_46 hs.2.1 : rf h (g + 266) 33 (g + 282)) : isR h (g + 266) 33), (Mod_47 hs.2.1 : arI h (g + 282) 0), (rdI_0 (Mod_47 hs.2.1 : arI h (g + 282) 0) : rdI h (g + 282)), (Mod_48 hs.2.1 : aln h (g + 282) = 10), (rf_g (Mod_49 hs.2.1 : rf h (g + 266) 34 (g + 283)) : gR h (g + 266) 34 = (g + 283)), (rf_is (Mod_49 hs.2.1 : rf h (g + 266) 34 (g + 283)) : isR h (g + 266) 34), (Mod_50 hs.2.1 : arI h (g + 283) 0), (rdI_0 (Mod_50 hs.2.1 : arI h (g + 283) 0) : rdI h (g + 283)), (Mod_51 hs.2.1 : aln h (g + 283) = 10), vkk_n, vkk_i, vkk_r, vkk_l, vkk_d, catS_nil, catS_i, catS_r, catS_l, catS_d, Nat.reduceAdd, Nat.reduceLeDiff, Nat.zero_le, Nat.le_refl, Option.bind_some, Option.toList_some, Option.toList_none, List.cons_append, List.nil_append, or_true, true_or, if_true, if_false, Int32.reduceLT, Int32.reduceLE, not_true, not_false_iff, true_and, and_true, false_and, and_false]
  · have vs : aI h (g + 282) 3 = (2 : Int32) := vs
    have nA : ev 203 0 [some (.ref (g + 266)), some (.int (nI a)), some (.int 2), none, none, none] [] h = some (some (.long D), h) := nA
    have hc : ((3 : Int32)).toNatClampNeg = 3 := hc
    have hi : vp_in (3 : Int32) 10 := hi
    obtain ⟨h1, m1, m2, m3⟩ := c_m_made h (g + 266) 3 ((D <<< ((64 - 8 * (2 : Int32)).toInt64 &&& 63)) >>> ((64 - 8 * (2 : Int32)).toInt64 &&& 63)) om (by decide)
    have m1 : ev 178 0 [some (.ref (g + 266)), some (.int 3), some (.long ((D <<< ((64 - 8 * (2 : Int32)).toInt64 &&& 63)) >>> ((64 - 8 * (2 : Int32)).toInt64 &&& 63))), none] [] h = some (none, h1) := m1
    have ev_ : kMade ((D <<< ((64 - 8 * (2 : Int32)).toInt64 &&& 63)) >>> ((64 - 8 * (2 : Int32)).toInt64 &&& 63)) (nI 3) = ldV 3 D := (congrArg (fun x => kMade x 3) (sx16 D)).trans ((i16_bk D.toInt16).trans (sx16 D).symm)
    rw [ev_] at m3
    refine ⟨h1, ?_, m2, m3.1, fun q => absurd q (by show ¬ (0 : Int32) = 1; decide), fun _ => m3⟩
    show ev 211 0 [some (.ref (g + 266)), some (.int (nI a)), some (.int 3), none, none] [] h = _
    simp +decide only [e211_0, e211_1, e211_2, e211_3, e211_6, e211_7, e211_8, e211_11, e211_12, e211_13, e211_15, e211_18, e211_19, e211_20, e211_22, e211_24, e211_27, e211_28, e211_30, e211_33, e211_36, e211_37, e211_39, e211_42, e211_43, e211_44, e211_46, e211_48, e211_51, e211_52, e211_54, e211_57, e211_60, e211_61, e211_63, e211_66, e211_67, e211_68, e211_69, e211_72, e211_75, e211_76, e211_77, e211_79, e211_82, e211_83, e211_86, e211_87, e211_88, e211_89, e211_92, e211_93, e211_94, e211_97, e211_100, om, vs, nA, c_m_signed, m1, hi, hc, (Mod_0 hs.2.1 : ob h (g + 266) 11), (rf_g (Mod_31 hs.2.1 : rf h (g + 266) 23 (g + 277)) : gR h (g + 266) 23 = (g + 277)), (rf_is (Mod_31 hs.2.1 : rf h (g + 266) 23 (g + 277)) : isR h (g + 266) 23), (Mod_32 hs.2.1 : arI h (g + 277) 0), (rdI_0 (Mod_32 hs.2.1 : arI h (g + 277) 0) : rdI h (g + 277)), (Mod_33 hs.2.1 : aln h (g + 277) = 256), (rf_g (Mod_46 hs.2.1 : rf h (g + 266) 33 (g + 282)) : gR h (g + 266) 33 = (g + 282)), (rf_is (Mod_46 hs.2.1 : rf h (g + 266) 33 (g + 282)) : isR h (g + 266) 33), (Mod_47 hs.2.1 : arI h (g + 282) 0), (rdI_0 (Mod_47 hs.2.1 : arI h (g + 282) 0) : rdI h (g + 282)), (Mod_48 hs.2.1 : aln h (g + 282) = 10), (rf_g (Mod_49 hs.2.1 : rf h (g + 266) 34 (g + 283)) : gR h (g + 266) 34 = (g + 283)), (rf_is (Mod_49 hs.2.1 : rf h (g + 266) 34 (g + 283)) : isR h (g + 266) 34), (Mod_50 hs.2.1 : arI h (g + 283) 0), (rdI_0 (Mod_50 hs.2.1 : arI h (g + 283) 0) : rdI h (g + 283)), (Mod_51 hs.2.1 : aln h (g + 283) = 10), vkk_n, vkk_i, vkk_r, vkk_l, vkk_d, catS_nil, catS_i, catS_r, catS_l, catS_d, Nat.reduceAdd, Nat.reduceLeDiff, Nat.zero_le, Nat.le_refl, Option.bind_some, Option.toList_some, Option.toList_none, List.cons_append, List.nil_append, or_true, true_or, if_true, if_false, Int32.reduceLT, Int32.reduceLE, not_true, not_false_iff, true_and, and_true, false_and, and_false]
  · have vs : aI h (g + 282) 4 = (4 : Int32) := vs
    have nA : ev 203 0 [some (.ref (g + 266)), some (.int (nI a)), some (.int 4), none, none, none] [] h = some (some (.long D), h) := nA
    have hc : ((4 : Int32)).toNatClampNeg = 4 := hc
    have hi : vp_in (4 : Int32) 10 := hi
    obtain ⟨h1, m1, m2, m3⟩ := c_m_made h (g + 266) 4 ((D <<< ((64 - 8 * (4 : Int32)).toInt64 &&& 63)) >>> ((64 - 8 * (4 : Int32)).toInt64 &&& 63)) om (by decide)
    have m1 : ev 178 0 [some (.ref (g + 266)), some (.int 4), some (.long ((D <<< ((64 - 8 * (4 : Int32)).toInt64 &&& 63)) >>> ((64 - 8 * (4 : Int32)).toInt64 &&& 63))), none] [] h = some (none, h1) := m1
    have ev_ : kMade ((D <<< ((64 - 8 * (4 : Int32)).toInt64 &&& 63)) >>> ((64 - 8 * (4 : Int32)).toInt64 &&& 63)) (nI 4) = ldV 4 D := (congrArg (fun x => kMade x 4) (sx32 D)).trans ((congrArg Int32.toInt64 (Int32.toInt32_toInt64 D.toInt32)).trans (sx32 D).symm)
    rw [ev_] at m3
    refine ⟨h1, ?_, m2, m3.1, fun q => absurd q (by show ¬ (0 : Int32) = 1; decide), fun _ => m3⟩
    show ev 211 0 [some (.ref (g + 266)), some (.int (nI a)), some (.int 4), none, none] [] h = _
    simp +decide only [e211_0, e211_1, e211_2, e211_3, e211_6, e211_7, e211_8, e211_11, e211_12, e211_13, e211_15, e211_18, e211_19, e211_20, e211_22, e211_24, e211_27, e211_28, e211_30, e211_33, e211_36, e211_37, e211_39, e211_42, e211_43, e211_44, e211_46, e211_48, e211_51, e211_52, e211_54, e211_57, e211_60, e211_61, e211_63, e211_66, e211_67, e211_68, e211_69, e211_72, e211_75, e211_76, e211_77, e211_79, e211_82, e211_83, e211_86, e211_87, e211_88, e211_89, e211_92, e211_93, e211_94, e211_97, e211_100, om, vs, nA, c_m_signed, m1, hi, hc, (Mod_0 hs.2.1 : ob h (g + 266) 11), (rf_g (Mod_31 hs.2.1 : rf h (g + 266) 23 (g + 277)) : gR h (g + 266) 23 = (g + 277)), (rf_is (Mod_31 hs.2.1 : rf h (g + 266) 23 (g + 277)) : isR h (g + 266) 23), (Mod_32 hs.2.1 : arI h (g + 277) 0), (rdI_0 (Mod_32 hs.2.1 : arI h (g + 277) 0) : rdI h (g + 277)), (Mod_33 hs.2.1 : aln h (g + 277) = 256), (rf_g (Mod_46 hs.2.1 : rf h (g + 266) 33 (g + 282)) : gR h (g + 266) 33 = (g + 282)), (rf_is (Mod_46 hs.2.1 : rf h (g + 266) 33 (g + 282)) : isR h (g + 266) 33), (Mod_47 hs.2.1 : arI h (g + 282) 0), (rdI_0 (Mod_47 hs.2.1 : arI h (g + 282) 0) : rdI h (g + 282)), (Mod_48 hs.2.1 : aln h (g + 282) = 10), (rf_g (Mod_49 hs.2.1 : rf h (g + 266) 34 (g + 283)) : gR h (g + 266) 34 = (g + 283)), (rf_is (Mod_49 hs.2.1 : rf h (g + 266) 34 (g + 283)) : isR h (g + 266) 34), (Mod_50 hs.2.1 : arI h (g + 283) 0), (rdI_0 (Mod_50 hs.2.1 : arI h (g + 283) 0) : rdI h (g + 283)), (Mod_51 hs.2.1 : aln h (g + 283) = 10), vkk_n, vkk_i, vkk_r, vkk_l, vkk_d, catS_nil, catS_i, catS_r, catS_l, catS_d, Nat.reduceAdd, Nat.reduceLeDiff, Nat.zero_le, Nat.le_refl, Option.bind_some, Option.toList_some, Option.toList_none, List.cons_append, List.nil_append, or_true, true_or, if_true, if_false, Int32.reduceLT, Int32.reduceLE, not_true, not_false_iff, true_and, and_true, false_and, and_false]
  · have vs : aI h (g + 282) 5 = (4 : Int32) := vs
    have nA : ev 203 0 [some (.ref (g + 266)), some (.int (nI a)), some (.int 4), none, none, none] [] h = some (some (.long D), h) := nA
    have hc : ((5 : Int32)).toNatClampNeg = 5 := hc
    have hi : vp_in (5 : Int32) 10 := hi
    obtain ⟨h1, m1, m2, m3⟩ := c_m_made h (g + 266) 5 ((D <<< ((64 - 8 * (4 : Int32)).toInt64 &&& 63)) >>> ((64 - 8 * (4 : Int32)).toInt64 &&& 63)) om (by decide)
    have m1 : ev 178 0 [some (.ref (g + 266)), some (.int 5), some (.long ((D <<< ((64 - 8 * (4 : Int32)).toInt64 &&& 63)) >>> ((64 - 8 * (4 : Int32)).toInt64 &&& 63))), none] [] h = some (none, h1) := m1
    have ev_ : kMade ((D <<< ((64 - 8 * (4 : Int32)).toInt64 &&& 63)) >>> ((64 - 8 * (4 : Int32)).toInt64 &&& 63)) (nI 5) = ldV 5 D := rfl
    rw [ev_] at m3
    refine ⟨h1, ?_, m2, m3.1, fun q => absurd q (by show ¬ (0 : Int32) = 1; decide), fun _ => m3⟩
    show ev 211 0 [some (.ref (g + 266)), some (.int (nI a)), some (.int 5), none, none] [] h = _
    simp +decide only [e211_0, e211_1, e211_2, e211_3, e211_6, e211_7, e211_8, e211_11, e211_12, e211_13, e211_15, e211_18, e211_19, e211_20, e211_22, e211_24, e211_27, e211_28, e211_30, e211_33, e211_36, e211_37, e211_39, e211_42, e211_43, e211_44, e211_46, e211_48, e211_51, e211_52, e211_54, e211_57, e211_60, e211_61, e211_63, e211_66, e211_67, e211_68, e211_69, e211_72, e211_75, e211_76, e211_77, e211_79, e211_82, e211_83, e211_86, e211_87, e211_88, e211_89, e211_92, e211_93, e211_94, e211_97, e211_100, om, vs, nA, c_m_signed, m1, hi, hc, (Mod_0 hs.2.1 : ob h (g + 266) 11), (rf_g (Mod_31 hs.2.1 : rf h (g + 266) 23 (g + 277)) : gR h (g + 266) 23 = (g + 277)), (rf_is (Mod_31 hs.2.1 : rf h (g + 266) 23 (g + 277)) : isR h (g + 266) 23), (Mod_32 hs.2.1 : arI h (g + 277) 0), (rdI_0 (Mod_32 hs.2.1 : arI h (g + 277) 0) : rdI h (g + 277)), (Mod_33 hs.2.1 : aln h (g + 277) = 256), (rf_g (Mod_46 hs.2.1 : rf h (g + 266) 33 (g + 282)) : gR h (g + 266) 33 = (g + 282)), (rf_is (Mod_46 hs.2.1 : rf h (g + 266) 33 (g + 282)) : isR h (g + 266) 33), (Mod_47 hs.2.1 : arI h (g + 282) 0), (rdI_0 (Mod_47 hs.2.1 : arI h (g + 282) 0) : rdI h (g + 282)), (Mod_48 hs.2.1 : aln h (g + 282) = 10), (rf_g (Mod_49 hs.2.1 : rf h (g + 266) 34 (g + 283)) : gR h (g + 266) 34 = (g + 283)), (rf_is (Mod_49 hs.2.1 : rf h (g + 266) 34 (g + 283)) : isR h (g + 266) 34), (Mod_50 hs.2.1 : arI h (g + 283) 0), (rdI_0 (Mod_50 hs.2.1 : arI h (g + 283) 0) : rdI h (g + 283)), (Mod_51 hs.2.1 : aln h (g + 283) = 10), vkk_n, vkk_i, vkk_r, vkk_l, vkk_d, catS_nil, catS_i, catS_r, catS_l, catS_d, Nat.reduceAdd, Nat.reduceLeDiff, Nat.zero_le, Nat.le_refl, Option.bind_some, Option.toList_some, Option.toList_none, List.cons_append, List.nil_append, or_true, true_or, if_true, if_false, Int32.reduceLT, Int32.reduceLE, not_true, not_false_iff, true_and, and_true, false_and, and_false]
  · have vs : aI h (g + 282) 6 = (4 : Int32) := vs
    have nA : ev 203 0 [some (.ref (g + 266)), some (.int (nI a)), some (.int 4), none, none, none] [] h = some (some (.long D), h) := nA
    have hc : ((6 : Int32)).toNatClampNeg = 6 := hc
    have hi : vp_in (6 : Int32) 10 := hi
    have hu : uN D < 4294967296 := hu (by decide)
    have mo := c_madeOf32 h (g + 266) D om hu
    have eX : ldX 6 D = D := rfl
    have eV : ldV 6 D = D := rfl
    obtain ⟨z, hz⟩ : ∃ z, z = (if (uN D / 8388608 % 256) = 255 ∧ ¬ (uN D % 8388608) = 0 then (1 : Int32) else 0) := ⟨_, rfl⟩
    obtain ⟨d, hd⟩ : ∃ d, d = (sgD (decide (2147483648 ≤ uN D)) (mvD 23 255 150 (uN D / 8388608 % 256) (uN D % 8388608))) := ⟨_, rfl⟩
    rw [← hz, ← hd] at mo
    refine ⟨pI (pD (pI h (g + 266) 41 z) (g + 266) 40 d) (g + 266) 38 6, ?_, ?_, ?_, ?_, ?_⟩
    · show ev 211 0 [some (.ref (g + 266)), some (.int (nI a)), some (.int 6), none, none] [] h = _
      simp +decide only [e211_0, e211_1, e211_2, e211_3, e211_6, e211_7, e211_8, e211_11, e211_12, e211_13, e211_15, e211_18, e211_19, e211_20, e211_22, e211_24, e211_27, e211_28, e211_30, e211_33, e211_36, e211_37, e211_39, e211_42, e211_43, e211_44, e211_46, e211_48, e211_51, e211_52, e211_54, e211_57, e211_60, e211_61, e211_63, e211_66, e211_67, e211_68, e211_69, e211_72, e211_75, e211_76, e211_77, e211_79, e211_82, e211_83, e211_86, e211_87, e211_88, e211_89, e211_92, e211_93, e211_94, e211_97, e211_100, om, vs, nA, mo, hi, hc, (Mod_0 hs.2.1 : ob h (g + 266) 11), (rf_g (Mod_31 hs.2.1 : rf h (g + 266) 23 (g + 277)) : gR h (g + 266) 23 = (g + 277)), (rf_is (Mod_31 hs.2.1 : rf h (g + 266) 23 (g + 277)) : isR h (g + 266) 23), (Mod_32 hs.2.1 : arI h (g + 277) 0), (rdI_0 (Mod_32 hs.2.1 : arI h (g + 277) 0) : rdI h (g + 277)), (Mod_33 hs.2.1 : aln h (g + 277) = 256), (rf_g (Mod_46 hs.2.1 : rf h (g + 266) 33 (g + 282)) : gR h (g + 266) 33 = (g + 282)), (rf_is (Mod_46 hs.2.1 : rf h (g + 266) 33 (g + 282)) : isR h (g + 266) 33), (Mod_47 hs.2.1 : arI h (g + 282) 0), (rdI_0 (Mod_47 hs.2.1 : arI h (g + 282) 0) : rdI h (g + 282)), (Mod_48 hs.2.1 : aln h (g + 282) = 10), (rf_g (Mod_49 hs.2.1 : rf h (g + 266) 34 (g + 283)) : gR h (g + 266) 34 = (g + 283)), (rf_is (Mod_49 hs.2.1 : rf h (g + 266) 34 (g + 283)) : isR h (g + 266) 34), (Mod_50 hs.2.1 : arI h (g + 283) 0), (rdI_0 (Mod_50 hs.2.1 : arI h (g + 283) 0) : rdI h (g + 283)), (Mod_51 hs.2.1 : aln h (g + 283) = 10), ob_pI, rf_pI, isR_pI, isI_pI, isL_pI, arI_pI, arL_pI, arR_pI, arD_pI, aln_pI, rdI_pI, rdB_pI, rdR_pI, aR_pI, pI_2, gI_pI, gL_pI, gD_pI, gR_pI, aI_pI, aL_pI, aD_pI, ob_pL, rf_pL, isR_pL, isI_pL, isL_pL, arI_pL, arL_pL, arR_pL, arD_pL, aln_pL, rdI_pL, rdB_pL, rdR_pL, aR_pL, pL_2, gI_pL, gL_pL, gD_pL, gR_pL, aI_pL, aL_pL, aD_pL, ob_pD, rf_pD, isR_pD, isI_pD, isL_pD, arI_pD, arL_pD, arR_pD, arD_pD, aln_pD, rdI_pD, rdB_pD, rdR_pD, aR_pD, pD_2, gI_pD, gL_pD, gD_pD, gR_pD, aI_pD, aL_pD, aD_pD, ob_wI, rf_wI, isR_wI, isI_wI, isL_wI, arI_wI, arL_wI, arR_wI, arD_wI, aln_wI, rdI_wI, rdB_wI, rdR_wI, aR_wI, wI_2, gI_wI, gL_wI, gD_wI, gR_wI, aL_wI, aD_wI, aI_wI_ne, ob_wL, rf_wL, isR_wL, isI_wL, isL_wL, arI_wL, arL_wL, arR_wL, arD_wL, aln_wL, rdI_wL, rdB_wL, rdR_wL, aR_wL, wL_2, gI_wL, gL_wL, gD_wL, gR_wL, aI_wL, aD_wL, aL_wL_ne, ob_wD, rf_wD, isR_wD, isI_wD, isL_wD, arI_wD, arL_wD, arR_wD, arD_wD, aln_wD, rdI_wD, rdB_wD, rdR_wD, aR_wD, wD_2, gI_wD, gL_wD, gD_wD, gR_wD, aI_wD, aL_wD, aD_wD_ne, ob_bI, rf_bI, isR_bI, isI_bI, isL_bI, arI_bI, arL_bI, arR_bI, arD_bI, aln_bI, rdI_bI, rdB_bI, rdR_bI, aR_bI, bI_2, gI_bI, gL_bI, gD_bI, gR_bI, aL_bI, aD_bI, aI_bI_ne, ob_bL, rf_bL, isR_bL, isI_bL, isL_bL, arI_bL, arL_bL, arR_bL, arD_bL, aln_bL, rdI_bL, rdB_bL, rdR_bL, aR_bL, bL_2, gI_bL, gL_bL, gD_bL, gR_bL, aI_bL, aD_bL, aL_bL_ne, gI_pI, gL_pL, gD_pD, isI_pI, isL_pI, isD_pI, isI_pL, isL_pL, isD_pL, isI_pD, isL_pD, isD_pD, vkk_n, vkk_i, vkk_r, vkk_l, vkk_d, catS_nil, catS_i, catS_r, catS_l, catS_d, Nat.reduceAdd, Nat.reduceLeDiff, Nat.zero_le, Nat.le_refl, Option.bind_some, Option.toList_some, Option.toList_none, List.cons_append, List.nil_append, or_true, true_or, if_true, if_false, Int32.reduceLT, Int32.reduceLE, not_true, not_false_iff, true_and, and_true, false_and, and_false]
    · exact ((Fr_pI _ _ _ _ (VF_41 _)).tr (Fr_pD _ _ _ _ (VF_40 _))).tr (Fr_pI _ _ _ _ (VF_38 _))
    · simp +decide only [gI_pI, gL_pL, gD_pD, gI_pL, gI_pD, gL_pI, gL_pD, gD_pI, gD_pL, isI_pI, isI_pL, isI_pD, isL_pI, isL_pL, isL_pD, isD_pI, isD_pL, isD_pD, ob_pI, ob_pL, ob_pD, (eq_true (isI_ob om rfl : isI h (g + 266) 38)), (eq_true (isI_ob om rfl : isI h (g + 266) 41)), (eq_true (isL_ob om rfl : isL h (g + 266) 39)), (eq_true (isD_ob om rfl : isD h (g + 266) 40)), true_and, and_true, false_and, and_false, if_true, if_false]
      try rfl
    · intro q
      rw [eX] at q
      have q : kNan D 6 = 1 := q
      rcases kNan_f hu with ⟨q1, q2⟩ | ⟨q1, q2⟩
      · exact absurd (q1.symm.trans q) (by decide)
      · simp +decide only [gI_pI, gL_pL, gD_pD, gI_pL, gI_pD, gL_pI, gL_pD, gD_pI, gD_pL, isI_pI, isI_pL, isI_pD, isL_pI, isL_pL, isL_pD, isD_pI, isD_pL, isD_pD, ob_pI, ob_pL, ob_pD, (eq_true (isI_ob om rfl : isI h (g + 266) 38)), (eq_true (isI_ob om rfl : isI h (g + 266) 41)), (eq_true (isL_ob om rfl : isL h (g + 266) 39)), (eq_true (isD_ob om rfl : isD h (g + 266) 40)), true_and, and_true, false_and, and_false, if_true, if_false]
        rw [hz, if_pos (by have := uN_lt D; omega)]
    · intro q
      rw [eX] at q
      have q : kNan D 6 = 0 := q
      rcases kNan_f hu with ⟨q1, q2⟩ | ⟨q1, q2⟩
      case inr => exact absurd (q1.symm.trans q) (by decide)
      have ok : fOk D := n_fOk hu q2
      have z0 : z = 0 := by rw [hz, if_neg (by have := uN_lt D; omega)]
      refine ⟨?_, ?_, ?_⟩
      · simp +decide only [gI_pI, gL_pL, gD_pD, gI_pL, gI_pD, gL_pI, gL_pD, gD_pI, gD_pL, isI_pI, isI_pL, isI_pD, isL_pI, isL_pL, isL_pD, isD_pI, isD_pL, isD_pD, ob_pI, ob_pL, ob_pD, (eq_true (isI_ob om rfl : isI h (g + 266) 38)), (eq_true (isI_ob om rfl : isI h (g + 266) 41)), (eq_true (isL_ob om rfl : isL h (g + 266) 39)), (eq_true (isD_ob om rfl : isD h (g + 266) 40)), true_and, and_true, false_and, and_false, if_true, if_false]
        try rfl
      · simp +decide only [gI_pI, gL_pL, gD_pD, gI_pL, gI_pD, gL_pI, gL_pD, gD_pI, gD_pL, isI_pI, isI_pL, isI_pD, isL_pI, isL_pL, isL_pD, isD_pI, isD_pL, isD_pD, ob_pI, ob_pL, ob_pD, (eq_true (isI_ob om rfl : isI h (g + 266) 38)), (eq_true (isI_ob om rfl : isI h (g + 266) 41)), (eq_true (isL_ob om rfl : isL h (g + 266) 39)), (eq_true (isD_ob om rfl : isD h (g + 266) 40)), true_and, and_true, false_and, and_false, if_true, if_false]
        exact z0
      · simp +decide only [eV, gI_pI, gL_pL, gD_pD, gI_pL, gI_pD, gL_pI, gL_pD, gD_pI, gD_pL, isI_pI, isI_pL, isI_pD, isL_pI, isL_pL, isL_pD, isD_pI, isD_pL, isD_pD, ob_pI, ob_pL, ob_pD, (eq_true (isI_ob om rfl : isI h (g + 266) 38)), (eq_true (isI_ob om rfl : isI h (g + 266) 41)), (eq_true (isL_ob om rfl : isL h (g + 266) 39)), (eq_true (isD_ob om rfl : isD h (g + 266) 40)), true_and, and_true, false_and, and_false, if_true, if_false]
        exact RNm_f ok (hd.trans (dof_mv ok).symm)
  · have vs : aI h (g + 282) 7 = (8 : Int32) := vs
    have nA : ev 203 0 [some (.ref (g + 266)), some (.int (nI a)), some (.int 8), none, none, none] [] h = some (some (.long D), h) := nA
    have hc : ((7 : Int32)).toNatClampNeg = 7 := hc
    have hi : vp_in (7 : Int32) 10 := hi
    have mo := c_madeOf64 h (g + 266) D om
    have eX : ldX 7 D = D := rfl
    have eV : ldV 7 D = D := rfl
    obtain ⟨z, hz⟩ : ∃ z, z = (if (uN D / 4503599627370496 % 2048) = 2047 ∧ ¬ (uN D % 4503599627370496) = 0 then (1 : Int32) else 0) := ⟨_, rfl⟩
    obtain ⟨d, hd⟩ : ∃ d, d = (sgD (decide (9223372036854775808 ≤ uN D)) (mvD 52 2047 1075 (uN D / 4503599627370496 % 2048) (uN D % 4503599627370496))) := ⟨_, rfl⟩
    rw [← hz, ← hd] at mo
    refine ⟨pI (pD (pI h (g + 266) 41 z) (g + 266) 40 d) (g + 266) 38 7, ?_, ?_, ?_, ?_, ?_⟩
    · show ev 211 0 [some (.ref (g + 266)), some (.int (nI a)), some (.int 7), none, none] [] h = _
      simp +decide only [e211_0, e211_1, e211_2, e211_3, e211_6, e211_7, e211_8, e211_11, e211_12, e211_13, e211_15, e211_18, e211_19, e211_20, e211_22, e211_24, e211_27, e211_28, e211_30, e211_33, e211_36, e211_37, e211_39, e211_42, e211_43, e211_44, e211_46, e211_48, e211_51, e211_52, e211_54, e211_57, e211_60, e211_61, e211_63, e211_66, e211_67, e211_68, e211_69, e211_72, e211_75, e211_76, e211_77, e211_79, e211_82, e211_83, e211_86, e211_87, e211_88, e211_89, e211_92, e211_93, e211_94, e211_97, e211_100, om, vs, nA, mo, hi, hc, (Mod_0 hs.2.1 : ob h (g + 266) 11), (rf_g (Mod_31 hs.2.1 : rf h (g + 266) 23 (g + 277)) : gR h (g + 266) 23 = (g + 277)), (rf_is (Mod_31 hs.2.1 : rf h (g + 266) 23 (g + 277)) : isR h (g + 266) 23), (Mod_32 hs.2.1 : arI h (g + 277) 0), (rdI_0 (Mod_32 hs.2.1 : arI h (g + 277) 0) : rdI h (g + 277)), (Mod_33 hs.2.1 : aln h (g + 277) = 256), (rf_g (Mod_46 hs.2.1 : rf h (g + 266) 33 (g + 282)) : gR h (g + 266) 33 = (g + 282)), (rf_is (Mod_46 hs.2.1 : rf h (g + 266) 33 (g + 282)) : isR h (g + 266) 33), (Mod_47 hs.2.1 : arI h (g + 282) 0), (rdI_0 (Mod_47 hs.2.1 : arI h (g + 282) 0) : rdI h (g + 282)), (Mod_48 hs.2.1 : aln h (g + 282) = 10), (rf_g (Mod_49 hs.2.1 : rf h (g + 266) 34 (g + 283)) : gR h (g + 266) 34 = (g + 283)), (rf_is (Mod_49 hs.2.1 : rf h (g + 266) 34 (g + 283)) : isR h (g + 266) 34), (Mod_50 hs.2.1 : arI h (g + 283) 0), (rdI_0 (Mod_50 hs.2.1 : arI h (g + 283) 0) : rdI h (g + 283)), (Mod_51 hs.2.1 : aln h (g + 283) = 10), ob_pI, rf_pI, isR_pI, isI_pI, isL_pI, arI_pI, arL_pI, arR_pI, arD_pI, aln_pI, rdI_pI, rdB_pI, rdR_pI, aR_pI, pI_2, gI_pI, gL_pI, gD_pI, gR_pI, aI_pI, aL_pI, aD_pI, ob_pL, rf_pL, isR_pL, isI_pL, isL_pL, arI_pL, arL_pL, arR_pL, arD_pL, aln_pL, rdI_pL, rdB_pL, rdR_pL, aR_pL, pL_2, gI_pL, gL_pL, gD_pL, gR_pL, aI_pL, aL_pL, aD_pL, ob_pD, rf_pD, isR_pD, isI_pD, isL_pD, arI_pD, arL_pD, arR_pD, arD_pD, aln_pD, rdI_pD, rdB_pD, rdR_pD, aR_pD, pD_2, gI_pD, gL_pD, gD_pD, gR_pD, aI_pD, aL_pD, aD_pD, ob_wI, rf_wI, isR_wI, isI_wI, isL_wI, arI_wI, arL_wI, arR_wI, arD_wI, aln_wI, rdI_wI, rdB_wI, rdR_wI, aR_wI, wI_2, gI_wI, gL_wI, gD_wI, gR_wI, aL_wI, aD_wI, aI_wI_ne, ob_wL, rf_wL, isR_wL, isI_wL, isL_wL, arI_wL, arL_wL, arR_wL, arD_wL, aln_wL, rdI_wL, rdB_wL, rdR_wL, aR_wL, wL_2, gI_wL, gL_wL, gD_wL, gR_wL, aI_wL, aD_wL, aL_wL_ne, ob_wD, rf_wD, isR_wD, isI_wD, isL_wD, arI_wD, arL_wD, arR_wD, arD_wD, aln_wD, rdI_wD, rdB_wD, rdR_wD, aR_wD, wD_2, gI_wD, gL_wD, gD_wD, gR_wD, aI_wD, aL_wD, aD_wD_ne, ob_bI, rf_bI, isR_bI, isI_bI, isL_bI, arI_bI, arL_bI, arR_bI, arD_bI, aln_bI, rdI_bI, rdB_bI, rdR_bI, aR_bI, bI_2, gI_bI, gL_bI, gD_bI, gR_bI, aL_bI, aD_bI, aI_bI_ne, ob_bL, rf_bL, isR_bL, isI_bL, isL_bL, arI_bL, arL_bL, arR_bL, arD_bL, aln_bL, rdI_bL, rdB_bL, rdR_bL, aR_bL, bL_2, gI_bL, gL_bL, gD_bL, gR_bL, aI_bL, aD_bL, aL_bL_ne, gI_pI, gL_pL, gD_pD, isI_pI, isL_pI, isD_pI, isI_pL, isL_pL, isD_pL, isI_pD, isL_pD, isD_pD, vkk_n, vkk_i, vkk_r, vkk_l, vkk_d, catS_nil, catS_i, catS_r, catS_l, catS_d, Nat.reduceAdd, Nat.reduceLeDiff, Nat.zero_le, Nat.le_refl, Option.bind_some, Option.toList_some, Option.toList_none, List.cons_append, List.nil_append, or_true, true_or, if_true, if_false, Int32.reduceLT, Int32.reduceLE, not_true, not_false_iff, true_and, and_true, false_and, and_false]
    · exact ((Fr_pI _ _ _ _ (VF_41 _)).tr (Fr_pD _ _ _ _ (VF_40 _))).tr (Fr_pI _ _ _ _ (VF_38 _))
    · simp +decide only [gI_pI, gL_pL, gD_pD, gI_pL, gI_pD, gL_pI, gL_pD, gD_pI, gD_pL, isI_pI, isI_pL, isI_pD, isL_pI, isL_pL, isL_pD, isD_pI, isD_pL, isD_pD, ob_pI, ob_pL, ob_pD, (eq_true (isI_ob om rfl : isI h (g + 266) 38)), (eq_true (isI_ob om rfl : isI h (g + 266) 41)), (eq_true (isL_ob om rfl : isL h (g + 266) 39)), (eq_true (isD_ob om rfl : isD h (g + 266) 40)), true_and, and_true, false_and, and_false, if_true, if_false]
      try rfl
    · intro q
      rw [eX] at q
      have q : kNan D 7 = 1 := q
      rcases kNan_d D with ⟨q1, q2⟩ | ⟨q1, q2⟩
      · exact absurd (q1.symm.trans q) (by decide)
      · simp +decide only [gI_pI, gL_pL, gD_pD, gI_pL, gI_pD, gL_pI, gL_pD, gD_pI, gD_pL, isI_pI, isI_pL, isI_pD, isL_pI, isL_pL, isL_pD, isD_pI, isD_pL, isD_pD, ob_pI, ob_pL, ob_pD, (eq_true (isI_ob om rfl : isI h (g + 266) 38)), (eq_true (isI_ob om rfl : isI h (g + 266) 41)), (eq_true (isL_ob om rfl : isL h (g + 266) 39)), (eq_true (isD_ob om rfl : isD h (g + 266) 40)), true_and, and_true, false_and, and_false, if_true, if_false]
        rw [hz, if_pos (by have := uN_lt D; omega)]
    · intro q
      rw [eX] at q
      have q : kNan D 7 = 0 := q
      rcases kNan_d D with ⟨q1, q2⟩ | ⟨q1, q2⟩
      case inr => exact absurd (q1.symm.trans q) (by decide)
      have ok : dOk D := dOk_n.mpr q2
      have z0 : z = 0 := by rw [hz, if_neg (by have := uN_lt D; omega)]
      refine ⟨?_, ?_, ?_⟩
      · simp +decide only [gI_pI, gL_pL, gD_pD, gI_pL, gI_pD, gL_pI, gL_pD, gD_pI, gD_pL, isI_pI, isI_pL, isI_pD, isL_pI, isL_pL, isL_pD, isD_pI, isD_pL, isD_pD, ob_pI, ob_pL, ob_pD, (eq_true (isI_ob om rfl : isI h (g + 266) 38)), (eq_true (isI_ob om rfl : isI h (g + 266) 41)), (eq_true (isL_ob om rfl : isL h (g + 266) 39)), (eq_true (isD_ob om rfl : isD h (g + 266) 40)), true_and, and_true, false_and, and_false, if_true, if_false]
        try rfl
      · simp +decide only [gI_pI, gL_pL, gD_pD, gI_pL, gI_pD, gL_pI, gL_pD, gD_pI, gD_pL, isI_pI, isI_pL, isI_pD, isL_pI, isL_pL, isL_pD, isD_pI, isD_pL, isD_pD, ob_pI, ob_pL, ob_pD, (eq_true (isI_ob om rfl : isI h (g + 266) 38)), (eq_true (isI_ob om rfl : isI h (g + 266) 41)), (eq_true (isL_ob om rfl : isL h (g + 266) 39)), (eq_true (isD_ob om rfl : isD h (g + 266) 40)), true_and, and_true, false_and, and_false, if_true, if_false]
        exact z0
      · simp +decide only [eV, gI_pI, gL_pL, gD_pD, gI_pL, gI_pD, gL_pI, gL_pD, gD_pI, gD_pL, isI_pI, isI_pL, isI_pD, isL_pI, isL_pL, isL_pD, isD_pI, isD_pL, isD_pD, ob_pI, ob_pL, ob_pD, (eq_true (isI_ob om rfl : isI h (g + 266) 38)), (eq_true (isI_ob om rfl : isI h (g + 266) 41)), (eq_true (isL_ob om rfl : isL h (g + 266) 39)), (eq_true (isD_ob om rfl : isD h (g + 266) 40)), true_and, and_true, false_and, and_false, if_true, if_false]
        exact RNm_d ok (hd.trans (dbl_mv ok).symm)
  · have vs : aI h (g + 282) 8 = (8 : Int32) := vs
    have nA : ev 203 0 [some (.ref (g + 266)), some (.int (nI a)), some (.int 8), none, none, none] [] h = some (some (.long D), h) := nA
    have hc : ((8 : Int32)).toNatClampNeg = 8 := hc
    have hi : vp_in (8 : Int32) 10 := hi
    obtain ⟨h1, m1, m2, m3⟩ := c_m_made h (g + 266) 5 ((D <<< ((64 - 8 * (8 : Int32)).toInt64 &&& 63)) >>> ((64 - 8 * (8 : Int32)).toInt64 &&& 63)) om (by decide)
    have m1 : ev 178 0 [some (.ref (g + 266)), some (.int 5), some (.long ((D <<< ((64 - 8 * (8 : Int32)).toInt64 &&& 63)) >>> ((64 - 8 * (8 : Int32)).toInt64 &&& 63))), none] [] h = some (none, h1) := m1
    have ev_ : kMade ((D <<< ((64 - 8 * (8 : Int32)).toInt64 &&& 63)) >>> ((64 - 8 * (8 : Int32)).toInt64 &&& 63)) (nI 5) = ldV 8 D := (congrArg (fun x => kMade x 5) (sx64 D))
    rw [ev_] at m3
    refine ⟨h1, ?_, m2, m3.1, fun q => absurd q (by show ¬ (0 : Int32) = 1; decide), fun _ => m3⟩
    show ev 211 0 [some (.ref (g + 266)), some (.int (nI a)), some (.int 8), none, none] [] h = _
    simp +decide only [e211_0, e211_1, e211_2, e211_3, e211_6, e211_7, e211_8, e211_11, e211_12, e211_13, e211_15, e211_18, e211_19, e211_20, e211_22, e211_24, e211_27, e211_28, e211_30, e211_33, e211_36, e211_37, e211_39, e211_42, e211_43, e211_44, e211_46, e211_48, e211_51, e211_52, e211_54, e211_57, e211_60, e211_61, e211_63, e211_66, e211_67, e211_68, e211_69, e211_72, e211_75, e211_76, e211_77, e211_79, e211_82, e211_83, e211_86, e211_87, e211_88, e211_89, e211_92, e211_93, e211_94, e211_97, e211_100, om, vs, nA, c_m_signed, m1, hi, hc, (Mod_0 hs.2.1 : ob h (g + 266) 11), (rf_g (Mod_31 hs.2.1 : rf h (g + 266) 23 (g + 277)) : gR h (g + 266) 23 = (g + 277)), (rf_is (Mod_31 hs.2.1 : rf h (g + 266) 23 (g + 277)) : isR h (g + 266) 23), (Mod_32 hs.2.1 : arI h (g + 277) 0), (rdI_0 (Mod_32 hs.2.1 : arI h (g + 277) 0) : rdI h (g + 277)), (Mod_33 hs.2.1 : aln h (g + 277) = 256), (rf_g (Mod_46 hs.2.1 : rf h (g + 266) 33 (g + 282)) : gR h (g + 266) 33 = (g + 282)), (rf_is (Mod_46 hs.2.1 : rf h (g + 266) 33 (g + 282)) : isR h (g + 266) 33), (Mod_47 hs.2.1 : arI h (g + 282) 0), (rdI_0 (Mod_47 hs.2.1 : arI h (g + 282) 0) : rdI h (g + 282)), (Mod_48 hs.2.1 : aln h (g + 282) = 10), (rf_g (Mod_49 hs.2.1 : rf h (g + 266) 34 (g + 283)) : gR h (g + 266) 34 = (g + 283)), (rf_is (Mod_49 hs.2.1 : rf h (g + 266) 34 (g + 283)) : isR h (g + 266) 34), (Mod_50 hs.2.1 : arI h (g + 283) 0), (rdI_0 (Mod_50 hs.2.1 : arI h (g + 283) 0) : rdI h (g + 283)), (Mod_51 hs.2.1 : aln h (g + 283) = 10), vkk_n, vkk_i, vkk_r, vkk_l, vkk_d, catS_nil, catS_i, catS_r, catS_l, catS_d, Nat.reduceAdd, Nat.reduceLeDiff, Nat.zero_le, Nat.le_refl, Option.bind_some, Option.toList_some, Option.toList_none, List.cons_append, List.nil_append, or_true, true_or, if_true, if_false, Int32.reduceLT, Int32.reduceLE, not_true, not_false_iff, true_and, and_true, false_and, and_false]
  · have vs : aI h (g + 282) 9 = (4 : Int32) := vs
    have nA : ev 203 0 [some (.ref (g + 266)), some (.int (nI a)), some (.int 4), none, none, none] [] h = some (some (.long D), h) := nA
    have hc : ((9 : Int32)).toNatClampNeg = 9 := hc
    have hi : vp_in (9 : Int32) 10 := hi
    obtain ⟨h1, m1, m2, m3⟩ := c_m_made h (g + 266) 5 (D) om (by decide)
    have m1 : ev 178 0 [some (.ref (g + 266)), some (.int 5), some (.long (D)), none] [] h = some (none, h1) := m1
    have ev_ : kMade (D) (nI 5) = ldV 9 D := rfl
    rw [ev_] at m3
    refine ⟨h1, ?_, m2, m3.1, fun q => absurd q (by show ¬ (0 : Int32) = 1; decide), fun _ => m3⟩
    show ev 211 0 [some (.ref (g + 266)), some (.int (nI a)), some (.int 9), none, none] [] h = _
    simp +decide only [e211_0, e211_1, e211_2, e211_3, e211_6, e211_7, e211_8, e211_11, e211_12, e211_13, e211_15, e211_18, e211_19, e211_20, e211_22, e211_24, e211_27, e211_28, e211_30, e211_33, e211_36, e211_37, e211_39, e211_42, e211_43, e211_44, e211_46, e211_48, e211_51, e211_52, e211_54, e211_57, e211_60, e211_61, e211_63, e211_66, e211_67, e211_68, e211_69, e211_72, e211_75, e211_76, e211_77, e211_79, e211_82, e211_83, e211_86, e211_87, e211_88, e211_89, e211_92, e211_93, e211_94, e211_97, e211_100, om, vs, nA, c_m_signed, m1, hi, hc, (Mod_0 hs.2.1 : ob h (g + 266) 11), (rf_g (Mod_31 hs.2.1 : rf h (g + 266) 23 (g + 277)) : gR h (g + 266) 23 = (g + 277)), (rf_is (Mod_31 hs.2.1 : rf h (g + 266) 23 (g + 277)) : isR h (g + 266) 23), (Mod_32 hs.2.1 : arI h (g + 277) 0), (rdI_0 (Mod_32 hs.2.1 : arI h (g + 277) 0) : rdI h (g + 277)), (Mod_33 hs.2.1 : aln h (g + 277) = 256), (rf_g (Mod_46 hs.2.1 : rf h (g + 266) 33 (g + 282)) : gR h (g + 266) 33 = (g + 282)), (rf_is (Mod_46 hs.2.1 : rf h (g + 266) 33 (g + 282)) : isR h (g + 266) 33), (Mod_47 hs.2.1 : arI h (g + 282) 0), (rdI_0 (Mod_47 hs.2.1 : arI h (g + 282) 0) : rdI h (g + 282)), (Mod_48 hs.2.1 : aln h (g + 282) = 10), (rf_g (Mod_49 hs.2.1 : rf h (g + 266) 34 (g + 283)) : gR h (g + 266) 34 = (g + 283)), (rf_is (Mod_49 hs.2.1 : rf h (g + 266) 34 (g + 283)) : isR h (g + 266) 34), (Mod_50 hs.2.1 : arI h (g + 283) 0), (rdI_0 (Mod_50 hs.2.1 : arI h (g + 283) 0) : rdI h (g + 283)), (Mod_51 hs.2.1 : aln h (g + 283) = 10), vkk_n, vkk_i, vkk_r, vkk_l, vkk_d, catS_nil, catS_i, catS_r, catS_l, catS_d, Nat.reduceAdd, Nat.reduceLeDiff, Nat.zero_le, Nat.le_refl, Option.bind_some, Option.toList_some, Option.toList_none, List.cons_append, List.nil_append, or_true, true_or, if_true, if_false, Int32.reduceLT, Int32.reduceLE, not_true, not_false_iff, true_and, and_true, false_and, and_false]
