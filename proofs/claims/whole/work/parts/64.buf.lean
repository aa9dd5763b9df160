/-! lists of buffers: what is read -/
theorem sx32 (x : Int64) : (x <<< ((64 - 8 * (4 : Int32)).toInt64 &&& 63)) >>> ((64 - 8 * (4 : Int32)).toInt64 &&& 63) = x.toInt32.toInt64 := by
  apply Int64.toBitVec_inj.mp
  rw [show ((64 - 8 * (4 : Int32)).toInt64 &&& 63) = (32 : Int64) by decide, Int64.toBitVec_shiftRight, Int64.toBitVec_shiftLeft]
  rw [show (32 : Int64).toBitVec.smod 64 = 32#64 by decide]
  rw [Int32.toBitVec_toInt64, Int64.toBitVec_toInt32, BitVec.shiftLeft_eq', BitVec.sshiftRight_eq', show (32#64).toNat = 32 from rfl]
  apply BitVec.eq_of_getLsbD_eq
  intro i hi
  rw [BitVec.getLsbD_sshiftRight, BitVec.getLsbD_signExtend]
  simp only [BitVec.getLsbD_shiftLeft, BitVec.getLsbD_setWidth, BitVec.msb_eq_getLsbD_last]
  by_cases h : 32 + i < 64
  · have h2 : i < 32 := by omega
    have a1 : ¬ 64 ≤ i := by omega
    have a2 : ¬ 32 + i < 32 := by omega
    simp [h, h2, hi, a1, a2, BitVec.getElem_signExtend]
  · have h2 : ¬ i < 32 := by omega
    have a1 : ¬ 64 ≤ i := by omega
    simp [h, h2, hi, a1, BitVec.getElem_signExtend]
theorem rW_32 (F : Nat → Int32) (big : Int32) (a : Nat) : rW F big a = (rW F big a).toInt32.toInt64 := by
  have e : rW F big a = (rdv F big a 4 4).toInt32.toInt64 := by
    unfold rW kExt
    rw [if_pos (Or.inr (Or.inr (Or.inl rfl)))]
    exact sx32 _
  rw [e, Int32.toInt32_toInt64]
theorem uN_rdv (F : Nat → Int32) (big : Int32) (a n : Nat) : ∀ i, i ≤ 4 → uN (rdv F big a n i) < 2 ^ (8 * i)
  | 0, _ => by
    show uN 0 < 1
    decide
  | i + 1, hi => by
    have ih := uN_rdv F big a n i (by omega)
    show uN ((sl (rdv F big a n i) (nI 8)) ||| (F _ &&& 255).toInt64) < _
    obtain ⟨v, v1, v2, -⟩ := and255 (F (if big = 0 then a + n - 1 - i else a + i))
    rw [v2]
    have hv : uN (nI v).toInt64 = v := uN_nI (by omega)
    have hm : (2 : Nat) ^ (8 * i) ≤ 2 ^ 24 := Nat.pow_le_pow_right (by decide) (by omega)
    have hx : uN (sl (rdv F big a n i) (nI 8)) = uN (rdv F big a n i) * 2 ^ 8 := by
      rw [uN_sl _ (by decide), Nat.mod_eq_of_lt]
      omega
    rw [uN_orA _ _ (k := 8) (by rw [hx]; omega) (by rw [hv]; exact v1), hx, hv, show 8 * (i + 1) = 8 * i + 8 by omega, Nat.pow_add]
    omega
theorem rdv_nn (F : Nat → Int32) (big : Int32) (a : Nat) : ¬ rdv F big a 4 4 < 0 := by
  have := uN_rdv F big a 4 4 (Nat.le_refl _)
  rw [uN_lt_iff (by omega) (by decide)]
  exact Nat.not_lt_zero _
theorem i32_lt0 (s : Int32) : s.toInt64 < 0 ↔ s < 0 := by
  rw [Int64.lt_iff_toInt_lt, Int32.lt_iff_toInt_lt, Int32.toInt_toInt64]
  exact Iff.rfl
theorem i32_le0 (s : Int32) (h : ¬ s < 0) : s.toInt64 ≤ 0 ↔ s = 0 := by
  rw [Int64.le_iff_toInt_le, Int32.toInt_toInt64, ← Int32.toInt_inj]
  rw [Int32.lt_iff_toInt_lt] at h
  show s.toInt ≤ 0 ↔ s.toInt = 0
  have : ¬ s.toInt < 0 := h
  omega
theorem zcase (l : Int32) (B : Int64) (s : Int32) (hB : ¬ B < 0) : (s < 0 ∧ s.toInt64 < 0) ∨ (¬ s < 0 ∧ ¬ s.toInt64 < 0 ∧ memRef l B s = 0 ∧ (s.toInt64 ≤ 0 ∨ (¬ s.toInt64 ≤ 0 ∧ B + s.toInt64 ≤ l.toInt64))) ∨ (¬ s < 0 ∧ ¬ s.toInt64 < 0 ∧ memRef l B s = 5 ∧ ¬ s.toInt64 ≤ 0 ∧ ¬ B + s.toInt64 ≤ l.toInt64) := by
  by_cases h : s < 0
  · exact Or.inl ⟨h, (i32_lt0 s).mpr h⟩
  · right
    have h2 : ¬ s.toInt64 < 0 := fun z => h ((i32_lt0 s).mp z)
    unfold memRef
    by_cases e : s = 0
    · left
      exact ⟨h, h2, if_pos e, Or.inl ((i32_le0 s h).mpr e)⟩
    · have h3 : ¬ s.toInt64 ≤ 0 := fun z => e ((i32_le0 s h).mp z)
      rw [if_neg e, if_neg hB]
      by_cases q : B + s.toInt64 ≤ l.toInt64
      · left
        exact ⟨h, h2, if_pos q, Or.inr ⟨h3, q⟩⟩
      · right
        exact ⟨h, h2, if_neg q, h3, q⟩
def bB (F : Nat → Int32) (big : Int32) (A i : Nat) : Int64 := rdv F big (A + 8 * i) 4 4
def bZ (F : Nat → Int32) (big : Int32) (A i : Nat) : Int32 := (rW F big (A + 8 * i + 4)).toInt32
def bR (l : Int32) (F : Nat → Int32) (big : Int32) (A i : Nat) : Int32 := if bZ F big A i < 0 then 6 else memRef l (bB F big A i) (bZ F big A i)
/-- the first refusal of d buffers from i on -/
def bN (l : Int32) (F : Nat → Int32) (big : Int32) (A : Nat) : Nat → Nat → Int32
  | _, 0 => 0
  | i, d + 1 => if bR l F big A i = 0 then bN l F big A (i + 1) d else bR l F big A i
def tS (Z : Nat → Int32) : Nat → Int32
  | 0 => 0
  | i + 1 => tS Z i + Z i
def tE (Z : Nat → Int32) : Nat → Int32
  | 0 => 0
  | i + 1 => tE Z i + if Z i = 0 then 1 else 0
def tM (Z : Nat → Int32) : Nat → Int32
  | 0 => 0
  | i + 1 => if tM Z i < Z i then Z i else tM Z i
theorem bR_or (l : Int32) (F : Nat → Int32) (big : Int32) (A i : Nat) : bR l F big A i = 0 ∨ bR l F big A i = 5 ∨ bR l F big A i = 6 := by
  unfold bR memRef
  (repeat' split) <;> simp +decide only [or_true, true_or]
theorem bN_or (l : Int32) (F : Nat → Int32) (big : Int32) (A : Nat) : ∀ d i, bN l F big A i d = 0 ∨ bN l F big A i d = 5 ∨ bN l F big A i d = 6
  | 0, _ => Or.inl rfl
  | d + 1, i => by
    have e : bN l F big A i (d + 1) = if bR l F big A i = 0 then bN l F big A (i + 1) d else bR l F big A i := rfl
    rw [e]
    by_cases h : bR l F big A i = 0
    · rw [if_pos h]
      exact bN_or l F big A d (i + 1)
    · rw [if_neg h]
      exact bR_or l F big A i
theorem c_rd9 (h : VG) (g a : Nat) (F : Nat → Int32) (big : Int32) (hs : Sh h g) (ha : a + 4 ≤ 256) (hF : ∀ j, aI h (g + 174) j = F j) (hB : gI h (g + 173) 2 = big) : ev 56 0 [some (.ref (g + 173)), some (.int (nI a)), some (.int 9), some (.int 0), none, none, none, none, none] [] h = some (some (.long (rdv F big a 4 4)), h) := by
  obtain rfl : aI h (g + 174) = F := funext hF
  subst hB
  exact c_cellAt h g (g + 173) a 9 0 hs.2.2 (State_4 (Cls_17 hs.1)) (by decide) ha
theorem c_rdU (h : VG) (g a : Nat) (F : Nat → Int32) (big : Int32) (hs : Sh h g) (ha : a + 4 ≤ 256) (hF : ∀ j, j < 256 → F j &&& 255 = aI h (g + 277) j) (hB : gI h (g + 266) 17 = big) : ev 203 0 [some (.ref (g + 266)), some (.int (nI a)), some (.int 4), none, none, none] [] h = some (some (.long (rdv F big a 4 4)), h) := by
  subst hB
  rw [rdv_mdv ha hF 4 (Nat.le_refl _)]
  exact c_m_numberAt h g a 4 hs (by decide) ha

theorem c_add (h : VG) (g t : Nat) (x : Int64) (s : Int32) (hs : Sh h g) (ht : t < 8) (e2 : gI h (g + 262) 2 = nI t) : ∃ h1, ev 23 0 [some (.ref (g + 262)), some (.long x), none, some (.int s)] [] h = some (none, h1) ∧ Fr (fun a => a = g + 263 ∨ a = g + 264) (fun a k => a = g + 262 ∧ 2 ≤ k ∧ k ≤ 5) h h1 ∧ gI h1 (g + 262) 2 = nI (t + 1) ∧ gI h1 (g + 262) 3 = gI h (g + 262) 3 + s ∧ gI h1 (g + 262) 4 = gI h (g + 262) 4 + (if s = 0 then 1 else 0) ∧ gI h1 (g + 262) 5 = (if gI h (g + 262) 5 < s then s else gI h (g + 262) 5) ∧ ∀ j, (aI h1 (g + 263) j = if j = t then x.toInt32 else aI h (g + 263) j) ∧ (aI h1 (g + 264) j = if j = t then s else aI h (g + 264) j) := by
  have hv : vp_in (nI t) 8 := vp_in_nI (by omega) (by decide)
  have hc : (nI t).toNatClampNeg = t := nI_clamp (by omega)
  have t1 : nI t + 1 = nI (t + 1) := nI_add (a := t) (b := 1)
  have ob2 : ob h (g + 262) 2 := Cls_28 hs.1
  refine ⟨pI (pI (pI (pI (wI (wI h (g + 263) t x.toInt32) (g + 264) t s) (g + 262) 2 (nI (t + 1))) (g + 262) 3 (gI h (g + 262) 3 + s)) (g + 262) 4 (gI h (g + 262) 4 + (if s = 0 then 1 else 0))) (g + 262) 5 (if gI h (g + 262) 5 < s then s else gI h (g + 262) 5), ?_, ?_, ?_, ?_, ?_, ?_, fun j => ⟨?_, ?_⟩⟩
  · by_cases s0 : s = 0
    · simp +decide only [e23_0, e23_1, e23_4, e23_5, e23_8, e23_9, e23_10, e23_11, e23_12, e23_15, e23_16, e23_19, e23_20, e23_21, e23_22b, e23_22, e23_23, e23_26, e23_27, e23_28, e23_31, e23_32b, e23_32, e23_33, e23_36, e23_37, e23_38, e23_41, e23_42b, e23_42, e23_43, e23_46, e23_47, e23_50, e23_51, e23_54, e23_55, e23_56, e23_59, e23_60, e23_61, e23_64, e23_65, e23_68, e23_71, s0, e2, t1, hv, hc, (rf_g (Cls_7 hs.1 : rf h g 12 (g + 262)) : gR h g 12 = (g + 262)), (rf_is (Cls_7 hs.1 : rf h g 12 (g + 262)) : isR h g 12), (Cls_28 hs.1 : ob h (g + 262) 2), (eq_true (isI_ob (Cls_28 hs.1 : ob h (g + 262) 2) rfl : isI h (g + 262) 2)), (eq_true (isI_ob (Cls_28 hs.1 : ob h (g + 262) 2) rfl : isI h (g + 262) 3)), (eq_true (isI_ob (Cls_28 hs.1 : ob h (g + 262) 2) rfl : isI h (g + 262) 4)), (eq_true (isI_ob (Cls_28 hs.1 : ob h (g + 262) 2) rfl : isI h (g + 262) 5)), (rf_g (Cls_29 hs.1 : rf h (g + 262) 0 (g + 263)) : gR h (g + 262) 0 = (g + 263)), (rf_is (Cls_29 hs.1 : rf h (g + 262) 0 (g + 263)) : isR h (g + 262) 0), (rf_g (Cls_30 hs.1 : rf h (g + 262) 1 (g + 264)) : gR h (g + 262) 1 = (g + 264)), (rf_is (Cls_30 hs.1 : rf h (g + 262) 1 (g + 264)) : isR h (g + 262) 1), (Cls_31 hs.1 : arI h (g + 263) 0), (rdI_0 (Cls_31 hs.1 : arI h (g + 263) 0) : rdI h (g + 263)), (Cls_32 hs.1 : aln h (g + 263) = 8), (Cls_33 hs.1 : arI h (g + 264) 0), (rdI_0 (Cls_33 hs.1 : arI h (g + 264) 0) : rdI h (g + 264)), (Cls_34 hs.1 : aln h (g + 264) = 8), ob_pI, rf_pI, isR_pI, isI_pI, isL_pI, arI_pI, arL_pI, arR_pI, arD_pI, aln_pI, rdI_pI, rdB_pI, rdR_pI, aR_pI, pI_2, gI_pI, gL_pI, gD_pI, gR_pI, aI_pI, aL_pI, aD_pI, ob_pL, rf_pL, isR_pL, isI_pL, isL_pL, arI_pL, arL_pL, arR_pL, arD_pL, aln_pL, rdI_pL, rdB_pL, rdR_pL, aR_pL, pL_2, gI_pL, gL_pL, gD_pL, gR_pL, aI_pL, aL_pL, aD_pL, ob_wI, rf_wI, isR_wI, isI_wI, isL_wI, arI_wI, arL_wI, arR_wI, arD_wI, aln_wI, rdI_wI, rdB_wI, rdR_wI, aR_wI, wI_2, gI_wI, gL_wI, gD_wI, gR_wI, aL_wI, aD_wI, aI_wI_ne, ob_wL, rf_wL, isR_wL, isI_wL, isL_wL, arI_wL, arL_wL, arR_wL, arD_wL, aln_wL, rdI_wL, rdB_wL, rdR_wL, aR_wL, wL_2, gI_wL, gL_wL, gD_wL, gR_wL, aI_wL, aD_wL, aL_wL_ne, ob_bI, rf_bI, isR_bI, isI_bI, isL_bI, arI_bI, arL_bI, arR_bI, arD_bI, aln_bI, rdI_bI, rdB_bI, rdR_bI, aR_bI, bI_2, gI_bI, gL_bI, gD_bI, gR_bI, aL_bI, aD_bI, aI_bI_ne, ob_bL, rf_bL, isR_bL, isI_bL, isL_bL, arI_bL, arL_bL, arR_bL, arD_bL, aln_bL, rdI_bL, rdB_bL, rdR_bL, aR_bL, bL_2, gI_bL, gL_bL, gD_bL, gR_bL, aI_bL, aD_bL, aL_bL_ne, Nat.add_assoc, Nat.reduceAdd, Nat.add_left_cancel_iff, Nat.reduceEqDiff, Nat.add_eq_left, Nat.left_eq_add, gI_pI, isI_pI, isI_wI, vkk_n, vkk_i, vkk_r, vkk_l, vkk_d, catS_nil, catS_i, catS_r, catS_l, catS_d, Nat.reduceAdd, Nat.reduceLeDiff, Nat.zero_le, Nat.le_refl, Option.bind_some, Option.toList_some, Option.toList_none, List.cons_append, List.nil_append, or_true, true_or, if_true, if_false, Int32.reduceLT, Int32.reduceLE, not_true, not_false_iff, true_and, and_true, false_and, and_false]
    · simp +decide only [e23_0, e23_1, e23_4, e23_5, e23_8, e23_9, e23_10, e23_11, e23_12, e23_15, e23_16, e23_19, e23_20, e23_21, e23_22b, e23_22, e23_23, e23_26, e23_27, e23_28, e23_31, e23_32b, e23_32, e23_33, e23_36, e23_37, e23_38, e23_41, e23_42b, e23_42, e23_43, e23_46, e23_47, e23_50, e23_51, e23_54, e23_55, e23_56, e23_59, e23_60, e23_61, e23_64, e23_65, e23_68, e23_71, s0, e2, t1, hv, hc, (rf_g (Cls_7 hs.1 : rf h g 12 (g + 262)) : gR h g 12 = (g + 262)), (rf_is (Cls_7 hs.1 : rf h g 12 (g + 262)) : isR h g 12), (Cls_28 hs.1 : ob h (g + 262) 2), (eq_true (isI_ob (Cls_28 hs.1 : ob h (g + 262) 2) rfl : isI h (g + 262) 2)), (eq_true (isI_ob (Cls_28 hs.1 : ob h (g + 262) 2) rfl : isI h (g + 262) 3)), (eq_true (isI_ob (Cls_28 hs.1 : ob h (g + 262) 2) rfl : isI h (g + 262) 4)), (eq_true (isI_ob (Cls_28 hs.1 : ob h (g + 262) 2) rfl : isI h (g + 262) 5)), (rf_g (Cls_29 hs.1 : rf h (g + 262) 0 (g + 263)) : gR h (g + 262) 0 = (g + 263)), (rf_is (Cls_29 hs.1 : rf h (g + 262) 0 (g + 263)) : isR h (g + 262) 0), (rf_g (Cls_30 hs.1 : rf h (g + 262) 1 (g + 264)) : gR h (g + 262) 1 = (g + 264)), (rf_is (Cls_30 hs.1 : rf h (g + 262) 1 (g + 264)) : isR h (g + 262) 1), (Cls_31 hs.1 : arI h (g + 263) 0), (rdI_0 (Cls_31 hs.1 : arI h (g + 263) 0) : rdI h (g + 263)), (Cls_32 hs.1 : aln h (g + 263) = 8), (Cls_33 hs.1 : arI h (g + 264) 0), (rdI_0 (Cls_33 hs.1 : arI h (g + 264) 0) : rdI h (g + 264)), (Cls_34 hs.1 : aln h (g + 264) = 8), ob_pI, rf_pI, isR_pI, isI_pI, isL_pI, arI_pI, arL_pI, arR_pI, arD_pI, aln_pI, rdI_pI, rdB_pI, rdR_pI, aR_pI, pI_2, gI_pI, gL_pI, gD_pI, gR_pI, aI_pI, aL_pI, aD_pI, ob_pL, rf_pL, isR_pL, isI_pL, isL_pL, arI_pL, arL_pL, arR_pL, arD_pL, aln_pL, rdI_pL, rdB_pL, rdR_pL, aR_pL, pL_2, gI_pL, gL_pL, gD_pL, gR_pL, aI_pL, aL_pL, aD_pL, ob_wI, rf_wI, isR_wI, isI_wI, isL_wI, arI_wI, arL_wI, arR_wI, arD_wI, aln_wI, rdI_wI, rdB_wI, rdR_wI, aR_wI, wI_2, gI_wI, gL_wI, gD_wI, gR_wI, aL_wI, aD_wI, aI_wI_ne, ob_wL, rf_wL, isR_wL, isI_wL, isL_wL, arI_wL, arL_wL, arR_wL, arD_wL, aln_wL, rdI_wL, rdB_wL, rdR_wL, aR_wL, wL_2, gI_wL, gL_wL, gD_wL, gR_wL, aI_wL, aD_wL, aL_wL_ne, ob_bI, rf_bI, isR_bI, isI_bI, isL_bI, arI_bI, arL_bI, arR_bI, arD_bI, aln_bI, rdI_bI, rdB_bI, rdR_bI, aR_bI, bI_2, gI_bI, gL_bI, gD_bI, gR_bI, aL_bI, aD_bI, aI_bI_ne, ob_bL, rf_bL, isR_bL, isI_bL, isL_bL, arI_bL, arL_bL, arR_bL, arD_bL, aln_bL, rdI_bL, rdB_bL, rdR_bL, aR_bL, bL_2, gI_bL, gL_bL, gD_bL, gR_bL, aI_bL, aD_bL, aL_bL_ne, Nat.add_assoc, Nat.reduceAdd, Nat.add_left_cancel_iff, Nat.reduceEqDiff, Nat.add_eq_left, Nat.left_eq_add, gI_pI, isI_pI, isI_wI, vkk_n, vkk_i, vkk_r, vkk_l, vkk_d, catS_nil, catS_i, catS_r, catS_l, catS_d, Nat.reduceAdd, Nat.reduceLeDiff, Nat.zero_le, Nat.le_refl, Option.bind_some, Option.toList_some, Option.toList_none, List.cons_append, List.nil_append, or_true, true_or, if_true, if_false, Int32.reduceLT, Int32.reduceLE, not_true, not_false_iff, true_and, and_true, false_and, and_false]
  · exact (((((Fr_wI _ _ _ _ (Or.inl rfl)).tr (Fr_wI _ _ _ _ (Or.inr rfl))).tr (Fr_pI _ _ _ _ ⟨rfl, by decide, by decide⟩)).tr (Fr_pI _ _ _ _ ⟨rfl, by decide, by decide⟩)).tr (Fr_pI _ _ _ _ ⟨rfl, by decide, by decide⟩)).tr (Fr_pI _ _ _ _ ⟨rfl, by decide, by decide⟩)
  · simp +decide only [gI_pI, gI_wI, isI_pI, isI_wI, (eq_true (isI_ob ob2 rfl : isI h (g + 262) 2)), true_and, and_true, if_true, false_and, and_false, if_false, Nat.reduceEqDiff]
  · simp +decide only [gI_pI, gI_wI, isI_pI, isI_wI, (eq_true (isI_ob ob2 rfl : isI h (g + 262) 3)), true_and, and_true, if_true, false_and, and_false, if_false, Nat.reduceEqDiff]
  · simp +decide only [gI_pI, gI_wI, isI_pI, isI_wI, (eq_true (isI_ob ob2 rfl : isI h (g + 262) 4)), true_and, and_true, if_true, false_and, and_false, if_false, Nat.reduceEqDiff]
  · simp +decide only [gI_pI, gI_wI, isI_pI, isI_wI, (eq_true (isI_ob ob2 rfl : isI h (g + 262) 5)), true_and, and_true, if_true, false_and, and_false, if_false, Nat.reduceEqDiff]
  · rw [aI_pI, aI_pI, aI_pI, aI_pI, aI_wI_ne _ _ _ _ _ _ (by omega), aI_wI0 _ _ _ _ _ _ (Cls_31 hs.1)]
    simp only [true_and]
  · rw [aI_pI, aI_pI, aI_pI, aI_pI, aI_wI0 _ _ _ _ _ _ ((arI_wI ..).mpr (Cls_33 hs.1)), aI_wI_ne _ _ _ _ _ _ (by omega)]
    simp only [true_and]
theorem c_beg (h : VG) (g : Nat) (hs : Sh h g) : ∃ h1, ev 22 0 [some (.ref (g + 262))] [] h = some (none, h1) ∧ Fr (fun a => a = g + 263 ∨ a = g + 264) (fun a k => a = g + 262 ∧ 2 ≤ k ∧ k ≤ 5) h h1 ∧ gI h1 (g + 262) 2 = 0 ∧ gI h1 (g + 262) 3 = 0 ∧ gI h1 (g + 262) 4 = 0 ∧ gI h1 (g + 262) 5 = 0 := by
  have ob2 : ob h (g + 262) 2 := Cls_28 hs.1
  refine ⟨pI (pI (pI (pI h (g + 262) 2 0) (g + 262) 3 0) (g + 262) 4 0) (g + 262) 5 0, ?_, ?_, ?_, ?_, ?_, ?_⟩
  · simp +decide only [e22_0, e22_1, e22_2, e22_5, e22_6, e22_7, e22_10, e22_11, e22_12, e22_15, e22_16, e22_17, e22_20, ob2, ob_pI, vkk_n, vkk_i, vkk_r, vkk_l, vkk_d, catS_nil, catS_i, catS_r, catS_l, catS_d, Nat.reduceAdd, Nat.reduceLeDiff, Nat.zero_le, Nat.le_refl, Option.bind_some, Option.toList_some, Option.toList_none, List.cons_append, List.nil_append, or_true, true_or, if_true, if_false, Int32.reduceLT, Int32.reduceLE, not_true, not_false_iff, true_and, and_true, false_and, and_false]
  · exact (((Fr_pI _ _ _ _ ⟨rfl, by decide, by decide⟩).tr (Fr_pI _ _ _ _ ⟨rfl, by decide, by decide⟩)).tr (Fr_pI _ _ _ _ ⟨rfl, by decide, by decide⟩)).tr (Fr_pI _ _ _ _ ⟨rfl, by decide, by decide⟩)
  · simp +decide only [gI_pI, gI_wI, isI_pI, isI_wI, (eq_true (isI_ob ob2 rfl : isI h (g + 262) 2)), true_and, and_true, if_true, false_and, and_false, if_false, Nat.reduceEqDiff]
  · simp +decide only [gI_pI, gI_wI, isI_pI, isI_wI, (eq_true (isI_ob ob2 rfl : isI h (g + 262) 3)), true_and, and_true, if_true, false_and, and_false, if_false, Nat.reduceEqDiff]
  · simp +decide only [gI_pI, gI_wI, isI_pI, isI_wI, (eq_true (isI_ob ob2 rfl : isI h (g + 262) 4)), true_and, and_true, if_true, false_and, and_false, if_false, Nat.reduceEqDiff]
  · simp +decide only [gI_pI, gI_wI, isI_pI, isI_wI, (eq_true (isI_ob ob2 rfl : isI h (g + 262) 5)), true_and, and_true, if_true, false_and, and_false, if_false, Nat.reduceEqDiff]
