/-! feed -/
theorem sh32 : ∀ k : Fin 32, ((nI k.val &&& 31).toBitVec.smod 32).toNat = k.val := by decide +kernel
theorem sh32u : ∀ k : Fin 32, (((nI k.val).toUInt32 &&& Int32.toUInt32 31).toBitVec % 32).toNat = k.val := by decide +kernel
/-- the byte that lies k bits up -/
theorem byte_up (x : Int32) {k : Nat} (hk : k ≤ 24) : ((x.toUInt32 >>> ((nI k).toUInt32 &&& Int32.toUInt32 31)).toInt32).toInt8 = (x >>> (nI k &&& 31)).toInt8 := by
  have h1 := sh32 ⟨k, by omega⟩
  have h2 := sh32u ⟨k, by omega⟩
  dsimp only at h1 h2
  have e1 : ((x.toUInt32 >>> ((nI k).toUInt32 &&& Int32.toUInt32 31)).toInt32).toBitVec = x.toBitVec >>> k := by
    have : ((x.toUInt32 >>> ((nI k).toUInt32 &&& Int32.toUInt32 31)).toInt32).toBitVec = x.toBitVec >>> (((nI k).toUInt32 &&& Int32.toUInt32 31).toBitVec % 32) := UInt32.toBitVec_shiftRight _ _
    rw [this, BitVec.ushiftRight_eq', h2]
  have e2 : (x >>> (nI k &&& 31)).toBitVec = x.toBitVec.sshiftRight k := by
    show x.toBitVec.sshiftRight ((nI k &&& 31).toBitVec.smod 32).toNat = _
    rw [h1]
  apply Int8.toBitVec_inj.mp
  show (((x.toUInt32 >>> ((nI k).toUInt32 &&& Int32.toUInt32 31)).toInt32).toBitVec).signExtend 8 = ((x >>> (nI k &&& 31)).toBitVec).signExtend 8
  rw [e1, e2, BitVec.signExtend_eq_setWidth_of_le _ (by decide), BitVec.signExtend_eq_setWidth_of_le _ (by decide)]
  apply BitVec.eq_of_getLsbD_eq
  intro i hi
  rw [BitVec.getLsbD_setWidth, BitVec.getLsbD_setWidth, BitVec.getLsbD_ushiftRight, BitVec.getLsbD_sshiftRight, if_pos (by omega), decide_eq_true hi, decide_eq_false (show ¬ 32 ≤ i by omega)]
  rfl
def tB (x : Int32) (e : Nat) : Int32 := vp_nar .byte (x >>> (nI (24 - 8 * e) &&& 31))
/-- tapes on both sides, t bytes on them -/
def RT2 (h m : VG) (g t : Nat) : Prop := gI h g 1 = nI t ∧ gI m (g + 266) 2 = nI t ∧ ∀ i, i < 2000 → aI h (g + 1) i = aI m (g + 267) i
theorem tp4 {F G : Nat → Int32} {t : Nat} {x : Int32} (h : ∀ j, G j = if j = t + 3 then tB x 3 else if j = t + 2 then tB x 2 else if j = t + 1 then tB x 1 else if j = t then tB x 0 else F j) : ∀ j, G j = if t ≤ j ∧ j < t + 4 then tB x (j - t) else F j := by
  intro j
  rw [h]
  by_cases q : t ≤ j ∧ j < t + 4
  · rw [if_pos q]
    rcases (show j = t ∨ j = t + 1 ∨ j = t + 2 ∨ j = t + 3 by omega) with rfl | rfl | rfl | rfl
    · rw [if_neg (by omega), if_neg (by omega), if_neg (by omega), if_pos rfl, Nat.sub_self]
    · rw [if_neg (by omega), if_neg (by omega), if_pos rfl, show t + 1 - t = 1 by omega]
    · rw [if_neg (by omega), if_pos rfl, show t + 2 - t = 2 by omega]
    · rw [if_pos rfl, show t + 3 - t = 3 by omega]
  · rw [if_neg q, if_neg (by omega), if_neg (by omega), if_neg (by omega), if_neg (by omega)]
set_option maxHeartbeats 4000000 in
theorem c_tape4 (h : VG) (g t : Nat) (x : Int32) (hs : Sh h g) (ht : t + 4 ≤ 2000) (e0 : gI h g 1 = nI t) : ∃ h1, ev 94 0 [some (.ref g), some (.int x), none] [] h = some (none, h1) ∧ Fr (fun a => a = g + 1) (fun a k => a = g ∧ k = 1) h h1 ∧ gI h1 g 1 = nI (t + 4) ∧ ∀ j, aI h1 (g + 1) j = if t ≤ j ∧ j < t + 4 then tB x (j - t) else aI h (g + 1) j := by
  have ho : ob h g 10 := Cls_0 hs.1
  have ha : arI h (g + 1) 2 := Cls_9 hs.1
  have v0 : vp_in (nI t) 2000 := vp_in_nI (by omega) (by decide)
  have v1 : vp_in (nI (t + 1)) 2000 := vp_in_nI (by omega) (by decide)
  have v2 : vp_in (nI (t + 2)) 2000 := vp_in_nI (by omega) (by decide)
  have v3 : vp_in (nI (t + 3)) 2000 := vp_in_nI (by omega) (by decide)
  have d0 : (nI t).toNatClampNeg = t := nI_clamp (by omega)
  have d1 : (nI (t + 1)).toNatClampNeg = t + 1 := nI_clamp (by omega)
  have d2 : (nI (t + 2)).toNatClampNeg = t + 2 := nI_clamp (by omega)
  have d3 : (nI (t + 3)).toNatClampNeg = t + 3 := nI_clamp (by omega)
  have s1 : (24 : Int32) + -8 = 16 := by decide
  have s2 : (16 : Int32) + -8 = 8 := by decide
  have s3 : (8 : Int32) + -8 = 0 := by decide
  have s4 : (0 : Int32) + -8 < 0 := by decide
  have iI := isI_ob ho (k := 1) rfl
  refine ⟨pI (wI (pI (wI (pI (wI (pI (wI h (g + 1) t (vp_nar .byte (x.toUInt32 >>> ((24 : Int32).toUInt32 &&& Int32.toUInt32 31)).toInt32)) g 1 (nI (t + 1))) (g + 1) (t + 1) (vp_nar .byte (x.toUInt32 >>> ((16 : Int32).toUInt32 &&& Int32.toUInt32 31)).toInt32)) g 1 (nI (t + 2))) (g + 1) (t + 2) (vp_nar .byte (x.toUInt32 >>> ((8 : Int32).toUInt32 &&& Int32.toUInt32 31)).toInt32)) g 1 (nI (t + 3))) (g + 1) (t + 3) (vp_nar .byte (x.toUInt32 >>> ((0 : Int32).toUInt32 &&& Int32.toUInt32 31)).toInt32)) g 1 (nI (t + 4)), ?_, ?_, ?_, ?_⟩
  · simp +decide only [e94_0, e94_2, e94_3, e94_4, e94_7, e94_8, e94_11, e94_12, e94_15, e94_16, e94_17, e94_18, e94_19, e94_19z, e94_20, e94_21b, e94_21, e94_22, e94_25, e94_26, e94_27, e94_30, e94_33, e94_36, ho, ha, e0, v0, v1, v2, v3, d0, d1, d2, d3, s1, s2, s3, s4, nI_1, nar_i8, gI_pI, gI_wI, isI_wI, isI_pI, (eq_true iI), true_and, and_true, Nat.add_assoc, Nat.reduceAdd, (Cls_0 hs.1 : ob h g 10), (rf_g (Cls_1 hs.1 : rf h g 0 (g + 1)) : gR h g 0 = (g + 1)), (rf_is (Cls_1 hs.1 : rf h g 0 (g + 1)) : isR h g 0), (Cls_9 hs.1 : arI h (g + 1) 2), (rdB_2 (Cls_9 hs.1 : arI h (g + 1) 2) : rdB h (g + 1)), (Cls_10 hs.1 : aln h (g + 1) = 2000), ob_pI, rf_pI, isR_pI, isI_pI, isL_pI, arI_pI, arL_pI, arR_pI, arD_pI, aln_pI, rdI_pI, rdB_pI, rdR_pI, aR_pI, pI_2, gI_pI, gL_pI, gD_pI, gR_pI, aI_pI, aL_pI, aD_pI, ob_pL, rf_pL, isR_pL, isI_pL, isL_pL, arI_pL, arL_pL, arR_pL, arD_pL, aln_pL, rdI_pL, rdB_pL, rdR_pL, aR_pL, pL_2, gI_pL, gL_pL, gD_pL, gR_pL, aI_pL, aL_pL, aD_pL, ob_wI, rf_wI, isR_wI, isI_wI, isL_wI, arI_wI, arL_wI, arR_wI, arD_wI, aln_wI, rdI_wI, rdB_wI, rdR_wI, aR_wI, wI_2, gI_wI, gL_wI, gD_wI, gR_wI, aL_wI, aD_wI, aI_wI_ne, ob_wL, rf_wL, isR_wL, isI_wL, isL_wL, arI_wL, arL_wL, arR_wL, arD_wL, aln_wL, rdI_wL, rdB_wL, rdR_wL, aR_wL, wL_2, gI_wL, gL_wL, gD_wL, gR_wL, aI_wL, aD_wL, aL_wL_ne, ob_bI, rf_bI, isR_bI, isI_bI, isL_bI, arI_bI, arL_bI, arR_bI, arD_bI, aln_bI, rdI_bI, rdB_bI, rdR_bI, aR_bI, bI_2, gI_bI, gL_bI, gD_bI, gR_bI, aL_bI, aD_bI, aI_bI_ne, ob_bL, rf_bL, isR_bL, isI_bL, isL_bL, arI_bL, arL_bL, arR_bL, arD_bL, aln_bL, rdI_bL, rdB_bL, rdR_bL, aR_bL, bL_2, gI_bL, gL_bL, gD_bL, gR_bL, aI_bL, aD_bL, aL_bL_ne, vkk_n, vkk_i, vkk_r, vkk_l, vkk_d, catS_nil, catS_i, catS_r, catS_l, catS_d, Nat.reduceAdd, Nat.reduceLeDiff, Nat.zero_le, Nat.le_refl, Option.bind_some, Option.toList_some, Option.toList_none, List.cons_append, List.nil_append, or_true, true_or, if_true, if_false, Int32.reduceLT, Int32.reduceLE, not_true, not_false_iff, true_and, and_true, false_and, and_false]
  · refine Fr.tr ?_ (Fr_pI _ _ _ _ ⟨rfl, rfl⟩)
    refine Fr.tr ?_ (Fr_wI _ _ _ _ rfl)
    refine Fr.tr ?_ (Fr_pI _ _ _ _ ⟨rfl, rfl⟩)
    refine Fr.tr ?_ (Fr_wI _ _ _ _ rfl)
    refine Fr.tr ?_ (Fr_pI _ _ _ _ ⟨rfl, rfl⟩)
    refine Fr.tr ?_ (Fr_wI _ _ _ _ rfl)
    refine Fr.tr ?_ (Fr_pI _ _ _ _ ⟨rfl, rfl⟩)
    exact Fr_wI _ _ _ _ rfl
  · simp +decide only [gI_pI, gI_wI, isI_wI, isI_pI, (eq_true iI), true_and, and_true, if_true]
  · refine tp4 fun j => ?_
    rw [aI_pI, aI_wI2 _ _ _ _ _ _ (by simp only [arI_pI, arI_wI]; exact ha), aI_pI, aI_wI2 _ _ _ _ _ _ (by simp only [arI_pI, arI_wI]; exact ha), aI_pI, aI_wI2 _ _ _ _ _ _ (by simp only [arI_pI, arI_wI]; exact ha), aI_pI, aI_wI2 _ _ _ _ _ _ ha]
    simp only [true_and]
    have z0 : vp_nar .byte (x.toUInt32 >>> ((24 : Int32).toUInt32 &&& Int32.toUInt32 31)).toInt32 = tB x 0 := by
      unfold tB
      rw [vp_nar_byte, vp_nar_byte]
      exact congrArg Int8.toInt32 (byte_up x (k := 24) (by decide))
    have z1 : vp_nar .byte (x.toUInt32 >>> ((16 : Int32).toUInt32 &&& Int32.toUInt32 31)).toInt32 = tB x 1 := by
      unfold tB
      rw [vp_nar_byte, vp_nar_byte]
      exact congrArg Int8.toInt32 (byte_up x (k := 16) (by decide))
    have z2 : vp_nar .byte (x.toUInt32 >>> ((8 : Int32).toUInt32 &&& Int32.toUInt32 31)).toInt32 = tB x 2 := by
      unfold tB
      rw [vp_nar_byte, vp_nar_byte]
      exact congrArg Int8.toInt32 (byte_up x (k := 8) (by decide))
    have z3 : vp_nar .byte (x.toUInt32 >>> ((0 : Int32).toUInt32 &&& Int32.toUInt32 31)).toInt32 = tB x 3 := by
      unfold tB
      rw [vp_nar_byte, vp_nar_byte]
      exact congrArg Int8.toInt32 (byte_up x (k := 0) (by decide))
    rw [z0, z1, z2, z3]
set_option maxHeartbeats 4000000 in
theorem c_lays4 (h : VG) (g t : Nat) (x : Int32) (hs : Sh h g) (ht : t + 4 ≤ 2000) (e0 : gI h (g + 266) 2 = nI t) : ∃ h1, ev 138 0 [some (.ref (g + 266)), some (.int x), none] [] h = some (none, h1) ∧ Fr (fun a => a = g + 267) (fun a k => a = (g + 266) ∧ k = 2) h h1 ∧ gI h1 (g + 266) 2 = nI (t + 4) ∧ ∀ j, aI h1 (g + 267) j = if t ≤ j ∧ j < t + 4 then tB x (j - t) else aI h (g + 267) j := by
  have ho : ob h (g + 266) 11 := Mod_0 hs.2.1
  have ha : arI h (g + 267) 2 := Mod_2 hs.2.1
  have v0 : vp_in (nI t) 2000 := vp_in_nI (by omega) (by decide)
  have v1 : vp_in (nI (t + 1)) 2000 := vp_in_nI (by omega) (by decide)
  have v2 : vp_in (nI (t + 2)) 2000 := vp_in_nI (by omega) (by decide)
  have v3 : vp_in (nI (t + 3)) 2000 := vp_in_nI (by omega) (by decide)
  have d0 : (nI t).toNatClampNeg = t := nI_clamp (by omega)
  have d1 : (nI (t + 1)).toNatClampNeg = t + 1 := nI_clamp (by omega)
  have d2 : (nI (t + 2)).toNatClampNeg = t + 2 := nI_clamp (by omega)
  have d3 : (nI (t + 3)).toNatClampNeg = t + 3 := nI_clamp (by omega)
  have s1 : (24 : Int32) + -8 = 16 := by decide
  have s2 : (16 : Int32) + -8 = 8 := by decide
  have s3 : (8 : Int32) + -8 = 0 := by decide
  have s4 : (0 : Int32) + -8 < 0 := by decide
  have iI := isI_ob ho (k := 2) rfl
  refine ⟨pI (wI (pI (wI (pI (wI (pI (wI h (g + 267) t (vp_nar .byte (x >>> ((24 : Int32) &&& 31)))) (g + 266) 2 (nI (t + 1))) (g + 267) (t + 1) (vp_nar .byte (x >>> ((16 : Int32) &&& 31)))) (g + 266) 2 (nI (t + 2))) (g + 267) (t + 2) (vp_nar .byte (x >>> ((8 : Int32) &&& 31)))) (g + 266) 2 (nI (t + 3))) (g + 267) (t + 3) (vp_nar .byte (x >>> ((0 : Int32) &&& 31)))) (g + 266) 2 (nI (t + 4)), ?_, ?_, ?_, ?_⟩
  · simp +decide only [e138_0, e138_2, e138_3, e138_4, e138_7, e138_8, e138_11, e138_12, e138_15, e138_16, e138_17, e138_18, e138_19, e138_19z, e138_20, e138_21b, e138_21, e138_22, e138_25, e138_26, e138_27, e138_30, e138_33, e138_36, ho, ha, e0, v0, v1, v2, v3, d0, d1, d2, d3, s1, s2, s3, s4, nI_1, nar_i8, gI_pI, gI_wI, isI_wI, isI_pI, (eq_true iI), true_and, and_true, Nat.add_assoc, Nat.reduceAdd, (Mod_0 hs.2.1 : ob h (g + 266) 11), (rf_g (Mod_1 hs.2.1 : rf h (g + 266) 1 (g + 267)) : gR h (g + 266) 1 = (g + 267)), (rf_is (Mod_1 hs.2.1 : rf h (g + 266) 1 (g + 267)) : isR h (g + 266) 1), (Mod_2 hs.2.1 : arI h (g + 267) 2), (rdB_2 (Mod_2 hs.2.1 : arI h (g + 267) 2) : rdB h (g + 267)), (Mod_3 hs.2.1 : aln h (g + 267) = 2000), ob_pI, rf_pI, isR_pI, isI_pI, isL_pI, arI_pI, arL_pI, arR_pI, arD_pI, aln_pI, rdI_pI, rdB_pI, rdR_pI, aR_pI, pI_2, gI_pI, gL_pI, gD_pI, gR_pI, aI_pI, aL_pI, aD_pI, ob_pL, rf_pL, isR_pL, isI_pL, isL_pL, arI_pL, arL_pL, arR_pL, arD_pL, aln_pL, rdI_pL, rdB_pL, rdR_pL, aR_pL, pL_2, gI_pL, gL_pL, gD_pL, gR_pL, aI_pL, aL_pL, aD_pL, ob_wI, rf_wI, isR_wI, isI_wI, isL_wI, arI_wI, arL_wI, arR_wI, arD_wI, aln_wI, rdI_wI, rdB_wI, rdR_wI, aR_wI, wI_2, gI_wI, gL_wI, gD_wI, gR_wI, aL_wI, aD_wI, aI_wI_ne, ob_wL, rf_wL, isR_wL, isI_wL, isL_wL, arI_wL, arL_wL, arR_wL, arD_wL, aln_wL, rdI_wL, rdB_wL, rdR_wL, aR_wL, wL_2, gI_wL, gL_wL, gD_wL, gR_wL, aI_wL, aD_wL, aL_wL_ne, ob_bI, rf_bI, isR_bI, isI_bI, isL_bI, arI_bI, arL_bI, arR_bI, arD_bI, aln_bI, rdI_bI, rdB_bI, rdR_bI, aR_bI, bI_2, gI_bI, gL_bI, gD_bI, gR_bI, aL_bI, aD_bI, aI_bI_ne, ob_bL, rf_bL, isR_bL, isI_bL, isL_bL, arI_bL, arL_bL, arR_bL, arD_bL, aln_bL, rdI_bL, rdB_bL, rdR_bL, aR_bL, bL_2, gI_bL, gL_bL, gD_bL, gR_bL, aI_bL, aD_bL, aL_bL_ne, vkk_n, vkk_i, vkk_r, vkk_l, vkk_d, catS_nil, catS_i, catS_r, catS_l, catS_d, Nat.reduceAdd, Nat.reduceLeDiff, Nat.zero_le, Nat.le_refl, Option.bind_some, Option.toList_some, Option.toList_none, List.cons_append, List.nil_append, or_true, true_or, if_true, if_false, Int32.reduceLT, Int32.reduceLE, not_true, not_false_iff, true_and, and_true, false_and, and_false]
  · refine Fr.tr ?_ (Fr_pI _ _ _ _ ⟨rfl, rfl⟩)
    refine Fr.tr ?_ (Fr_wI _ _ _ _ rfl)
    refine Fr.tr ?_ (Fr_pI _ _ _ _ ⟨rfl, rfl⟩)
    refine Fr.tr ?_ (Fr_wI _ _ _ _ rfl)
    refine Fr.tr ?_ (Fr_pI _ _ _ _ ⟨rfl, rfl⟩)
    refine Fr.tr ?_ (Fr_wI _ _ _ _ rfl)
    refine Fr.tr ?_ (Fr_pI _ _ _ _ ⟨rfl, rfl⟩)
    exact Fr_wI _ _ _ _ rfl
  · simp +decide only [gI_pI, gI_wI, isI_wI, isI_pI, (eq_true iI), true_and, and_true, if_true]
  · refine tp4 fun j => ?_
    rw [aI_pI, aI_wI2 _ _ _ _ _ _ (by simp only [arI_pI, arI_wI]; exact ha), aI_pI, aI_wI2 _ _ _ _ _ _ (by simp only [arI_pI, arI_wI]; exact ha), aI_pI, aI_wI2 _ _ _ _ _ _ (by simp only [arI_pI, arI_wI]; exact ha), aI_pI, aI_wI2 _ _ _ _ _ _ ha]
    simp only [true_and]
    rfl
theorem RT2_up {h h1 m m1 : VG} {g t : Nat} {x : Int32} (ht : t + 4 ≤ 2000) (r : RT2 h m g t) (a1 : gI h1 g 1 = nI (t + 4)) (a2 : ∀ j, aI h1 (g + 1) j = if t ≤ j ∧ j < t + 4 then tB x (j - t) else aI h (g + 1) j) (b1 : gI m1 (g + 266) 2 = nI (t + 4)) (b2 : ∀ j, aI m1 (g + 267) j = if t ≤ j ∧ j < t + 4 then tB x (j - t) else aI m (g + 267) j) : RT2 h1 m1 g (t + 4) := by
  refine ⟨a1, b1, fun i hi => ?_⟩
  rw [a2, b2, r.2.2 i hi]
theorem tp_fit {h h1 : VG} {g t : Nat} {x : Int32} (w : ∀ i, i < 2000 → ∃ v, aI h (g + 1) i = vp_nar .byte v) (c : ∀ j, aI h1 (g + 1) j = if t ≤ j ∧ j < t + 4 then tB x (j - t) else aI h (g + 1) j) : ∀ i, i < 2000 → ∃ v, aI h1 (g + 1) i = vp_nar .byte v := by
  intro i hi
  rw [c i]
  by_cases q : t ≤ i ∧ i < t + 4
  · rw [if_pos q]
    exact ⟨_, rfl⟩
  · rw [if_neg q]
    exact w i hi
def T1 (g : Nat) : Nat → Prop := fun a => a = g + 1
def T2 (g : Nat) : Nat → Prop := fun a => a = g + 267
theorem k_feed (h : VG) (g : Nat) (R : Inv h g) (a b c d e : Int32) : CalI h g 93 [some (.ref g), some (.int a), some (.int b), some (.int c), some (.int d), some (.int e)] 137 [some (.ref (g + 266)), some (.int a), some (.int b), some (.int c), some (.int d), some (.int e)] := by
  obtain ⟨⟨t, t1, t2, t3⟩, t4⟩ := R.tape
  have ho : ob h g 10 := Cls_0 R.cls
  have hm : ob h (g + 266) 11 := Mod_0 R.mod
  by_cases q : t + 20 ≤ 2000
  · have q0 : nI t + 20 ≤ 2000 := by
      rw [show (20 : Int32) = nI 20 from rfl, nI_add]
      exact nI_le (b := 2000) q (by decide)
    obtain ⟨h1, u1, f1, g1, c1⟩ := c_tape4 h g t a R.sh (by omega) t2
    have s1 : Sh h1 g := Sh_fr f1 (fun a z => by omega) R.sh
    obtain ⟨h2, u2, f2, g2, c2⟩ := c_tape4 h1 g (t + 4) b s1 (by omega) g1
    have s2 : Sh h2 g := Sh_fr f2 (fun a z => by omega) s1
    obtain ⟨h3, u3, f3, g3, c3⟩ := c_tape4 h2 g (t + 8) c s2 (by omega) g2
    have s3 : Sh h3 g := Sh_fr f3 (fun a z => by omega) s2
    obtain ⟨h4, u4, f4, g4, c4⟩ := c_tape4 h3 g (t + 12) d s3 (by omega) g3
    have s4 : Sh h4 g := Sh_fr f4 (fun a z => by omega) s3
    obtain ⟨h5, u5, f5, g5, c5⟩ := c_tape4 h4 g (t + 16) e s4 (by omega) g4
    have s5 : Sh h5 g := Sh_fr f5 (fun a z => by omega) s4
    have F := (((f1.tr f2).tr f3).tr f4).tr f5
    have t3' : gI h5 (g + 266) 2 = nI t := (F.gI (fun z => by omega)).trans t3
    obtain ⟨m1, v1, k1, n1, d1⟩ := c_lays4 h5 g t a s5 (by omega) t3'
    have y1 : Sh m1 g := Sh_fr k1 (fun a z => by omega) s5
    obtain ⟨m2, v2, k2, n2, d2⟩ := c_lays4 m1 g (t + 4) b y1 (by omega) n1
    have y2 : Sh m2 g := Sh_fr k2 (fun a z => by omega) y1
    obtain ⟨m3, v3, k3, n3, d3⟩ := c_lays4 m2 g (t + 8) c y2 (by omega) n2
    have y3 : Sh m3 g := Sh_fr k3 (fun a z => by omega) y2
    obtain ⟨m4, v4, k4, n4, d4⟩ := c_lays4 m3 g (t + 12) d y3 (by omega) n3
    have y4 : Sh m4 g := Sh_fr k4 (fun a z => by omega) y3
    obtain ⟨m5, v5, k5, n5, d5⟩ := c_lays4 m4 g (t + 16) e y4 (by omega) n4
    have y5 : Sh m5 g := Sh_fr k5 (fun a z => by omega) y4
    have K := (((k1.tr k2).tr k3).tr k4).tr k5
    have r0 : RT2 h h5 g t := ⟨t2, t3', fun i hi => (t4 i hi).1.trans (F.I (a := g + 267) (fun z => by omega) i).symm⟩
    have r1 := RT2_up (by omega) r0 g1 c1 n1 d1
    have r2 := RT2_up (by omega) r1 g2 c2 n2 d2
    have r3 := RT2_up (by omega) r2 g3 c3 n3 d3
    have r4 := RT2_up (by omega) r3 g4 c4 n4 d4
    have r5 := RT2_up (by omega) r4 g5 c5 n5 d5
    have w5 := tp_fit (tp_fit (tp_fit (tp_fit (tp_fit (fun i hi => (t4 i hi).2) c1) c2) c3) c4) c5
    have hg : ∀ x k, ob h x k → ob h1 x k ∧ ob h2 x k ∧ ob h3 x k ∧ ob h4 x k ∧ ob h5 x k := fun x k z => ⟨(ob_kp f1.1 ..).mpr z, (ob_kp (f1.tr f2).1 ..).mpr z, (ob_kp ((f1.tr f2).tr f3).1 ..).mpr z, (ob_kp (((f1.tr f2).tr f3).tr f4).1 ..).mpr z, (ob_kp F.1 ..).mpr z⟩
    obtain ⟨o1, o2, o3, o4, o5⟩ := hg g 10 ho
    have p0 := (hg (g + 266) 11 hm).2.2.2.2
    have p1 : ob m1 (g + 266) 11 := Mod_0 y1.2.1
    have p2 : ob m2 (g + 266) 11 := Mod_0 y2.2.1
    have p3 : ob m3 (g + 266) 11 := Mod_0 y3.2.1
    have p4 : ob m4 (g + 266) 11 := Mod_0 y4.2.1
    have p5 : ob m5 (g + 266) 11 := Mod_0 y5.2.1
    refine ⟨nI (t + 20), h5, m5, ?_, ?_, ?_, K.two.trans F.two⟩
    · simp +decide only [e93_0, e93_1, e93_4, e93_6, e93_7, e93_10, e93_13, e93_14, e93_15, e93_16, e93_17, e93_20, e93_21, e93_22, e93_25, e93_26, e93_27, e93_30, e93_31, e93_33, e93_36, e93_37, e93_39, e93_42, e93_43, e93_46, ho, o1, o2, o3, o4, o5, t2, q0, u1, u2, u3, u4, u5, g5, vkk_n, vkk_i, vkk_r, vkk_l, vkk_d, catS_nil, catS_i, catS_r, catS_l, catS_d, Nat.reduceAdd, Nat.reduceLeDiff, Nat.zero_le, Nat.le_refl, Option.bind_some, Option.toList_some, Option.toList_none, List.cons_append, List.nil_append, or_true, true_or, if_true, if_false, Int32.reduceLT, Int32.reduceLE, not_true, not_false_iff, true_and, and_true, false_and, and_false]
    · simp +decide only [e137_0, e137_1, e137_4, e137_6, e137_7, e137_10, e137_13, e137_14, e137_15, e137_16, e137_17, e137_20, e137_21, e137_22, e137_25, e137_26, e137_27, e137_30, e137_31, e137_33, e137_36, e137_37, e137_39, e137_42, e137_43, e137_46, p0, p1, p2, p3, p4, p5, t3', q0, v1, v2, v3, v4, v5, n5, vkk_n, vkk_i, vkk_r, vkk_l, vkk_d, catS_nil, catS_i, catS_r, catS_l, catS_d, Nat.reduceAdd, Nat.reduceLeDiff, Nat.zero_le, Nat.le_refl, Option.bind_some, Option.toList_some, Option.toList_none, List.cons_append, List.nil_append, or_true, true_or, if_true, if_false, Int32.reduceLT, Int32.reduceLE, not_true, not_false_iff, true_and, and_true, false_and, and_false]
    · have zz := F.un K
      have rt : RTape m5 g := by
        refine ⟨⟨t + 20, by omega, (K.gI (fun z => by omega)).trans r5.1, r5.2.1⟩, fun i hi => ?_⟩
        rw [K.I (a := g + 1) (fun z => by omega)]
        exact ⟨r5.2.2 i hi, w5 i hi⟩
      have cR : ∀ a, (a = g + 1 ∨ a = g + 267) → a = g + 1 ∨ a = g + 267 := fun a q => q
      have dF : ∀ a k, ((a = g ∧ k = 1) ∨ (a = g + 266 ∧ k = 2)) → (a = g ∧ k = 1) ∨ (a = g + 266 ∧ k = 2) := fun a k q => q
      refine ⟨⟨Sh_fr zz ?_ R.sh, rt, RAns_fr zz ?_ R.ans, RHd_fr zz ?_ R.hd, RMem_fr zz ?_ R.mem, RReg_fr zz ?_ R.reg, RBins_fr zz ?_ ?_ R.bins, RSl_fr (by decide) zz ?_ ?_ R.sl0, RSl_fr (by decide) zz ?_ ?_ R.sl1, RPl_fr zz ?_ ?_ R.pl⟩, RCn_fr zz ?_ ?_ R.cn⟩
      all_goals first | (intro a q; have := cR a q; omega) | (intro a k q; have := dF a k q; omega) | (intro q; have := dF _ _ q; omega) | (intro q; have := cR _ q; omega)
  · have q0 : ¬ nI t + 20 ≤ 2000 := by
      rw [show (20 : Int32) = nI 20 from rfl, nI_add]
      exact nI_ge (a := 2000) (by omega) (by omega)
    refine ⟨-1, h, h, ?_, ?_, R, rfl⟩
    · simp +decide only [e93_0, e93_1, e93_4, e93_6, e93_7, e93_10, e93_13, e93_14, e93_15, e93_16, e93_17, e93_20, e93_21, e93_22, e93_25, e93_26, e93_27, e93_30, e93_31, e93_33, e93_36, e93_37, e93_39, e93_42, e93_43, e93_46, ho, t2, q0, vkk_n, vkk_i, vkk_r, vkk_l, vkk_d, catS_nil, catS_i, catS_r, catS_l, catS_d, Nat.reduceAdd, Nat.reduceLeDiff, Nat.zero_le, Nat.le_refl, Option.bind_some, Option.toList_some, Option.toList_none, List.cons_append, List.nil_append, or_true, true_or, if_true, if_false, Int32.reduceLT, Int32.reduceLE, not_true, not_false_iff, true_and, and_true, false_and, and_false]
    · simp +decide only [e137_0, e137_1, e137_4, e137_6, e137_7, e137_10, e137_13, e137_14, e137_15, e137_16, e137_17, e137_20, e137_21, e137_22, e137_25, e137_26, e137_27, e137_30, e137_31, e137_33, e137_36, e137_37, e137_39, e137_42, e137_43, e137_46, hm, t3, q0, vkk_n, vkk_i, vkk_r, vkk_l, vkk_d, catS_nil, catS_i, catS_r, catS_l, catS_d, Nat.reduceAdd, Nat.reduceLeDiff, Nat.zero_le, Nat.le_refl, Option.bind_some, Option.toList_some, Option.toList_none, List.cons_append, List.nil_append, or_true, true_or, if_true, if_false, Int32.reduceLT, Int32.reduceLE, not_true, not_false_iff, true_and, and_true, false_and, and_false]
