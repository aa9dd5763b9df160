/-! store, the call -/
set_option maxHeartbeats 4000000 in
theorem k_store (h : VG) (g : Nat) (R : Inv h g) (f b a : Int32) : CalI h g 122 [some (.ref g), some (.int f), some (.int b), some (.int a), none, none, none, none] 216 [some (.ref (g + 266)), some (.int f), some (.int b), some (.int a), none, none, none] := by
  obtain ⟨l, fr, l1, l2, l3, e1, e2, e3, e4, e5, e6⟩ := R.hd
  have ho : ob h g 10 := Cls_0 R.cls
  have hm : ob h (g + 266) 11 := Mod_0 R.mod
  have F0 := cRf_fr h g 0
  have sH : Sh (cRf h g 0) g := cRf_sh R.sh
  have om0 : ob (cRf h g 0) (g + 266) 11 := cRf_ob.mpr hm
  have pH : RPl (cRf h g 0) g := RPl_fr F0 (fun a z => z.elim) (fun a k z => by unfold AC at z; omega) R.pl
  have kH : Kb (cRf h g 0) g := Kb_fr F0 (fun z => z) (fun z => z) R.cn.1
  have rH : pI h g 9 0 = cRf h g 0 := rfl
  have sM : Sh (pI (cRf h g 0) (g + 266) 31 0) g := m0_sh sH
  have gM : gI (pI (cRf h g 0) (g + 266) 31 0) (g + 266) 19 = gI (cRf h g 0) (g + 266) 19 := (m0_fr (cRf h g 0) (g + 266)).gI (fun z => by unfold AM at z; omega)
  rcases form_ok (cRf h g 0) g f sH pH kH with ⟨iC, iM⟩ | ⟨fN, P, Q, N, C, rfl, f6, iC, iM, rP, hP, aRow, Q1, Q2, fq, C10, N1, N32, mq⟩
  · have iM' := iM _ sM gM
    refine ⟨-1, cRf h g 0, mRf (cRf h g 0) (g + 266) 0, ?_, ?_, Inv_bad R, ((mRf_fr ..).two.trans F0.two)⟩
    · simp +decide only [e122_0, e122_1, e122_2, ho, rH, vkk_n, vkk_i, vkk_r, vkk_l, vkk_d, catS_nil, catS_i, catS_r, catS_l, catS_d, Nat.reduceAdd, Nat.reduceLeDiff, Nat.zero_le, Nat.le_refl, Option.bind_some, Option.toList_some, Option.toList_none, List.cons_append, List.nil_append, or_true, true_or, if_true, if_false, Int32.reduceLT, Int32.reduceLE, not_true, not_false_iff, true_and, and_true, false_and, and_false]
      have oH := Cls_0 sH.1
      generalize cRf h g 0 = H at iC oH ⊢
      simp +decide only [e122_5, e122_6, e122_7, e122_10, e122_13, e122_14, e122_17, e122_20, e122_21, oH, iC, vkk_n, vkk_i, vkk_r, vkk_l, vkk_d, catS_nil, catS_i, catS_r, catS_l, catS_d, Nat.reduceAdd, Nat.reduceLeDiff, Nat.zero_le, Nat.le_refl, Option.bind_some, Option.toList_some, Option.toList_none, List.cons_append, List.nil_append, or_true, true_or, if_true, if_false, Int32.reduceLT, Int32.reduceLE, not_true, not_false_iff, true_and, and_true, false_and, and_false]
    · rw [mRf_0]
      have om1 := Mod_0 sM.2.1
      simp +decide only [e216_0, e216_1, e216_2, om0, vkk_n, vkk_i, vkk_r, vkk_l, vkk_d, catS_nil, catS_i, catS_r, catS_l, catS_d, Nat.reduceAdd, Nat.reduceLeDiff, Nat.zero_le, Nat.le_refl, Option.bind_some, Option.toList_some, Option.toList_none, List.cons_append, List.nil_append, or_true, true_or, if_true, if_false, Int32.reduceLT, Int32.reduceLE, not_true, not_false_iff, true_and, and_true, false_and, and_false]
      generalize pI (cRf h g 0) (g + 266) 31 0 = H at iM' om1 ⊢
      simp +decide only [e216_5, e216_6, e216_7, e216_10, e216_13, e216_14, e216_17, e216_20, e216_21, om1, iM', vkk_n, vkk_i, vkk_r, vkk_l, vkk_d, catS_nil, catS_i, catS_r, catS_l, catS_d, Nat.reduceAdd, Nat.reduceLeDiff, Nat.zero_le, Nat.le_refl, Option.bind_some, Option.toList_some, Option.toList_none, List.cons_append, List.nil_append, or_true, true_or, if_true, if_false, Int32.reduceLT, Int32.reduceLE, not_true, not_false_iff, true_and, and_true, false_and, and_false]
  rcases c_bn (b := b) with ⟨b, hb, rfl⟩ | ⟨q1, q2⟩
  case inr =>
    have i1 := fun h => isBin_c (h := h) q1
    have j1 := fun h => mBin_c (h := h) q2
    have iM' := iM _ sM gM
    refine ⟨-1, cRf h g 0, mRf (cRf h g 0) (g + 266) 0, ?_, ?_, Inv_bad R, ((mRf_fr ..).two.trans F0.two)⟩
    · simp +decide only [e122_0, e122_1, e122_2, ho, rH, vkk_n, vkk_i, vkk_r, vkk_l, vkk_d, catS_nil, catS_i, catS_r, catS_l, catS_d, Nat.reduceAdd, Nat.reduceLeDiff, Nat.zero_le, Nat.le_refl, Option.bind_some, Option.toList_some, Option.toList_none, List.cons_append, List.nil_append, or_true, true_or, if_true, if_false, Int32.reduceLT, Int32.reduceLE, not_true, not_false_iff, true_and, and_true, false_and, and_false]
      have oH := Cls_0 sH.1
      generalize cRf h g 0 = H at iC oH ⊢
      simp +decide only [e122_5, e122_6, e122_7, e122_10, e122_13, e122_14, e122_17, e122_20, e122_21, oH, iC, i1, vkk_n, vkk_i, vkk_r, vkk_l, vkk_d, catS_nil, catS_i, catS_r, catS_l, catS_d, Nat.reduceAdd, Nat.reduceLeDiff, Nat.zero_le, Nat.le_refl, Option.bind_some, Option.toList_some, Option.toList_none, List.cons_append, List.nil_append, or_true, true_or, if_true, if_false, Int32.reduceLT, Int32.reduceLE, not_true, not_false_iff, true_and, and_true, false_and, and_false]
    · rw [mRf_0]
      have om1 := Mod_0 sM.2.1
      simp +decide only [e216_0, e216_1, e216_2, om0, vkk_n, vkk_i, vkk_r, vkk_l, vkk_d, catS_nil, catS_i, catS_r, catS_l, catS_d, Nat.reduceAdd, Nat.reduceLeDiff, Nat.zero_le, Nat.le_refl, Option.bind_some, Option.toList_some, Option.toList_none, List.cons_append, List.nil_append, or_true, true_or, if_true, if_false, Int32.reduceLT, Int32.reduceLE, not_true, not_false_iff, true_and, and_true, false_and, and_false]
      generalize pI (cRf h g 0) (g + 266) 31 0 = H at iM' om1 ⊢
      simp +decide only [e216_5, e216_6, e216_7, e216_10, e216_13, e216_14, e216_17, e216_20, e216_21, om1, iM', j1, vkk_n, vkk_i, vkk_r, vkk_l, vkk_d, catS_nil, catS_i, catS_r, catS_l, catS_d, Nat.reduceAdd, Nat.reduceLeDiff, Nat.zero_le, Nat.le_refl, Option.bind_some, Option.toList_some, Option.toList_none, List.cons_append, List.nil_append, or_true, true_or, if_true, if_false, Int32.reduceLT, Int32.reduceLE, not_true, not_false_iff, true_and, and_true, false_and, and_false]
  have i1 := fun h => isBin_c (h := h) (c_bn1 hb).1
  have j1 := fun h => mBin_c (h := h) (c_bn1 hb).2
  have w1 : vp_in (nI b) 8 := vp_in_nI hb (by decide)
  have w2 : (nI b).toNatClampNeg = b := nI_clamp (by omega)
  obtain ⟨hBs, eB⟩ := bin_sh sH hb
  have le := lCell_le 0 C N 0 C10 (by omega)
  have le2 := (nBy_le (C 0) (C10 0 (by omega)) 0).1
  have le3 := lSiz_le 0 C N C10 N32
  have v1 : vp_in (nI fN) 6 := vp_in_nI f6 (by decide)
  have v2 : (nI fN).toNatClampNeg = fN := nI_clamp (by omega)
  have oH := Cls_0 sH.1
  have el : gI (cRf h g 0) (g + 173) 1 = nI l := (F0.gI (fun z => by unfold AC at z; omega)).trans e1
  have cr := fun f => c_refuses (cRf h g 0) g f oH
  have ent : ev 122 0 [some (.ref g), some (.int (nI fN)), some (.int (nI b)), some (.int a), none, none, none, none] [] h = ev 122 22 [some (.ref g), some (.int (nI fN)), some (.int (nI b)), some (.int a), none, none, none, none] [] (cRf h g 0) := by
    simp +decide only [e122_0, e122_1, e122_2, ho, rH, vkk_n, vkk_i, vkk_r, vkk_l, vkk_d, catS_nil, catS_i, catS_r, catS_l, catS_d, Nat.reduceAdd, Nat.reduceLeDiff, Nat.zero_le, Nat.le_refl, Option.bind_some, Option.toList_some, Option.toList_none, List.cons_append, List.nil_append, or_true, true_or, if_true, if_false, Int32.reduceLT, Int32.reduceLE, not_true, not_false_iff, true_and, and_true, false_and, and_false]
    generalize cRf h g 0 = H at iC oH ⊢
    simp +decide only [e122_5, e122_6, e122_7, e122_10, e122_13, e122_14, e122_17, e122_20, e122_21, oH, iC, i1, vkk_n, vkk_i, vkk_r, vkk_l, vkk_d, catS_nil, catS_i, catS_r, catS_l, catS_d, Nat.reduceAdd, Nat.reduceLeDiff, Nat.zero_le, Nat.le_refl, Option.bind_some, Option.toList_some, Option.toList_none, List.cons_append, List.nil_append, or_true, true_or, if_true, if_false, Int32.reduceLT, Int32.reduceLE, not_true, not_false_iff, true_and, and_true, false_and, and_false]
  rcases there_ok l2 (show lSiz 0 C N < 1073741824 by omega) a with ⟨q1, q2, q3⟩ | ⟨q1, q2⟩
  case inr =>
    have cq := cr 5
    rw [if_neg (by decide), rfs_cRf h g _ ho] at cq
    have om5 : ob (cRf h g 5) (g + 266) 11 := cRf_ob.mpr hm
    have m0f := m0_fr (cRf h g 5) (g + 266)
    have X := cRf_fr h g 5
    have s5 : Sh (pI (cRf h g 5) (g + 266) 31 0) g := m0_sh (cRf_sh R.sh)
    have XX := X.un m0f
    have mq5 : MQf (pI (cRf h g 5) (g + 266) 31 0) g fN N C := MQf_fr m0f (fun a z => z.elim) (MQ_cRf 5 mq)
    obtain ⟨m0, k1, k2, k3, k4⟩ := mq_lays 0 mq5
    have om6 := ml_sm k4
    obtain ⟨m1, c1, c2, c3⟩ := c_clears m0 g k4.1
    have k5 := MLf_fr c2 (fun a z => by omega) k4
    have om7 := ml_sm k5
    have nc := mq_cells k5.mq
    have mf := mRf_fr m1 (g + 266) 5
    have m2 := (msy_0 m1 (g + 266) 5 (by decide) om7).2
    have kk := k2.un c2
    have Y := (m0f.un kk).un mf
    have g18 : gI m0 (g + 266) 18 = nI l := (k2.gI (fun z => by omega)).trans ((XX.gI (fun z => by unfold AC AM at z; omega)).trans e2)
    have t1 := c_m_isThere m0 (g + 266) a (nI (lSiz 0 C N)) om6
    rw [g18, q2] at t1
    have ma : MA (cRf h g 5) (mRf m1 (g + 266) 5) (g + 266) 5 := fr_ma (R1 := NR) (F1 := NF) 5 kk (fun z => by simp only [NF, or_false] at z; omega) om7
    have iM' := iM _ s5 ((XX.gI (fun z => by unfold AC AM at z; omega)).trans (F0.gI (fun z => by unfold AC at z; omega)).symm)
    have qN : nI 0 < nI N := nI_lt (by omega) (by omega)
    have qN : (0 : Int32) < nI N := qN
    refine ⟨-1, cRf h g 5, mRf m1 (g + 266) 5, ?_, ?_, ?_, Y.two.trans X.two⟩
    · rw [ent]
      generalize cRf h g 5 = H5 at cq
      generalize cRf h g 0 = H at rP hP aRow fq oH el cq sH eB
      simp +decide only [e122_22, e122_23, e122_26, e122_29, e122_30, e122_31, e122_33, e122_34, e122_37, e122_40, e122_41, e122_42, e122_44, e122_45, e122_46, e122_49, e122_52, e122_53, e122_54, e122_56, e122_59, e122_62, e122_65, e122_68, e122_71, e122_72, oH, rf_g rP, rf_is rP, aRow, vrf_some, v1, v2, w1, w2, eB, el, q1, cq, c_refusalOf, (Plan_0 hP : ob H P 6), (eq_true (isI_ob (Plan_0 hP : ob H P 6) rfl : isI H P 2)), (rf_g (Plan_1 hP : rf H P 0 (P + 1)) : gR H P 0 = (P + 1)), (rf_is (Plan_1 hP : rf H P 0 (P + 1)) : isR H P 0), (rf_g (Plan_2 hP : rf H P 1 (P + 3)) : gR H P 1 = (P + 3)), (rf_is (Plan_2 hP : rf H P 1 (P + 3)) : isR H P 1), (Plan_4 hP : arR H (P + 3) 6), (rdR_6 (Plan_4 hP : arR H (P + 3) 6) : rdR H (P + 3)), (Plan_5 hP : aln H (P + 3) = 6), fq.2.1, fq.2.2.2.2.1, (Form_0 fq.1 : ob H Q 3), (eq_true (isL_ob (Form_0 fq.1 : ob H Q 3) rfl : isL H Q 0)), (eq_true (isI_ob (Form_0 fq.1 : ob H Q 3) rfl : isI H Q 1)), (eq_true (isI_ob (Form_0 fq.1 : ob H Q 3) rfl : isI H Q 2)), (rf_g (Form_1 fq.1 : rf H Q 3 (Q + 1)) : gR H Q 3 = (Q + 1)), (rf_is (Form_1 fq.1 : rf H Q 3 (Q + 1)) : isR H Q 3), (rf_g (Form_2 fq.1 : rf H Q 4 (Q + 2)) : gR H Q 4 = (Q + 2)), (rf_is (Form_2 fq.1 : rf H Q 4 (Q + 2)) : isR H Q 4), (rf_g (Form_3 fq.1 : rf H Q 5 (Q + 3)) : gR H Q 5 = (Q + 3)), (rf_is (Form_3 fq.1 : rf H Q 5 (Q + 3)) : isR H Q 5), (rf_g (Form_4 fq.1 : rf H Q 6 (Q + 4)) : gR H Q 6 = (Q + 4)), (rf_is (Form_4 fq.1 : rf H Q 6 (Q + 4)) : isR H Q 6), (rf_g (Form_5 fq.1 : rf H Q 7 (Q + 5)) : gR H Q 7 = (Q + 5)), (rf_is (Form_5 fq.1 : rf H Q 7 (Q + 5)) : isR H Q 7), (rf_g (Form_6 fq.1 : rf H Q 8 (Q + 7)) : gR H Q 8 = (Q + 7)), (rf_is (Form_6 fq.1 : rf H Q 8 (Q + 7)) : isR H Q 8), (rf_g (Form_7 fq.1 : rf H Q 9 (Q + 9)) : gR H Q 9 = (Q + 9)), (rf_is (Form_7 fq.1 : rf H Q 9 (Q + 9)) : isR H Q 9), (Form_8 fq.1 : arI H (Q + 1) 0), (rdI_0 (Form_8 fq.1 : arI H (Q + 1) 0) : rdI H (Q + 1)), (Form_9 fq.1 : aln H (Q + 1) = 8), (Form_10 fq.1 : arI H (Q + 2) 0), (rdI_0 (Form_10 fq.1 : arI H (Q + 2) 0) : rdI H (Q + 2)), (Form_11 fq.1 : aln H (Q + 2) = 8), (Form_12 fq.1 : arI H (Q + 3) 0), (rdI_0 (Form_12 fq.1 : arI H (Q + 3) 0) : rdI H (Q + 3)), (Form_13 fq.1 : aln H (Q + 3) = 8), (Form_14 fq.1 : arI H (Q + 4) 0), (rdI_0 (Form_14 fq.1 : arI H (Q + 4) 0) : rdI H (Q + 4)), (Form_15 fq.1 : aln H (Q + 4) = 32), (Form_16 fq.1 : ob H (Q + 5) 4), (eq_true (isI_ob (Form_16 fq.1 : ob H (Q + 5) 4) rfl : isI H (Q + 5) 0)), (eq_true (isI_ob (Form_16 fq.1 : ob H (Q + 5) 4) rfl : isI H (Q + 5) 2)), (eq_true (isI_ob (Form_16 fq.1 : ob H (Q + 5) 4) rfl : isI H (Q + 5) 3)), (rf_g (Form_17 fq.1 : rf H (Q + 5) 1 (Q + 6)) : gR H (Q + 5) 1 = (Q + 6)), (rf_is (Form_17 fq.1 : rf H (Q + 5) 1 (Q + 6)) : isR H (Q + 5) 1), (Form_18 fq.1 : arI H (Q + 6) 0), (rdI_0 (Form_18 fq.1 : arI H (Q + 6) 0) : rdI H (Q + 6)), (Form_19 fq.1 : aln H (Q + 6) = 32), (Form_20 fq.1 : ob H (Q + 7) 4), (eq_true (isI_ob (Form_20 fq.1 : ob H (Q + 7) 4) rfl : isI H (Q + 7) 0)), (eq_true (isI_ob (Form_20 fq.1 : ob H (Q + 7) 4) rfl : isI H (Q + 7) 2)), (eq_true (isI_ob (Form_20 fq.1 : ob H (Q + 7) 4) rfl : isI H (Q + 7) 3)), (rf_g (Form_21 fq.1 : rf H (Q + 7) 1 (Q + 8)) : gR H (Q + 7) 1 = (Q + 8)), (rf_is (Form_21 fq.1 : rf H (Q + 7) 1 (Q + 8)) : isR H (Q + 7) 1), (Form_22 fq.1 : arI H (Q + 8) 0), (rdI_0 (Form_22 fq.1 : arI H (Q + 8) 0) : rdI H (Q + 8)), (Form_23 fq.1 : aln H (Q + 8) = 32), (Form_24 fq.1 : ob H (Q + 9) 0), (rf_g (Form_25 fq.1 : rf H (Q + 9) 0 (Q + 10)) : gR H (Q + 9) 0 = (Q + 10)), (rf_is (Form_25 fq.1 : rf H (Q + 9) 0 (Q + 10)) : isR H (Q + 9) 0), (rf_g (Form_26 fq.1 : rf H (Q + 9) 1 (Q + 11)) : gR H (Q + 9) 1 = (Q + 11)), (rf_is (Form_26 fq.1 : rf H (Q + 9) 1 (Q + 11)) : isR H (Q + 9) 1), (rf_g (Form_27 fq.1 : rf H (Q + 9) 2 (Q + 12)) : gR H (Q + 9) 2 = (Q + 12)), (rf_is (Form_27 fq.1 : rf H (Q + 9) 2 (Q + 12)) : isR H (Q + 9) 2), (Form_28 fq.1 : arI H (Q + 10) 0), (rdI_0 (Form_28 fq.1 : arI H (Q + 10) 0) : rdI H (Q + 10)), (Form_29 fq.1 : aln H (Q + 10) = 32), (Form_30 fq.1 : arI H (Q + 11) 0), (rdI_0 (Form_30 fq.1 : arI H (Q + 11) 0) : rdI H (Q + 11)), (Form_31 fq.1 : aln H (Q + 11) = 32), (Form_32 fq.1 : arI H (Q + 12) 0), (rdI_0 (Form_32 fq.1 : arI H (Q + 12) 0) : rdI H (Q + 12)), (Form_33 fq.1 : aln H (Q + 12) = 32), (Cls_0 sH.1 : ob H g 10), (rf_g (Cls_3 sH.1 : rf H g 6 (g + 172)) : gR H g 6 = (g + 172)), (rf_is (Cls_3 sH.1 : rf H g 6 (g + 172)) : isR H g 6), (rf_g (Cls_6 sH.1 : rf H g 11 (g + 261)) : gR H g 11 = (g + 261)), (rf_is (Cls_6 sH.1 : rf H g 11 (g + 261)) : isR H g 11), (Cls_26 sH.1 : arL H (g + 261)), (Cls_27 sH.1 : aln H (g + 261) = 32), (State_0 (Cls_17 sH.1) : ob H (g + 172) 8), (eq_true (isI_ob (State_0 (Cls_17 sH.1) : ob H (g + 172) 8) rfl : isI H (g + 172) 3)), (rf_g (State_1 (Cls_17 sH.1) : rf H (g + 172) 0 (g + 173)) : gR H (g + 172) 0 = (g + 173)), (rf_is (State_1 (Cls_17 sH.1) : rf H (g + 172) 0 (g + 173)) : isR H (g + 172) 0), (rf_g (State_2 (Cls_17 sH.1) : rf H (g + 172) 1 (g + 175)) : gR H (g + 172) 1 = (g + 175)), (rf_is (State_2 (Cls_17 sH.1) : rf H (g + 172) 1 (g + 175)) : isR H (g + 172) 1), (rf_g (State_3 (Cls_17 sH.1) : rf H (g + 172) 2 (g + 176)) : gR H (g + 172) 2 = (g + 176)), (rf_is (State_3 (Cls_17 sH.1) : rf H (g + 172) 2 (g + 176)) : isR H (g + 172) 2), (State_5 (Cls_17 sH.1) : arR H (g + 175) 5), (rdR_5 (State_5 (Cls_17 sH.1) : arR H (g + 175) 5) : rdR H (g + 175)), (State_6 (Cls_17 sH.1) : aln H (g + 175) = 8), (State_8 (Cls_17 sH.1) : arL H (g + 176)), (State_9 (Cls_17 sH.1) : aln H (g + 176) = 8), (Mem_0 (State_4 (Cls_17 sH.1)) : ob H (g + 173) 5), (eq_true (isI_ob (Mem_0 (State_4 (Cls_17 sH.1)) : ob H (g + 173) 5) rfl : isI H (g + 173) 1)), (eq_true (isI_ob (Mem_0 (State_4 (Cls_17 sH.1)) : ob H (g + 173) 5) rfl : isI H (g + 173) 2)), (rf_g (Mem_1 (State_4 (Cls_17 sH.1)) : rf H (g + 173) 0 (g + 174)) : gR H (g + 173) 0 = (g + 174)), (rf_is (Mem_1 (State_4 (Cls_17 sH.1)) : rf H (g + 173) 0 (g + 174)) : isR H (g + 173) 0), (Mem_2 (State_4 (Cls_17 sH.1)) : arI H (g + 174) 2), (rdB_2 (Mem_2 (State_4 (Cls_17 sH.1)) : arI H (g + 174) 2) : rdB H (g + 174)), (Mem_3 (State_4 (Cls_17 sH.1)) : aln H (g + 174) = 256), vkk_n, vkk_i, vkk_r, vkk_l, vkk_d, catS_nil, catS_i, catS_r, catS_l, catS_d, Nat.reduceAdd, Nat.reduceLeDiff, Nat.zero_le, Nat.le_refl, Option.bind_some, Option.toList_some, Option.toList_none, List.cons_append, List.nil_append, or_true, true_or, if_true, if_false, Int32.reduceLT, Int32.reduceLE, not_true, not_false_iff, true_and, and_true, false_and, and_false]
    · have om1 := Mod_0 s5.2.1
      simp +decide only [e216_0, e216_1, e216_2, om5, vkk_n, vkk_i, vkk_r, vkk_l, vkk_d, catS_nil, catS_i, catS_r, catS_l, catS_d, Nat.reduceAdd, Nat.reduceLeDiff, Nat.zero_le, Nat.le_refl, Option.bind_some, Option.toList_some, Option.toList_none, List.cons_append, List.nil_append, or_true, true_or, if_true, if_false, Int32.reduceLT, Int32.reduceLE, not_true, not_false_iff, true_and, and_true, false_and, and_false]
      generalize pI (cRf h g 5) (g + 266) 31 0 = H at iM' om1 k1 ⊢
      simp +decide only [e216_5, e216_6, e216_7, e216_10, e216_13, e216_14, e216_17, e216_20, e216_21, e216_22, e216_23, e216_24, e216_25, e216_28, e216_29, e216_30, e216_31, e216_34, e216_37, e216_40, e216_41, e216_44, e216_45, e216_47, e216_48, e216_51, e216_52, e216_54, e216_56, e216_57, e216_58, e216_61, e216_64, e216_66, e216_69, e216_70, e216_71, e216_73, e216_76, e216_78, e216_79, e216_80, e216_82, e216_84, e216_86, e216_89, e216_90, e216_93, e216_95, e216_98, e216_100, e216_102, e216_105, e216_106, e216_107, e216_108, e216_110, e216_111, e216_114, e216_116, e216_119, e216_121, e216_124, e216_127, e216_128, e216_130, e216_133, e216_136, e216_137, om1, om6, om7, iM', j1, k1, k3, t1, c1, nc, qN, c_m_says, m2, vkk_n, vkk_i, vkk_r, vkk_l, vkk_d, catS_nil, catS_i, catS_r, catS_l, catS_d, Nat.reduceAdd, Nat.reduceLeDiff, Nat.zero_le, Nat.le_refl, Option.bind_some, Option.toList_some, Option.toList_none, List.cons_append, List.nil_append, or_true, true_or, if_true, if_false, Int32.reduceLT, Int32.reduceLE, not_true, not_false_iff, true_and, and_true, false_and, and_false]
    · refine Inv_ans X Y ?_ ?_ ?_ ?_ (cRf_CA 5 ho) ma R
      · intro a z
        exact z.elim
      · intro a y z
        unfold SF
        unfold AC at z
        omega
      · intro a z
        unfold SR
        simp only [NR, false_or, or_false] at z
        omega
      · intro a y z
        unfold SF
        unfold AM at z
        simp only [NF, or_false] at z
        omega
  obtain ⟨A, rfl, hA⟩ := q3.resolve_left (by omega)
  obtain ⟨s, n, b1, b2, b3, b4, b5, b6, b7, b8⟩ := R.bins b hb
  rw [Nat.zero_add] at b5 b7
  have cq := cr 0
  rw [if_pos rfl, rfs_cRf h g _ ho] at cq
  have gg : ∀ k, gI (cRf h g 0) (g + (177 + 3 * b)) k = gI h (g + (177 + 3 * b)) k := fun k => F0.gI (fun z => by unfold AC at z; omega)
  obtain ⟨X, hX⟩ : ∃ X : Nat → Int64, X = aL h (g + (177 + 3 * b) + 2) := ⟨_, rfl⟩
  obtain ⟨B, hB⟩ : ∃ B, B = g + (177 + 3 * b) := ⟨_, rfl⟩
  obtain ⟨h1, x7, x1, u1, u2⟩ := l_stC g fN Q N A b B s n l C X b1 b2 N32 C10 hB hb Q1 Q2 N 0 (cRf h g 0) none (by omega) sH fq (by rw [hB]; exact (gg _).trans b4) (by rw [hB]; exact (gg _).trans b6) (fun j => by rw [hB, hX]; exact F0.L (fun z => z) j) el (fun j hj => absurd hj (Nat.not_lt_zero _))
  obtain ⟨r, hr⟩ : ∃ r, r = fst_ (stE l s n X C) 0 N := ⟨_, rfl⟩
  have r6 : f06 r := hr ▸ fst_or _ (fun c => stE_or l s n X C c) N 0
  rw [← hr] at u1 u2
  have ent2 : ev 122 22 [some (.ref g), some (.int (nI fN)), some (.int (nI b)), some (.int (nI A)), none, none, none, none] [] (cRf h g 0) = ev 122 76 [some (.ref g), some (.int (nI fN)), some (.int (nI b)), some (.int (nI A)), some (.ref Q), some (.ref B), some (.int (nI 0)), none] [] (cRf h g 0) := by
    rw [hB]
    clear u1 u2 x1
    generalize cRf h g 0 = H at rP hP aRow fq oH el cq sH eB
    simp +decide only [e122_22, e122_23, e122_26, e122_29, e122_30, e122_31, e122_33, e122_34, e122_37, e122_40, e122_41, e122_42, e122_44, e122_45, e122_46, e122_49, e122_52, e122_53, e122_54, e122_56, e122_59, e122_62, e122_65, e122_68, e122_71, e122_72, e122_73, e122_74, oH, rf_g rP, rf_is rP, aRow, vrf_some, v1, v2, w1, w2, eB, el, q1, cq, c_refusalOf, (Plan_0 hP : ob H P 6), (eq_true (isI_ob (Plan_0 hP : ob H P 6) rfl : isI H P 2)), (rf_g (Plan_1 hP : rf H P 0 (P + 1)) : gR H P 0 = (P + 1)), (rf_is (Plan_1 hP : rf H P 0 (P + 1)) : isR H P 0), (rf_g (Plan_2 hP : rf H P 1 (P + 3)) : gR H P 1 = (P + 3)), (rf_is (Plan_2 hP : rf H P 1 (P + 3)) : isR H P 1), (Plan_4 hP : arR H (P + 3) 6), (rdR_6 (Plan_4 hP : arR H (P + 3) 6) : rdR H (P + 3)), (Plan_5 hP : aln H (P + 3) = 6), fq.2.1, fq.2.2.2.2.1, (Form_0 fq.1 : ob H Q 3), (eq_true (isL_ob (Form_0 fq.1 : ob H Q 3) rfl : isL H Q 0)), (eq_true (isI_ob (Form_0 fq.1 : ob H Q 3) rfl : isI H Q 1)), (eq_true (isI_ob (Form_0 fq.1 : ob H Q 3) rfl : isI H Q 2)), (rf_g (Form_1 fq.1 : rf H Q 3 (Q + 1)) : gR H Q 3 = (Q + 1)), (rf_is (Form_1 fq.1 : rf H Q 3 (Q + 1)) : isR H Q 3), (rf_g (Form_2 fq.1 : rf H Q 4 (Q + 2)) : gR H Q 4 = (Q + 2)), (rf_is (Form_2 fq.1 : rf H Q 4 (Q + 2)) : isR H Q 4), (rf_g (Form_3 fq.1 : rf H Q 5 (Q + 3)) : gR H Q 5 = (Q + 3)), (rf_is (Form_3 fq.1 : rf H Q 5 (Q + 3)) : isR H Q 5), (rf_g (Form_4 fq.1 : rf H Q 6 (Q + 4)) : gR H Q 6 = (Q + 4)), (rf_is (Form_4 fq.1 : rf H Q 6 (Q + 4)) : isR H Q 6), (rf_g (Form_5 fq.1 : rf H Q 7 (Q + 5)) : gR H Q 7 = (Q + 5)), (rf_is (Form_5 fq.1 : rf H Q 7 (Q + 5)) : isR H Q 7), (rf_g (Form_6 fq.1 : rf H Q 8 (Q + 7)) : gR H Q 8 = (Q + 7)), (rf_is (Form_6 fq.1 : rf H Q 8 (Q + 7)) : isR H Q 8), (rf_g (Form_7 fq.1 : rf H Q 9 (Q + 9)) : gR H Q 9 = (Q + 9)), (rf_is (Form_7 fq.1 : rf H Q 9 (Q + 9)) : isR H Q 9), (Form_8 fq.1 : arI H (Q + 1) 0), (rdI_0 (Form_8 fq.1 : arI H (Q + 1) 0) : rdI H (Q + 1)), (Form_9 fq.1 : aln H (Q + 1) = 8), (Form_10 fq.1 : arI H (Q + 2) 0), (rdI_0 (Form_10 fq.1 : arI H (Q + 2) 0) : rdI H (Q + 2)), (Form_11 fq.1 : aln H (Q + 2) = 8), (Form_12 fq.1 : arI H (Q + 3) 0), (rdI_0 (Form_12 fq.1 : arI H (Q + 3) 0) : rdI H (Q + 3)), (Form_13 fq.1 : aln H (Q + 3) = 8), (Form_14 fq.1 : arI H (Q + 4) 0), (rdI_0 (Form_14 fq.1 : arI H (Q + 4) 0) : rdI H (Q + 4)), (Form_15 fq.1 : aln H (Q + 4) = 32), (Form_16 fq.1 : ob H (Q + 5) 4), (eq_true (isI_ob (Form_16 fq.1 : ob H (Q + 5) 4) rfl : isI H (Q + 5) 0)), (eq_true (isI_ob (Form_16 fq.1 : ob H (Q + 5) 4) rfl : isI H (Q + 5) 2)), (eq_true (isI_ob (Form_16 fq.1 : ob H (Q + 5) 4) rfl : isI H (Q + 5) 3)), (rf_g (Form_17 fq.1 : rf H (Q + 5) 1 (Q + 6)) : gR H (Q + 5) 1 = (Q + 6)), (rf_is (Form_17 fq.1 : rf H (Q + 5) 1 (Q + 6)) : isR H (Q + 5) 1), (Form_18 fq.1 : arI H (Q + 6) 0), (rdI_0 (Form_18 fq.1 : arI H (Q + 6) 0) : rdI H (Q + 6)), (Form_19 fq.1 : aln H (Q + 6) = 32), (Form_20 fq.1 : ob H (Q + 7) 4), (eq_true (isI_ob (Form_20 fq.1 : ob H (Q + 7) 4) rfl : isI H (Q + 7) 0)), (eq_true (isI_ob (Form_20 fq.1 : ob H (Q + 7) 4) rfl : isI H (Q + 7) 2)), (eq_true (isI_ob (Form_20 fq.1 : ob H (Q + 7) 4) rfl : isI H (Q + 7) 3)), (rf_g (Form_21 fq.1 : rf H (Q + 7) 1 (Q + 8)) : gR H (Q + 7) 1 = (Q + 8)), (rf_is (Form_21 fq.1 : rf H (Q + 7) 1 (Q + 8)) : isR H (Q + 7) 1), (Form_22 fq.1 : arI H (Q + 8) 0), (rdI_0 (Form_22 fq.1 : arI H (Q + 8) 0) : rdI H (Q + 8)), (Form_23 fq.1 : aln H (Q + 8) = 32), (Form_24 fq.1 : ob H (Q + 9) 0), (rf_g (Form_25 fq.1 : rf H (Q + 9) 0 (Q + 10)) : gR H (Q + 9) 0 = (Q + 10)), (rf_is (Form_25 fq.1 : rf H (Q + 9) 0 (Q + 10)) : isR H (Q + 9) 0), (rf_g (Form_26 fq.1 : rf H (Q + 9) 1 (Q + 11)) : gR H (Q + 9) 1 = (Q + 11)), (rf_is (Form_26 fq.1 : rf H (Q + 9) 1 (Q + 11)) : isR H (Q + 9) 1), (rf_g (Form_27 fq.1 : rf H (Q + 9) 2 (Q + 12)) : gR H (Q + 9) 2 = (Q + 12)), (rf_is (Form_27 fq.1 : rf H (Q + 9) 2 (Q + 12)) : isR H (Q + 9) 2), (Form_28 fq.1 : arI H (Q + 10) 0), (rdI_0 (Form_28 fq.1 : arI H (Q + 10) 0) : rdI H (Q + 10)), (Form_29 fq.1 : aln H (Q + 10) = 32), (Form_30 fq.1 : arI H (Q + 11) 0), (rdI_0 (Form_30 fq.1 : arI H (Q + 11) 0) : rdI H (Q + 11)), (Form_31 fq.1 : aln H (Q + 11) = 32), (Form_32 fq.1 : arI H (Q + 12) 0), (rdI_0 (Form_32 fq.1 : arI H (Q + 12) 0) : rdI H (Q + 12)), (Form_33 fq.1 : aln H (Q + 12) = 32), (Cls_0 sH.1 : ob H g 10), (rf_g (Cls_3 sH.1 : rf H g 6 (g + 172)) : gR H g 6 = (g + 172)), (rf_is (Cls_3 sH.1 : rf H g 6 (g + 172)) : isR H g 6), (rf_g (Cls_6 sH.1 : rf H g 11 (g + 261)) : gR H g 11 = (g + 261)), (rf_is (Cls_6 sH.1 : rf H g 11 (g + 261)) : isR H g 11), (Cls_26 sH.1 : arL H (g + 261)), (Cls_27 sH.1 : aln H (g + 261) = 32), (State_0 (Cls_17 sH.1) : ob H (g + 172) 8), (eq_true (isI_ob (State_0 (Cls_17 sH.1) : ob H (g + 172) 8) rfl : isI H (g + 172) 3)), (rf_g (State_1 (Cls_17 sH.1) : rf H (g + 172) 0 (g + 173)) : gR H (g + 172) 0 = (g + 173)), (rf_is (State_1 (Cls_17 sH.1) : rf H (g + 172) 0 (g + 173)) : isR H (g + 172) 0), (rf_g (State_2 (Cls_17 sH.1) : rf H (g + 172) 1 (g + 175)) : gR H (g + 172) 1 = (g + 175)), (rf_is (State_2 (Cls_17 sH.1) : rf H (g + 172) 1 (g + 175)) : isR H (g + 172) 1), (rf_g (State_3 (Cls_17 sH.1) : rf H (g + 172) 2 (g + 176)) : gR H (g + 172) 2 = (g + 176)), (rf_is (State_3 (Cls_17 sH.1) : rf H (g + 172) 2 (g + 176)) : isR H (g + 172) 2), (State_5 (Cls_17 sH.1) : arR H (g + 175) 5), (rdR_5 (State_5 (Cls_17 sH.1) : arR H (g + 175) 5) : rdR H (g + 175)), (State_6 (Cls_17 sH.1) : aln H (g + 175) = 8), (State_8 (Cls_17 sH.1) : arL H (g + 176)), (State_9 (Cls_17 sH.1) : aln H (g + 176) = 8), (Mem_0 (State_4 (Cls_17 sH.1)) : ob H (g + 173) 5), (eq_true (isI_ob (Mem_0 (State_4 (Cls_17 sH.1)) : ob H (g + 173) 5) rfl : isI H (g + 173) 1)), (eq_true (isI_ob (Mem_0 (State_4 (Cls_17 sH.1)) : ob H (g + 173) 5) rfl : isI H (g + 173) 2)), (rf_g (Mem_1 (State_4 (Cls_17 sH.1)) : rf H (g + 173) 0 (g + 174)) : gR H (g + 173) 0 = (g + 174)), (rf_is (Mem_1 (State_4 (Cls_17 sH.1)) : rf H (g + 173) 0 (g + 174)) : isR H (g + 173) 0), (Mem_2 (State_4 (Cls_17 sH.1)) : arI H (g + 174) 2), (rdB_2 (Mem_2 (State_4 (Cls_17 sH.1)) : arI H (g + 174) 2) : rdB H (g + 174)), (Mem_3 (State_4 (Cls_17 sH.1)) : aln H (g + 174) = 256), vkk_n, vkk_i, vkk_r, vkk_l, vkk_d, catS_nil, catS_i, catS_r, catS_l, catS_d, Nat.reduceAdd, Nat.reduceLeDiff, Nat.zero_le, Nat.le_refl, Option.bind_some, Option.toList_some, Option.toList_none, List.cons_append, List.nil_append, or_true, true_or, if_true, if_false, Int32.reduceLT, Int32.reduceLE, not_true, not_false_iff, true_and, and_true, false_and, and_false]
    rfl
  have s1 : Sh h1 g := Sh_fr x1 (fun a z => by omega) sH
  have fq1 : FQ h1 Q N C := FQ_fr x1 (fun a z => by omega) (fun _ _ z => z.elim) fq
  have ca1 : CA h h1 g 0 := by
    have := cRf_CA (h := h) 0 ho
    unfold CA at this ⊢
    rw [x1.gI (fun z => z), x1.gI (fun z => z)]
    exact this
  have X1 := F0.un x1
  -- the model, on any heap that differs from h in the class's part alone
  have mod : ∀ (hc : VG) (Rc : Nat → Prop) (Fc : Nat → Nat → Prop), Fr Rc Fc h hc → (∀ a, Rc a → g + 172 ≤ a ∧ a < g + 266) → (∀ a k, Fc a k → a = g) → Sh hc g → ∃ m3 : VG × (Nat × Option Value), ev 216 0 [some (.ref (g + 266)), some (.int (nI fN)), some (.int (nI b)), some (.int (nI A)), none, none, none] [] hc = ev 216 127 [some (.ref (g + 266)), some (.int (nI fN)), some (.int (nI b)), some (.int (nI A)), some (.int r), some (.int (nI m3.2.1)), m3.2.2] [] m3.1 ∧ Fr (fun a => a = g + 284 ∨ a = g + 293 ∨ a = g + 294) (fun a k => AM (g + 266) a k ∨ (a = g + 266 ∧ (k = 36 ∨ k = 37)) ∨ VF (g + 266) a k) hc m3.1 ∧ gI m3.1 (g + 266) 32 = gI hc (g + 266) 32 ∧ gI m3.1 (g + 266) 36 = nI (lSiz 0 C N) ∧ (r = 0 → ∀ j, j < 512 → aI m3.1 (g + 293) j = lyO 0 C (stV s X C) (gI h (g + 173) 2) N j ∧ aI m3.1 (g + 294) j = lyI 0 C N j) := by
    intro hc Rc Fc fc rc fcF sc
    have om5 : ob hc (g + 266) 11 := Mod_0 sc.2.1
    have m0f := m0_fr hc (g + 266)
    have s5 : Sh (pI hc (g + 266) 31 0) g := m0_sh sc
    have mqh : MQf h g fN N C := MQf_fr F0.sym (fun a z => z.elim) mq
    have mq5 : MQf (pI hc (g + 266) 31 0) g fN N C := MQf_fr m0f (fun a z => z.elim) (MQf_fr fc (fun a z => by have := rc a z; omega) mqh)
    obtain ⟨m0, k1, k2, k3, k4⟩ := mq_lays 0 mq5
    have om6 := ml_sm k4
    obtain ⟨m1, c1, c2, c3⟩ := c_clears m0 g k4.1
    have k5 := MLf_fr c2 (fun a z => by omega) k4
    have XX := (fc.un m0f).un (k2.un c2)
    have gm : ∀ k, ¬ (k = 31 ∨ k = 32 ∨ k = 36 ∨ k = 37) → gI m1 (g + 266) k = gI h (g + 266) k := fun k hk => XX.gI (fun z => by
      rcases z with (z | z) | (z | z)
      · have := fcF _ _ z
        omega
      · unfold AM at z
        omega
      · omega
      · exact z)
    have rm : ∀ a, ¬ (g + 172 ≤ a ∧ a < g + 266) → ¬ (a = g + 284 ∨ a = g + 293 ∨ a = g + 294) → (∀ j, aI m1 a j = aI h a j) ∧ (∀ j, aL m1 a j = aL h a j) ∧ ∀ j, aD m1 a j = aD h a j := fun a z1 z2 => by
      have nz : ¬ ((Rc a ∨ NR a) ∨ a = g + 284 ∨ a = g + 293 ∨ a = g + 294) := fun z => by
        rcases z with (z | z) | z
        · exact z1 (rc a z)
        · exact z
        · exact z2 z
      exact ⟨fun j => XX.I nz j, fun j => XX.L nz j, fun j => XX.D nz j⟩
    obtain ⟨m3, c9, x6, y1, y2, y3⟩ := l_stM g fN N A b s n l C X (gI h (g + 173) 2) b1 b2 N32 C10 hb (by omega) N 0 m1 none (by omega) k5 (((rm _ (by omega) (by omega)).1 _).trans b5) (((rm _ (by omega) (by omega)).1 _).trans b7) (fun s8 i hi => by
      obtain ⟨p1, p2, p3⟩ := b8 i hi
      rw [Nat.zero_add] at p2 p3
      have p4 := p1.1 s8
      rw [(rm (g + 287) (by omega) (by omega)).1, (rm (g + 288) (by omega) (by omega)).2.1, (rm (g + 289) (by omega) (by omega)).2.2, hX]
      rw [p4] at p2 p3
      exact ⟨p2, p3⟩) ((gm 18 (by omega)).trans e2) ((gm 17 (by omega)).trans e5.symm) (fun j hj => c3 j hj)
    rw [← hr] at y1 y3
    have y1 : ev 216 54 [some (.ref (g + 266)), some (.int (nI fN)), some (.int (nI b)), some (.int (nI A)), some (.int 0), some (.int 0), none] [] m1 = _ := y1
    have g18 : gI m0 (g + 266) 18 = nI l := (c2.gI (fun z => z)).symm.trans ((gm 18 (by omega)).trans e2)
    have t1 := c_m_isThere m0 (g + 266) (nI A) (nI (lSiz 0 C N)) om6
    rw [g18, q2] at t1
    have iM' := iM _ s5 ((m0f.gI (fun z => by unfold AM at z; omega)).trans ((fc.gI (fun z => by have := fcF _ _ z; omega)).trans (F0.gI (fun z => by unfold AC at z; omega)).symm))
    refine ⟨(m3, c9, x6), ?_, ?_, ?_, ?_, y3⟩
    · have om1 := Mod_0 s5.2.1
      simp +decide only [e216_0, e216_1, e216_2, om5, vkk_n, vkk_i, vkk_r, vkk_l, vkk_d, catS_nil, catS_i, catS_r, catS_l, catS_d, Nat.reduceAdd, Nat.reduceLeDiff, Nat.zero_le, Nat.le_refl, Option.bind_some, Option.toList_some, Option.toList_none, List.cons_append, List.nil_append, or_true, true_or, if_true, if_false, Int32.reduceLT, Int32.reduceLE, not_true, not_false_iff, true_and, and_true, false_and, and_false]
      generalize pI hc (g + 266) 31 0 = H at iM' om1 k1 ⊢
      simp +decide only [e216_5, e216_6, e216_7, e216_10, e216_13, e216_14, e216_17, e216_20, e216_21, e216_22, e216_23, e216_24, e216_25, e216_28, e216_29, e216_30, e216_31, e216_34, e216_37, e216_40, e216_41, e216_44, e216_45, e216_47, e216_48, e216_51, e216_52, om1, om6, iM', j1, k1, k3, t1, c1, vkk_n, vkk_i, vkk_r, vkk_l, vkk_d, catS_nil, catS_i, catS_r, catS_l, catS_d, Nat.reduceAdd, Nat.reduceLeDiff, Nat.zero_le, Nat.le_refl, Option.bind_some, Option.toList_some, Option.toList_none, List.cons_append, List.nil_append, or_true, true_or, if_true, if_false, Int32.reduceLT, Int32.reduceLE, not_true, not_false_iff, true_and, and_true, false_and, and_false]
      exact y1
    · exact (((m0f.mo (fun _ z => z.elim) (fun _ _ z => Or.inl z)).tr (k2.mo (fun _ z => Or.inl z) (fun _ _ z => Or.inr (Or.inl z)))).tr (c2.mo (fun _ z => Or.inr z) (fun _ _ z => z.elim))).tr (y2.mo (fun _ z => Or.inr z) (fun _ _ z => Or.inr (Or.inr z)))
    · exact (y2.gI (fun z => by unfold VF at z; omega)).trans ((c2.gI (fun z => z)).trans ((k2.gI (fun z => by omega)).trans (gI_pI_ne _ _ _ _ _ _ (fun z => by omega))))
    · exact (y2.gI (fun z => by unfold VF at z; omega)).trans ((c2.gI (fun z => z)).trans k3)
  by_cases r0 : r = 0
  case neg =>
    obtain ⟨ca2, F2⟩ := CA_rfs (h0 := h) (hc := h1) (g := g) (f := 0) r (Cls_0 s1.1) ca1
    rw [if_pos rfl] at ca2
    have X2 := X1.un F2
    have s2 : Sh (rfs h1 g r) g := Sh_fr F2 (fun a z => z.elim) s1
    obtain ⟨m3, y1, y2, y3, y4, -⟩ := mod (rfs h1 g r) _ _ X2 (fun a z => by simp only [NR, false_or, or_false] at z; omega) (fun a k z => by unfold AC at z; simp only [NF, or_false] at z; omega) s2
    have s3 : Sh m3.1 g := Sh_fr y2 (fun a z => by omega) s2
    have om3 : ob m3.1 (g + 266) 11 := Mod_0 s3.2.1
    have mf := mRf_fr m3.1 (g + 266) r
    have m2 := (msy_0 m3.1 (g + 266) r (f06_nn r6) om3).2
    have Y := y2.un mf
    have ma : MA (rfs h1 g r) (mRf m3.1 (g + 266) r) (g + 266) r := by
      have := mRf_MA (h := m3.1) r om3
      unfold MA at this ⊢
      rw [← y3]
      exact this
    refine ⟨-1, rfs h1 g r, mRf m3.1 (g + 266) r, ?_, ?_, ?_, Y.two.trans X2.two⟩
    · rw [ent, ent2]
      exact u2 r0
    · rw [y1]
      simp +decide only [e216_127, e216_128, e216_130, e216_133, e216_136, e216_137, e216_138, e216_139, e216_140, e216_141, e216_144, e216_147, e216_148, e216_151, om3, c_m_says, m2, r0, vkk_n, vkk_i, vkk_r, vkk_l, vkk_d, catS_nil, catS_i, catS_r, catS_l, catS_d, Nat.reduceAdd, Nat.reduceLeDiff, Nat.zero_le, Nat.le_refl, Option.bind_some, Option.toList_some, Option.toList_none, List.cons_append, List.nil_append, or_true, true_or, if_true, if_false, Int32.reduceLT, Int32.reduceLE, not_true, not_false_iff, true_and, and_true, false_and, and_false]
    · refine Inv_ans X2 Y ?_ ?_ ?_ ?_ ca2 ma R
      · intro a z
        unfold SR
        simp only [NR, false_or, or_false] at z
        omega
      · intro a y z
        unfold SF
        unfold AC at z
        simp only [NF, or_false] at z
        omega
      · intro a z
        unfold SR
        simp only [NR, false_or, or_false] at z
        omega
      · intro a y z
        unfold SF
        unfold AM VF at z
        omega
  obtain ⟨uu1, u3⟩ := u1 r0
  have bh1 : gI h1 (g + 173) 2 = gI h (g + 173) 2 := X1.gI (fun z => by unfold AC at z; simp only [NF, or_false] at z; omega)
  obtain ⟨h2, t1, t2, t3⟩ := l_layC0 g Q N A C (stV s X C) (gI h (g + 173) 2) (aI h (g + 174)) N32 C10 Q1 Q2 (by omega) N 0 h1 (by omega) s1 fq1 u3 bh1 (fun j => X1.I (a := g + 174) (fun z => by simp only [NR, false_or] at z; omega) j)
  have t1 : ev 58 3 [some (.ref (g + 173)), some (.ref Q), some (.ref (Q + 5)), some (.int (nI A)), some (.ref (g + 261)), some (.int 0)] [] h1 = _ := t1
  have s2 : Sh h2 g := Sh_fr t2 (fun a z => by omega) s1
  have fq2 : FQ h2 Q N C := FQ_fr t2 (fun a z => by omega) (fun _ _ z => z.elim) fq1
  have X2 := X1.un t2
  have ca2 : CA h h2 g 0 := by
    unfold CA at ca1 ⊢
    rw [t2.gI (fun z => z), t2.gI (fun z => z)]
    exact ca1
  obtain ⟨m3, y1, y2, y3, y4, y5⟩ := mod h2 _ _ X2 (fun a z => by simp only [NR, false_or, or_false] at z; omega) (fun a k z => by unfold AC at z; simp only [NF, or_false] at z; omega) s2
  have s3 : Sh m3.1 g := Sh_fr y2 (fun a z => by omega) s2
  have om3 : ob m3.1 (g + 266) 11 := Mod_0 s3.2.1
  have mf := mRf_fr m3.1 (g + 266) 0
  have m2 := (msy_0 m3.1 (g + 266) 0 (by decide) om3).2
  have s4 : Sh (mRf m3.1 (g + 266) 0) g := Sh_fr mf (fun a z => z.elim) s3
  have om4 : ob (mRf m3.1 (g + 266) 0) (g + 266) 11 := Mod_0 s4.2.1
  have g36 : gI (mRf m3.1 (g + 266) 0) (g + 266) 36 = nI (lSiz 0 C N) := (mf.gI (fun z => by unfold AM at z; omega)).trans y4
  obtain ⟨m4, d1, d2, d3⟩ := c_laysDown (mRf m3.1 (g + 266) 0) g A (lSiz 0 C N) s4 (by omega) (by omega)
  have s5 : Sh m4 g := Sh_fr d2 (fun a z => by omega) s4
  have om5 : ob m4 (g + 266) 11 := Mod_0 s5.2.1
  have g36b : gI m4 (g + 266) 36 = nI (lSiz 0 C N) := (d2.gI (fun z => z)).trans g36
  have ma : MA h2 m4 (g + 266) 0 := by
    have := mRf_MA (h := m3.1) 0 om3
    unfold MA at this ⊢
    rw [d2.gI (fun z => z), d2.gI (fun z => z), ← y3]
    exact this
  have Y := (y2.un mf).un d2
  have zz := X2.un Y
  subst r0
  refine ⟨nI (lSiz 0 C N), h2, m4, ?_, ?_, ?_, zz.two⟩
  · rw [ent, ent2, uu1]
    simp +decide only [e122_173, e122_174, e122_177, e122_180, e122_182, e122_184, e122_187, e122_188, e122_189, e122_192, e58_0, e58_1, t1, (Cls_0 s1.1 : ob h1 g 10), (Cls_0 s1.1 : ob h1 g 10), (rf_g (Cls_3 s1.1 : rf h1 g 6 (g + 172)) : gR h1 g 6 = (g + 172)), (rf_is (Cls_3 s1.1 : rf h1 g 6 (g + 172)) : isR h1 g 6), (rf_g (Cls_6 s1.1 : rf h1 g 11 (g + 261)) : gR h1 g 11 = (g + 261)), (rf_is (Cls_6 s1.1 : rf h1 g 11 (g + 261)) : isR h1 g 11), (Cls_26 s1.1 : arL h1 (g + 261)), (Cls_27 s1.1 : aln h1 (g + 261) = 32), (State_0 (Cls_17 s1.1) : ob h1 (g + 172) 8), (eq_true (isI_ob (State_0 (Cls_17 s1.1) : ob h1 (g + 172) 8) rfl : isI h1 (g + 172) 3)), (rf_g (State_1 (Cls_17 s1.1) : rf h1 (g + 172) 0 (g + 173)) : gR h1 (g + 172) 0 = (g + 173)), (rf_is (State_1 (Cls_17 s1.1) : rf h1 (g + 172) 0 (g + 173)) : isR h1 (g + 172) 0), (rf_g (State_2 (Cls_17 s1.1) : rf h1 (g + 172) 1 (g + 175)) : gR h1 (g + 172) 1 = (g + 175)), (rf_is (State_2 (Cls_17 s1.1) : rf h1 (g + 172) 1 (g + 175)) : isR h1 (g + 172) 1), (rf_g (State_3 (Cls_17 s1.1) : rf h1 (g + 172) 2 (g + 176)) : gR h1 (g + 172) 2 = (g + 176)), (rf_is (State_3 (Cls_17 s1.1) : rf h1 (g + 172) 2 (g + 176)) : isR h1 (g + 172) 2), (State_5 (Cls_17 s1.1) : arR h1 (g + 175) 5), (rdR_5 (State_5 (Cls_17 s1.1) : arR h1 (g + 175) 5) : rdR h1 (g + 175)), (State_6 (Cls_17 s1.1) : aln h1 (g + 175) = 8), (State_8 (Cls_17 s1.1) : arL h1 (g + 176)), (State_9 (Cls_17 s1.1) : aln h1 (g + 176) = 8), (Mem_0 (State_4 (Cls_17 s1.1)) : ob h1 (g + 173) 5), (eq_true (isI_ob (Mem_0 (State_4 (Cls_17 s1.1)) : ob h1 (g + 173) 5) rfl : isI h1 (g + 173) 1)), (eq_true (isI_ob (Mem_0 (State_4 (Cls_17 s1.1)) : ob h1 (g + 173) 5) rfl : isI h1 (g + 173) 2)), (rf_g (Mem_1 (State_4 (Cls_17 s1.1)) : rf h1 (g + 173) 0 (g + 174)) : gR h1 (g + 173) 0 = (g + 174)), (rf_is (Mem_1 (State_4 (Cls_17 s1.1)) : rf h1 (g + 173) 0 (g + 174)) : isR h1 (g + 173) 0), (Mem_2 (State_4 (Cls_17 s1.1)) : arI h1 (g + 174) 2), (rdB_2 (Mem_2 (State_4 (Cls_17 s1.1)) : arI h1 (g + 174) 2) : rdB h1 (g + 174)), (Mem_3 (State_4 (Cls_17 s1.1)) : aln h1 (g + 174) = 256), fq1.2.1, fq1.2.2.2.2.1, (Form_0 fq1.1 : ob h1 Q 3), (eq_true (isL_ob (Form_0 fq1.1 : ob h1 Q 3) rfl : isL h1 Q 0)), (eq_true (isI_ob (Form_0 fq1.1 : ob h1 Q 3) rfl : isI h1 Q 1)), (eq_true (isI_ob (Form_0 fq1.1 : ob h1 Q 3) rfl : isI h1 Q 2)), (rf_g (Form_1 fq1.1 : rf h1 Q 3 (Q + 1)) : gR h1 Q 3 = (Q + 1)), (rf_is (Form_1 fq1.1 : rf h1 Q 3 (Q + 1)) : isR h1 Q 3), (rf_g (Form_2 fq1.1 : rf h1 Q 4 (Q + 2)) : gR h1 Q 4 = (Q + 2)), (rf_is (Form_2 fq1.1 : rf h1 Q 4 (Q + 2)) : isR h1 Q 4), (rf_g (Form_3 fq1.1 : rf h1 Q 5 (Q + 3)) : gR h1 Q 5 = (Q + 3)), (rf_is (Form_3 fq1.1 : rf h1 Q 5 (Q + 3)) : isR h1 Q 5), (rf_g (Form_4 fq1.1 : rf h1 Q 6 (Q + 4)) : gR h1 Q 6 = (Q + 4)), (rf_is (Form_4 fq1.1 : rf h1 Q 6 (Q + 4)) : isR h1 Q 6), (rf_g (Form_5 fq1.1 : rf h1 Q 7 (Q + 5)) : gR h1 Q 7 = (Q + 5)), (rf_is (Form_5 fq1.1 : rf h1 Q 7 (Q + 5)) : isR h1 Q 7), (rf_g (Form_6 fq1.1 : rf h1 Q 8 (Q + 7)) : gR h1 Q 8 = (Q + 7)), (rf_is (Form_6 fq1.1 : rf h1 Q 8 (Q + 7)) : isR h1 Q 8), (rf_g (Form_7 fq1.1 : rf h1 Q 9 (Q + 9)) : gR h1 Q 9 = (Q + 9)), (rf_is (Form_7 fq1.1 : rf h1 Q 9 (Q + 9)) : isR h1 Q 9), (Form_8 fq1.1 : arI h1 (Q + 1) 0), (rdI_0 (Form_8 fq1.1 : arI h1 (Q + 1) 0) : rdI h1 (Q + 1)), (Form_9 fq1.1 : aln h1 (Q + 1) = 8), (Form_10 fq1.1 : arI h1 (Q + 2) 0), (rdI_0 (Form_10 fq1.1 : arI h1 (Q + 2) 0) : rdI h1 (Q + 2)), (Form_11 fq1.1 : aln h1 (Q + 2) = 8), (Form_12 fq1.1 : arI h1 (Q + 3) 0), (rdI_0 (Form_12 fq1.1 : arI h1 (Q + 3) 0) : rdI h1 (Q + 3)), (Form_13 fq1.1 : aln h1 (Q + 3) = 8), (Form_14 fq1.1 : arI h1 (Q + 4) 0), (rdI_0 (Form_14 fq1.1 : arI h1 (Q + 4) 0) : rdI h1 (Q + 4)), (Form_15 fq1.1 : aln h1 (Q + 4) = 32), (Form_16 fq1.1 : ob h1 (Q + 5) 4), (eq_true (isI_ob (Form_16 fq1.1 : ob h1 (Q + 5) 4) rfl : isI h1 (Q + 5) 0)), (eq_true (isI_ob (Form_16 fq1.1 : ob h1 (Q + 5) 4) rfl : isI h1 (Q + 5) 2)), (eq_true (isI_ob (Form_16 fq1.1 : ob h1 (Q + 5) 4) rfl : isI h1 (Q + 5) 3)), (rf_g (Form_17 fq1.1 : rf h1 (Q + 5) 1 (Q + 6)) : gR h1 (Q + 5) 1 = (Q + 6)), (rf_is (Form_17 fq1.1 : rf h1 (Q + 5) 1 (Q + 6)) : isR h1 (Q + 5) 1), (Form_18 fq1.1 : arI h1 (Q + 6) 0), (rdI_0 (Form_18 fq1.1 : arI h1 (Q + 6) 0) : rdI h1 (Q + 6)), (Form_19 fq1.1 : aln h1 (Q + 6) = 32), (Form_20 fq1.1 : ob h1 (Q + 7) 4), (eq_true (isI_ob (Form_20 fq1.1 : ob h1 (Q + 7) 4) rfl : isI h1 (Q + 7) 0)), (eq_true (isI_ob (Form_20 fq1.1 : ob h1 (Q + 7) 4) rfl : isI h1 (Q + 7) 2)), (eq_true (isI_ob (Form_20 fq1.1 : ob h1 (Q + 7) 4) rfl : isI h1 (Q + 7) 3)), (rf_g (Form_21 fq1.1 : rf h1 (Q + 7) 1 (Q + 8)) : gR h1 (Q + 7) 1 = (Q + 8)), (rf_is (Form_21 fq1.1 : rf h1 (Q + 7) 1 (Q + 8)) : isR h1 (Q + 7) 1), (Form_22 fq1.1 : arI h1 (Q + 8) 0), (rdI_0 (Form_22 fq1.1 : arI h1 (Q + 8) 0) : rdI h1 (Q + 8)), (Form_23 fq1.1 : aln h1 (Q + 8) = 32), (Form_24 fq1.1 : ob h1 (Q + 9) 0), (rf_g (Form_25 fq1.1 : rf h1 (Q + 9) 0 (Q + 10)) : gR h1 (Q + 9) 0 = (Q + 10)), (rf_is (Form_25 fq1.1 : rf h1 (Q + 9) 0 (Q + 10)) : isR h1 (Q + 9) 0), (rf_g (Form_26 fq1.1 : rf h1 (Q + 9) 1 (Q + 11)) : gR h1 (Q + 9) 1 = (Q + 11)), (rf_is (Form_26 fq1.1 : rf h1 (Q + 9) 1 (Q + 11)) : isR h1 (Q + 9) 1), (rf_g (Form_27 fq1.1 : rf h1 (Q + 9) 2 (Q + 12)) : gR h1 (Q + 9) 2 = (Q + 12)), (rf_is (Form_27 fq1.1 : rf h1 (Q + 9) 2 (Q + 12)) : isR h1 (Q + 9) 2), (Form_28 fq1.1 : arI h1 (Q + 10) 0), (rdI_0 (Form_28 fq1.1 : arI h1 (Q + 10) 0) : rdI h1 (Q + 10)), (Form_29 fq1.1 : aln h1 (Q + 10) = 32), (Form_30 fq1.1 : arI h1 (Q + 11) 0), (rdI_0 (Form_30 fq1.1 : arI h1 (Q + 11) 0) : rdI h1 (Q + 11)), (Form_31 fq1.1 : aln h1 (Q + 11) = 32), (Form_32 fq1.1 : arI h1 (Q + 12) 0), (rdI_0 (Form_32 fq1.1 : arI h1 (Q + 12) 0) : rdI h1 (Q + 12)), (Form_33 fq1.1 : aln h1 (Q + 12) = 32), vkk_n, vkk_i, vkk_r, vkk_l, vkk_d, catS_nil, catS_i, catS_r, catS_l, catS_d, Nat.reduceAdd, Nat.reduceLeDiff, Nat.zero_le, Nat.le_refl, Option.bind_some, Option.toList_some, Option.toList_none, List.cons_append, List.nil_append, or_true, true_or, if_true, if_false, Int32.reduceLT, Int32.reduceLE, not_true, not_false_iff, true_and, and_true, false_and, and_false]
    simp +decide only [e122_195, e122_197, e122_200, e122_203, fq2.2.1, fq2.2.2.2.2.1, (Form_0 fq2.1 : ob h2 Q 3), (eq_true (isL_ob (Form_0 fq2.1 : ob h2 Q 3) rfl : isL h2 Q 0)), (eq_true (isI_ob (Form_0 fq2.1 : ob h2 Q 3) rfl : isI h2 Q 1)), (eq_true (isI_ob (Form_0 fq2.1 : ob h2 Q 3) rfl : isI h2 Q 2)), (rf_g (Form_1 fq2.1 : rf h2 Q 3 (Q + 1)) : gR h2 Q 3 = (Q + 1)), (rf_is (Form_1 fq2.1 : rf h2 Q 3 (Q + 1)) : isR h2 Q 3), (rf_g (Form_2 fq2.1 : rf h2 Q 4 (Q + 2)) : gR h2 Q 4 = (Q + 2)), (rf_is (Form_2 fq2.1 : rf h2 Q 4 (Q + 2)) : isR h2 Q 4), (rf_g (Form_3 fq2.1 : rf h2 Q 5 (Q + 3)) : gR h2 Q 5 = (Q + 3)), (rf_is (Form_3 fq2.1 : rf h2 Q 5 (Q + 3)) : isR h2 Q 5), (rf_g (Form_4 fq2.1 : rf h2 Q 6 (Q + 4)) : gR h2 Q 6 = (Q + 4)), (rf_is (Form_4 fq2.1 : rf h2 Q 6 (Q + 4)) : isR h2 Q 6), (rf_g (Form_5 fq2.1 : rf h2 Q 7 (Q + 5)) : gR h2 Q 7 = (Q + 5)), (rf_is (Form_5 fq2.1 : rf h2 Q 7 (Q + 5)) : isR h2 Q 7), (rf_g (Form_6 fq2.1 : rf h2 Q 8 (Q + 7)) : gR h2 Q 8 = (Q + 7)), (rf_is (Form_6 fq2.1 : rf h2 Q 8 (Q + 7)) : isR h2 Q 8), (rf_g (Form_7 fq2.1 : rf h2 Q 9 (Q + 9)) : gR h2 Q 9 = (Q + 9)), (rf_is (Form_7 fq2.1 : rf h2 Q 9 (Q + 9)) : isR h2 Q 9), (Form_8 fq2.1 : arI h2 (Q + 1) 0), (rdI_0 (Form_8 fq2.1 : arI h2 (Q + 1) 0) : rdI h2 (Q + 1)), (Form_9 fq2.1 : aln h2 (Q + 1) = 8), (Form_10 fq2.1 : arI h2 (Q + 2) 0), (rdI_0 (Form_10 fq2.1 : arI h2 (Q + 2) 0) : rdI h2 (Q + 2)), (Form_11 fq2.1 : aln h2 (Q + 2) = 8), (Form_12 fq2.1 : arI h2 (Q + 3) 0), (rdI_0 (Form_12 fq2.1 : arI h2 (Q + 3) 0) : rdI h2 (Q + 3)), (Form_13 fq2.1 : aln h2 (Q + 3) = 8), (Form_14 fq2.1 : arI h2 (Q + 4) 0), (rdI_0 (Form_14 fq2.1 : arI h2 (Q + 4) 0) : rdI h2 (Q + 4)), (Form_15 fq2.1 : aln h2 (Q + 4) = 32), (Form_16 fq2.1 : ob h2 (Q + 5) 4), (eq_true (isI_ob (Form_16 fq2.1 : ob h2 (Q + 5) 4) rfl : isI h2 (Q + 5) 0)), (eq_true (isI_ob (Form_16 fq2.1 : ob h2 (Q + 5) 4) rfl : isI h2 (Q + 5) 2)), (eq_true (isI_ob (Form_16 fq2.1 : ob h2 (Q + 5) 4) rfl : isI h2 (Q + 5) 3)), (rf_g (Form_17 fq2.1 : rf h2 (Q + 5) 1 (Q + 6)) : gR h2 (Q + 5) 1 = (Q + 6)), (rf_is (Form_17 fq2.1 : rf h2 (Q + 5) 1 (Q + 6)) : isR h2 (Q + 5) 1), (Form_18 fq2.1 : arI h2 (Q + 6) 0), (rdI_0 (Form_18 fq2.1 : arI h2 (Q + 6) 0) : rdI h2 (Q + 6)), (Form_19 fq2.1 : aln h2 (Q + 6) = 32), (Form_20 fq2.1 : ob h2 (Q + 7) 4), (eq_true (isI_ob (Form_20 fq2.1 : ob h2 (Q + 7) 4) rfl : isI h2 (Q + 7) 0)), (eq_true (isI_ob (Form_20 fq2.1 : ob h2 (Q + 7) 4) rfl : isI h2 (Q + 7) 2)), (eq_true (isI_ob (Form_20 fq2.1 : ob h2 (Q + 7) 4) rfl : isI h2 (Q + 7) 3)), (rf_g (Form_21 fq2.1 : rf h2 (Q + 7) 1 (Q + 8)) : gR h2 (Q + 7) 1 = (Q + 8)), (rf_is (Form_21 fq2.1 : rf h2 (Q + 7) 1 (Q + 8)) : isR h2 (Q + 7) 1), (Form_22 fq2.1 : arI h2 (Q + 8) 0), (rdI_0 (Form_22 fq2.1 : arI h2 (Q + 8) 0) : rdI h2 (Q + 8)), (Form_23 fq2.1 : aln h2 (Q + 8) = 32), (Form_24 fq2.1 : ob h2 (Q + 9) 0), (rf_g (Form_25 fq2.1 : rf h2 (Q + 9) 0 (Q + 10)) : gR h2 (Q + 9) 0 = (Q + 10)), (rf_is (Form_25 fq2.1 : rf h2 (Q + 9) 0 (Q + 10)) : isR h2 (Q + 9) 0), (rf_g (Form_26 fq2.1 : rf h2 (Q + 9) 1 (Q + 11)) : gR h2 (Q + 9) 1 = (Q + 11)), (rf_is (Form_26 fq2.1 : rf h2 (Q + 9) 1 (Q + 11)) : isR h2 (Q + 9) 1), (rf_g (Form_27 fq2.1 : rf h2 (Q + 9) 2 (Q + 12)) : gR h2 (Q + 9) 2 = (Q + 12)), (rf_is (Form_27 fq2.1 : rf h2 (Q + 9) 2 (Q + 12)) : isR h2 (Q + 9) 2), (Form_28 fq2.1 : arI h2 (Q + 10) 0), (rdI_0 (Form_28 fq2.1 : arI h2 (Q + 10) 0) : rdI h2 (Q + 10)), (Form_29 fq2.1 : aln h2 (Q + 10) = 32), (Form_30 fq2.1 : arI h2 (Q + 11) 0), (rdI_0 (Form_30 fq2.1 : arI h2 (Q + 11) 0) : rdI h2 (Q + 11)), (Form_31 fq2.1 : aln h2 (Q + 11) = 32), (Form_32 fq2.1 : arI h2 (Q + 12) 0), (rdI_0 (Form_32 fq2.1 : arI h2 (Q + 12) 0) : rdI h2 (Q + 12)), (Form_33 fq2.1 : aln h2 (Q + 12) = 32), vkk_n, vkk_i, vkk_r, vkk_l, vkk_d, catS_nil, catS_i, catS_r, catS_l, catS_d, Nat.reduceAdd, Nat.reduceLeDiff, Nat.zero_le, Nat.le_refl, Option.bind_some, Option.toList_some, Option.toList_none, List.cons_append, List.nil_append, or_true, true_or, if_true, if_false, Int32.reduceLT, Int32.reduceLE, not_true, not_false_iff, true_and, and_true, false_and, and_false]
  · rw [y1]
    simp +decide only [e216_127, e216_128, e216_130, e216_133, e216_136, e216_137, e216_138, e216_139, e216_140, e216_141, e216_144, e216_147, e216_148, e216_151, om3, om4, om5, c_m_says, m2, g36, g36b, d1, vkk_n, vkk_i, vkk_r, vkk_l, vkk_d, catS_nil, catS_i, catS_r, catS_l, catS_d, Nat.reduceAdd, Nat.reduceLeDiff, Nat.zero_le, Nat.le_refl, Option.bind_some, Option.toList_some, Option.toList_none, List.cons_append, List.nil_append, or_true, true_or, if_true, if_false, Int32.reduceLT, Int32.reduceLE, not_true, not_false_iff, true_and, and_true, false_and, and_false]
  · have rm : RMem m4 g := by
      intro j hj
      have p1 : aI m4 (g + 277) (0 + j) = _ := (congrArg _ (Nat.zero_add j)).trans (d3 j)
      have p2 : aI m4 (g + 174) j = _ := (Y.I (a := g + 174) (fun z => by simp only [NR, or_false] at z; omega) j).trans (t3 j)
      have p3 := ly_rel 0 C (stV s X C) (stV s X C) (gI h (g + 173) 2) A N (lSiz 0 C N) (aI h (g + 174)) (aI h (g + 277)) (fun c hc => lCell_le 0 C N c C10 hc) (fun _ _ _ _ => rfl) j (ByR_of R.mem hj) N (Nat.le_refl _)
      rw [mf.I (a := g + 277) (fun z => z), y2.I (a := g + 277) (fun z => by omega), X2.I (a := g + 277) (fun z => by simp only [NR, false_or] at z; omega)] at p1
      by_cases c : A ≤ j ∧ j < A + lSiz 0 C N
      · have y6 := y5 rfl (j - A) (by omega)
        rw [mf.I (a := g + 293) (fun z => z), mf.I (a := g + 294) (fun z => z), y6.1, y6.2] at p1
        obtain ⟨v, v1, v2, v3⟩ := p3
        exact ⟨v, v1, p1.trans v2, p2.trans v3⟩
      · rw [if_neg (fun z => c ⟨z.1, z.2.1⟩)] at p1
        rw [if_neg (fun z => c ⟨z.1, z.2.1⟩)] at p3
        obtain ⟨v, v1, v2, v3⟩ := p3
        exact ⟨v, v1, p1.trans v2, p2.trans v3⟩
    refine Inv_now X2 Y ?_ ?_ ?_ ?_ ca2 ma (RHd_fr zz ?_ R.hd) rm (RReg_fr zz ?_ R.reg) (RBins_fr zz ?_ ?_ R.bins) R
    · intro a z
      unfold NwR SR
      simp only [NR, false_or, or_false] at z
      omega
    · intro a y z
      unfold NwF SF
      unfold AC at z
      simp only [NF, or_false] at z
      omega
    · intro a z
      unfold NwR SR
      simp only [NR, false_or, or_false] at z
      omega
    · intro a y z
      unfold NwF SF
      unfold AM VF at z
      simp only [NF, or_false] at z
      omega
    all_goals first | (intro a k z; unfold AC AM VF at z; simp only [NF, or_false, false_or] at z; omega) | (intro a z; simp only [NR, false_or, or_false] at z; omega)
