theorem Fr.sym {R : Nat → Prop} {F : Nat → Nat → Prop} {h h1 : VG} (x : Fr R F h h1) : Fr R F h1 h := ⟨x.1.symm, fun a ha j => ⟨(x.2.1 a ha j).1.symm, (x.2.1 a ha j).2.1.symm, (x.2.1 a ha j).2.2.symm⟩, fun a k hk => (x.2.2 a k hk).symm⟩
theorem MQ_cRf {h : VG} {g f N : Nat} {C : Nat → Nat} (e : Int32) (q : MQf (cRf h g 0) g f N C) : MQf (cRf h g e) g f N C := MQf_fr ((cRf_fr h g 0).sym.tr (cRf_fr h g e)) (fun _ z => z.elim) q
/-! load, the call -/
theorem ml_sm {h : VG} {g f N : Nat} {C : Nat → Nat} {w : Int32} (q : MLf h g f N C w) : ob h (g + 266) 11 := Mod_0 q.1.2.1
set_option maxHeartbeats 4000000 in
theorem k_load (h : VG) (g : Nat) (R : Inv h g) (f a b : Int32) : CalI h g 120 [some (.ref g), some (.int f), some (.int a), some (.int b), none, none, none, none, none, none] 212 [some (.ref (g + 266)), some (.int f), some (.int a), some (.int b), none, none, none, none] := by
  obtain ⟨l, fr, l1, l2, l3, e1, e2, e3, e4, e5, e6⟩ := R.hd
  have ho : ob h g 10 := Cls_0 R.cls
  have hm : ob h (g + 266) 11 := Mod_0 R.mod
  have F0 := cRf_fr h g 0
  have sH : Sh (cRf h g 0) g := cRf_sh R.sh
  have om0 : ob (cRf h g 0) (g + 266) 11 := cRf_ob.mpr hm
  have pH : RPl (cRf h g 0) g := RPl_fr F0 (fun a z => z.elim) (fun a k z => by unfold AC at z; omega) R.pl
  have kH : Kb (cRf h g 0) g := Kb_fr F0 (fun z => z) (fun z => z) R.cn.1
  have rH : pI h g 9 0 = cRf h g 0 := rfl
  have sM : Sh (pI (cRf h g 0) (g + 266) 31 0) g := m0_sh sH
  have gM : gI (pI (cRf h g 0) (g + 266) 31 0) (g + 266) 19 = gI (cRf h g 0) (g + 266) 19 := (m0_fr (cRf h g 0) (g + 266)).gI (fun z => by unfold AM at z; omega)
  rcases form_ok (cRf h g 0) g f sH pH kH with ⟨iC, iM⟩ | ⟨fN, P, Q, N, C, rfl, f6, iC, iM, rP, hP, aRow, Q1, Q2, fq, C10, N1, N32, mq⟩
  · have iM' := iM _ sM gM
    refine ⟨-1, cRf h g 0, mRf (cRf h g 0) (g + 266) 0, ?_, ?_, Inv_bad R, ((mRf_fr ..).two.trans F0.two)⟩
    · simp +decide only [e120_0, e120_1, e120_2, ho, rH, vkk_n, vkk_i, vkk_r, vkk_l, vkk_d, catS_nil, catS_i, catS_r, catS_l, catS_d, Nat.reduceAdd, Nat.reduceLeDiff, Nat.zero_le, Nat.le_refl, Option.bind_some, Option.toList_some, Option.toList_none, List.cons_append, List.nil_append, or_true, true_or, if_true, if_false, Int32.reduceLT, Int32.reduceLE, not_true, not_false_iff, true_and, and_true, false_and, and_false]
      have oH := Cls_0 sH.1
      generalize cRf h g 0 = H at iC oH ⊢
      simp +decide only [e120_5, e120_6, e120_7, e120_10, e120_13, e120_14, e120_17, e120_20, e120_21, oH, iC, vkk_n, vkk_i, vkk_r, vkk_l, vkk_d, catS_nil, catS_i, catS_r, catS_l, catS_d, Nat.reduceAdd, Nat.reduceLeDiff, Nat.zero_le, Nat.le_refl, Option.bind_some, Option.toList_some, Option.toList_none, List.cons_append, List.nil_append, or_true, true_or, if_true, if_false, Int32.reduceLT, Int32.reduceLE, not_true, not_false_iff, true_and, and_true, false_and, and_false]
    · rw [mRf_0]
      have om1 := Mod_0 sM.2.1
      simp +decide only [e212_0, e212_1, e212_2, om0, vkk_n, vkk_i, vkk_r, vkk_l, vkk_d, catS_nil, catS_i, catS_r, catS_l, catS_d, Nat.reduceAdd, Nat.reduceLeDiff, Nat.zero_le, Nat.le_refl, Option.bind_some, Option.toList_some, Option.toList_none, List.cons_append, List.nil_append, or_true, true_or, if_true, if_false, Int32.reduceLT, Int32.reduceLE, not_true, not_false_iff, true_and, and_true, false_and, and_false]
      generalize pI (cRf h g 0) (g + 266) 31 0 = H at iM' om1 ⊢
      simp +decide only [e212_5, e212_6, e212_7, e212_10, e212_13, e212_14, e212_17, e212_20, e212_21, e212_22, e212_23, e212_24, e212_25, e212_28, e212_29, e212_30, e212_31, e212_34, e212_37, e212_40, e212_41, e212_42, e212_45, e212_45b, e212_46, e212_47, om1, iM', vkk_n, vkk_i, vkk_r, vkk_l, vkk_d, catS_nil, catS_i, catS_r, catS_l, catS_d, Nat.reduceAdd, Nat.reduceLeDiff, Nat.zero_le, Nat.le_refl, Option.bind_some, Option.toList_some, Option.toList_none, List.cons_append, List.nil_append, or_true, true_or, if_true, if_false, Int32.reduceLT, Int32.reduceLE, not_true, not_false_iff, true_and, and_true, false_and, and_false]
  rcases c_bn (b := b) with ⟨b, hb, rfl⟩ | ⟨q1, q2⟩
  case inr =>
    have i1 := fun h => isBin_c (h := h) q1
    have j1 := fun h => mBin_c (h := h) q2
    have iM' := iM _ sM gM
    refine ⟨-1, cRf h g 0, mRf (cRf h g 0) (g + 266) 0, ?_, ?_, Inv_bad R, ((mRf_fr ..).two.trans F0.two)⟩
    · simp +decide only [e120_0, e120_1, e120_2, ho, rH, vkk_n, vkk_i, vkk_r, vkk_l, vkk_d, catS_nil, catS_i, catS_r, catS_l, catS_d, Nat.reduceAdd, Nat.reduceLeDiff, Nat.zero_le, Nat.le_refl, Option.bind_some, Option.toList_some, Option.toList_none, List.cons_append, List.nil_append, or_true, true_or, if_true, if_false, Int32.reduceLT, Int32.reduceLE, not_true, not_false_iff, true_and, and_true, false_and, and_false]
      have oH := Cls_0 sH.1
      generalize cRf h g 0 = H at iC oH ⊢
      simp +decide only [e120_5, e120_6, e120_7, e120_10, e120_13, e120_14, e120_17, e120_20, e120_21, oH, iC, i1, vkk_n, vkk_i, vkk_r, vkk_l, vkk_d, catS_nil, catS_i, catS_r, catS_l, catS_d, Nat.reduceAdd, Nat.reduceLeDiff, Nat.zero_le, Nat.le_refl, Option.bind_some, Option.toList_some, Option.toList_none, List.cons_append, List.nil_append, or_true, true_or, if_true, if_false, Int32.reduceLT, Int32.reduceLE, not_true, not_false_iff, true_and, and_true, false_and, and_false]
    · rw [mRf_0]
      have om1 := Mod_0 sM.2.1
      simp +decide only [e212_0, e212_1, e212_2, om0, vkk_n, vkk_i, vkk_r, vkk_l, vkk_d, catS_nil, catS_i, catS_r, catS_l, catS_d, Nat.reduceAdd, Nat.reduceLeDiff, Nat.zero_le, Nat.le_refl, Option.bind_some, Option.toList_some, Option.toList_none, List.cons_append, List.nil_append, or_true, true_or, if_true, if_false, Int32.reduceLT, Int32.reduceLE, not_true, not_false_iff, true_and, and_true, false_and, and_false]
      generalize pI (cRf h g 0) (g + 266) 31 0 = H at iM' om1 ⊢
      simp +decide only [e212_5, e212_6, e212_7, e212_10, e212_13, e212_14, e212_17, e212_20, e212_21, e212_22, e212_23, e212_24, e212_25, e212_28, e212_29, e212_30, e212_31, e212_34, e212_37, e212_40, e212_41, e212_42, e212_45, e212_45b, e212_46, e212_47, om1, iM', j1, vkk_n, vkk_i, vkk_r, vkk_l, vkk_d, catS_nil, catS_i, catS_r, catS_l, catS_d, Nat.reduceAdd, Nat.reduceLeDiff, Nat.zero_le, Nat.le_refl, Option.bind_some, Option.toList_some, Option.toList_none, List.cons_append, List.nil_append, or_true, true_or, if_true, if_false, Int32.reduceLT, Int32.reduceLE, not_true, not_false_iff, true_and, and_true, false_and, and_false]
  have i1 := fun h => isBin_c (h := h) (c_bn1 hb).1
  have j1 := fun h => mBin_c (h := h) (c_bn1 hb).2
  have le := lCell_le 0 C N 0 C10 (by omega)
  have le2 := (nBy_le (C 0) (C10 0 (by omega)) 0).1
  have le3 := lSiz_le 0 C N C10 N32
  have v1 : vp_in (nI fN) 6 := vp_in_nI f6 (by decide)
  have v2 : (nI fN).toNatClampNeg = fN := nI_clamp (by omega)
  have oH := Cls_0 sH.1
  have el : gI (cRf h g 0) (g + 173) 1 = nI l := (F0.gI (fun z => by unfold AC at z; omega)).trans e1
  have cr := fun f => c_refuses (cRf h g 0) g f oH
  have ent : ev 120 0 [some (.ref g), some (.int (nI fN)), some (.int a), some (.int (nI b)), none, none, none, none, none, none] [] h = ev 120 22 [some (.ref g), some (.int (nI fN)), some (.int a), some (.int (nI b)), none, none, none, none, none, none] [] (cRf h g 0) := by
    simp +decide only [e120_0, e120_1, e120_2, ho, rH, vkk_n, vkk_i, vkk_r, vkk_l, vkk_d, catS_nil, catS_i, catS_r, catS_l, catS_d, Nat.reduceAdd, Nat.reduceLeDiff, Nat.zero_le, Nat.le_refl, Option.bind_some, Option.toList_some, Option.toList_none, List.cons_append, List.nil_append, or_true, true_or, if_true, if_false, Int32.reduceLT, Int32.reduceLE, not_true, not_false_iff, true_and, and_true, false_and, and_false]
    generalize cRf h g 0 = H at iC oH ⊢
    simp +decide only [e120_5, e120_6, e120_7, e120_10, e120_13, e120_14, e120_17, e120_20, e120_21, oH, iC, i1, vkk_n, vkk_i, vkk_r, vkk_l, vkk_d, catS_nil, catS_i, catS_r, catS_l, catS_d, Nat.reduceAdd, Nat.reduceLeDiff, Nat.zero_le, Nat.le_refl, Option.bind_some, Option.toList_some, Option.toList_none, List.cons_append, List.nil_append, or_true, true_or, if_true, if_false, Int32.reduceLT, Int32.reduceLE, not_true, not_false_iff, true_and, and_true, false_and, and_false]
  rcases there_ok l2 (show lSiz 0 C N < 1073741824 by omega) a with ⟨q1, q2, q3⟩ | ⟨q1, q2⟩
  case inr =>
    have cq := cr 5
    rw [if_neg (by decide), rfs_cRf h g _ ho] at cq
    have om5 : ob (cRf h g 5) (g + 266) 11 := cRf_ob.mpr hm
    have m0f := m0_fr (cRf h g 5) (g + 266)
    have X := cRf_fr h g 5
    have s5 : Sh (pI (cRf h g 5) (g + 266) 31 0) g := m0_sh (cRf_sh R.sh)
    have XX := X.un m0f
    have mq5 : MQf (pI (cRf h g 5) (g + 266) 31 0) g fN N C := MQf_fr m0f (fun a z => z.elim) (MQ_cRf 5 mq)
    obtain ⟨m1, k1, k2, k3, k4⟩ := mq_lays 0 mq5
    have om6 := ml_sm k4
    have mf := mRf_fr m1 (g + 266) 5
    have m2 := (msy_0 m1 (g + 266) 5 (by decide) om6).2
    have Y := (m0f.un k2).un mf
    have g18 : gI m1 (g + 266) 18 = nI l := (k2.gI (fun z => by omega)).trans ((XX.gI (fun z => by unfold AC AM at z; omega)).trans e2)
    have t1 := c_m_isThere m1 (g + 266) a (nI (lSiz 0 C N)) om6
    rw [g18, q2] at t1
    have ma : MA (cRf h g 5) (mRf m1 (g + 266) 5) (g + 266) 5 := fr_ma (R1 := NR) (F1 := NF) 5 k2 (fun z => by omega) om6
    have iM' := iM _ s5 ((XX.gI (fun z => by unfold AC AM at z; omega)).trans (F0.gI (fun z => by unfold AC at z; omega)).symm)
    refine ⟨-1, cRf h g 5, mRf m1 (g + 266) 5, ?_, ?_, ?_, Y.two.trans X.two⟩
    · rw [ent]
      generalize cRf h g 5 = H5 at cq
      have hP := hP
      generalize cRf h g 0 = H at rP hP aRow fq oH el cq sH
      simp +decide only [e120_22, e120_23, e120_26, e120_29, e120_30, e120_31, e120_33, e120_34, e120_35, e120_38, e120_41, e120_42, e120_43, e120_45, e120_48, e120_51, e120_54, e120_57, e120_60, e120_61, e120_62, e120_63, e120_65, e120_66, oH, rf_g rP, rf_is rP, aRow, vrf_some, v1, v2, el, q1, cq, c_refusalOf, (Plan_0 hP : ob H P 6), (eq_true (isI_ob (Plan_0 hP : ob H P 6) rfl : isI H P 2)), (rf_g (Plan_1 hP : rf H P 0 (P + 1)) : gR H P 0 = (P + 1)), (rf_is (Plan_1 hP : rf H P 0 (P + 1)) : isR H P 0), (rf_g (Plan_2 hP : rf H P 1 (P + 3)) : gR H P 1 = (P + 3)), (rf_is (Plan_2 hP : rf H P 1 (P + 3)) : isR H P 1), (Plan_4 hP : arR H (P + 3) 6), (rdR_6 (Plan_4 hP : arR H (P + 3) 6) : rdR H (P + 3)), (Plan_5 hP : aln H (P + 3) = 6), fq.2.1, fq.2.2.2.2.1, (Form_0 fq.1 : ob H Q 3), (eq_true (isL_ob (Form_0 fq.1 : ob H Q 3) rfl : isL H Q 0)), (eq_true (isI_ob (Form_0 fq.1 : ob H Q 3) rfl : isI H Q 1)), (eq_true (isI_ob (Form_0 fq.1 : ob H Q 3) rfl : isI H Q 2)), (rf_g (Form_1 fq.1 : rf H Q 3 (Q + 1)) : gR H Q 3 = (Q + 1)), (rf_is (Form_1 fq.1 : rf H Q 3 (Q + 1)) : isR H Q 3), (rf_g (Form_2 fq.1 : rf H Q 4 (Q + 2)) : gR H Q 4 = (Q + 2)), (rf_is (Form_2 fq.1 : rf H Q 4 (Q + 2)) : isR H Q 4), (rf_g (Form_3 fq.1 : rf H Q 5 (Q + 3)) : gR H Q 5 = (Q + 3)), (rf_is (Form_3 fq.1 : rf H Q 5 (Q + 3)) : isR H Q 5), (rf_g (Form_4 fq.1 : rf H Q 6 (Q + 4)) : gR H Q 6 = (Q + 4)), (rf_is (Form_4 fq.1 : rf H Q 6 (Q + 4)) : isR H Q 6), (rf_g (Form_5 fq.1 : rf H Q 7 (Q + 5)) : gR H Q 7 = (Q + 5)), (rf_is (Form_5 fq.1 : rf H Q 7 (Q + 5)) : isR H Q 7), (rf_g (Form_6 fq.1 : rf H Q 8 (Q + 7)) : gR H Q 8 = (Q + 7)), (rf_is (Form_6 fq.1 : rf H Q 8 (Q + 7)) : isR H Q 8), (rf_g (Form_7 fq.1 : rf H Q 9 (Q + 9)) : gR H Q 9 = (Q + 9)), (rf_is (Form_7 fq.1 : rf H Q 9 (Q + 9)) : isR H Q 9), (Form_8 fq.1 : arI H (Q + 1) 0), (rdI_0 (Form_8 fq.1 : arI H (Q + 1) 0) : rdI H (Q + 1)), (Form_9 fq.1 : aln H (Q + 1) = 8), (Form_10 fq.1 : arI H (Q + 2) 0), (rdI_0 (Form_10 fq.1 : arI H (Q + 2) 0) : rdI H (Q + 2)), (Form_11 fq.1 : aln H (Q + 2) = 8), (Form_12 fq.1 : arI H (Q + 3) 0), (rdI_0 (Form_12 fq.1 : arI H (Q + 3) 0) : rdI H (Q + 3)), (Form_13 fq.1 : aln H (Q + 3) = 8), (Form_14 fq.1 : arI H (Q + 4) 0), (rdI_0 (Form_14 fq.1 : arI H (Q + 4) 0) : rdI H (Q + 4)), (Form_15 fq.1 : aln H (Q + 4) = 32), (Form_16 fq.1 : ob H (Q + 5) 4), (eq_true (isI_ob (Form_16 fq.1 : ob H (Q + 5) 4) rfl : isI H (Q + 5) 0)), (eq_true (isI_ob (Form_16 fq.1 : ob H (Q + 5) 4) rfl : isI H (Q + 5) 2)), (eq_true (isI_ob (Form_16 fq.1 : ob H (Q + 5) 4) rfl : isI H (Q + 5) 3)), (rf_g (Form_17 fq.1 : rf H (Q + 5) 1 (Q + 6)) : gR H (Q + 5) 1 = (Q + 6)), (rf_is (Form_17 fq.1 : rf H (Q + 5) 1 (Q + 6)) : isR H (Q + 5) 1), (Form_18 fq.1 : arI H (Q + 6) 0), (rdI_0 (Form_18 fq.1 : arI H (Q + 6) 0) : rdI H (Q + 6)), (Form_19 fq.1 : aln H (Q + 6) = 32), (Form_20 fq.1 : ob H (Q + 7) 4), (eq_true (isI_ob (Form_20 fq.1 : ob H (Q + 7) 4) rfl : isI H (Q + 7) 0)), (eq_true (isI_ob (Form_20 fq.1 : ob H (Q + 7) 4) rfl : isI H (Q + 7) 2)), (eq_true (isI_ob (Form_20 fq.1 : ob H (Q + 7) 4) rfl : isI H (Q + 7) 3)), (rf_g (Form_21 fq.1 : rf H (Q + 7) 1 (Q + 8)) : gR H (Q + 7) 1 = (Q + 8)), (rf_is (Form_21 fq.1 : rf H (Q + 7) 1 (Q + 8)) : isR H (Q + 7) 1), (Form_22 fq.1 : arI H (Q + 8) 0), (rdI_0 (Form_22 fq.1 : arI H (Q + 8) 0) : rdI H (Q + 8)), (Form_23 fq.1 : aln H (Q + 8) = 32), (Form_24 fq.1 : ob H (Q + 9) 0), (rf_g (Form_25 fq.1 : rf H (Q + 9) 0 (Q + 10)) : gR H (Q + 9) 0 = (Q + 10)), (rf_is (Form_25 fq.1 : rf H (Q + 9) 0 (Q + 10)) : isR H (Q + 9) 0), (rf_g (Form_26 fq.1 : rf H (Q + 9) 1 (Q + 11)) : gR H (Q + 9) 1 = (Q + 11)), (rf_is (Form_26 fq.1 : rf H (Q + 9) 1 (Q + 11)) : isR H (Q + 9) 1), (rf_g (Form_27 fq.1 : rf H (Q + 9) 2 (Q + 12)) : gR H (Q + 9) 2 = (Q + 12)), (rf_is (Form_27 fq.1 : rf H (Q + 9) 2 (Q + 12)) : isR H (Q + 9) 2), (Form_28 fq.1 : arI H (Q + 10) 0), (rdI_0 (Form_28 fq.1 : arI H (Q + 10) 0) : rdI H (Q + 10)), (Form_29 fq.1 : aln H (Q + 10) = 32), (Form_30 fq.1 : arI H (Q + 11) 0), (rdI_0 (Form_30 fq.1 : arI H (Q + 11) 0) : rdI H (Q + 11)), (Form_31 fq.1 : aln H (Q + 11) = 32), (Form_32 fq.1 : arI H (Q + 12) 0), (rdI_0 (Form_32 fq.1 : arI H (Q + 12) 0) : rdI H (Q + 12)), (Form_33 fq.1 : aln H (Q + 12) = 32), (Cls_0 sH.1 : ob H g 10), (rf_g (Cls_3 sH.1 : rf H g 6 (g + 172)) : gR H g 6 = (g + 172)), (rf_is (Cls_3 sH.1 : rf H g 6 (g + 172)) : isR H g 6), (State_0 (Cls_17 sH.1) : ob H (g + 172) 8), (eq_true (isI_ob (State_0 (Cls_17 sH.1) : ob H (g + 172) 8) rfl : isI H (g + 172) 3)), (rf_g (State_1 (Cls_17 sH.1) : rf H (g + 172) 0 (g + 173)) : gR H (g + 172) 0 = (g + 173)), (rf_is (State_1 (Cls_17 sH.1) : rf H (g + 172) 0 (g + 173)) : isR H (g + 172) 0), (rf_g (State_2 (Cls_17 sH.1) : rf H (g + 172) 1 (g + 175)) : gR H (g + 172) 1 = (g + 175)), (rf_is (State_2 (Cls_17 sH.1) : rf H (g + 172) 1 (g + 175)) : isR H (g + 172) 1), (rf_g (State_3 (Cls_17 sH.1) : rf H (g + 172) 2 (g + 176)) : gR H (g + 172) 2 = (g + 176)), (rf_is (State_3 (Cls_17 sH.1) : rf H (g + 172) 2 (g + 176)) : isR H (g + 172) 2), (State_5 (Cls_17 sH.1) : arR H (g + 175) 5), (rdR_5 (State_5 (Cls_17 sH.1) : arR H (g + 175) 5) : rdR H (g + 175)), (State_6 (Cls_17 sH.1) : aln H (g + 175) = 8), (State_8 (Cls_17 sH.1) : arL H (g + 176)), (State_9 (Cls_17 sH.1) : aln H (g + 176) = 8), (Mem_0 (State_4 (Cls_17 sH.1)) : ob H (g + 173) 5), (eq_true (isI_ob (Mem_0 (State_4 (Cls_17 sH.1)) : ob H (g + 173) 5) rfl : isI H (g + 173) 1)), (eq_true (isI_ob (Mem_0 (State_4 (Cls_17 sH.1)) : ob H (g + 173) 5) rfl : isI H (g + 173) 2)), (rf_g (Mem_1 (State_4 (Cls_17 sH.1)) : rf H (g + 173) 0 (g + 174)) : gR H (g + 173) 0 = (g + 174)), (rf_is (Mem_1 (State_4 (Cls_17 sH.1)) : rf H (g + 173) 0 (g + 174)) : isR H (g + 173) 0), (Mem_2 (State_4 (Cls_17 sH.1)) : arI H (g + 174) 2), (rdB_2 (Mem_2 (State_4 (Cls_17 sH.1)) : arI H (g + 174) 2) : rdB H (g + 174)), (Mem_3 (State_4 (Cls_17 sH.1)) : aln H (g + 174) = 256), vkk_n, vkk_i, vkk_r, vkk_l, vkk_d, catS_nil, catS_i, catS_r, catS_l, catS_d, Nat.reduceAdd, Nat.reduceLeDiff, Nat.zero_le, Nat.le_refl, Option.bind_some, Option.toList_some, Option.toList_none, List.cons_append, List.nil_append, or_true, true_or, if_true, if_false, Int32.reduceLT, Int32.reduceLE, not_true, not_false_iff, true_and, and_true, false_and, and_false]
    · have om1 := Mod_0 s5.2.1
      simp +decide only [e212_0, e212_1, e212_2, om5, vkk_n, vkk_i, vkk_r, vkk_l, vkk_d, catS_nil, catS_i, catS_r, catS_l, catS_d, Nat.reduceAdd, Nat.reduceLeDiff, Nat.zero_le, Nat.le_refl, Option.bind_some, Option.toList_some, Option.toList_none, List.cons_append, List.nil_append, or_true, true_or, if_true, if_false, Int32.reduceLT, Int32.reduceLE, not_true, not_false_iff, true_and, and_true, false_and, and_false]
      generalize pI (cRf h g 5) (g + 266) 31 0 = H at iM' om1 k1 ⊢
      simp +decide only [e212_5, e212_6, e212_7, e212_10, e212_13, e212_14, e212_17, e212_20, e212_21, e212_22, e212_23, e212_24, e212_25, e212_28, e212_29, e212_30, e212_31, e212_34, e212_37, e212_40, e212_41, e212_42, e212_45, e212_45b, e212_46, e212_47, om1, om6, iM', j1, k1, k3, t1, c_m_says, m2, vkk_n, vkk_i, vkk_r, vkk_l, vkk_d, catS_nil, catS_i, catS_r, catS_l, catS_d, Nat.reduceAdd, Nat.reduceLeDiff, Nat.zero_le, Nat.le_refl, Option.bind_some, Option.toList_some, Option.toList_none, List.cons_append, List.nil_append, or_true, true_or, if_true, if_false, Int32.reduceLT, Int32.reduceLE, not_true, not_false_iff, true_and, and_true, false_and, and_false]
    · refine Inv_ans X Y ?_ ?_ ?_ ?_ (cRf_CA 5 ho) ma R
      · intro a z
        exact z.elim
      · intro a y z
        unfold SF
        unfold AC at z
        omega
      · intro a z
        unfold SR
        simp only [NR, false_or, or_false] at z
        omega
      · intro a y z
        unfold SF
        unfold AM at z
        omega
  obtain ⟨A, rfl, hA⟩ := q3.resolve_left (by omega)
  obtain ⟨hBs, -⟩ := bin_sh sH hb
  obtain ⟨s, n, b1, b2, b3, b4, b5, b6, b7, b8⟩ := R.bins b hb
  have gg : ∀ k, gI (cRf h g 0) (g + (177 + 3 * b)) k = gI h (g + (177 + 3 * b)) k := fun k => F0.gI (fun z => by unfold AC at z; omega)
  obtain ⟨h1, dn, f1, u1, u2, u3, u4, u5⟩ := l_load h g fN Q N A b s n C (aI h (g + 174)) (gI h (g + 173) 2) hb b1 b2 N32 C10 Q1 Q2 (by omega) N 0 0 0 (cRf h g 0) none none (by omega) sH fq (fun j => F0.I (fun z => z) j) (F0.gI (fun z => by unfold AC at z; omega)) ((gg _).trans b4) ((gg _).trans b6) (fun s8 y hy => (F0.I (fun z => z) _).trans ((b8 y hy).1.1 s8)) (cRf_CA 0 ho) (Or.inl rfl)
  have u1 : ev 120 68 [some (.ref g), some (.int (nI fN)), some (.int (nI A)), some (.int (nI b)), some (.ref Q), some (.int 0), some (.int 0), none, none, none] [] (cRf h g 0) = some (some (.int (nI dn)), h1) := u1
  have s1 : Sh h1 g := Sh_fr u2 (fun a z => by omega) sH
  have om1 : ob h1 (g + 266) 11 := Mod_0 s1.2.1
  have X := F0.un u2
  have m0f := m0_fr h1 (g + 266)
  have XX := X.un m0f
  have sm : Sh (pI h1 (g + 266) 31 0) g := m0_sh s1
  have om1p := Mod_0 sm.2.1
  have mq1 : MQf (pI h1 (g + 266) 31 0) g fN N C := MQf_fr m0f (fun a z => z.elim) (MQf_fr u2 (fun a z => by omega) mq)
  obtain ⟨m1, k1, k2, k3, k4⟩ := mq_lays 0 mq1
  have om6 := ml_sm k4
  have xg : ∀ y, ¬ (y = 31 ∨ y = 32 ∨ y = 36 ∨ y = 37) → gI m1 (g + 266) y = gI h (g + 266) y := fun y hy => (k2.gI (fun z => by omega)).trans (XX.gI (fun z => by unfold AC AM at z; omega))
  have x277 : ∀ j, aI m1 (g + 277) j = aI h (g + 277) j := fun j => (k2.I (a := g + 277) (fun z => by omega) j).trans (XX.I (a := g + 277) (fun z => by simp only [NR, false_or, or_false] at z; omega) j)
  have rb0 : RBins2 (cRf h g 0) m1 g := RBins2_fr F0 (XX.un k2) (fun _ z => z.elim) (fun a k z => by unfold AC at z; omega) (fun a z => by simp only [NR, false_or, or_false] at z; omega) (RBins_2.mp R.bins)
  obtain ⟨m2, l1', z1, z2, z3⟩ := u5 m1 none k4 (fun j hj => (RMm_all R.mem hj).trans (x277 j).symm) ((xg 17 (by omega)).trans e5.symm) rb0
  have z1 : ev 212 57 [some (.ref (g + 266)), some (.int (nI fN)), some (.int (nI A)), some (.int (nI b)), some (.int 0), some (.int 0), some (.int 0), none] [] m1 = _ := z1
  have s2 : Sh m2 g := Sh_fr z2 (fun a z => by unfold LR at z; omega) k4.1
  have om2 : ob m2 (g + 266) 11 := Mod_0 s2.2.1
  have mm := (msy_0 m2 (g + 266) f1 (f04_nn u4) om2).2
  have mf := mRf_fr m2 (g + 266) f1
  have t1 := c_m_isThere m1 (g + 266) (nI A) (nI (lSiz 0 C N)) om6
  rw [xg 18 (by omega), e2, q2] at t1
  have cq := cr 0
  rw [if_pos rfl, rfs_cRf h g _ ho] at cq
  have iM' := iM _ sm ((XX.gI (fun z => by unfold AC AM at z; omega)).trans (F0.gI (fun z => by unfold AC at z; omega)).symm)
  have kz := k2.un z2
  have Y := (m0f.un kz).un mf
  have zz := X.un Y
  have ma : MA h1 (mRf m2 (g + 266) f1) (g + 266) f1 := fr_ma (R1 := NR) (F1 := NF) f1 kz (fun z => by unfold VF at z; omega) om2
  refine ⟨nI dn, h1, mRf m2 (g + 266) f1, ?_, ?_, ?_, zz.two⟩
  · rw [ent]
    generalize cRf h g 0 = H at rP hP aRow fq oH el cq sH u1
    simp +decide only [e120_22, e120_23, e120_26, e120_29, e120_30, e120_31, e120_33, e120_34, e120_35, e120_38, e120_41, e120_42, e120_43, e120_45, e120_48, e120_51, e120_54, e120_57, e120_60, e120_61, e120_62, e120_63, e120_65, e120_66, oH, rf_g rP, rf_is rP, aRow, vrf_some, v1, v2, el, q1, cq, c_refusalOf, (Plan_0 hP : ob H P 6), (eq_true (isI_ob (Plan_0 hP : ob H P 6) rfl : isI H P 2)), (rf_g (Plan_1 hP : rf H P 0 (P + 1)) : gR H P 0 = (P + 1)), (rf_is (Plan_1 hP : rf H P 0 (P + 1)) : isR H P 0), (rf_g (Plan_2 hP : rf H P 1 (P + 3)) : gR H P 1 = (P + 3)), (rf_is (Plan_2 hP : rf H P 1 (P + 3)) : isR H P 1), (Plan_4 hP : arR H (P + 3) 6), (rdR_6 (Plan_4 hP : arR H (P + 3) 6) : rdR H (P + 3)), (Plan_5 hP : aln H (P + 3) = 6), fq.2.1, fq.2.2.2.2.1, (Form_0 fq.1 : ob H Q 3), (eq_true (isL_ob (Form_0 fq.1 : ob H Q 3) rfl : isL H Q 0)), (eq_true (isI_ob (Form_0 fq.1 : ob H Q 3) rfl : isI H Q 1)), (eq_true (isI_ob (Form_0 fq.1 : ob H Q 3) rfl : isI H Q 2)), (rf_g (Form_1 fq.1 : rf H Q 3 (Q + 1)) : gR H Q 3 = (Q + 1)), (rf_is (Form_1 fq.1 : rf H Q 3 (Q + 1)) : isR H Q 3), (rf_g (Form_2 fq.1 : rf H Q 4 (Q + 2)) : gR H Q 4 = (Q + 2)), (rf_is (Form_2 fq.1 : rf H Q 4 (Q + 2)) : isR H Q 4), (rf_g (Form_3 fq.1 : rf H Q 5 (Q + 3)) : gR H Q 5 = (Q + 3)), (rf_is (Form_3 fq.1 : rf H Q 5 (Q + 3)) : isR H Q 5), (rf_g (Form_4 fq.1 : rf H Q 6 (Q + 4)) : gR H Q 6 = (Q + 4)), (rf_is (Form_4 fq.1 : rf H Q 6 (Q + 4)) : isR H Q 6), (rf_g (Form_5 fq.1 : rf H Q 7 (Q + 5)) : gR H Q 7 = (Q + 5)), (rf_is (Form_5 fq.1 : rf H Q 7 (Q + 5)) : isR H Q 7), (rf_g (Form_6 fq.1 : rf H Q 8 (Q + 7)) : gR H Q 8 = (Q + 7)), (rf_is (Form_6 fq.1 : rf H Q 8 (Q + 7)) : isR H Q 8), (rf_g (Form_7 fq.1 : rf H Q 9 (Q + 9)) : gR H Q 9 = (Q + 9)), (rf_is (Form_7 fq.1 : rf H Q 9 (Q + 9)) : isR H Q 9), (Form_8 fq.1 : arI H (Q + 1) 0), (rdI_0 (Form_8 fq.1 : arI H (Q + 1) 0) : rdI H (Q + 1)), (Form_9 fq.1 : aln H (Q + 1) = 8), (Form_10 fq.1 : arI H (Q + 2) 0), (rdI_0 (Form_10 fq.1 : arI H (Q + 2) 0) : rdI H (Q + 2)), (Form_11 fq.1 : aln H (Q + 2) = 8), (Form_12 fq.1 : arI H (Q + 3) 0), (rdI_0 (Form_12 fq.1 : arI H (Q + 3) 0) : rdI H (Q + 3)), (Form_13 fq.1 : aln H (Q + 3) = 8), (Form_14 fq.1 : arI H (Q + 4) 0), (rdI_0 (Form_14 fq.1 : arI H (Q + 4) 0) : rdI H (Q + 4)), (Form_15 fq.1 : aln H (Q + 4) = 32), (Form_16 fq.1 : ob H (Q + 5) 4), (eq_true (isI_ob (Form_16 fq.1 : ob H (Q + 5) 4) rfl : isI H (Q + 5) 0)), (eq_true (isI_ob (Form_16 fq.1 : ob H (Q + 5) 4) rfl : isI H (Q + 5) 2)), (eq_true (isI_ob (Form_16 fq.1 : ob H (Q + 5) 4) rfl : isI H (Q + 5) 3)), (rf_g (Form_17 fq.1 : rf H (Q + 5) 1 (Q + 6)) : gR H (Q + 5) 1 = (Q + 6)), (rf_is (Form_17 fq.1 : rf H (Q + 5) 1 (Q + 6)) : isR H (Q + 5) 1), (Form_18 fq.1 : arI H (Q + 6) 0), (rdI_0 (Form_18 fq.1 : arI H (Q + 6) 0) : rdI H (Q + 6)), (Form_19 fq.1 : aln H (Q + 6) = 32), (Form_20 fq.1 : ob H (Q + 7) 4), (eq_true (isI_ob (Form_20 fq.1 : ob H (Q + 7) 4) rfl : isI H (Q + 7) 0)), (eq_true (isI_ob (Form_20 fq.1 : ob H (Q + 7) 4) rfl : isI H (Q + 7) 2)), (eq_true (isI_ob (Form_20 fq.1 : ob H (Q + 7) 4) rfl : isI H (Q + 7) 3)), (rf_g (Form_21 fq.1 : rf H (Q + 7) 1 (Q + 8)) : gR H (Q + 7) 1 = (Q + 8)), (rf_is (Form_21 fq.1 : rf H (Q + 7) 1 (Q + 8)) : isR H (Q + 7) 1), (Form_22 fq.1 : arI H (Q + 8) 0), (rdI_0 (Form_22 fq.1 : arI H (Q + 8) 0) : rdI H (Q + 8)), (Form_23 fq.1 : aln H (Q + 8) = 32), (Form_24 fq.1 : ob H (Q + 9) 0), (rf_g (Form_25 fq.1 : rf H (Q + 9) 0 (Q + 10)) : gR H (Q + 9) 0 = (Q + 10)), (rf_is (Form_25 fq.1 : rf H (Q + 9) 0 (Q + 10)) : isR H (Q + 9) 0), (rf_g (Form_26 fq.1 : rf H (Q + 9) 1 (Q + 11)) : gR H (Q + 9) 1 = (Q + 11)), (rf_is (Form_26 fq.1 : rf H (Q + 9) 1 (Q + 11)) : isR H (Q + 9) 1), (rf_g (Form_27 fq.1 : rf H (Q + 9) 2 (Q + 12)) : gR H (Q + 9) 2 = (Q + 12)), (rf_is (Form_27 fq.1 : rf H (Q + 9) 2 (Q + 12)) : isR H (Q + 9) 2), (Form_28 fq.1 : arI H (Q + 10) 0), (rdI_0 (Form_28 fq.1 : arI H (Q + 10) 0) : rdI H (Q + 10)), (Form_29 fq.1 : aln H (Q + 10) = 32), (Form_30 fq.1 : arI H (Q + 11) 0), (rdI_0 (Form_30 fq.1 : arI H (Q + 11) 0) : rdI H (Q + 11)), (Form_31 fq.1 : aln H (Q + 11) = 32), (Form_32 fq.1 : arI H (Q + 12) 0), (rdI_0 (Form_32 fq.1 : arI H (Q + 12) 0) : rdI H (Q + 12)), (Form_33 fq.1 : aln H (Q + 12) = 32), (Cls_0 sH.1 : ob H g 10), (rf_g (Cls_3 sH.1 : rf H g 6 (g + 172)) : gR H g 6 = (g + 172)), (rf_is (Cls_3 sH.1 : rf H g 6 (g + 172)) : isR H g 6), (State_0 (Cls_17 sH.1) : ob H (g + 172) 8), (eq_true (isI_ob (State_0 (Cls_17 sH.1) : ob H (g + 172) 8) rfl : isI H (g + 172) 3)), (rf_g (State_1 (Cls_17 sH.1) : rf H (g + 172) 0 (g + 173)) : gR H (g + 172) 0 = (g + 173)), (rf_is (State_1 (Cls_17 sH.1) : rf H (g + 172) 0 (g + 173)) : isR H (g + 172) 0), (rf_g (State_2 (Cls_17 sH.1) : rf H (g + 172) 1 (g + 175)) : gR H (g + 172) 1 = (g + 175)), (rf_is (State_2 (Cls_17 sH.1) : rf H (g + 172) 1 (g + 175)) : isR H (g + 172) 1), (rf_g (State_3 (Cls_17 sH.1) : rf H (g + 172) 2 (g + 176)) : gR H (g + 172) 2 = (g + 176)), (rf_is (State_3 (Cls_17 sH.1) : rf H (g + 172) 2 (g + 176)) : isR H (g + 172) 2), (State_5 (Cls_17 sH.1) : arR H (g + 175) 5), (rdR_5 (State_5 (Cls_17 sH.1) : arR H (g + 175) 5) : rdR H (g + 175)), (State_6 (Cls_17 sH.1) : aln H (g + 175) = 8), (State_8 (Cls_17 sH.1) : arL H (g + 176)), (State_9 (Cls_17 sH.1) : aln H (g + 176) = 8), (Mem_0 (State_4 (Cls_17 sH.1)) : ob H (g + 173) 5), (eq_true (isI_ob (Mem_0 (State_4 (Cls_17 sH.1)) : ob H (g + 173) 5) rfl : isI H (g + 173) 1)), (eq_true (isI_ob (Mem_0 (State_4 (Cls_17 sH.1)) : ob H (g + 173) 5) rfl : isI H (g + 173) 2)), (rf_g (Mem_1 (State_4 (Cls_17 sH.1)) : rf H (g + 173) 0 (g + 174)) : gR H (g + 173) 0 = (g + 174)), (rf_is (Mem_1 (State_4 (Cls_17 sH.1)) : rf H (g + 173) 0 (g + 174)) : isR H (g + 173) 0), (Mem_2 (State_4 (Cls_17 sH.1)) : arI H (g + 174) 2), (rdB_2 (Mem_2 (State_4 (Cls_17 sH.1)) : arI H (g + 174) 2) : rdB H (g + 174)), (Mem_3 (State_4 (Cls_17 sH.1)) : aln H (g + 174) = 256), vkk_n, vkk_i, vkk_r, vkk_l, vkk_d, catS_nil, catS_i, catS_r, catS_l, catS_d, Nat.reduceAdd, Nat.reduceLeDiff, Nat.zero_le, Nat.le_refl, Option.bind_some, Option.toList_some, Option.toList_none, List.cons_append, List.nil_append, or_true, true_or, if_true, if_false, Int32.reduceLT, Int32.reduceLE, not_true, not_false_iff, true_and, and_true, false_and, and_false]
    exact u1
  · simp +decide only [e212_0, e212_1, e212_2, om1, vkk_n, vkk_i, vkk_r, vkk_l, vkk_d, catS_nil, catS_i, catS_r, catS_l, catS_d, Nat.reduceAdd, Nat.reduceLeDiff, Nat.zero_le, Nat.le_refl, Option.bind_some, Option.toList_some, Option.toList_none, List.cons_append, List.nil_append, or_true, true_or, if_true, if_false, Int32.reduceLT, Int32.reduceLE, not_true, not_false_iff, true_and, and_true, false_and, and_false]
    generalize pI h1 (g + 266) 31 0 = H at iM' om1p k1 ⊢
    simp +decide only [e212_5, e212_6, e212_7, e212_10, e212_13, e212_14, e212_17, e212_20, e212_21, e212_22, e212_23, e212_24, e212_25, e212_28, e212_29, e212_30, e212_31, e212_34, e212_37, e212_40, e212_41, e212_42, e212_45, e212_45b, e212_46, e212_47, e212_48, e212_49, e212_51, e212_52, e212_54, e212_55, om1p, om6, iM', j1, k1, k3, t1, vkk_n, vkk_i, vkk_r, vkk_l, vkk_d, catS_nil, catS_i, catS_r, catS_l, catS_d, Nat.reduceAdd, Nat.reduceLeDiff, Nat.zero_le, Nat.le_refl, Option.bind_some, Option.toList_some, Option.toList_none, List.cons_append, List.nil_append, or_true, true_or, if_true, if_false, Int32.reduceLT, Int32.reduceLE, not_true, not_false_iff, true_and, and_true, false_and, and_false]
    rw [z1]
    simp +decide only [e212_123, e212_124, e212_126, e212_129, e212_129b, e212_130, e212_132, om2, c_m_says, mm, vkk_n, vkk_i, vkk_r, vkk_l, vkk_d, catS_nil, catS_i, catS_r, catS_l, catS_d, Nat.reduceAdd, Nat.reduceLeDiff, Nat.zero_le, Nat.le_refl, Option.bind_some, Option.toList_some, Option.toList_none, List.cons_append, List.nil_append, or_true, true_or, if_true, if_false, Int32.reduceLT, Int32.reduceLE, not_true, not_false_iff, true_and, and_true, false_and, and_false]
  · have rb : RBins (mRf m2 (g + 266) f1) g := by
      have a : RBins2 (mRf m2 (g + 266) f1) (mRf m2 (g + 266) f1) g := RBins2_fr Y mf (fun a z => by unfold LR at z; simp only [NR, false_or, or_false] at z; omega) (fun a y z => by unfold AM VF at z; omega) (fun _ z => z.elim) z3
      exact a
    refine Inv_now X Y ?_ ?_ ?_ ?_ u3 ma (RHd_fr zz ?_ R.hd) (RMem_fr zz ?_ R.mem) (RReg_fr zz ?_ R.reg) rb R
    · intro a z
      unfold NwR SR
      simp only [NR, false_or, or_false] at z
      omega
    · intro a y z
      unfold NwF SF
      unfold AC at z
      omega
    · intro a z
      unfold NwR SR
      unfold LR at z
      simp only [NR, false_or, or_false] at z
      omega
    · intro a y z
      unfold NwF SF
      unfold AM VF at z
      omega
    · intro a k z
      unfold AC AM VF at z
      omega
    · intro a z
      unfold LR at z
      simp only [NR, false_or, or_false] at z
      omega
    · intro a z
      unfold LR at z
      simp only [NR, false_or, or_false] at z
      omega
