/-! list, the call -/
theorem k_list (h : VG) (g : Nat) (R : Inv h g) (a n t : Int32) : CalI h g 124 [some (.ref g), some (.int a), some (.int n), some (.int t)] 220 [some (.ref (g + 266)), some (.int a), some (.int n), some (.int t), none, none, none] := by
  obtain ⟨l, fr, l1, l2, l3, e1, e2, e3, e4, e5, e6⟩ := R.hd
  have ho : ob h g 10 := Cls_0 R.cls
  have hm : ob h (g + 266) 11 := Mod_0 R.mod
  have F0 := cRf_fr h g 0
  have s0 : Sh (cRf h g 0) g := cRf_sh R.sh
  have om0 : ob (cRf h g 0) (g + 266) 11 := cRf_ob.mpr hm
  have bad : (n < 0 ∨ ¬ n ≤ 8 ∨ t < 0 ∨ ¬ t ≤ 2) → CalI h g 124 [some (.ref g), some (.int a), some (.int n), some (.int t)] 220 [some (.ref (g + 266)), some (.int a), some (.int n), some (.int t), none, none, none] := by
    intro q
    refine ⟨-1, cRf h g 0, mRf (cRf h g 0) (g + 266) 0, ?_, ?_, Inv_bad R, ((mRf_fr ..).two.trans F0.two)⟩
    · rw [cRf_0]
      by_cases n0 : n < 0
      · simp +decide only [e124_0, e124_1, e124_2, e124_5, e124_6, e124_9, e124_10, e124_12, e124_15, e124_16, e124_19, e124_20, e124_21, e124_24, e124_25, e124_26, e124_27, e124_30, e124_33, e124_34, e124_35, e124_36, e124_64, e124_65, e124_68, e124_71, e124_72, e124_73, e124_76, e124_79, e124_80, e124_81, e124_84, e124_87, ho, n0, vkk_n, vkk_i, vkk_r, vkk_l, vkk_d, catS_nil, catS_i, catS_r, catS_l, catS_d, Nat.reduceAdd, Nat.reduceLeDiff, Nat.zero_le, Nat.le_refl, Option.bind_some, Option.toList_some, Option.toList_none, List.cons_append, List.nil_append, or_true, true_or, if_true, if_false, Int32.reduceLT, Int32.reduceLE, not_true, not_false_iff, true_and, and_true, false_and, and_false]
      · by_cases n1 : n ≤ 8
        · by_cases t0 : t < 0
          · simp +decide only [e124_0, e124_1, e124_2, e124_5, e124_6, e124_9, e124_10, e124_12, e124_15, e124_16, e124_19, e124_20, e124_21, e124_24, e124_25, e124_26, e124_27, e124_30, e124_33, e124_34, e124_35, e124_36, e124_64, e124_65, e124_68, e124_71, e124_72, e124_73, e124_76, e124_79, e124_80, e124_81, e124_84, e124_87, ho, n0, n1, t0, vkk_n, vkk_i, vkk_r, vkk_l, vkk_d, catS_nil, catS_i, catS_r, catS_l, catS_d, Nat.reduceAdd, Nat.reduceLeDiff, Nat.zero_le, Nat.le_refl, Option.bind_some, Option.toList_some, Option.toList_none, List.cons_append, List.nil_append, or_true, true_or, if_true, if_false, Int32.reduceLT, Int32.reduceLE, not_true, not_false_iff, true_and, and_true, false_and, and_false]
          · have t1 : ¬ t ≤ 2 := by
              rcases q with q | q | q | q
              · exact absurd q n0
              · exact absurd n1 q
              · exact absurd q t0
              · exact q
            simp +decide only [e124_0, e124_1, e124_2, e124_5, e124_6, e124_9, e124_10, e124_12, e124_15, e124_16, e124_19, e124_20, e124_21, e124_24, e124_25, e124_26, e124_27, e124_30, e124_33, e124_34, e124_35, e124_36, e124_64, e124_65, e124_68, e124_71, e124_72, e124_73, e124_76, e124_79, e124_80, e124_81, e124_84, e124_87, ho, n0, n1, t0, t1, vkk_n, vkk_i, vkk_r, vkk_l, vkk_d, catS_nil, catS_i, catS_r, catS_l, catS_d, Nat.reduceAdd, Nat.reduceLeDiff, Nat.zero_le, Nat.le_refl, Option.bind_some, Option.toList_some, Option.toList_none, List.cons_append, List.nil_append, or_true, true_or, if_true, if_false, Int32.reduceLT, Int32.reduceLE, not_true, not_false_iff, true_and, and_true, false_and, and_false]
        · simp +decide only [e124_0, e124_1, e124_2, e124_5, e124_6, e124_9, e124_10, e124_12, e124_15, e124_16, e124_19, e124_20, e124_21, e124_24, e124_25, e124_26, e124_27, e124_30, e124_33, e124_34, e124_35, e124_36, e124_64, e124_65, e124_68, e124_71, e124_72, e124_73, e124_76, e124_79, e124_80, e124_81, e124_84, e124_87, ho, n0, n1, vkk_n, vkk_i, vkk_r, vkk_l, vkk_d, catS_nil, catS_i, catS_r, catS_l, catS_d, Nat.reduceAdd, Nat.reduceLeDiff, Nat.zero_le, Nat.le_refl, Option.bind_some, Option.toList_some, Option.toList_none, List.cons_append, List.nil_append, or_true, true_or, if_true, if_false, Int32.reduceLT, Int32.reduceLE, not_true, not_false_iff, true_and, and_true, false_and, and_false]
    · rw [mRf_0]
      by_cases n0 : n < 0
      · have q1 := mIn_0 (v := n) (u := 8) n0
        simp +decide only [e220_0, e220_1, e220_2, e220_5, e220_6, e220_7, e220_9, e220_12, e220_15, e220_16, e220_17, e220_18, e220_21, e220_24, e220_25, e220_26, e220_27, e220_28, e220_29, e220_30, e220_33, e220_36, e220_39, e220_40, e220_41, e220_42, e220_44, e220_45, e220_47, e220_48, e220_50, e220_52, e220_53, e220_56, e220_57, e220_60, e220_62, e220_63, e220_66, e220_69, e220_70, e220_73, e220_75, e220_76, e220_78, e220_81, e220_82, e220_85, e220_87, e220_88, e220_90, e220_93, e220_96, e220_97, e220_100, e220_101, e220_104, e220_107, e220_108, e220_109, e220_112, e220_114, e220_117, e220_119, om0, c_m_in, q1, vkk_n, vkk_i, vkk_r, vkk_l, vkk_d, catS_nil, catS_i, catS_r, catS_l, catS_d, Nat.reduceAdd, Nat.reduceLeDiff, Nat.zero_le, Nat.le_refl, Option.bind_some, Option.toList_some, Option.toList_none, List.cons_append, List.nil_append, or_true, true_or, if_true, if_false, Int32.reduceLT, Int32.reduceLE, not_true, not_false_iff, true_and, and_true, false_and, and_false]
      · by_cases n1 : n ≤ 8
        · have q1 := mIn_t (u := 8) n0 n1
          have q2 : mIn t 0 2 = 0 := by
            by_cases t0 : t < 0
            · exact mIn_0 t0
            · refine mIn_2 ?_
              rcases q with q | q | q | q
              · exact absurd q n0
              · exact absurd n1 q
              · exact absurd q t0
              · exact q
          simp +decide only [e220_0, e220_1, e220_2, e220_5, e220_6, e220_7, e220_9, e220_12, e220_15, e220_16, e220_17, e220_18, e220_21, e220_24, e220_25, e220_26, e220_27, e220_28, e220_29, e220_30, e220_33, e220_36, e220_39, e220_40, e220_41, e220_42, e220_44, e220_45, e220_47, e220_48, e220_50, e220_52, e220_53, e220_56, e220_57, e220_60, e220_62, e220_63, e220_66, e220_69, e220_70, e220_73, e220_75, e220_76, e220_78, e220_81, e220_82, e220_85, e220_87, e220_88, e220_90, e220_93, e220_96, e220_97, e220_100, e220_101, e220_104, e220_107, e220_108, e220_109, e220_112, e220_114, e220_117, e220_119, om0, c_m_in, q1, q2, vkk_n, vkk_i, vkk_r, vkk_l, vkk_d, catS_nil, catS_i, catS_r, catS_l, catS_d, Nat.reduceAdd, Nat.reduceLeDiff, Nat.zero_le, Nat.le_refl, Option.bind_some, Option.toList_some, Option.toList_none, List.cons_append, List.nil_append, or_true, true_or, if_true, if_false, Int32.reduceLT, Int32.reduceLE, not_true, not_false_iff, true_and, and_true, false_and, and_false]
        · have q1 := mIn_2 (v := n) (l := 0) (u := 8) n1
          simp +decide only [e220_0, e220_1, e220_2, e220_5, e220_6, e220_7, e220_9, e220_12, e220_15, e220_16, e220_17, e220_18, e220_21, e220_24, e220_25, e220_26, e220_27, e220_28, e220_29, e220_30, e220_33, e220_36, e220_39, e220_40, e220_41, e220_42, e220_44, e220_45, e220_47, e220_48, e220_50, e220_52, e220_53, e220_56, e220_57, e220_60, e220_62, e220_63, e220_66, e220_69, e220_70, e220_73, e220_75, e220_76, e220_78, e220_81, e220_82, e220_85, e220_87, e220_88, e220_90, e220_93, e220_96, e220_97, e220_100, e220_101, e220_104, e220_107, e220_108, e220_109, e220_112, e220_114, e220_117, e220_119, om0, c_m_in, q1, vkk_n, vkk_i, vkk_r, vkk_l, vkk_d, catS_nil, catS_i, catS_r, catS_l, catS_d, Nat.reduceAdd, Nat.reduceLeDiff, Nat.zero_le, Nat.le_refl, Option.bind_some, Option.toList_some, Option.toList_none, List.cons_append, List.nil_append, or_true, true_or, if_true, if_false, Int32.reduceLT, Int32.reduceLE, not_true, not_false_iff, true_and, and_true, false_and, and_false]
  by_cases n0 : n < 0
  · exact bad (Or.inl n0)
  by_cases n1 : n ≤ 8
  case neg => exact bad (Or.inr (Or.inl n1))
  by_cases t0 : t < 0
  · exact bad (Or.inr (Or.inr (Or.inl t0)))
  by_cases t1 : t ≤ 2
  case neg => exact bad (Or.inr (Or.inr (Or.inr t1)))
  have i1 := mIn_t (u := 8) n0 n1
  have i2 := mIn_t (u := 2) t0 t1
  obtain ⟨k, hk, rfl⟩ := vnat (n := 9) (by omega) n0 ((nI_lti (n := 8) (by omega)).mp n1)
  obtain ⟨A, r, r1, -, cc, cm⟩ := c_lists g k l a (aI h (g + 174)) (gI h (g + 173) 2) (by omega) l2
  have g9 : gI (cRf h g 0) g 9 = 0 := (cRf_CA 0 ho).1
  obtain ⟨h1, u1, u2, u3⟩ := cc (cRf h g 0) s0 (fun j => F0.I (fun z => z) j) (F0.gI (fun z => by unfold AC at z; omega)) ((F0.gI (fun z => by unfold AC at z; omega)).trans e1) g9
  have s1 : Sh h1 g := Sh_fr u2 (fun a z => by omega) s0
  have ca1 : CA h h1 g 0 := by
    have := cRf_CA (h := h) 0 ho
    unfold CA at this ⊢
    rw [u2.gI (fun z => by omega), u2.gI (fun z => by omega)]
    exact this
  obtain ⟨ca2, F2⟩ := CA_rfs (h0 := h) (hc := h1) (g := g) (f := 0) r (Cls_0 s1.1) ca1
  rw [if_pos rfl] at ca2
  have X := (F0.un u2).un F2
  have s2 : Sh (rfs h1 g r) g := Sh_fr F2 (fun a z => z.elim) s1
  have m0f := m0_fr (rfs h1 g r) (g + 266)
  have sm : Sh (pI (rfs h1 g r) (g + 266) 31 0) g := Sh_fr m0f (fun a z => z.elim) s2
  have XX := X.un m0f
  have xg : ∀ y, ¬ y = 31 → ¬ y = 32 → gI (pI (rfs h1 g r) (g + 266) 31 0) (g + 266) y = gI h (g + 266) y := fun y y1 y2 => XX.gI (fun z => by unfold AC AM at z; omega)
  obtain ⟨m1, k1, k2, k3⟩ := cm (pI (rfs h1 g r) (g + 266) 31 0) sm (fun j hj => (RMm_all R.mem hj).trans (XX.I (a := g + 277) (fun z => by simp only [NR, false_or, or_false] at z; omega) j).symm) ((xg 17 (by decide) (by decide)).trans e5.symm) ((xg 18 (by decide) (by decide)).trans e2)
  have om1 : ob (rfs h1 g r) (g + 266) 11 := Mod_0 s2.2.1
  have om1p : ob (pI (rfs h1 g r) (g + 266) 31 0) (g + 266) 11 := Mod_0 sm.2.1
  have sM : Sh m1 g := Sh_fr k2 (fun a z => by omega) sm
  have om2 : ob m1 (g + 266) 11 := Mod_0 sM.2.1
  have rn : ¬ r < 0 := by rcases r1 with rfl | rfl | rfl <;> decide
  have m2 := (msy_0 m1 (g + 266) r rn om2).2
  have mf := mRf_fr m1 (g + 266) r
  have Y := (m0f.un k2).un mf
  have ma : MA (rfs h1 g r) (mRf m1 (g + 266) r) (g + 266) r := fr_ma (R1 := NR) (F1 := NF) r k2 (fun z => by omega) om2
  have I : Inv (mRf m1 (g + 266) r) g := by
    refine Inv_ans X Y ?_ ?_ ?_ ?_ ca2 ma R
    · intro a z
      unfold SR
      simp only [NR, false_or, or_false] at z
      omega
    · intro a y z
      unfold SF
      unfold AC at z
      omega
    · intro a z
      unfold SR
      simp only [NR, false_or, or_false] at z
      omega
    · intro a y z
      unfold SF
      unfold AM at z
      omega
  have T : (mRf m1 (g + 266) r).2 = h.2 := Y.two.trans X.two
  rw [cRf_0] at u1
  by_cases r0 : r = 0
  · subst r0
    obtain ⟨⟨-, b3, b4, b5⟩, -⟩ := u3 rfl
    obtain ⟨c54, cZ⟩ := k3 rfl
    rw [if_pos (rfl : (0 : Int32) = 0), show rfs h1 g 0 = h1 from rfl] at u1
    have ms : ev 164 0 [some (.ref (g + 266)), some (.int 0)] [] m1 = some (some (.int 1), mRf m1 (g + 266) 0) := by
      rw [c_m_says _ _ _ om2, if_pos rfl, m2]
    have sF : Sh (mRf m1 (g + 266) 0) g := Sh_fr mf (fun a z => z.elim) sM
    have oF : ob (mRf m1 (g + 266) 0) (g + 266) 11 := Mod_0 sF.2.1
    have rZ : ∀ j, j < k → aI (mRf m1 (g + 266) 0) (g + 296) j = bZ (aI h (g + 174)) (gI h (g + 173) 2) A j := fun j hj => (mf.I (fun z => z) j).trans (cZ j hj).2
    have x54 : gI (mRf m1 (g + 266) 0) (g + 266) 54 = tS (bZ (aI h (g + 174)) (gI h (g + 173) 2) A) k := (mf.gI (fun z => by unfold AM at z; omega)).trans c54
    have tt : t = 0 ∨ t = 1 ∨ t = 2 := by
      obtain ⟨m, hm3, e⟩ := vnat (n := 3) (by omega) t0 ((nI_lti (n := 2) (by omega)).mp t1)
      rcases (show m = 0 ∨ m = 1 ∨ m = 2 by omega) with rfl | rfl | rfl
      · exact Or.inl e
      · exact Or.inr (Or.inl e)
      · exact Or.inr (Or.inr e)
    rcases tt with rfl | rfl | rfl
    · refine ⟨tS (bZ (aI h (g + 174)) (gI h (g + 173) 2) A) k, rfs h1 g 0, mRf m1 (g + 266) 0, ?_, ?_, I, T⟩
      · rw [show rfs h1 g 0 = h1 from rfl]
        simp +decide only [e124_0, e124_1, e124_2, e124_5, e124_6, e124_9, e124_10, e124_12, e124_15, e124_16, e124_19, e124_20, e124_21, e124_24, e124_25, e124_26, e124_27, e124_30, e124_33, e124_34, e124_35, e124_36, e124_64, e124_65, e124_68, e124_71, e124_72, e124_73, e124_76, e124_79, e124_80, e124_81, e124_84, e124_87, ho, ob_pI, n0, n1, u1, (Cls_0 s1.1 : ob h1 g 10), (rf_g (Cls_7 s1.1 : rf h1 g 12 (g + 262)) : gR h1 g 12 = (g + 262)), (rf_is (Cls_7 s1.1 : rf h1 g 12 (g + 262)) : isR h1 g 12), (Cls_28 s1.1 : ob h1 (g + 262) 2), (eq_true (isI_ob (Cls_28 s1.1 : ob h1 (g + 262) 2) rfl : isI h1 (g + 262) 2)), (eq_true (isI_ob (Cls_28 s1.1 : ob h1 (g + 262) 2) rfl : isI h1 (g + 262) 3)), (eq_true (isI_ob (Cls_28 s1.1 : ob h1 (g + 262) 2) rfl : isI h1 (g + 262) 4)), (eq_true (isI_ob (Cls_28 s1.1 : ob h1 (g + 262) 2) rfl : isI h1 (g + 262) 5)), (rf_g (Cls_29 s1.1 : rf h1 (g + 262) 0 (g + 263)) : gR h1 (g + 262) 0 = (g + 263)), (rf_is (Cls_29 s1.1 : rf h1 (g + 262) 0 (g + 263)) : isR h1 (g + 262) 0), (rf_g (Cls_30 s1.1 : rf h1 (g + 262) 1 (g + 264)) : gR h1 (g + 262) 1 = (g + 264)), (rf_is (Cls_30 s1.1 : rf h1 (g + 262) 1 (g + 264)) : isR h1 (g + 262) 1), (Cls_31 s1.1 : arI h1 (g + 263) 0), (rdI_0 (Cls_31 s1.1 : arI h1 (g + 263) 0) : rdI h1 (g + 263)), (Cls_32 s1.1 : aln h1 (g + 263) = 8), (Cls_33 s1.1 : arI h1 (g + 264) 0), (rdI_0 (Cls_33 s1.1 : arI h1 (g + 264) 0) : rdI h1 (g + 264)), (Cls_34 s1.1 : aln h1 (g + 264) = 8), b3, b4, b5, vkk_n, vkk_i, vkk_r, vkk_l, vkk_d, catS_nil, catS_i, catS_r, catS_l, catS_d, Nat.reduceAdd, Nat.reduceLeDiff, Nat.zero_le, Nat.le_refl, Option.bind_some, Option.toList_some, Option.toList_none, List.cons_append, List.nil_append, or_true, true_or, if_true, if_false, Int32.reduceLT, Int32.reduceLE, not_true, not_false_iff, true_and, and_true, false_and, and_false]
      · have lf : ev 220 50 [some (.ref (g + 266)), some (.int a), some (.int (nI k)), some (.int 0), some (.int 0), some (.int 0), some (.int 0)] [] (mRf m1 (g + 266) 0) = _ := l_fold g k a 0 (bZ (aI h (g + 174)) (gI h (g + 173) 2) A) (mRf m1 (g + 266) 0) (by omega) sF rZ k 0 (by omega)
        simp +decide only [e220_0, e220_1, e220_2, e220_5, e220_6, e220_7, e220_9, e220_12, e220_15, e220_16, e220_17, e220_18, e220_21, e220_24, e220_25, e220_26, e220_27, e220_28, e220_29, e220_30, e220_33, e220_36, e220_39, e220_40, e220_41, e220_42, e220_44, e220_45, e220_47, e220_48, e220_96, e220_97, e220_100, e220_101, e220_104, e220_107, e220_108, e220_109, e220_112, e220_114, e220_117, e220_119, om1, om1p, om2, c_m_in, i1, i2, k1, ms, lf, oF, x54, vkk_n, vkk_i, vkk_r, vkk_l, vkk_d, catS_nil, catS_i, catS_r, catS_l, catS_d, Nat.reduceAdd, Nat.reduceLeDiff, Nat.zero_le, Nat.le_refl, Option.bind_some, Option.toList_some, Option.toList_none, List.cons_append, List.nil_append, or_true, true_or, if_true, if_false, Int32.reduceLT, Int32.reduceLE, not_true, not_false_iff, true_and, and_true, false_and, and_false]
    · refine ⟨tE (bZ (aI h (g + 174)) (gI h (g + 173) 2) A) k, rfs h1 g 0, mRf m1 (g + 266) 0, ?_, ?_, I, T⟩
      · rw [show rfs h1 g 0 = h1 from rfl]
        simp +decide only [e124_0, e124_1, e124_2, e124_5, e124_6, e124_9, e124_10, e124_12, e124_15, e124_16, e124_19, e124_20, e124_21, e124_24, e124_25, e124_26, e124_27, e124_30, e124_33, e124_34, e124_35, e124_36, e124_64, e124_65, e124_68, e124_71, e124_72, e124_73, e124_76, e124_79, e124_80, e124_81, e124_84, e124_87, ho, ob_pI, n0, n1, u1, (Cls_0 s1.1 : ob h1 g 10), (rf_g (Cls_7 s1.1 : rf h1 g 12 (g + 262)) : gR h1 g 12 = (g + 262)), (rf_is (Cls_7 s1.1 : rf h1 g 12 (g + 262)) : isR h1 g 12), (Cls_28 s1.1 : ob h1 (g + 262) 2), (eq_true (isI_ob (Cls_28 s1.1 : ob h1 (g + 262) 2) rfl : isI h1 (g + 262) 2)), (eq_true (isI_ob (Cls_28 s1.1 : ob h1 (g + 262) 2) rfl : isI h1 (g + 262) 3)), (eq_true (isI_ob (Cls_28 s1.1 : ob h1 (g + 262) 2) rfl : isI h1 (g + 262) 4)), (eq_true (isI_ob (Cls_28 s1.1 : ob h1 (g + 262) 2) rfl : isI h1 (g + 262) 5)), (rf_g (Cls_29 s1.1 : rf h1 (g + 262) 0 (g + 263)) : gR h1 (g + 262) 0 = (g + 263)), (rf_is (Cls_29 s1.1 : rf h1 (g + 262) 0 (g + 263)) : isR h1 (g + 262) 0), (rf_g (Cls_30 s1.1 : rf h1 (g + 262) 1 (g + 264)) : gR h1 (g + 262) 1 = (g + 264)), (rf_is (Cls_30 s1.1 : rf h1 (g + 262) 1 (g + 264)) : isR h1 (g + 262) 1), (Cls_31 s1.1 : arI h1 (g + 263) 0), (rdI_0 (Cls_31 s1.1 : arI h1 (g + 263) 0) : rdI h1 (g + 263)), (Cls_32 s1.1 : aln h1 (g + 263) = 8), (Cls_33 s1.1 : arI h1 (g + 264) 0), (rdI_0 (Cls_33 s1.1 : arI h1 (g + 264) 0) : rdI h1 (g + 264)), (Cls_34 s1.1 : aln h1 (g + 264) = 8), b3, b4, b5, vkk_n, vkk_i, vkk_r, vkk_l, vkk_d, catS_nil, catS_i, catS_r, catS_l, catS_d, Nat.reduceAdd, Nat.reduceLeDiff, Nat.zero_le, Nat.le_refl, Option.bind_some, Option.toList_some, Option.toList_none, List.cons_append, List.nil_append, or_true, true_or, if_true, if_false, Int32.reduceLT, Int32.reduceLE, not_true, not_false_iff, true_and, and_true, false_and, and_false]
      · have lf : ev 220 50 [some (.ref (g + 266)), some (.int a), some (.int (nI k)), some (.int 1), some (.int 0), some (.int 0), some (.int 0)] [] (mRf m1 (g + 266) 0) = _ := l_fold g k a 1 (bZ (aI h (g + 174)) (gI h (g + 173) 2) A) (mRf m1 (g + 266) 0) (by omega) sF rZ k 0 (by omega)
        simp +decide only [e220_0, e220_1, e220_2, e220_5, e220_6, e220_7, e220_9, e220_12, e220_15, e220_16, e220_17, e220_18, e220_21, e220_24, e220_25, e220_26, e220_27, e220_28, e220_29, e220_30, e220_33, e220_36, e220_39, e220_40, e220_41, e220_42, e220_44, e220_45, e220_47, e220_48, e220_96, e220_97, e220_100, e220_101, e220_104, e220_107, e220_108, e220_109, e220_112, e220_114, e220_117, e220_119, om1, om1p, om2, c_m_in, i1, i2, k1, ms, lf, oF, x54, vkk_n, vkk_i, vkk_r, vkk_l, vkk_d, catS_nil, catS_i, catS_r, catS_l, catS_d, Nat.reduceAdd, Nat.reduceLeDiff, Nat.zero_le, Nat.le_refl, Option.bind_some, Option.toList_some, Option.toList_none, List.cons_append, List.nil_append, or_true, true_or, if_true, if_false, Int32.reduceLT, Int32.reduceLE, not_true, not_false_iff, true_and, and_true, false_and, and_false]
    · refine ⟨tM (bZ (aI h (g + 174)) (gI h (g + 173) 2) A) k, rfs h1 g 0, mRf m1 (g + 266) 0, ?_, ?_, I, T⟩
      · rw [show rfs h1 g 0 = h1 from rfl]
        simp +decide only [e124_0, e124_1, e124_2, e124_5, e124_6, e124_9, e124_10, e124_12, e124_15, e124_16, e124_19, e124_20, e124_21, e124_24, e124_25, e124_26, e124_27, e124_30, e124_33, e124_34, e124_35, e124_36, e124_64, e124_65, e124_68, e124_71, e124_72, e124_73, e124_76, e124_79, e124_80, e124_81, e124_84, e124_87, ho, ob_pI, n0, n1, u1, (Cls_0 s1.1 : ob h1 g 10), (rf_g (Cls_7 s1.1 : rf h1 g 12 (g + 262)) : gR h1 g 12 = (g + 262)), (rf_is (Cls_7 s1.1 : rf h1 g 12 (g + 262)) : isR h1 g 12), (Cls_28 s1.1 : ob h1 (g + 262) 2), (eq_true (isI_ob (Cls_28 s1.1 : ob h1 (g + 262) 2) rfl : isI h1 (g + 262) 2)), (eq_true (isI_ob (Cls_28 s1.1 : ob h1 (g + 262) 2) rfl : isI h1 (g + 262) 3)), (eq_true (isI_ob (Cls_28 s1.1 : ob h1 (g + 262) 2) rfl : isI h1 (g + 262) 4)), (eq_true (isI_ob (Cls_28 s1.1 : ob h1 (g + 262) 2) rfl : isI h1 (g + 262) 5)), (rf_g (Cls_29 s1.1 : rf h1 (g + 262) 0 (g + 263)) : gR h1 (g + 262) 0 = (g + 263)), (rf_is (Cls_29 s1.1 : rf h1 (g + 262) 0 (g + 263)) : isR h1 (g + 262) 0), (rf_g (Cls_30 s1.1 : rf h1 (g + 262) 1 (g + 264)) : gR h1 (g + 262) 1 = (g + 264)), (rf_is (Cls_30 s1.1 : rf h1 (g + 262) 1 (g + 264)) : isR h1 (g + 262) 1), (Cls_31 s1.1 : arI h1 (g + 263) 0), (rdI_0 (Cls_31 s1.1 : arI h1 (g + 263) 0) : rdI h1 (g + 263)), (Cls_32 s1.1 : aln h1 (g + 263) = 8), (Cls_33 s1.1 : arI h1 (g + 264) 0), (rdI_0 (Cls_33 s1.1 : arI h1 (g + 264) 0) : rdI h1 (g + 264)), (Cls_34 s1.1 : aln h1 (g + 264) = 8), b3, b4, b5, vkk_n, vkk_i, vkk_r, vkk_l, vkk_d, catS_nil, catS_i, catS_r, catS_l, catS_d, Nat.reduceAdd, Nat.reduceLeDiff, Nat.zero_le, Nat.le_refl, Option.bind_some, Option.toList_some, Option.toList_none, List.cons_append, List.nil_append, or_true, true_or, if_true, if_false, Int32.reduceLT, Int32.reduceLE, not_true, not_false_iff, true_and, and_true, false_and, and_false]
      · have lf : ev 220 50 [some (.ref (g + 266)), some (.int a), some (.int (nI k)), some (.int 2), some (.int 0), some (.int 0), some (.int 0)] [] (mRf m1 (g + 266) 0) = _ := l_fold g k a 2 (bZ (aI h (g + 174)) (gI h (g + 173) 2) A) (mRf m1 (g + 266) 0) (by omega) sF rZ k 0 (by omega)
        simp +decide only [e220_0, e220_1, e220_2, e220_5, e220_6, e220_7, e220_9, e220_12, e220_15, e220_16, e220_17, e220_18, e220_21, e220_24, e220_25, e220_26, e220_27, e220_28, e220_29, e220_30, e220_33, e220_36, e220_39, e220_40, e220_41, e220_42, e220_44, e220_45, e220_47, e220_48, e220_96, e220_97, e220_100, e220_101, e220_104, e220_107, e220_108, e220_109, e220_112, e220_114, e220_117, e220_119, om1, om1p, om2, c_m_in, i1, i2, k1, ms, lf, oF, x54, vkk_n, vkk_i, vkk_r, vkk_l, vkk_d, catS_nil, catS_i, catS_r, catS_l, catS_d, Nat.reduceAdd, Nat.reduceLeDiff, Nat.zero_le, Nat.le_refl, Option.bind_some, Option.toList_some, Option.toList_none, List.cons_append, List.nil_append, or_true, true_or, if_true, if_false, Int32.reduceLT, Int32.reduceLE, not_true, not_false_iff, true_and, and_true, false_and, and_false]
  · rw [if_neg r0] at u1
    have q : ¬ r = 0 := r0
    refine ⟨-1, rfs h1 g r, mRf m1 (g + 266) r, ?_, ?_, I, T⟩
    · simp +decide only [e124_0, e124_1, e124_2, e124_5, e124_6, e124_9, e124_10, e124_12, e124_15, e124_16, e124_19, e124_20, e124_21, e124_24, e124_25, e124_26, e124_27, e124_30, e124_33, e124_34, ho, ob_pI, n0, n1, t0, t1, u1, vkk_n, vkk_i, vkk_r, vkk_l, vkk_d, catS_nil, catS_i, catS_r, catS_l, catS_d, Nat.reduceAdd, Nat.reduceLeDiff, Nat.zero_le, Nat.le_refl, Option.bind_some, Option.toList_some, Option.toList_none, List.cons_append, List.nil_append, or_true, true_or, if_true, if_false, Int32.reduceLT, Int32.reduceLE, not_true, not_false_iff, true_and, and_true, false_and, and_false]
    · have ms : ev 164 0 [some (.ref (g + 266)), some (.int r)] [] m1 = some (some (.int 0), mRf m1 (g + 266) r) := by
        rw [c_m_says _ _ _ om2, if_neg r0, m2]
      simp +decide only [e220_0, e220_1, e220_2, e220_5, e220_6, e220_7, e220_9, e220_12, e220_15, e220_16, e220_17, e220_18, e220_21, e220_24, e220_25, e220_26, e220_27, e220_28, e220_29, e220_30, e220_33, e220_36, e220_39, e220_40, om1, om1p, om2, c_m_in, i1, i2, k1, ms, vkk_n, vkk_i, vkk_r, vkk_l, vkk_d, catS_nil, catS_i, catS_r, catS_l, catS_d, Nat.reduceAdd, Nat.reduceLeDiff, Nat.zero_le, Nat.le_refl, Option.bind_some, Option.toList_some, Option.toList_none, List.cons_append, List.nil_append, or_true, true_or, if_true, if_false, Int32.reduceLT, Int32.reduceLE, not_true, not_false_iff, true_and, and_true, false_and, and_false]
