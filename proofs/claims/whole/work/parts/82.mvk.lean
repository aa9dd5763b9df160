/-! move, the call -/
theorem ByR_of {h : VG} {A M : Nat} (hr : RMm h A M 0) {i : Nat} (hi : i < 256) : ByR (aI h A i) (aI h M i) := by
  obtain ⟨v, v1, v2, v3⟩ := hr i hi
  rw [Nat.zero_add] at v2
  exact ⟨v, v1, v2, v3⟩
set_option maxHeartbeats 4000000 in
theorem k_move (h : VG) (g : Nat) (R : Inv h g) (a n at_ ga : Int32) : CalI h g 126 [some (.ref g), some (.int a), some (.int n), some (.int at_), some (.int ga)] 221 [some (.ref (g + 266)), some (.int a), some (.int n), some (.int at_), some (.int ga), none, none, none, none] := by
  obtain ⟨l, fr, l1, l2, l3, e1, e2, e3, e4, e5, e6⟩ := R.hd
  have ho : ob h g 10 := Cls_0 R.cls
  have hm : ob h (g + 266) 11 := Mod_0 R.mod
  have F0 := cRf_fr h g 0
  have s0 : Sh (cRf h g 0) g := cRf_sh R.sh
  have om0 : ob (cRf h g 0) (g + 266) 11 := cRf_ob.mpr hm
  have bad : (n < 0 ∨ ¬ n ≤ 8) → CalI h g 126 [some (.ref g), some (.int a), some (.int n), some (.int at_), some (.int ga)] 221 [some (.ref (g + 266)), some (.int a), some (.int n), some (.int at_), some (.int ga), none, none, none, none] := by
    intro q
    refine ⟨-1, cRf h g 0, mRf (cRf h g 0) (g + 266) 0, ?_, ?_, Inv_bad R, ((mRf_fr ..).two.trans F0.two)⟩
    · rw [cRf_0]
      by_cases n0 : n < 0
      · simp +decide only [e126_0, e126_1, e126_2, e126_5, e126_6, e126_9, e126_10, e126_12, e126_15, e126_16, e126_17, e126_18, e126_21, e126_24, e126_25, ho, n0, vkk_n, vkk_i, vkk_r, vkk_l, vkk_d, catS_nil, catS_i, catS_r, catS_l, catS_d, Nat.reduceAdd, Nat.reduceLeDiff, Nat.zero_le, Nat.le_refl, Option.bind_some, Option.toList_some, Option.toList_none, List.cons_append, List.nil_append, or_true, true_or, if_true, if_false, Int32.reduceLT, Int32.reduceLE, not_true, not_false_iff, true_and, and_true, false_and, and_false]
      · have n1 := q.resolve_left n0
        simp +decide only [e126_0, e126_1, e126_2, e126_5, e126_6, e126_9, e126_10, e126_12, e126_15, e126_16, e126_17, e126_18, e126_21, e126_24, e126_25, ho, n0, n1, vkk_n, vkk_i, vkk_r, vkk_l, vkk_d, catS_nil, catS_i, catS_r, catS_l, catS_d, Nat.reduceAdd, Nat.reduceLeDiff, Nat.zero_le, Nat.le_refl, Option.bind_some, Option.toList_some, Option.toList_none, List.cons_append, List.nil_append, or_true, true_or, if_true, if_false, Int32.reduceLT, Int32.reduceLE, not_true, not_false_iff, true_and, and_true, false_and, and_false]
    · rw [mRf_0]
      have q1 : mIn n 0 8 = 0 := by
        by_cases n0 : n < 0
        · exact mIn_0 (v := n) (u := 8) n0
        · exact mIn_2 (v := n) (l := 0) (u := 8) (q.resolve_left n0)
      simp +decide only [e221_0, e221_1, e221_2, e221_5, e221_6, e221_7, e221_9, e221_12, e221_15, e221_16, om0, c_m_in, q1, vkk_n, vkk_i, vkk_r, vkk_l, vkk_d, catS_nil, catS_i, catS_r, catS_l, catS_d, Nat.reduceAdd, Nat.reduceLeDiff, Nat.zero_le, Nat.le_refl, Option.bind_some, Option.toList_some, Option.toList_none, List.cons_append, List.nil_append, or_true, true_or, if_true, if_false, Int32.reduceLT, Int32.reduceLE, not_true, not_false_iff, true_and, and_true, false_and, and_false]
  by_cases n0 : n < 0
  · exact bad (Or.inl n0)
  by_cases n1 : n ≤ 8
  case neg => exact bad (Or.inr n1)
  have i1 := mIn_t (u := 8) n0 n1
  obtain ⟨k, hk, rfl⟩ := vnat (n := 9) (by omega) n0 ((nI_lti (n := 8) (by omega)).mp n1)
  obtain ⟨A, r, r1, rb, cc, cm⟩ := c_lists g k l a (aI h (g + 174)) (gI h (g + 173) 2) (by omega) l2
  have g9 : gI (cRf h g 0) g 9 = 0 := (cRf_CA 0 ho).1
  obtain ⟨h1, u1, u2, u3⟩ := cc (cRf h g 0) s0 (fun j => F0.I (fun z => z) j) (F0.gI (fun z => by unfold AC at z; omega)) ((F0.gI (fun z => by unfold AC at z; omega)).trans e1) g9
  have s1 : Sh h1 g := Sh_fr u2 (fun a z => by omega) s0
  have ca1 : CA h h1 g 0 := by
    have := cRf_CA (h := h) 0 ho
    unfold CA at this ⊢
    rw [u2.gI (fun z => by omega), u2.gI (fun z => by omega)]
    exact this
  have o1 : ob h1 g 10 := Cls_0 s1.1
  have l1' : gI h1 (g + 173) 1 = nI l := (u2.gI (fun z => by omega)).trans ((F0.gI (fun z => by unfold AC at z; omega)).trans e1)
  rw [cRf_0] at u1
  -- a call that is refused by f
  have no : ∀ f, f = 5 ∨ f = 6 → (r = f ∨ (r = 0 ∧ f = 5 ∧ ∀ m, mThere (nI l) at_ (tS (bZ (aI h (g + 174)) (gI h (g + 173) 2) A) k) = m → m = 0)) → ev 126 0 [some (.ref g), some (.int a), some (.int (nI k)), some (.int at_), some (.int ga)] [] h = some (some (.int (-1)), rfs h1 g f) → CalI h g 126 [some (.ref g), some (.int a), some (.int (nI k)), some (.int at_), some (.int ga)] 221 [some (.ref (g + 266)), some (.int a), some (.int (nI k)), some (.int at_), some (.int ga), none, none, none, none] := by
    intro f f1 fr1 ee
    have f0 : ¬ f = 0 := by rcases f1 with rfl | rfl <;> decide
    have fn : ¬ f < 0 := by rcases f1 with rfl | rfl <;> decide
    obtain ⟨ca2, F2⟩ := CA_rfs (h0 := h) (hc := h1) (g := g) (f := 0) f o1 ca1
    rw [if_pos rfl] at ca2
    have X := (F0.un u2).un F2
    have s2 : Sh (rfs h1 g f) g := Sh_fr F2 (fun a z => z.elim) s1
    have m0f := m0_fr (rfs h1 g f) (g + 266)
    have sm : Sh (pI (rfs h1 g f) (g + 266) 31 0) g := Sh_fr m0f (fun a z => z.elim) s2
    have XX := X.un m0f
    have xg : ∀ y, ¬ y = 31 → ¬ y = 32 → gI (pI (rfs h1 g f) (g + 266) 31 0) (g + 266) y = gI h (g + 266) y := fun y y1 y2 => XX.gI (fun z => by unfold AC AM at z; omega)
    obtain ⟨m1, k1, k2, k3⟩ := cm (pI (rfs h1 g f) (g + 266) 31 0) sm (fun j hj => (RMm_all R.mem hj).trans (XX.I (a := g + 277) (fun z => by simp only [NR, false_or, or_false] at z; omega) j).symm) ((xg 17 (by decide) (by decide)).trans e5.symm) ((xg 18 (by decide) (by decide)).trans e2)
    have om1 : ob (rfs h1 g f) (g + 266) 11 := Mod_0 s2.2.1
    have om1p : ob (pI (rfs h1 g f) (g + 266) 31 0) (g + 266) 11 := Mod_0 sm.2.1
    have sM : Sh m1 g := Sh_fr k2 (fun a z => by omega) sm
    have om2 : ob m1 (g + 266) 11 := Mod_0 sM.2.1
    have m2 := (msy_0 m1 (g + 266) f fn om2).2
    have mf := mRf_fr m1 (g + 266) f
    have Y := (m0f.un k2).un mf
    have ma : MA (rfs h1 g f) (mRf m1 (g + 266) f) (g + 266) f := fr_ma (R1 := NR) (F1 := NF) f k2 (fun z => by omega) om2
    have g18 : gI m1 (g + 266) 18 = nI l := (k2.gI (fun z => by omega)).trans ((xg 18 (by decide) (by decide)).trans e2)
    have I : Inv (mRf m1 (g + 266) f) g := by
      refine Inv_ans X Y ?_ ?_ ?_ ?_ ca2 ma R
      · intro a z
        unfold SR
        simp only [NR, false_or, or_false] at z
        omega
      · intro a y z
        unfold SF
        unfold AC at z
        omega
      · intro a z
        unfold SR
        simp only [NR, false_or, or_false] at z
        omega
      · intro a y z
        unfold SF
        unfold AM at z
        omega
    refine ⟨-1, rfs h1 g f, mRf m1 (g + 266) f, ee, ?_, I, Y.two.trans X.two⟩
    have ms : ev 164 0 [some (.ref (g + 266)), some (.int f)] [] m1 = some (some (.int 0), mRf m1 (g + 266) f) := by
      rw [c_m_says _ _ _ om2, if_neg f0, m2]
    rcases fr1 with rfl | ⟨rfl, rfl, f3⟩
    · simp +decide only [e221_0, e221_1, e221_2, e221_5, e221_6, e221_7, e221_9, e221_12, e221_15, e221_16, e221_17, e221_18, e221_19, e221_20, e221_23, e221_25, e221_27, e221_30, e221_31, e221_32, e221_33, e221_36, e221_39, e221_42, e221_43, e221_45, e221_46, e221_48, e221_51, e221_54, e221_55, om1, om1p, om2, c_m_in, i1, k1, f0, ms, vkk_n, vkk_i, vkk_r, vkk_l, vkk_d, catS_nil, catS_i, catS_r, catS_l, catS_d, Nat.reduceAdd, Nat.reduceLeDiff, Nat.zero_le, Nat.le_refl, Option.bind_some, Option.toList_some, Option.toList_none, List.cons_append, List.nil_append, or_true, true_or, if_true, if_false, Int32.reduceLT, Int32.reduceLE, not_true, not_false_iff, true_and, and_true, false_and, and_false]
    · have t1 := c_m_isThere m1 (g + 266) at_ (tS (bZ (aI h (g + 174)) (gI h (g + 173) 2) A) k) om2
      rw [g18, f3 _ rfl] at t1
      have t2 := (k3 rfl).1
      simp +decide only [e221_0, e221_1, e221_2, e221_5, e221_6, e221_7, e221_9, e221_12, e221_15, e221_16, e221_17, e221_18, e221_19, e221_20, e221_23, e221_25, e221_27, e221_30, e221_31, e221_32, e221_33, e221_36, e221_39, e221_42, e221_43, e221_45, e221_46, e221_48, e221_51, e221_54, e221_55, om1, om1p, om2, c_m_in, i1, k1, t1, t2, ms, vkk_n, vkk_i, vkk_r, vkk_l, vkk_d, catS_nil, catS_i, catS_r, catS_l, catS_d, Nat.reduceAdd, Nat.reduceLeDiff, Nat.zero_le, Nat.le_refl, Option.bind_some, Option.toList_some, Option.toList_none, List.cons_append, List.nil_append, or_true, true_or, if_true, if_false, Int32.reduceLT, Int32.reduceLE, not_true, not_false_iff, true_and, and_true, false_and, and_false]
  by_cases r0 : r = 0
  case neg =>
    refine no r (r1.resolve_left r0) (Or.inl rfl) ?_
    rw [if_neg r0] at u1
    simp +decide only [e126_0, e126_1, e126_2, e126_5, e126_6, e126_9, e126_10, e126_12, e126_15, e126_16, e126_17, e126_18, e126_21, e126_24, e126_25, ho, ob_pI, n0, n1, u1, vkk_n, vkk_i, vkk_r, vkk_l, vkk_d, catS_nil, catS_i, catS_r, catS_l, catS_d, Nat.reduceAdd, Nat.reduceLeDiff, Nat.zero_le, Nat.le_refl, Option.bind_some, Option.toList_some, Option.toList_none, List.cons_append, List.nil_append, or_true, true_or, if_true, if_false, Int32.reduceLT, Int32.reduceLE, not_true, not_false_iff, true_and, and_true, false_and, and_false]
  subst r0
  rw [if_pos (rfl : (0 : Int32) = 0), show rfs h1 g 0 = h1 from rfl] at u1
  obtain ⟨⟨b2, b3, -, -⟩, br⟩ := u3 rfl
  -- the buffers in numbers
  have bz : ∀ j, j < k → bZ (aI h (g + 174)) (gI h (g + 173) 2) A j = nI (zN (aI h (g + 174)) (gI h (g + 173) 2) A j) ∧ zN (aI h (g + 174)) (gI h (g + 173) 2) A j ≤ 256 ∧ (zN (aI h (g + 174)) (gI h (g + 173) 2) A j = 0 ∨ ((bB (aI h (g + 174)) (gI h (g + 173) 2) A j).toInt32 = nI (bQ (aI h (g + 174)) (gI h (g + 173) 2) A j) ∧ bQ (aI h (g + 174)) (gI h (g + 173) 2) A j + zN (aI h (g + 174)) (gI h (g + 173) 2) A j ≤ l)) := by
    intro j hj
    rcases rb rfl with z | z
    · omega
    · exact buf_ok l2 _ _ _ _ (bN_all _ _ _ _ k 0 z.2 j (Nat.zero_le _) (by omega))
  have tS' := tS_sN (bZ (aI h (g + 174)) (gI h (g + 173) 2) A) (zN (aI h (g + 174)) (gI h (g + 173) 2) A) k (fun j hj => (bz j hj).1)
  have hS := sN_le (zN (aI h (g + 174)) (gI h (g + 173) 2) A) 256 k (fun j hj => (bz j hj).2.1)
  have brow : ∀ j, j < k → aI h1 (g + 264) j = nI (zN (aI h (g + 174)) (gI h (g + 173) 2) A j) ∧ (zN (aI h (g + 174)) (gI h (g + 173) 2) A j = 0 ∨ aI h1 (g + 263) j = nI (bQ (aI h (g + 174)) (gI h (g + 173) 2) A j)) := fun j hj => ⟨(br j hj).2.trans (bz j hj).1, (bz j hj).2.2.imp id (fun y => (br j hj).1.trans y.1)⟩
  have hbz : ∀ j, j < k → zN (aI h (g + 174)) (gI h (g + 173) 2) A j = 0 ∨ bQ (aI h (g + 174)) (gI h (g + 173) 2) A j + zN (aI h (g + 174)) (gI h (g + 173) 2) A j ≤ 256 := fun j hj => (bz j hj).2.2.imp id (fun y => by omega)
  rw [tS'] at no b3
  have mrow : ∀ m1 : VG, (∀ j, j < k → aI m1 (g + 295) j = (bB (aI h (g + 174)) (gI h (g + 173) 2) A j).toInt32 ∧ aI m1 (g + 296) j = bZ (aI h (g + 174)) (gI h (g + 173) 2) A j) → ∀ j, j < k → aI m1 (g + 296) j = nI (zN (aI h (g + 174)) (gI h (g + 173) 2) A j) ∧ (zN (aI h (g + 174)) (gI h (g + 173) 2) A j = 0 ∨ aI m1 (g + 295) j = nI (bQ (aI h (g + 174)) (gI h (g + 173) 2) A j)) := fun m1 q j hj => ⟨(q j hj).2.trans (bz j hj).1, (bz j hj).2.2.imp id (fun y => (q j hj).1.trans y.1)⟩
  have cm' : ∀ h0 : VG, Sh h0 g → (∀ j, j < 256 → aI h (g + 174) j &&& 255 = aI h0 (g + 277) j) → gI h0 (g + 266) 17 = gI h (g + 173) 2 → gI h0 (g + 266) 18 = nI l → ∃ m1, ev 219 0 [some (.ref (g + 266)), some (.int a), some (.int (nI k)), none, none, none, none, none] [] h0 = some (some (.int 0), m1) ∧ Fr (fun a => a = g + 295 ∨ a = g + 296) (fun a k => a = g + 266 ∧ k = 54) h0 m1 ∧ gI m1 (g + 266) 54 = nI (sN (zN (aI h (g + 174)) (gI h (g + 173) 2) A) k) ∧ ∀ j, j < k → aI m1 (g + 296) j = nI (zN (aI h (g + 174)) (gI h (g + 173) 2) A j) ∧ (zN (aI h (g + 174)) (gI h (g + 173) 2) A j = 0 ∨ aI m1 (g + 295) j = nI (bQ (aI h (g + 174)) (gI h (g + 173) 2) A j)) := by
    intro h0 q1 q2 q3 q4
    obtain ⟨m1, k1, k2, k3⟩ := cm h0 q1 q2 q3 q4
    exact ⟨m1, k1, k2, (k3 rfl).1.trans tS', mrow m1 (k3 rfl).2⟩
  have fit : ∀ i, i < 256 → fits .byte (.int (aI h (g + 174) i)) = true := fun i hi => ByR_fits (ByR_of R.mem hi)
  have hFG : ∀ i, i < 256 → ByR (aI h (g + 174) i) (aI h (g + 277) i) := fun i hi => ByR_of R.mem hi
  have f174 : ∀ i, aI h1 (g + 174) i = aI h (g + 174) i := fun i => (u2.I (a := g + 174) (fun z => by omega) i).trans (F0.I (fun z => z) i)
  generalize zN (aI h (g + 174)) (gI h (g + 173) 2) A = z at no b3 brow hbz cm' hS
  generalize bQ (aI h (g + 174)) (gI h (g + 173) 2) A = b at brow hbz cm'
  clear mrow bz tS' u3 cm rb
  rcases there_ok l2 (show sN z k < 1073741824 by omega) at_ with ⟨q1, q2, q3⟩ | ⟨q1, q2⟩
  case inr =>
    refine no 5 (Or.inl rfl) (Or.inr ⟨rfl, rfl, fun m hm => hm.symm.trans q2⟩) ?_
    simp +decide only [e126_0, e126_1, e126_2, e126_5, e126_6, e126_9, e126_10, e126_12, e126_15, e126_16, e126_17, e126_18, e126_21, e126_24, e126_25, ho, ob_pI, n0, n1, u1, if_true, if_false, vkk_n, vkk_i, vkk_r, vkk_l, vkk_d, catS_nil, catS_i, catS_r, catS_l, catS_d, Nat.reduceAdd, Nat.reduceLeDiff, Nat.zero_le, Nat.le_refl, Option.bind_some, Option.toList_some, Option.toList_none, List.cons_append, List.nil_append, or_true, true_or, if_true, if_false, Int32.reduceLT, Int32.reduceLE, not_true, not_false_iff, true_and, and_true, false_and, and_false]
    simp +decide only [e126_26, e126_27, e126_28, e126_31, e126_34, e126_35, e126_36, e126_37, e126_40, e126_43, e126_46, e126_49, e126_52, e126_53, (rf_g (Cls_7 s1.1 : rf h1 g 12 (g + 262)) : gR h1 g 12 = (g + 262)), (rf_is (Cls_7 s1.1 : rf h1 g 12 (g + 262)) : isR h1 g 12), (Cls_28 s1.1 : ob h1 (g + 262) 2), (eq_true (isI_ob (Cls_28 s1.1 : ob h1 (g + 262) 2) rfl : isI h1 (g + 262) 2)), (eq_true (isI_ob (Cls_28 s1.1 : ob h1 (g + 262) 2) rfl : isI h1 (g + 262) 3)), (eq_true (isI_ob (Cls_28 s1.1 : ob h1 (g + 262) 2) rfl : isI h1 (g + 262) 4)), (eq_true (isI_ob (Cls_28 s1.1 : ob h1 (g + 262) 2) rfl : isI h1 (g + 262) 5)), (rf_g (Cls_29 s1.1 : rf h1 (g + 262) 0 (g + 263)) : gR h1 (g + 262) 0 = (g + 263)), (rf_is (Cls_29 s1.1 : rf h1 (g + 262) 0 (g + 263)) : isR h1 (g + 262) 0), (rf_g (Cls_30 s1.1 : rf h1 (g + 262) 1 (g + 264)) : gR h1 (g + 262) 1 = (g + 264)), (rf_is (Cls_30 s1.1 : rf h1 (g + 262) 1 (g + 264)) : isR h1 (g + 262) 1), (Cls_31 s1.1 : arI h1 (g + 263) 0), (rdI_0 (Cls_31 s1.1 : arI h1 (g + 263) 0) : rdI h1 (g + 263)), (Cls_32 s1.1 : aln h1 (g + 263) = 8), (Cls_33 s1.1 : arI h1 (g + 264) 0), (rdI_0 (Cls_33 s1.1 : arI h1 (g + 264) 0) : rdI h1 (g + 264)), (Cls_34 s1.1 : aln h1 (g + 264) = 8), (Cls_0 s1.1 : ob h1 g 10), (rf_g (Cls_3 s1.1 : rf h1 g 6 (g + 172)) : gR h1 g 6 = (g + 172)), (rf_is (Cls_3 s1.1 : rf h1 g 6 (g + 172)) : isR h1 g 6), (rf_g (Cls_8 s1.1 : rf h1 g 13 (g + 265)) : gR h1 g 13 = (g + 265)), (rf_is (Cls_8 s1.1 : rf h1 g 13 (g + 265)) : isR h1 g 13), (Cls_35 s1.1 : arI h1 (g + 265) 2), (rdB_2 (Cls_35 s1.1 : arI h1 (g + 265) 2) : rdB h1 (g + 265)), (Cls_36 s1.1 : aln h1 (g + 265) = 256), (State_0 (Cls_17 s1.1) : ob h1 (g + 172) 8), (eq_true (isI_ob (State_0 (Cls_17 s1.1) : ob h1 (g + 172) 8) rfl : isI h1 (g + 172) 3)), (rf_g (State_1 (Cls_17 s1.1) : rf h1 (g + 172) 0 (g + 173)) : gR h1 (g + 172) 0 = (g + 173)), (rf_is (State_1 (Cls_17 s1.1) : rf h1 (g + 172) 0 (g + 173)) : isR h1 (g + 172) 0), (rf_g (State_2 (Cls_17 s1.1) : rf h1 (g + 172) 1 (g + 175)) : gR h1 (g + 172) 1 = (g + 175)), (rf_is (State_2 (Cls_17 s1.1) : rf h1 (g + 172) 1 (g + 175)) : isR h1 (g + 172) 1), (rf_g (State_3 (Cls_17 s1.1) : rf h1 (g + 172) 2 (g + 176)) : gR h1 (g + 172) 2 = (g + 176)), (rf_is (State_3 (Cls_17 s1.1) : rf h1 (g + 172) 2 (g + 176)) : isR h1 (g + 172) 2), (State_5 (Cls_17 s1.1) : arR h1 (g + 175) 5), (rdR_5 (State_5 (Cls_17 s1.1) : arR h1 (g + 175) 5) : rdR h1 (g + 175)), (State_6 (Cls_17 s1.1) : aln h1 (g + 175) = 8), (State_8 (Cls_17 s1.1) : arL h1 (g + 176)), (State_9 (Cls_17 s1.1) : aln h1 (g + 176) = 8), (Mem_0 (State_4 (Cls_17 s1.1)) : ob h1 (g + 173) 5), (eq_true (isI_ob (Mem_0 (State_4 (Cls_17 s1.1)) : ob h1 (g + 173) 5) rfl : isI h1 (g + 173) 1)), (eq_true (isI_ob (Mem_0 (State_4 (Cls_17 s1.1)) : ob h1 (g + 173) 5) rfl : isI h1 (g + 173) 2)), (rf_g (Mem_1 (State_4 (Cls_17 s1.1)) : rf h1 (g + 173) 0 (g + 174)) : gR h1 (g + 173) 0 = (g + 174)), (rf_is (Mem_1 (State_4 (Cls_17 s1.1)) : rf h1 (g + 173) 0 (g + 174)) : isR h1 (g + 173) 0), (Mem_2 (State_4 (Cls_17 s1.1)) : arI h1 (g + 174) 2), (rdB_2 (Mem_2 (State_4 (Cls_17 s1.1)) : arI h1 (g + 174) 2) : rdB h1 (g + 174)), (Mem_3 (State_4 (Cls_17 s1.1)) : aln h1 (g + 174) = 256), b3, l1', q1, c_refusalOf, c_refuses, if_true, if_false, vkk_n, vkk_i, vkk_r, vkk_l, vkk_d, catS_nil, catS_i, catS_r, catS_l, catS_d, Nat.reduceAdd, Nat.reduceLeDiff, Nat.zero_le, Nat.le_refl, Option.bind_some, Option.toList_some, Option.toList_none, List.cons_append, List.nil_append, or_true, true_or, if_true, if_false, Int32.reduceLT, Int32.reduceLE, not_true, not_false_iff, true_and, and_true, false_and, and_false]
  obtain ⟨AT, hAT⟩ : ∃ AT, sN z k = 0 ∨ (at_ = nI AT ∧ AT + sN z k ≤ 256) := by
    rcases q3 with z | ⟨x, x1, x2⟩
    · exact ⟨0, Or.inl z⟩
    · exact ⟨x, Or.inr ⟨x1, by omega⟩⟩
  have hz : sN z k ≤ 256 := by
    rcases q3 with z | ⟨x, x1, x2⟩
    · omega
    · omega
  obtain ⟨h2, v1, v2, v3⟩ := moveC h1 g k AT a at_ ga b z s1 (by omega) hz hbz hAT b2 b3 brow (fun i hi => by rw [f174]; exact fit i hi)
  have s2 : Sh h2 g := Sh_fr v2 (fun a z => by omega) s1
  have ca2 : CA h h2 g 0 := by
    unfold CA at ca1 ⊢
    rw [v2.gI (fun z => z), v2.gI (fun z => z)]
    exact ca1
  have X := (F0.un u2).un v2
  have m0f := m0_fr h2 (g + 266)
  have sm : Sh (pI h2 (g + 266) 31 0) g := Sh_fr m0f (fun a z => z.elim) s2
  have XX := X.un m0f
  have xg : ∀ y, ¬ y = 31 → ¬ y = 32 → gI (pI h2 (g + 266) 31 0) (g + 266) y = gI h (g + 266) y := fun y y1 y2 => XX.gI (fun z => by unfold AC AM at z; simp only [NF, or_false] at z; omega)
  have x277 : ∀ j, aI (pI h2 (g + 266) 31 0) (g + 277) j = aI h (g + 277) j := fun j => XX.I (a := g + 277) (fun z => by simp only [NR, false_or, or_false] at z; omega) j
  obtain ⟨m1, k1, k2, k3, k4⟩ := cm' (pI h2 (g + 266) 31 0) sm (fun j hj => (RMm_all R.mem hj).trans (x277 j).symm) ((xg 17 (by decide) (by decide)).trans e5.symm) ((xg 18 (by decide) (by decide)).trans e2)
  have om1 : ob h2 (g + 266) 11 := Mod_0 s2.2.1
  have om1p : ob (pI h2 (g + 266) 31 0) (g + 266) 11 := Mod_0 sm.2.1
  have sM : Sh m1 g := Sh_fr k2 (fun a z => by omega) sm
  have om2 : ob m1 (g + 266) 11 := Mod_0 sM.2.1
  have m2 := (msy_0 m1 (g + 266) 0 (by decide) om2).2
  have mf := mRf_fr m1 (g + 266) 0
  have ma1 : MA h2 (mRf m1 (g + 266) 0) (g + 266) 0 := fr_ma (R1 := NR) (F1 := NF) 0 k2 (fun z => by omega) om2
  have sF : Sh (mRf m1 (g + 266) 0) g := Sh_fr mf (fun a z => z.elim) sM
  have g18 : gI m1 (g + 266) 18 = nI l := (k2.gI (fun z => by omega)).trans ((xg 18 (by decide) (by decide)).trans e2)
  obtain ⟨m3, w1, w2, w3⟩ := moveM (mRf m1 (g + 266) 0) g k AT a at_ ga 0 b z sF (by omega) hz hbz hAT ((mf.gI (fun z => by unfold AM at z; omega)).trans k3) (fun j hj => ⟨(mf.I (a := g + 296) (fun z => z) j).trans (k4 j hj).1, (k4 j hj).2.imp id (fun y => (mf.I (a := g + 295) (fun z => z) j).trans y)⟩)
  have ma2 : MA h2 m3 (g + 266) 0 := by
    unfold MA at ma1 ⊢
    rw [w2.gI (fun z => z), w2.gI (fun z => z)]
    exact ma1
  have Y := ((m0f.un k2).un mf).un w2
  have zz := X.un Y
  have G3 : ∀ j, aI (mRf m1 (g + 266) 0) (g + 277) j = aI h (g + 277) j := fun j => (mf.I (a := g + 277) (fun z => z) j).trans ((k2.I (a := g + 277) (fun z => by omega) j).trans (x277 j))
  have rm : RMem m3 g := by
    intro j hj
    have p1 : aI m3 (g + 277) (0 + j) = _ := (congrArg _ (Nat.zero_add j)).trans (w3 j)
    have p2 : aI m3 (g + 174) j = _ := (Y.I (a := g + 174) (fun z => by simp only [NR, false_or, or_false] at z; omega) j).trans (v3 j)
    rw [show aI h1 (g + 174) = aI h (g + 174) from funext f174] at p2
    rw [show aI (mRf m1 (g + 266) 0) (g + 277) = aI h (g + 277) from funext G3] at p1
    obtain ⟨v, y1, y2, y3⟩ := move_rel ga AT b z k (aI h (g + 174)) (aI h1 (g + 265)) (aI h (g + 277)) (aI (mRf m1 (g + 266) 0) (g + 297)) hbz (hAT.imp id (fun y => y.2)) hFG j hj
    exact ⟨v, y1, p1.trans y2, p2.trans y3⟩
  have I : Inv m3 g := by
    refine Inv_now X Y ?_ ?_ ?_ ?_ ca2 ma2 (RHd_fr zz ?_ R.hd) rm (RReg_fr zz ?_ R.reg) (RBins_fr zz ?_ ?_ R.bins) R
    · intro a z
      unfold NwR SR
      simp only [NR, false_or, or_false] at z
      omega
    · intro a y z
      unfold NwF SF
      unfold AC at z
      simp only [NF, or_false] at z
      omega
    · intro a z
      unfold NwR SR
      simp only [NR, false_or, or_false] at z
      omega
    · intro a y z
      unfold NwF SF
      unfold AM at z
      simp only [NF, or_false] at z
      omega
    all_goals first | (intro a k z; unfold AC AM at z; simp only [NF, or_false, false_or] at z; omega) | (intro a z; simp only [NR, false_or, or_false] at z; omega)
  refine ⟨nI (sN z k), h2, m3, ?_, ?_, I, Y.two.trans X.two⟩
  · simp +decide only [e126_0, e126_1, e126_2, e126_5, e126_6, e126_9, e126_10, e126_12, e126_15, e126_16, e126_17, e126_18, e126_21, e126_24, e126_25, ho, ob_pI, n0, n1, u1, if_true, if_false, vkk_n, vkk_i, vkk_r, vkk_l, vkk_d, catS_nil, catS_i, catS_r, catS_l, catS_d, Nat.reduceAdd, Nat.reduceLeDiff, Nat.zero_le, Nat.le_refl, Option.bind_some, Option.toList_some, Option.toList_none, List.cons_append, List.nil_append, or_true, true_or, if_true, if_false, Int32.reduceLT, Int32.reduceLE, not_true, not_false_iff, true_and, and_true, false_and, and_false]
    simp +decide only [e126_26, e126_27, e126_28, e126_31, e126_34, e126_35, e126_36, e126_37, e126_40, e126_43, e126_46, e126_49, e126_52, e126_53, (rf_g (Cls_7 s1.1 : rf h1 g 12 (g + 262)) : gR h1 g 12 = (g + 262)), (rf_is (Cls_7 s1.1 : rf h1 g 12 (g + 262)) : isR h1 g 12), (Cls_28 s1.1 : ob h1 (g + 262) 2), (eq_true (isI_ob (Cls_28 s1.1 : ob h1 (g + 262) 2) rfl : isI h1 (g + 262) 2)), (eq_true (isI_ob (Cls_28 s1.1 : ob h1 (g + 262) 2) rfl : isI h1 (g + 262) 3)), (eq_true (isI_ob (Cls_28 s1.1 : ob h1 (g + 262) 2) rfl : isI h1 (g + 262) 4)), (eq_true (isI_ob (Cls_28 s1.1 : ob h1 (g + 262) 2) rfl : isI h1 (g + 262) 5)), (rf_g (Cls_29 s1.1 : rf h1 (g + 262) 0 (g + 263)) : gR h1 (g + 262) 0 = (g + 263)), (rf_is (Cls_29 s1.1 : rf h1 (g + 262) 0 (g + 263)) : isR h1 (g + 262) 0), (rf_g (Cls_30 s1.1 : rf h1 (g + 262) 1 (g + 264)) : gR h1 (g + 262) 1 = (g + 264)), (rf_is (Cls_30 s1.1 : rf h1 (g + 262) 1 (g + 264)) : isR h1 (g + 262) 1), (Cls_31 s1.1 : arI h1 (g + 263) 0), (rdI_0 (Cls_31 s1.1 : arI h1 (g + 263) 0) : rdI h1 (g + 263)), (Cls_32 s1.1 : aln h1 (g + 263) = 8), (Cls_33 s1.1 : arI h1 (g + 264) 0), (rdI_0 (Cls_33 s1.1 : arI h1 (g + 264) 0) : rdI h1 (g + 264)), (Cls_34 s1.1 : aln h1 (g + 264) = 8), (Cls_0 s1.1 : ob h1 g 10), (rf_g (Cls_3 s1.1 : rf h1 g 6 (g + 172)) : gR h1 g 6 = (g + 172)), (rf_is (Cls_3 s1.1 : rf h1 g 6 (g + 172)) : isR h1 g 6), (rf_g (Cls_8 s1.1 : rf h1 g 13 (g + 265)) : gR h1 g 13 = (g + 265)), (rf_is (Cls_8 s1.1 : rf h1 g 13 (g + 265)) : isR h1 g 13), (Cls_35 s1.1 : arI h1 (g + 265) 2), (rdB_2 (Cls_35 s1.1 : arI h1 (g + 265) 2) : rdB h1 (g + 265)), (Cls_36 s1.1 : aln h1 (g + 265) = 256), (State_0 (Cls_17 s1.1) : ob h1 (g + 172) 8), (eq_true (isI_ob (State_0 (Cls_17 s1.1) : ob h1 (g + 172) 8) rfl : isI h1 (g + 172) 3)), (rf_g (State_1 (Cls_17 s1.1) : rf h1 (g + 172) 0 (g + 173)) : gR h1 (g + 172) 0 = (g + 173)), (rf_is (State_1 (Cls_17 s1.1) : rf h1 (g + 172) 0 (g + 173)) : isR h1 (g + 172) 0), (rf_g (State_2 (Cls_17 s1.1) : rf h1 (g + 172) 1 (g + 175)) : gR h1 (g + 172) 1 = (g + 175)), (rf_is (State_2 (Cls_17 s1.1) : rf h1 (g + 172) 1 (g + 175)) : isR h1 (g + 172) 1), (rf_g (State_3 (Cls_17 s1.1) : rf h1 (g + 172) 2 (g + 176)) : gR h1 (g + 172) 2 = (g + 176)), (rf_is (State_3 (Cls_17 s1.1) : rf h1 (g + 172) 2 (g + 176)) : isR h1 (g + 172) 2), (State_5 (Cls_17 s1.1) : arR h1 (g + 175) 5), (rdR_5 (State_5 (Cls_17 s1.1) : arR h1 (g + 175) 5) : rdR h1 (g + 175)), (State_6 (Cls_17 s1.1) : aln h1 (g + 175) = 8), (State_8 (Cls_17 s1.1) : arL h1 (g + 176)), (State_9 (Cls_17 s1.1) : aln h1 (g + 176) = 8), (Mem_0 (State_4 (Cls_17 s1.1)) : ob h1 (g + 173) 5), (eq_true (isI_ob (Mem_0 (State_4 (Cls_17 s1.1)) : ob h1 (g + 173) 5) rfl : isI h1 (g + 173) 1)), (eq_true (isI_ob (Mem_0 (State_4 (Cls_17 s1.1)) : ob h1 (g + 173) 5) rfl : isI h1 (g + 173) 2)), (rf_g (Mem_1 (State_4 (Cls_17 s1.1)) : rf h1 (g + 173) 0 (g + 174)) : gR h1 (g + 173) 0 = (g + 174)), (rf_is (Mem_1 (State_4 (Cls_17 s1.1)) : rf h1 (g + 173) 0 (g + 174)) : isR h1 (g + 173) 0), (Mem_2 (State_4 (Cls_17 s1.1)) : arI h1 (g + 174) 2), (rdB_2 (Mem_2 (State_4 (Cls_17 s1.1)) : arI h1 (g + 174) 2) : rdB h1 (g + 174)), (Mem_3 (State_4 (Cls_17 s1.1)) : aln h1 (g + 174) = 256), b3, l1', q1, c_refusalOf, c_refuses, rfs, if_true, if_false, vkk_n, vkk_i, vkk_r, vkk_l, vkk_d, catS_nil, catS_i, catS_r, catS_l, catS_d, Nat.reduceAdd, Nat.reduceLeDiff, Nat.zero_le, Nat.le_refl, Option.bind_some, Option.toList_some, Option.toList_none, List.cons_append, List.nil_append, or_true, true_or, if_true, if_false, Int32.reduceLT, Int32.reduceLE, not_true, not_false_iff, true_and, and_true, false_and, and_false]
    exact v1
  · have ms : ev 164 0 [some (.ref (g + 266)), some (.int 0)] [] m1 = some (some (.int 1), mRf m1 (g + 266) 0) := by
      rw [c_m_says _ _ _ om2, if_pos rfl, m2]
    have t1 := c_m_isThere m1 (g + 266) at_ (nI (sN z k)) om2
    rw [g18, q2] at t1
    simp +decide only [e221_0, e221_1, e221_2, e221_5, e221_6, e221_7, e221_9, e221_12, e221_15, e221_16, e221_17, e221_18, e221_19, e221_20, e221_23, e221_25, e221_27, e221_30, e221_31, e221_32, e221_33, e221_36, e221_39, e221_42, e221_43, e221_45, e221_46, e221_48, e221_51, e221_54, e221_55, om1, om1p, om2, c_m_in, i1, k1, t1, k3, ms, vkk_n, vkk_i, vkk_r, vkk_l, vkk_d, catS_nil, catS_i, catS_r, catS_l, catS_d, Nat.reduceAdd, Nat.reduceLeDiff, Nat.zero_le, Nat.le_refl, Option.bind_some, Option.toList_some, Option.toList_none, List.cons_append, List.nil_append, or_true, true_or, if_true, if_false, Int32.reduceLT, Int32.reduceLE, not_true, not_false_iff, true_and, and_true, false_and, and_false]
    exact w1
