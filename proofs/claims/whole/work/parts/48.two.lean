/-! calls on one bin: the model, and both together -/
theorem mIn_c {h : VG} {v l u x : Int32} (hv : mIn v l u = x) : ev 162 0 [some (.int v), some (.int l), some (.int u)] [] h = some (some (.int x), h) := by rw [c_m_in, hv]
theorem mBin_c {h : VG} {v x : Int32} (hv : mIn v 0 7 = x) : ev 181 0 [some (.int v)] [] h = some (some (.int x), h) := by rw [c_m_isBin, hv]
theorem mNum_c {h : VG} {v x : Int32} (hv : mIn v 0 7 = x) : ev 182 0 [some (.int v)] [] h = some (some (.int x), h) := by rw [c_m_isNumber, hv]
theorem c_m_length (h : VG) (g b s n : Nat) (hs : Sh h g) (hb : b < 8) (es : aI h (g + 285) b = nI s) (en : aI h (g + 286) b = nI n) (hs' : s < 12) (hn : n ≤ 40) : ev 190 0 [some (.ref (g + 266)), some (.int (nI b))] [] h = some (some (.int (if rowRef (nI s) = 0 then nI n else -1)), mRf h (g + 266) (rowRef (nI s))) := by
  have hi : vp_in (nI b) 8 := vp_in_nI hb (by decide)
  have hc : (nI b).toNatClampNeg = b := nI_clamp (by omega)
  have b1 := mBin_c (h := h) (c_bn1 hb).2
  have ho : ob h (g + 266) 11 := Mod_0 hs.2.1
  have m2 := fun f hf => (msy_0 h (g + 266) f hf ho).2
  unfold rowRef
  by_cases q1 : nI s = 11
  · rw [if_pos q1]
    have m3 := m2 3 (by decide)
    simp +decide only [e190_0, e190_1, e190_4, e190_7, e190_8, e190_9, e190_12, e190_13, e190_14, e190_15, e190_16, e190_19, e190_20, e190_21, e190_23, e190_26, e190_27, e190_30, e190_31, e190_34, e190_35, e190_36, e190_38, e190_41, e190_42, e190_45, e190_46, e190_49, e190_52, e190_53, e190_56, e190_57, e190_58, e190_61, e190_62, hi, hc, b1, es, q1, c_m_says, m3, (Mod_0 hs.2.1 : ob h (g + 266) 11), (rf_g (Mod_55 hs.2.1 : rf h (g + 266) 42 (g + 285)) : gR h (g + 266) 42 = (g + 285)), (rf_is (Mod_55 hs.2.1 : rf h (g + 266) 42 (g + 285)) : isR h (g + 266) 42), (Mod_56 hs.2.1 : arI h (g + 285) 0), (rdI_0 (Mod_56 hs.2.1 : arI h (g + 285) 0) : rdI h (g + 285)), (Mod_57 hs.2.1 : aln h (g + 285) = 8), (rf_g (Mod_58 hs.2.1 : rf h (g + 266) 43 (g + 286)) : gR h (g + 266) 43 = (g + 286)), (rf_is (Mod_58 hs.2.1 : rf h (g + 266) 43 (g + 286)) : isR h (g + 266) 43), (Mod_59 hs.2.1 : arI h (g + 286) 0), (rdI_0 (Mod_59 hs.2.1 : arI h (g + 286) 0) : rdI h (g + 286)), (Mod_60 hs.2.1 : aln h (g + 286) = 8), Nat.add_assoc, Nat.reduceAdd, Nat.add_left_cancel_iff, Nat.reduceEqDiff, Nat.add_eq_left, Nat.left_eq_add, vkk_n, vkk_i, vkk_r, vkk_l, vkk_d, catS_nil, catS_i, catS_r, catS_l, catS_d, Nat.reduceAdd, Nat.reduceLeDiff, Nat.zero_le, Nat.le_refl, Option.bind_some, Option.toList_some, Option.toList_none, List.cons_append, List.nil_append, or_true, true_or, if_true, if_false, Int32.reduceLT, Int32.reduceLE, not_true, not_false_iff, true_and, and_true, false_and, and_false]
  · rw [if_neg q1]
    by_cases q2 : nI s = 10
    · rw [if_pos q2]
      have m3 := m2 2 (by decide)
      simp +decide only [e190_0, e190_1, e190_4, e190_7, e190_8, e190_9, e190_12, e190_13, e190_14, e190_15, e190_16, e190_19, e190_20, e190_21, e190_23, e190_26, e190_27, e190_30, e190_31, e190_34, e190_35, e190_36, e190_38, e190_41, e190_42, e190_45, e190_46, e190_49, e190_52, e190_53, e190_56, e190_57, e190_58, e190_61, e190_62, hi, hc, b1, es, q1, q2, c_m_says, m3, (Mod_0 hs.2.1 : ob h (g + 266) 11), (rf_g (Mod_55 hs.2.1 : rf h (g + 266) 42 (g + 285)) : gR h (g + 266) 42 = (g + 285)), (rf_is (Mod_55 hs.2.1 : rf h (g + 266) 42 (g + 285)) : isR h (g + 266) 42), (Mod_56 hs.2.1 : arI h (g + 285) 0), (rdI_0 (Mod_56 hs.2.1 : arI h (g + 285) 0) : rdI h (g + 285)), (Mod_57 hs.2.1 : aln h (g + 285) = 8), (rf_g (Mod_58 hs.2.1 : rf h (g + 266) 43 (g + 286)) : gR h (g + 266) 43 = (g + 286)), (rf_is (Mod_58 hs.2.1 : rf h (g + 266) 43 (g + 286)) : isR h (g + 266) 43), (Mod_59 hs.2.1 : arI h (g + 286) 0), (rdI_0 (Mod_59 hs.2.1 : arI h (g + 286) 0) : rdI h (g + 286)), (Mod_60 hs.2.1 : aln h (g + 286) = 8), Nat.add_assoc, Nat.reduceAdd, Nat.add_left_cancel_iff, Nat.reduceEqDiff, Nat.add_eq_left, Nat.left_eq_add, vkk_n, vkk_i, vkk_r, vkk_l, vkk_d, catS_nil, catS_i, catS_r, catS_l, catS_d, Nat.reduceAdd, Nat.reduceLeDiff, Nat.zero_le, Nat.le_refl, Option.bind_some, Option.toList_some, Option.toList_none, List.cons_append, List.nil_append, or_true, true_or, if_true, if_false, Int32.reduceLT, Int32.reduceLE, not_true, not_false_iff, true_and, and_true, false_and, and_false]
    · rw [if_neg q2]
      have m3 := m2 0 (by decide)
      have a1 : aI (mRf h (g + 266) 0) (g + 286) b = nI n := aI_pI .. |>.trans en
      have a2 : Sh (mRf h (g + 266) 0) g := Sh_fr (mRf_fr ..) (fun _ z => z.elim) hs
      rw [if_pos rfl]
      generalize mRf h (g + 266) 0 = h3 at m3 a1 a2 ⊢
      simp +decide only [e190_0, e190_1, e190_4, e190_7, e190_8, e190_9, e190_12, e190_13, e190_14, e190_15, e190_16, e190_19, e190_20, e190_21, e190_23, e190_26, e190_27, e190_30, e190_31, e190_34, e190_35, e190_36, e190_38, e190_41, e190_42, e190_45, e190_46, e190_49, e190_52, e190_53, e190_56, e190_57, e190_58, e190_61, e190_62, hi, hc, b1, es, q1, q2, c_m_says, m3, a1, (Mod_0 hs.2.1 : ob h (g + 266) 11), (rf_g (Mod_55 hs.2.1 : rf h (g + 266) 42 (g + 285)) : gR h (g + 266) 42 = (g + 285)), (rf_is (Mod_55 hs.2.1 : rf h (g + 266) 42 (g + 285)) : isR h (g + 266) 42), (Mod_56 hs.2.1 : arI h (g + 285) 0), (rdI_0 (Mod_56 hs.2.1 : arI h (g + 285) 0) : rdI h (g + 285)), (Mod_57 hs.2.1 : aln h (g + 285) = 8), (rf_g (Mod_58 hs.2.1 : rf h (g + 266) 43 (g + 286)) : gR h (g + 266) 43 = (g + 286)), (rf_is (Mod_58 hs.2.1 : rf h (g + 266) 43 (g + 286)) : isR h (g + 266) 43), (Mod_59 hs.2.1 : arI h (g + 286) 0), (rdI_0 (Mod_59 hs.2.1 : arI h (g + 286) 0) : rdI h (g + 286)), (Mod_60 hs.2.1 : aln h (g + 286) = 8), (Mod_0 a2.2.1 : ob h3 (g + 266) 11), (rf_g (Mod_58 a2.2.1 : rf h3 (g + 266) 43 (g + 286)) : gR h3 (g + 266) 43 = (g + 286)), (rf_is (Mod_58 a2.2.1 : rf h3 (g + 266) 43 (g + 286)) : isR h3 (g + 266) 43), (Mod_59 a2.2.1 : arI h3 (g + 286) 0), (rdI_0 (Mod_59 a2.2.1 : arI h3 (g + 286) 0) : rdI h3 (g + 286)), (Mod_60 a2.2.1 : aln h3 (g + 286) = 8), Nat.add_assoc, Nat.reduceAdd, Nat.add_left_cancel_iff, Nat.reduceEqDiff, Nat.add_eq_left, Nat.left_eq_add, vkk_n, vkk_i, vkk_r, vkk_l, vkk_d, catS_nil, catS_i, catS_r, catS_l, catS_d, Nat.reduceAdd, Nat.reduceLeDiff, Nat.zero_le, Nat.le_refl, Option.bind_some, Option.toList_some, Option.toList_none, List.cons_append, List.nil_append, or_true, true_or, if_true, if_false, Int32.reduceLT, Int32.reduceLE, not_true, not_false_iff, true_and, and_true, false_and, and_false]
/-- what both sides know of bin b, at a heap behind the class's part -/
theorem bin_kn {h h1 : VG} {g b : Nat} {R' : Nat → Prop} {F : Nat → Nat → Prop} (R : Inv h g) (hb : b < 8) (x : Fr R' F h h1) (c : ∀ a, R' a → a < g + 285 ∨ g + 289 < a) : ∃ s n, s < 12 ∧ n ≤ 40 ∧ (10 ≤ s → n = 0) ∧ gI h (g + (177 + 3 * b)) 0 = nI s ∧ aI h1 (g + 285) b = nI s ∧ gI h (g + (177 + 3 * b)) 1 = nI n ∧ aI h1 (g + 286) b = nI n ∧ ∀ i, i < n → cOk s (aI h (g + (177 + 3 * b) + 1) i) ∧ aI h1 (g + 287) (40 * b + i) = aI h (g + (177 + 3 * b) + 1) i ∧ RNm (aI h (g + (177 + 3 * b) + 1) i) (aL h (g + (177 + 3 * b) + 2) i) (aL h1 (g + 288) (40 * b + i)) (aD h1 (g + 289) (40 * b + i)) := by
  obtain ⟨s, n, e1, e2, e3, e4, e5, e6, e7, e8⟩ := R.bins b hb
  rw [Nat.zero_add] at e5 e7
  refine ⟨s, n, e1, e2, e3, e4, (x.I (fun z => by have := c _ z; omega) _).trans e5, e6, (x.I (fun z => by have := c _ z; omega) _).trans e7, fun i hi => ?_⟩
  have e9 := e8 i hi
  rw [Nat.zero_add] at e9
  rw [x.I (a := g + 287) (fun z => by have := c _ z; omega), x.L (a := g + 288) (fun z => by have := c _ z; omega), x.D (a := g + 289) (fun z => by have := c _ z; omega)]
  exact e9
theorem nr_285 {g : Nat} : ∀ a, NR a → a < g + 285 ∨ g + 289 < a := fun _ z => z.elim
theorem k_length (h : VG) (g : Nat) (R : Inv h g) (b : Int32) : CalI h g 111 [some (.ref g), some (.int b)] 190 [some (.ref (g + 266)), some (.int b)] := by
  rcases c_bn (b := b) with ⟨j, hj, rfl⟩ | ⟨q1, q2⟩
  · have c1 := c_length h g j R hj
    generalize hf : rowRef (gI h (g + (177 + 3 * j)) 0) = f at c1
    obtain ⟨s, n, e1, e2, e3, e4, e5, e6, e7, e8⟩ := bin_kn R hj (cRf_fr h g f) nr_285
    have c2 := c_m_length (cRf h g f) g j s n (cRf_sh R.sh) hj e5 e7 e1 e2
    rw [← e4, ← e6, hf] at c2
    refine ⟨_, _, _, c1, c2, ?_, ((mRf_fr ..).two).trans (cRf_fr ..).two⟩
    exact Inv_ans (cRf_fr h g f) (mRf_fr _ _ f) (fun _ z => z.elim) (fun a k z => Or.inr z) (fun _ z => z.elim) (fun a k z => Or.inr z) (cRf_CA f (Cls_0 R.cls)) (mRf_MA f (cRf_ob.mpr (Mod_0 R.mod))) R
  ·
    refine ⟨-1, cRf h g 0, mRf (cRf h g 0) (g + 266) 0, ?_, ?_, Inv_bad R, rfl⟩
    · have ho : ob h g 10 := Cls_0 R.cls
      have b1 := isBin_c (h := pI h g 9 0) q1
      simp +decide only [e111_0, e111_1, e111_2, e111_5, e111_6, e111_9, e111_12, e111_13, e111_14, e111_17, e111_20, e111_21, e111_22, e111_25, e111_28, e111_31, e111_32, e111_33, e111_34, e111_37, e111_40, e111_41, e111_42, e111_45, b1, ho, cRf_0, vkk_n, vkk_i, vkk_r, vkk_l, vkk_d, catS_nil, catS_i, catS_r, catS_l, catS_d, Nat.reduceAdd, Nat.reduceLeDiff, Nat.zero_le, Nat.le_refl, Option.bind_some, Option.toList_some, Option.toList_none, List.cons_append, List.nil_append, or_true, true_or, if_true, if_false, Int32.reduceLT, Int32.reduceLE, not_true, not_false_iff, true_and, and_true, false_and, and_false]
    · have ho : ob (pI h g 9 0) (g + 266) 11 := (ob_pI ..).mpr (Mod_0 R.mod)
      have b1 := fun h => mBin_c (h := h) q2
      simp +decide only [e190_0, e190_1, e190_4, e190_7, e190_8, e190_9, e190_12, e190_13, e190_14, e190_15, e190_16, e190_19, e190_20, e190_21, e190_23, e190_26, e190_27, e190_30, e190_31, e190_34, e190_35, e190_36, e190_38, e190_41, e190_42, e190_45, e190_46, e190_49, e190_52, e190_53, e190_56, e190_57, e190_58, e190_61, e190_62, b1, ho, cRf_0, mRf_0, vkk_n, vkk_i, vkk_r, vkk_l, vkk_d, catS_nil, catS_i, catS_r, catS_l, catS_d, Nat.reduceAdd, Nat.reduceLeDiff, Nat.zero_le, Nat.le_refl, Option.bind_some, Option.toList_some, Option.toList_none, List.cons_append, List.nil_append, or_true, true_or, if_true, if_false, Int32.reduceLT, Int32.reduceLE, not_true, not_false_iff, true_and, and_true, false_and, and_false]
theorem VM_sf {g a k : Nat} (z : VF (g + 266) a k ∨ AM (g + 266) a k) : SF g a k ∨ (a = g + 266 ∧ (k = 31 ∨ k = 32)) := z.elim (fun q => Or.inl (SF_VF q)) Or.inr
theorem VM_32 {m : Nat} : ¬ VF m m 32 := fun z => absurd z.2.1 (by decide)
theorem VF_31 {m : Nat} : ¬ VF m m 31 := fun z => absurd z.2.1 (by decide)
/-- the model at the start of a call: why = 0 -/
theorem m0_sh {h : VG} {g : Nat} (hs : Sh h g) : Sh (pI h (g + 266) 31 0) g := (Sh_pI ..).mpr hs
theorem m0_fr (h : VG) (m : Nat) : Fr NR (AM m) h (pI h m 31 0) := Fr_pI _ _ _ _ ⟨rfl, Or.inl rfl⟩
theorem fr_ma {R R1 : Nat → Prop} {F F1 : Nat → Nat → Prop} {h h1 : VG} {m : Nat} (f : Int32) (x : Fr R F (pI h m 31 0) h1) (hF : ¬ F m 32) (ho : ob h1 m 11) : MA h (mRf h1 m f) m f := by
  have := mRf_MA f ho
  unfold MA at this ⊢
  rw [x.gI hF] at this
  rw [this.1, this.2, gI_pI_ne _ _ _ _ _ _ (fun z => absurd z.2 (by decide))]
  exact ⟨rfl, rfl⟩
/-- a call of the model that carries a value and is refused by f, or by none -/
theorem Inv_val {h h2 : VG} {g : Nat} {f : Int32} (R : Inv h g) (x : Fr NR (VF (g + 266)) (pI (cRf h g f) (g + 266) 31 0) h2) : Inv (mRf h2 (g + 266) f) g := by
  have ho : ob h2 (g + 266) 11 := (ob_kp x.1 ..).mpr ((ob_pI ..).mpr (cRf_ob.mpr (Mod_0 R.mod)))
  have y := ((m0_fr (cRf h g f) (g + 266)).un x).un (mRf_fr h2 (g + 266) f)
  refine Inv_ans (cRf_fr h g f) y (fun _ z => z.elim) (fun a k z => Or.inr z) (fun _ z => z.elim (fun q => q.elim (fun r => r.elim) (fun r => r.elim)) (fun r => r.elim)) (fun a k z => z.elim (fun q => q.elim (fun r => Or.inr r) (fun r => Or.inl (SF_VF r))) (fun r => Or.inr r)) (cRf_CA f (Cls_0 R.cls)) (fr_ma (R := NR) (R1 := NR) (F1 := NF) f x VM_32 ho) R
theorem two_val {h h2 : VG} {g : Nat} {f : Int32} (x : Fr NR (VF (g + 266)) (pI (cRf h g f) (g + 266) 31 0) h2) : (mRf h2 (g + 266) f).2 = h.2 := ((mRf_fr ..).two).trans (x.two.trans ((m0_fr ..).two.trans (cRf_fr ..).two))
theorem k_cell (h : VG) (g : Nat) (R : Inv h g) (b i k : Int32) : CalL h g 112 [some (.ref g), some (.int b), some (.int i), some (.int k)] 191 [some (.ref (g + 266)), some (.int b), some (.int i), some (.int k)] := by
  rcases c_bn (b := b) with ⟨b, hb, rfl⟩ | ⟨q1, q2⟩
  · rcases c_kd (k := k) with ⟨k, hk, rfl⟩ | ⟨p1, p2⟩
    · have b1 := fun h => mBin_c (h := h) (c_bn1 hb).2
      have b2 := fun h => mNum_c (h := h) (c_kd1 hk).2
      obtain ⟨c1, c2⟩ := c_cell h g b k i R hb hk
      obtain ⟨s, n, e1, e2, e3, e4, e5, e6, e7, e8⟩ := bin_kn R hb (Fr.rfl (R := NR) (F := NF) h) nr_285
      rw [e4, e6] at c1 c2
      by_cases q : reaRef (nI s) (nI n) i (nI k) = 0
      · obtain ⟨h8, ⟨j, hj, rfl⟩, hw⟩ := rea_ok e1 e2 q
        have d1 := c2 j (by omega) rfl q
        have sh := m0_sh (cRf_sh (f := 0) R.sh)
        have ck : aI h (g + (177 + 3 * b) + 1) j = nI s := (e8 j hj).1.1 h8
        have e9 := e8 j hj
        rw [ck] at e9
        have x := (cRf_fr h g 0).un (m0_fr (cRf h g 0) (g + 266))
        have nn : ∀ a, ¬ (NR a ∨ NR a) := fun a z => z.elim id id
        obtain ⟨h2, u1, u2, u3⟩ := c_m_reads_ok (pI (cRf h g 0) (g + 266) 31 0) g b s n k j (aL h (g + (177 + 3 * b) + 2) j) sh hb ((x.I (nn _) _).trans e5) ((x.I (nn _) _).trans e7) e1 e2 h8 hk hj hw ((x.I (nn _) _).trans e9.2.1) (by rw [x.L (nn _), x.D (nn _)]; exact e9.2.2)
        have ho2 : ob h2 (g + 266) 11 := (ob_kp u2.1 ..).mpr (Mod_0 sh.2.1)
        have t1 := c_m_told (mRf h2 (g + 266) 0) (g + 266) (nI k) 0 _ ((ob_kp (mRf_fr ..).1 ..).mpr ho2) (by
          unfold Car at u3 ⊢
          rw [(mRf_fr h2 (g + 266) 0).gI (k := 38) (fun z => absurd z.2 (by decide)), (mRf_fr h2 (g + 266) 0).gI (k := 41) (fun z => absurd z.2 (by decide)), (mRf_fr h2 (g + 266) 0).gL (k := 39) (fun z => absurd z.2 (by decide)), (mRf_fr h2 (g + 266) 0).gD (k := 40) (fun z => absurd z.2 (by decide))]
          exact u3) (fun z => by have := (nI_eq (b := 9) (by omega) (by decide)).mp z; omega) (fun z => by
            have h3 : (nI k).toInt = (k : Int) := nI_toInt (by omega)
            rw [z] at h3
            have h4 : (-2 : Int32).toInt = -2 := rfl
            omega)
        have m2 := (msy_0 h2 (g + 266) 0 (by decide) ho2).2
        have ho : ob (cRf h g 0) (g + 266) 11 := cRf_ob.mpr (Mod_0 R.mod)
        have ho3 : ob (mRf h2 (g + 266) 0) (g + 266) 11 := (ob_kp (mRf_fr ..).1 ..).mpr ho2
        refine ⟨_, _, mRf h2 (g + 266) 0, d1, ?_, Inv_val R u2, two_val u2⟩
        simp +decide only [e191_0, e191_1, e191_2, e191_5, e191_6, e191_9, e191_12, e191_13, e191_16, e191_19, e191_20, e191_21, e191_22, e191_23, e191_24, e191_25, e191_26, e191_29, e191_32, e191_35, e191_36, e191_39, e191_42, e191_43, b1, b2, ho, ho2, ho3, u1, c_m_says, m2, t1, ob_pI, vkk_n, vkk_i, vkk_r, vkk_l, vkk_d, catS_nil, catS_i, catS_r, catS_l, catS_d, Nat.reduceAdd, Nat.reduceLeDiff, Nat.zero_le, Nat.le_refl, Option.bind_some, Option.toList_some, Option.toList_none, List.cons_append, List.nil_append, or_true, true_or, if_true, if_false, Int32.reduceLT, Int32.reduceLE, not_true, not_false_iff, true_and, and_true, false_and, and_false]
      · have d1 := c1 _ rfl q
        generalize hf : reaRef (nI s) (nI n) i (nI k) = f at d1 q
        have x := (cRf_fr h g f).un (m0_fr (cRf h g f) (g + 266))
        have nn : ∀ a, ¬ (NR a ∨ NR a) := fun a z => z.elim id id
        have sh := m0_sh (cRf_sh (f := f) R.sh)
        have r1 := c_m_reads_no (pI (cRf h g f) (g + 266) 31 0) g b s n k i sh hb ((x.I (nn _) _).trans e5) ((x.I (nn _) _).trans e7) e1 e2 hk (by rw [hf]; exact q)
        rw [hf] at r1
        have ho2 : ob (pI (cRf h g f) (g + 266) 31 0) (g + 266) 11 := Mod_0 sh.2.1
        have m2 := (msy_0 (pI (cRf h g f) (g + 266) 31 0) (g + 266) f (by rw [← hf]; exact ref_nn (rea_b ..)) ho2).2
        have ho : ob (cRf h g f) (g + 266) 11 := cRf_ob.mpr (Mod_0 R.mod)
        refine ⟨_, _, mRf (pI (cRf h g f) (g + 266) 31 0) (g + 266) f, d1, ?_, Inv_val R (Fr.rfl _), two_val (Fr.rfl _)⟩
        simp +decide only [e191_0, e191_1, e191_2, e191_5, e191_6, e191_9, e191_12, e191_13, e191_16, e191_19, e191_20, e191_21, e191_22, e191_23, e191_24, e191_25, e191_26, e191_29, e191_32, e191_35, e191_36, e191_39, e191_42, e191_43, b1, b2, ho, r1, c_m_says, m2, q, ob_pI, ho2, vkk_n, vkk_i, vkk_r, vkk_l, vkk_d, catS_nil, catS_i, catS_r, catS_l, catS_d, Nat.reduceAdd, Nat.reduceLeDiff, Nat.zero_le, Nat.le_refl, Option.bind_some, Option.toList_some, Option.toList_none, List.cons_append, List.nil_append, or_true, true_or, if_true, if_false, Int32.reduceLT, Int32.reduceLE, not_true, not_false_iff, true_and, and_true, false_and, and_false]
    · refine ⟨0, cRf h g 0, mRf (cRf h g 0) (g + 266) 0, ?_, ?_, Inv_bad R, rfl⟩
      · have ho : ob h g 10 := Cls_0 R.cls
        have b1 := isBin_c (h := pI h g 9 0) (c_bn1 hb).1
        have b2 := isNum_c (h := pI h g 9 0) p1
        simp +decide only [e112_0, e112_1, e112_2, e112_5, e112_6, e112_9, e112_12, e112_13, e112_16, e112_19, e112_20, e112_21, e112_24, e112_27, e112_28, e112_29, e112_30, e112_31, e112_34, e112_37, e112_40, e112_41, e112_42, e112_43, e112_46, e112_49, e112_50, e112_51, e112_52, e112_53, e112_56, e112_57, e112_60, b1, b2, ho, cRf_0, vkk_n, vkk_i, vkk_r, vkk_l, vkk_d, catS_nil, catS_i, catS_r, catS_l, catS_d, Nat.reduceAdd, Nat.reduceLeDiff, Nat.zero_le, Nat.le_refl, Option.bind_some, Option.toList_some, Option.toList_none, List.cons_append, List.nil_append, or_true, true_or, if_true, if_false, Int32.reduceLT, Int32.reduceLE, not_true, not_false_iff, true_and, and_true, false_and, and_false]
      · have ho : ob (pI h g 9 0) (g + 266) 11 := (ob_pI ..).mpr (Mod_0 R.mod)
        have b1 := fun h => mBin_c (h := h) (c_bn1 hb).2
        have b2 := fun h => mNum_c (h := h) p2
        simp +decide only [e191_0, e191_1, e191_2, e191_5, e191_6, e191_9, e191_12, e191_13, e191_16, e191_19, e191_20, e191_21, e191_22, e191_23, e191_24, e191_25, e191_26, e191_29, e191_32, e191_35, e191_36, e191_39, e191_42, e191_43, b1, b2, ho, cRf_0, mRf_0, vkk_n, vkk_i, vkk_r, vkk_l, vkk_d, catS_nil, catS_i, catS_r, catS_l, catS_d, Nat.reduceAdd, Nat.reduceLeDiff, Nat.zero_le, Nat.le_refl, Option.bind_some, Option.toList_some, Option.toList_none, List.cons_append, List.nil_append, or_true, true_or, if_true, if_false, Int32.reduceLT, Int32.reduceLE, not_true, not_false_iff, true_and, and_true, false_and, and_false]
  ·
    refine ⟨0, cRf h g 0, mRf (cRf h g 0) (g + 266) 0, ?_, ?_, Inv_bad R, rfl⟩
    · have ho : ob h g 10 := Cls_0 R.cls
      have b1 := isBin_c (h := pI h g 9 0) q1
      simp +decide only [e112_0, e112_1, e112_2, e112_5, e112_6, e112_9, e112_12, e112_13, e112_16, e112_19, e112_20, e112_21, e112_24, e112_27, e112_28, e112_29, e112_30, e112_31, e112_34, e112_37, e112_40, e112_41, e112_42, e112_43, e112_46, e112_49, e112_50, e112_51, e112_52, e112_53, e112_56, e112_57, e112_60, b1, ho, cRf_0, vkk_n, vkk_i, vkk_r, vkk_l, vkk_d, catS_nil, catS_i, catS_r, catS_l, catS_d, Nat.reduceAdd, Nat.reduceLeDiff, Nat.zero_le, Nat.le_refl, Option.bind_some, Option.toList_some, Option.toList_none, List.cons_append, List.nil_append, or_true, true_or, if_true, if_false, Int32.reduceLT, Int32.reduceLE, not_true, not_false_iff, true_and, and_true, false_and, and_false]
    · have ho : ob (pI h g 9 0) (g + 266) 11 := (ob_pI ..).mpr (Mod_0 R.mod)
      have b1 := fun h => mBin_c (h := h) q2
      simp +decide only [e191_0, e191_1, e191_2, e191_5, e191_6, e191_9, e191_12, e191_13, e191_16, e191_19, e191_20, e191_21, e191_22, e191_23, e191_24, e191_25, e191_26, e191_29, e191_32, e191_35, e191_36, e191_39, e191_42, e191_43, b1, ho, cRf_0, mRf_0, vkk_n, vkk_i, vkk_r, vkk_l, vkk_d, catS_nil, catS_i, catS_r, catS_l, catS_d, Nat.reduceAdd, Nat.reduceLeDiff, Nat.zero_le, Nat.le_refl, Option.bind_some, Option.toList_some, Option.toList_none, List.cons_append, List.nil_append, or_true, true_or, if_true, if_false, Int32.reduceLT, Int32.reduceLE, not_true, not_false_iff, true_and, and_true, false_and, and_false]
/-- a call that fills cell i of bin b on both sides -/
theorem Inv_lay {h h1 h2 h3 : VG} {g b s n i : Nat} {k : Int32} {x : Int64} {F : Nat → Nat → Prop} (R : Inv h g) (hb : b < 8) (hi : i < n) (hn : n ≤ 40) (hs : s < 12) (bs : gI h (g + (177 + 3 * b)) 0 = nI s) (bn : gI h (g + (177 + 3 * b)) 1 = nI n) (hk : cOk s k) (x1 : FilC (cRf h g 0) h1 (g + (177 + 3 * b)) i k x) (hF : ∀ a j, F a j → a = g + 266 ∧ (j = 31 ∨ (38 ≤ j ∧ j ≤ 41))) (y0 : Fr NR F h1 h2) (c32 : gI h2 (g + 266) 32 = gI h1 (g + 266) 32) (y : Lay h2 h3 g (40 * b + i) k x) : Inv (mRf h3 (g + 266) 0) g ∧ (mRf h3 (g + 266) 0).2 = h.2 := by
  have ho : ob h g 10 := Cls_0 R.cls
  have a1 := cRf_fr h g 0
  have a2 := x1.1
  have a3 := mRf_fr h3 (g + 266) 0
  have xx := a1.un a2
  have yy := (y0.un y.1).un a3
  have ho3 : ob h3 (g + 266) 11 := (ob_kp y.1.1 ..).mpr ((ob_kp y0.1 ..).mpr ((ob_kp a2.1 ..).mpr (cRf_ob.mpr (Mod_0 R.mod))))
  have rb : RBins2 (mRf h3 (g + 266) 0) (mRf h3 (g + 266) 0) g := by
    have q0 : RBins2 (cRf h g 0) (cRf h g 0) g := RBins2_fr a1 a1 (fun _ z => z.elim) (fun a k z => by unfold AC at z; omega) (fun _ z => z.elim) R.bins
    have q1 : RBins2 (cRf h g 0) h2 g := RBins2_fr (Fr.rfl (R := NR) (F := NF) _) (a2.un y0) (fun _ z => z.elim) (fun _ _ z => z.elim) (fun a z => by rcases z with z | z; omega; exact z.elim) q0
    have q2 : RBins2 h1 h3 g := RBins2_lay hb hi hn hs ((a1.gI (fun z => by unfold AC at z; omega)).trans bs) ((a1.gI (fun z => by unfold AC at z; omega)).trans bn) hk x1 y q1
    exact RBins2_fr ((y0.un y.1).un a3) a3 (fun a z => by rcases z with (z | z) | z; exact z.elim; (unfold LR at z; omega); exact z.elim) (fun a k z => by rcases z with (z | z) | z; (have := hF _ _ z; omega); (unfold VF at z; omega); (unfold AM at z; omega)) (fun _ z => z.elim) q2
  have ca : CA h h1 g 0 := by
    have := cRf_CA (h := h) 0 ho
    unfold CA at this ⊢
    rw [a2.gI (fun z => z), a2.gI (fun z => z)]
    exact this
  have ma : MA h1 (mRf h3 (g + 266) 0) (g + 266) 0 := by
    have := mRf_MA (h := h3) (m := g + 266) 0 ho3
    unfold MA at this ⊢
    rw [← c32, ← y.1.gI (fun z => by unfold VF at z; omega)]
    exact this
  have zz := xx.un yy
  refine ⟨?_, (a3.two.trans (y.1.two.trans (y0.two.trans (a2.two.trans a1.two))))⟩
  have nR : ∀ a, ((NR a ∨ (a = g + (177 + 3 * b) + 1 ∨ a = g + (177 + 3 * b) + 2)) ∨ ((NR a ∨ LR g a) ∨ NR a)) → (g + 177 ≤ a ∧ a ≤ g + 200) ∨ (g + 287 ≤ a ∧ a ≤ g + 289) := by
    intro a z
    rcases z with (z | z) | ((z | z) | z)
    · exact z.elim
    · omega
    · exact z.elim
    · unfold LR at z
      omega
    · exact z.elim
  have nF : ∀ a k, ((AC g a k ∨ NF a k) ∨ ((F a k ∨ VF (g + 266) a k) ∨ AM (g + 266) a k)) → (a = g ∧ (k = 9 ∨ k = 10)) ∨ (a = g + 266 ∧ (k = 31 ∨ k = 32 ∨ (38 ≤ k ∧ k ≤ 41))) := by
    intro a k z
    rcases z with (z | z) | ((z | z) | z)
    · exact Or.inl z
    · exact z.elim
    · have := hF _ _ z
      omega
    · unfold VF at z
      omega
    · unfold AM at z
      omega
  refine Inv_now xx yy ?_ ?_ ?_ ?_ ca ma (RHd_fr zz ?_ R.hd) (RMem_fr zz ?_ R.mem) (RReg_fr zz ?_ R.reg) rb R
  · intro a z
    have := nR a (Or.inl z)
    unfold NwR
    rcases z with z | z
    · exact z.elim
    · omega
  · intro a k z
    have := nF a k (Or.inl z)
    unfold NwF
    rcases z with z | z
    · unfold AC at z
      omega
    · exact z.elim
  · intro a z
    have := nR a (Or.inr z)
    unfold NwR
    rcases z with (z | z) | z
    · exact z.elim
    · unfold LR at z
      omega
    · exact z.elim
  · intro a k z
    have := nF a k (Or.inr z)
    unfold NwF SF
    rcases z with (z | z) | z
    · have := hF _ _ z
      omega
    · unfold VF at z
      omega
    · unfold AM at z
      omega
  · intro a k z
    have := nF a k z
    omega
  · intro a z
    have := nR a z
    omega
  · intro a z
    have := nR a z
    omega
def M0 (m : Nat) : Nat → Nat → Prop := fun a k => AM m a k ∧ k = 31 ∨ VF m a k
theorem cOk_lo {s : Nat} (h : s < 8) : cOk s (nI s) := ⟨fun _ => rfl, fun z => by omega, fun z => by omega⟩
theorem k_write (h : VG) (g : Nat) (R : Inv h g) (b i k : Int32) (v : Int64) : CalI h g 113 [some (.ref g), some (.int b), some (.int i), some (.int k), some (.long v), none] 192 [some (.ref (g + 266)), some (.int b), some (.int i), some (.int k), some (.long v), none] := by
  rcases c_bn (b := b) with ⟨b, hb, rfl⟩ | ⟨q1, q2⟩
  · rcases c_kd (k := k) with ⟨k, hk, rfl⟩ | ⟨p1, p2⟩
    · have b1 := fun h => mBin_c (h := h) (c_bn1 hb).2
      have b2 := fun h => mNum_c (h := h) (c_kd1 hk).2
      obtain ⟨c1, c2⟩ := c_write h g b k i v R hb hk
      obtain ⟨s, n, e1, e2, e3, e4, e5, e6, e7, e8⟩ := bin_kn R hb (Fr.rfl (R := NR) (F := NF) h) nr_285
      rw [e4, e6] at c1 c2
      by_cases q : wriRef (nI s) (nI n) i (nI k) = 0
      · obtain ⟨h8, ⟨j, hj, rfl⟩, hw⟩ := wri_ok e1 e2 q
        have d1 := c2 j (by omega) rfl q
        obtain ⟨hB, eR⟩ := bin_sh (cRf_sh (f := 0) R.sh) hb
        have a1 := cRf_fr h g 0
        have fl := fil_lo (h := cRf h g 0) (B := g + (177 + 3 * b)) (i := j) (s := s) (c := nI k) (x := kMade v (nI k)) hB ((a1.gI (fun z => by unfold AC at z; omega)).trans e4) h8 ((a1.I (fun z => z) _).trans ((e8 j hj).1.1 h8))
        generalize hh1 : fil (cRf h g 0) (g + (177 + 3 * b)) j (nI k) (kMade v (nI k)) = h1 at d1 fl
        have s1 : Sh h1 g := Sh_fr fl.1 (fun a z => by omega) (cRf_sh R.sh)
        have s2 := m0_sh s1
        obtain ⟨h2, t1, t2, t3⟩ := c_m_made (pI h1 (g + 266) 31 0) (g + 266) k v (Mod_0 s2.2.1) hk
        have s3 : Sh h2 g := Sh_fr t2 (fun _ z => z.elim) s2
        have x := (((cRf_fr h g 0).un fl.1).un (m0_fr h1 (g + 266))).un t2
        have nn : ∀ a, g + 266 ≤ a → ¬ (((NR a ∨ (a = g + (177 + 3 * b) + 1 ∨ a = g + (177 + 3 * b) + 2)) ∨ NR a) ∨ NR a) := by
          intro a ha z
          rcases z with ((z | z) | z) | z
          · exact z
          · omega
          · exact z
          · exact z
        obtain ⟨h3, u1, u2⟩ := c_m_writes_ok h2 g b s n k j (kMade v (nI k)) s3 hb ((x.I (nn _ (by omega)) _).trans e5) ((x.I (nn _ (by omega)) _).trans e7) e1 e2 h8 hk hj hw t3
        have ho3 : ob h3 (g + 266) 11 := (ob_kp u2.1.1 ..).mpr (Mod_0 s3.2.1)
        have m2 := (msy_0 h3 (g + 266) 0 (by decide) ho3).2
        have ho1 : ob h1 (g + 266) 11 := Mod_0 s1.2.1
        have ho2 : ob h2 (g + 266) 11 := Mod_0 s3.2.1
        have iv := Inv_lay (F := M0 (g + 266)) R hb hj e2 e1 e4 e6 (cOk_lo h8) fl (fun a j z => by unfold M0 AM VF at z; omega) ((Fr_pI h1 (g + 266) 31 0 (Or.inl ⟨⟨rfl, Or.inl rfl⟩, rfl⟩)).tr (t2.mo (fun _ z => z.elim) (fun _ _ z => Or.inr z))) ((t2.gI (fun z => by unfold VF at z; omega)).trans (gI_pI_ne _ _ _ _ _ _ (fun z => absurd z.2 (by decide)))) u2
        refine ⟨_, _, mRf h3 (g + 266) 0, d1, ?_, iv.1, iv.2⟩
        simp +decide only [e192_0, e192_1, e192_2, e192_5, e192_6, e192_9, e192_12, e192_13, e192_16, e192_19, e192_20, e192_21, e192_22, e192_23, e192_25, e192_28, e192_29, e192_30, e192_31, e192_32, e192_35, e192_38, b1, b2, ho1, ho2, ho3, t1, u1, c_m_says, m2, ob_pI, vkk_n, vkk_i, vkk_r, vkk_l, vkk_d, catS_nil, catS_i, catS_r, catS_l, catS_d, Nat.reduceAdd, Nat.reduceLeDiff, Nat.zero_le, Nat.le_refl, Option.bind_some, Option.toList_some, Option.toList_none, List.cons_append, List.nil_append, or_true, true_or, if_true, if_false, Int32.reduceLT, Int32.reduceLE, not_true, not_false_iff, true_and, and_true, false_and, and_false]
      · have d1 := c1 _ rfl q
        generalize hf : wriRef (nI s) (nI n) i (nI k) = f at d1 q
        have sh := m0_sh (cRf_sh (f := f) R.sh)
        obtain ⟨h2, t1, t2, t3⟩ := c_m_made (pI (cRf h g f) (g + 266) 31 0) (g + 266) k v (Mod_0 sh.2.1) hk
        have s3 : Sh h2 g := Sh_fr t2 (fun _ z => z.elim) sh
        have x := ((cRf_fr h g f).un (m0_fr (cRf h g f) (g + 266))).un t2
        have nn : ∀ a, ¬ ((NR a ∨ NR a) ∨ NR a) := fun a z => z.elim (fun q => q.elim id id) id
        have r1 := c_m_writes_no h2 g b s n k i s3 hb ((x.I (nn _) _).trans e5) ((x.I (nn _) _).trans e7) e1 e2 (by omega) t3.2.1 t3.1 (by rw [hf]; exact q)
        rw [hf] at r1
        have ho2 : ob h2 (g + 266) 11 := Mod_0 s3.2.1
        have m2 := (msy_0 h2 (g + 266) f (by rw [← hf]; exact ref_nn (wri_b ..)) ho2).2
        have ho : ob (cRf h g f) (g + 266) 11 := cRf_ob.mpr (Mod_0 R.mod)
        refine ⟨_, _, mRf h2 (g + 266) f, d1, ?_, Inv_val R t2, two_val t2⟩
        simp +decide only [e192_0, e192_1, e192_2, e192_5, e192_6, e192_9, e192_12, e192_13, e192_16, e192_19, e192_20, e192_21, e192_22, e192_23, e192_25, e192_28, e192_29, e192_30, e192_31, e192_32, e192_35, e192_38, b1, b2, ho, ho2, t1, r1, c_m_says, m2, q, ob_pI, vkk_n, vkk_i, vkk_r, vkk_l, vkk_d, catS_nil, catS_i, catS_r, catS_l, catS_d, Nat.reduceAdd, Nat.reduceLeDiff, Nat.zero_le, Nat.le_refl, Option.bind_some, Option.toList_some, Option.toList_none, List.cons_append, List.nil_append, or_true, true_or, if_true, if_false, Int32.reduceLT, Int32.reduceLE, not_true, not_false_iff, true_and, and_true, false_and, and_false]
    · refine ⟨0, cRf h g 0, mRf (cRf h g 0) (g + 266) 0, ?_, ?_, Inv_bad R, rfl⟩
      · have ho : ob h g 10 := Cls_0 R.cls
        have b1 := isBin_c (h := pI h g 9 0) (c_bn1 hb).1
        have b2 := isNum_c (h := pI h g 9 0) p1
        simp +decide only [e113_0, e113_1, e113_2, e113_5, e113_6, e113_9, e113_12, e113_13, e113_16, e113_19, e113_20, e113_21, e113_24, e113_27, e113_28, e113_29, e113_30, e113_31, e113_34, e113_37, e113_40, e113_41, e113_42, e113_43, e113_46, e113_49, e113_50, e113_51, e113_52, e113_53, e113_55, e113_56, e113_59, e113_62, e113_63, b1, b2, ho, cRf_0, vkk_n, vkk_i, vkk_r, vkk_l, vkk_d, catS_nil, catS_i, catS_r, catS_l, catS_d, Nat.reduceAdd, Nat.reduceLeDiff, Nat.zero_le, Nat.le_refl, Option.bind_some, Option.toList_some, Option.toList_none, List.cons_append, List.nil_append, or_true, true_or, if_true, if_false, Int32.reduceLT, Int32.reduceLE, not_true, not_false_iff, true_and, and_true, false_and, and_false]
      · have ho : ob (pI h g 9 0) (g + 266) 11 := (ob_pI ..).mpr (Mod_0 R.mod)
        have b1 := fun h => mBin_c (h := h) (c_bn1 hb).2
        have b2 := fun h => mNum_c (h := h) p2
        simp +decide only [e192_0, e192_1, e192_2, e192_5, e192_6, e192_9, e192_12, e192_13, e192_16, e192_19, e192_20, e192_21, e192_22, e192_23, e192_25, e192_28, e192_29, e192_30, e192_31, e192_32, e192_35, e192_38, b1, b2, ho, cRf_0, mRf_0, vkk_n, vkk_i, vkk_r, vkk_l, vkk_d, catS_nil, catS_i, catS_r, catS_l, catS_d, Nat.reduceAdd, Nat.reduceLeDiff, Nat.zero_le, Nat.le_refl, Option.bind_some, Option.toList_some, Option.toList_none, List.cons_append, List.nil_append, or_true, true_or, if_true, if_false, Int32.reduceLT, Int32.reduceLE, not_true, not_false_iff, true_and, and_true, false_and, and_false]
  ·
    refine ⟨0, cRf h g 0, mRf (cRf h g 0) (g + 266) 0, ?_, ?_, Inv_bad R, rfl⟩
    · have ho : ob h g 10 := Cls_0 R.cls
      have b1 := isBin_c (h := pI h g 9 0) q1
      simp +decide only [e113_0, e113_1, e113_2, e113_5, e113_6, e113_9, e113_12, e113_13, e113_16, e113_19, e113_20, e113_21, e113_24, e113_27, e113_28, e113_29, e113_30, e113_31, e113_34, e113_37, e113_40, e113_41, e113_42, e113_43, e113_46, e113_49, e113_50, e113_51, e113_52, e113_53, e113_55, e113_56, e113_59, e113_62, e113_63, b1, ho, cRf_0, vkk_n, vkk_i, vkk_r, vkk_l, vkk_d, catS_nil, catS_i, catS_r, catS_l, catS_d, Nat.reduceAdd, Nat.reduceLeDiff, Nat.zero_le, Nat.le_refl, Option.bind_some, Option.toList_some, Option.toList_none, List.cons_append, List.nil_append, or_true, true_or, if_true, if_false, Int32.reduceLT, Int32.reduceLE, not_true, not_false_iff, true_and, and_true, false_and, and_false]
    · have ho : ob (pI h g 9 0) (g + 266) 11 := (ob_pI ..).mpr (Mod_0 R.mod)
      have b1 := fun h => mBin_c (h := h) q2
      simp +decide only [e192_0, e192_1, e192_2, e192_5, e192_6, e192_9, e192_12, e192_13, e192_16, e192_19, e192_20, e192_21, e192_22, e192_23, e192_25, e192_28, e192_29, e192_30, e192_31, e192_32, e192_35, e192_38, b1, ho, cRf_0, mRf_0, vkk_n, vkk_i, vkk_r, vkk_l, vkk_d, catS_nil, catS_i, catS_r, catS_l, catS_d, Nat.reduceAdd, Nat.reduceLeDiff, Nat.zero_le, Nat.le_refl, Option.bind_some, Option.toList_some, Option.toList_none, List.cons_append, List.nil_append, or_true, true_or, if_true, if_false, Int32.reduceLT, Int32.reduceLE, not_true, not_false_iff, true_and, and_true, false_and, and_false]
