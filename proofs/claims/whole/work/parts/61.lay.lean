/-! numbers laid in memory; the model's scratch rows -/
def wB (v : Int64) (s : Nat) : Nat := uN v / 2 ^ (8 * s) % 256
def cB (v : Int64) (s : Nat) : Int32 := vp_nar .byte (nI (wB v s))
theorem wB_lt (v : Int64) (s : Nat) : wB v s < 256 := Nat.mod_lt _ (by decide)
theorem nar_w (x : Int32) : vp_nar .byte x = vp_nar .byte (nI (x.toBitVec.toNat % 256)) := by
  obtain ⟨w, h1, h2, h3⟩ := and255 x
  have h4 : x &&& 255 = nI (x.toBitVec.toNat % 2 ^ 8) := pk_and x 8 (by decide)
  have h5 : w = x.toBitVec.toNat % 256 := (nI_eq (by omega) (by omega)).mp (h2.symm.trans h4)
  rw [h3, h5]
theorem m8 (s : Nat) : (8 : Int32) * nI s = nI (8 * s) := by rw [show (8 : Int32) = nI 8 from rfl, pk_mul]
theorem cB_ok (v : Int64) {s : Nat} (hs : s < 8) : vp_nar .byte ((v.toUInt64 >>> ((nI (8 * s)).toInt64.toUInt64 &&& Int64.toUInt64 63)).toInt64.toInt32) = cB v s := by
  have h1 : uN (ur v (nI (8 * s))) = uN v / 2 ^ (8 * s) := uN_ur v (by omega)
  unfold cB wB
  rw [nar_w]
  congr 2
  have h2 := i32_low (ur v (nI (8 * s)))
  rw [h1] at h2
  show ((ur v (nI (8 * s))).toInt32).toBitVec.toNat % 256 = _
  rw [h2]
  omega
theorem mB_ok (v : Int64) {s : Nat} (hs : s < 8) : ((v >>> ((nI (8 * s)).toInt64 &&& 63)) &&& 255).toInt32 = nI (wB v s) := by
  have h1 : uN ((v >>> ((nI (8 * s)).toInt64 &&& 63)) &&& 255) = uN v / 2 ^ (8 * s) % 2 ^ 8 := sr_mask v 255 (nI (8 * s)) (k := 8 * s) (j := 8) (sh64 ⟨8 * s, by omega⟩) (by decide) (by omega)
  apply Int32.toBitVec_inj.mp
  apply BitVec.eq_of_toNat_eq
  have h2 := wB_lt v s
  rw [i32_low, h1, pk_tn (by omega)]
  unfold wB at h2 ⊢
  omega
/-- the place of a byte's part: s of n -/
def bP (big : Int32) (n o : Nat) : Nat := if big = 0 then o else n - 1 - o
theorem l_lay0 (a ad n : Nat) (v : Int64) (hn : n ≤ 8) (had : ad + n ≤ 256) : ∀ (d i : Nat) (h : VG) (l6 : Option Value), i + d = n → ShMem h a → gI h a 2 = 0 → ∃ h1, ev 57 3 [some (.ref a), some (.int (nI ad)), some (.int (nI n)), some (.long v), none, some (.int (nI i)), l6] [] h = some (none, h1) ∧ Fr (fun x => x = a + 1) NF h h1 ∧ (∀ o, i ≤ o → o < n → aI h1 (a + 1) (ad + o) = cB v o) ∧ ∀ j, ¬ (ad + i ≤ j ∧ j < ad + n) → aI h1 (a + 1) j = aI h (a + 1) j := by
  intro d
  induction d with
  | zero =>
    intro i h l6 hi hm hb
    obtain rfl : i = n := by omega
    have q : ¬ nI i < nI i := nI_nlt (Nat.le_refl _) (by omega)
    refine ⟨h, ?_, Fr.rfl _, fun o h1 h2 => by omega, fun j _ => rfl⟩
    simp +decide only [e57_3, e57_5, e57_6, e57_55, q, vkk_n, vkk_i, vkk_r, vkk_l, vkk_d, catS_nil, catS_i, catS_r, catS_l, catS_d, Nat.reduceAdd, Nat.reduceLeDiff, Nat.zero_le, Nat.le_refl, Option.bind_some, Option.toList_some, Option.toList_none, List.cons_append, List.nil_append, or_true, true_or, if_true, if_false, Int32.reduceLT, Int32.reduceLE, not_true, not_false_iff, true_and, and_true, false_and, and_false]
  | succ d ih =>
    intro i h l6 hi hm hb
    have q : nI i < nI n := nI_lt (by omega) (by omega)
    have hv : vp_in (nI (ad + i)) 256 := vp_in_nI (by omega) (by decide)
    have hc : (nI (ad + i)).toNatClampNeg = ad + i := nI_clamp (by omega)
    have cb := cB_ok v (s := i) (by omega)
    have x1 : Fr (fun x => x = a + 1) NF h (wI h (a + 1) (ad + i) (cB v i)) := Fr_wI _ _ _ _ rfl
    have c1 : ∀ j, aI (wI h (a + 1) (ad + i) (cB v i)) (a + 1) j = if j = ad + i then cB v i else aI h (a + 1) j := by
      intro j
      rw [aI_wI2 _ _ _ _ _ _ (Mem_2 hm)]
      simp only [true_and]
    obtain ⟨h1, u1, u2, u3, u4⟩ := ih (i + 1) (wI h (a + 1) (ad + i) (cB v i)) (some (.int (nI (ad + i)))) (by omega) ((ShMem_kp x1.1 a).mpr hm) ((x1.gI (fun z => z)).trans hb)
    refine ⟨h1, ?_, x1.tr u2, fun o o1 o2 => ?_, fun j hj => ?_⟩
    · simp +decide only [e57_3, e57_5, e57_6, q, if_true]
      simp +decide only [e57_9, e57_10, e57_13, e57_16, e57_17, e57_18, e57_19, e57_20, e57_21, e57_23, e57_24, e57_27, e57_28, e57_30, e57_31, e57_33, e57_34, e57_37, e57_39, e57_40, e57_42, e57_44, e57_45, e57_46, e57_47, e57_48, e57_48z, e57_49, e57_52, hb, nI_add, m8, nar_i8, cb, hv, hc, nI_1, (Mem_0 hm : ob h a 5), (eq_true (isI_ob (Mem_0 hm : ob h a 5) rfl : isI h a 1)), (eq_true (isI_ob (Mem_0 hm : ob h a 5) rfl : isI h a 2)), (rf_g (Mem_1 hm : rf h a 0 (a + 1)) : gR h a 0 = (a + 1)), (rf_is (Mem_1 hm : rf h a 0 (a + 1)) : isR h a 0), (Mem_2 hm : arI h (a + 1) 2), (rdB_2 (Mem_2 hm : arI h (a + 1) 2) : rdB h (a + 1)), (Mem_3 hm : aln h (a + 1) = 256), vkk_n, vkk_i, vkk_r, vkk_l, vkk_d, catS_nil, catS_i, catS_r, catS_l, catS_d, Nat.reduceAdd, Nat.reduceLeDiff, Nat.zero_le, Nat.le_refl, Option.bind_some, Option.toList_some, Option.toList_none, List.cons_append, List.nil_append, or_true, true_or, if_true, if_false, Int32.reduceLT, Int32.reduceLE, not_true, not_false_iff, true_and, and_true, false_and, and_false]
      exact u1
    · by_cases e : o = i
      · subst e
        rw [u4 _ (by omega), c1, if_pos rfl]
      · exact u3 o (by omega) o2
    · rw [u4 j (by omega), c1, if_neg (by omega)]
theorem l_lay1 (a ad n : Nat) (v : Int64) (hn : n ≤ 8) (had : ad + n ≤ 256) : ∀ (d i : Nat) (h : VG) (l6 : Option Value), i + d = n → ShMem h a → ¬ gI h a 2 = 0 → ∃ h1, ev 57 3 [some (.ref a), some (.int (nI ad)), some (.int (nI n)), some (.long v), none, some (.int (nI i)), l6] [] h = some (none, h1) ∧ Fr (fun x => x = a + 1) NF h h1 ∧ (∀ o, o < n - i → aI h1 (a + 1) (ad + o) = cB v (n - 1 - o)) ∧ ∀ j, ¬ (ad ≤ j ∧ j < ad + (n - i)) → aI h1 (a + 1) j = aI h (a + 1) j := by
  intro d
  induction d with
  | zero =>
    intro i h l6 hi hm hb
    obtain rfl : i = n := by omega
    have q : ¬ nI i < nI i := nI_nlt (Nat.le_refl _) (by omega)
    refine ⟨h, ?_, Fr.rfl _, fun o h2 => by omega, fun j _ => rfl⟩
    simp +decide only [e57_3, e57_5, e57_6, e57_55, q, vkk_n, vkk_i, vkk_r, vkk_l, vkk_d, catS_nil, catS_i, catS_r, catS_l, catS_d, Nat.reduceAdd, Nat.reduceLeDiff, Nat.zero_le, Nat.le_refl, Option.bind_some, Option.toList_some, Option.toList_none, List.cons_append, List.nil_append, or_true, true_or, if_true, if_false, Int32.reduceLT, Int32.reduceLE, not_true, not_false_iff, true_and, and_true, false_and, and_false]
  | succ d ih =>
    intro i h l6 hi hm hb
    have q : nI i < nI n := nI_lt (by omega) (by omega)
    have e1 : nI (ad + n) - 1 - nI i = nI (ad + (n - 1 - i)) := by
      rw [nI_m1 (by omega)]
      congr 1
      omega
    have hv : vp_in (nI (ad + (n - 1 - i))) 256 := vp_in_nI (by omega) (by decide)
    have hc : (nI (ad + (n - 1 - i))).toNatClampNeg = ad + (n - 1 - i) := nI_clamp (by omega)
    have cb := cB_ok v (s := i) (by omega)
    have x1 : Fr (fun x => x = a + 1) NF h (wI h (a + 1) (ad + (n - 1 - i)) (cB v i)) := Fr_wI _ _ _ _ rfl
    have c1 : ∀ j, aI (wI h (a + 1) (ad + (n - 1 - i)) (cB v i)) (a + 1) j = if j = ad + (n - 1 - i) then cB v i else aI h (a + 1) j := by
      intro j
      rw [aI_wI2 _ _ _ _ _ _ (Mem_2 hm)]
      simp only [true_and]
    obtain ⟨h1, u1, u2, u3, u4⟩ := ih (i + 1) (wI h (a + 1) (ad + (n - 1 - i)) (cB v i)) (some (.int (nI (ad + (n - 1 - i))))) (by omega) ((ShMem_kp x1.1 a).mpr hm) (by rw [x1.gI (fun z => z)]; exact hb)
    refine ⟨h1, ?_, x1.tr u2, fun o o2 => ?_, fun j hj => ?_⟩
    · simp +decide only [e57_3, e57_5, e57_6, q, if_true]
      simp +decide only [e57_9, e57_10, e57_13, e57_16, e57_17, e57_18, e57_19, e57_20, e57_21, e57_23, e57_24, e57_27, e57_28, e57_30, e57_31, e57_33, e57_34, e57_37, e57_39, e57_40, e57_42, e57_44, e57_45, e57_46, e57_47, e57_48, e57_48z, e57_49, e57_52, hb, nI_add, e1, m8, nar_i8, cb, hv, hc, nI_1, (Mem_0 hm : ob h a 5), (eq_true (isI_ob (Mem_0 hm : ob h a 5) rfl : isI h a 1)), (eq_true (isI_ob (Mem_0 hm : ob h a 5) rfl : isI h a 2)), (rf_g (Mem_1 hm : rf h a 0 (a + 1)) : gR h a 0 = (a + 1)), (rf_is (Mem_1 hm : rf h a 0 (a + 1)) : isR h a 0), (Mem_2 hm : arI h (a + 1) 2), (rdB_2 (Mem_2 hm : arI h (a + 1) 2) : rdB h (a + 1)), (Mem_3 hm : aln h (a + 1) = 256), vkk_n, vkk_i, vkk_r, vkk_l, vkk_d, catS_nil, catS_i, catS_r, catS_l, catS_d, Nat.reduceAdd, Nat.reduceLeDiff, Nat.zero_le, Nat.le_refl, Option.bind_some, Option.toList_some, Option.toList_none, List.cons_append, List.nil_append, or_true, true_or, if_true, if_false, Int32.reduceLT, Int32.reduceLE, not_true, not_false_iff, true_and, and_true, false_and, and_false]
      exact u1
    · by_cases e : o = n - 1 - i
      · subst e
        rw [u4 _ (by omega), c1, if_pos rfl]
        congr 1
        omega
      · exact u3 o (by omega)
    · rw [u4 j (by omega), c1, if_neg (by omega)]
theorem c_lay (h : VG) (a ad n : Nat) (v : Int64) (hm : ShMem h a) (hn : n ≤ 8) (had : ad + n ≤ 256) : ∃ h1, ev 57 0 [some (.ref a), some (.int (nI ad)), some (.int (nI n)), some (.long v), none, none, none] [] h = some (none, h1) ∧ Fr (fun x => x = a + 1) NF h h1 ∧ ∀ j, aI h1 (a + 1) j = if ad ≤ j ∧ j < ad + n then cB v (bP (gI h a 2) n (j - ad)) else aI h (a + 1) j := by
  unfold bP
  by_cases hb : gI h a 2 = 0
  · obtain ⟨h1, u1, u2, u3, u4⟩ := l_lay0 a ad n v hn had n 0 h none (by omega) hm hb
    have t1 : ev 57 3 [some (.ref a), some (.int (nI ad)), some (.int (nI n)), some (.long v), none, some (.int 0), none] [] h = some (none, h1) := u1
    refine ⟨h1, ?_, u2, fun j => ?_⟩
    · simp +decide only [e57_0, e57_1, vkk_n, vkk_i, vkk_r, vkk_l, vkk_d, catS_nil, catS_i, catS_r, catS_l, catS_d, Nat.reduceAdd, Nat.reduceLeDiff, Nat.zero_le, Nat.le_refl, Option.bind_some, Option.toList_some, Option.toList_none, List.cons_append, List.nil_append, or_true, true_or, if_true, if_false, Int32.reduceLT, Int32.reduceLE, not_true, not_false_iff, true_and, and_true, false_and, and_false]
      exact t1
    · by_cases z : ad ≤ j ∧ j < ad + n
      · rw [if_pos z, if_pos hb]
        have := u3 (j - ad) (Nat.zero_le _) (by omega)
        rw [show ad + (j - ad) = j by omega] at this
        exact this
      · rw [if_neg z]
        exact u4 j (by omega)
  · obtain ⟨h1, u1, u2, u3, u4⟩ := l_lay1 a ad n v hn had n 0 h none (by omega) hm hb
    have t1 : ev 57 3 [some (.ref a), some (.int (nI ad)), some (.int (nI n)), some (.long v), none, some (.int 0), none] [] h = some (none, h1) := u1
    refine ⟨h1, ?_, u2, fun j => ?_⟩
    · simp +decide only [e57_0, e57_1, vkk_n, vkk_i, vkk_r, vkk_l, vkk_d, catS_nil, catS_i, catS_r, catS_l, catS_d, Nat.reduceAdd, Nat.reduceLeDiff, Nat.zero_le, Nat.le_refl, Option.bind_some, Option.toList_some, Option.toList_none, List.cons_append, List.nil_append, or_true, true_or, if_true, if_false, Int32.reduceLT, Int32.reduceLE, not_true, not_false_iff, true_and, and_true, false_and, and_false]
      exact t1
    · by_cases z : ad ≤ j ∧ j < ad + n
      · rw [if_pos z, if_neg hb]
        have := u3 (j - ad) (by omega)
        rw [show ad + (j - ad) = j by omega] at this
        exact this
      · rw [if_neg z]
        exact u4 j (by omega)
theorem l_putsOut (g at_ n : Nat) (v : Int64) (hn : n ≤ 8) (had : at_ + n ≤ 512) : ∀ (d i : Nat) (h : VG) (l6 : Option Value), i + d = n → Sh h g → ∃ h1, ev 206 3 [some (.ref (g + 266)), some (.int (nI at_)), some (.int (nI n)), some (.long v), none, some (.int (nI i)), l6] [] h = some (none, h1) ∧ Fr (fun x => x = g + 293 ∨ x = g + 294) NF h h1 ∧ (∀ o, i ≤ o → o < n → aI h1 (g + 293) (at_ + o) = nI (wB v (bP (gI h (g + 266) 17) n o)) ∧ aI h1 (g + 294) (at_ + o) = 1) ∧ ∀ j, ¬ (at_ + i ≤ j ∧ j < at_ + n) → aI h1 (g + 293) j = aI h (g + 293) j ∧ aI h1 (g + 294) j = aI h (g + 294) j := by
  intro d
  induction d with
  | zero =>
    intro i h l6 hi hs
    obtain rfl : i = n := by omega
    have q : ¬ nI i < nI i := nI_nlt (Nat.le_refl _) (by omega)
    refine ⟨h, ?_, Fr.rfl _, fun o h1 h2 => by omega, fun j _ => ⟨rfl, rfl⟩⟩
    simp +decide only [e206_3, e206_5, e206_6, e206_66, q, vkk_n, vkk_i, vkk_r, vkk_l, vkk_d, catS_nil, catS_i, catS_r, catS_l, catS_d, Nat.reduceAdd, Nat.reduceLeDiff, Nat.zero_le, Nat.le_refl, Option.bind_some, Option.toList_some, Option.toList_none, List.cons_append, List.nil_append, or_true, true_or, if_true, if_false, Int32.reduceLT, Int32.reduceLE, not_true, not_false_iff, true_and, and_true, false_and, and_false]
  | succ d ih =>
    intro i h l6 hi hs
    have q : nI i < nI n := nI_lt (by omega) (by omega)
    have hv : vp_in (nI (at_ + i)) 512 := vp_in_nI (by omega) (by decide)
    have hc : (nI (at_ + i)).toNatClampNeg = at_ + i := nI_clamp (by omega)
    have bz : vp_nar .boolean 1 = 1 := by decide
    have t0 : arI h (g + 293) 0 := Mod_80 hs.2.1
    have t1 : arI h (g + 294) 3 := Mod_83 hs.2.1
    generalize hbg : gI h (g + 266) 17 = big
    have bp8 : bP big n i < 8 := by unfold bP; split <;> omega
    have mb := mB_ok v (s := bP big n i) bp8
    have x1 : Fr (fun x => x = g + 293 ∨ x = g + 294) NF h (wI (wI h (g + 293) (at_ + i) (nI (wB v (bP big n i)))) (g + 294) (at_ + i) 1) := (Fr_wI _ _ _ _ (Or.inl rfl)).tr (Fr_wI _ _ _ _ (Or.inr rfl))
    have c1 : ∀ j, aI (wI (wI h (g + 293) (at_ + i) (nI (wB v (bP big n i)))) (g + 294) (at_ + i) 1) (g + 293) j = if j = at_ + i then nI (wB v (bP big n i)) else aI h (g + 293) j := by
      intro j
      rw [aI_wI_ne _ _ _ _ _ _ (by omega), aI_wI0 _ _ _ _ _ _ t0]
      simp only [true_and]
    have c2 : ∀ j, aI (wI (wI h (g + 293) (at_ + i) (nI (wB v (bP big n i)))) (g + 294) (at_ + i) 1) (g + 294) j = if j = at_ + i then 1 else aI h (g + 294) j := by
      intro j
      rw [aI_wI3 _ _ _ _ _ _ ((arI_wI ..).mpr t1), aI_wI_ne _ _ _ _ _ _ (by omega)]
      simp only [true_and]
    have s1 : Sh (wI (wI h (g + 293) (at_ + i) (nI (wB v (bP big n i)))) (g + 294) (at_ + i) 1) g := Sh_fr x1 (fun a z => by omega) hs
    obtain ⟨h1, u1, u2, u3, u4⟩ := ih (i + 1) _ (some (.int (nI (bP big n i)))) (by omega) s1
    rw [x1.gI (fun z => z), hbg] at u3
    refine ⟨h1, ?_, x1.tr u2, fun o o1 o2 => ?_, fun j hj => ?_⟩
    · simp +decide only [e206_3, e206_5, e206_6, q, if_true]
      by_cases b0 : big = 0
      · have e : bP big n i = i := if_pos b0
        rw [e] at u1 mb
        subst b0
        simp +decide only [e206_9, e206_10, e206_13, e206_16, e206_17, e206_18, e206_19, e206_21, e206_22, e206_25, e206_27, e206_29, e206_30, e206_33, e206_34, e206_36, e206_37, e206_38, e206_40, e206_42, e206_43, e206_44, e206_47, e206_48, e206_49, e206_50, e206_51, e206_54, e206_55, e206_57, e206_58, e206_59, e206_59z, e206_60, e206_63, hbg, nI_add, m8, mb, hv, hc, bz, nI_1, (Mod_0 hs.2.1 : ob h (g + 266) 11), (rf_g (Mod_79 hs.2.1 : rf h (g + 266) 50 (g + 293)) : gR h (g + 266) 50 = (g + 293)), (rf_is (Mod_79 hs.2.1 : rf h (g + 266) 50 (g + 293)) : isR h (g + 266) 50), (Mod_80 hs.2.1 : arI h (g + 293) 0), (rdI_0 (Mod_80 hs.2.1 : arI h (g + 293) 0) : rdI h (g + 293)), (Mod_81 hs.2.1 : aln h (g + 293) = 512), (rf_g (Mod_82 hs.2.1 : rf h (g + 266) 51 (g + 294)) : gR h (g + 266) 51 = (g + 294)), (rf_is (Mod_82 hs.2.1 : rf h (g + 266) 51 (g + 294)) : isR h (g + 266) 51), (Mod_83 hs.2.1 : arI h (g + 294) 3), (rdB_3 (Mod_83 hs.2.1 : arI h (g + 294) 3) : rdB h (g + 294)), (Mod_84 hs.2.1 : aln h (g + 294) = 512), ob_pI, rf_pI, isR_pI, isI_pI, isL_pI, arI_pI, arL_pI, arR_pI, arD_pI, aln_pI, rdI_pI, rdB_pI, rdR_pI, aR_pI, pI_2, gI_pI, gL_pI, gD_pI, gR_pI, aI_pI, aL_pI, aD_pI, ob_pL, rf_pL, isR_pL, isI_pL, isL_pL, arI_pL, arL_pL, arR_pL, arD_pL, aln_pL, rdI_pL, rdB_pL, rdR_pL, aR_pL, pL_2, gI_pL, gL_pL, gD_pL, gR_pL, aI_pL, aL_pL, aD_pL, ob_wI, rf_wI, isR_wI, isI_wI, isL_wI, arI_wI, arL_wI, arR_wI, arD_wI, aln_wI, rdI_wI, rdB_wI, rdR_wI, aR_wI, wI_2, gI_wI, gL_wI, gD_wI, gR_wI, aL_wI, aD_wI, aI_wI_ne, ob_wL, rf_wL, isR_wL, isI_wL, isL_wL, arI_wL, arL_wL, arR_wL, arD_wL, aln_wL, rdI_wL, rdB_wL, rdR_wL, aR_wL, wL_2, gI_wL, gL_wL, gD_wL, gR_wL, aI_wL, aD_wL, aL_wL_ne, ob_bI, rf_bI, isR_bI, isI_bI, isL_bI, arI_bI, arL_bI, arR_bI, arD_bI, aln_bI, rdI_bI, rdB_bI, rdR_bI, aR_bI, bI_2, gI_bI, gL_bI, gD_bI, gR_bI, aL_bI, aD_bI, aI_bI_ne, ob_bL, rf_bL, isR_bL, isI_bL, isL_bL, arI_bL, arL_bL, arR_bL, arD_bL, aln_bL, rdI_bL, rdB_bL, rdR_bL, aR_bL, bL_2, gI_bL, gL_bL, gD_bL, gR_bL, aI_bL, aD_bL, aL_bL_ne, vkk_n, vkk_i, vkk_r, vkk_l, vkk_d, catS_nil, catS_i, catS_r, catS_l, catS_d, Nat.reduceAdd, Nat.reduceLeDiff, Nat.zero_le, Nat.le_refl, Option.bind_some, Option.toList_some, Option.toList_none, List.cons_append, List.nil_append, or_true, true_or, if_true, if_false, Int32.reduceLT, Int32.reduceLE, not_true, not_false_iff, true_and, and_true, false_and, and_false, Nat.add_assoc, Nat.reduceAdd, Nat.add_left_cancel_iff, Nat.reduceEqDiff, Nat.add_eq_left, Nat.left_eq_add]
        exact u1
      · have e : bP big n i = n - 1 - i := if_neg b0
        have e1 : nI n - 1 - nI i = nI (n - 1 - i) := nI_m1 (by omega)
        rw [e] at u1 mb
        simp +decide only [e206_9, e206_10, e206_13, e206_16, e206_17, e206_18, e206_19, e206_21, e206_22, e206_25, e206_27, e206_29, e206_30, e206_33, e206_34, e206_36, e206_37, e206_38, e206_40, e206_42, e206_43, e206_44, e206_47, e206_48, e206_49, e206_50, e206_51, e206_54, e206_55, e206_57, e206_58, e206_59, e206_59z, e206_60, e206_63, hbg, b0, nI_add, e1, m8, mb, hv, hc, bz, nI_1, (Mod_0 hs.2.1 : ob h (g + 266) 11), (rf_g (Mod_79 hs.2.1 : rf h (g + 266) 50 (g + 293)) : gR h (g + 266) 50 = (g + 293)), (rf_is (Mod_79 hs.2.1 : rf h (g + 266) 50 (g + 293)) : isR h (g + 266) 50), (Mod_80 hs.2.1 : arI h (g + 293) 0), (rdI_0 (Mod_80 hs.2.1 : arI h (g + 293) 0) : rdI h (g + 293)), (Mod_81 hs.2.1 : aln h (g + 293) = 512), (rf_g (Mod_82 hs.2.1 : rf h (g + 266) 51 (g + 294)) : gR h (g + 266) 51 = (g + 294)), (rf_is (Mod_82 hs.2.1 : rf h (g + 266) 51 (g + 294)) : isR h (g + 266) 51), (Mod_83 hs.2.1 : arI h (g + 294) 3), (rdB_3 (Mod_83 hs.2.1 : arI h (g + 294) 3) : rdB h (g + 294)), (Mod_84 hs.2.1 : aln h (g + 294) = 512), ob_pI, rf_pI, isR_pI, isI_pI, isL_pI, arI_pI, arL_pI, arR_pI, arD_pI, aln_pI, rdI_pI, rdB_pI, rdR_pI, aR_pI, pI_2, gI_pI, gL_pI, gD_pI, gR_pI, aI_pI, aL_pI, aD_pI, ob_pL, rf_pL, isR_pL, isI_pL, isL_pL, arI_pL, arL_pL, arR_pL, arD_pL, aln_pL, rdI_pL, rdB_pL, rdR_pL, aR_pL, pL_2, gI_pL, gL_pL, gD_pL, gR_pL, aI_pL, aL_pL, aD_pL, ob_wI, rf_wI, isR_wI, isI_wI, isL_wI, arI_wI, arL_wI, arR_wI, arD_wI, aln_wI, rdI_wI, rdB_wI, rdR_wI, aR_wI, wI_2, gI_wI, gL_wI, gD_wI, gR_wI, aL_wI, aD_wI, aI_wI_ne, ob_wL, rf_wL, isR_wL, isI_wL, isL_wL, arI_wL, arL_wL, arR_wL, arD_wL, aln_wL, rdI_wL, rdB_wL, rdR_wL, aR_wL, wL_2, gI_wL, gL_wL, gD_wL, gR_wL, aI_wL, aD_wL, aL_wL_ne, ob_bI, rf_bI, isR_bI, isI_bI, isL_bI, arI_bI, arL_bI, arR_bI, arD_bI, aln_bI, rdI_bI, rdB_bI, rdR_bI, aR_bI, bI_2, gI_bI, gL_bI, gD_bI, gR_bI, aL_bI, aD_bI, aI_bI_ne, ob_bL, rf_bL, isR_bL, isI_bL, isL_bL, arI_bL, arL_bL, arR_bL, arD_bL, aln_bL, rdI_bL, rdB_bL, rdR_bL, aR_bL, bL_2, gI_bL, gL_bL, gD_bL, gR_bL, aI_bL, aD_bL, aL_bL_ne, vkk_n, vkk_i, vkk_r, vkk_l, vkk_d, catS_nil, catS_i, catS_r, catS_l, catS_d, Nat.reduceAdd, Nat.reduceLeDiff, Nat.zero_le, Nat.le_refl, Option.bind_some, Option.toList_some, Option.toList_none, List.cons_append, List.nil_append, or_true, true_or, if_true, if_false, Int32.reduceLT, Int32.reduceLE, not_true, not_false_iff, true_and, and_true, false_and, and_false, Nat.add_assoc, Nat.reduceAdd, Nat.add_left_cancel_iff, Nat.reduceEqDiff, Nat.add_eq_left, Nat.left_eq_add]
        exact u1
    · by_cases e : o = i
      · subst e
        have a := u4 (at_ + o) (by omega)
        rw [a.1, a.2, c1, c2, if_pos rfl, if_pos rfl]
        exact ⟨rfl, rfl⟩
      · exact u3 o (by omega) o2
    · have a := u4 j (by omega)
      rw [a.1, a.2, c1, c2, if_neg (by omega), if_neg (by omega)]
      exact ⟨rfl, rfl⟩
theorem c_putsOut (h : VG) (g at_ n : Nat) (v : Int64) (hs : Sh h g) (hn : n ≤ 8) (had : at_ + n ≤ 512) : ∃ h1, ev 206 0 [some (.ref (g + 266)), some (.int (nI at_)), some (.int (nI n)), some (.long v), none, none, none] [] h = some (none, h1) ∧ Fr (fun x => x = g + 293 ∨ x = g + 294) NF h h1 ∧ ∀ j, (aI h1 (g + 293) j = if at_ ≤ j ∧ j < at_ + n then nI (wB v (bP (gI h (g + 266) 17) n (j - at_))) else aI h (g + 293) j) ∧ (aI h1 (g + 294) j = if at_ ≤ j ∧ j < at_ + n then 1 else aI h (g + 294) j) := by
  obtain ⟨h1, u1, u2, u3, u4⟩ := l_putsOut g at_ n v hn had n 0 h none (by omega) hs
  have t1 : ev 206 3 [some (.ref (g + 266)), some (.int (nI at_)), some (.int (nI n)), some (.long v), none, some (.int 0), none] [] h = some (none, h1) := u1
  refine ⟨h1, ?_, u2, fun j => ?_⟩
  · simp +decide only [e206_0, e206_1, vkk_n, vkk_i, vkk_r, vkk_l, vkk_d, catS_nil, catS_i, catS_r, catS_l, catS_d, Nat.reduceAdd, Nat.reduceLeDiff, Nat.zero_le, Nat.le_refl, Option.bind_some, Option.toList_some, Option.toList_none, List.cons_append, List.nil_append, or_true, true_or, if_true, if_false, Int32.reduceLT, Int32.reduceLE, not_true, not_false_iff, true_and, and_true, false_and, and_false]
    exact t1
  · by_cases z : at_ ≤ j ∧ j < at_ + n
    · rw [if_pos z, if_pos z]
      have := u3 (j - at_) (Nat.zero_le _) (by omega)
      rw [show at_ + (j - at_) = j by omega] at this
      exact this
    · rw [if_neg z, if_neg z]
      exact u4 j (by omega)
theorem l_clears (g : Nat) : ∀ (d i : Nat) (h : VG), i + d = 512 → Sh h g → ∃ h1, ev 205 2 [some (.ref (g + 266)), some (.int (nI i))] [] h = some (none, h1) ∧ Fr (fun x => x = g + 293 ∨ x = g + 294) NF h h1 ∧ ∀ j, i ≤ j → j < 512 → aI h1 (g + 293) j = 0 ∧ aI h1 (g + 294) j = 0 := by
  have main : ∀ (d i : Nat) (h : VG), i + d = 512 → Sh h g → ∃ h1, ev 205 2 [some (.ref (g + 266)), some (.int (nI i))] [] h = some (none, h1) ∧ Fr (fun x => x = g + 293 ∨ x = g + 294) NF h h1 ∧ (∀ j, i ≤ j → j < 512 → aI h1 (g + 293) j = 0 ∧ aI h1 (g + 294) j = 0) ∧ ∀ j, j < i → aI h1 (g + 293) j = aI h (g + 293) j ∧ aI h1 (g + 294) j = aI h (g + 294) j := by
    intro d
    induction d with
    | zero =>
      intro i h hi hs
      obtain rfl : i = 512 := by omega
      have q : ¬ (512 : Int32) < 512 := by decide
      refine ⟨h, ?_, Fr.rfl _, fun j h1 h2 => by omega, fun j _ => ⟨rfl, rfl⟩⟩
      rw [show nI 512 = (512 : Int32) from rfl]
      simp +decide only [e205_2, e205_3, e205_6, e205_29, q, vkk_n, vkk_i, vkk_r, vkk_l, vkk_d, catS_nil, catS_i, catS_r, catS_l, catS_d, Nat.reduceAdd, Nat.reduceLeDiff, Nat.zero_le, Nat.le_refl, Option.bind_some, Option.toList_some, Option.toList_none, List.cons_append, List.nil_append, or_true, true_or, if_true, if_false, Int32.reduceLT, Int32.reduceLE, not_true, not_false_iff, true_and, and_true, false_and, and_false]
    | succ d ih =>
      intro i h hi hs
      have q : nI i < 512 := nI_lt (b := 512) (by omega) (by decide)
      have hv : vp_in (nI i) 512 := vp_in_nI (by omega) (by decide)
      have hc : (nI i).toNatClampNeg = i := nI_clamp (by omega)
      have bz : vp_nar .boolean 0 = 0 := by decide
      have t0 : arI h (g + 293) 0 := Mod_80 hs.2.1
      have t1 : arI h (g + 294) 3 := Mod_83 hs.2.1
      have x1 : Fr (fun x => x = g + 293 ∨ x = g + 294) NF h (wI (wI h (g + 293) i 0) (g + 294) i 0) := (Fr_wI _ _ _ _ (Or.inl rfl)).tr (Fr_wI _ _ _ _ (Or.inr rfl))
      have c1 : ∀ j, aI (wI (wI h (g + 293) i 0) (g + 294) i 0) (g + 293) j = if j = i then 0 else aI h (g + 293) j := by
        intro j
        rw [aI_wI_ne _ _ _ _ _ _ (by omega), aI_wI0 _ _ _ _ _ _ t0]
        simp only [true_and]
      have c2 : ∀ j, aI (wI (wI h (g + 293) i 0) (g + 294) i 0) (g + 294) j = if j = i then 0 else aI h (g + 294) j := by
        intro j
        rw [aI_wI3 _ _ _ _ _ _ ((arI_wI ..).mpr t1), aI_wI_ne _ _ _ _ _ _ (by omega)]
        simp only [true_and]
      obtain ⟨h1, u1, u2, u3, u4⟩ := ih (i + 1) _ (by omega) (Sh_fr x1 (fun a z => by omega) hs)
      refine ⟨h1, ?_, x1.tr u2, fun j j1 j2 => ?_, fun j hj => ?_⟩
      · simp +decide only [e205_2, e205_3, e205_6, q, if_true]
        simp +decide only [e205_9, e205_10, e205_13, e205_14, e205_15, e205_16, e205_17, e205_20, e205_21, e205_22, e205_22z, e205_23, e205_26, hv, hc, bz, nI_1, (Mod_0 hs.2.1 : ob h (g + 266) 11), (rf_g (Mod_79 hs.2.1 : rf h (g + 266) 50 (g + 293)) : gR h (g + 266) 50 = (g + 293)), (rf_is (Mod_79 hs.2.1 : rf h (g + 266) 50 (g + 293)) : isR h (g + 266) 50), (Mod_80 hs.2.1 : arI h (g + 293) 0), (rdI_0 (Mod_80 hs.2.1 : arI h (g + 293) 0) : rdI h (g + 293)), (Mod_81 hs.2.1 : aln h (g + 293) = 512), (rf_g (Mod_82 hs.2.1 : rf h (g + 266) 51 (g + 294)) : gR h (g + 266) 51 = (g + 294)), (rf_is (Mod_82 hs.2.1 : rf h (g + 266) 51 (g + 294)) : isR h (g + 266) 51), (Mod_83 hs.2.1 : arI h (g + 294) 3), (rdB_3 (Mod_83 hs.2.1 : arI h (g + 294) 3) : rdB h (g + 294)), (Mod_84 hs.2.1 : aln h (g + 294) = 512), ob_pI, rf_pI, isR_pI, isI_pI, isL_pI, arI_pI, arL_pI, arR_pI, arD_pI, aln_pI, rdI_pI, rdB_pI, rdR_pI, aR_pI, pI_2, gI_pI, gL_pI, gD_pI, gR_pI, aI_pI, aL_pI, aD_pI, ob_pL, rf_pL, isR_pL, isI_pL, isL_pL, arI_pL, arL_pL, arR_pL, arD_pL, aln_pL, rdI_pL, rdB_pL, rdR_pL, aR_pL, pL_2, gI_pL, gL_pL, gD_pL, gR_pL, aI_pL, aL_pL, aD_pL, ob_wI, rf_wI, isR_wI, isI_wI, isL_wI, arI_wI, arL_wI, arR_wI, arD_wI, aln_wI, rdI_wI, rdB_wI, rdR_wI, aR_wI, wI_2, gI_wI, gL_wI, gD_wI, gR_wI, aL_wI, aD_wI, aI_wI_ne, ob_wL, rf_wL, isR_wL, isI_wL, isL_wL, arI_wL, arL_wL, arR_wL, arD_wL, aln_wL, rdI_wL, rdB_wL, rdR_wL, aR_wL, wL_2, gI_wL, gL_wL, gD_wL, gR_wL, aI_wL, aD_wL, aL_wL_ne, ob_bI, rf_bI, isR_bI, isI_bI, isL_bI, arI_bI, arL_bI, arR_bI, arD_bI, aln_bI, rdI_bI, rdB_bI, rdR_bI, aR_bI, bI_2, gI_bI, gL_bI, gD_bI, gR_bI, aL_bI, aD_bI, aI_bI_ne, ob_bL, rf_bL, isR_bL, isI_bL, isL_bL, arI_bL, arL_bL, arR_bL, arD_bL, aln_bL, rdI_bL, rdB_bL, rdR_bL, aR_bL, bL_2, gI_bL, gL_bL, gD_bL, gR_bL, aI_bL, aD_bL, aL_bL_ne, vkk_n, vkk_i, vkk_r, vkk_l, vkk_d, catS_nil, catS_i, catS_r, catS_l, catS_d, Nat.reduceAdd, Nat.reduceLeDiff, Nat.zero_le, Nat.le_refl, Option.bind_some, Option.toList_some, Option.toList_none, List.cons_append, List.nil_append, or_true, true_or, if_true, if_false, Int32.reduceLT, Int32.reduceLE, not_true, not_false_iff, true_and, and_true, false_and, and_false, Nat.add_assoc, Nat.reduceAdd, Nat.add_left_cancel_iff, Nat.reduceEqDiff, Nat.add_eq_left, Nat.left_eq_add]
        exact u1
      · by_cases e : j = i
        · subst e
          have a := u4 j (by omega)
          rw [a.1, a.2, c1, c2, if_pos rfl, if_pos rfl]
          exact ⟨rfl, rfl⟩
        · exact u3 j (by omega) j2
      · have a := u4 j (by omega)
        rw [a.1, a.2, c1, c2, if_neg (by omega), if_neg (by omega)]
        exact ⟨rfl, rfl⟩
  intro d i h hi hs
  obtain ⟨h1, a1, a2, a3, -⟩ := main d i h hi hs
  exact ⟨h1, a1, a2, a3⟩
theorem c_clears (h : VG) (g : Nat) (hs : Sh h g) : ∃ h1, ev 205 0 [some (.ref (g + 266)), none] [] h = some (none, h1) ∧ Fr (fun x => x = g + 293 ∨ x = g + 294) NF h h1 ∧ ∀ j, j < 512 → aI h1 (g + 293) j = 0 ∧ aI h1 (g + 294) j = 0 := by
  obtain ⟨h1, u1, u2, u3⟩ := l_clears g 512 0 h rfl hs
  have t1 : ev 205 2 [some (.ref (g + 266)), some (.int 0)] [] h = some (none, h1) := u1
  refine ⟨h1, ?_, u2, fun j hj => u3 j (Nat.zero_le _) hj⟩
  simp +decide only [e205_0, e205_1, vkk_n, vkk_i, vkk_r, vkk_l, vkk_d, catS_nil, catS_i, catS_r, catS_l, catS_d, Nat.reduceAdd, Nat.reduceLeDiff, Nat.zero_le, Nat.le_refl, Option.bind_some, Option.toList_some, Option.toList_none, List.cons_append, List.nil_append, or_true, true_or, if_true, if_false, Int32.reduceLT, Int32.reduceLE, not_true, not_false_iff, true_and, and_true, false_and, and_false]
  exact t1
theorem l_laysDown (g ad n : Nat) (hn : n ≤ 512) (had : ad + n ≤ 256) : ∀ (d i : Nat) (h : VG), i + d = n → Sh h g → ∃ h1, ev 207 2 [some (.ref (g + 266)), some (.int (nI ad)), some (.int (nI n)), some (.int (nI i))] [] h = some (none, h1) ∧ Fr (fun x => x = g + 277) NF h h1 ∧ (∀ o, i ≤ o → o < n → aI h1 (g + 277) (ad + o) = if aI h (g + 294) o = 0 then aI h (g + 277) (ad + o) else aI h (g + 293) o) ∧ ∀ j, ¬ (ad + i ≤ j ∧ j < ad + n) → aI h1 (g + 277) j = aI h (g + 277) j := by
  intro d
  induction d with
  | zero =>
    intro i h hi hs
    obtain rfl : i = n := by omega
    have q : ¬ nI i < nI i := nI_nlt (Nat.le_refl _) (by omega)
    refine ⟨h, ?_, Fr.rfl _, fun o h1 h2 => by omega, fun j _ => rfl⟩
    simp +decide only [e207_2, e207_3, e207_4, e207_36, q, vkk_n, vkk_i, vkk_r, vkk_l, vkk_d, catS_nil, catS_i, catS_r, catS_l, catS_d, Nat.reduceAdd, Nat.reduceLeDiff, Nat.zero_le, Nat.le_refl, Option.bind_some, Option.toList_some, Option.toList_none, List.cons_append, List.nil_append, or_true, true_or, if_true, if_false, Int32.reduceLT, Int32.reduceLE, not_true, not_false_iff, true_and, and_true, false_and, and_false]
  | succ d ih =>
    intro i h hi hs
    have q : nI i < nI n := nI_lt (by omega) (by omega)
    have hv : vp_in (nI (ad + i)) 256 := vp_in_nI (by omega) (by decide)
    have hc : (nI (ad + i)).toNatClampNeg = ad + i := nI_clamp (by omega)
    have hv2 : vp_in (nI i) 512 := vp_in_nI (by omega) (by decide)
    have hc2 : (nI i).toNatClampNeg = i := nI_clamp (by omega)
    by_cases z : aI h (g + 294) i = 0
    · obtain ⟨h1, u1, u2, u3, u4⟩ := ih (i + 1) h (by omega) hs
      refine ⟨h1, ?_, u2, fun o o1 o2 => ?_, fun j hj => u4 j (by omega)⟩
      · simp +decide only [e207_2, e207_3, e207_4, q, if_true]
        simp +decide only [e207_7, e207_8, e207_11, e207_12, e207_13, e207_16, e207_17, e207_20, e207_21, e207_22, e207_23, e207_24, e207_27, e207_28, e207_29, e207_30, e207_33, hv2, hc2, z, nI_1, (Mod_0 hs.2.1 : ob h (g + 266) 11), (rf_g (Mod_31 hs.2.1 : rf h (g + 266) 23 (g + 277)) : gR h (g + 266) 23 = (g + 277)), (rf_is (Mod_31 hs.2.1 : rf h (g + 266) 23 (g + 277)) : isR h (g + 266) 23), (Mod_32 hs.2.1 : arI h (g + 277) 0), (rdI_0 (Mod_32 hs.2.1 : arI h (g + 277) 0) : rdI h (g + 277)), (Mod_33 hs.2.1 : aln h (g + 277) = 256), (rf_g (Mod_79 hs.2.1 : rf h (g + 266) 50 (g + 293)) : gR h (g + 266) 50 = (g + 293)), (rf_is (Mod_79 hs.2.1 : rf h (g + 266) 50 (g + 293)) : isR h (g + 266) 50), (Mod_80 hs.2.1 : arI h (g + 293) 0), (rdI_0 (Mod_80 hs.2.1 : arI h (g + 293) 0) : rdI h (g + 293)), (Mod_81 hs.2.1 : aln h (g + 293) = 512), (rf_g (Mod_82 hs.2.1 : rf h (g + 266) 51 (g + 294)) : gR h (g + 266) 51 = (g + 294)), (rf_is (Mod_82 hs.2.1 : rf h (g + 266) 51 (g + 294)) : isR h (g + 266) 51), (Mod_83 hs.2.1 : arI h (g + 294) 3), (rdB_3 (Mod_83 hs.2.1 : arI h (g + 294) 3) : rdB h (g + 294)), (Mod_84 hs.2.1 : aln h (g + 294) = 512), vkk_n, vkk_i, vkk_r, vkk_l, vkk_d, catS_nil, catS_i, catS_r, catS_l, catS_d, Nat.reduceAdd, Nat.reduceLeDiff, Nat.zero_le, Nat.le_refl, Option.bind_some, Option.toList_some, Option.toList_none, List.cons_append, List.nil_append, or_true, true_or, if_true, if_false, Int32.reduceLT, Int32.reduceLE, not_true, not_false_iff, true_and, and_true, false_and, and_false, Nat.add_assoc, Nat.reduceAdd, Nat.add_left_cancel_iff, Nat.reduceEqDiff, Nat.add_eq_left, Nat.left_eq_add]
        exact u1
      · by_cases e : o = i
        · subst e
          rw [if_pos z]
          exact u4 _ (by omega)
        · exact u3 o (by omega) o2
    · have x1 : Fr (fun x => x = g + 277) NF h (wI h (g + 277) (ad + i) (aI h (g + 293) i)) := Fr_wI _ _ _ _ rfl
      have c1 : ∀ j, aI (wI h (g + 277) (ad + i) (aI h (g + 293) i)) (g + 277) j = if j = ad + i then aI h (g + 293) i else aI h (g + 277) j := by
        intro j
        rw [aI_wI0 _ _ _ _ _ _ (Mod_32 hs.2.1)]
        simp only [true_and]
      obtain ⟨h1, u1, u2, u3, u4⟩ := ih (i + 1) _ (by omega) (Sh_fr x1 (fun a z => by omega) hs)
      refine ⟨h1, ?_, x1.tr u2, fun o o1 o2 => ?_, fun j hj => ?_⟩
      · simp +decide only [e207_2, e207_3, e207_4, q, if_true]
        simp +decide only [e207_7, e207_8, e207_11, e207_12, e207_13, e207_16, e207_17, e207_20, e207_21, e207_22, e207_23, e207_24, e207_27, e207_28, e207_29, e207_30, e207_33, hv, hc, hv2, hc2, z, nI_add, nI_1, (Mod_0 hs.2.1 : ob h (g + 266) 11), (rf_g (Mod_31 hs.2.1 : rf h (g + 266) 23 (g + 277)) : gR h (g + 266) 23 = (g + 277)), (rf_is (Mod_31 hs.2.1 : rf h (g + 266) 23 (g + 277)) : isR h (g + 266) 23), (Mod_32 hs.2.1 : arI h (g + 277) 0), (rdI_0 (Mod_32 hs.2.1 : arI h (g + 277) 0) : rdI h (g + 277)), (Mod_33 hs.2.1 : aln h (g + 277) = 256), (rf_g (Mod_79 hs.2.1 : rf h (g + 266) 50 (g + 293)) : gR h (g + 266) 50 = (g + 293)), (rf_is (Mod_79 hs.2.1 : rf h (g + 266) 50 (g + 293)) : isR h (g + 266) 50), (Mod_80 hs.2.1 : arI h (g + 293) 0), (rdI_0 (Mod_80 hs.2.1 : arI h (g + 293) 0) : rdI h (g + 293)), (Mod_81 hs.2.1 : aln h (g + 293) = 512), (rf_g (Mod_82 hs.2.1 : rf h (g + 266) 51 (g + 294)) : gR h (g + 266) 51 = (g + 294)), (rf_is (Mod_82 hs.2.1 : rf h (g + 266) 51 (g + 294)) : isR h (g + 266) 51), (Mod_83 hs.2.1 : arI h (g + 294) 3), (rdB_3 (Mod_83 hs.2.1 : arI h (g + 294) 3) : rdB h (g + 294)), (Mod_84 hs.2.1 : aln h (g + 294) = 512), ob_pI, rf_pI, isR_pI, isI_pI, isL_pI, arI_pI, arL_pI, arR_pI, arD_pI, aln_pI, rdI_pI, rdB_pI, rdR_pI, aR_pI, pI_2, gI_pI, gL_pI, gD_pI, gR_pI, aI_pI, aL_pI, aD_pI, ob_pL, rf_pL, isR_pL, isI_pL, isL_pL, arI_pL, arL_pL, arR_pL, arD_pL, aln_pL, rdI_pL, rdB_pL, rdR_pL, aR_pL, pL_2, gI_pL, gL_pL, gD_pL, gR_pL, aI_pL, aL_pL, aD_pL, ob_wI, rf_wI, isR_wI, isI_wI, isL_wI, arI_wI, arL_wI, arR_wI, arD_wI, aln_wI, rdI_wI, rdB_wI, rdR_wI, aR_wI, wI_2, gI_wI, gL_wI, gD_wI, gR_wI, aL_wI, aD_wI, aI_wI_ne, ob_wL, rf_wL, isR_wL, isI_wL, isL_wL, arI_wL, arL_wL, arR_wL, arD_wL, aln_wL, rdI_wL, rdB_wL, rdR_wL, aR_wL, wL_2, gI_wL, gL_wL, gD_wL, gR_wL, aI_wL, aD_wL, aL_wL_ne, ob_bI, rf_bI, isR_bI, isI_bI, isL_bI, arI_bI, arL_bI, arR_bI, arD_bI, aln_bI, rdI_bI, rdB_bI, rdR_bI, aR_bI, bI_2, gI_bI, gL_bI, gD_bI, gR_bI, aL_bI, aD_bI, aI_bI_ne, ob_bL, rf_bL, isR_bL, isI_bL, isL_bL, arI_bL, arL_bL, arR_bL, arD_bL, aln_bL, rdI_bL, rdB_bL, rdR_bL, aR_bL, bL_2, gI_bL, gL_bL, gD_bL, gR_bL, aI_bL, aD_bL, aL_bL_ne, vkk_n, vkk_i, vkk_r, vkk_l, vkk_d, catS_nil, catS_i, catS_r, catS_l, catS_d, Nat.reduceAdd, Nat.reduceLeDiff, Nat.zero_le, Nat.le_refl, Option.bind_some, Option.toList_some, Option.toList_none, List.cons_append, List.nil_append, or_true, true_or, if_true, if_false, Int32.reduceLT, Int32.reduceLE, not_true, not_false_iff, true_and, and_true, false_and, and_false, Nat.add_assoc, Nat.reduceAdd, Nat.add_left_cancel_iff, Nat.reduceEqDiff, Nat.add_eq_left, Nat.left_eq_add]
        exact u1
      · by_cases e : o = i
        · subst e
          rw [if_neg z, u4 _ (by omega), c1, if_pos rfl]
        · have := u3 o (by omega) o2
          have e9 : aI (wI h (g + 277) (ad + i) (aI h (g + 293) i)) (g + 277) (ad + o) = aI h (g + 277) (ad + o) := by rw [c1, if_neg (by omega)]
          rw [x1.I (a := g + 294) (fun z => by omega), x1.I (a := g + 293) (fun z => by omega), e9] at this
          exact this
      · rw [u4 j (by omega), c1, if_neg (by omega)]
theorem c_laysDown (h : VG) (g ad n : Nat) (hs : Sh h g) (hn : n ≤ 512) (had : ad + n ≤ 256) : ∃ h1, ev 207 0 [some (.ref (g + 266)), some (.int (nI ad)), some (.int (nI n)), none] [] h = some (none, h1) ∧ Fr (fun x => x = g + 277) NF h h1 ∧ ∀ j, aI h1 (g + 277) j = if ad ≤ j ∧ j < ad + n ∧ ¬ aI h (g + 294) (j - ad) = 0 then aI h (g + 293) (j - ad) else aI h (g + 277) j := by
  obtain ⟨h1, u1, u2, u3, u4⟩ := l_laysDown g ad n hn had n 0 h (by omega) hs
  have t1 : ev 207 2 [some (.ref (g + 266)), some (.int (nI ad)), some (.int (nI n)), some (.int 0)] [] h = some (none, h1) := u1
  refine ⟨h1, ?_, u2, fun j => ?_⟩
  · simp +decide only [e207_0, e207_1, vkk_n, vkk_i, vkk_r, vkk_l, vkk_d, catS_nil, catS_i, catS_r, catS_l, catS_d, Nat.reduceAdd, Nat.reduceLeDiff, Nat.zero_le, Nat.le_refl, Option.bind_some, Option.toList_some, Option.toList_none, List.cons_append, List.nil_append, or_true, true_or, if_true, if_false, Int32.reduceLT, Int32.reduceLE, not_true, not_false_iff, true_and, and_true, false_and, and_false]
    exact t1
  · by_cases z : ad ≤ j ∧ j < ad + n
    · have := u3 (j - ad) (Nat.zero_le _) (by omega)
      rw [show ad + (j - ad) = j by omega] at this
      rw [this]
      by_cases y : aI h (g + 294) (j - ad) = 0
      · rw [if_pos y, if_neg (fun q => q.2.2 y)]
      · rw [if_neg y, if_pos ⟨z.1, z.2, y⟩]
    · rw [if_neg (fun q => z ⟨q.1, q.2.1⟩)]
      exact u4 j (by omega)
