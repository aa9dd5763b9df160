/-! cells read and written, by the model and by the class -/
theorem rea_ok {s n k : Nat} {i : Int32} (hs : s < 12) (hn : n ≤ 40) (h : reaRef (nI s) (nI n) i (nI k) = 0) : s < 8 ∧ (∃ j, j < n ∧ i = nI j) ∧ ¬ kWid (nI s) (nI k) = 0 := by
  unfold reaRef at h
  by_cases q : numRef (nI s) (nI n) i = 0
  · rw [if_pos q] at h
    have := num_ok hs (by omega) q
    refine ⟨this.1, this.2, fun z => ?_⟩
    rw [if_pos z] at h
    exact absurd h (by decide)
  · rw [if_neg q] at h
    exact absurd h q
theorem wri_ok {s n k : Nat} {i : Int32} (hs : s < 12) (hn : n ≤ 40) (h : wriRef (nI s) (nI n) i (nI k) = 0) : s < 8 ∧ (∃ j, j < n ∧ i = nI j) ∧ ¬ kWid (nI k) (nI s) = 0 := by
  unfold wriRef at h
  by_cases q : numRef (nI s) (nI n) i = 0
  · rw [if_pos q] at h
    have := num_ok hs (by omega) q
    refine ⟨this.1, this.2, fun z => ?_⟩
    rw [if_pos z] at h
    exact absurd h (by decide)
  · rw [if_neg q] at h
    exact absurd h q
theorem row_0 {s : Nat} (h : s < 10) : rowRef (nI s) = 0 := by
  have b11 : ¬ nI s = 11 := fun z => by have := (nI_eq (b := 11) (by omega) (by decide)).mp z; omega
  have b10 : ¬ nI s = 10 := fun z => by have := (nI_eq (b := 10) (by omega) (by decide)).mp z; omega
  unfold rowRef
  rw [if_neg b11, if_neg b10]
theorem plc_0 {n i : Nat} (hi : i < n) (hn : n ≤ 40) : plcRef (nI n) (nI i) = 0 := by
  unfold plcRef
  rw [if_neg (nI_pos (by omega)), if_pos (nI_lt hi (by omega))]
theorem num_0 {s n i : Nat} (h : s < 8) (hi : i < n) (hn : n ≤ 40) : numRef (nI s) (nI n) (nI i) = 0 := by
  have b8 : ¬ nI s = 8 := fun z => by have := (nI_eq (b := 8) (by omega) (by decide)).mp z; omega
  have b9 : ¬ nI s = 9 := fun z => by have := (nI_eq (b := 9) (by omega) (by decide)).mp z; omega
  unfold numRef celRef
  rw [if_neg b8, if_neg b9, row_0 (by omega), if_pos rfl, plc_0 hi hn]
theorem num_le {s n i : Int32} (h : ¬ numRef s n i = 0) : ¬ numRef s n i ≤ 0 := by
  rcases num_b s n i with z | z | z | z
  · exact absurd z h
  all_goals rw [z]; decide
theorem c_m_reads_no (h : VG) (g b s n k : Nat) (i : Int32) (hs : Sh h g) (hb : b < 8) (es : aI h (g + 285) b = nI s) (en : aI h (g + 286) b = nI n) (hs' : s < 12) (hn : n ≤ 40) (hk : k < 8) (hq : ¬ reaRef (nI s) (nI n) i (nI k) = 0) : ev 188 0 [some (.ref (g + 266)), some (.int (nI b)), some (.int i), some (.int (nI k)), none] [] h = some (some (.int (reaRef (nI s) (nI n) i (nI k))), h) := by
  have hi : vp_in (nI b) 8 := vp_in_nI hb (by decide)
  have hc : (nI b).toNatClampNeg = b := nI_clamp (by omega)
  have w1 := c_m_whyNot h g b s n i hs hb es en hs' hn
  have w2 := c_m_wid h hs' (show k < 12 by omega)
  unfold reaRef at hq ⊢
  by_cases q : numRef (nI s) (nI n) i = 0
  · rw [if_pos q] at hq ⊢
    by_cases q2 : kWid (nI s) (nI k) = 0
    · rw [if_pos q2]
      simp +decide only [e188_0, e188_1, e188_2, e188_3, e188_6, e188_8, e188_10, e188_13, e188_15, e188_16, e188_17, e188_20, e188_21, e188_22, e188_23, e188_26, e188_29, e188_30, e188_31, e188_32, e188_34, e188_35, e188_36, e188_37, e188_38, e188_41, e188_42, e188_43, e188_46, e188_47, hi, hc, es, w1, w2, q, q2, (Mod_0 hs.2.1 : ob h (g + 266) 11), (rf_g (Mod_55 hs.2.1 : rf h (g + 266) 42 (g + 285)) : gR h (g + 266) 42 = (g + 285)), (rf_is (Mod_55 hs.2.1 : rf h (g + 266) 42 (g + 285)) : isR h (g + 266) 42), (Mod_56 hs.2.1 : arI h (g + 285) 0), (rdI_0 (Mod_56 hs.2.1 : arI h (g + 285) 0) : rdI h (g + 285)), (Mod_57 hs.2.1 : aln h (g + 285) = 8), Nat.add_assoc, Nat.reduceAdd, Nat.add_left_cancel_iff, Nat.reduceEqDiff, Nat.add_eq_left, Nat.left_eq_add, vkk_n, vkk_i, vkk_r, vkk_l, vkk_d, catS_nil, catS_i, catS_r, catS_l, catS_d, Nat.reduceAdd, Nat.reduceLeDiff, Nat.zero_le, Nat.le_refl, Option.bind_some, Option.toList_some, Option.toList_none, List.cons_append, List.nil_append, or_true, true_or, if_true, if_false, Int32.reduceLT, Int32.reduceLE, not_true, not_false_iff, true_and, and_true, false_and, and_false]
    · rw [if_neg q2] at hq
      exact absurd rfl hq
  · rw [if_neg q]
    have q3 := num_le q
    simp +decide only [e188_0, e188_1, e188_2, e188_3, e188_6, e188_8, e188_10, e188_13, e188_15, e188_16, e188_17, e188_20, e188_21, e188_22, e188_23, e188_26, e188_29, e188_30, e188_31, e188_32, e188_34, e188_35, e188_36, e188_37, e188_38, e188_41, e188_42, e188_43, e188_46, e188_47, hi, hc, es, w1, q3, (Mod_0 hs.2.1 : ob h (g + 266) 11), (rf_g (Mod_55 hs.2.1 : rf h (g + 266) 42 (g + 285)) : gR h (g + 266) 42 = (g + 285)), (rf_is (Mod_55 hs.2.1 : rf h (g + 266) 42 (g + 285)) : isR h (g + 266) 42), (Mod_56 hs.2.1 : arI h (g + 285) 0), (rdI_0 (Mod_56 hs.2.1 : arI h (g + 285) 0) : rdI h (g + 285)), (Mod_57 hs.2.1 : aln h (g + 285) = 8), Nat.add_assoc, Nat.reduceAdd, Nat.add_left_cancel_iff, Nat.reduceEqDiff, Nat.add_eq_left, Nat.left_eq_add, vkk_n, vkk_i, vkk_r, vkk_l, vkk_d, catS_nil, catS_i, catS_r, catS_l, catS_d, Nat.reduceAdd, Nat.reduceLeDiff, Nat.zero_le, Nat.le_refl, Option.bind_some, Option.toList_some, Option.toList_none, List.cons_append, List.nil_append, or_true, true_or, if_true, if_false, Int32.reduceLT, Int32.reduceLE, not_true, not_false_iff, true_and, and_true, false_and, and_false]
theorem c_m_reads_ok (h : VG) (g b s n k i : Nat) (x : Int64) (hs : Sh h g) (hb : b < 8) (es : aI h (g + 285) b = nI s) (en : aI h (g + 286) b = nI n) (hs' : s < 12) (hn : n ≤ 40) (h8 : s < 8) (hk : k < 8) (hi : i < n) (hw : ¬ kWid (nI s) (nI k) = 0) (ck : aI h (g + 287) (40 * b + i) = nI s) (hr : RNm (nI s) x (aL h (g + 288) (40 * b + i)) (aD h (g + 289) (40 * b + i))) : ∃ h1, ev 188 0 [some (.ref (g + 266)), some (.int (nI b)), some (.int (nI i)), some (.int (nI k)), none] [] h = some (some (.int 0), h1) ∧ Fr NR (VF (g + 266)) h h1 ∧ Car h1 (g + 266) (nI k) 0 (kWdn x (nI s) (nI k)) := by
  have hib : vp_in (nI b) 8 := vp_in_nI hb (by decide)
  have hc : (nI b).toNatClampNeg = b := nI_clamp (by omega)
  have w1 := c_m_whyNot h g b s n (nI i) hs hb es en hs' hn
  have w2 := c_m_wid h hs' (show k < 12 by omega)
  have w3 : numRef (nI s) (nI n) (nI i) = 0 := num_0 h8 hi hn
  obtain ⟨h1, t1, t2, t3⟩ := c_m_takes h g (40 * b + i) x hs (by omega) (by rw [ck]; exact hr)
  have o1 : ob h1 (g + 266) 11 := (ob_kp t2.1 ..).mpr (Mod_0 hs.2.1)
  rw [ck] at t3
  obtain ⟨h2, u1, u2, u3⟩ := c_m_becomes h1 (g + 266) s k 0 x o1 h8 hk hw t3
  refine ⟨h2, ?_, t2.tr u2, u3⟩
  simp +decide only [e188_0, e188_1, e188_2, e188_3, e188_6, e188_8, e188_10, e188_13, e188_15, e188_16, e188_17, e188_20, e188_21, e188_22, e188_23, e188_26, e188_29, e188_30, e188_31, e188_32, e188_34, e188_35, e188_36, e188_37, e188_38, e188_41, e188_42, e188_43, e188_46, e188_47, hib, hc, es, w1, w2, w3, hw, nI_40, t1, o1, u1, (Mod_0 hs.2.1 : ob h (g + 266) 11), (rf_g (Mod_55 hs.2.1 : rf h (g + 266) 42 (g + 285)) : gR h (g + 266) 42 = (g + 285)), (rf_is (Mod_55 hs.2.1 : rf h (g + 266) 42 (g + 285)) : isR h (g + 266) 42), (Mod_56 hs.2.1 : arI h (g + 285) 0), (rdI_0 (Mod_56 hs.2.1 : arI h (g + 285) 0) : rdI h (g + 285)), (Mod_57 hs.2.1 : aln h (g + 285) = 8), Nat.add_assoc, Nat.reduceAdd, Nat.add_left_cancel_iff, Nat.reduceEqDiff, Nat.add_eq_left, Nat.left_eq_add, vkk_n, vkk_i, vkk_r, vkk_l, vkk_d, catS_nil, catS_i, catS_r, catS_l, catS_d, Nat.reduceAdd, Nat.reduceLeDiff, Nat.zero_le, Nat.le_refl, Option.bind_some, Option.toList_some, Option.toList_none, List.cons_append, List.nil_append, or_true, true_or, if_true, if_false, Int32.reduceLT, Int32.reduceLE, not_true, not_false_iff, true_and, and_true, false_and, and_false]
theorem c_m_writes_nan (h : VG) (g : Nat) (b i : Int32) (hs : Sh h g) (hz : gI h (g + 266) 41 = 1) : ev 189 0 [some (.ref (g + 266)), some (.int b), some (.int i), none] [] h = some (some (.int 4), h) := by
  simp +decide only [e189_0, e189_1, e189_4, e189_7, e189_8, e189_11, e189_12, e189_13, e189_14, e189_17, e189_18, e189_19, e189_22, e189_23, e189_24, e189_25, e189_28, e189_29, e189_32, e189_33, e189_34, e189_37, e189_40, e189_41, e189_42, e189_43, e189_44, e189_47, e189_48, e189_49, e189_52, e189_53, e189_55, e189_56, e189_57, e189_58, e189_59, e189_62, e189_63, hz, (Mod_0 hs.2.1 : ob h (g + 266) 11), vkk_n, vkk_i, vkk_r, vkk_l, vkk_d, catS_nil, catS_i, catS_r, catS_l, catS_d, Nat.reduceAdd, Nat.reduceLeDiff, Nat.zero_le, Nat.le_refl, Option.bind_some, Option.toList_some, Option.toList_none, List.cons_append, List.nil_append, or_true, true_or, if_true, if_false, Int32.reduceLT, Int32.reduceLE, not_true, not_false_iff, true_and, and_true, false_and, and_false]
theorem c_m_writes_no (h : VG) (g b s n f : Nat) (i : Int32) (hs : Sh h g) (hb : b < 8) (es : aI h (g + 285) b = nI s) (en : aI h (g + 286) b = nI n) (hs' : s < 12) (hn : n ≤ 40) (hf : f < 12) (hz : gI h (g + 266) 41 = 0) (hv : gI h (g + 266) 38 = nI f) (hq : ¬ wriRef (nI s) (nI n) i (nI f) = 0) : ev 189 0 [some (.ref (g + 266)), some (.int (nI b)), some (.int i), none] [] h = some (some (.int (wriRef (nI s) (nI n) i (nI f))), h) := by
  have hi : vp_in (nI b) 8 := vp_in_nI hb (by decide)
  have hc : (nI b).toNatClampNeg = b := nI_clamp (by omega)
  have w1 := c_m_whyNot h g b s n i hs hb es en hs' hn
  have w2 := c_m_wid h hf hs'
  unfold wriRef at hq ⊢
  by_cases q : numRef (nI s) (nI n) i = 0
  · rw [if_pos q] at hq ⊢
    by_cases q2 : kWid (nI f) (nI s) = 0
    · rw [if_pos q2]
      simp +decide only [e189_0, e189_1, e189_4, e189_7, e189_8, e189_11, e189_12, e189_13, e189_14, e189_17, e189_18, e189_19, e189_22, e189_23, e189_24, e189_25, e189_28, e189_29, e189_32, e189_33, e189_34, e189_37, e189_40, e189_41, e189_42, e189_43, e189_44, e189_47, e189_48, e189_49, e189_52, e189_53, e189_55, e189_56, e189_57, e189_58, e189_59, e189_62, e189_63, hi, hc, es, hz, hv, w1, w2, q, q2, (Mod_0 hs.2.1 : ob h (g + 266) 11), (rf_g (Mod_55 hs.2.1 : rf h (g + 266) 42 (g + 285)) : gR h (g + 266) 42 = (g + 285)), (rf_is (Mod_55 hs.2.1 : rf h (g + 266) 42 (g + 285)) : isR h (g + 266) 42), (Mod_56 hs.2.1 : arI h (g + 285) 0), (rdI_0 (Mod_56 hs.2.1 : arI h (g + 285) 0) : rdI h (g + 285)), (Mod_57 hs.2.1 : aln h (g + 285) = 8), Nat.add_assoc, Nat.reduceAdd, Nat.add_left_cancel_iff, Nat.reduceEqDiff, Nat.add_eq_left, Nat.left_eq_add, vkk_n, vkk_i, vkk_r, vkk_l, vkk_d, catS_nil, catS_i, catS_r, catS_l, catS_d, Nat.reduceAdd, Nat.reduceLeDiff, Nat.zero_le, Nat.le_refl, Option.bind_some, Option.toList_some, Option.toList_none, List.cons_append, List.nil_append, or_true, true_or, if_true, if_false, Int32.reduceLT, Int32.reduceLE, not_true, not_false_iff, true_and, and_true, false_and, and_false]
    · rw [if_neg q2] at hq
      exact absurd rfl hq
  · rw [if_neg q]
    have q3 := num_le q
    simp +decide only [e189_0, e189_1, e189_4, e189_7, e189_8, e189_11, e189_12, e189_13, e189_14, e189_17, e189_18, e189_19, e189_22, e189_23, e189_24, e189_25, e189_28, e189_29, e189_32, e189_33, e189_34, e189_37, e189_40, e189_41, e189_42, e189_43, e189_44, e189_47, e189_48, e189_49, e189_52, e189_53, e189_55, e189_56, e189_57, e189_58, e189_59, e189_62, e189_63, hi, hc, es, hz, w1, q3, (Mod_0 hs.2.1 : ob h (g + 266) 11), (rf_g (Mod_55 hs.2.1 : rf h (g + 266) 42 (g + 285)) : gR h (g + 266) 42 = (g + 285)), (rf_is (Mod_55 hs.2.1 : rf h (g + 266) 42 (g + 285)) : isR h (g + 266) 42), (Mod_56 hs.2.1 : arI h (g + 285) 0), (rdI_0 (Mod_56 hs.2.1 : arI h (g + 285) 0) : rdI h (g + 285)), (Mod_57 hs.2.1 : aln h (g + 285) = 8), Nat.add_assoc, Nat.reduceAdd, Nat.add_left_cancel_iff, Nat.reduceEqDiff, Nat.add_eq_left, Nat.left_eq_add, vkk_n, vkk_i, vkk_r, vkk_l, vkk_d, catS_nil, catS_i, catS_r, catS_l, catS_d, Nat.reduceAdd, Nat.reduceLeDiff, Nat.zero_le, Nat.le_refl, Option.bind_some, Option.toList_some, Option.toList_none, List.cons_append, List.nil_append, or_true, true_or, if_true, if_false, Int32.reduceLT, Int32.reduceLE, not_true, not_false_iff, true_and, and_true, false_and, and_false]
theorem c_m_writes_ok (h : VG) (g b s n f i : Nat) (x : Int64) (hs : Sh h g) (hb : b < 8) (es : aI h (g + 285) b = nI s) (en : aI h (g + 286) b = nI n) (hs' : s < 12) (hn : n ≤ 40) (h8 : s < 8) (hf : f < 8) (hi : i < n) (hw : ¬ kWid (nI f) (nI s) = 0) (hc0 : Car h (g + 266) (nI f) 0 x) : ∃ h1, ev 189 0 [some (.ref (g + 266)), some (.int (nI b)), some (.int (nI i)), none] [] h = some (some (.int 0), h1) ∧ Lay h h1 g (40 * b + i) (nI s) (kWdn x (nI f) (nI s)) := by
  have hib : vp_in (nI b) 8 := vp_in_nI hb (by decide)
  have hc : (nI b).toNatClampNeg = b := nI_clamp (by omega)
  have w1 := c_m_whyNot h g b s n (nI i) hs hb es en hs' hn
  have w2 := c_m_wid h (show f < 12 by omega) hs'
  have w3 : numRef (nI s) (nI n) (nI i) = 0 := num_0 h8 hi hn
  have o0 : ob h (g + 266) 11 := Mod_0 hs.2.1
  obtain ⟨h1, u1, u2, u3⟩ := c_m_becomes h (g + 266) f s 0 x o0 hf h8 hw hc0
  have s1 : Sh h1 g := Sh_fr u2 (fun _ z => z.elim) hs
  have o1 : ob h1 (g + 266) 11 := Mod_0 s1.2.1
  have es1 : aI h1 (g + 285) b = nI s := (u2.I (fun z => z) _).trans es
  obtain ⟨h2, v1, v2⟩ := c_m_lays h1 g (40 * b + i) (nI s) 0 (kWdn x (nI f) (nI s)) s1 (by omega) u3
  obtain ⟨k1, k2, k3⟩ := hc0
  refine ⟨h2, ?_, (u2.mo (fun _ z => z.elim) (fun _ _ z => z)).tr v2.1, fun j hj => ?_, v2.2.2⟩
  · simp +decide only [e189_0, e189_1, e189_4, e189_7, e189_8, e189_11, e189_12, e189_13, e189_14, e189_17, e189_18, e189_19, e189_22, e189_23, e189_24, e189_25, e189_28, e189_29, e189_32, e189_33, e189_34, e189_37, e189_40, e189_41, e189_42, e189_43, e189_44, e189_47, e189_48, e189_49, e189_52, e189_53, e189_55, e189_56, e189_57, e189_58, e189_59, e189_62, e189_63, hib, hc, es, es1, w1, w2, w3, hw, k1, k2, nI_40, u1, v1, o1, (Mod_0 hs.2.1 : ob h (g + 266) 11), (rf_g (Mod_55 hs.2.1 : rf h (g + 266) 42 (g + 285)) : gR h (g + 266) 42 = (g + 285)), (rf_is (Mod_55 hs.2.1 : rf h (g + 266) 42 (g + 285)) : isR h (g + 266) 42), (Mod_56 hs.2.1 : arI h (g + 285) 0), (rdI_0 (Mod_56 hs.2.1 : arI h (g + 285) 0) : rdI h (g + 285)), (Mod_57 hs.2.1 : aln h (g + 285) = 8), (Mod_0 s1.2.1 : ob h1 (g + 266) 11), (rf_g (Mod_55 s1.2.1 : rf h1 (g + 266) 42 (g + 285)) : gR h1 (g + 266) 42 = (g + 285)), (rf_is (Mod_55 s1.2.1 : rf h1 (g + 266) 42 (g + 285)) : isR h1 (g + 266) 42), (Mod_56 s1.2.1 : arI h1 (g + 285) 0), (rdI_0 (Mod_56 s1.2.1 : arI h1 (g + 285) 0) : rdI h1 (g + 285)), (Mod_57 s1.2.1 : aln h1 (g + 285) = 8), Nat.add_assoc, Nat.reduceAdd, Nat.add_left_cancel_iff, Nat.reduceEqDiff, Nat.add_eq_left, Nat.left_eq_add, vkk_n, vkk_i, vkk_r, vkk_l, vkk_d, catS_nil, catS_i, catS_r, catS_l, catS_d, Nat.reduceAdd, Nat.reduceLeDiff, Nat.zero_le, Nat.le_refl, Option.bind_some, Option.toList_some, Option.toList_none, List.cons_append, List.nil_append, or_true, true_or, if_true, if_false, Int32.reduceLT, Int32.reduceLE, not_true, not_false_iff, true_and, and_true, false_and, and_false]
  · have a := v2.2.1 j hj
    rw [a.1, a.2.1, a.2.2]
    exact ⟨u2.I (fun z => z) _, u2.L (fun z => z) _, u2.D (fun z => z) _⟩
/-! the class -/
def kNum (k : Int32) : Int32 := if k < 0 then 0 else if k ≤ 7 then 1 else 0
def kTak (s c : Int32) : Int32 := if s ≤ 7 then (if kNum c = 0 then 0 else if kWid c s = 0 then 0 else 1) else if s = 8 then 1 else if c = 8 then 1 else if c = -2 then 1 else 0
def putRef (s n i c : Int32) : Int32 := if s ≤ 7 ∧ c = -2 then 2 else if celRef s n i = 0 then (if kTak s c = 0 then 2 else 0) else celRef s n i
theorem c_takes (h : VG) (B : Nat) (c : Int32) (ho : ob h B 1) : ev 12 0 [some (.ref B), some (.int c)] [] h = some (some (.int (kTak (gI h B 0) c)), h) := by
  unfold kTak kNum
  simp +decide only [e12_0, e12_1, e12_4, e12_6, e12_9, e12_10, e12_13, e12_16, e12_17, e12_18, e12_21, e12_24, e12_27, e12_28, e12_31, e12_32, e12_33, e12_34, e12_37, e12_39, e12_42, e12_43, e12_45, e12_48, e12_49, e12_51, e12_54, e12_55, e12_58, e12_59, ho, c_isNumberKind, c_widens, vkk_n, vkk_i, vkk_r, vkk_l, vkk_d, catS_nil, catS_i, catS_r, catS_l, catS_d, Nat.reduceAdd, Nat.reduceLeDiff, Nat.zero_le, Nat.le_refl, Option.bind_some, Option.toList_some, Option.toList_none, List.cons_append, List.nil_append, or_true, true_or, if_true, if_false, Int32.reduceLT, Int32.reduceLE, not_true, not_false_iff, true_and, and_true, false_and, and_false]
  (repeat' split) <;> first | rfl | simp_all
theorem c_putRefusal (h : VG) (B : Nat) (i c : Int32) (ho : ob h B 1) : ev 11 0 [some (.ref B), some (.int i), some (.int c), none] [] h = some (some (.int (putRef (gI h B 0) (gI h B 1) i c)), h) := by
  unfold putRef
  by_cases q1 : gI h B 0 ≤ 7
  · by_cases q2 : c = -2
    · rw [if_pos ⟨q1, q2⟩]
      simp +decide only [e11_0, e11_1, e11_4, e11_6, e11_9, e11_10, e11_12, e11_15, e11_16, e11_17, e11_18, e11_19, e11_22, e11_23, e11_24, e11_27, e11_28, e11_29, e11_32, e11_35, e11_36, e11_39, e11_40, ho, q1, q2, vkk_n, vkk_i, vkk_r, vkk_l, vkk_d, catS_nil, catS_i, catS_r, catS_l, catS_d, Nat.reduceAdd, Nat.reduceLeDiff, Nat.zero_le, Nat.le_refl, Option.bind_some, Option.toList_some, Option.toList_none, List.cons_append, List.nil_append, or_true, true_or, if_true, if_false, Int32.reduceLT, Int32.reduceLE, not_true, not_false_iff, true_and, and_true, false_and, and_false]
    · rw [if_neg (fun z => q2 z.2)]
      simp +decide only [e11_0, e11_1, e11_4, e11_6, e11_9, e11_10, e11_12, e11_15, e11_16, e11_17, e11_18, e11_19, e11_22, e11_23, e11_24, e11_27, e11_28, e11_29, e11_32, e11_35, e11_36, e11_39, e11_40, ho, q1, q2, c_cellRefusal, c_takes, vkk_n, vkk_i, vkk_r, vkk_l, vkk_d, catS_nil, catS_i, catS_r, catS_l, catS_d, Nat.reduceAdd, Nat.reduceLeDiff, Nat.zero_le, Nat.le_refl, Option.bind_some, Option.toList_some, Option.toList_none, List.cons_append, List.nil_append, or_true, true_or, if_true, if_false, Int32.reduceLT, Int32.reduceLE, not_true, not_false_iff, true_and, and_true, false_and, and_false]
      (repeat' split) <;> first | rfl | simp_all
  · rw [if_neg (fun z => q1 z.1)]
    simp +decide only [e11_0, e11_1, e11_4, e11_6, e11_9, e11_10, e11_12, e11_15, e11_16, e11_17, e11_18, e11_19, e11_22, e11_23, e11_24, e11_27, e11_28, e11_29, e11_32, e11_35, e11_36, e11_39, e11_40, ho, q1, c_cellRefusal, c_takes, vkk_n, vkk_i, vkk_r, vkk_l, vkk_d, catS_nil, catS_i, catS_r, catS_l, catS_d, Nat.reduceAdd, Nat.reduceLeDiff, Nat.zero_le, Nat.le_refl, Option.bind_some, Option.toList_some, Option.toList_none, List.cons_append, List.nil_append, or_true, true_or, if_true, if_false, Int32.reduceLT, Int32.reduceLE, not_true, not_false_iff, true_and, and_true, false_and, and_false]
    (repeat' split) <;> first | rfl | simp_all
theorem c_numberAs (h : VG) (B i : Nat) (k : Int32) (hB : ShBin h B) (hi : i < 40) : ev 17 0 [some (.ref B), some (.int (nI i)), some (.int k)] [] h = some (some (.long (kWdn (aL h (B + 2) i) (gI h B 0) k)), h) := by
  have hv : vp_in (nI i) 40 := vp_in_nI hi (by decide)
  have hc : (nI i).toNatClampNeg = i := nI_clamp (by omega)
  simp +decide only [e17_0, e17_1, e17_4, e17_5, e17_6, e17_7, e17_10, e17_11, e17_14, hv, hc, c_widened, (Bin_0 hB : ob h B 1), (eq_true (isI_ob (Bin_0 hB : ob h B 1) rfl : isI h B 0)), (eq_true (isI_ob (Bin_0 hB : ob h B 1) rfl : isI h B 1)), (rf_g (Bin_1 hB : rf h B 2 (B + 1)) : gR h B 2 = (B + 1)), (rf_is (Bin_1 hB : rf h B 2 (B + 1)) : isR h B 2), (rf_g (Bin_2 hB : rf h B 3 (B + 2)) : gR h B 3 = (B + 2)), (rf_is (Bin_2 hB : rf h B 3 (B + 2)) : isR h B 3), (Bin_3 hB : arI h (B + 1) 0), (rdI_0 (Bin_3 hB : arI h (B + 1) 0) : rdI h (B + 1)), (Bin_4 hB : aln h (B + 1) = 40), (Bin_5 hB : arL h (B + 2)), (Bin_6 hB : aln h (B + 2) = 40), vkk_n, vkk_i, vkk_r, vkk_l, vkk_d, catS_nil, catS_i, catS_r, catS_l, catS_d, Nat.reduceAdd, Nat.reduceLeDiff, Nat.zero_le, Nat.le_refl, Option.bind_some, Option.toList_some, Option.toList_none, List.cons_append, List.nil_append, or_true, true_or, if_true, if_false, Int32.reduceLT, Int32.reduceLE, not_true, not_false_iff, true_and, and_true, false_and, and_false]
theorem c_toldAt (h : VG) (B i : Nat) (hB : ShBin h B) (hi : i < 40) : ev 19 0 [some (.ref B), some (.int (nI i))] [] h = some (some (.long (kTold (aL h (B + 2) i) (aI h (B + 1) i))), h) := by
  have hv : vp_in (nI i) 40 := vp_in_nI hi (by decide)
  have hc : (nI i).toNatClampNeg = i := nI_clamp (by omega)
  simp +decide only [e19_0, e19_1, e19_4, e19_5, e19_6, e19_7, e19_10, e19_11, e19_12, e19_15, hv, hc, c_toldOf, (Bin_0 hB : ob h B 1), (eq_true (isI_ob (Bin_0 hB : ob h B 1) rfl : isI h B 0)), (eq_true (isI_ob (Bin_0 hB : ob h B 1) rfl : isI h B 1)), (rf_g (Bin_1 hB : rf h B 2 (B + 1)) : gR h B 2 = (B + 1)), (rf_is (Bin_1 hB : rf h B 2 (B + 1)) : isR h B 2), (rf_g (Bin_2 hB : rf h B 3 (B + 2)) : gR h B 3 = (B + 2)), (rf_is (Bin_2 hB : rf h B 3 (B + 2)) : isR h B 3), (Bin_3 hB : arI h (B + 1) 0), (rdI_0 (Bin_3 hB : arI h (B + 1) 0) : rdI h (B + 1)), (Bin_4 hB : aln h (B + 1) = 40), (Bin_5 hB : arL h (B + 2)), (Bin_6 hB : aln h (B + 2) = 40), vkk_n, vkk_i, vkk_r, vkk_l, vkk_d, catS_nil, catS_i, catS_r, catS_l, catS_d, Nat.reduceAdd, Nat.reduceLeDiff, Nat.zero_le, Nat.le_refl, Option.bind_some, Option.toList_some, Option.toList_none, List.cons_append, List.nil_append, or_true, true_or, if_true, if_false, Int32.reduceLT, Int32.reduceLE, not_true, not_false_iff, true_and, and_true, false_and, and_false]
/-- a cell of the class's -/
def fil (h : VG) (B i : Nat) (c : Int32) (x : Int64) : VG := if gI h B 0 ≤ 7 then wL h (B + 2) i (kWdn x c (gI h B 0)) else wL (wI h (B + 1) i c) (B + 2) i x
theorem c_fillCell (h : VG) (B i : Nat) (c : Int32) (x : Int64) (hB : ShBin h B) (hi : i < 40) : ev 18 0 [some (.ref B), some (.int (nI i)), some (.int c), some (.long x), none] [] h = some (none, fil h B i c x) := by
  have hv : vp_in (nI i) 40 := vp_in_nI hi (by decide)
  have hc : (nI i).toNatClampNeg = i := nI_clamp (by omega)
  unfold fil
  by_cases q : gI h B 0 ≤ 7
  · simp +decide only [e18_0, e18_1, e18_4, e18_6, e18_9, e18_10, e18_13, e18_14, e18_15, e18_16, e18_17, e18_20, e18_23, e18_24, e18_27, e18_28, e18_31, e18_32, e18_33, e18_34, e18_35, e18_38, e18_39, e18_40, e18_41, q, hv, hc, c_widened, (Bin_0 hB : ob h B 1), (eq_true (isI_ob (Bin_0 hB : ob h B 1) rfl : isI h B 0)), (eq_true (isI_ob (Bin_0 hB : ob h B 1) rfl : isI h B 1)), (rf_g (Bin_1 hB : rf h B 2 (B + 1)) : gR h B 2 = (B + 1)), (rf_is (Bin_1 hB : rf h B 2 (B + 1)) : isR h B 2), (rf_g (Bin_2 hB : rf h B 3 (B + 2)) : gR h B 3 = (B + 2)), (rf_is (Bin_2 hB : rf h B 3 (B + 2)) : isR h B 3), (Bin_3 hB : arI h (B + 1) 0), (rdI_0 (Bin_3 hB : arI h (B + 1) 0) : rdI h (B + 1)), (Bin_4 hB : aln h (B + 1) = 40), (Bin_5 hB : arL h (B + 2)), (Bin_6 hB : aln h (B + 2) = 40), ob_pI, rf_pI, isR_pI, isI_pI, isL_pI, arI_pI, arL_pI, arR_pI, arD_pI, aln_pI, rdI_pI, rdB_pI, rdR_pI, aR_pI, pI_2, gI_pI, gL_pI, gD_pI, gR_pI, aI_pI, aL_pI, aD_pI, ob_pL, rf_pL, isR_pL, isI_pL, isL_pL, arI_pL, arL_pL, arR_pL, arD_pL, aln_pL, rdI_pL, rdB_pL, rdR_pL, aR_pL, pL_2, gI_pL, gL_pL, gD_pL, gR_pL, aI_pL, aL_pL, aD_pL, ob_wI, rf_wI, isR_wI, isI_wI, isL_wI, arI_wI, arL_wI, arR_wI, arD_wI, aln_wI, rdI_wI, rdB_wI, rdR_wI, aR_wI, wI_2, gI_wI, gL_wI, gD_wI, gR_wI, aL_wI, aD_wI, aI_wI_ne, ob_wL, rf_wL, isR_wL, isI_wL, isL_wL, arI_wL, arL_wL, arR_wL, arD_wL, aln_wL, rdI_wL, rdB_wL, rdR_wL, aR_wL, wL_2, gI_wL, gL_wL, gD_wL, gR_wL, aI_wL, aD_wL, aL_wL_ne, ob_bI, rf_bI, isR_bI, isI_bI, isL_bI, arI_bI, arL_bI, arR_bI, arD_bI, aln_bI, rdI_bI, rdB_bI, rdR_bI, aR_bI, bI_2, gI_bI, gL_bI, gD_bI, gR_bI, aL_bI, aD_bI, aI_bI_ne, ob_bL, rf_bL, isR_bL, isI_bL, isL_bL, arI_bL, arL_bL, arR_bL, arD_bL, aln_bL, rdI_bL, rdB_bL, rdR_bL, aR_bL, bL_2, gI_bL, gL_bL, gD_bL, gR_bL, aI_bL, aD_bL, aL_bL_ne, vkk_n, vkk_i, vkk_r, vkk_l, vkk_d, catS_nil, catS_i, catS_r, catS_l, catS_d, Nat.reduceAdd, Nat.reduceLeDiff, Nat.zero_le, Nat.le_refl, Option.bind_some, Option.toList_some, Option.toList_none, List.cons_append, List.nil_append, or_true, true_or, if_true, if_false, Int32.reduceLT, Int32.reduceLE, not_true, not_false_iff, true_and, and_true, false_and, and_false]
  · simp +decide only [e18_0, e18_1, e18_4, e18_6, e18_9, e18_10, e18_13, e18_14, e18_15, e18_16, e18_17, e18_20, e18_23, e18_24, e18_27, e18_28, e18_31, e18_32, e18_33, e18_34, e18_35, e18_38, e18_39, e18_40, e18_41, q, hv, hc, c_widened, (Bin_0 hB : ob h B 1), (eq_true (isI_ob (Bin_0 hB : ob h B 1) rfl : isI h B 0)), (eq_true (isI_ob (Bin_0 hB : ob h B 1) rfl : isI h B 1)), (rf_g (Bin_1 hB : rf h B 2 (B + 1)) : gR h B 2 = (B + 1)), (rf_is (Bin_1 hB : rf h B 2 (B + 1)) : isR h B 2), (rf_g (Bin_2 hB : rf h B 3 (B + 2)) : gR h B 3 = (B + 2)), (rf_is (Bin_2 hB : rf h B 3 (B + 2)) : isR h B 3), (Bin_3 hB : arI h (B + 1) 0), (rdI_0 (Bin_3 hB : arI h (B + 1) 0) : rdI h (B + 1)), (Bin_4 hB : aln h (B + 1) = 40), (Bin_5 hB : arL h (B + 2)), (Bin_6 hB : aln h (B + 2) = 40), ob_pI, rf_pI, isR_pI, isI_pI, isL_pI, arI_pI, arL_pI, arR_pI, arD_pI, aln_pI, rdI_pI, rdB_pI, rdR_pI, aR_pI, pI_2, gI_pI, gL_pI, gD_pI, gR_pI, aI_pI, aL_pI, aD_pI, ob_pL, rf_pL, isR_pL, isI_pL, isL_pL, arI_pL, arL_pL, arR_pL, arD_pL, aln_pL, rdI_pL, rdB_pL, rdR_pL, aR_pL, pL_2, gI_pL, gL_pL, gD_pL, gR_pL, aI_pL, aL_pL, aD_pL, ob_wI, rf_wI, isR_wI, isI_wI, isL_wI, arI_wI, arL_wI, arR_wI, arD_wI, aln_wI, rdI_wI, rdB_wI, rdR_wI, aR_wI, wI_2, gI_wI, gL_wI, gD_wI, gR_wI, aL_wI, aD_wI, aI_wI_ne, ob_wL, rf_wL, isR_wL, isI_wL, isL_wL, arI_wL, arL_wL, arR_wL, arD_wL, aln_wL, rdI_wL, rdB_wL, rdR_wL, aR_wL, wL_2, gI_wL, gL_wL, gD_wL, gR_wL, aI_wL, aD_wL, aL_wL_ne, ob_bI, rf_bI, isR_bI, isI_bI, isL_bI, arI_bI, arL_bI, arR_bI, arD_bI, aln_bI, rdI_bI, rdB_bI, rdR_bI, aR_bI, bI_2, gI_bI, gL_bI, gD_bI, gR_bI, aL_bI, aD_bI, aI_bI_ne, ob_bL, rf_bL, isR_bL, isI_bL, isL_bL, arI_bL, arL_bL, arR_bL, arD_bL, aln_bL, rdI_bL, rdB_bL, rdR_bL, aR_bL, bL_2, gI_bL, gL_bL, gD_bL, gR_bL, aI_bL, aD_bL, aL_bL_ne, vkk_n, vkk_i, vkk_r, vkk_l, vkk_d, catS_nil, catS_i, catS_r, catS_l, catS_d, Nat.reduceAdd, Nat.reduceLeDiff, Nat.zero_le, Nat.le_refl, Option.bind_some, Option.toList_some, Option.toList_none, List.cons_append, List.nil_append, or_true, true_or, if_true, if_false, Int32.reduceLT, Int32.reduceLE, not_true, not_false_iff, true_and, and_true, false_and, and_false]
