/-! read: tokens, by the class: numbers, signs, all -/
theorem c_scDigits (h : VG) (g L p t : Nat) (b : Nat → Nat) (ht : t < 401) (hp : p < L) (hb : isLe (b p) = false) (hd : isDi (b p) = true) (hs : Sh h g) (tx : TXc h g b L) (h0 : aL h (g + 6) t = 0) : ∃ h1, ev 88 0 [some (.ref (g + 3)), some (.ref (g + 1)), some (.int (nI L)), some (.int (nI p)), some (.int (nI t)), none] [] h = some (some (.int (nI (tEnd b L p))), h1) ∧ Fr (fun a => a = g + 4 ∨ a = g + 6) NF h h1 ∧ (∀ j, ¬ j = t → aI h1 (g + 4) j = aI h (g + 4) j ∧ aL h1 (g + 6) j = aL h (g + 6) j) ∧ aI h1 (g + 4) t = nI (cTy (tKd b L p)) ∧ (tKd b L p = 2 → aL h1 (g + 6) t = Int64.ofNat (tIv b L p)) := by
  have hL := tx.1
  have v1 : vp_in (nI t) 401 := vp_in_nI (by omega) (by decide)
  have v2 : (nI t).toNatClampNeg = t := nI_clamp (by omega)
  have nL : ¬ L ≤ p := by omega
  have eE : tEnd b L p = spn isDi b (L - p) p := by
    unfold tEnd
    rw [if_neg nL, hb, hd]
    rfl
  have eK : tKd b L p = if 4 < spn isDi b (L - p) p - p then 3 else 2 := by
    unfold tKd
    rw [if_neg nL, hb, hd]
    rfl
  obtain ⟨i1, i2, i3, -⟩ := spn_b isDi b (L - p) p
  obtain ⟨h1, u1, u2, u3, u4⟩ := l_scD g L p t b ht (L - p) p h (Nat.le_refl _) (by omega) hs tx (by rw [Nat.sub_self]; exact h0)
  have nm : tIv b L p = vl 10 (dgD b p) (spn isDi b (L - p) p - p) := rfl
  rw [eE, eK]
  generalize spn isDi b (L - p) p = E at *
  have s1 : Sh h1 g := Sh_fr u2 (fun a z => by omega) hs
  have sub : nI E - nI p = nI (E - p) := pk_sub i1
  have fin : ∀ y : Int32, (∀ j, aI (wI h1 (g + 4) t y) (g + 4) j = if j = t then y else aI h1 (g + 4) j) ∧ Fr (fun a => a = g + 4 ∨ a = g + 6) NF h1 (wI h1 (g + 4) t y) := fun y => ⟨fun j => by
    rw [aI_wI0 _ _ _ _ _ _ (Tok_5 (Cls_13 s1.1))]
    simp only [true_and], Fr_wI _ _ _ _ (Or.inl rfl)⟩
  by_cases q : 4 < E - p
  · rw [if_pos q]
    have q' : ¬ nI (E - p) ≤ 4 := fun z => by
      have := (nI_leI (b := 4) (by omega) (by decide)).mp z
      omega
    obtain ⟨r4, x1⟩ := fin 1
    refine ⟨wI h1 (g + 4) t 1, ?_, (u2.mo (fun a z => Or.inr z) (fun _ _ z => z)).tr x1, fun j hj => ?_, ?_, fun z => by omega⟩
    · simp +decide only [e88_0, e88_1, vkk_n, vkk_i, vkk_r, vkk_l, vkk_d, catS_nil, catS_i, catS_r, catS_l, catS_d, Nat.reduceAdd, Nat.reduceLeDiff, Nat.zero_le, Nat.le_refl, Option.bind_some, Option.toList_some, Option.toList_none, List.cons_append, List.nil_append, or_true, true_or, if_true, if_false, Int32.reduceLT, Int32.reduceLE, not_true, not_false_iff, true_and, and_true, false_and, and_false]
      rw [u1]
      simp +decide only [e88_53, e88_54, e88_57, e88_59, e88_61, e88_62, e88_63, e88_64, e88_67, e88_68, e88_71, e88_72, e88_73, e88_75, sub, q', (Tok_0 (Cls_13 s1.1) : ob h1 (g + 3) 9), (rf_g (Tok_1 (Cls_13 s1.1) : rf h1 (g + 3) 0 (g + 4)) : gR h1 (g + 3) 0 = (g + 4)), (rf_is (Tok_1 (Cls_13 s1.1) : rf h1 (g + 3) 0 (g + 4)) : isR h1 (g + 3) 0), (rf_g (Tok_2 (Cls_13 s1.1) : rf h1 (g + 3) 1 (g + 5)) : gR h1 (g + 3) 1 = (g + 5)), (rf_is (Tok_2 (Cls_13 s1.1) : rf h1 (g + 3) 1 (g + 5)) : isR h1 (g + 3) 1), (rf_g (Tok_3 (Cls_13 s1.1) : rf h1 (g + 3) 2 (g + 6)) : gR h1 (g + 3) 2 = (g + 6)), (rf_is (Tok_3 (Cls_13 s1.1) : rf h1 (g + 3) 2 (g + 6)) : isR h1 (g + 3) 2), (rf_g (Tok_4 (Cls_13 s1.1) : rf h1 (g + 3) 3 (g + 7)) : gR h1 (g + 3) 3 = (g + 7)), (rf_is (Tok_4 (Cls_13 s1.1) : rf h1 (g + 3) 3 (g + 7)) : isR h1 (g + 3) 3), (Tok_5 (Cls_13 s1.1) : arI h1 (g + 4) 0), (rdI_0 (Tok_5 (Cls_13 s1.1) : arI h1 (g + 4) 0) : rdI h1 (g + 4)), (Tok_6 (Cls_13 s1.1) : aln h1 (g + 4) = 401), (Tok_7 (Cls_13 s1.1) : arI h1 (g + 5) 0), (rdI_0 (Tok_7 (Cls_13 s1.1) : arI h1 (g + 5) 0) : rdI h1 (g + 5)), (Tok_8 (Cls_13 s1.1) : aln h1 (g + 5) = 401), (Tok_9 (Cls_13 s1.1) : arL h1 (g + 6)), (Tok_10 (Cls_13 s1.1) : aln h1 (g + 6) = 401), (Tok_11 (Cls_13 s1.1) : arL h1 (g + 7)), (Tok_12 (Cls_13 s1.1) : aln h1 (g + 7) = 14), v1, v2, vkk_n, vkk_i, vkk_r, vkk_l, vkk_d, catS_nil, catS_i, catS_r, catS_l, catS_d, Nat.reduceAdd, Nat.reduceLeDiff, Nat.zero_le, Nat.le_refl, Option.bind_some, Option.toList_some, Option.toList_none, List.cons_append, List.nil_append, or_true, true_or, if_true, if_false, Int32.reduceLT, Int32.reduceLE, not_true, not_false_iff, true_and, and_true, false_and, and_false]
    · rw [r4 j, if_neg hj, aL_wI, u4 j hj, u2.I (fun z => by omega)]
      exact ⟨rfl, rfl⟩
    · rw [r4 t, if_pos rfl]
      rfl
  · rw [if_neg q]
    have q' : nI (E - p) ≤ 4 := nI_le (b := 4) (by omega) (by decide)
    obtain ⟨n1, n2⟩ := vT_n b p (E - p) (by omega) (fun i hi => i3 _ (by omega) (by omega))
    rw [ofN_u n1, ← nm] at u3
    obtain ⟨r4, x1⟩ := fin 3
    refine ⟨wI h1 (g + 4) t 3, ?_, (u2.mo (fun a z => Or.inr z) (fun _ _ z => z)).tr x1, fun j hj => ?_, ?_, fun _ => ?_⟩
    · simp +decide only [e88_0, e88_1, vkk_n, vkk_i, vkk_r, vkk_l, vkk_d, catS_nil, catS_i, catS_r, catS_l, catS_d, Nat.reduceAdd, Nat.reduceLeDiff, Nat.zero_le, Nat.le_refl, Option.bind_some, Option.toList_some, Option.toList_none, List.cons_append, List.nil_append, or_true, true_or, if_true, if_false, Int32.reduceLT, Int32.reduceLE, not_true, not_false_iff, true_and, and_true, false_and, and_false]
      rw [u1]
      simp +decide only [e88_53, e88_54, e88_57, e88_59, e88_61, e88_62, e88_63, e88_64, e88_67, e88_68, e88_71, e88_72, e88_73, e88_75, sub, q', (Tok_0 (Cls_13 s1.1) : ob h1 (g + 3) 9), (rf_g (Tok_1 (Cls_13 s1.1) : rf h1 (g + 3) 0 (g + 4)) : gR h1 (g + 3) 0 = (g + 4)), (rf_is (Tok_1 (Cls_13 s1.1) : rf h1 (g + 3) 0 (g + 4)) : isR h1 (g + 3) 0), (rf_g (Tok_2 (Cls_13 s1.1) : rf h1 (g + 3) 1 (g + 5)) : gR h1 (g + 3) 1 = (g + 5)), (rf_is (Tok_2 (Cls_13 s1.1) : rf h1 (g + 3) 1 (g + 5)) : isR h1 (g + 3) 1), (rf_g (Tok_3 (Cls_13 s1.1) : rf h1 (g + 3) 2 (g + 6)) : gR h1 (g + 3) 2 = (g + 6)), (rf_is (Tok_3 (Cls_13 s1.1) : rf h1 (g + 3) 2 (g + 6)) : isR h1 (g + 3) 2), (rf_g (Tok_4 (Cls_13 s1.1) : rf h1 (g + 3) 3 (g + 7)) : gR h1 (g + 3) 3 = (g + 7)), (rf_is (Tok_4 (Cls_13 s1.1) : rf h1 (g + 3) 3 (g + 7)) : isR h1 (g + 3) 3), (Tok_5 (Cls_13 s1.1) : arI h1 (g + 4) 0), (rdI_0 (Tok_5 (Cls_13 s1.1) : arI h1 (g + 4) 0) : rdI h1 (g + 4)), (Tok_6 (Cls_13 s1.1) : aln h1 (g + 4) = 401), (Tok_7 (Cls_13 s1.1) : arI h1 (g + 5) 0), (rdI_0 (Tok_7 (Cls_13 s1.1) : arI h1 (g + 5) 0) : rdI h1 (g + 5)), (Tok_8 (Cls_13 s1.1) : aln h1 (g + 5) = 401), (Tok_9 (Cls_13 s1.1) : arL h1 (g + 6)), (Tok_10 (Cls_13 s1.1) : aln h1 (g + 6) = 401), (Tok_11 (Cls_13 s1.1) : arL h1 (g + 7)), (Tok_12 (Cls_13 s1.1) : aln h1 (g + 7) = 14), v1, v2, vkk_n, vkk_i, vkk_r, vkk_l, vkk_d, catS_nil, catS_i, catS_r, catS_l, catS_d, Nat.reduceAdd, Nat.reduceLeDiff, Nat.zero_le, Nat.le_refl, Option.bind_some, Option.toList_some, Option.toList_none, List.cons_append, List.nil_append, or_true, true_or, if_true, if_false, Int32.reduceLT, Int32.reduceLE, not_true, not_false_iff, true_and, and_true, false_and, and_false]
    · rw [r4 j, if_neg hj, aL_wI, u4 j hj, u2.I (fun z => by omega)]
      exact ⟨rfl, rfl⟩
    · rw [r4 t, if_pos rfl]
      rfl
    · rw [aL_wI]
      exact u3
theorem tIv_lt (b : Nat → Nat) (L p : Nat) (h : tKd b L p = 2) : tIv b L p < 10000 := by
  have nL : ¬ L ≤ p := fun z => by
    unfold tKd at h
    rw [if_pos z] at h
    cases h
  unfold tKd at h
  rw [if_neg nL] at h
  unfold tIv
  obtain ⟨i1, i2, i3, -⟩ := spn_b isDi b (L - p) p
  cases q : isLe (b p) with
  | true =>
    rw [q] at h
    simp only [if_true] at h
    exfalso
    revert h
    split
    · omega
    · rcases wKd_or (vl 32 (dgL b p) (spn isLe b (L - p) p - p)) with z | z <;> omega
  | false =>
    rw [q] at h
    simp only [Bool.false_eq_true, if_false] at h
    cases q2 : isDi (b p) with
    | false =>
      rw [q2] at h
      simp only [Bool.false_eq_true, if_false] at h
      exfalso
      revert h
      split <;> omega
    | true =>
      rw [q2] at h
      simp only [if_true] at h
      by_cases y : 4 < spn isDi b (L - p) p - p
      · rw [if_pos y] at h
        cases h
      · have := (vT_n b p (spn isDi b (L - p) p - p) (by omega) (fun i hi => i3 _ (by omega) (by omega))).2
        have pw : 10 ^ (spn isDi b (L - p) p - p) ≤ 10 ^ 4 := Nat.pow_le_pow_right (by decide) (by omega)
        omega
set_option maxHeartbeats 4000000 in
theorem c_scToken (h : VG) (g L p t : Nat) (b : Nat → Nat) (ht : t < 401) (hp : p ≤ L) (hs : Sh h g) (tx : TXc h g b L) (hw : ∀ j, j < 14 → aL h (g + 7) j = cWord j) : ∃ h1, ev 86 0 [some (.ref (g + 3)), some (.ref (g + 1)), some (.int (nI L)), some (.int (nI p)), some (.int (nI t))] [] h = some (some (.int (nI (tEnd b L p))), h1) ∧ Fr (fun a => a = g + 4 ∨ a = g + 6) NF h h1 ∧ (∀ j, ¬ j = t → aI h1 (g + 4) j = aI h (g + 4) j ∧ aL h1 (g + 6) j = aL h (g + 6) j) ∧ aI h1 (g + 4) t = nI (cTy (tKd b L p)) ∧ (24 ≤ tKd b L p → aL h1 (g + 6) t = Int64.ofNat (tKd b L p - 24)) ∧ (tKd b L p = 1 → aL h1 (g + 6) t = Int64.ofNat (tNm b L p)) ∧ (tKd b L p = 2 → aL h1 (g + 6) t = Int64.ofNat (tIv b L p)) := by
  have hL := tx.1
  have v1 : vp_in (nI t) 401 := vp_in_nI (by omega) (by decide)
  have v2 : (nI t).toNatClampNeg = t := nI_clamp (by omega)
  have x0 : Fr (fun a => a = g + 4 ∨ a = g + 6) NF h (wL h (g + 6) t 0) := Fr_wL _ _ _ _ (Or.inr rfl)
  have s0 := Sh_fr x0 (fun a z => by omega) hs
  have t0 := TXc_fr x0 (fun z => by omega) tx
  have w0 : ∀ j, j < 14 → aL (wL h (g + 6) t 0) (g + 7) j = cWord j := fun j hj => (x0.L (a := g + 7) (fun z => by omega) j).trans (hw j hj)
  have r6 : ∀ j, aL (wL h (g + 6) t 0) (g + 6) j = if j = t then 0 else aL h (g + 6) j := by
    intro j
    rw [aL_wL _ _ _ _ _ _ (Tok_9 (Cls_13 hs.1))]
    simp only [true_and]
  have r60 := r6 t
  rw [if_pos rfl] at r60
  have r4 : ∀ j, aI (wL h (g + 6) t 0) (g + 4) j = aI h (g + 4) j := fun j => aI_wL ..
  have ent : ev 86 0 [some (.ref (g + 3)), some (.ref (g + 1)), some (.int (nI L)), some (.int (nI p)), some (.int (nI t))] [] h = ev 86 8 [some (.ref (g + 3)), some (.ref (g + 1)), some (.int (nI L)), some (.int (nI p)), some (.int (nI t))] [] (wL h (g + 6) t 0) := by
    simp +decide only [e86_0, e86_1, e86_4, e86_6, e86_7, (Tok_0 (Cls_13 hs.1) : ob h (g + 3) 9), (rf_g (Tok_1 (Cls_13 hs.1) : rf h (g + 3) 0 (g + 4)) : gR h (g + 3) 0 = (g + 4)), (rf_is (Tok_1 (Cls_13 hs.1) : rf h (g + 3) 0 (g + 4)) : isR h (g + 3) 0), (rf_g (Tok_2 (Cls_13 hs.1) : rf h (g + 3) 1 (g + 5)) : gR h (g + 3) 1 = (g + 5)), (rf_is (Tok_2 (Cls_13 hs.1) : rf h (g + 3) 1 (g + 5)) : isR h (g + 3) 1), (rf_g (Tok_3 (Cls_13 hs.1) : rf h (g + 3) 2 (g + 6)) : gR h (g + 3) 2 = (g + 6)), (rf_is (Tok_3 (Cls_13 hs.1) : rf h (g + 3) 2 (g + 6)) : isR h (g + 3) 2), (rf_g (Tok_4 (Cls_13 hs.1) : rf h (g + 3) 3 (g + 7)) : gR h (g + 3) 3 = (g + 7)), (rf_is (Tok_4 (Cls_13 hs.1) : rf h (g + 3) 3 (g + 7)) : isR h (g + 3) 3), (Tok_5 (Cls_13 hs.1) : arI h (g + 4) 0), (rdI_0 (Tok_5 (Cls_13 hs.1) : arI h (g + 4) 0) : rdI h (g + 4)), (Tok_6 (Cls_13 hs.1) : aln h (g + 4) = 401), (Tok_7 (Cls_13 hs.1) : arI h (g + 5) 0), (rdI_0 (Tok_7 (Cls_13 hs.1) : arI h (g + 5) 0) : rdI h (g + 5)), (Tok_8 (Cls_13 hs.1) : aln h (g + 5) = 401), (Tok_9 (Cls_13 hs.1) : arL h (g + 6)), (Tok_10 (Cls_13 hs.1) : aln h (g + 6) = 401), (Tok_11 (Cls_13 hs.1) : arL h (g + 7)), (Tok_12 (Cls_13 hs.1) : aln h (g + 7) = 14), v1, v2, vkk_n, vkk_i, vkk_r, vkk_l, vkk_d, catS_nil, catS_i, catS_r, catS_l, catS_d, Nat.reduceAdd, Nat.reduceLeDiff, Nat.zero_le, Nat.le_refl, Option.bind_some, Option.toList_some, Option.toList_none, List.cons_append, List.nil_append, or_true, true_or, if_true, if_false, Int32.reduceLT, Int32.reduceLE, not_true, not_false_iff, true_and, and_true, false_and, and_false]
  rw [ent]
  have old : ∀ h1, (∀ j, ¬ j = t → aI h1 (g + 4) j = aI (wL h (g + 6) t 0) (g + 4) j ∧ aL h1 (g + 6) j = aL (wL h (g + 6) t 0) (g + 6) j) → ∀ j, ¬ j = t → aI h1 (g + 4) j = aI h (g + 4) j ∧ aL h1 (g + 6) j = aL h (g + 6) j := fun h1 q j hj => ⟨(q j hj).1.trans (r4 j), (q j hj).2.trans (by rw [r6 j, if_neg hj])⟩
  generalize wL h (g + 6) t 0 = W at x0 s0 t0 w0 r6 r60 r4 old ⊢
  by_cases q : L ≤ p
  · obtain rfl : L = p := by omega
    have q' : ¬ nI L < nI L := nI_nlt (Nat.le_refl _) (by omega)
    have eE : tEnd b L L = L := if_pos q
    have eK : tKd b L L = 0 := if_pos q
    have x1 : Fr (fun a => a = g + 4 ∨ a = g + 6) NF W (wI W (g + 4) t 0) := Fr_wI _ _ _ _ (Or.inl rfl)
    have y4 : ∀ j, aI (wI W (g + 4) t 0) (g + 4) j = if j = t then 0 else aI W (g + 4) j := by
      intro j
      rw [aI_wI0 _ _ _ _ _ _ (Tok_5 (Cls_13 s0.1))]
      simp only [true_and]
    rw [eE, eK]
    refine ⟨wI W (g + 4) t 0, ?_, x0.tr x1, old _ (fun j hj => ⟨by rw [y4 j, if_neg hj], aL_wI ..⟩), ?_, fun z => by omega, fun z => by omega, fun z => by omega⟩
    · simp +decide only [e86_8, e86_9, e86_10, e86_13, e86_14, e86_17, e86_19, e86_20, e86_21, e86_22, e86_23, e86_24, e86_25, e86_26, e86_29, e86_32, e86_33, e86_34, e86_35, e86_36, e86_38, e86_41, e86_42, e86_43, e86_44, e86_45, e86_48, e86_51, e86_52, e86_53, e86_54, e86_55, e86_57, e86_60, e86_61, e86_62, e86_65, e86_67, e86_68, e86_69, e86_70, e86_72, e86_75, e86_76, e86_79, e86_80, e86_81, e86_82, e86_83, e86_84, q', (Tok_0 (Cls_13 s0.1) : ob W (g + 3) 9), (rf_g (Tok_1 (Cls_13 s0.1) : rf W (g + 3) 0 (g + 4)) : gR W (g + 3) 0 = (g + 4)), (rf_is (Tok_1 (Cls_13 s0.1) : rf W (g + 3) 0 (g + 4)) : isR W (g + 3) 0), (rf_g (Tok_2 (Cls_13 s0.1) : rf W (g + 3) 1 (g + 5)) : gR W (g + 3) 1 = (g + 5)), (rf_is (Tok_2 (Cls_13 s0.1) : rf W (g + 3) 1 (g + 5)) : isR W (g + 3) 1), (rf_g (Tok_3 (Cls_13 s0.1) : rf W (g + 3) 2 (g + 6)) : gR W (g + 3) 2 = (g + 6)), (rf_is (Tok_3 (Cls_13 s0.1) : rf W (g + 3) 2 (g + 6)) : isR W (g + 3) 2), (rf_g (Tok_4 (Cls_13 s0.1) : rf W (g + 3) 3 (g + 7)) : gR W (g + 3) 3 = (g + 7)), (rf_is (Tok_4 (Cls_13 s0.1) : rf W (g + 3) 3 (g + 7)) : isR W (g + 3) 3), (Tok_5 (Cls_13 s0.1) : arI W (g + 4) 0), (rdI_0 (Tok_5 (Cls_13 s0.1) : arI W (g + 4) 0) : rdI W (g + 4)), (Tok_6 (Cls_13 s0.1) : aln W (g + 4) = 401), (Tok_7 (Cls_13 s0.1) : arI W (g + 5) 0), (rdI_0 (Tok_7 (Cls_13 s0.1) : arI W (g + 5) 0) : rdI W (g + 5)), (Tok_8 (Cls_13 s0.1) : aln W (g + 5) = 401), (Tok_9 (Cls_13 s0.1) : arL W (g + 6)), (Tok_10 (Cls_13 s0.1) : aln W (g + 6) = 401), (Tok_11 (Cls_13 s0.1) : arL W (g + 7)), (Tok_12 (Cls_13 s0.1) : aln W (g + 7) = 14), v1, v2, vkk_n, vkk_i, vkk_r, vkk_l, vkk_d, catS_nil, catS_i, catS_r, catS_l, catS_d, Nat.reduceAdd, Nat.reduceLeDiff, Nat.zero_le, Nat.le_refl, Option.bind_some, Option.toList_some, Option.toList_none, List.cons_append, List.nil_append, or_true, true_or, if_true, if_false, Int32.reduceLT, Int32.reduceLE, not_true, not_false_iff, true_and, and_true, false_and, and_false]
    · rw [y4 t, if_pos rfl]
      rfl
  have q' : nI p < nI L := nI_lt (by omega) (by omega)
  have v3 : vp_in (nI p) 2000 := vp_in_nI (by omega) (by decide)
  have v4 : (nI p).toNatClampNeg = p := nI_clamp (by omega)
  obtain ⟨b1, b2⟩ := t0.2 p (by omega)
  have le := c_le W b1
  have di := c_di W b1
  cases ql : isLe (b p) with
  | true =>
    rw [ql] at le
    have le : ev 90 0 [some (.int (sB (b p)))] [] W = some (some (.int 1), W) := le
    obtain ⟨h1, u1, u2, u3, u4, u5, u6⟩ := c_scWord W g L p t b ht (by omega) ql s0 t0 w0 r60
    refine ⟨h1, ?_, x0.tr u2, old _ u3, u4, u5, u6, fun z => ?_⟩
    · simp +decide only [e86_8, e86_9, e86_10, e86_13, e86_14, e86_17, e86_19, e86_20, e86_21, e86_22, e86_23, e86_24, e86_25, e86_26, e86_29, e86_32, e86_33, e86_34, e86_35, e86_36, e86_38, e86_41, e86_42, e86_43, e86_44, e86_45, e86_48, e86_51, e86_52, e86_53, e86_54, e86_55, e86_57, e86_60, e86_61, e86_62, e86_65, e86_67, e86_68, e86_69, e86_70, e86_72, e86_75, e86_76, e86_79, e86_80, e86_81, e86_82, e86_83, e86_84, q', (Cls_9 s0.1 : arI W (g + 1) 2), (rdB_2 (Cls_9 s0.1 : arI W (g + 1) 2) : rdB W (g + 1)), (Cls_10 s0.1 : aln W (g + 1) = 2000), v3, v4, b2, le, (Tok_0 (Cls_13 s0.1) : ob W (g + 3) 9), u1, vkk_n, vkk_i, vkk_r, vkk_l, vkk_d, catS_nil, catS_i, catS_r, catS_l, catS_d, Nat.reduceAdd, Nat.reduceLeDiff, Nat.zero_le, Nat.le_refl, Option.bind_some, Option.toList_some, Option.toList_none, List.cons_append, List.nil_append, or_true, true_or, if_true, if_false, Int32.reduceLT, Int32.reduceLE, not_true, not_false_iff, true_and, and_true, false_and, and_false]
    · exfalso
      unfold tKd at z
      rw [if_neg q, ql] at z
      simp only [if_true] at z
      revert z
      split
      · omega
      · rcases wKd_or (vl 32 (dgL b p) (spn isLe b (L - p) p - p)) with y | y <;> omega
  | false =>
    rw [ql] at le
    have le : ev 90 0 [some (.int (sB (b p)))] [] W = some (some (.int 0), W) := le
    cases qd : isDi (b p) with
    | true =>
      rw [qd] at di
      have di : ev 91 0 [some (.int (sB (b p)))] [] W = some (some (.int 1), W) := di
      obtain ⟨h1, u1, u2, u3, u4, u5⟩ := c_scDigits W g L p t b ht (by omega) ql qd s0 t0 r60
      have kk : tKd b L p = 3 ∨ tKd b L p = 2 := by
        unfold tKd
        rw [if_neg q, ql, qd]
        simp only [Bool.false_eq_true, if_false, if_true]
        split
        · exact Or.inl rfl
        · exact Or.inr rfl
      refine ⟨h1, ?_, x0.tr u2, old _ u3, u4, fun z => by omega, fun z => by omega, u5⟩
      simp +decide only [e86_8, e86_9, e86_10, e86_13, e86_14, e86_17, e86_19, e86_20, e86_21, e86_22, e86_23, e86_24, e86_25, e86_26, e86_29, e86_32, e86_33, e86_34, e86_35, e86_36, e86_38, e86_41, e86_42, e86_43, e86_44, e86_45, e86_48, e86_51, e86_52, e86_53, e86_54, e86_55, e86_57, e86_60, e86_61, e86_62, e86_65, e86_67, e86_68, e86_69, e86_70, e86_72, e86_75, e86_76, e86_79, e86_80, e86_81, e86_82, e86_83, e86_84, q', (Cls_9 s0.1 : arI W (g + 1) 2), (rdB_2 (Cls_9 s0.1 : arI W (g + 1) 2) : rdB W (g + 1)), (Cls_10 s0.1 : aln W (g + 1) = 2000), v3, v4, b2, le, di, (Tok_0 (Cls_13 s0.1) : ob W (g + 3) 9), u1, vkk_n, vkk_i, vkk_r, vkk_l, vkk_d, catS_nil, catS_i, catS_r, catS_l, catS_d, Nat.reduceAdd, Nat.reduceLeDiff, Nat.zero_le, Nat.le_refl, Option.bind_some, Option.toList_some, Option.toList_none, List.cons_append, List.nil_append, or_true, true_or, if_true, if_false, Int32.reduceLT, Int32.reduceLE, not_true, not_false_iff, true_and, and_true, false_and, and_false]
    | false =>
      rw [qd] at di
      have di : ev 91 0 [some (.int (sB (b p)))] [] W = some (some (.int 0), W) := di
      have eE : tEnd b L p = p + 1 := by
        unfold tEnd
        rw [if_neg q, ql, qd]
        rfl
      have eK : tKd b L p = if b p = 59 then 4 else 3 := by
        unfold tKd
        rw [if_neg q, ql, qd]
        rfl
      have s59 : sB (b p) = 59 ↔ b p = 59 := sB_59 ⟨b p, b1⟩
      have fin : ∀ y : Int32, (∀ j, aI (wI W (g + 4) t y) (g + 4) j = if j = t then y else aI W (g + 4) j) ∧ Fr (fun a => a = g + 4 ∨ a = g + 6) NF W (wI W (g + 4) t y) := fun y => ⟨fun j => by
        rw [aI_wI0 _ _ _ _ _ _ (Tok_5 (Cls_13 s0.1))]
        simp only [true_and], Fr_wI _ _ _ _ (Or.inl rfl)⟩
      rw [eE, eK]
      by_cases y : b p = 59
      · have y' := s59.mpr y
        obtain ⟨f4, x1⟩ := fin 4
        rw [if_pos y]
        refine ⟨wI W (g + 4) t 4, ?_, x0.tr x1, old _ (fun j hj => ⟨by rw [f4 j, if_neg hj], aL_wI ..⟩), by rw [f4 t, if_pos rfl]; rfl, fun z => by omega, fun z => by omega, fun z => by omega⟩
        rw [y'] at b2 le di
        simp +decide only [e86_8, e86_9, e86_10, e86_13, e86_14, e86_17, e86_19, e86_20, e86_21, e86_22, e86_23, e86_24, e86_25, e86_26, e86_29, e86_32, e86_33, e86_34, e86_35, e86_36, e86_38, e86_41, e86_42, e86_43, e86_44, e86_45, e86_48, e86_51, e86_52, e86_53, e86_54, e86_55, e86_57, e86_60, e86_61, e86_62, e86_65, e86_67, e86_68, e86_69, e86_70, e86_72, e86_75, e86_76, e86_79, e86_80, e86_81, e86_82, e86_83, e86_84, q', (Cls_9 s0.1 : arI W (g + 1) 2), (rdB_2 (Cls_9 s0.1 : arI W (g + 1) 2) : rdB W (g + 1)), (Cls_10 s0.1 : aln W (g + 1) = 2000), (Tok_0 (Cls_13 s0.1) : ob W (g + 3) 9), (rf_g (Tok_1 (Cls_13 s0.1) : rf W (g + 3) 0 (g + 4)) : gR W (g + 3) 0 = (g + 4)), (rf_is (Tok_1 (Cls_13 s0.1) : rf W (g + 3) 0 (g + 4)) : isR W (g + 3) 0), (rf_g (Tok_2 (Cls_13 s0.1) : rf W (g + 3) 1 (g + 5)) : gR W (g + 3) 1 = (g + 5)), (rf_is (Tok_2 (Cls_13 s0.1) : rf W (g + 3) 1 (g + 5)) : isR W (g + 3) 1), (rf_g (Tok_3 (Cls_13 s0.1) : rf W (g + 3) 2 (g + 6)) : gR W (g + 3) 2 = (g + 6)), (rf_is (Tok_3 (Cls_13 s0.1) : rf W (g + 3) 2 (g + 6)) : isR W (g + 3) 2), (rf_g (Tok_4 (Cls_13 s0.1) : rf W (g + 3) 3 (g + 7)) : gR W (g + 3) 3 = (g + 7)), (rf_is (Tok_4 (Cls_13 s0.1) : rf W (g + 3) 3 (g + 7)) : isR W (g + 3) 3), (Tok_5 (Cls_13 s0.1) : arI W (g + 4) 0), (rdI_0 (Tok_5 (Cls_13 s0.1) : arI W (g + 4) 0) : rdI W (g + 4)), (Tok_6 (Cls_13 s0.1) : aln W (g + 4) = 401), (Tok_7 (Cls_13 s0.1) : arI W (g + 5) 0), (rdI_0 (Tok_7 (Cls_13 s0.1) : arI W (g + 5) 0) : rdI W (g + 5)), (Tok_8 (Cls_13 s0.1) : aln W (g + 5) = 401), (Tok_9 (Cls_13 s0.1) : arL W (g + 6)), (Tok_10 (Cls_13 s0.1) : aln W (g + 6) = 401), (Tok_11 (Cls_13 s0.1) : arL W (g + 7)), (Tok_12 (Cls_13 s0.1) : aln W (g + 7) = 14), v1, v2, v3, v4, b2, le, di, nI_1, nI_add, vkk_n, vkk_i, vkk_r, vkk_l, vkk_d, catS_nil, catS_i, catS_r, catS_l, catS_d, Nat.reduceAdd, Nat.reduceLeDiff, Nat.zero_le, Nat.le_refl, Option.bind_some, Option.toList_some, Option.toList_none, List.cons_append, List.nil_append, or_true, true_or, if_true, if_false, Int32.reduceLT, Int32.reduceLE, not_true, not_false_iff, true_and, and_true, false_and, and_false]
      · have y' : ¬ sB (b p) = 59 := fun z => y (s59.mp z)
        obtain ⟨f4, x1⟩ := fin 1
        rw [if_neg y]
        refine ⟨wI W (g + 4) t 1, ?_, x0.tr x1, old _ (fun j hj => ⟨by rw [f4 j, if_neg hj], aL_wI ..⟩), by rw [f4 t, if_pos rfl]; rfl, fun z => by omega, fun z => by omega, fun z => by omega⟩
        simp +decide only [e86_8, e86_9, e86_10, e86_13, e86_14, e86_17, e86_19, e86_20, e86_21, e86_22, e86_23, e86_24, e86_25, e86_26, e86_29, e86_32, e86_33, e86_34, e86_35, e86_36, e86_38, e86_41, e86_42, e86_43, e86_44, e86_45, e86_48, e86_51, e86_52, e86_53, e86_54, e86_55, e86_57, e86_60, e86_61, e86_62, e86_65, e86_67, e86_68, e86_69, e86_70, e86_72, e86_75, e86_76, e86_79, e86_80, e86_81, e86_82, e86_83, e86_84, q', (Cls_9 s0.1 : arI W (g + 1) 2), (rdB_2 (Cls_9 s0.1 : arI W (g + 1) 2) : rdB W (g + 1)), (Cls_10 s0.1 : aln W (g + 1) = 2000), (Tok_0 (Cls_13 s0.1) : ob W (g + 3) 9), (rf_g (Tok_1 (Cls_13 s0.1) : rf W (g + 3) 0 (g + 4)) : gR W (g + 3) 0 = (g + 4)), (rf_is (Tok_1 (Cls_13 s0.1) : rf W (g + 3) 0 (g + 4)) : isR W (g + 3) 0), (rf_g (Tok_2 (Cls_13 s0.1) : rf W (g + 3) 1 (g + 5)) : gR W (g + 3) 1 = (g + 5)), (rf_is (Tok_2 (Cls_13 s0.1) : rf W (g + 3) 1 (g + 5)) : isR W (g + 3) 1), (rf_g (Tok_3 (Cls_13 s0.1) : rf W (g + 3) 2 (g + 6)) : gR W (g + 3) 2 = (g + 6)), (rf_is (Tok_3 (Cls_13 s0.1) : rf W (g + 3) 2 (g + 6)) : isR W (g + 3) 2), (rf_g (Tok_4 (Cls_13 s0.1) : rf W (g + 3) 3 (g + 7)) : gR W (g + 3) 3 = (g + 7)), (rf_is (Tok_4 (Cls_13 s0.1) : rf W (g + 3) 3 (g + 7)) : isR W (g + 3) 3), (Tok_5 (Cls_13 s0.1) : arI W (g + 4) 0), (rdI_0 (Tok_5 (Cls_13 s0.1) : arI W (g + 4) 0) : rdI W (g + 4)), (Tok_6 (Cls_13 s0.1) : aln W (g + 4) = 401), (Tok_7 (Cls_13 s0.1) : arI W (g + 5) 0), (rdI_0 (Tok_7 (Cls_13 s0.1) : arI W (g + 5) 0) : rdI W (g + 5)), (Tok_8 (Cls_13 s0.1) : aln W (g + 5) = 401), (Tok_9 (Cls_13 s0.1) : arL W (g + 6)), (Tok_10 (Cls_13 s0.1) : aln W (g + 6) = 401), (Tok_11 (Cls_13 s0.1) : arL W (g + 7)), (Tok_12 (Cls_13 s0.1) : aln W (g + 7) = 14), v1, v2, v3, v4, b2, le, di, y', nI_1, nI_add, vkk_n, vkk_i, vkk_r, vkk_l, vkk_d, catS_nil, catS_i, catS_r, catS_l, catS_d, Nat.reduceAdd, Nat.reduceLeDiff, Nat.zero_le, Nat.le_refl, Option.bind_some, Option.toList_some, Option.toList_none, List.cons_append, List.nil_append, or_true, true_or, if_true, if_false, Int32.reduceLT, Int32.reduceLE, not_true, not_false_iff, true_and, and_true, false_and, and_false]
theorem l_scB (g L t : Nat) (b : Nat → Nat) (h : VG) (hs : Sh h g) (tx : TXc h g b L) : ∀ d at_, at_ + d = L → ev 85 13 [some (.ref (g + 3)), some (.ref (g + 1)), some (.int (nI L)), some (.int (nI at_)), some (.int (nI t))] [] h = ev 85 33 [some (.ref (g + 3)), some (.ref (g + 1)), some (.int (nI L)), some (.int (nI (spn isBl b d at_))), some (.int (nI t))] [] h := by
  have hL := tx.1
  intro d
  induction d with
  | zero =>
    intro at_ hd
    obtain rfl : L = at_ := by omega
    have q : ¬ nI L < nI L := nI_nlt (Nat.le_refl _) (by omega)
    show _ = ev 85 33 [some (.ref (g + 3)), some (.ref (g + 1)), some (.int (nI L)), some (.int (nI L)), some (.int (nI t))] [] h
    simp +decide only [e85_13, e85_14, e85_15, q, vkk_n, vkk_i, vkk_r, vkk_l, vkk_d, catS_nil, catS_i, catS_r, catS_l, catS_d, Nat.reduceAdd, Nat.reduceLeDiff, Nat.zero_le, Nat.le_refl, Option.bind_some, Option.toList_some, Option.toList_none, List.cons_append, List.nil_append, or_true, true_or, if_true, if_false, Int32.reduceLT, Int32.reduceLE, not_true, not_false_iff, true_and, and_true, false_and, and_false]
  | succ d ih =>
    intro at_ hd
    have q : nI at_ < nI L := nI_lt (by omega) (by omega)
    obtain ⟨b1, b2⟩ := tx.2 at_ (by omega)
    have v3 : vp_in (nI at_) 2000 := vp_in_nI (by omega) (by decide)
    have v4 : (nI at_).toNatClampNeg = at_ := nI_clamp (by omega)
    have bl := c_isBlank h b1
    have e : spn isBl b (d + 1) at_ = if isBl (b at_) then spn isBl b d (at_ + 1) else at_ := rfl
    rw [e]
    cases z : isBl (b at_) with
    | false =>
      simp only [Bool.false_eq_true, if_false]
      rw [z] at bl
      have bl : ev 89 0 [some (.int (sB (b at_)))] [] h = some (some (.int 0), h) := bl
      simp +decide only [e85_13, e85_14, e85_15, q, if_true]
      simp +decide only [e85_18, e85_19, e85_20, e85_21, e85_24, e85_27, e85_30, (Cls_9 hs.1 : arI h (g + 1) 2), (rdB_2 (Cls_9 hs.1 : arI h (g + 1) 2) : rdB h (g + 1)), (Cls_10 hs.1 : aln h (g + 1) = 2000), v3, v4, b2, bl, vkk_n, vkk_i, vkk_r, vkk_l, vkk_d, catS_nil, catS_i, catS_r, catS_l, catS_d, Nat.reduceAdd, Nat.reduceLeDiff, Nat.zero_le, Nat.le_refl, Option.bind_some, Option.toList_some, Option.toList_none, List.cons_append, List.nil_append, or_true, true_or, if_true, if_false, Int32.reduceLT, Int32.reduceLE, not_true, not_false_iff, true_and, and_true, false_and, and_false]
    | true =>
      simp only [if_true]
      rw [z] at bl
      have bl : ev 89 0 [some (.int (sB (b at_)))] [] h = some (some (.int 1), h) := bl
      have y := ih (at_ + 1) (by omega)
      simp +decide only [e85_13, e85_14, e85_15, q, if_true]
      simp +decide only [e85_18, e85_19, e85_20, e85_21, e85_24, e85_27, e85_30, (Cls_9 hs.1 : arI h (g + 1) 2), (rdB_2 (Cls_9 hs.1 : arI h (g + 1) 2) : rdB h (g + 1)), (Cls_10 hs.1 : aln h (g + 1) = 2000), v3, v4, b2, bl, nI_1, nI_add, vkk_n, vkk_i, vkk_r, vkk_l, vkk_d, catS_nil, catS_i, catS_r, catS_l, catS_d, Nat.reduceAdd, Nat.reduceLeDiff, Nat.zero_le, Nat.le_refl, Option.bind_some, Option.toList_some, Option.toList_none, List.cons_append, List.nil_append, or_true, true_or, if_true, if_false, Int32.reduceLT, Int32.reduceLE, not_true, not_false_iff, true_and, and_true, false_and, and_false]
      exact y
def kd (b : Nat → Nat) (L t : Nat) : Nat := tKd b L (tPl b L t)
def TC (h : VG) (g : Nat) (b : Nat → Nat) (L n : Nat) : Prop := ∀ t, t < n → aI h (g + 4) t = nI (cTy (kd b L t)) ∧ aI h (g + 5) t = nI (tPl b L t) ∧ (24 ≤ kd b L t → aL h (g + 6) t = Int64.ofNat (kd b L t - 24)) ∧ (kd b L t = 1 → aL h (g + 6) t = Int64.ofNat (tNm b L (tPl b L t))) ∧ (kd b L t = 2 → aL h (g + 6) t = Int64.ofNat (tIv b L (tPl b L t)))
theorem cTy_0 {k : Nat} (h : k ≤ 4 ∨ (20 ≤ k ∧ k ≤ 33)) : cTy k < 10 ∧ (cTy k = 0 ↔ k = 0) ∧ (cTy k = 1 ↔ k = 3) ∧ (cTy k = 2 ↔ k = 1) ∧ (cTy k = 3 ↔ k = 2) ∧ (cTy k = 4 ↔ k = 4) ∧ (cTy k = 5 ↔ 24 ≤ k) ∧ (cTy k = 6 ↔ k = 20) ∧ (cTy k = 7 ↔ k = 21) ∧ (cTy k = 8 ↔ k = 22) ∧ (cTy k = 9 ↔ k = 23) := by
  have : ∀ k : Fin 34, (k.val ≤ 4 ∨ 20 ≤ k.val) → cTy k.val < 10 ∧ (cTy k.val = 0 ↔ k.val = 0) ∧ (cTy k.val = 1 ↔ k.val = 3) ∧ (cTy k.val = 2 ↔ k.val = 1) ∧ (cTy k.val = 3 ↔ k.val = 2) ∧ (cTy k.val = 4 ↔ k.val = 4) ∧ (cTy k.val = 5 ↔ 24 ≤ k.val) ∧ (cTy k.val = 6 ↔ k.val = 20) ∧ (cTy k.val = 7 ↔ k.val = 21) ∧ (cTy k.val = 8 ↔ k.val = 22) ∧ (cTy k.val = 9 ↔ k.val = 23) := by decide +kernel
  exact this ⟨k, by omega⟩ (by simp only; omega)
theorem kd_or (b : Nat → Nat) (L t : Nat) : kd b L t ≤ 4 ∨ (20 ≤ kd b L t ∧ kd b L t ≤ 33) := tKd_or b L _
set_option maxHeartbeats 4000000 in
theorem l_scan (g L : Nat) (b : Nat → Nat) : ∀ d t h, t + d = 401 → Sh h g → TXc h g b L → (∀ j, j < 14 → aL h (g + 7) j = cWord j) → TC h g b L t → (∀ x, x < t → ¬ kd b L x = 0 ∧ ¬ kd b L x = 3) → ∃ (h1 : VG) (TT : Nat), ev 85 5 [some (.ref (g + 3)), some (.ref (g + 1)), some (.int (nI L)), some (.int (nI (tAt b L t))), some (.int (nI t))] [] h = some (none, h1) ∧ Fr (fun a => a = g + 4 ∨ a = g + 5 ∨ a = g + 6) NF h h1 ∧ TC h1 g b L (TT + 1) ∧ TT ≤ 400 ∧ (∀ x, x < TT → ¬ kd b L x = 0 ∧ ¬ kd b L x = 3) ∧ (TT = 400 ∨ kd b L TT = 0 ∨ kd b L TT = 3) := by
  intro d
  induction d with
  | zero =>
    intro t h hd hs tx hw tc hk
    obtain rfl : t = 401 := by omega
    have q : ¬ nI 401 ≤ 400 := by decide
    refine ⟨h, 400, ?_, Fr.rfl _, tc, Nat.le_refl _, fun x hx => hk x (by omega), Or.inl rfl⟩
    simp +decide only [e85_5, e85_7, e85_10, e85_79, q, vkk_n, vkk_i, vkk_r, vkk_l, vkk_d, catS_nil, catS_i, catS_r, catS_l, catS_d, Nat.reduceAdd, Nat.reduceLeDiff, Nat.zero_le, Nat.le_refl, Option.bind_some, Option.toList_some, Option.toList_none, List.cons_append, List.nil_append, or_true, true_or, if_true, if_false, Int32.reduceLT, Int32.reduceLE, not_true, not_false_iff, true_and, and_true, false_and, and_false]
  | succ d ih =>
    intro t h hd hs tx hw tc hk
    have hL := tx.1
    have q : nI t ≤ 400 := nI_le (b := 400) (by omega) (by decide)
    have v1 : vp_in (nI t) 401 := vp_in_nI (by omega) (by decide)
    have v2 : (nI t).toNatClampNeg = t := nI_clamp (by omega)
    have bl := l_scB g L t b h hs tx (L - tAt b L t) (tAt b L t) (by have := tAt_le b L t; omega)
    have bl : ev 85 13 [some (.ref (g + 3)), some (.ref (g + 1)), some (.int (nI L)), some (.int (nI (tAt b L t))), some (.int (nI t))] [] h = ev 85 33 [some (.ref (g + 3)), some (.ref (g + 1)), some (.int (nI L)), some (.int (nI (tPl b L t))), some (.int (nI t))] [] h := bl
    have x0 : Fr (fun a => a = g + 4 ∨ a = g + 5 ∨ a = g + 6) NF h (wI h (g + 5) t (nI (tPl b L t))) := Fr_wI _ _ _ _ (Or.inr (Or.inl rfl))
    have s0 := Sh_fr x0 (fun a z => by omega) hs
    have t0 := TXc_fr x0 (fun z => by omega) tx
    have w0 : ∀ j, j < 14 → aL (wI h (g + 5) t (nI (tPl b L t))) (g + 7) j = cWord j := fun j hj => (x0.L (a := g + 7) (fun z => by omega) j).trans (hw j hj)
    have r5 : ∀ j, aI (wI h (g + 5) t (nI (tPl b L t))) (g + 5) j = if j = t then nI (tPl b L t) else aI h (g + 5) j := by
      intro j
      rw [aI_wI0 _ _ _ _ _ _ (Tok_7 (Cls_13 hs.1))]
      simp only [true_and]
    have r4 : ∀ j, aI (wI h (g + 5) t (nI (tPl b L t))) (g + 4) j = aI h (g + 4) j := fun j => aI_wI_ne _ _ _ _ _ _ (fun z => by omega)
    have r6 : ∀ j, aL (wI h (g + 5) t (nI (tPl b L t))) (g + 6) j = aL h (g + 6) j := fun j => aL_wI ..
    have ent : ev 85 5 [some (.ref (g + 3)), some (.ref (g + 1)), some (.int (nI L)), some (.int (nI (tAt b L t))), some (.int (nI t))] [] h = ev 85 41 [some (.ref (g + 3)), some (.ref (g + 1)), some (.int (nI L)), some (.int (nI (tPl b L t))), some (.int (nI t))] [] (wI h (g + 5) t (nI (tPl b L t))) := by
      simp +decide only [e85_5, e85_7, e85_10, e85_79, q, if_true]
      rw [bl]
      simp +decide only [e85_33, e85_34, e85_37, e85_39, e85_40, (Tok_0 (Cls_13 hs.1) : ob h (g + 3) 9), (rf_g (Tok_1 (Cls_13 hs.1) : rf h (g + 3) 0 (g + 4)) : gR h (g + 3) 0 = (g + 4)), (rf_is (Tok_1 (Cls_13 hs.1) : rf h (g + 3) 0 (g + 4)) : isR h (g + 3) 0), (rf_g (Tok_2 (Cls_13 hs.1) : rf h (g + 3) 1 (g + 5)) : gR h (g + 3) 1 = (g + 5)), (rf_is (Tok_2 (Cls_13 hs.1) : rf h (g + 3) 1 (g + 5)) : isR h (g + 3) 1), (rf_g (Tok_3 (Cls_13 hs.1) : rf h (g + 3) 2 (g + 6)) : gR h (g + 3) 2 = (g + 6)), (rf_is (Tok_3 (Cls_13 hs.1) : rf h (g + 3) 2 (g + 6)) : isR h (g + 3) 2), (rf_g (Tok_4 (Cls_13 hs.1) : rf h (g + 3) 3 (g + 7)) : gR h (g + 3) 3 = (g + 7)), (rf_is (Tok_4 (Cls_13 hs.1) : rf h (g + 3) 3 (g + 7)) : isR h (g + 3) 3), (Tok_5 (Cls_13 hs.1) : arI h (g + 4) 0), (rdI_0 (Tok_5 (Cls_13 hs.1) : arI h (g + 4) 0) : rdI h (g + 4)), (Tok_6 (Cls_13 hs.1) : aln h (g + 4) = 401), (Tok_7 (Cls_13 hs.1) : arI h (g + 5) 0), (rdI_0 (Tok_7 (Cls_13 hs.1) : arI h (g + 5) 0) : rdI h (g + 5)), (Tok_8 (Cls_13 hs.1) : aln h (g + 5) = 401), (Tok_9 (Cls_13 hs.1) : arL h (g + 6)), (Tok_10 (Cls_13 hs.1) : aln h (g + 6) = 401), (Tok_11 (Cls_13 hs.1) : arL h (g + 7)), (Tok_12 (Cls_13 hs.1) : aln h (g + 7) = 14), v1, v2, vkk_n, vkk_i, vkk_r, vkk_l, vkk_d, catS_nil, catS_i, catS_r, catS_l, catS_d, Nat.reduceAdd, Nat.reduceLeDiff, Nat.zero_le, Nat.le_refl, Option.bind_some, Option.toList_some, Option.toList_none, List.cons_append, List.nil_append, or_true, true_or, if_true, if_false, Int32.reduceLT, Int32.reduceLE, not_true, not_false_iff, true_and, and_true, false_and, and_false]
    rw [ent]
    generalize wI h (g + 5) t (nI (tPl b L t)) = W at x0 s0 t0 w0 r5 r4 r6 ⊢
    obtain ⟨h1, u1, u2, u3, u4, u5, u6, u7⟩ := c_scToken W g L (tPl b L t) t b (by omega) (tPl_le b L t) s0 t0 w0
    have s1 : Sh h1 g := Sh_fr u2 (fun a z => by omega) s0
    have F1 : Fr (fun a => a = g + 4 ∨ a = g + 5 ∨ a = g + 6) NF h h1 := x0.tr (u2.mo (fun a z => by omega) (fun _ _ z => z))
    have tc1 : TC h1 g b L (t + 1) := by
      intro x hx
      by_cases e : x = t
      · subst e
        refine ⟨u4, ?_, u5, u6, u7⟩
        rw [u2.I (fun z => by omega), r5, if_pos rfl]
      · obtain ⟨a1, a2, a3, a4, a5⟩ := tc x (by omega)
        obtain ⟨y1, y2⟩ := u3 x e
        rw [y1, y2, r4, r6, u2.I (fun z => by omega), r5, if_neg e]
        exact ⟨a1, a2, a3, a4, a5⟩
    have u4' : aI h1 (g + 4) t = nI (cTy (kd b L t)) := u4
    obtain ⟨cl, c0, c1, -⟩ := cTy_0 (kd_or b L t)
    have n0 : nI (cTy (kd b L t)) = 0 ↔ cTy (kd b L t) = 0 := nI_eq (b := 0) (by omega) (by decide)
    have n1 : nI (cTy (kd b L t)) = 1 ↔ cTy (kd b L t) = 1 := nI_eq (b := 1) (by omega) (by decide)
    have oT := Tok_0 (Cls_13 s0.1)
    have ent2 : ev 85 41 [some (.ref (g + 3)), some (.ref (g + 1)), some (.int (nI L)), some (.int (nI (tPl b L t))), some (.int (nI t))] [] W = ev 85 51 [some (.ref (g + 3)), some (.ref (g + 1)), some (.int (nI L)), some (.int (nI (tAt b L (t + 1)))), some (.int (nI t))] [] h1 := by
      simp +decide only [e85_41, e85_42, e85_43, e85_44, e85_45, e85_47, e85_50, oT, u1, vkk_n, vkk_i, vkk_r, vkk_l, vkk_d, catS_nil, catS_i, catS_r, catS_l, catS_d, Nat.reduceAdd, Nat.reduceLeDiff, Nat.zero_le, Nat.le_refl, Option.bind_some, Option.toList_some, Option.toList_none, List.cons_append, List.nil_append, or_true, true_or, if_true, if_false, Int32.reduceLT, Int32.reduceLE, not_true, not_false_iff, true_and, and_true, false_and, and_false]
      rfl
    rw [ent2]
    by_cases z0 : kd b L t = 0
    · have y0 := n0.mpr (c0.mpr z0)
      refine ⟨h1, t, ?_, F1, tc1, by omega, hk, Or.inr (Or.inl z0)⟩
      simp +decide only [e85_51, e85_52, e85_55, e85_57, e85_58, e85_61, e85_62, e85_65, e85_67, e85_68, e85_69, e85_72, e85_73, e85_76, (Tok_0 (Cls_13 s1.1) : ob h1 (g + 3) 9), (rf_g (Tok_1 (Cls_13 s1.1) : rf h1 (g + 3) 0 (g + 4)) : gR h1 (g + 3) 0 = (g + 4)), (rf_is (Tok_1 (Cls_13 s1.1) : rf h1 (g + 3) 0 (g + 4)) : isR h1 (g + 3) 0), (rf_g (Tok_2 (Cls_13 s1.1) : rf h1 (g + 3) 1 (g + 5)) : gR h1 (g + 3) 1 = (g + 5)), (rf_is (Tok_2 (Cls_13 s1.1) : rf h1 (g + 3) 1 (g + 5)) : isR h1 (g + 3) 1), (rf_g (Tok_3 (Cls_13 s1.1) : rf h1 (g + 3) 2 (g + 6)) : gR h1 (g + 3) 2 = (g + 6)), (rf_is (Tok_3 (Cls_13 s1.1) : rf h1 (g + 3) 2 (g + 6)) : isR h1 (g + 3) 2), (rf_g (Tok_4 (Cls_13 s1.1) : rf h1 (g + 3) 3 (g + 7)) : gR h1 (g + 3) 3 = (g + 7)), (rf_is (Tok_4 (Cls_13 s1.1) : rf h1 (g + 3) 3 (g + 7)) : isR h1 (g + 3) 3), (Tok_5 (Cls_13 s1.1) : arI h1 (g + 4) 0), (rdI_0 (Tok_5 (Cls_13 s1.1) : arI h1 (g + 4) 0) : rdI h1 (g + 4)), (Tok_6 (Cls_13 s1.1) : aln h1 (g + 4) = 401), (Tok_7 (Cls_13 s1.1) : arI h1 (g + 5) 0), (rdI_0 (Tok_7 (Cls_13 s1.1) : arI h1 (g + 5) 0) : rdI h1 (g + 5)), (Tok_8 (Cls_13 s1.1) : aln h1 (g + 5) = 401), (Tok_9 (Cls_13 s1.1) : arL h1 (g + 6)), (Tok_10 (Cls_13 s1.1) : aln h1 (g + 6) = 401), (Tok_11 (Cls_13 s1.1) : arL h1 (g + 7)), (Tok_12 (Cls_13 s1.1) : aln h1 (g + 7) = 14), v1, v2, u4', y0, vkk_n, vkk_i, vkk_r, vkk_l, vkk_d, catS_nil, catS_i, catS_r, catS_l, catS_d, Nat.reduceAdd, Nat.reduceLeDiff, Nat.zero_le, Nat.le_refl, Option.bind_some, Option.toList_some, Option.toList_none, List.cons_append, List.nil_append, or_true, true_or, if_true, if_false, Int32.reduceLT, Int32.reduceLE, not_true, not_false_iff, true_and, and_true, false_and, and_false]
    · have y0 : ¬ nI (cTy (kd b L t)) = 0 := fun z => z0 (c0.mp (n0.mp z))
      by_cases z3 : kd b L t = 3
      · have y1 := n1.mpr (c1.mpr z3)
        refine ⟨h1, t, ?_, F1, tc1, by omega, hk, Or.inr (Or.inr z3)⟩
        simp +decide only [e85_51, e85_52, e85_55, e85_57, e85_58, e85_61, e85_62, e85_65, e85_67, e85_68, e85_69, e85_72, e85_73, e85_76, (Tok_0 (Cls_13 s1.1) : ob h1 (g + 3) 9), (rf_g (Tok_1 (Cls_13 s1.1) : rf h1 (g + 3) 0 (g + 4)) : gR h1 (g + 3) 0 = (g + 4)), (rf_is (Tok_1 (Cls_13 s1.1) : rf h1 (g + 3) 0 (g + 4)) : isR h1 (g + 3) 0), (rf_g (Tok_2 (Cls_13 s1.1) : rf h1 (g + 3) 1 (g + 5)) : gR h1 (g + 3) 1 = (g + 5)), (rf_is (Tok_2 (Cls_13 s1.1) : rf h1 (g + 3) 1 (g + 5)) : isR h1 (g + 3) 1), (rf_g (Tok_3 (Cls_13 s1.1) : rf h1 (g + 3) 2 (g + 6)) : gR h1 (g + 3) 2 = (g + 6)), (rf_is (Tok_3 (Cls_13 s1.1) : rf h1 (g + 3) 2 (g + 6)) : isR h1 (g + 3) 2), (rf_g (Tok_4 (Cls_13 s1.1) : rf h1 (g + 3) 3 (g + 7)) : gR h1 (g + 3) 3 = (g + 7)), (rf_is (Tok_4 (Cls_13 s1.1) : rf h1 (g + 3) 3 (g + 7)) : isR h1 (g + 3) 3), (Tok_5 (Cls_13 s1.1) : arI h1 (g + 4) 0), (rdI_0 (Tok_5 (Cls_13 s1.1) : arI h1 (g + 4) 0) : rdI h1 (g + 4)), (Tok_6 (Cls_13 s1.1) : aln h1 (g + 4) = 401), (Tok_7 (Cls_13 s1.1) : arI h1 (g + 5) 0), (rdI_0 (Tok_7 (Cls_13 s1.1) : arI h1 (g + 5) 0) : rdI h1 (g + 5)), (Tok_8 (Cls_13 s1.1) : aln h1 (g + 5) = 401), (Tok_9 (Cls_13 s1.1) : arL h1 (g + 6)), (Tok_10 (Cls_13 s1.1) : aln h1 (g + 6) = 401), (Tok_11 (Cls_13 s1.1) : arL h1 (g + 7)), (Tok_12 (Cls_13 s1.1) : aln h1 (g + 7) = 14), v1, v2, u4', y1, vkk_n, vkk_i, vkk_r, vkk_l, vkk_d, catS_nil, catS_i, catS_r, catS_l, catS_d, Nat.reduceAdd, Nat.reduceLeDiff, Nat.zero_le, Nat.le_refl, Option.bind_some, Option.toList_some, Option.toList_none, List.cons_append, List.nil_append, or_true, true_or, if_true, if_false, Int32.reduceLT, Int32.reduceLE, not_true, not_false_iff, true_and, and_true, false_and, and_false]
      · have y1 : ¬ nI (cTy (kd b L t)) = 1 := fun z => z3 (c1.mp (n1.mp z))
        obtain ⟨h2, TT, k1, k2, k3⟩ := ih (t + 1) h1 (by omega) s1 (TXc_fr u2 (fun z => by omega) t0) (fun j hj => (u2.L (a := g + 7) (fun z => by omega) j).trans (w0 j hj)) tc1 (fun x hx => by
          by_cases e : x = t
          · rw [e]
            exact ⟨z0, z3⟩
          · exact hk x (by omega))
        refine ⟨h2, TT, ?_, F1.tr k2, k3⟩
        simp +decide only [e85_51, e85_52, e85_55, e85_57, e85_58, e85_61, e85_62, e85_65, e85_67, e85_68, e85_69, e85_72, e85_73, e85_76, (Tok_0 (Cls_13 s1.1) : ob h1 (g + 3) 9), (rf_g (Tok_1 (Cls_13 s1.1) : rf h1 (g + 3) 0 (g + 4)) : gR h1 (g + 3) 0 = (g + 4)), (rf_is (Tok_1 (Cls_13 s1.1) : rf h1 (g + 3) 0 (g + 4)) : isR h1 (g + 3) 0), (rf_g (Tok_2 (Cls_13 s1.1) : rf h1 (g + 3) 1 (g + 5)) : gR h1 (g + 3) 1 = (g + 5)), (rf_is (Tok_2 (Cls_13 s1.1) : rf h1 (g + 3) 1 (g + 5)) : isR h1 (g + 3) 1), (rf_g (Tok_3 (Cls_13 s1.1) : rf h1 (g + 3) 2 (g + 6)) : gR h1 (g + 3) 2 = (g + 6)), (rf_is (Tok_3 (Cls_13 s1.1) : rf h1 (g + 3) 2 (g + 6)) : isR h1 (g + 3) 2), (rf_g (Tok_4 (Cls_13 s1.1) : rf h1 (g + 3) 3 (g + 7)) : gR h1 (g + 3) 3 = (g + 7)), (rf_is (Tok_4 (Cls_13 s1.1) : rf h1 (g + 3) 3 (g + 7)) : isR h1 (g + 3) 3), (Tok_5 (Cls_13 s1.1) : arI h1 (g + 4) 0), (rdI_0 (Tok_5 (Cls_13 s1.1) : arI h1 (g + 4) 0) : rdI h1 (g + 4)), (Tok_6 (Cls_13 s1.1) : aln h1 (g + 4) = 401), (Tok_7 (Cls_13 s1.1) : arI h1 (g + 5) 0), (rdI_0 (Tok_7 (Cls_13 s1.1) : arI h1 (g + 5) 0) : rdI h1 (g + 5)), (Tok_8 (Cls_13 s1.1) : aln h1 (g + 5) = 401), (Tok_9 (Cls_13 s1.1) : arL h1 (g + 6)), (Tok_10 (Cls_13 s1.1) : aln h1 (g + 6) = 401), (Tok_11 (Cls_13 s1.1) : arL h1 (g + 7)), (Tok_12 (Cls_13 s1.1) : aln h1 (g + 7) = 14), v1, v2, u4', y0, y1, nI_1, nI_add, vkk_n, vkk_i, vkk_r, vkk_l, vkk_d, catS_nil, catS_i, catS_r, catS_l, catS_d, Nat.reduceAdd, Nat.reduceLeDiff, Nat.zero_le, Nat.le_refl, Option.bind_some, Option.toList_some, Option.toList_none, List.cons_append, List.nil_append, or_true, true_or, if_true, if_false, Int32.reduceLT, Int32.reduceLE, not_true, not_false_iff, true_and, and_true, false_and, and_false]
        exact k1
theorem c_scan (h : VG) (g L : Nat) (b : Nat → Nat) (hs : Sh h g) (tx : TXc h g b L) (hw : ∀ j, j < 14 → aL h (g + 7) j = cWord j) : ∃ (h1 : VG) (TT : Nat), ev 85 0 [some (.ref (g + 3)), some (.ref (g + 1)), some (.int (nI L)), none, none] [] h = some (none, h1) ∧ Fr (fun a => a = g + 4 ∨ a = g + 5 ∨ a = g + 6) NF h h1 ∧ TC h1 g b L (TT + 1) ∧ TT ≤ 400 ∧ (∀ x, x < TT → ¬ kd b L x = 0 ∧ ¬ kd b L x = 3) ∧ (TT = 400 ∨ kd b L TT = 0 ∨ kd b L TT = 3) := by
  obtain ⟨h1, TT, u1, u2⟩ := l_scan g L b 401 0 h rfl hs tx hw (fun x hx => absurd hx (Nat.not_lt_zero _)) (fun x hx => absurd hx (Nat.not_lt_zero _))
  have u1 : ev 85 5 [some (.ref (g + 3)), some (.ref (g + 1)), some (.int (nI L)), some (.int 0), some (.int 0)] [] h = _ := u1
  refine ⟨h1, TT, ?_, u2⟩
  simp +decide only [e85_0, e85_1, e85_2, e85_3, vkk_n, vkk_i, vkk_r, vkk_l, vkk_d, catS_nil, catS_i, catS_r, catS_l, catS_d, Nat.reduceAdd, Nat.reduceLeDiff, Nat.zero_le, Nat.le_refl, Option.bind_some, Option.toList_some, Option.toList_none, List.cons_append, List.nil_append, or_true, true_or, if_true, if_false, Int32.reduceLT, Int32.reduceLE, not_true, not_false_iff, true_and, and_true, false_and, and_false]
  exact u1
