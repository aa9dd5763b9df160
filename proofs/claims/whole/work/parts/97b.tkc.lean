/-! read: tokens, by the class -/
def TXc (h : VG) (g : Nat) (b : Nat → Nat) (L : Nat) : Prop := L ≤ 2000 ∧ ∀ i, i < L → b i < 256 ∧ aI h (g + 1) i = sB (b i)
theorem TXc_fr {R : Nat → Prop} {F : Nat → Nat → Prop} {h h1 : VG} {g L : Nat} {b : Nat → Nat} (x : Fr R F h h1) (c : ¬ R (g + 1)) (q : TXc h g b L) : TXc h1 g b L := ⟨q.1, fun i hi => ⟨(q.2 i hi).1, (x.I c i).trans (q.2 i hi).2⟩⟩
theorem c_spelled (h : VG) (x : Int64) (c : Int32) : ev 84 0 [some (.long x), none, some (.int c)] [] h = some (some (.long (sl x 5 ||| (c - 97 + 1).toInt64)), h) := by
  unfold sl
  simp +decide only [e84_0, e84_1, e84_2, e84_3, e84_4, e84_6, e84_7, e84_8, e84_9, e84_10, e84_11, vkk_n, vkk_i, vkk_r, vkk_l, vkk_d, catS_nil, catS_i, catS_r, catS_l, catS_d, Nat.reduceAdd, Nat.reduceLeDiff, Nat.zero_le, Nat.le_refl, Option.bind_some, Option.toList_some, Option.toList_none, List.cons_append, List.nil_append, or_true, true_or, if_true, if_false, Int32.reduceLT, Int32.reduceLE, not_true, not_false_iff, true_and, and_true, false_and, and_false]
def vS (b : Nat → Nat) (p : Nat) : Nat → Int64
  | 0 => 0
  | n + 1 => sl (vS b p n) 5 ||| (sB (b (p + n)) - 97 + 1).toInt64
def vT (b : Nat → Nat) (p : Nat) : Nat → Int64
  | 0 => 0
  | n + 1 => vT b p n * 10 + (sB (b (p + n))).toInt64 - 48
theorem le_dig : ∀ n : Fin 256, isLe n.val = true → uN (sB n.val - 97 + 1).toInt64 = n.val - 96 := by decide +kernel
theorem di_dig : ∀ n : Fin 256, isDi n.val = true → uN (sB n.val).toInt64 = n.val := by decide +kernel
theorem vS_n (b : Nat → Nat) (p : Nat) : ∀ n, n ≤ 8 → (∀ i, i < n → isLe (b (p + i)) = true) → uN (vS b p n) = vl 32 (dgL b p) n ∧ vl 32 (dgL b p) n < 32 ^ n := by
  intro n
  induction n with
  | zero =>
    intro _ _
    show uN 0 = 0 ∧ (0 : Nat) < 1
    decide
  | succ n ih =>
    intro h8 h
    obtain ⟨i1, i2⟩ := ih (by omega) (fun i hi => h i (by omega))
    have l := h n (by omega)
    have l2 := isLe_b l
    have d1 : uN (sB (b (p + n)) - 97 + 1).toInt64 = b (p + n) - 96 := le_dig ⟨b (p + n), by omega⟩ l
    have d2 : dgL b p n = b (p + n) - 96 := rfl
    have pw : 32 ^ n ≤ 32 ^ 7 := Nat.pow_le_pow_right (by decide) (by omega)
    have s1 : uN (sl (vS b p n) 5) = uN (vS b p n) * 2 ^ 5 % 18446744073709551616 := uN_sl (vS b p n) (k := 5) (by decide)
    have e : uN (sl (vS b p n) 5 ||| (sB (b (p + n)) - 97 + 1).toInt64) = _ := uN_orA (k := 5) _ _ (by rw [s1]; omega) (by rw [d1]; omega)
    have v : vl 32 (dgL b p) (n + 1) = 32 * vl 32 (dgL b p) n + dgL b p n := rfl
    have v2 : (32 : Nat) ^ (n + 1) = 32 ^ n * 32 := rfl
    refine ⟨?_, by omega⟩
    show uN (sl (vS b p n) 5 ||| (sB (b (p + n)) - 97 + 1).toInt64) = _
    rw [e, s1, d1, i1, v, d2]
    omega
theorem vT_n (b : Nat → Nat) (p : Nat) : ∀ n, n ≤ 4 → (∀ i, i < n → isDi (b (p + i)) = true) → uN (vT b p n) = vl 10 (dgD b p) n ∧ vl 10 (dgD b p) n < 10 ^ n := by
  intro n
  induction n with
  | zero =>
    intro _ _
    show uN 0 = 0 ∧ (0 : Nat) < 1
    decide
  | succ n ih =>
    intro h8 h
    obtain ⟨i1, i2⟩ := ih (by omega) (fun i hi => h i (by omega))
    have l := h n (by omega)
    have l2 := isDi_b l
    have d1 : uN (sB (b (p + n))).toInt64 = b (p + n) := di_dig ⟨b (p + n), by omega⟩ l
    have d2 : dgD b p n = b (p + n) - 48 := rfl
    have pw : 10 ^ n ≤ 10 ^ 3 := Nat.pow_le_pow_right (by decide) (by omega)
    have m10 : uN (vT b p n * 10) = uN (vT b p n) * 10 % 18446744073709551616 := by
      show ((vT b p n).toBitVec * (10 : Int64).toBitVec).toNat = _
      rw [BitVec.toNat_mul]
      rfl
    have v : vl 10 (dgD b p) (n + 1) = 10 * vl 10 (dgD b p) n + dgD b p n := rfl
    have v2 : (10 : Nat) ^ (n + 1) = 10 ^ n * 10 := rfl
    refine ⟨?_, by omega⟩
    show uN (vT b p n * 10 + (sB (b (p + n))).toInt64 - 48) = _
    rw [uN_sub, uN_add, m10, d1, i1, v, d2, show uN 48 = 48 by decide]
    omega
theorem ofN_u {x : Int64} {n : Nat} (h : uN x = n) : x = Int64.ofNat n := by
  apply uN_inj
  rw [h, lN_u (by have := uN_lt x; omega)]
theorem l_scW (g L p t : Nat) (b : Nat → Nat) (ht : t < 401) : ∀ d at_ h (l6 : Option Value), p ≤ at_ → at_ + d = L → Sh h g → TXc h g b L → aL h (g + 6) t = vS b p (at_ - p) → ∃ h1, ev 87 3 [some (.ref (g + 3)), some (.ref (g + 1)), some (.int (nI L)), some (.int (nI p)), some (.int (nI t)), some (.int (nI at_)), l6] [] h = ev 87 46 [some (.ref (g + 3)), some (.ref (g + 1)), some (.int (nI L)), some (.int (nI p)), some (.int (nI t)), some (.int (nI (spn isLe b d at_))), l6] [] h1 ∧ Fr (fun a => a = g + 6) NF h h1 ∧ aL h1 (g + 6) t = vS b p (spn isLe b d at_ - p) ∧ ∀ j, ¬ j = t → aL h1 (g + 6) j = aL h (g + 6) j := by
  have v1 : vp_in (nI t) 401 := vp_in_nI (by omega) (by decide)
  have v2 : (nI t).toNatClampNeg = t := nI_clamp (by omega)
  intro d
  induction d with
  | zero =>
    intro at_ h l6 hp hd hs tx hv
    have hL := tx.1
    obtain rfl : L = at_ := by omega
    have q : ¬ nI L < nI L := nI_nlt (Nat.le_refl _) (by omega)
    refine ⟨h, ?_, Fr.rfl _, hv, fun _ _ => rfl⟩
    show _ = ev 87 46 [some (.ref (g + 3)), some (.ref (g + 1)), some (.int (nI L)), some (.int (nI p)), some (.int (nI t)), some (.int (nI L)), l6] [] h
    simp +decide only [e87_3, e87_5, e87_6, q, vkk_n, vkk_i, vkk_r, vkk_l, vkk_d, catS_nil, catS_i, catS_r, catS_l, catS_d, Nat.reduceAdd, Nat.reduceLeDiff, Nat.zero_le, Nat.le_refl, Option.bind_some, Option.toList_some, Option.toList_none, List.cons_append, List.nil_append, or_true, true_or, if_true, if_false, Int32.reduceLT, Int32.reduceLE, not_true, not_false_iff, true_and, and_true, false_and, and_false]
  | succ d ih =>
    intro at_ h l6 hp hd hs tx hv
    have hL := tx.1
    have q : nI at_ < nI L := nI_lt (by omega) (by omega)
    obtain ⟨b1, b2⟩ := tx.2 at_ (by omega)
    have v3 : vp_in (nI at_) 2000 := vp_in_nI (by omega) (by decide)
    have v4 : (nI at_).toNatClampNeg = at_ := nI_clamp (by omega)
    have le := c_le h b1
    have e : spn isLe b (d + 1) at_ = if isLe (b at_) then spn isLe b d (at_ + 1) else at_ := rfl
    rw [e]
    cases z : isLe (b at_) with
    | false =>
      simp only [Bool.false_eq_true, if_false]
      rw [z] at le
      have le : ev 90 0 [some (.int (sB (b at_)))] [] h = some (some (.int 0), h) := le
      refine ⟨h, ?_, Fr.rfl _, hv, fun _ _ => rfl⟩
      simp +decide only [e87_3, e87_5, e87_6, q, if_true]
      simp +decide only [e87_9, e87_10, e87_12, e87_13, e87_16, e87_19, e87_20, e87_23, e87_25, e87_26, e87_29, e87_31, e87_32, e87_33, e87_35, e87_36, e87_39, e87_40, e87_43, (Cls_9 hs.1 : arI h (g + 1) 2), (rdB_2 (Cls_9 hs.1 : arI h (g + 1) 2) : rdB h (g + 1)), (Cls_10 hs.1 : aln h (g + 1) = 2000), v3, v4, b2, le, vkk_n, vkk_i, vkk_r, vkk_l, vkk_d, catS_nil, catS_i, catS_r, catS_l, catS_d, Nat.reduceAdd, Nat.reduceLeDiff, Nat.zero_le, Nat.le_refl, Option.bind_some, Option.toList_some, Option.toList_none, List.cons_append, List.nil_append, or_true, true_or, if_true, if_false, Int32.reduceLT, Int32.reduceLE, not_true, not_false_iff, true_and, and_true, false_and, and_false]
    | true =>
      simp only [if_true]
      rw [z] at le
      have le : ev 90 0 [some (.int (sB (b at_)))] [] h = some (some (.int 1), h) := le
      have sp := c_spelled h (vS b p (at_ - p)) (sB (b at_))
      have es : sl (vS b p (at_ - p)) 5 ||| (sB (b at_) - 97 + 1).toInt64 = vS b p (at_ + 1 - p) := by
        have a1 : at_ + 1 - p = (at_ - p) + 1 := by omega
        have a2 : p + (at_ - p) = at_ := by omega
        rw [a1]
        show _ = sl (vS b p (at_ - p)) 5 ||| (sB (b (p + (at_ - p))) - 97 + 1).toInt64
        rw [a2]
      rw [es] at sp
      have x1 : Fr (fun a => a = g + 6) NF h (wL h (g + 6) t (vS b p (at_ + 1 - p))) := Fr_wL _ _ _ _ rfl
      have y1 : ∀ j, aL (wL h (g + 6) t (vS b p (at_ + 1 - p))) (g + 6) j = if j = t then vS b p (at_ + 1 - p) else aL h (g + 6) j := by
        intro j
        rw [aL_wL _ _ _ _ _ _ (Tok_9 (Cls_13 hs.1))]
        simp only [true_and]
      obtain ⟨h1, u1, u2, u3, u4⟩ := ih (at_ + 1) (wL h (g + 6) t (vS b p (at_ + 1 - p))) l6 (by omega) (by omega) (Sh_fr x1 (fun a z => by omega) hs) (TXc_fr x1 (fun z => by omega) tx) (by rw [y1, if_pos rfl])
      refine ⟨h1, ?_, x1.tr u2, u3, fun j hj => by rw [u4 j hj, y1 j, if_neg hj]⟩
      simp +decide only [e87_3, e87_5, e87_6, q, if_true]
      simp +decide only [e87_9, e87_10, e87_12, e87_13, e87_16, e87_19, e87_20, e87_23, e87_25, e87_26, e87_29, e87_31, e87_32, e87_33, e87_35, e87_36, e87_39, e87_40, e87_43, (Cls_9 hs.1 : arI h (g + 1) 2), (rdB_2 (Cls_9 hs.1 : arI h (g + 1) 2) : rdB h (g + 1)), (Cls_10 hs.1 : aln h (g + 1) = 2000), (Tok_0 (Cls_13 hs.1) : ob h (g + 3) 9), (rf_g (Tok_1 (Cls_13 hs.1) : rf h (g + 3) 0 (g + 4)) : gR h (g + 3) 0 = (g + 4)), (rf_is (Tok_1 (Cls_13 hs.1) : rf h (g + 3) 0 (g + 4)) : isR h (g + 3) 0), (rf_g (Tok_2 (Cls_13 hs.1) : rf h (g + 3) 1 (g + 5)) : gR h (g + 3) 1 = (g + 5)), (rf_is (Tok_2 (Cls_13 hs.1) : rf h (g + 3) 1 (g + 5)) : isR h (g + 3) 1), (rf_g (Tok_3 (Cls_13 hs.1) : rf h (g + 3) 2 (g + 6)) : gR h (g + 3) 2 = (g + 6)), (rf_is (Tok_3 (Cls_13 hs.1) : rf h (g + 3) 2 (g + 6)) : isR h (g + 3) 2), (rf_g (Tok_4 (Cls_13 hs.1) : rf h (g + 3) 3 (g + 7)) : gR h (g + 3) 3 = (g + 7)), (rf_is (Tok_4 (Cls_13 hs.1) : rf h (g + 3) 3 (g + 7)) : isR h (g + 3) 3), (Tok_5 (Cls_13 hs.1) : arI h (g + 4) 0), (rdI_0 (Tok_5 (Cls_13 hs.1) : arI h (g + 4) 0) : rdI h (g + 4)), (Tok_6 (Cls_13 hs.1) : aln h (g + 4) = 401), (Tok_7 (Cls_13 hs.1) : arI h (g + 5) 0), (rdI_0 (Tok_7 (Cls_13 hs.1) : arI h (g + 5) 0) : rdI h (g + 5)), (Tok_8 (Cls_13 hs.1) : aln h (g + 5) = 401), (Tok_9 (Cls_13 hs.1) : arL h (g + 6)), (Tok_10 (Cls_13 hs.1) : aln h (g + 6) = 401), (Tok_11 (Cls_13 hs.1) : arL h (g + 7)), (Tok_12 (Cls_13 hs.1) : aln h (g + 7) = 14), v1, v2, v3, v4, b2, le, hv, sp, nI_1, nI_add, vkk_n, vkk_i, vkk_r, vkk_l, vkk_d, catS_nil, catS_i, catS_r, catS_l, catS_d, Nat.reduceAdd, Nat.reduceLeDiff, Nat.zero_le, Nat.le_refl, Option.bind_some, Option.toList_some, Option.toList_none, List.cons_append, List.nil_append, or_true, true_or, if_true, if_false, Int32.reduceLT, Int32.reduceLE, not_true, not_false_iff, true_and, and_true, false_and, and_false]
      exact u1
theorem l_scD (g L p t : Nat) (b : Nat → Nat) (ht : t < 401) : ∀ d at_ h, p ≤ at_ → at_ + d = L → Sh h g → TXc h g b L → aL h (g + 6) t = vT b p (at_ - p) → ∃ h1, ev 88 3 [some (.ref (g + 3)), some (.ref (g + 1)), some (.int (nI L)), some (.int (nI p)), some (.int (nI t)), some (.int (nI at_))] [] h = ev 88 53 [some (.ref (g + 3)), some (.ref (g + 1)), some (.int (nI L)), some (.int (nI p)), some (.int (nI t)), some (.int (nI (spn isDi b d at_)))] [] h1 ∧ Fr (fun a => a = g + 6) NF h h1 ∧ aL h1 (g + 6) t = vT b p (spn isDi b d at_ - p) ∧ ∀ j, ¬ j = t → aL h1 (g + 6) j = aL h (g + 6) j := by
  have v1 : vp_in (nI t) 401 := vp_in_nI (by omega) (by decide)
  have v2 : (nI t).toNatClampNeg = t := nI_clamp (by omega)
  intro d
  induction d with
  | zero =>
    intro at_ h hp hd hs tx hv
    have hL := tx.1
    obtain rfl : L = at_ := by omega
    have q : ¬ nI L < nI L := nI_nlt (Nat.le_refl _) (by omega)
    refine ⟨h, ?_, Fr.rfl _, hv, fun _ _ => rfl⟩
    show _ = ev 88 53 [some (.ref (g + 3)), some (.ref (g + 1)), some (.int (nI L)), some (.int (nI p)), some (.int (nI t)), some (.int (nI L))] [] h
    simp +decide only [e88_3, e88_5, e88_6, q, vkk_n, vkk_i, vkk_r, vkk_l, vkk_d, catS_nil, catS_i, catS_r, catS_l, catS_d, Nat.reduceAdd, Nat.reduceLeDiff, Nat.zero_le, Nat.le_refl, Option.bind_some, Option.toList_some, Option.toList_none, List.cons_append, List.nil_append, or_true, true_or, if_true, if_false, Int32.reduceLT, Int32.reduceLE, not_true, not_false_iff, true_and, and_true, false_and, and_false]
  | succ d ih =>
    intro at_ h hp hd hs tx hv
    have hL := tx.1
    have q : nI at_ < nI L := nI_lt (by omega) (by omega)
    obtain ⟨b1, b2⟩ := tx.2 at_ (by omega)
    have v3 : vp_in (nI at_) 2000 := vp_in_nI (by omega) (by decide)
    have v4 : (nI at_).toNatClampNeg = at_ := nI_clamp (by omega)
    have le := c_di h b1
    have e : spn isDi b (d + 1) at_ = if isDi (b at_) then spn isDi b d (at_ + 1) else at_ := rfl
    rw [e]
    cases z : isDi (b at_) with
    | false =>
      simp only [Bool.false_eq_true, if_false]
      rw [z] at le
      have le : ev 91 0 [some (.int (sB (b at_)))] [] h = some (some (.int 0), h) := le
      refine ⟨h, ?_, Fr.rfl _, hv, fun _ _ => rfl⟩
      simp +decide only [e88_3, e88_5, e88_6, q, if_true]
      simp +decide only [e88_9, e88_10, e88_12, e88_13, e88_16, e88_19, e88_20, e88_23, e88_25, e88_26, e88_29, e88_31, e88_32, e88_35, e88_36, e88_37, e88_39, e88_40, e88_41, e88_42, e88_45, e88_46, e88_47, e88_50, (Cls_9 hs.1 : arI h (g + 1) 2), (rdB_2 (Cls_9 hs.1 : arI h (g + 1) 2) : rdB h (g + 1)), (Cls_10 hs.1 : aln h (g + 1) = 2000), v3, v4, b2, le, vkk_n, vkk_i, vkk_r, vkk_l, vkk_d, catS_nil, catS_i, catS_r, catS_l, catS_d, Nat.reduceAdd, Nat.reduceLeDiff, Nat.zero_le, Nat.le_refl, Option.bind_some, Option.toList_some, Option.toList_none, List.cons_append, List.nil_append, or_true, true_or, if_true, if_false, Int32.reduceLT, Int32.reduceLE, not_true, not_false_iff, true_and, and_true, false_and, and_false]
    | true =>
      simp only [if_true]
      rw [z] at le
      have le : ev 91 0 [some (.int (sB (b at_)))] [] h = some (some (.int 1), h) := le
      have es : vT b p (at_ - p) * 10 + (sB (b at_)).toInt64 - 48 = vT b p (at_ + 1 - p) := by
        have a1 : at_ + 1 - p = (at_ - p) + 1 := by omega
        have a2 : p + (at_ - p) = at_ := by omega
        rw [a1]
        show _ = vT b p (at_ - p) * 10 + (sB (b (p + (at_ - p)))).toInt64 - 48
        rw [a2]
      have x1 : Fr (fun a => a = g + 6) NF h (wL h (g + 6) t (vT b p (at_ + 1 - p))) := Fr_wL _ _ _ _ rfl
      have y1 : ∀ j, aL (wL h (g + 6) t (vT b p (at_ + 1 - p))) (g + 6) j = if j = t then vT b p (at_ + 1 - p) else aL h (g + 6) j := by
        intro j
        rw [aL_wL _ _ _ _ _ _ (Tok_9 (Cls_13 hs.1))]
        simp only [true_and]
      obtain ⟨h1, u1, u2, u3, u4⟩ := ih (at_ + 1) (wL h (g + 6) t (vT b p (at_ + 1 - p))) (by omega) (by omega) (Sh_fr x1 (fun a z => by omega) hs) (TXc_fr x1 (fun z => by omega) tx) (by rw [y1, if_pos rfl])
      refine ⟨h1, ?_, x1.tr u2, u3, fun j hj => by rw [u4 j hj, y1 j, if_neg hj]⟩
      simp +decide only [e88_3, e88_5, e88_6, q, if_true]
      simp +decide only [e88_9, e88_10, e88_12, e88_13, e88_16, e88_19, e88_20, e88_23, e88_25, e88_26, e88_29, e88_31, e88_32, e88_35, e88_36, e88_37, e88_39, e88_40, e88_41, e88_42, e88_45, e88_46, e88_47, e88_50, (Cls_9 hs.1 : arI h (g + 1) 2), (rdB_2 (Cls_9 hs.1 : arI h (g + 1) 2) : rdB h (g + 1)), (Cls_10 hs.1 : aln h (g + 1) = 2000), (Tok_0 (Cls_13 hs.1) : ob h (g + 3) 9), (rf_g (Tok_1 (Cls_13 hs.1) : rf h (g + 3) 0 (g + 4)) : gR h (g + 3) 0 = (g + 4)), (rf_is (Tok_1 (Cls_13 hs.1) : rf h (g + 3) 0 (g + 4)) : isR h (g + 3) 0), (rf_g (Tok_2 (Cls_13 hs.1) : rf h (g + 3) 1 (g + 5)) : gR h (g + 3) 1 = (g + 5)), (rf_is (Tok_2 (Cls_13 hs.1) : rf h (g + 3) 1 (g + 5)) : isR h (g + 3) 1), (rf_g (Tok_3 (Cls_13 hs.1) : rf h (g + 3) 2 (g + 6)) : gR h (g + 3) 2 = (g + 6)), (rf_is (Tok_3 (Cls_13 hs.1) : rf h (g + 3) 2 (g + 6)) : isR h (g + 3) 2), (rf_g (Tok_4 (Cls_13 hs.1) : rf h (g + 3) 3 (g + 7)) : gR h (g + 3) 3 = (g + 7)), (rf_is (Tok_4 (Cls_13 hs.1) : rf h (g + 3) 3 (g + 7)) : isR h (g + 3) 3), (Tok_5 (Cls_13 hs.1) : arI h (g + 4) 0), (rdI_0 (Tok_5 (Cls_13 hs.1) : arI h (g + 4) 0) : rdI h (g + 4)), (Tok_6 (Cls_13 hs.1) : aln h (g + 4) = 401), (Tok_7 (Cls_13 hs.1) : arI h (g + 5) 0), (rdI_0 (Tok_7 (Cls_13 hs.1) : arI h (g + 5) 0) : rdI h (g + 5)), (Tok_8 (Cls_13 hs.1) : aln h (g + 5) = 401), (Tok_9 (Cls_13 hs.1) : arL h (g + 6)), (Tok_10 (Cls_13 hs.1) : aln h (g + 6) = 401), (Tok_11 (Cls_13 hs.1) : arL h (g + 7)), (Tok_12 (Cls_13 hs.1) : aln h (g + 7) = 14), v1, v2, v3, v4, b2, le, hv, es, nI_1, nI_add, vkk_n, vkk_i, vkk_r, vkk_l, vkk_d, catS_nil, catS_i, catS_r, catS_l, catS_d, Nat.reduceAdd, Nat.reduceLeDiff, Nat.zero_le, Nat.le_refl, Option.bind_some, Option.toList_some, Option.toList_none, List.cons_append, List.nil_append, or_true, true_or, if_true, if_false, Int32.reduceLT, Int32.reduceLE, not_true, not_false_iff, true_and, and_true, false_and, and_false]
      exact u1
theorem l_wd (g L p t v : Nat) (e : Int32) (ht : t < 401) (hv : v < 18446744073709551616) : ∀ d w_ h, w_ + d = 14 → Sh h g → (∀ j, j < 14 → aL h (g + 7) j = cWord j) → aI h (g + 4) t = 2 → aL h (g + 6) t = Int64.ofNat v → ∃ (h1 : VG) (x6 : Option Value), ev 87 70 [some (.ref (g + 3)), some (.ref (g + 1)), some (.int (nI L)), some (.int (nI p)), some (.int (nI t)), some (.int e), some (.int (nI w_))] [] h = ev 87 148 [some (.ref (g + 3)), some (.ref (g + 1)), some (.int (nI L)), some (.int (nI p)), some (.int (nI t)), some (.int e), x6] [] h1 ∧ Fr (fun a => a = g + 4 ∨ a = g + 6) NF h h1 ∧ (∀ j, ¬ j = t → aI h1 (g + 4) j = aI h (g + 4) j ∧ aL h1 (g + 6) j = aL h (g + 6) j) ∧ aI h1 (g + 4) t = (if wF v d w_ < 10 then 5 else if wF v d w_ < 14 then nI (wF v d w_ - 4) else 2) ∧ aL h1 (g + 6) t = (if wF v d w_ < 14 then Int64.ofNat (wF v d w_) else Int64.ofNat v) := by
  have v1 : vp_in (nI t) 401 := vp_in_nI (by omega) (by decide)
  have v2 : (nI t).toNatClampNeg = t := nI_clamp (by omega)
  intro d
  induction d with
  | zero =>
    intro w_ h hd hs hw h4 h6
    obtain rfl : w_ = 14 := by omega
    have q : ¬ nI 14 < 14 := by decide
    refine ⟨h, some (.int (nI 14)), ?_, Fr.rfl _, fun _ _ => ⟨rfl, rfl⟩, h4, h6⟩
    simp +decide only [e87_70, e87_72, e87_74, q, vkk_n, vkk_i, vkk_r, vkk_l, vkk_d, catS_nil, catS_i, catS_r, catS_l, catS_d, Nat.reduceAdd, Nat.reduceLeDiff, Nat.zero_le, Nat.le_refl, Option.bind_some, Option.toList_some, Option.toList_none, List.cons_append, List.nil_append, or_true, true_or, if_true, if_false, Int32.reduceLT, Int32.reduceLE, not_true, not_false_iff, true_and, and_true, false_and, and_false]
  | succ d ih =>
    intro w_ h hd hs hw h4 h6
    have q : nI w_ < 14 := (nI_ltI (b := 14) (by omega) (by decide)).mpr (by omega)
    have v3 : vp_in (nI w_) 14 := vp_in_nI (by omega) (by decide)
    have v4 : (nI w_).toNatClampNeg = w_ := nI_clamp (by omega)
    have cw := hw w_ (by omega)
    rw [(cWord_n ⟨w_, by omega⟩).1] at cw
    have c40 : cwN w_ < 18446744073709551616 := by
      have : ∀ w : Fin 14, cwN w.val < 18446744073709551616 := by decide +kernel
      exact this ⟨w_, by omega⟩
    have ee : wF v (d + 1) w_ = if cwN w_ = v then w_ else wF v d (w_ + 1) := rfl
    rw [ee]
    by_cases z : cwN w_ = v
    · rw [if_pos z]
      have z' : lg_cmp (Int64.ofNat (cwN w_)) (Int64.ofNat v) = 0 := (lcmp_eq _ _).mpr (by rw [z])
      have n1 : ∀ x : Int32, ¬ x = 2 → ∀ h1 : VG, Sh h1 g → aI h1 (g + 4) t = x → ∃ x6, ev 87 70 [some (.ref (g + 3)), some (.ref (g + 1)), some (.int (nI L)), some (.int (nI p)), some (.int (nI t)), some (.int e), some (.int (nI (w_ + 1)))] [] h1 = ev 87 148 [some (.ref (g + 3)), some (.ref (g + 1)), some (.int (nI L)), some (.int (nI p)), some (.int (nI t)), some (.int e), x6] [] h1 := by
        intro x hx h1 s1 hx1
        refine ⟨some (.int (nI (w_ + 1))), ?_⟩
        by_cases y : nI (w_ + 1) < 14
        · simp +decide only [e87_70, e87_72, e87_74, y, if_true]
          simp +decide only [e87_77, e87_78, e87_81, e87_83, e87_84, e87_85, (Tok_0 (Cls_13 s1.1) : ob h1 (g + 3) 9), (rf_g (Tok_1 (Cls_13 s1.1) : rf h1 (g + 3) 0 (g + 4)) : gR h1 (g + 3) 0 = (g + 4)), (rf_is (Tok_1 (Cls_13 s1.1) : rf h1 (g + 3) 0 (g + 4)) : isR h1 (g + 3) 0), (rf_g (Tok_2 (Cls_13 s1.1) : rf h1 (g + 3) 1 (g + 5)) : gR h1 (g + 3) 1 = (g + 5)), (rf_is (Tok_2 (Cls_13 s1.1) : rf h1 (g + 3) 1 (g + 5)) : isR h1 (g + 3) 1), (rf_g (Tok_3 (Cls_13 s1.1) : rf h1 (g + 3) 2 (g + 6)) : gR h1 (g + 3) 2 = (g + 6)), (rf_is (Tok_3 (Cls_13 s1.1) : rf h1 (g + 3) 2 (g + 6)) : isR h1 (g + 3) 2), (rf_g (Tok_4 (Cls_13 s1.1) : rf h1 (g + 3) 3 (g + 7)) : gR h1 (g + 3) 3 = (g + 7)), (rf_is (Tok_4 (Cls_13 s1.1) : rf h1 (g + 3) 3 (g + 7)) : isR h1 (g + 3) 3), (Tok_5 (Cls_13 s1.1) : arI h1 (g + 4) 0), (rdI_0 (Tok_5 (Cls_13 s1.1) : arI h1 (g + 4) 0) : rdI h1 (g + 4)), (Tok_6 (Cls_13 s1.1) : aln h1 (g + 4) = 401), (Tok_7 (Cls_13 s1.1) : arI h1 (g + 5) 0), (rdI_0 (Tok_7 (Cls_13 s1.1) : arI h1 (g + 5) 0) : rdI h1 (g + 5)), (Tok_8 (Cls_13 s1.1) : aln h1 (g + 5) = 401), (Tok_9 (Cls_13 s1.1) : arL h1 (g + 6)), (Tok_10 (Cls_13 s1.1) : aln h1 (g + 6) = 401), (Tok_11 (Cls_13 s1.1) : arL h1 (g + 7)), (Tok_12 (Cls_13 s1.1) : aln h1 (g + 7) = 14), v1, v2, hx1, hx, vkk_n, vkk_i, vkk_r, vkk_l, vkk_d, catS_nil, catS_i, catS_r, catS_l, catS_d, Nat.reduceAdd, Nat.reduceLeDiff, Nat.zero_le, Nat.le_refl, Option.bind_some, Option.toList_some, Option.toList_none, List.cons_append, List.nil_append, or_true, true_or, if_true, if_false, Int32.reduceLT, Int32.reduceLE, not_true, not_false_iff, true_and, and_true, false_and, and_false]
        · simp +decide only [e87_70, e87_72, e87_74, y, vkk_n, vkk_i, vkk_r, vkk_l, vkk_d, catS_nil, catS_i, catS_r, catS_l, catS_d, Nat.reduceAdd, Nat.reduceLeDiff, Nat.zero_le, Nat.le_refl, Option.bind_some, Option.toList_some, Option.toList_none, List.cons_append, List.nil_append, or_true, true_or, if_true, if_false, Int32.reduceLT, Int32.reduceLE, not_true, not_false_iff, true_and, and_true, false_and, and_false]
      by_cases y : w_ < 10
      · have y' : nI w_ < 10 := (nI_ltI (b := 10) (by omega) (by decide)).mpr y
        rw [if_pos y, if_pos (by omega)]
        have x1 : Fr (fun a => a = g + 4 ∨ a = g + 6) NF h (wL (wI h (g + 4) t 5) (g + 6) t (Int64.ofNat w_)) := (Fr_wI _ _ _ _ (Or.inl rfl)).tr (Fr_wL _ _ _ _ (Or.inr rfl))
        have s1 := Sh_fr x1 (fun a z => by omega) hs
        have r4 : aI (wL (wI h (g + 4) t 5) (g + 6) t (Int64.ofNat w_)) (g + 4) t = 5 := by
          rw [aI_wL, aI_wI0 _ _ _ _ _ _ (Tok_5 (Cls_13 hs.1)), if_pos ⟨rfl, rfl⟩]
        have r6 : aL (wL (wI h (g + 4) t 5) (g + 6) t (Int64.ofNat w_)) (g + 6) t = Int64.ofNat w_ := by
          rw [aL_wL _ _ _ _ _ _ ((arL_wI ..).mpr (Tok_9 (Cls_13 hs.1))), if_pos ⟨rfl, rfl⟩]
        have rj : ∀ j, ¬ j = t → aI (wL (wI h (g + 4) t 5) (g + 6) t (Int64.ofNat w_)) (g + 4) j = aI h (g + 4) j ∧ aL (wL (wI h (g + 4) t 5) (g + 6) t (Int64.ofNat w_)) (g + 6) j = aL h (g + 6) j := by
          intro j hj
          rw [aI_wL, aI_wI0 _ _ _ _ _ _ (Tok_5 (Cls_13 hs.1)), if_neg (fun z => hj z.2), aL_wL _ _ _ _ _ _ ((arL_wI ..).mpr (Tok_9 (Cls_13 hs.1))), if_neg (fun z => hj z.2), aL_wI]
          exact ⟨rfl, rfl⟩
        obtain ⟨x6, f1⟩ := n1 5 (by decide) _ s1 r4
        refine ⟨_, x6, ?_, x1, rj, r4, r6⟩
        rw [← f1]
        have tl : (nI w_).toInt64 = Int64.ofNat w_ := nI_toL (by omega)
        generalize hZ : ev 87 70 [some (.ref (g + 3)), some (.ref (g + 1)), some (.int (nI L)), some (.int (nI p)), some (.int (nI t)), some (.int e), some (.int (nI (w_ + 1)))] [] (wL (wI h (g + 4) t 5) (g + 6) t (Int64.ofNat w_)) = Z
        simp +decide only [e87_70, e87_72, e87_74, q, if_true]
        simp +decide only [e87_77, e87_78, e87_81, e87_83, e87_84, e87_85, e87_88, e87_89, e87_92, e87_94, e87_95, e87_96, e87_99, e87_101, e87_102, e87_103, e87_106, e87_107, e87_110, e87_112, e87_114, e87_116, e87_119, e87_120, e87_123, e87_125, e87_127, e87_128, e87_130, e87_131, e87_132, e87_133, e87_136, e87_138, e87_140, e87_141, e87_142, e87_145, (Tok_0 (Cls_13 hs.1) : ob h (g + 3) 9), (rf_g (Tok_1 (Cls_13 hs.1) : rf h (g + 3) 0 (g + 4)) : gR h (g + 3) 0 = (g + 4)), (rf_is (Tok_1 (Cls_13 hs.1) : rf h (g + 3) 0 (g + 4)) : isR h (g + 3) 0), (rf_g (Tok_2 (Cls_13 hs.1) : rf h (g + 3) 1 (g + 5)) : gR h (g + 3) 1 = (g + 5)), (rf_is (Tok_2 (Cls_13 hs.1) : rf h (g + 3) 1 (g + 5)) : isR h (g + 3) 1), (rf_g (Tok_3 (Cls_13 hs.1) : rf h (g + 3) 2 (g + 6)) : gR h (g + 3) 2 = (g + 6)), (rf_is (Tok_3 (Cls_13 hs.1) : rf h (g + 3) 2 (g + 6)) : isR h (g + 3) 2), (rf_g (Tok_4 (Cls_13 hs.1) : rf h (g + 3) 3 (g + 7)) : gR h (g + 3) 3 = (g + 7)), (rf_is (Tok_4 (Cls_13 hs.1) : rf h (g + 3) 3 (g + 7)) : isR h (g + 3) 3), (Tok_5 (Cls_13 hs.1) : arI h (g + 4) 0), (rdI_0 (Tok_5 (Cls_13 hs.1) : arI h (g + 4) 0) : rdI h (g + 4)), (Tok_6 (Cls_13 hs.1) : aln h (g + 4) = 401), (Tok_7 (Cls_13 hs.1) : arI h (g + 5) 0), (rdI_0 (Tok_7 (Cls_13 hs.1) : arI h (g + 5) 0) : rdI h (g + 5)), (Tok_8 (Cls_13 hs.1) : aln h (g + 5) = 401), (Tok_9 (Cls_13 hs.1) : arL h (g + 6)), (Tok_10 (Cls_13 hs.1) : aln h (g + 6) = 401), (Tok_11 (Cls_13 hs.1) : arL h (g + 7)), (Tok_12 (Cls_13 hs.1) : aln h (g + 7) = 14), v1, v2, v3, v4, h4, h6, cw, z', y', tl, nI_1, nI_add, ob_pI, rf_pI, isR_pI, isI_pI, isL_pI, arI_pI, arL_pI, arR_pI, arD_pI, aln_pI, rdI_pI, rdB_pI, rdR_pI, aR_pI, pI_2, gI_pI, gL_pI, gD_pI, gR_pI, aI_pI, aL_pI, aD_pI, ob_pL, rf_pL, isR_pL, isI_pL, isL_pL, arI_pL, arL_pL, arR_pL, arD_pL, aln_pL, rdI_pL, rdB_pL, rdR_pL, aR_pL, pL_2, gI_pL, gL_pL, gD_pL, gR_pL, aI_pL, aL_pL, aD_pL, ob_wI, rf_wI, isR_wI, isI_wI, isL_wI, arI_wI, arL_wI, arR_wI, arD_wI, aln_wI, rdI_wI, rdB_wI, rdR_wI, aR_wI, wI_2, gI_wI, gL_wI, gD_wI, gR_wI, aL_wI, aD_wI, aI_wI_ne, ob_wL, rf_wL, isR_wL, isI_wL, isL_wL, arI_wL, arL_wL, arR_wL, arD_wL, aln_wL, rdI_wL, rdB_wL, rdR_wL, aR_wL, wL_2, gI_wL, gL_wL, gD_wL, gR_wL, aI_wL, aD_wL, aL_wL_ne, ob_bI, rf_bI, isR_bI, isI_bI, isL_bI, arI_bI, arL_bI, arR_bI, arD_bI, aln_bI, rdI_bI, rdB_bI, rdR_bI, aR_bI, bI_2, gI_bI, gL_bI, gD_bI, gR_bI, aL_bI, aD_bI, aI_bI_ne, ob_bL, rf_bL, isR_bL, isI_bL, isL_bL, arI_bL, arL_bL, arR_bL, arD_bL, aln_bL, rdI_bL, rdB_bL, rdR_bL, aR_bL, bL_2, gI_bL, gL_bL, gD_bL, gR_bL, aI_bL, aD_bL, aL_bL_ne, vkk_n, vkk_i, vkk_r, vkk_l, vkk_d, catS_nil, catS_i, catS_r, catS_l, catS_d, Nat.reduceAdd, Nat.reduceLeDiff, Nat.zero_le, Nat.le_refl, Option.bind_some, Option.toList_some, Option.toList_none, List.cons_append, List.nil_append, or_true, true_or, if_true, if_false, Int32.reduceLT, Int32.reduceLE, not_true, not_false_iff, true_and, and_true, false_and, and_false, Nat.add_assoc, Nat.reduceAdd, Nat.add_left_cancel_iff, Nat.reduceEqDiff, Nat.add_eq_left, Nat.left_eq_add]
        exact hZ
      · have y' : ¬ nI w_ < 10 := fun z => y ((nI_ltI (b := 10) (by omega) (by decide)).mp z)
        rw [if_neg y, if_pos (by omega), if_pos (by omega)]
        have ek : 6 + nI w_ - 10 = nI (w_ - 4) := by
          rw [show (6 : Int32) = nI 6 from rfl, nI_add, show (10 : Int32) = nI 10 from rfl, pk_sub (by omega)]
          congr 1
          omega
        have e2 : ¬ nI (w_ - 4) = 2 := fun z => by have := (nI_eq (b := 2) (by omega) (by decide)).mp z; omega
        have x1 : Fr (fun a => a = g + 4 ∨ a = g + 6) NF h (wL (wI h (g + 4) t (nI (w_ - 4))) (g + 6) t (Int64.ofNat w_)) := (Fr_wI _ _ _ _ (Or.inl rfl)).tr (Fr_wL _ _ _ _ (Or.inr rfl))
        have s1 := Sh_fr x1 (fun a z => by omega) hs
        have r4 : aI (wL (wI h (g + 4) t (nI (w_ - 4))) (g + 6) t (Int64.ofNat w_)) (g + 4) t = nI (w_ - 4) := by
          rw [aI_wL, aI_wI0 _ _ _ _ _ _ (Tok_5 (Cls_13 hs.1)), if_pos ⟨rfl, rfl⟩]
        have r6 : aL (wL (wI h (g + 4) t (nI (w_ - 4))) (g + 6) t (Int64.ofNat w_)) (g + 6) t = Int64.ofNat w_ := by
          rw [aL_wL _ _ _ _ _ _ ((arL_wI ..).mpr (Tok_9 (Cls_13 hs.1))), if_pos ⟨rfl, rfl⟩]
        have rj : ∀ j, ¬ j = t → aI (wL (wI h (g + 4) t (nI (w_ - 4))) (g + 6) t (Int64.ofNat w_)) (g + 4) j = aI h (g + 4) j ∧ aL (wL (wI h (g + 4) t (nI (w_ - 4))) (g + 6) t (Int64.ofNat w_)) (g + 6) j = aL h (g + 6) j := by
          intro j hj
          rw [aI_wL, aI_wI0 _ _ _ _ _ _ (Tok_5 (Cls_13 hs.1)), if_neg (fun z => hj z.2), aL_wL _ _ _ _ _ _ ((arL_wI ..).mpr (Tok_9 (Cls_13 hs.1))), if_neg (fun z => hj z.2), aL_wI]
          exact ⟨rfl, rfl⟩
        obtain ⟨x6, f1⟩ := n1 (nI (w_ - 4)) e2 _ s1 r4
        refine ⟨_, x6, ?_, x1, rj, r4, r6⟩
        rw [← f1]
        have tl : (nI w_).toInt64 = Int64.ofNat w_ := nI_toL (by omega)
        generalize hZ : ev 87 70 [some (.ref (g + 3)), some (.ref (g + 1)), some (.int (nI L)), some (.int (nI p)), some (.int (nI t)), some (.int e), some (.int (nI (w_ + 1)))] [] (wL (wI h (g + 4) t (nI (w_ - 4))) (g + 6) t (Int64.ofNat w_)) = Z
        simp +decide only [e87_70, e87_72, e87_74, q, if_true]
        simp +decide only [e87_77, e87_78, e87_81, e87_83, e87_84, e87_85, e87_88, e87_89, e87_92, e87_94, e87_95, e87_96, e87_99, e87_101, e87_102, e87_103, e87_106, e87_107, e87_110, e87_112, e87_114, e87_116, e87_119, e87_120, e87_123, e87_125, e87_127, e87_128, e87_130, e87_131, e87_132, e87_133, e87_136, e87_138, e87_140, e87_141, e87_142, e87_145, (Tok_0 (Cls_13 hs.1) : ob h (g + 3) 9), (rf_g (Tok_1 (Cls_13 hs.1) : rf h (g + 3) 0 (g + 4)) : gR h (g + 3) 0 = (g + 4)), (rf_is (Tok_1 (Cls_13 hs.1) : rf h (g + 3) 0 (g + 4)) : isR h (g + 3) 0), (rf_g (Tok_2 (Cls_13 hs.1) : rf h (g + 3) 1 (g + 5)) : gR h (g + 3) 1 = (g + 5)), (rf_is (Tok_2 (Cls_13 hs.1) : rf h (g + 3) 1 (g + 5)) : isR h (g + 3) 1), (rf_g (Tok_3 (Cls_13 hs.1) : rf h (g + 3) 2 (g + 6)) : gR h (g + 3) 2 = (g + 6)), (rf_is (Tok_3 (Cls_13 hs.1) : rf h (g + 3) 2 (g + 6)) : isR h (g + 3) 2), (rf_g (Tok_4 (Cls_13 hs.1) : rf h (g + 3) 3 (g + 7)) : gR h (g + 3) 3 = (g + 7)), (rf_is (Tok_4 (Cls_13 hs.1) : rf h (g + 3) 3 (g + 7)) : isR h (g + 3) 3), (Tok_5 (Cls_13 hs.1) : arI h (g + 4) 0), (rdI_0 (Tok_5 (Cls_13 hs.1) : arI h (g + 4) 0) : rdI h (g + 4)), (Tok_6 (Cls_13 hs.1) : aln h (g + 4) = 401), (Tok_7 (Cls_13 hs.1) : arI h (g + 5) 0), (rdI_0 (Tok_7 (Cls_13 hs.1) : arI h (g + 5) 0) : rdI h (g + 5)), (Tok_8 (Cls_13 hs.1) : aln h (g + 5) = 401), (Tok_9 (Cls_13 hs.1) : arL h (g + 6)), (Tok_10 (Cls_13 hs.1) : aln h (g + 6) = 401), (Tok_11 (Cls_13 hs.1) : arL h (g + 7)), (Tok_12 (Cls_13 hs.1) : aln h (g + 7) = 14), v1, v2, v3, v4, h4, h6, cw, z', y', tl, ek, nI_1, nI_add, ob_pI, rf_pI, isR_pI, isI_pI, isL_pI, arI_pI, arL_pI, arR_pI, arD_pI, aln_pI, rdI_pI, rdB_pI, rdR_pI, aR_pI, pI_2, gI_pI, gL_pI, gD_pI, gR_pI, aI_pI, aL_pI, aD_pI, ob_pL, rf_pL, isR_pL, isI_pL, isL_pL, arI_pL, arL_pL, arR_pL, arD_pL, aln_pL, rdI_pL, rdB_pL, rdR_pL, aR_pL, pL_2, gI_pL, gL_pL, gD_pL, gR_pL, aI_pL, aL_pL, aD_pL, ob_wI, rf_wI, isR_wI, isI_wI, isL_wI, arI_wI, arL_wI, arR_wI, arD_wI, aln_wI, rdI_wI, rdB_wI, rdR_wI, aR_wI, wI_2, gI_wI, gL_wI, gD_wI, gR_wI, aL_wI, aD_wI, aI_wI_ne, ob_wL, rf_wL, isR_wL, isI_wL, isL_wL, arI_wL, arL_wL, arR_wL, arD_wL, aln_wL, rdI_wL, rdB_wL, rdR_wL, aR_wL, wL_2, gI_wL, gL_wL, gD_wL, gR_wL, aI_wL, aD_wL, aL_wL_ne, ob_bI, rf_bI, isR_bI, isI_bI, isL_bI, arI_bI, arL_bI, arR_bI, arD_bI, aln_bI, rdI_bI, rdB_bI, rdR_bI, aR_bI, bI_2, gI_bI, gL_bI, gD_bI, gR_bI, aL_bI, aD_bI, aI_bI_ne, ob_bL, rf_bL, isR_bL, isI_bL, isL_bL, arI_bL, arL_bL, arR_bL, arD_bL, aln_bL, rdI_bL, rdB_bL, rdR_bL, aR_bL, bL_2, gI_bL, gL_bL, gD_bL, gR_bL, aI_bL, aD_bL, aL_bL_ne, vkk_n, vkk_i, vkk_r, vkk_l, vkk_d, catS_nil, catS_i, catS_r, catS_l, catS_d, Nat.reduceAdd, Nat.reduceLeDiff, Nat.zero_le, Nat.le_refl, Option.bind_some, Option.toList_some, Option.toList_none, List.cons_append, List.nil_append, or_true, true_or, if_true, if_false, Int32.reduceLT, Int32.reduceLE, not_true, not_false_iff, true_and, and_true, false_and, and_false, Nat.add_assoc, Nat.reduceAdd, Nat.add_left_cancel_iff, Nat.reduceEqDiff, Nat.add_eq_left, Nat.left_eq_add]
        exact hZ
    · rw [if_neg z]
      have z' : ¬ lg_cmp (Int64.ofNat (cwN w_)) (Int64.ofNat v) = 0 := fun y => z ((fN_eq c40 hv).mp ((lcmp_eq _ _).mp y))
      obtain ⟨h1, x6, u1, u2⟩ := ih (w_ + 1) h (by omega) hs hw h4 h6
      refine ⟨h1, x6, ?_, u2⟩
      simp +decide only [e87_70, e87_72, e87_74, q, if_true]
      simp +decide only [e87_77, e87_78, e87_81, e87_83, e87_84, e87_85, e87_88, e87_89, e87_92, e87_94, e87_95, e87_96, e87_99, e87_101, e87_102, e87_103, e87_106, e87_107, e87_110, e87_112, e87_114, e87_116, e87_119, e87_120, e87_123, e87_125, e87_127, e87_128, e87_130, e87_131, e87_132, e87_133, e87_136, e87_138, e87_140, e87_141, e87_142, e87_145, (Tok_0 (Cls_13 hs.1) : ob h (g + 3) 9), (rf_g (Tok_1 (Cls_13 hs.1) : rf h (g + 3) 0 (g + 4)) : gR h (g + 3) 0 = (g + 4)), (rf_is (Tok_1 (Cls_13 hs.1) : rf h (g + 3) 0 (g + 4)) : isR h (g + 3) 0), (rf_g (Tok_2 (Cls_13 hs.1) : rf h (g + 3) 1 (g + 5)) : gR h (g + 3) 1 = (g + 5)), (rf_is (Tok_2 (Cls_13 hs.1) : rf h (g + 3) 1 (g + 5)) : isR h (g + 3) 1), (rf_g (Tok_3 (Cls_13 hs.1) : rf h (g + 3) 2 (g + 6)) : gR h (g + 3) 2 = (g + 6)), (rf_is (Tok_3 (Cls_13 hs.1) : rf h (g + 3) 2 (g + 6)) : isR h (g + 3) 2), (rf_g (Tok_4 (Cls_13 hs.1) : rf h (g + 3) 3 (g + 7)) : gR h (g + 3) 3 = (g + 7)), (rf_is (Tok_4 (Cls_13 hs.1) : rf h (g + 3) 3 (g + 7)) : isR h (g + 3) 3), (Tok_5 (Cls_13 hs.1) : arI h (g + 4) 0), (rdI_0 (Tok_5 (Cls_13 hs.1) : arI h (g + 4) 0) : rdI h (g + 4)), (Tok_6 (Cls_13 hs.1) : aln h (g + 4) = 401), (Tok_7 (Cls_13 hs.1) : arI h (g + 5) 0), (rdI_0 (Tok_7 (Cls_13 hs.1) : arI h (g + 5) 0) : rdI h (g + 5)), (Tok_8 (Cls_13 hs.1) : aln h (g + 5) = 401), (Tok_9 (Cls_13 hs.1) : arL h (g + 6)), (Tok_10 (Cls_13 hs.1) : aln h (g + 6) = 401), (Tok_11 (Cls_13 hs.1) : arL h (g + 7)), (Tok_12 (Cls_13 hs.1) : aln h (g + 7) = 14), v1, v2, v3, v4, h4, h6, cw, z', nI_1, nI_add, vkk_n, vkk_i, vkk_r, vkk_l, vkk_d, catS_nil, catS_i, catS_r, catS_l, catS_d, Nat.reduceAdd, Nat.reduceLeDiff, Nat.zero_le, Nat.le_refl, Option.bind_some, Option.toList_some, Option.toList_none, List.cons_append, List.nil_append, or_true, true_or, if_true, if_false, Int32.reduceLT, Int32.reduceLE, not_true, not_false_iff, true_and, and_true, false_and, and_false]
      exact u1
set_option maxHeartbeats 4000000 in
theorem c_scWord (h : VG) (g L p t : Nat) (b : Nat → Nat) (ht : t < 401) (hp : p < L) (hb : isLe (b p) = true) (hs : Sh h g) (tx : TXc h g b L) (hw : ∀ j, j < 14 → aL h (g + 7) j = cWord j) (h0 : aL h (g + 6) t = 0) : ∃ h1, ev 87 0 [some (.ref (g + 3)), some (.ref (g + 1)), some (.int (nI L)), some (.int (nI p)), some (.int (nI t)), none, none] [] h = some (some (.int (nI (tEnd b L p))), h1) ∧ Fr (fun a => a = g + 4 ∨ a = g + 6) NF h h1 ∧ (∀ j, ¬ j = t → aI h1 (g + 4) j = aI h (g + 4) j ∧ aL h1 (g + 6) j = aL h (g + 6) j) ∧ aI h1 (g + 4) t = nI (cTy (tKd b L p)) ∧ (24 ≤ tKd b L p → aL h1 (g + 6) t = Int64.ofNat (tKd b L p - 24)) ∧ (tKd b L p = 1 → aL h1 (g + 6) t = Int64.ofNat (tNm b L p)) := by
  have hL := tx.1
  have v1 : vp_in (nI t) 401 := vp_in_nI (by omega) (by decide)
  have v2 : (nI t).toNatClampNeg = t := nI_clamp (by omega)
  have nL : ¬ L ≤ p := by omega
  have eE : tEnd b L p = spn isLe b (L - p) p := by
    unfold tEnd
    rw [if_neg nL, hb]
    rfl
  have eK : tKd b L p = if 8 < spn isLe b (L - p) p - p then 3 else wKd (tNm b L p) := by
    unfold tKd
    rw [if_neg nL, hb]
    rfl
  obtain ⟨i1, i2, i3, -⟩ := spn_b isLe b (L - p) p
  obtain ⟨h1, u1, u2, u3, u4⟩ := l_scW g L p t b ht (L - p) p h none (Nat.le_refl _) (by omega) hs tx (by rw [Nat.sub_self]; exact h0)
  have nm : tNm b L p = vl 32 (dgL b p) (spn isLe b (L - p) p - p) := rfl
  rw [eE, eK]
  generalize spn isLe b (L - p) p = E at *
  have s1 : Sh h1 g := Sh_fr u2 (fun a z => by omega) hs
  have sub : nI E - nI p = nI (E - p) := pk_sub i1
  by_cases q : 8 < E - p
  · rw [if_pos q]
    have q' : ¬ nI (E - p) ≤ 8 := fun z => by
      have := (nI_leI (b := 8) (by omega) (by decide)).mp z
      omega
    have x1 : Fr (fun a => a = g + 4 ∨ a = g + 6) NF h1 (wI h1 (g + 4) t 1) := Fr_wI _ _ _ _ (Or.inl rfl)
    have s2 := Sh_fr x1 (fun a z => by omega) s1
    have r4 : ∀ j, aI (wI h1 (g + 4) t 1) (g + 4) j = if j = t then 1 else aI h1 (g + 4) j := by
      intro j
      rw [aI_wI0 _ _ _ _ _ _ (Tok_5 (Cls_13 s1.1))]
      simp only [true_and]
    have r4t := r4 t
    rw [if_pos rfl] at r4t
    refine ⟨wI h1 (g + 4) t 1, ?_, (u2.mo (fun a z => Or.inr z) (fun _ _ z => z)).tr x1, fun j hj => ?_, ?_, fun z => by omega, fun z => by omega⟩
    · simp +decide only [e87_0, e87_1, vkk_n, vkk_i, vkk_r, vkk_l, vkk_d, catS_nil, catS_i, catS_r, catS_l, catS_d, Nat.reduceAdd, Nat.reduceLeDiff, Nat.zero_le, Nat.le_refl, Option.bind_some, Option.toList_some, Option.toList_none, List.cons_append, List.nil_append, or_true, true_or, if_true, if_false, Int32.reduceLT, Int32.reduceLE, not_true, not_false_iff, true_and, and_true, false_and, and_false]
      rw [u1]
      simp +decide only [e87_46, e87_47, e87_50, e87_52, e87_54, e87_55, e87_56, e87_58, e87_61, e87_62, e87_65, e87_66, e87_67, e87_68, sub, q', (Tok_0 (Cls_13 s1.1) : ob h1 (g + 3) 9), (rf_g (Tok_1 (Cls_13 s1.1) : rf h1 (g + 3) 0 (g + 4)) : gR h1 (g + 3) 0 = (g + 4)), (rf_is (Tok_1 (Cls_13 s1.1) : rf h1 (g + 3) 0 (g + 4)) : isR h1 (g + 3) 0), (rf_g (Tok_2 (Cls_13 s1.1) : rf h1 (g + 3) 1 (g + 5)) : gR h1 (g + 3) 1 = (g + 5)), (rf_is (Tok_2 (Cls_13 s1.1) : rf h1 (g + 3) 1 (g + 5)) : isR h1 (g + 3) 1), (rf_g (Tok_3 (Cls_13 s1.1) : rf h1 (g + 3) 2 (g + 6)) : gR h1 (g + 3) 2 = (g + 6)), (rf_is (Tok_3 (Cls_13 s1.1) : rf h1 (g + 3) 2 (g + 6)) : isR h1 (g + 3) 2), (rf_g (Tok_4 (Cls_13 s1.1) : rf h1 (g + 3) 3 (g + 7)) : gR h1 (g + 3) 3 = (g + 7)), (rf_is (Tok_4 (Cls_13 s1.1) : rf h1 (g + 3) 3 (g + 7)) : isR h1 (g + 3) 3), (Tok_5 (Cls_13 s1.1) : arI h1 (g + 4) 0), (rdI_0 (Tok_5 (Cls_13 s1.1) : arI h1 (g + 4) 0) : rdI h1 (g + 4)), (Tok_6 (Cls_13 s1.1) : aln h1 (g + 4) = 401), (Tok_7 (Cls_13 s1.1) : arI h1 (g + 5) 0), (rdI_0 (Tok_7 (Cls_13 s1.1) : arI h1 (g + 5) 0) : rdI h1 (g + 5)), (Tok_8 (Cls_13 s1.1) : aln h1 (g + 5) = 401), (Tok_9 (Cls_13 s1.1) : arL h1 (g + 6)), (Tok_10 (Cls_13 s1.1) : aln h1 (g + 6) = 401), (Tok_11 (Cls_13 s1.1) : arL h1 (g + 7)), (Tok_12 (Cls_13 s1.1) : aln h1 (g + 7) = 14), v1, v2, vkk_n, vkk_i, vkk_r, vkk_l, vkk_d, catS_nil, catS_i, catS_r, catS_l, catS_d, Nat.reduceAdd, Nat.reduceLeDiff, Nat.zero_le, Nat.le_refl, Option.bind_some, Option.toList_some, Option.toList_none, List.cons_append, List.nil_append, or_true, true_or, if_true, if_false, Int32.reduceLT, Int32.reduceLE, not_true, not_false_iff, true_and, and_true, false_and, and_false]
      generalize wI h1 (g + 4) t 1 = W at s2 r4t ⊢
      simp +decide only [e87_67, e87_68, e87_70, e87_72, e87_74, e87_77, e87_78, e87_81, e87_83, e87_84, e87_85, e87_88, e87_89, e87_92, e87_94, e87_95, e87_96, e87_99, e87_101, e87_102, e87_103, e87_106, e87_107, e87_110, e87_112, e87_114, e87_116, e87_119, e87_120, e87_123, e87_125, e87_127, e87_128, e87_130, e87_131, e87_132, e87_133, e87_136, e87_138, e87_140, e87_141, e87_142, e87_145, e87_148, e87_150, (Tok_0 (Cls_13 s2.1) : ob W (g + 3) 9), (rf_g (Tok_1 (Cls_13 s2.1) : rf W (g + 3) 0 (g + 4)) : gR W (g + 3) 0 = (g + 4)), (rf_is (Tok_1 (Cls_13 s2.1) : rf W (g + 3) 0 (g + 4)) : isR W (g + 3) 0), (rf_g (Tok_2 (Cls_13 s2.1) : rf W (g + 3) 1 (g + 5)) : gR W (g + 3) 1 = (g + 5)), (rf_is (Tok_2 (Cls_13 s2.1) : rf W (g + 3) 1 (g + 5)) : isR W (g + 3) 1), (rf_g (Tok_3 (Cls_13 s2.1) : rf W (g + 3) 2 (g + 6)) : gR W (g + 3) 2 = (g + 6)), (rf_is (Tok_3 (Cls_13 s2.1) : rf W (g + 3) 2 (g + 6)) : isR W (g + 3) 2), (rf_g (Tok_4 (Cls_13 s2.1) : rf W (g + 3) 3 (g + 7)) : gR W (g + 3) 3 = (g + 7)), (rf_is (Tok_4 (Cls_13 s2.1) : rf W (g + 3) 3 (g + 7)) : isR W (g + 3) 3), (Tok_5 (Cls_13 s2.1) : arI W (g + 4) 0), (rdI_0 (Tok_5 (Cls_13 s2.1) : arI W (g + 4) 0) : rdI W (g + 4)), (Tok_6 (Cls_13 s2.1) : aln W (g + 4) = 401), (Tok_7 (Cls_13 s2.1) : arI W (g + 5) 0), (rdI_0 (Tok_7 (Cls_13 s2.1) : arI W (g + 5) 0) : rdI W (g + 5)), (Tok_8 (Cls_13 s2.1) : aln W (g + 5) = 401), (Tok_9 (Cls_13 s2.1) : arL W (g + 6)), (Tok_10 (Cls_13 s2.1) : aln W (g + 6) = 401), (Tok_11 (Cls_13 s2.1) : arL W (g + 7)), (Tok_12 (Cls_13 s2.1) : aln W (g + 7) = 14), v1, v2, r4t, vkk_n, vkk_i, vkk_r, vkk_l, vkk_d, catS_nil, catS_i, catS_r, catS_l, catS_d, Nat.reduceAdd, Nat.reduceLeDiff, Nat.zero_le, Nat.le_refl, Option.bind_some, Option.toList_some, Option.toList_none, List.cons_append, List.nil_append, or_true, true_or, if_true, if_false, Int32.reduceLT, Int32.reduceLE, not_true, not_false_iff, true_and, and_true, false_and, and_false]
    · rw [r4 j, if_neg hj, aL_wI, u4 j hj, u2.I (fun z => by omega)]
      exact ⟨rfl, rfl⟩
    · rw [r4t]
      rfl
  · rw [if_neg q]
    have q' : nI (E - p) ≤ 8 := nI_le (b := 8) (by omega) (by decide)
    obtain ⟨n1, n2⟩ := vS_n b p (E - p) (by omega) (fun i hi => i3 _ (by omega) (by omega))
    rw [ofN_u n1, ← nm] at u3
    rw [← nm] at n2
    have pw : 32 ^ (E - p) ≤ 32 ^ 8 := Nat.pow_le_pow_right (by decide) (by omega)
    generalize tNm b L p = V at u3 n2
    have x1 : Fr (fun a => a = g + 4 ∨ a = g + 6) NF h1 (wI h1 (g + 4) t 2) := Fr_wI _ _ _ _ (Or.inl rfl)
    have s2 := Sh_fr x1 (fun a z => by omega) s1
    have r4 : ∀ j, aI (wI h1 (g + 4) t 2) (g + 4) j = if j = t then 2 else aI h1 (g + 4) j := by
      intro j
      rw [aI_wI0 _ _ _ _ _ _ (Tok_5 (Cls_13 s1.1))]
      simp only [true_and]
    have r6 : ∀ j, aL (wI h1 (g + 4) t 2) (g + 6) j = aL h1 (g + 6) j := fun j => aL_wI ..
    have r4t := r4 t
    rw [if_pos rfl] at r4t
    have rw7 : ∀ j, j < 14 → aL (wI h1 (g + 4) t 2) (g + 7) j = cWord j := fun j hj => (x1.L (a := g + 7) (fun z => by omega) j).trans ((u2.L (a := g + 7) (fun z => by omega) j).trans (hw j hj))
    obtain ⟨h2, x6, w1, w2, w3, w4, w5⟩ := l_wd g L p t V (nI E) ht (by omega) 14 0 (wI h1 (g + 4) t 2) rfl s2 rw7 r4t ((r6 t).trans u3)
    have w1 : ev 87 70 [some (.ref (g + 3)), some (.ref (g + 1)), some (.int (nI L)), some (.int (nI p)), some (.int (nI t)), some (.int (nI E)), some (.int 0)] [] (wI h1 (g + 4) t 2) = _ := w1
    refine ⟨h2, ?_, ((u2.mo (fun a z => Or.inr z) (fun _ _ z => z)).tr x1).tr w2, fun j hj => ?_, ?_, fun z => ?_, fun z => ?_⟩
    · simp +decide only [e87_0, e87_1, vkk_n, vkk_i, vkk_r, vkk_l, vkk_d, catS_nil, catS_i, catS_r, catS_l, catS_d, Nat.reduceAdd, Nat.reduceLeDiff, Nat.zero_le, Nat.le_refl, Option.bind_some, Option.toList_some, Option.toList_none, List.cons_append, List.nil_append, or_true, true_or, if_true, if_false, Int32.reduceLT, Int32.reduceLE, not_true, not_false_iff, true_and, and_true, false_and, and_false]
      rw [u1]
      simp +decide only [e87_46, e87_47, e87_50, e87_52, e87_54, e87_55, e87_56, e87_58, e87_61, e87_62, e87_65, e87_66, e87_67, e87_68, sub, q', (Tok_0 (Cls_13 s1.1) : ob h1 (g + 3) 9), (rf_g (Tok_1 (Cls_13 s1.1) : rf h1 (g + 3) 0 (g + 4)) : gR h1 (g + 3) 0 = (g + 4)), (rf_is (Tok_1 (Cls_13 s1.1) : rf h1 (g + 3) 0 (g + 4)) : isR h1 (g + 3) 0), (rf_g (Tok_2 (Cls_13 s1.1) : rf h1 (g + 3) 1 (g + 5)) : gR h1 (g + 3) 1 = (g + 5)), (rf_is (Tok_2 (Cls_13 s1.1) : rf h1 (g + 3) 1 (g + 5)) : isR h1 (g + 3) 1), (rf_g (Tok_3 (Cls_13 s1.1) : rf h1 (g + 3) 2 (g + 6)) : gR h1 (g + 3) 2 = (g + 6)), (rf_is (Tok_3 (Cls_13 s1.1) : rf h1 (g + 3) 2 (g + 6)) : isR h1 (g + 3) 2), (rf_g (Tok_4 (Cls_13 s1.1) : rf h1 (g + 3) 3 (g + 7)) : gR h1 (g + 3) 3 = (g + 7)), (rf_is (Tok_4 (Cls_13 s1.1) : rf h1 (g + 3) 3 (g + 7)) : isR h1 (g + 3) 3), (Tok_5 (Cls_13 s1.1) : arI h1 (g + 4) 0), (rdI_0 (Tok_5 (Cls_13 s1.1) : arI h1 (g + 4) 0) : rdI h1 (g + 4)), (Tok_6 (Cls_13 s1.1) : aln h1 (g + 4) = 401), (Tok_7 (Cls_13 s1.1) : arI h1 (g + 5) 0), (rdI_0 (Tok_7 (Cls_13 s1.1) : arI h1 (g + 5) 0) : rdI h1 (g + 5)), (Tok_8 (Cls_13 s1.1) : aln h1 (g + 5) = 401), (Tok_9 (Cls_13 s1.1) : arL h1 (g + 6)), (Tok_10 (Cls_13 s1.1) : aln h1 (g + 6) = 401), (Tok_11 (Cls_13 s1.1) : arL h1 (g + 7)), (Tok_12 (Cls_13 s1.1) : aln h1 (g + 7) = 14), v1, v2, vkk_n, vkk_i, vkk_r, vkk_l, vkk_d, catS_nil, catS_i, catS_r, catS_l, catS_d, Nat.reduceAdd, Nat.reduceLeDiff, Nat.zero_le, Nat.le_refl, Option.bind_some, Option.toList_some, Option.toList_none, List.cons_append, List.nil_append, or_true, true_or, if_true, if_false, Int32.reduceLT, Int32.reduceLE, not_true, not_false_iff, true_and, and_true, false_and, and_false]
      rw [w1]
      simp +decide only [e87_148, e87_150, vkk_n, vkk_i, vkk_r, vkk_l, vkk_d, catS_nil, catS_i, catS_r, catS_l, catS_d, Nat.reduceAdd, Nat.reduceLeDiff, Nat.zero_le, Nat.le_refl, Option.bind_some, Option.toList_some, Option.toList_none, List.cons_append, List.nil_append, or_true, true_or, if_true, if_false, Int32.reduceLT, Int32.reduceLE, not_true, not_false_iff, true_and, and_true, false_and, and_false]
    · rw [(w3 j hj).1, (w3 j hj).2, r4 j, if_neg hj, r6, u4 j hj, u2.I (fun z => by omega)]
      exact ⟨rfl, rfl⟩
    · rw [w4]
      have f2 := (wF_le V 14 0 rfl).2.1
      unfold wKd
      by_cases y : wF V 14 0 < 10
      · rw [if_pos y, if_pos y]
        unfold cTy
        rw [if_neg (by omega), if_neg (by omega), if_neg (by omega), if_neg (by omega), if_neg (by omega), if_pos (by omega)]
        rfl
      · rw [if_neg y, if_neg y]
        by_cases y2 : wF V 14 0 < 14
        · rw [if_pos y2, if_pos y2]
          unfold cTy
          rw [if_neg (by omega), if_neg (by omega), if_neg (by omega), if_neg (by omega), if_neg (by omega), if_neg (by omega), show 10 + wF V 14 0 - 14 = wF V 14 0 - 4 by omega]
        · rw [if_neg y2, if_neg y2]
          rfl
    · rw [w5]
      unfold wKd at z ⊢
      have f2 := (wF_le V 14 0 rfl).2.1
      by_cases y : wF V 14 0 < 10
      · rw [if_pos y, if_pos (by omega), show 24 + wF V 14 0 - 24 = wF V 14 0 by omega]
      · rw [if_neg y] at z
        exfalso
        revert z
        split <;> omega
    · rw [w5]
      unfold wKd at z
      have f2 := (wF_le V 14 0 rfl).2.1
      by_cases y : wF V 14 0 < 14
      · exfalso
        revert z
        (repeat' split) <;> omega
      · rw [if_neg y]
