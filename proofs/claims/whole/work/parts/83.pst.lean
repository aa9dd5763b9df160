/-! paste: what both sides do -/
def pasRef (s2 s1 : Int32) : Int32 := if s2 = 11 then 3 else if s1 = 11 then 3 else if s2 = 10 then 2 else if s1 = 10 then 2 else if s2 = s1 then 0 else if s2 ≤ 7 then 2 else if s1 ≤ 7 then 2 else 0
theorem c_pasteRefusal (h : VG) (B A : Nat) (oB : ob h B 1) (oA : ob h A 1) : ev 13 0 [some (.ref B), some (.ref A), none] [] h = some (some (.int (pasRef (gI h B 0) (gI h A 0))), h) := by
  unfold pasRef
  simp +decide only [e13_0, e13_1, e13_4, e13_6, e13_9, e13_10, e13_13, e13_15, e13_18, e13_19, e13_20, e13_21, e13_24, e13_26, e13_29, e13_30, e13_33, e13_35, e13_38, e13_39, e13_40, e13_41, e13_44, e13_46, e13_49, e13_50, e13_53, e13_55, e13_58, e13_59, e13_62, e13_63, e13_64, e13_65, e13_68, e13_69, e13_72, e13_75, e13_76, e13_79, e13_80, e13_83, e13_84, oA, oB, vkk_n, vkk_i, vkk_r, vkk_l, vkk_d, catS_nil, catS_i, catS_r, catS_l, catS_d, Nat.reduceAdd, Nat.reduceLeDiff, Nat.zero_le, Nat.le_refl, Option.bind_some, Option.toList_some, Option.toList_none, List.cons_append, List.nil_append, or_true, true_or, if_true, if_false, Int32.reduceLT, Int32.reduceLE, not_true, not_false_iff, true_and, and_true, false_and, and_false]
  generalize gI h B 0 = x
  generalize gI h A 0 = y
  (repeat' split) <;> first | rfl | simp_all
def spnRef (c i n : Int32) : Int32 := if n < 0 then 1 else if i < 0 then 1 else if i.toInt64 + n.toInt64 ≤ c.toInt64 then 0 else 1
theorem c_spanRefusal (h : VG) (B : Nat) (i n : Int32) (oB : ob h B 1) : ev 14 0 [some (.ref B), some (.int i), some (.int n)] [] h = some (some (.int (spnRef (gI h B 1) i n)), h) := by
  unfold spnRef
  simp +decide only [e14_0, e14_1, e14_4, e14_5, e14_8, e14_9, e14_10, e14_11, e14_12, e14_13, e14_14, e14_17, e14_18, e14_19, e14_22, e14_23, e14_26, e14_27, oB, lcmp_lt, lcmp_le, lcmp_eq, vkk_n, vkk_i, vkk_r, vkk_l, vkk_d, catS_nil, catS_i, catS_r, catS_l, catS_d, Nat.reduceAdd, Nat.reduceLeDiff, Nat.zero_le, Nat.le_refl, Option.bind_some, Option.toList_some, Option.toList_none, List.cons_append, List.nil_append, or_true, true_or, if_true, if_false, Int32.reduceLT, Int32.reduceLE, not_true, not_false_iff, true_and, and_true, false_and, and_false]
  (repeat' split) <;> first | rfl | simp_all
theorem span_ok {c : Nat} (hc : c ≤ 40) (i n : Int32) : (spnRef (nI c) i n = 0 ∧ ∃ I N, i = nI I ∧ n = nI N ∧ I + N ≤ c ∧ nI I ≤ nI c - nI N) ∨ (spnRef (nI c) i n = 1 ∧ (n < 0 ∨ (¬ n < 0 ∧ i < 0) ∨ (¬ n < 0 ∧ ¬ i < 0 ∧ ¬ i ≤ nI c - n))) := by
  unfold spnRef
  by_cases n0 : n < 0
  · exact Or.inr ⟨if_pos n0, Or.inl n0⟩
  by_cases i0 : i < 0
  · exact Or.inr ⟨by rw [if_neg n0, if_pos i0], Or.inr (Or.inl ⟨n0, i0⟩)⟩
  rw [if_neg n0, if_neg i0]
  have n1 : 0 ≤ n.toInt := by
    have := Int32.not_lt.mp n0
    rw [Int32.le_iff_toInt_le] at this
    exact this
  have i1 : 0 ≤ i.toInt := by
    have := Int32.not_lt.mp i0
    rw [Int32.le_iff_toInt_le] at this
    exact this
  have n2 := n.toInt_lt
  have i2 := i.toInt_lt
  have s1 : (i.toInt64 + n.toInt64).toInt = i.toInt + n.toInt := by
    rw [Int64.toInt_add, Int32.toInt_toInt64, Int32.toInt_toInt64, Int.bmod_eq_of_le (by omega) (by omega)]
  have s2 : (nI c - n).toInt = (c : Int) - n.toInt := by
    rw [Int32.toInt_sub, nI_toInt (by omega), Int.bmod_eq_of_le (by omega) (by omega)]
  have s3 : i.toInt64 + n.toInt64 ≤ (nI c).toInt64 ↔ i.toInt + n.toInt ≤ (c : Int) := by
    rw [Int64.le_iff_toInt_le, s1, Int32.toInt_toInt64, nI_toInt (by omega)]
  have s4 : i ≤ nI c - n ↔ i.toInt + n.toInt ≤ (c : Int) := by
    rw [Int32.le_iff_toInt_le, s2]
    omega
  by_cases q : i.toInt + n.toInt ≤ (c : Int)
  · refine Or.inl ⟨if_pos (s3.mpr q), i.toInt.toNat, n.toInt.toNat, ?_, ?_, by omega, ?_⟩
    · apply Int32.toInt_inj.mp
      rw [nI_toInt (by omega)]
      omega
    · apply Int32.toInt_inj.mp
      rw [nI_toInt (by omega)]
      omega
    · have a1 : i = nI i.toInt.toNat := by
        apply Int32.toInt_inj.mp
        rw [nI_toInt (by omega)]
        omega
      have a2 : n = nI n.toInt.toNat := by
        apply Int32.toInt_inj.mp
        rw [nI_toInt (by omega)]
        omega
      rw [← a1, ← a2]
      exact s4.mpr q
  · exact Or.inr ⟨if_neg (fun z => q (s3.mp z)), Or.inr (Or.inr ⟨n0, i0, fun z => q (s4.mp z)⟩)⟩
/-- where words and nothing end, from k on, d to look at; where picking ends -/
def wFn (K : Nat → Int32) : Nat → Nat → Nat
  | k, 0 => k
  | k, d + 1 => if K k = 8 ∨ K k = -2 then wFn K (k + 1) d else k
def pS (pk : Int32) (K : Nat → Int32) : Nat → Nat → Nat
  | k, 0 => k
  | k, d + 1 => if pk = 0 ∨ K k = 8 ∨ K k = -2 then pS pk K (k + 1) d else k
theorem pS_0 (K : Nat → Int32) : ∀ d k, pS 0 K k d = k + d
  | 0, k => rfl
  | d + 1, k => by
    show (if _ then pS 0 K (k + 1) d else k) = _
    rw [if_pos (Or.inl rfl), pS_0 K d (k + 1)]
    omega
theorem pS_1 (K : Nat → Int32) : ∀ d k, pS 1 K k d = wFn K k d
  | 0, k => rfl
  | d + 1, k => by
    show (if _ then pS 1 K (k + 1) d else k) = (if _ then wFn K (k + 1) d else k)
    by_cases q : K k = 8 ∨ K k = -2
    · rw [if_pos (Or.inr q), if_pos q, pS_1 K d (k + 1)]
    · rw [if_neg (fun z => z.elim (fun y => absurd y (by decide)) q), if_neg q]
theorem wFn_all (K : Nat → Int32) : ∀ d k, (∀ x, k ≤ x → x < k + d → K x = 8 ∨ K x = -2) → wFn K k d = k + d
  | 0, k, _ => rfl
  | d + 1, k, h => by
    show (if _ then wFn K (k + 1) d else k) = _
    rw [if_pos (h k (Nat.le_refl _) (by omega)), wFn_all K d (k + 1) (fun x h1 h2 => h x (by omega) (by omega))]
    omega
theorem pS_le (pk : Int32) (K : Nat → Int32) : ∀ d k, k ≤ pS pk K k d ∧ pS pk K k d ≤ k + d ∧ ∀ x, k ≤ x → x < pS pk K k d → pk = 0 ∨ K x = 8 ∨ K x = -2
  | 0, k => ⟨Nat.le_refl _, Nat.le_refl _, fun x h1 h2 => by
    have : pS pk K k 0 = k := rfl
    omega⟩
  | d + 1, k => by
    have e : pS pk K k (d + 1) = if pk = 0 ∨ K k = 8 ∨ K k = -2 then pS pk K (k + 1) d else k := rfl
    rw [e]
    by_cases q : pk = 0 ∨ K k = 8 ∨ K k = -2
    · rw [if_pos q]
      obtain ⟨a1, a2, a3⟩ := pS_le pk K d (k + 1)
      refine ⟨by omega, by omega, fun x h1 h2 => ?_⟩
      by_cases z : x = k
      · rw [z]
        exact q
      · exact a3 x (by omega) h2
    · rw [if_neg q]
      exact ⟨Nat.le_refl _, by omega, fun x h1 h2 => by omega⟩
theorem l_words (B I N : Nat) (h : VG) (hB : ShBin h B) (hI : I + N ≤ 40) : ∀ d k, k + d = N → ev 15 2 [some (.ref B), some (.int (nI I)), some (.int (nI N)), some (.int (nI k))] [] h = some (some (.int (nI (wFn (fun x => aI h (B + 1) (I + x)) k d))), h) := by
  intro d
  induction d with
  | zero =>
    intro k hk
    obtain rfl : k = N := by omega
    have q : ¬ nI k < nI k := nI_nlt (Nat.le_refl _) (by omega)
    rw [show wFn (fun x => aI h (B + 1) (I + x)) k 0 = k from rfl]
    simp +decide only [e15_2, e15_3, e15_4, e15_39, e15_40, q, vkk_n, vkk_i, vkk_r, vkk_l, vkk_d, catS_nil, catS_i, catS_r, catS_l, catS_d, Nat.reduceAdd, Nat.reduceLeDiff, Nat.zero_le, Nat.le_refl, Option.bind_some, Option.toList_some, Option.toList_none, List.cons_append, List.nil_append, or_true, true_or, if_true, if_false, Int32.reduceLT, Int32.reduceLE, not_true, not_false_iff, true_and, and_true, false_and, and_false]
  | succ d ih =>
    intro k hk
    have q : nI k < nI N := nI_lt (by omega) (by omega)
    have hv : vp_in (nI (I + k)) 40 := vp_in_nI (by omega) (by decide)
    have hc : (nI (I + k)).toNatClampNeg = I + k := nI_clamp (by omega)
    have y := ih (k + 1) (by omega)
    have e : wFn (fun x => aI h (B + 1) (I + x)) k (d + 1) = if aI h (B + 1) (I + k) = 8 ∨ aI h (B + 1) (I + k) = -2 then wFn (fun x => aI h (B + 1) (I + x)) (k + 1) d else k := rfl
    rw [e]
    by_cases q8 : aI h (B + 1) (I + k) = 8
    · rw [if_pos (Or.inl q8)]
      simp +decide only [e15_2, e15_3, e15_4, q, if_true]
      simp +decide only [e15_7, e15_8, e15_11, e15_12, e15_13, e15_14, e15_15, e15_17, e15_20, e15_21, e15_24, e15_25, e15_26, e15_27, e15_28, e15_30, e15_33, e15_36, e15_39, e15_40, q8, hv, hc, nI_add, nI_1, (Bin_0 hB : ob h B 1), (eq_true (isI_ob (Bin_0 hB : ob h B 1) rfl : isI h B 0)), (eq_true (isI_ob (Bin_0 hB : ob h B 1) rfl : isI h B 1)), (rf_g (Bin_1 hB : rf h B 2 (B + 1)) : gR h B 2 = (B + 1)), (rf_is (Bin_1 hB : rf h B 2 (B + 1)) : isR h B 2), (rf_g (Bin_2 hB : rf h B 3 (B + 2)) : gR h B 3 = (B + 2)), (rf_is (Bin_2 hB : rf h B 3 (B + 2)) : isR h B 3), (Bin_3 hB : arI h (B + 1) 0), (rdI_0 (Bin_3 hB : arI h (B + 1) 0) : rdI h (B + 1)), (Bin_4 hB : aln h (B + 1) = 40), (Bin_5 hB : arL h (B + 2)), (Bin_6 hB : aln h (B + 2) = 40), vkk_n, vkk_i, vkk_r, vkk_l, vkk_d, catS_nil, catS_i, catS_r, catS_l, catS_d, Nat.reduceAdd, Nat.reduceLeDiff, Nat.zero_le, Nat.le_refl, Option.bind_some, Option.toList_some, Option.toList_none, List.cons_append, List.nil_append, or_true, true_or, if_true, if_false, Int32.reduceLT, Int32.reduceLE, not_true, not_false_iff, true_and, and_true, false_and, and_false]
      exact y
    · by_cases q2 : aI h (B + 1) (I + k) = -2
      · rw [if_pos (Or.inr q2)]
        simp +decide only [e15_2, e15_3, e15_4, q, if_true]
        simp +decide only [e15_7, e15_8, e15_11, e15_12, e15_13, e15_14, e15_15, e15_17, e15_20, e15_21, e15_24, e15_25, e15_26, e15_27, e15_28, e15_30, e15_33, e15_36, e15_39, e15_40, q8, q2, hv, hc, nI_add, nI_1, (Bin_0 hB : ob h B 1), (eq_true (isI_ob (Bin_0 hB : ob h B 1) rfl : isI h B 0)), (eq_true (isI_ob (Bin_0 hB : ob h B 1) rfl : isI h B 1)), (rf_g (Bin_1 hB : rf h B 2 (B + 1)) : gR h B 2 = (B + 1)), (rf_is (Bin_1 hB : rf h B 2 (B + 1)) : isR h B 2), (rf_g (Bin_2 hB : rf h B 3 (B + 2)) : gR h B 3 = (B + 2)), (rf_is (Bin_2 hB : rf h B 3 (B + 2)) : isR h B 3), (Bin_3 hB : arI h (B + 1) 0), (rdI_0 (Bin_3 hB : arI h (B + 1) 0) : rdI h (B + 1)), (Bin_4 hB : aln h (B + 1) = 40), (Bin_5 hB : arL h (B + 2)), (Bin_6 hB : aln h (B + 2) = 40), vkk_n, vkk_i, vkk_r, vkk_l, vkk_d, catS_nil, catS_i, catS_r, catS_l, catS_d, Nat.reduceAdd, Nat.reduceLeDiff, Nat.zero_le, Nat.le_refl, Option.bind_some, Option.toList_some, Option.toList_none, List.cons_append, List.nil_append, or_true, true_or, if_true, if_false, Int32.reduceLT, Int32.reduceLE, not_true, not_false_iff, true_and, and_true, false_and, and_false]
        exact y
      · rw [if_neg (fun z => z.elim q8 q2)]
        simp +decide only [e15_2, e15_3, e15_4, q, if_true]
        simp +decide only [e15_7, e15_8, e15_11, e15_12, e15_13, e15_14, e15_15, e15_17, e15_20, e15_21, e15_24, e15_25, e15_26, e15_27, e15_28, e15_30, e15_33, e15_36, e15_39, e15_40, q8, q2, hv, hc, nI_add, nI_1, (Bin_0 hB : ob h B 1), (eq_true (isI_ob (Bin_0 hB : ob h B 1) rfl : isI h B 0)), (eq_true (isI_ob (Bin_0 hB : ob h B 1) rfl : isI h B 1)), (rf_g (Bin_1 hB : rf h B 2 (B + 1)) : gR h B 2 = (B + 1)), (rf_is (Bin_1 hB : rf h B 2 (B + 1)) : isR h B 2), (rf_g (Bin_2 hB : rf h B 3 (B + 2)) : gR h B 3 = (B + 2)), (rf_is (Bin_2 hB : rf h B 3 (B + 2)) : isR h B 3), (Bin_3 hB : arI h (B + 1) 0), (rdI_0 (Bin_3 hB : arI h (B + 1) 0) : rdI h (B + 1)), (Bin_4 hB : aln h (B + 1) = 40), (Bin_5 hB : arL h (B + 2)), (Bin_6 hB : aln h (B + 2) = 40), vkk_n, vkk_i, vkk_r, vkk_l, vkk_d, catS_nil, catS_i, catS_r, catS_l, catS_d, Nat.reduceAdd, Nat.reduceLeDiff, Nat.zero_le, Nat.le_refl, Option.bind_some, Option.toList_some, Option.toList_none, List.cons_append, List.nil_append, or_true, true_or, if_true, if_false, Int32.reduceLT, Int32.reduceLE, not_true, not_false_iff, true_and, and_true, false_and, and_false]
theorem c_pasteCells (h : VG) (A B I J N : Nat) (hA : ShBin h A) (hB : ShBin h B) (hI : I + N ≤ 40) (hJ : J + N ≤ 40) (ne : ¬ A + 2 = B + 1) : ∃ h1, ev 16 0 [some (.ref B), some (.ref A), some (.int (nI I)), some (.int (nI J)), some (.int (nI N))] [] h = some (none, h1) ∧ Fr (fun a => a = B + 1 ∨ a = B + 2) NF h h1 ∧ ∀ x, (aI h1 (B + 1) x = if J ≤ x ∧ x < J + N then aI h (A + 1) (I + (x - J)) else aI h (B + 1) x) ∧ (aL h1 (B + 2) x = if J ≤ x ∧ x < J + N then aL h (A + 2) (I + (x - J)) else aL h (B + 2) x) := by
  have cp := vcopyI (h := h) (s := A + 1) (d := B + 1) (t := 0) (a := I) (b := J) (n := N) (Bin_3 hA) (Bin_3 hB) (Or.inl rfl) (by rw [Bin_4 hA]; exact hI) (by rw [Bin_4 hB]; exact hJ) (by omega) (by omega) (by omega) (fun z => by cases z)
  have x1 : Fr (fun a => a = B + 1 ∨ a = B + 2) NF h (bI h (B + 1) (va_cpy (aI h (A + 1)) (aI h (B + 1)) I J N)) := Fr_bI _ _ _ (Or.inl rfl)
  have x1' : Fr (fun a => a = B + 1) NF h (bI h (B + 1) (va_cpy (aI h (A + 1)) (aI h (B + 1)) I J N)) := Fr_bI _ _ _ rfl
  have c1 : ∀ j, aI (bI h (B + 1) (va_cpy (aI h (A + 1)) (aI h (B + 1)) I J N)) (B + 1) j = if J ≤ j ∧ j < J + N then aI h (A + 1) (I + (j - J)) else aI h (B + 1) j := by
    intro j
    rw [aI_bI0 _ _ _ _ (Bin_3 hB)]
    rfl
  have aA : arL (bI h (B + 1) (va_cpy (aI h (A + 1)) (aI h (B + 1)) I J N)) (A + 2) := by rw [arL_bI]; exact Bin_5 hA
  have aB : arL (bI h (B + 1) (va_cpy (aI h (A + 1)) (aI h (B + 1)) I J N)) (B + 2) := by rw [arL_bI]; exact Bin_5 hB
  have nA : aln (bI h (B + 1) (va_cpy (aI h (A + 1)) (aI h (B + 1)) I J N)) (A + 2) = 40 := by rw [aln_bI]; exact Bin_6 hA
  have nB : aln (bI h (B + 1) (va_cpy (aI h (A + 1)) (aI h (B + 1)) I J N)) (B + 2) = 40 := by rw [aln_bI]; exact Bin_6 hB
  have gA : rf (bI h (B + 1) (va_cpy (aI h (A + 1)) (aI h (B + 1)) I J N)) A 3 (A + 2) := by rw [rf_bI]; exact Bin_2 hA
  have gB : rf (bI h (B + 1) (va_cpy (aI h (A + 1)) (aI h (B + 1)) I J N)) B 3 (B + 2) := by rw [rf_bI]; exact Bin_2 hB
  have oA : ob (bI h (B + 1) (va_cpy (aI h (A + 1)) (aI h (B + 1)) I J N)) A 1 := by rw [ob_bI]; exact Bin_0 hA
  have oB : ob (bI h (B + 1) (va_cpy (aI h (A + 1)) (aI h (B + 1)) I J N)) B 1 := by rw [ob_bI]; exact Bin_0 hB
  have lA : aL (bI h (B + 1) (va_cpy (aI h (A + 1)) (aI h (B + 1)) I J N)) (A + 2) = aL h (A + 2) := by
    funext j
    rw [aL_bI]
  have lB : aL (bI h (B + 1) (va_cpy (aI h (A + 1)) (aI h (B + 1)) I J N)) (B + 2) = aL h (B + 2) := by
    funext j
    rw [aL_bI]
  generalize bI h (B + 1) (va_cpy (aI h (A + 1)) (aI h (B + 1)) I J N) = H at cp x1 x1' c1 aA aB nA nB gA gB oA oB lA lB
  have cq := vcopyL (h := H) (s := A + 2) (d := B + 2) (a := I) (b := J) (n := N) aA aB (by rw [nA]; exact hI) (by rw [nB]; exact hJ) (by omega) (by omega) (by omega)
  have x2 : Fr (fun a => a = B + 1 ∨ a = B + 2) NF H (bL H (B + 2) (va_cpy (aL H (A + 2)) (aL H (B + 2)) I J N)) := Fr_bL _ _ _ (Or.inr rfl)
  have x2' : Fr (fun a => a = B + 2) NF H (bL H (B + 2) (va_cpy (aL H (A + 2)) (aL H (B + 2)) I J N)) := Fr_bL _ _ _ rfl
  have c2 : ∀ j, aL (bL H (B + 2) (va_cpy (aL H (A + 2)) (aL H (B + 2)) I J N)) (B + 2) j = if J ≤ j ∧ j < J + N then aL h (A + 2) (I + (j - J)) else aL h (B + 2) j := by
    intro j
    rw [aL_bL _ _ _ _ aB, lA, lB]
    rfl
  generalize bL H (B + 2) (va_cpy (aL H (A + 2)) (aL H (B + 2)) I J N) = H2 at cq x2 x2' c2
  refine ⟨H2, ?_, x1.tr x2, fun x => ⟨?_, c2 x⟩⟩
  · simp +decide only [e16_0, e16_1, e16_4, e16_5, e16_6, e16_9, e16_10, (Bin_0 hA : ob h A 1), (eq_true (isI_ob (Bin_0 hA : ob h A 1) rfl : isI h A 0)), (eq_true (isI_ob (Bin_0 hA : ob h A 1) rfl : isI h A 1)), (rf_g (Bin_1 hA : rf h A 2 (A + 1)) : gR h A 2 = (A + 1)), (rf_is (Bin_1 hA : rf h A 2 (A + 1)) : isR h A 2), (rf_g (Bin_2 hA : rf h A 3 (A + 2)) : gR h A 3 = (A + 2)), (rf_is (Bin_2 hA : rf h A 3 (A + 2)) : isR h A 3), (Bin_3 hA : arI h (A + 1) 0), (rdI_0 (Bin_3 hA : arI h (A + 1) 0) : rdI h (A + 1)), (Bin_4 hA : aln h (A + 1) = 40), (Bin_5 hA : arL h (A + 2)), (Bin_6 hA : aln h (A + 2) = 40), (Bin_0 hB : ob h B 1), (eq_true (isI_ob (Bin_0 hB : ob h B 1) rfl : isI h B 0)), (eq_true (isI_ob (Bin_0 hB : ob h B 1) rfl : isI h B 1)), (rf_g (Bin_1 hB : rf h B 2 (B + 1)) : gR h B 2 = (B + 1)), (rf_is (Bin_1 hB : rf h B 2 (B + 1)) : isR h B 2), (rf_g (Bin_2 hB : rf h B 3 (B + 2)) : gR h B 3 = (B + 2)), (rf_is (Bin_2 hB : rf h B 3 (B + 2)) : isR h B 3), (Bin_3 hB : arI h (B + 1) 0), (rdI_0 (Bin_3 hB : arI h (B + 1) 0) : rdI h (B + 1)), (Bin_4 hB : aln h (B + 1) = 40), (Bin_5 hB : arL h (B + 2)), (Bin_6 hB : aln h (B + 2) = 40), vkk_n, vkk_i, vkk_r, vkk_l, vkk_d, catS_nil, catS_i, catS_r, catS_l, catS_d, Nat.reduceAdd, Nat.reduceLeDiff, Nat.zero_le, Nat.le_refl, Option.bind_some, Option.toList_some, Option.toList_none, List.cons_append, List.nil_append, or_true, true_or, if_true, if_false, Int32.reduceLT, Int32.reduceLE, not_true, not_false_iff, true_and, and_true, false_and, and_false]
    rw [e16_12 _ _ _ _ _ _ _ _ _ (by decide) cp]
    simp +decide only [e16_15, e16_16, e16_19, e16_20, e16_21, e16_24, e16_25, oA, oB, rf_g gA, rf_g gB, rf_is gA, rf_is gB, vkk_n, vkk_i, vkk_r, vkk_l, vkk_d, catS_nil, catS_i, catS_r, catS_l, catS_d, Nat.reduceAdd, Nat.reduceLeDiff, Nat.zero_le, Nat.le_refl, Option.bind_some, Option.toList_some, Option.toList_none, List.cons_append, List.nil_append, or_true, true_or, if_true, if_false, Int32.reduceLT, Int32.reduceLE, not_true, not_false_iff, true_and, and_true, false_and, and_false]
    rw [e16_27 _ _ _ _ _ _ _ _ _ (by decide) cq]
    simp +decide only [e16_30, vkk_n, vkk_i, vkk_r, vkk_l, vkk_d, catS_nil, catS_i, catS_r, catS_l, catS_d, Nat.reduceAdd, Nat.reduceLeDiff, Nat.zero_le, Nat.le_refl, Option.bind_some, Option.toList_some, Option.toList_none, List.cons_append, List.nil_append, or_true, true_or, if_true, if_false, Int32.reduceLT, Int32.reduceLE, not_true, not_false_iff, true_and, and_true, false_and, and_false]
  · rw [x2'.I (fun z => by omega), c1]
set_option maxHeartbeats 4000000 in
theorem l_pst1 (g : Nat) (P N : Nat) (b i t j pk wd : Int32) (hP : (40 : Int32) * b + i = nI P) (hPN : P + N ≤ 320) (hN : N ≤ 40) (V0 : Nat → Int32) (V1 : Nat → Int64) (V2 : Nat → UInt64) : ∀ (d k : Nat) (h : VG), k + d = N → Sh h g → (∀ i, i < N → aI h (g + 287) (P + i) = V0 i) → (∀ i, i < N → aL h (g + 288) (P + i) = V1 i) → (∀ i, i < N → aD h (g + 289) (P + i) = V2 i) → ∃ h1, ev 197 166 [some (.ref (g + 266)), some (.int b), some (.int i), some (.int t), some (.int j), some (.int (nI N)), some (.int pk), some (.int wd), some (.int (nI k))] [] h = ev 197 242 [some (.ref (g + 266)), some (.int b), some (.int i), some (.int t), some (.int j), some (.int (nI N)), some (.int pk), some (.int wd), some (.int (nI (N)))] [] h1 ∧ Fr (fun a => a = g + 290 ∨ a = g + 291 ∨ a = g + 292) NF h h1 ∧ (∀ i, k ≤ i → i < N → aI h1 (g + 290) (i) = V0 i ∧ aL h1 (g + 291) (i) = V1 i ∧ aD h1 (g + 292) (i) = V2 i) ∧ ∀ j, ¬ (k ≤ j ∧ j < N) → aI h1 (g + 290) j = aI h (g + 290) j ∧ aL h1 (g + 291) j = aL h (g + 291) j ∧ aD h1 (g + 292) j = aD h (g + 292) j := by
  intro d
  induction d with
  | zero =>
    intro k h hk hs _ _ _
    obtain rfl : N = k := by omega
    have q : ¬ nI (N) < nI (N) := by rw [nI_ltI (by omega) (by omega)]; omega
    refine ⟨h, ?_, Fr.rfl _, fun i h1 h2 => by omega, fun j _ => ⟨rfl, rfl, rfl⟩⟩
    simp +decide only [e197_166, e197_168, e197_170, q, vkk_n, vkk_n, vkk_i, vkk_r, vkk_l, vkk_d, catS_nil, catS_i, catS_r, catS_l, catS_d, Nat.reduceAdd, Nat.reduceLeDiff, Nat.zero_le, Nat.le_refl, Option.bind_some, Option.toList_some, Option.toList_none, List.cons_append, List.nil_append, or_true, true_or, if_true, if_false, Int32.reduceLT, Int32.reduceLE, not_true, not_false_iff, true_and, and_true, false_and, and_false]
  | succ d ih =>
    intro k h hk hs r0 r1 r2
    have q : nI k < nI (N) := nI_lt (by omega) (by omega)
    have e0 := r0 k (by omega)
    have t0 : arI h (g + 290) 0 := Mod_71 hs.2.1
    have e1 := r1 k (by omega)
    have t1 : arL h (g + 291) := Mod_74 hs.2.1
    have e2 := r2 k (by omega)
    have t2 : arD h (g + 292) := Mod_77 hs.2.1
    have iv1 : vp_in (nI (k)) 40 := vp_in_nI (by omega) (by decide)
    have ic1 : (nI (k)).toNatClampNeg = k := nI_clamp (by omega)
    have iv2 : vp_in (nI (P + k)) 320 := vp_in_nI (by omega) (by decide)
    have ic2 : (nI (P + k)).toNatClampNeg = P + k := nI_clamp (by omega)
    have x1 : Fr (fun a => a = g + 290 ∨ a = g + 291 ∨ a = g + 292) NF h (wD (wL (wI h (g + 290) (k) (V0 k)) (g + 291) (k) (V1 k)) (g + 292) (k) (V2 k)) := (((Fr.rfl h).tr (Fr_wI _ _ _ _ (Or.inl rfl))).tr (Fr_wL _ _ _ _ (Or.inr (Or.inl rfl)))).tr (Fr_wD _ _ _ _ (Or.inr (Or.inr rfl)))
    have y1 : ∀ j, ¬ j = k → aI (wD (wL (wI h (g + 290) (k) (V0 k)) (g + 291) (k) (V1 k)) (g + 292) (k) (V2 k)) (g + 290) j = aI h (g + 290) j ∧ aL (wD (wL (wI h (g + 290) (k) (V0 k)) (g + 291) (k) (V1 k)) (g + 292) (k) (V2 k)) (g + 291) j = aL h (g + 291) j ∧ aD (wD (wL (wI h (g + 290) (k) (V0 k)) (g + 291) (k) (V1 k)) (g + 292) (k) (V2 k)) (g + 292) j = aD h (g + 292) j := by
      intro j hj
      refine ⟨?_, ?_, ?_⟩
      · rw [aI_wD, aI_wL, aI_wI_j _ _ _ _ _ _ hj]
      · rw [aL_wD, aL_wL_j _ _ _ _ _ _ hj, aL_wI]
      · rw [aD_wD_j _ _ _ _ _ _ hj, aD_wL, aD_wI]
    have y2 : aI (wD (wL (wI h (g + 290) (k) (V0 k)) (g + 291) (k) (V1 k)) (g + 292) (k) (V2 k)) (g + 290) (k) = V0 k ∧ aL (wD (wL (wI h (g + 290) (k) (V0 k)) (g + 291) (k) (V1 k)) (g + 292) (k) (V2 k)) (g + 291) (k) = V1 k ∧ aD (wD (wL (wI h (g + 290) (k) (V0 k)) (g + 291) (k) (V1 k)) (g + 292) (k) (V2 k)) (g + 292) (k) = V2 k := by
      refine ⟨?_, ?_, ?_⟩
      · rw [aI_wD, aI_wL, aI_wI0 _ _ _ _ _ _ t0, if_pos ⟨rfl, rfl⟩]
      · rw [aL_wD, aL_wL _ _ _ _ _ _ (by simp only [arL_wI, arL_wL, arL_wD]; exact t1), if_pos ⟨rfl, rfl⟩]
      · rw [aD_wD _ _ _ _ _ _ (by simp only [arD_wI, arD_wL, arD_wD]; exact t2), if_pos ⟨rfl, rfl⟩]
    have s1 : Sh (wD (wL (wI h (g + 290) (k) (V0 k)) (g + 291) (k) (V1 k)) (g + 292) (k) (V2 k)) g := Sh_fr x1 (fun a z => by omega) hs
    obtain ⟨h1, u1, u2, u3, u4⟩ := ih (k + 1) _ (by omega) s1 (fun i hi => by rw [x1.I (a := g + 287) (fun z => by omega)]; exact r0 i hi) (fun i hi => by rw [x1.L (a := g + 288) (fun z => by omega)]; exact r1 i hi) (fun i hi => by rw [x1.D (a := g + 289) (fun z => by omega)]; exact r2 i hi)
    refine ⟨h1, ?_, x1.tr u2, fun i i1 i2 => ?_, fun j hj => ?_⟩
    · simp +decide only [e197_166, e197_168, e197_170, q, vkk_n, if_true]
      simp +decide only [e197_173, e197_174, e197_177, e197_179, e197_180, e197_183, e197_185, e197_186, e197_187, e197_188, e197_189, e197_191, e197_192, e197_193, e197_194, e197_195, e197_198, e197_200, e197_201, e197_204, e197_206, e197_207, e197_208, e197_209, e197_210, e197_212, e197_213, e197_214, e197_215, e197_216, e197_219, e197_221, e197_222, e197_225, e197_227, e197_228, e197_229, e197_230, e197_231, e197_233, e197_234, e197_235, e197_236, e197_239, nI_add, hP, iv1, ic1, iv2, ic2, e0, e1, e2, (Mod_0 hs.2.1 : ob h (g + 266) 11), (rf_g (Mod_61 hs.2.1 : rf h (g + 266) 44 (g + 287)) : gR h (g + 266) 44 = (g + 287)), (rf_is (Mod_61 hs.2.1 : rf h (g + 266) 44 (g + 287)) : isR h (g + 266) 44), (Mod_62 hs.2.1 : arI h (g + 287) 0), (rdI_0 (Mod_62 hs.2.1 : arI h (g + 287) 0) : rdI h (g + 287)), (Mod_63 hs.2.1 : aln h (g + 287) = 320), (rf_g (Mod_64 hs.2.1 : rf h (g + 266) 45 (g + 288)) : gR h (g + 266) 45 = (g + 288)), (rf_is (Mod_64 hs.2.1 : rf h (g + 266) 45 (g + 288)) : isR h (g + 266) 45), (Mod_65 hs.2.1 : arL h (g + 288)), (Mod_66 hs.2.1 : aln h (g + 288) = 320), (rf_g (Mod_67 hs.2.1 : rf h (g + 266) 46 (g + 289)) : gR h (g + 266) 46 = (g + 289)), (rf_is (Mod_67 hs.2.1 : rf h (g + 266) 46 (g + 289)) : isR h (g + 266) 46), (Mod_68 hs.2.1 : arD h (g + 289)), (Mod_69 hs.2.1 : aln h (g + 289) = 320), (rf_g (Mod_70 hs.2.1 : rf h (g + 266) 47 (g + 290)) : gR h (g + 266) 47 = (g + 290)), (rf_is (Mod_70 hs.2.1 : rf h (g + 266) 47 (g + 290)) : isR h (g + 266) 47), (Mod_71 hs.2.1 : arI h (g + 290) 0), (rdI_0 (Mod_71 hs.2.1 : arI h (g + 290) 0) : rdI h (g + 290)), (Mod_72 hs.2.1 : aln h (g + 290) = 40), (rf_g (Mod_73 hs.2.1 : rf h (g + 266) 48 (g + 291)) : gR h (g + 266) 48 = (g + 291)), (rf_is (Mod_73 hs.2.1 : rf h (g + 266) 48 (g + 291)) : isR h (g + 266) 48), (Mod_74 hs.2.1 : arL h (g + 291)), (Mod_75 hs.2.1 : aln h (g + 291) = 40), (rf_g (Mod_76 hs.2.1 : rf h (g + 266) 49 (g + 292)) : gR h (g + 266) 49 = (g + 292)), (rf_is (Mod_76 hs.2.1 : rf h (g + 266) 49 (g + 292)) : isR h (g + 266) 49), (Mod_77 hs.2.1 : arD h (g + 292)), (Mod_78 hs.2.1 : aln h (g + 292) = 40), nI_1, ob_pI, rf_pI, isR_pI, isI_pI, isL_pI, arI_pI, arL_pI, arR_pI, arD_pI, aln_pI, rdI_pI, rdB_pI, rdR_pI, aR_pI, pI_2, gI_pI, gL_pI, gD_pI, gR_pI, aI_pI, aL_pI, aD_pI, ob_pL, rf_pL, isR_pL, isI_pL, isL_pL, arI_pL, arL_pL, arR_pL, arD_pL, aln_pL, rdI_pL, rdB_pL, rdR_pL, aR_pL, pL_2, gI_pL, gL_pL, gD_pL, gR_pL, aI_pL, aL_pL, aD_pL, ob_pD, rf_pD, isR_pD, isI_pD, isL_pD, arI_pD, arL_pD, arR_pD, arD_pD, aln_pD, rdI_pD, rdB_pD, rdR_pD, aR_pD, pD_2, gI_pD, gL_pD, gD_pD, gR_pD, aI_pD, aL_pD, aD_pD, ob_wI, rf_wI, isR_wI, isI_wI, isL_wI, arI_wI, arL_wI, arR_wI, arD_wI, aln_wI, rdI_wI, rdB_wI, rdR_wI, aR_wI, wI_2, gI_wI, gL_wI, gD_wI, gR_wI, aL_wI, aD_wI, aI_wI_ne, ob_wL, rf_wL, isR_wL, isI_wL, isL_wL, arI_wL, arL_wL, arR_wL, arD_wL, aln_wL, rdI_wL, rdB_wL, rdR_wL, aR_wL, wL_2, gI_wL, gL_wL, gD_wL, gR_wL, aI_wL, aD_wL, aL_wL_ne, ob_wD, rf_wD, isR_wD, isI_wD, isL_wD, arI_wD, arL_wD, arR_wD, arD_wD, aln_wD, rdI_wD, rdB_wD, rdR_wD, aR_wD, wD_2, gI_wD, gL_wD, gD_wD, gR_wD, aI_wD, aL_wD, aD_wD_ne, ob_bI, rf_bI, isR_bI, isI_bI, isL_bI, arI_bI, arL_bI, arR_bI, arD_bI, aln_bI, rdI_bI, rdB_bI, rdR_bI, aR_bI, bI_2, gI_bI, gL_bI, gD_bI, gR_bI, aL_bI, aD_bI, aI_bI_ne, ob_bL, rf_bL, isR_bL, isI_bL, isL_bL, arI_bL, arL_bL, arR_bL, arD_bL, aln_bL, rdI_bL, rdB_bL, rdR_bL, aR_bL, bL_2, gI_bL, gL_bL, gD_bL, gR_bL, aI_bL, aD_bL, aL_bL_ne, gI_pI, gL_pL, gD_pD, isI_pI, isL_pI, isD_pI, isI_pL, isL_pL, isD_pL, isI_pD, isL_pD, isD_pD, vkk_n, vkk_i, vkk_r, vkk_l, vkk_d, catS_nil, catS_i, catS_r, catS_l, catS_d, Nat.reduceAdd, Nat.reduceLeDiff, Nat.zero_le, Nat.le_refl, Option.bind_some, Option.toList_some, Option.toList_none, List.cons_append, List.nil_append, or_true, true_or, if_true, if_false, Int32.reduceLT, Int32.reduceLE, not_true, not_false_iff, true_and, and_true, false_and, and_false, Nat.add_assoc, Nat.reduceAdd, Nat.add_left_cancel_iff, Nat.reduceEqDiff, Nat.add_eq_left, Nat.left_eq_add]
      exact u1
    · by_cases ik : i = k
      · subst ik
        have a := u4 (i) (by omega)
        rw [a.1, a.2.1, a.2.2]
        exact y2
      · exact u3 i (by omega) i2
    · have a := u4 j (by omega)
      rw [a.1, a.2.1, a.2.2]
      exact y1 j (by omega)
set_option maxHeartbeats 4000000 in
theorem l_pst2 (g Q N : Nat) (b i t j pk wd : Int32) (K : Nat → Int32) (W : Nat → Int64) (D : Nat → UInt64) (hQ : (40 : Int32) * t + j = nI Q) (hQN : Q + N ≤ 320) (hN : N ≤ 40) : ∀ d k (h : VG), k + d = N → Sh h g → (∀ x, x < N → aI h (g + 290) x = K x ∧ aL h (g + 291) x = W x ∧ aD h (g + 292) x = D x) → ∃ h1, ev 197 245 [some (.ref (g + 266)), some (.int b), some (.int i), some (.int t), some (.int j), some (.int (nI N)), some (.int pk), some (.int wd), some (.int (nI k))] [] h = some (some (.int (if pS pk K k d = N then 0 else 2)), h1) ∧ Fr (fun a => a = g + 287 ∨ a = g + 288 ∨ a = g + 289) NF h h1 ∧ ∀ x, (aI h1 (g + 287) x = if Q + k ≤ x ∧ x < Q + pS pk K k d then K (x - Q) else aI h (g + 287) x) ∧ (aL h1 (g + 288) x = if Q + k ≤ x ∧ x < Q + pS pk K k d then W (x - Q) else aL h (g + 288) x) ∧ (aD h1 (g + 289) x = if Q + k ≤ x ∧ x < Q + pS pk K k d then D (x - Q) else aD h (g + 289) x) := by
  intro d
  induction d with
  | zero =>
    intro k h hk hs hr
    obtain rfl : k = N := by omega
    have q : ¬ nI k < nI k := nI_nlt (Nat.le_refl _) (by omega)
    have e : pS pk K k 0 = k := rfl
    rw [e, if_pos rfl]
    refine ⟨h, ?_, Fr.rfl _, fun x => ⟨(if_neg (by omega)).symm, (if_neg (by omega)).symm, (if_neg (by omega)).symm⟩⟩
    simp +decide only [e197_245, e197_247, e197_249, e197_355, e197_356, q, vkk_n, vkk_i, vkk_r, vkk_l, vkk_d, catS_nil, catS_i, catS_r, catS_l, catS_d, Nat.reduceAdd, Nat.reduceLeDiff, Nat.zero_le, Nat.le_refl, Option.bind_some, Option.toList_some, Option.toList_none, List.cons_append, List.nil_append, or_true, true_or, if_true, if_false, Int32.reduceLT, Int32.reduceLE, not_true, not_false_iff, true_and, and_true, false_and, and_false]
  | succ d ih =>
    intro k h hk hs hr
    have q : nI k < nI N := nI_lt (by omega) (by omega)
    obtain ⟨r1, r2, r3⟩ := hr k (by omega)
    have v1 : vp_in (nI k) 40 := vp_in_nI (by omega) (by decide)
    have c1 : (nI k).toNatClampNeg = k := nI_clamp (by omega)
    have v2 : vp_in (nI (Q + k)) 320 := vp_in_nI (by omega) (by decide)
    have c2 : (nI (Q + k)).toNatClampNeg = Q + k := nI_clamp (by omega)
    have e : pS pk K k (d + 1) = if pk = 0 ∨ K k = 8 ∨ K k = -2 then pS pk K (k + 1) d else k := rfl
    by_cases go : pk = 0 ∨ K k = 8 ∨ K k = -2
    case neg =>
      rw [e, if_neg go, if_neg (by omega)]
      refine ⟨h, ?_, Fr.rfl _, fun x => ⟨(if_neg (by omega)).symm, (if_neg (by omega)).symm, (if_neg (by omega)).symm⟩⟩
      have g1 : ¬ pk = 0 := fun z => go (Or.inl z)
      have g2 : ¬ K k = 8 := fun z => go (Or.inr (Or.inl z))
      have g3 : ¬ K k = -2 := fun z => go (Or.inr (Or.inr z))
      simp +decide only [e197_245, e197_247, e197_249, e197_252, e197_254, e197_257, e197_258, e197_261, e197_263, e197_264, e197_266, e197_269, e197_270, e197_273, e197_275, e197_276, e197_278, e197_281, e197_282, (Mod_0 hs.2.1 : ob h (g + 266) 11), (rf_g (Mod_61 hs.2.1 : rf h (g + 266) 44 (g + 287)) : gR h (g + 266) 44 = (g + 287)), (rf_is (Mod_61 hs.2.1 : rf h (g + 266) 44 (g + 287)) : isR h (g + 266) 44), (Mod_62 hs.2.1 : arI h (g + 287) 0), (rdI_0 (Mod_62 hs.2.1 : arI h (g + 287) 0) : rdI h (g + 287)), (Mod_63 hs.2.1 : aln h (g + 287) = 320), (rf_g (Mod_64 hs.2.1 : rf h (g + 266) 45 (g + 288)) : gR h (g + 266) 45 = (g + 288)), (rf_is (Mod_64 hs.2.1 : rf h (g + 266) 45 (g + 288)) : isR h (g + 266) 45), (Mod_65 hs.2.1 : arL h (g + 288)), (Mod_66 hs.2.1 : aln h (g + 288) = 320), (rf_g (Mod_67 hs.2.1 : rf h (g + 266) 46 (g + 289)) : gR h (g + 266) 46 = (g + 289)), (rf_is (Mod_67 hs.2.1 : rf h (g + 266) 46 (g + 289)) : isR h (g + 266) 46), (Mod_68 hs.2.1 : arD h (g + 289)), (Mod_69 hs.2.1 : aln h (g + 289) = 320), (rf_g (Mod_70 hs.2.1 : rf h (g + 266) 47 (g + 290)) : gR h (g + 266) 47 = (g + 290)), (rf_is (Mod_70 hs.2.1 : rf h (g + 266) 47 (g + 290)) : isR h (g + 266) 47), (Mod_71 hs.2.1 : arI h (g + 290) 0), (rdI_0 (Mod_71 hs.2.1 : arI h (g + 290) 0) : rdI h (g + 290)), (Mod_72 hs.2.1 : aln h (g + 290) = 40), (rf_g (Mod_73 hs.2.1 : rf h (g + 266) 48 (g + 291)) : gR h (g + 266) 48 = (g + 291)), (rf_is (Mod_73 hs.2.1 : rf h (g + 266) 48 (g + 291)) : isR h (g + 266) 48), (Mod_74 hs.2.1 : arL h (g + 291)), (Mod_75 hs.2.1 : aln h (g + 291) = 40), (rf_g (Mod_76 hs.2.1 : rf h (g + 266) 49 (g + 292)) : gR h (g + 266) 49 = (g + 292)), (rf_is (Mod_76 hs.2.1 : rf h (g + 266) 49 (g + 292)) : isR h (g + 266) 49), (Mod_77 hs.2.1 : arD h (g + 292)), (Mod_78 hs.2.1 : aln h (g + 292) = 40), q, g1, r1, g2, g3, v1, c1, vkk_n, vkk_i, vkk_r, vkk_l, vkk_d, catS_nil, catS_i, catS_r, catS_l, catS_d, Nat.reduceAdd, Nat.reduceLeDiff, Nat.zero_le, Nat.le_refl, Option.bind_some, Option.toList_some, Option.toList_none, List.cons_append, List.nil_append, or_true, true_or, if_true, if_false, Int32.reduceLT, Int32.reduceLE, not_true, not_false_iff, true_and, and_true, false_and, and_false]
    rw [e, if_pos go]
    have t0 : arI h (g + 287) 0 := Mod_62 hs.2.1
    have t1 : arL h (g + 288) := Mod_65 hs.2.1
    have t2 : arD h (g + 289) := Mod_68 hs.2.1
    have x1 : Fr (fun a => a = g + 287 ∨ a = g + 288 ∨ a = g + 289) NF h (wD (wL (wI h (g + 287) (Q + k) (K k)) (g + 288) (Q + k) (W k)) (g + 289) (Q + k) (D k)) := ((Fr_wI _ _ _ _ (Or.inl rfl)).tr (Fr_wL _ _ _ _ (Or.inr (Or.inl rfl)))).tr (Fr_wD _ _ _ _ (Or.inr (Or.inr rfl)))
    have y1 : ∀ x, (aI (wD (wL (wI h (g + 287) (Q + k) (K k)) (g + 288) (Q + k) (W k)) (g + 289) (Q + k) (D k)) (g + 287) x = if x = Q + k then K k else aI h (g + 287) x) ∧ (aL (wD (wL (wI h (g + 287) (Q + k) (K k)) (g + 288) (Q + k) (W k)) (g + 289) (Q + k) (D k)) (g + 288) x = if x = Q + k then W k else aL h (g + 288) x) ∧ (aD (wD (wL (wI h (g + 287) (Q + k) (K k)) (g + 288) (Q + k) (W k)) (g + 289) (Q + k) (D k)) (g + 289) x = if x = Q + k then D k else aD h (g + 289) x) := by
      intro x
      refine ⟨?_, ?_, ?_⟩
      · rw [aI_wD, aI_wL, aI_wI0 _ _ _ _ _ _ t0]
        simp only [true_and]
      · rw [aL_wD, aL_wL _ _ _ _ _ _ ((arL_wI ..).mpr t1), aL_wI]
        simp only [true_and]
      · rw [aD_wD _ _ _ _ _ _ ((arD_wL ..).mpr ((arD_wI ..).mpr t2)), aD_wL, aD_wI]
        simp only [true_and]
    obtain ⟨h1, u1, u2, u3⟩ := ih (k + 1) (wD (wL (wI h (g + 287) (Q + k) (K k)) (g + 288) (Q + k) (W k)) (g + 289) (Q + k) (D k)) (by omega) (Sh_fr x1 (fun a z => by omega) hs) (fun x hx => by
      rw [x1.I (a := g + 290) (fun z => by omega), x1.L (a := g + 291) (fun z => by omega), x1.D (a := g + 292) (fun z => by omega)]
      exact hr x hx)
    obtain ⟨p1, p2, -⟩ := pS_le pk K d (k + 1)
    refine ⟨h1, ?_, x1.tr u2, fun x => ?_⟩
    · rcases go with qk | qk | qk
      · subst qk
        simp +decide only [e197_245, e197_247, e197_249, e197_252, e197_254, q, if_true, if_false, vkk_n, vkk_i, vkk_r, vkk_l, vkk_d, catS_nil, catS_i, catS_r, catS_l, catS_d, Nat.reduceAdd, Nat.reduceLeDiff, Nat.zero_le, Nat.le_refl, Option.bind_some, Option.toList_some, Option.toList_none, List.cons_append, List.nil_append, or_true, true_or, if_true, if_false, Int32.reduceLT, Int32.reduceLE, not_true, not_false_iff, true_and, and_true, false_and, and_false]
        simp +decide only [e197_283, e197_284, e197_287, e197_289, e197_290, e197_291, e197_293, e197_294, e197_296, e197_297, e197_298, e197_301, e197_303, e197_304, e197_305, e197_306, e197_309, e197_311, e197_312, e197_313, e197_315, e197_316, e197_318, e197_319, e197_320, e197_323, e197_325, e197_326, e197_327, e197_328, e197_331, e197_333, e197_334, e197_335, e197_337, e197_338, e197_340, e197_341, e197_342, e197_345, e197_347, e197_348, e197_349, e197_352, nI_add, hQ, r1, r2, r3, v1, c1, v2, c2, nI_1, (Mod_0 hs.2.1 : ob h (g + 266) 11), (rf_g (Mod_61 hs.2.1 : rf h (g + 266) 44 (g + 287)) : gR h (g + 266) 44 = (g + 287)), (rf_is (Mod_61 hs.2.1 : rf h (g + 266) 44 (g + 287)) : isR h (g + 266) 44), (Mod_62 hs.2.1 : arI h (g + 287) 0), (rdI_0 (Mod_62 hs.2.1 : arI h (g + 287) 0) : rdI h (g + 287)), (Mod_63 hs.2.1 : aln h (g + 287) = 320), (rf_g (Mod_64 hs.2.1 : rf h (g + 266) 45 (g + 288)) : gR h (g + 266) 45 = (g + 288)), (rf_is (Mod_64 hs.2.1 : rf h (g + 266) 45 (g + 288)) : isR h (g + 266) 45), (Mod_65 hs.2.1 : arL h (g + 288)), (Mod_66 hs.2.1 : aln h (g + 288) = 320), (rf_g (Mod_67 hs.2.1 : rf h (g + 266) 46 (g + 289)) : gR h (g + 266) 46 = (g + 289)), (rf_is (Mod_67 hs.2.1 : rf h (g + 266) 46 (g + 289)) : isR h (g + 266) 46), (Mod_68 hs.2.1 : arD h (g + 289)), (Mod_69 hs.2.1 : aln h (g + 289) = 320), (rf_g (Mod_70 hs.2.1 : rf h (g + 266) 47 (g + 290)) : gR h (g + 266) 47 = (g + 290)), (rf_is (Mod_70 hs.2.1 : rf h (g + 266) 47 (g + 290)) : isR h (g + 266) 47), (Mod_71 hs.2.1 : arI h (g + 290) 0), (rdI_0 (Mod_71 hs.2.1 : arI h (g + 290) 0) : rdI h (g + 290)), (Mod_72 hs.2.1 : aln h (g + 290) = 40), (rf_g (Mod_73 hs.2.1 : rf h (g + 266) 48 (g + 291)) : gR h (g + 266) 48 = (g + 291)), (rf_is (Mod_73 hs.2.1 : rf h (g + 266) 48 (g + 291)) : isR h (g + 266) 48), (Mod_74 hs.2.1 : arL h (g + 291)), (Mod_75 hs.2.1 : aln h (g + 291) = 40), (rf_g (Mod_76 hs.2.1 : rf h (g + 266) 49 (g + 292)) : gR h (g + 266) 49 = (g + 292)), (rf_is (Mod_76 hs.2.1 : rf h (g + 266) 49 (g + 292)) : isR h (g + 266) 49), (Mod_77 hs.2.1 : arD h (g + 292)), (Mod_78 hs.2.1 : aln h (g + 292) = 40), ob_pI, rf_pI, isR_pI, isI_pI, isL_pI, arI_pI, arL_pI, arR_pI, arD_pI, aln_pI, rdI_pI, rdB_pI, rdR_pI, aR_pI, pI_2, gI_pI, gL_pI, gD_pI, gR_pI, aI_pI, aL_pI, aD_pI, ob_pL, rf_pL, isR_pL, isI_pL, isL_pL, arI_pL, arL_pL, arR_pL, arD_pL, aln_pL, rdI_pL, rdB_pL, rdR_pL, aR_pL, pL_2, gI_pL, gL_pL, gD_pL, gR_pL, aI_pL, aL_pL, aD_pL, ob_pD, rf_pD, isR_pD, isI_pD, isL_pD, arI_pD, arL_pD, arR_pD, arD_pD, aln_pD, rdI_pD, rdB_pD, rdR_pD, aR_pD, pD_2, gI_pD, gL_pD, gD_pD, gR_pD, aI_pD, aL_pD, aD_pD, ob_wI, rf_wI, isR_wI, isI_wI, isL_wI, arI_wI, arL_wI, arR_wI, arD_wI, aln_wI, rdI_wI, rdB_wI, rdR_wI, aR_wI, wI_2, gI_wI, gL_wI, gD_wI, gR_wI, aL_wI, aD_wI, aI_wI_ne, ob_wL, rf_wL, isR_wL, isI_wL, isL_wL, arI_wL, arL_wL, arR_wL, arD_wL, aln_wL, rdI_wL, rdB_wL, rdR_wL, aR_wL, wL_2, gI_wL, gL_wL, gD_wL, gR_wL, aI_wL, aD_wL, aL_wL_ne, ob_wD, rf_wD, isR_wD, isI_wD, isL_wD, arI_wD, arL_wD, arR_wD, arD_wD, aln_wD, rdI_wD, rdB_wD, rdR_wD, aR_wD, wD_2, gI_wD, gL_wD, gD_wD, gR_wD, aI_wD, aL_wD, aD_wD_ne, ob_bI, rf_bI, isR_bI, isI_bI, isL_bI, arI_bI, arL_bI, arR_bI, arD_bI, aln_bI, rdI_bI, rdB_bI, rdR_bI, aR_bI, bI_2, gI_bI, gL_bI, gD_bI, gR_bI, aL_bI, aD_bI, aI_bI_ne, ob_bL, rf_bL, isR_bL, isI_bL, isL_bL, arI_bL, arL_bL, arR_bL, arD_bL, aln_bL, rdI_bL, rdB_bL, rdR_bL, aR_bL, bL_2, gI_bL, gL_bL, gD_bL, gR_bL, aI_bL, aD_bL, aL_bL_ne, gI_pI, gL_pL, gD_pD, isI_pI, isL_pI, isD_pI, isI_pL, isL_pL, isD_pL, isI_pD, isL_pD, isD_pD, vkk_n, vkk_i, vkk_r, vkk_l, vkk_d, catS_nil, catS_i, catS_r, catS_l, catS_d, Nat.reduceAdd, Nat.reduceLeDiff, Nat.zero_le, Nat.le_refl, Option.bind_some, Option.toList_some, Option.toList_none, List.cons_append, List.nil_append, or_true, true_or, if_true, if_false, Int32.reduceLT, Int32.reduceLE, not_true, not_false_iff, true_and, and_true, false_and, and_false, Nat.add_assoc, Nat.reduceAdd, Nat.add_left_cancel_iff, Nat.reduceEqDiff, Nat.add_eq_left, Nat.left_eq_add]
        exact u1
      · by_cases g1 : pk = 0
        · subst g1
          simp +decide only [e197_245, e197_247, e197_249, e197_252, e197_254, q, if_true, if_false, vkk_n, vkk_i, vkk_r, vkk_l, vkk_d, catS_nil, catS_i, catS_r, catS_l, catS_d, Nat.reduceAdd, Nat.reduceLeDiff, Nat.zero_le, Nat.le_refl, Option.bind_some, Option.toList_some, Option.toList_none, List.cons_append, List.nil_append, or_true, true_or, if_true, if_false, Int32.reduceLT, Int32.reduceLE, not_true, not_false_iff, true_and, and_true, false_and, and_false]
          simp +decide only [e197_283, e197_284, e197_287, e197_289, e197_290, e197_291, e197_293, e197_294, e197_296, e197_297, e197_298, e197_301, e197_303, e197_304, e197_305, e197_306, e197_309, e197_311, e197_312, e197_313, e197_315, e197_316, e197_318, e197_319, e197_320, e197_323, e197_325, e197_326, e197_327, e197_328, e197_331, e197_333, e197_334, e197_335, e197_337, e197_338, e197_340, e197_341, e197_342, e197_345, e197_347, e197_348, e197_349, e197_352, nI_add, hQ, r1, r2, r3, v1, c1, v2, c2, nI_1, (Mod_0 hs.2.1 : ob h (g + 266) 11), (rf_g (Mod_61 hs.2.1 : rf h (g + 266) 44 (g + 287)) : gR h (g + 266) 44 = (g + 287)), (rf_is (Mod_61 hs.2.1 : rf h (g + 266) 44 (g + 287)) : isR h (g + 266) 44), (Mod_62 hs.2.1 : arI h (g + 287) 0), (rdI_0 (Mod_62 hs.2.1 : arI h (g + 287) 0) : rdI h (g + 287)), (Mod_63 hs.2.1 : aln h (g + 287) = 320), (rf_g (Mod_64 hs.2.1 : rf h (g + 266) 45 (g + 288)) : gR h (g + 266) 45 = (g + 288)), (rf_is (Mod_64 hs.2.1 : rf h (g + 266) 45 (g + 288)) : isR h (g + 266) 45), (Mod_65 hs.2.1 : arL h (g + 288)), (Mod_66 hs.2.1 : aln h (g + 288) = 320), (rf_g (Mod_67 hs.2.1 : rf h (g + 266) 46 (g + 289)) : gR h (g + 266) 46 = (g + 289)), (rf_is (Mod_67 hs.2.1 : rf h (g + 266) 46 (g + 289)) : isR h (g + 266) 46), (Mod_68 hs.2.1 : arD h (g + 289)), (Mod_69 hs.2.1 : aln h (g + 289) = 320), (rf_g (Mod_70 hs.2.1 : rf h (g + 266) 47 (g + 290)) : gR h (g + 266) 47 = (g + 290)), (rf_is (Mod_70 hs.2.1 : rf h (g + 266) 47 (g + 290)) : isR h (g + 266) 47), (Mod_71 hs.2.1 : arI h (g + 290) 0), (rdI_0 (Mod_71 hs.2.1 : arI h (g + 290) 0) : rdI h (g + 290)), (Mod_72 hs.2.1 : aln h (g + 290) = 40), (rf_g (Mod_73 hs.2.1 : rf h (g + 266) 48 (g + 291)) : gR h (g + 266) 48 = (g + 291)), (rf_is (Mod_73 hs.2.1 : rf h (g + 266) 48 (g + 291)) : isR h (g + 266) 48), (Mod_74 hs.2.1 : arL h (g + 291)), (Mod_75 hs.2.1 : aln h (g + 291) = 40), (rf_g (Mod_76 hs.2.1 : rf h (g + 266) 49 (g + 292)) : gR h (g + 266) 49 = (g + 292)), (rf_is (Mod_76 hs.2.1 : rf h (g + 266) 49 (g + 292)) : isR h (g + 266) 49), (Mod_77 hs.2.1 : arD h (g + 292)), (Mod_78 hs.2.1 : aln h (g + 292) = 40), ob_pI, rf_pI, isR_pI, isI_pI, isL_pI, arI_pI, arL_pI, arR_pI, arD_pI, aln_pI, rdI_pI, rdB_pI, rdR_pI, aR_pI, pI_2, gI_pI, gL_pI, gD_pI, gR_pI, aI_pI, aL_pI, aD_pI, ob_pL, rf_pL, isR_pL, isI_pL, isL_pL, arI_pL, arL_pL, arR_pL, arD_pL, aln_pL, rdI_pL, rdB_pL, rdR_pL, aR_pL, pL_2, gI_pL, gL_pL, gD_pL, gR_pL, aI_pL, aL_pL, aD_pL, ob_pD, rf_pD, isR_pD, isI_pD, isL_pD, arI_pD, arL_pD, arR_pD, arD_pD, aln_pD, rdI_pD, rdB_pD, rdR_pD, aR_pD, pD_2, gI_pD, gL_pD, gD_pD, gR_pD, aI_pD, aL_pD, aD_pD, ob_wI, rf_wI, isR_wI, isI_wI, isL_wI, arI_wI, arL_wI, arR_wI, arD_wI, aln_wI, rdI_wI, rdB_wI, rdR_wI, aR_wI, wI_2, gI_wI, gL_wI, gD_wI, gR_wI, aL_wI, aD_wI, aI_wI_ne, ob_wL, rf_wL, isR_wL, isI_wL, isL_wL, arI_wL, arL_wL, arR_wL, arD_wL, aln_wL, rdI_wL, rdB_wL, rdR_wL, aR_wL, wL_2, gI_wL, gL_wL, gD_wL, gR_wL, aI_wL, aD_wL, aL_wL_ne, ob_wD, rf_wD, isR_wD, isI_wD, isL_wD, arI_wD, arL_wD, arR_wD, arD_wD, aln_wD, rdI_wD, rdB_wD, rdR_wD, aR_wD, wD_2, gI_wD, gL_wD, gD_wD, gR_wD, aI_wD, aL_wD, aD_wD_ne, ob_bI, rf_bI, isR_bI, isI_bI, isL_bI, arI_bI, arL_bI, arR_bI, arD_bI, aln_bI, rdI_bI, rdB_bI, rdR_bI, aR_bI, bI_2, gI_bI, gL_bI, gD_bI, gR_bI, aL_bI, aD_bI, aI_bI_ne, ob_bL, rf_bL, isR_bL, isI_bL, isL_bL, arI_bL, arL_bL, arR_bL, arD_bL, aln_bL, rdI_bL, rdB_bL, rdR_bL, aR_bL, bL_2, gI_bL, gL_bL, gD_bL, gR_bL, aI_bL, aD_bL, aL_bL_ne, gI_pI, gL_pL, gD_pD, isI_pI, isL_pI, isD_pI, isI_pL, isL_pL, isD_pL, isI_pD, isL_pD, isD_pD, vkk_n, vkk_i, vkk_r, vkk_l, vkk_d, catS_nil, catS_i, catS_r, catS_l, catS_d, Nat.reduceAdd, Nat.reduceLeDiff, Nat.zero_le, Nat.le_refl, Option.bind_some, Option.toList_some, Option.toList_none, List.cons_append, List.nil_append, or_true, true_or, if_true, if_false, Int32.reduceLT, Int32.reduceLE, not_true, not_false_iff, true_and, and_true, false_and, and_false, Nat.add_assoc, Nat.reduceAdd, Nat.add_left_cancel_iff, Nat.reduceEqDiff, Nat.add_eq_left, Nat.left_eq_add]
          exact u1
        · simp +decide only [e197_245, e197_247, e197_249, e197_252, e197_254, e197_257, e197_258, e197_261, e197_263, e197_264, e197_266, e197_269, e197_270, e197_273, e197_275, e197_276, e197_278, (Mod_0 hs.2.1 : ob h (g + 266) 11), (rf_g (Mod_61 hs.2.1 : rf h (g + 266) 44 (g + 287)) : gR h (g + 266) 44 = (g + 287)), (rf_is (Mod_61 hs.2.1 : rf h (g + 266) 44 (g + 287)) : isR h (g + 266) 44), (Mod_62 hs.2.1 : arI h (g + 287) 0), (rdI_0 (Mod_62 hs.2.1 : arI h (g + 287) 0) : rdI h (g + 287)), (Mod_63 hs.2.1 : aln h (g + 287) = 320), (rf_g (Mod_64 hs.2.1 : rf h (g + 266) 45 (g + 288)) : gR h (g + 266) 45 = (g + 288)), (rf_is (Mod_64 hs.2.1 : rf h (g + 266) 45 (g + 288)) : isR h (g + 266) 45), (Mod_65 hs.2.1 : arL h (g + 288)), (Mod_66 hs.2.1 : aln h (g + 288) = 320), (rf_g (Mod_67 hs.2.1 : rf h (g + 266) 46 (g + 289)) : gR h (g + 266) 46 = (g + 289)), (rf_is (Mod_67 hs.2.1 : rf h (g + 266) 46 (g + 289)) : isR h (g + 266) 46), (Mod_68 hs.2.1 : arD h (g + 289)), (Mod_69 hs.2.1 : aln h (g + 289) = 320), (rf_g (Mod_70 hs.2.1 : rf h (g + 266) 47 (g + 290)) : gR h (g + 266) 47 = (g + 290)), (rf_is (Mod_70 hs.2.1 : rf h (g + 266) 47 (g + 290)) : isR h (g + 266) 47), (Mod_71 hs.2.1 : arI h (g + 290) 0), (rdI_0 (Mod_71 hs.2.1 : arI h (g + 290) 0) : rdI h (g + 290)), (Mod_72 hs.2.1 : aln h (g + 290) = 40), (rf_g (Mod_73 hs.2.1 : rf h (g + 266) 48 (g + 291)) : gR h (g + 266) 48 = (g + 291)), (rf_is (Mod_73 hs.2.1 : rf h (g + 266) 48 (g + 291)) : isR h (g + 266) 48), (Mod_74 hs.2.1 : arL h (g + 291)), (Mod_75 hs.2.1 : aln h (g + 291) = 40), (rf_g (Mod_76 hs.2.1 : rf h (g + 266) 49 (g + 292)) : gR h (g + 266) 49 = (g + 292)), (rf_is (Mod_76 hs.2.1 : rf h (g + 266) 49 (g + 292)) : isR h (g + 266) 49), (Mod_77 hs.2.1 : arD h (g + 292)), (Mod_78 hs.2.1 : aln h (g + 292) = 40), q, g1, r1, qk, v1, c1, if_true, if_false, vkk_n, vkk_i, vkk_r, vkk_l, vkk_d, catS_nil, catS_i, catS_r, catS_l, catS_d, Nat.reduceAdd, Nat.reduceLeDiff, Nat.zero_le, Nat.le_refl, Option.bind_some, Option.toList_some, Option.toList_none, List.cons_append, List.nil_append, or_true, true_or, if_true, if_false, Int32.reduceLT, Int32.reduceLE, not_true, not_false_iff, true_and, and_true, false_and, and_false]
          simp +decide only [e197_283, e197_284, e197_287, e197_289, e197_290, e197_291, e197_293, e197_294, e197_296, e197_297, e197_298, e197_301, e197_303, e197_304, e197_305, e197_306, e197_309, e197_311, e197_312, e197_313, e197_315, e197_316, e197_318, e197_319, e197_320, e197_323, e197_325, e197_326, e197_327, e197_328, e197_331, e197_333, e197_334, e197_335, e197_337, e197_338, e197_340, e197_341, e197_342, e197_345, e197_347, e197_348, e197_349, e197_352, nI_add, hQ, r1, r2, r3, v1, c1, v2, c2, nI_1, (Mod_0 hs.2.1 : ob h (g + 266) 11), (rf_g (Mod_61 hs.2.1 : rf h (g + 266) 44 (g + 287)) : gR h (g + 266) 44 = (g + 287)), (rf_is (Mod_61 hs.2.1 : rf h (g + 266) 44 (g + 287)) : isR h (g + 266) 44), (Mod_62 hs.2.1 : arI h (g + 287) 0), (rdI_0 (Mod_62 hs.2.1 : arI h (g + 287) 0) : rdI h (g + 287)), (Mod_63 hs.2.1 : aln h (g + 287) = 320), (rf_g (Mod_64 hs.2.1 : rf h (g + 266) 45 (g + 288)) : gR h (g + 266) 45 = (g + 288)), (rf_is (Mod_64 hs.2.1 : rf h (g + 266) 45 (g + 288)) : isR h (g + 266) 45), (Mod_65 hs.2.1 : arL h (g + 288)), (Mod_66 hs.2.1 : aln h (g + 288) = 320), (rf_g (Mod_67 hs.2.1 : rf h (g + 266) 46 (g + 289)) : gR h (g + 266) 46 = (g + 289)), (rf_is (Mod_67 hs.2.1 : rf h (g + 266) 46 (g + 289)) : isR h (g + 266) 46), (Mod_68 hs.2.1 : arD h (g + 289)), (Mod_69 hs.2.1 : aln h (g + 289) = 320), (rf_g (Mod_70 hs.2.1 : rf h (g + 266) 47 (g + 290)) : gR h (g + 266) 47 = (g + 290)), (rf_is (Mod_70 hs.2.1 : rf h (g + 266) 47 (g + 290)) : isR h (g + 266) 47), (Mod_71 hs.2.1 : arI h (g + 290) 0), (rdI_0 (Mod_71 hs.2.1 : arI h (g + 290) 0) : rdI h (g + 290)), (Mod_72 hs.2.1 : aln h (g + 290) = 40), (rf_g (Mod_73 hs.2.1 : rf h (g + 266) 48 (g + 291)) : gR h (g + 266) 48 = (g + 291)), (rf_is (Mod_73 hs.2.1 : rf h (g + 266) 48 (g + 291)) : isR h (g + 266) 48), (Mod_74 hs.2.1 : arL h (g + 291)), (Mod_75 hs.2.1 : aln h (g + 291) = 40), (rf_g (Mod_76 hs.2.1 : rf h (g + 266) 49 (g + 292)) : gR h (g + 266) 49 = (g + 292)), (rf_is (Mod_76 hs.2.1 : rf h (g + 266) 49 (g + 292)) : isR h (g + 266) 49), (Mod_77 hs.2.1 : arD h (g + 292)), (Mod_78 hs.2.1 : aln h (g + 292) = 40), ob_pI, rf_pI, isR_pI, isI_pI, isL_pI, arI_pI, arL_pI, arR_pI, arD_pI, aln_pI, rdI_pI, rdB_pI, rdR_pI, aR_pI, pI_2, gI_pI, gL_pI, gD_pI, gR_pI, aI_pI, aL_pI, aD_pI, ob_pL, rf_pL, isR_pL, isI_pL, isL_pL, arI_pL, arL_pL, arR_pL, arD_pL, aln_pL, rdI_pL, rdB_pL, rdR_pL, aR_pL, pL_2, gI_pL, gL_pL, gD_pL, gR_pL, aI_pL, aL_pL, aD_pL, ob_pD, rf_pD, isR_pD, isI_pD, isL_pD, arI_pD, arL_pD, arR_pD, arD_pD, aln_pD, rdI_pD, rdB_pD, rdR_pD, aR_pD, pD_2, gI_pD, gL_pD, gD_pD, gR_pD, aI_pD, aL_pD, aD_pD, ob_wI, rf_wI, isR_wI, isI_wI, isL_wI, arI_wI, arL_wI, arR_wI, arD_wI, aln_wI, rdI_wI, rdB_wI, rdR_wI, aR_wI, wI_2, gI_wI, gL_wI, gD_wI, gR_wI, aL_wI, aD_wI, aI_wI_ne, ob_wL, rf_wL, isR_wL, isI_wL, isL_wL, arI_wL, arL_wL, arR_wL, arD_wL, aln_wL, rdI_wL, rdB_wL, rdR_wL, aR_wL, wL_2, gI_wL, gL_wL, gD_wL, gR_wL, aI_wL, aD_wL, aL_wL_ne, ob_wD, rf_wD, isR_wD, isI_wD, isL_wD, arI_wD, arL_wD, arR_wD, arD_wD, aln_wD, rdI_wD, rdB_wD, rdR_wD, aR_wD, wD_2, gI_wD, gL_wD, gD_wD, gR_wD, aI_wD, aL_wD, aD_wD_ne, ob_bI, rf_bI, isR_bI, isI_bI, isL_bI, arI_bI, arL_bI, arR_bI, arD_bI, aln_bI, rdI_bI, rdB_bI, rdR_bI, aR_bI, bI_2, gI_bI, gL_bI, gD_bI, gR_bI, aL_bI, aD_bI, aI_bI_ne, ob_bL, rf_bL, isR_bL, isI_bL, isL_bL, arI_bL, arL_bL, arR_bL, arD_bL, aln_bL, rdI_bL, rdB_bL, rdR_bL, aR_bL, bL_2, gI_bL, gL_bL, gD_bL, gR_bL, aI_bL, aD_bL, aL_bL_ne, gI_pI, gL_pL, gD_pD, isI_pI, isL_pI, isD_pI, isI_pL, isL_pL, isD_pL, isI_pD, isL_pD, isD_pD, vkk_n, vkk_i, vkk_r, vkk_l, vkk_d, catS_nil, catS_i, catS_r, catS_l, catS_d, Nat.reduceAdd, Nat.reduceLeDiff, Nat.zero_le, Nat.le_refl, Option.bind_some, Option.toList_some, Option.toList_none, List.cons_append, List.nil_append, or_true, true_or, if_true, if_false, Int32.reduceLT, Int32.reduceLE, not_true, not_false_iff, true_and, and_true, false_and, and_false, Nat.add_assoc, Nat.reduceAdd, Nat.add_left_cancel_iff, Nat.reduceEqDiff, Nat.add_eq_left, Nat.left_eq_add]
          exact u1
      · by_cases g1 : pk = 0
        · subst g1
          simp +decide only [e197_245, e197_247, e197_249, e197_252, e197_254, q, if_true, if_false, vkk_n, vkk_i, vkk_r, vkk_l, vkk_d, catS_nil, catS_i, catS_r, catS_l, catS_d, Nat.reduceAdd, Nat.reduceLeDiff, Nat.zero_le, Nat.le_refl, Option.bind_some, Option.toList_some, Option.toList_none, List.cons_append, List.nil_append, or_true, true_or, if_true, if_false, Int32.reduceLT, Int32.reduceLE, not_true, not_false_iff, true_and, and_true, false_and, and_false]
          simp +decide only [e197_283, e197_284, e197_287, e197_289, e197_290, e197_291, e197_293, e197_294, e197_296, e197_297, e197_298, e197_301, e197_303, e197_304, e197_305, e197_306, e197_309, e197_311, e197_312, e197_313, e197_315, e197_316, e197_318, e197_319, e197_320, e197_323, e197_325, e197_326, e197_327, e197_328, e197_331, e197_333, e197_334, e197_335, e197_337, e197_338, e197_340, e197_341, e197_342, e197_345, e197_347, e197_348, e197_349, e197_352, nI_add, hQ, r1, r2, r3, v1, c1, v2, c2, nI_1, (Mod_0 hs.2.1 : ob h (g + 266) 11), (rf_g (Mod_61 hs.2.1 : rf h (g + 266) 44 (g + 287)) : gR h (g + 266) 44 = (g + 287)), (rf_is (Mod_61 hs.2.1 : rf h (g + 266) 44 (g + 287)) : isR h (g + 266) 44), (Mod_62 hs.2.1 : arI h (g + 287) 0), (rdI_0 (Mod_62 hs.2.1 : arI h (g + 287) 0) : rdI h (g + 287)), (Mod_63 hs.2.1 : aln h (g + 287) = 320), (rf_g (Mod_64 hs.2.1 : rf h (g + 266) 45 (g + 288)) : gR h (g + 266) 45 = (g + 288)), (rf_is (Mod_64 hs.2.1 : rf h (g + 266) 45 (g + 288)) : isR h (g + 266) 45), (Mod_65 hs.2.1 : arL h (g + 288)), (Mod_66 hs.2.1 : aln h (g + 288) = 320), (rf_g (Mod_67 hs.2.1 : rf h (g + 266) 46 (g + 289)) : gR h (g + 266) 46 = (g + 289)), (rf_is (Mod_67 hs.2.1 : rf h (g + 266) 46 (g + 289)) : isR h (g + 266) 46), (Mod_68 hs.2.1 : arD h (g + 289)), (Mod_69 hs.2.1 : aln h (g + 289) = 320), (rf_g (Mod_70 hs.2.1 : rf h (g + 266) 47 (g + 290)) : gR h (g + 266) 47 = (g + 290)), (rf_is (Mod_70 hs.2.1 : rf h (g + 266) 47 (g + 290)) : isR h (g + 266) 47), (Mod_71 hs.2.1 : arI h (g + 290) 0), (rdI_0 (Mod_71 hs.2.1 : arI h (g + 290) 0) : rdI h (g + 290)), (Mod_72 hs.2.1 : aln h (g + 290) = 40), (rf_g (Mod_73 hs.2.1 : rf h (g + 266) 48 (g + 291)) : gR h (g + 266) 48 = (g + 291)), (rf_is (Mod_73 hs.2.1 : rf h (g + 266) 48 (g + 291)) : isR h (g + 266) 48), (Mod_74 hs.2.1 : arL h (g + 291)), (Mod_75 hs.2.1 : aln h (g + 291) = 40), (rf_g (Mod_76 hs.2.1 : rf h (g + 266) 49 (g + 292)) : gR h (g + 266) 49 = (g + 292)), (rf_is (Mod_76 hs.2.1 : rf h (g + 266) 49 (g + 292)) : isR h (g + 266) 49), (Mod_77 hs.2.1 : arD h (g + 292)), (Mod_78 hs.2.1 : aln h (g + 292) = 40), ob_pI, rf_pI, isR_pI, isI_pI, isL_pI, arI_pI, arL_pI, arR_pI, arD_pI, aln_pI, rdI_pI, rdB_pI, rdR_pI, aR_pI, pI_2, gI_pI, gL_pI, gD_pI, gR_pI, aI_pI, aL_pI, aD_pI, ob_pL, rf_pL, isR_pL, isI_pL, isL_pL, arI_pL, arL_pL, arR_pL, arD_pL, aln_pL, rdI_pL, rdB_pL, rdR_pL, aR_pL, pL_2, gI_pL, gL_pL, gD_pL, gR_pL, aI_pL, aL_pL, aD_pL, ob_pD, rf_pD, isR_pD, isI_pD, isL_pD, arI_pD, arL_pD, arR_pD, arD_pD, aln_pD, rdI_pD, rdB_pD, rdR_pD, aR_pD, pD_2, gI_pD, gL_pD, gD_pD, gR_pD, aI_pD, aL_pD, aD_pD, ob_wI, rf_wI, isR_wI, isI_wI, isL_wI, arI_wI, arL_wI, arR_wI, arD_wI, aln_wI, rdI_wI, rdB_wI, rdR_wI, aR_wI, wI_2, gI_wI, gL_wI, gD_wI, gR_wI, aL_wI, aD_wI, aI_wI_ne, ob_wL, rf_wL, isR_wL, isI_wL, isL_wL, arI_wL, arL_wL, arR_wL, arD_wL, aln_wL, rdI_wL, rdB_wL, rdR_wL, aR_wL, wL_2, gI_wL, gL_wL, gD_wL, gR_wL, aI_wL, aD_wL, aL_wL_ne, ob_wD, rf_wD, isR_wD, isI_wD, isL_wD, arI_wD, arL_wD, arR_wD, arD_wD, aln_wD, rdI_wD, rdB_wD, rdR_wD, aR_wD, wD_2, gI_wD, gL_wD, gD_wD, gR_wD, aI_wD, aL_wD, aD_wD_ne, ob_bI, rf_bI, isR_bI, isI_bI, isL_bI, arI_bI, arL_bI, arR_bI, arD_bI, aln_bI, rdI_bI, rdB_bI, rdR_bI, aR_bI, bI_2, gI_bI, gL_bI, gD_bI, gR_bI, aL_bI, aD_bI, aI_bI_ne, ob_bL, rf_bL, isR_bL, isI_bL, isL_bL, arI_bL, arL_bL, arR_bL, arD_bL, aln_bL, rdI_bL, rdB_bL, rdR_bL, aR_bL, bL_2, gI_bL, gL_bL, gD_bL, gR_bL, aI_bL, aD_bL, aL_bL_ne, gI_pI, gL_pL, gD_pD, isI_pI, isL_pI, isD_pI, isI_pL, isL_pL, isD_pL, isI_pD, isL_pD, isD_pD, vkk_n, vkk_i, vkk_r, vkk_l, vkk_d, catS_nil, catS_i, catS_r, catS_l, catS_d, Nat.reduceAdd, Nat.reduceLeDiff, Nat.zero_le, Nat.le_refl, Option.bind_some, Option.toList_some, Option.toList_none, List.cons_append, List.nil_append, or_true, true_or, if_true, if_false, Int32.reduceLT, Int32.reduceLE, not_true, not_false_iff, true_and, and_true, false_and, and_false, Nat.add_assoc, Nat.reduceAdd, Nat.add_left_cancel_iff, Nat.reduceEqDiff, Nat.add_eq_left, Nat.left_eq_add]
          exact u1
        · simp +decide only [e197_245, e197_247, e197_249, e197_252, e197_254, e197_257, e197_258, e197_261, e197_263, e197_264, e197_266, e197_269, e197_270, e197_273, e197_275, e197_276, e197_278, (Mod_0 hs.2.1 : ob h (g + 266) 11), (rf_g (Mod_61 hs.2.1 : rf h (g + 266) 44 (g + 287)) : gR h (g + 266) 44 = (g + 287)), (rf_is (Mod_61 hs.2.1 : rf h (g + 266) 44 (g + 287)) : isR h (g + 266) 44), (Mod_62 hs.2.1 : arI h (g + 287) 0), (rdI_0 (Mod_62 hs.2.1 : arI h (g + 287) 0) : rdI h (g + 287)), (Mod_63 hs.2.1 : aln h (g + 287) = 320), (rf_g (Mod_64 hs.2.1 : rf h (g + 266) 45 (g + 288)) : gR h (g + 266) 45 = (g + 288)), (rf_is (Mod_64 hs.2.1 : rf h (g + 266) 45 (g + 288)) : isR h (g + 266) 45), (Mod_65 hs.2.1 : arL h (g + 288)), (Mod_66 hs.2.1 : aln h (g + 288) = 320), (rf_g (Mod_67 hs.2.1 : rf h (g + 266) 46 (g + 289)) : gR h (g + 266) 46 = (g + 289)), (rf_is (Mod_67 hs.2.1 : rf h (g + 266) 46 (g + 289)) : isR h (g + 266) 46), (Mod_68 hs.2.1 : arD h (g + 289)), (Mod_69 hs.2.1 : aln h (g + 289) = 320), (rf_g (Mod_70 hs.2.1 : rf h (g + 266) 47 (g + 290)) : gR h (g + 266) 47 = (g + 290)), (rf_is (Mod_70 hs.2.1 : rf h (g + 266) 47 (g + 290)) : isR h (g + 266) 47), (Mod_71 hs.2.1 : arI h (g + 290) 0), (rdI_0 (Mod_71 hs.2.1 : arI h (g + 290) 0) : rdI h (g + 290)), (Mod_72 hs.2.1 : aln h (g + 290) = 40), (rf_g (Mod_73 hs.2.1 : rf h (g + 266) 48 (g + 291)) : gR h (g + 266) 48 = (g + 291)), (rf_is (Mod_73 hs.2.1 : rf h (g + 266) 48 (g + 291)) : isR h (g + 266) 48), (Mod_74 hs.2.1 : arL h (g + 291)), (Mod_75 hs.2.1 : aln h (g + 291) = 40), (rf_g (Mod_76 hs.2.1 : rf h (g + 266) 49 (g + 292)) : gR h (g + 266) 49 = (g + 292)), (rf_is (Mod_76 hs.2.1 : rf h (g + 266) 49 (g + 292)) : isR h (g + 266) 49), (Mod_77 hs.2.1 : arD h (g + 292)), (Mod_78 hs.2.1 : aln h (g + 292) = 40), q, g1, r1, qk, v1, c1, if_true, if_false, vkk_n, vkk_i, vkk_r, vkk_l, vkk_d, catS_nil, catS_i, catS_r, catS_l, catS_d, Nat.reduceAdd, Nat.reduceLeDiff, Nat.zero_le, Nat.le_refl, Option.bind_some, Option.toList_some, Option.toList_none, List.cons_append, List.nil_append, or_true, true_or, if_true, if_false, Int32.reduceLT, Int32.reduceLE, not_true, not_false_iff, true_and, and_true, false_and, and_false]
          simp +decide only [e197_283, e197_284, e197_287, e197_289, e197_290, e197_291, e197_293, e197_294, e197_296, e197_297, e197_298, e197_301, e197_303, e197_304, e197_305, e197_306, e197_309, e197_311, e197_312, e197_313, e197_315, e197_316, e197_318, e197_319, e197_320, e197_323, e197_325, e197_326, e197_327, e197_328, e197_331, e197_333, e197_334, e197_335, e197_337, e197_338, e197_340, e197_341, e197_342, e197_345, e197_347, e197_348, e197_349, e197_352, nI_add, hQ, r1, r2, r3, v1, c1, v2, c2, nI_1, (Mod_0 hs.2.1 : ob h (g + 266) 11), (rf_g (Mod_61 hs.2.1 : rf h (g + 266) 44 (g + 287)) : gR h (g + 266) 44 = (g + 287)), (rf_is (Mod_61 hs.2.1 : rf h (g + 266) 44 (g + 287)) : isR h (g + 266) 44), (Mod_62 hs.2.1 : arI h (g + 287) 0), (rdI_0 (Mod_62 hs.2.1 : arI h (g + 287) 0) : rdI h (g + 287)), (Mod_63 hs.2.1 : aln h (g + 287) = 320), (rf_g (Mod_64 hs.2.1 : rf h (g + 266) 45 (g + 288)) : gR h (g + 266) 45 = (g + 288)), (rf_is (Mod_64 hs.2.1 : rf h (g + 266) 45 (g + 288)) : isR h (g + 266) 45), (Mod_65 hs.2.1 : arL h (g + 288)), (Mod_66 hs.2.1 : aln h (g + 288) = 320), (rf_g (Mod_67 hs.2.1 : rf h (g + 266) 46 (g + 289)) : gR h (g + 266) 46 = (g + 289)), (rf_is (Mod_67 hs.2.1 : rf h (g + 266) 46 (g + 289)) : isR h (g + 266) 46), (Mod_68 hs.2.1 : arD h (g + 289)), (Mod_69 hs.2.1 : aln h (g + 289) = 320), (rf_g (Mod_70 hs.2.1 : rf h (g + 266) 47 (g + 290)) : gR h (g + 266) 47 = (g + 290)), (rf_is (Mod_70 hs.2.1 : rf h (g + 266) 47 (g + 290)) : isR h (g + 266) 47), (Mod_71 hs.2.1 : arI h (g + 290) 0), (rdI_0 (Mod_71 hs.2.1 : arI h (g + 290) 0) : rdI h (g + 290)), (Mod_72 hs.2.1 : aln h (g + 290) = 40), (rf_g (Mod_73 hs.2.1 : rf h (g + 266) 48 (g + 291)) : gR h (g + 266) 48 = (g + 291)), (rf_is (Mod_73 hs.2.1 : rf h (g + 266) 48 (g + 291)) : isR h (g + 266) 48), (Mod_74 hs.2.1 : arL h (g + 291)), (Mod_75 hs.2.1 : aln h (g + 291) = 40), (rf_g (Mod_76 hs.2.1 : rf h (g + 266) 49 (g + 292)) : gR h (g + 266) 49 = (g + 292)), (rf_is (Mod_76 hs.2.1 : rf h (g + 266) 49 (g + 292)) : isR h (g + 266) 49), (Mod_77 hs.2.1 : arD h (g + 292)), (Mod_78 hs.2.1 : aln h (g + 292) = 40), ob_pI, rf_pI, isR_pI, isI_pI, isL_pI, arI_pI, arL_pI, arR_pI, arD_pI, aln_pI, rdI_pI, rdB_pI, rdR_pI, aR_pI, pI_2, gI_pI, gL_pI, gD_pI, gR_pI, aI_pI, aL_pI, aD_pI, ob_pL, rf_pL, isR_pL, isI_pL, isL_pL, arI_pL, arL_pL, arR_pL, arD_pL, aln_pL, rdI_pL, rdB_pL, rdR_pL, aR_pL, pL_2, gI_pL, gL_pL, gD_pL, gR_pL, aI_pL, aL_pL, aD_pL, ob_pD, rf_pD, isR_pD, isI_pD, isL_pD, arI_pD, arL_pD, arR_pD, arD_pD, aln_pD, rdI_pD, rdB_pD, rdR_pD, aR_pD, pD_2, gI_pD, gL_pD, gD_pD, gR_pD, aI_pD, aL_pD, aD_pD, ob_wI, rf_wI, isR_wI, isI_wI, isL_wI, arI_wI, arL_wI, arR_wI, arD_wI, aln_wI, rdI_wI, rdB_wI, rdR_wI, aR_wI, wI_2, gI_wI, gL_wI, gD_wI, gR_wI, aL_wI, aD_wI, aI_wI_ne, ob_wL, rf_wL, isR_wL, isI_wL, isL_wL, arI_wL, arL_wL, arR_wL, arD_wL, aln_wL, rdI_wL, rdB_wL, rdR_wL, aR_wL, wL_2, gI_wL, gL_wL, gD_wL, gR_wL, aI_wL, aD_wL, aL_wL_ne, ob_wD, rf_wD, isR_wD, isI_wD, isL_wD, arI_wD, arL_wD, arR_wD, arD_wD, aln_wD, rdI_wD, rdB_wD, rdR_wD, aR_wD, wD_2, gI_wD, gL_wD, gD_wD, gR_wD, aI_wD, aL_wD, aD_wD_ne, ob_bI, rf_bI, isR_bI, isI_bI, isL_bI, arI_bI, arL_bI, arR_bI, arD_bI, aln_bI, rdI_bI, rdB_bI, rdR_bI, aR_bI, bI_2, gI_bI, gL_bI, gD_bI, gR_bI, aL_bI, aD_bI, aI_bI_ne, ob_bL, rf_bL, isR_bL, isI_bL, isL_bL, arI_bL, arL_bL, arR_bL, arD_bL, aln_bL, rdI_bL, rdB_bL, rdR_bL, aR_bL, bL_2, gI_bL, gL_bL, gD_bL, gR_bL, aI_bL, aD_bL, aL_bL_ne, gI_pI, gL_pL, gD_pD, isI_pI, isL_pI, isD_pI, isI_pL, isL_pL, isD_pL, isI_pD, isL_pD, isD_pD, vkk_n, vkk_i, vkk_r, vkk_l, vkk_d, catS_nil, catS_i, catS_r, catS_l, catS_d, Nat.reduceAdd, Nat.reduceLeDiff, Nat.zero_le, Nat.le_refl, Option.bind_some, Option.toList_some, Option.toList_none, List.cons_append, List.nil_append, or_true, true_or, if_true, if_false, Int32.reduceLT, Int32.reduceLE, not_true, not_false_iff, true_and, and_true, false_and, and_false, Nat.add_assoc, Nat.reduceAdd, Nat.add_left_cancel_iff, Nat.reduceEqDiff, Nat.add_eq_left, Nat.left_eq_add]
          exact u1
    · obtain ⟨z1, z2, z3⟩ := u3 x
      obtain ⟨w1, w2, w3⟩ := y1 x
      rw [z1, z2, z3, w1, w2, w3]
      by_cases y : Q + (k + 1) ≤ x ∧ x < Q + pS pk K (k + 1) d
      · rw [if_pos y, if_pos y, if_pos y, if_pos (by omega), if_pos (by omega), if_pos (by omega)]
        exact ⟨rfl, rfl, rfl⟩
      · rw [if_neg y, if_neg y, if_neg y]
        by_cases y2 : x = Q + k
        · have y3 : x - Q = k := by omega
          rw [if_pos y2, if_pos y2, if_pos y2, if_pos (by omega), if_pos (by omega), if_pos (by omega), y3]
          exact ⟨rfl, rfl, rfl⟩
        · rw [if_neg y2, if_neg y2, if_neg y2, if_neg (by omega), if_neg (by omega), if_neg (by omega)]
          exact ⟨rfl, rfl, rfl⟩
