/-! MEMORY: numbers in it -/
def nSm (k : Nat) : Nat := [1, 1, 2, 2, 4, 4, 4, 8, 8, 4].getD k 0
def nWi (k : Nat) : Nat := [1, 1, 2, 2, 4, 8, 4, 8, 8, 8].getD k 0
def nBy (k : Nat) (w : Int32) : Nat := if w = 0 then nSm k else nWi k
theorem vSmall_n : ∀ k, k < 10 → vSmall k = nI (nSm k) := by decide
theorem vWide_n : ∀ k, k < 10 → vWide k = nI (nWi k) := by decide
theorem nSm_le : ∀ k, k < 10 → 1 ≤ nSm k ∧ nSm k ≤ 8 := by decide
theorem nWi_le : ∀ k, k < 10 → 1 ≤ nWi k ∧ nWi k ≤ 8 := by decide
theorem nBy_le (k : Nat) (hk : k < 10) (w : Int32) : 1 ≤ nBy k w ∧ nBy k w ≤ 8 := by
  unfold nBy
  split
  · exact nSm_le k hk
  · exact nWi_le k hk
theorem c_bytesN (h : VG) (g : Nat) (hs : St h g) (k : Nat) (hk : k < 10) (w : Int32) : ev 30 0 [some (.int (nI k)), some (.int w)] [] h = some (some (.int (nI (nBy k w))), h) := by
  rw [c_bytesOf h g hs k hk w, vSmall_n k hk, vWide_n k hk]
  unfold nBy
  split <;> rfl
theorem nI_m1 {a b : Nat} (hb : b < a) : nI a - 1 - nI b = nI (a - 1 - b) := by
  rw [show (1 : Int32) = nI 1 from rfl, pk_sub (by omega), pk_sub (by omega)]
/-- the bytes' number, i of them taken -/
def rdv (F : Nat → Int32) (big : Int32) (a n : Nat) : Nat → Int64
  | 0 => 0
  | i + 1 => (rdv F big a n i <<< ((8 : Int32).toInt64 &&& 63)) ||| (F (if big = 0 then a + n - 1 - i else a + i) &&& 255).toInt64
theorem l_cellAt (h : VG) (o a n : Nat) (k w : Int32) (hm : ShMem h o) (hn : n ≤ 8) (ha : a + n ≤ 256) : ∀ (d i : Nat) (l8 : Option Value), i + d = n → ev 56 13 [some (.ref o), some (.int (nI a)), some (.int k), some (.int w), some (.int (nI n)), some (.long (rdv (aI h (o + 1)) (gI h o 2) a n i)), none, some (.int (nI i)), l8] [] h = some (some (.long (kExt k (rdv (aI h (o + 1)) (gI h o 2) a n n) (nI n))), h) := by
  intro d
  induction d with
  | zero =>
    intro i l8 hi
    obtain rfl : i = n := by omega
    have hc : ¬ nI i < nI i := by rw [nI_ltI (by omega) (by omega)]; omega
    simp only [e56_13, e56_15, e56_17, hc, if_false]
    simp +decide only [e56_71, e56_72, e56_74, e56_76, e56_79, c_extended, vkk_n, vkk_i, vkk_r, vkk_l, vkk_d, catS_nil, catS_i, catS_r, catS_l, catS_d, Nat.reduceAdd, Nat.reduceLeDiff, Nat.zero_le, Nat.le_refl, Option.bind_some, Option.toList_some, Option.toList_none, List.cons_append, List.nil_append, or_true, true_or, if_true, if_false, Int32.reduceLT, Int32.reduceLE, not_true, not_false_iff, true_and, and_true, false_and, and_false]
  | succ d ih =>
    intro i l8 hi
    have hc : nI i < nI n := by rw [nI_ltI (by omega) (by omega)]; omega
    have hb : rdB h (o + 1) := Or.inl (Mem_2 hm)
    have hl := Mem_3 hm
    simp only [e56_13, e56_15, e56_17, hc, if_true]
    by_cases hbig : gI h o 2 = 0
    · have hj : vp_in (nI (a + n - 1 - i)) 256 := vp_in_nI (by omega) (by decide)
      have hcl : (nI (a + n - 1 - i)).toNatClampNeg = a + n - 1 - i := nI_clamp (by omega)
      have hx : rdv (aI h (o + 1)) (gI h o 2) a n (i + 1) = (rdv (aI h (o + 1)) (gI h o 2) a n i <<< ((8 : Int32).toInt64 &&& 63)) ||| (aI h (o + 1) (a + n - 1 - i) &&& 255).toInt64 := by
        show (_ <<< _) ||| (aI h (o + 1) (if gI h o 2 = 0 then _ else _) &&& 255).toInt64 = _
        rw [if_pos hbig]
      have hy := ih (i + 1) (some (.int (nI (a + n - 1 - i)))) (by omega)
      rw [hx] at hy
      have h1 : nI (a + n) - 1 - nI i = nI (a + n - 1 - i) := nI_m1 (by omega)
      simp only [e56_20, e56_21, e56_24, e56_27, e56_28, e56_30, e56_31, e56_34, e56_35, e56_37, e56_38, e56_39, e56_40, e56_42, e56_43, e56_45, e56_47, e56_49, e56_50, e56_51, e56_54, e56_56, e56_57, e56_60, e56_61, e56_62, e56_63, e56_65, e56_68, (Mem_0 hm : ob h o 5), (eq_true (isI_ob (Mem_0 hm : ob h o 5) rfl : isI h o 1)), (eq_true (isI_ob (Mem_0 hm : ob h o 5) rfl : isI h o 2)), (rf_g (Mem_1 hm : rf h o 0 (o + 1)) : gR h o 0 = (o + 1)), (rf_is (Mem_1 hm : rf h o 0 (o + 1)) : isR h o 0), (Mem_2 hm : arI h (o + 1) 2), (rdB_2 (Mem_2 hm : arI h (o + 1) 2) : rdB h (o + 1)), (Mem_3 hm : aln h (o + 1) = 256), hbig, hb, hl, hj, hcl, nI_add, h1, nI_1, vkk_n, vkk_i, vkk_r, vkk_l, vkk_d, if_true, if_false]
      rw [hbig] at hy
      exact hy
    · have hj : vp_in (nI (a + i)) 256 := vp_in_nI (by omega) (by decide)
      have hcl : (nI (a + i)).toNatClampNeg = a + i := nI_clamp (by omega)
      have hx : rdv (aI h (o + 1)) (gI h o 2) a n (i + 1) = (rdv (aI h (o + 1)) (gI h o 2) a n i <<< ((8 : Int32).toInt64 &&& 63)) ||| (aI h (o + 1) (a + i) &&& 255).toInt64 := by
        show (_ <<< _) ||| (aI h (o + 1) (if gI h o 2 = 0 then _ else _) &&& 255).toInt64 = _
        rw [if_neg hbig]
      have hy := ih (i + 1) (some (.int (nI (a + i)))) (by omega)
      rw [hx] at hy
      simp only [e56_20, e56_21, e56_24, e56_27, e56_28, e56_30, e56_31, e56_34, e56_35, e56_37, e56_38, e56_39, e56_40, e56_42, e56_43, e56_45, e56_47, e56_49, e56_50, e56_51, e56_54, e56_56, e56_57, e56_60, e56_61, e56_62, e56_63, e56_65, e56_68, (Mem_0 hm : ob h o 5), (eq_true (isI_ob (Mem_0 hm : ob h o 5) rfl : isI h o 1)), (eq_true (isI_ob (Mem_0 hm : ob h o 5) rfl : isI h o 2)), (rf_g (Mem_1 hm : rf h o 0 (o + 1)) : gR h o 0 = (o + 1)), (rf_is (Mem_1 hm : rf h o 0 (o + 1)) : isR h o 0), (Mem_2 hm : arI h (o + 1) 2), (rdB_2 (Mem_2 hm : arI h (o + 1) 2) : rdB h (o + 1)), (Mem_3 hm : aln h (o + 1) = 256), hbig, hb, hl, hj, hcl, nI_add, nI_1, vkk_n, vkk_i, vkk_r, vkk_l, vkk_d, if_true, if_false]
      exact hy
theorem c_cellAt (h : VG) (g o a k : Nat) (w : Int32) (hs : St h g) (hm : ShMem h o) (hk : k < 10) (ha : a + nBy k w ≤ 256) : ev 56 0 [some (.ref o), some (.int (nI a)), some (.int (nI k)), some (.int w), none, none, none, none, none] [] h = some (some (.long (kExt (nI k) (rdv (aI h (o + 1)) (gI h o 2) a (nBy k w) (nBy k w)) (nI (nBy k w)))), h) := by
  have hn := (nBy_le k hk w).2
  have := l_cellAt h o a (nBy k w) (nI k) w hm hn ha (nBy k w) 0 none (by omega)
  simp +decide only [e56_0, e56_1, e56_2, e56_5, e56_7, e56_8, e56_10, e56_11, c_bytesN h g hs k hk w, vkk_n, vkk_i, vkk_r, vkk_l, vkk_d, catS_nil, catS_i, catS_r, catS_l, catS_d, Nat.reduceAdd, Nat.reduceLeDiff, Nat.zero_le, Nat.le_refl, Option.bind_some, Option.toList_some, Option.toList_none, List.cons_append, List.nil_append, or_true, true_or, if_true, if_false, Int32.reduceLT, Int32.reduceLE, not_true, not_false_iff, true_and, and_true, false_and, and_false]
  exact this
