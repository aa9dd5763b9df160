/-! forms laid out: the model's members against the cells -/
theorem mBy_ok (w : Int32) : ∀ k, k < 10 → 1 ≤ mBy k w ∧ mBy k w ≤ 8 ∧ nBy k w % mBy k w = 0 := by
  unfold mBy nBy
  by_cases h : w = 0
  · simp only [if_pos h]
    decide
  · simp only [if_neg h]
    decide
theorem upN_id {v b : Nat} (hb : 1 ≤ b) (h : v % b = 0) : upN v b = v := by
  unfold upN
  obtain ⟨q, rfl⟩ := Nat.dvd_of_mod_eq_zero h
  rw [show b * q + b - 1 = (b - 1) + b * q by omega, Nat.add_mul_div_left _ _ (by omega), Nat.div_eq_of_lt (by omega), Nat.zero_add, Nat.mul_comm]
theorem upN_mod (v b : Nat) : upN v b % b = 0 := by
  unfold upN
  exact Nat.mul_mod_left _ _
theorem upN_le {v b : Nat} (hb : 1 ≤ b) : v ≤ upN v b ∧ upN v b < v + b := by
  unfold upN
  have h1 := Nat.div_add_mod (v + b - 1) b
  have h2 := Nat.mod_lt (v + b - 1) (show b > 0 by omega)
  rw [Nat.mul_comm] at h1
  omega
theorem run_lEnd (w : Int32) (C : Nat → Nat) (p k : Nat) (hk : k < 10) : ∀ r, (∀ i, i < r + 1 → C (p + i) = k) → lEnd w C (p + (r + 1)) = upN (lEnd w C p) (mBy k w) + (r + 1) * nBy k w ∧ lMul w C (p + (r + 1)) = if lMul w C p < mBy k w then mBy k w else lMul w C p := by
  obtain ⟨b1, -, b3⟩ := mBy_ok w k hk
  intro r
  induction r with
  | zero =>
    intro h
    have e : C p = k := h 0 (by decide)
    constructor
    · show upN (lEnd w C p) (mBy (C p) w) + nBy (C p) w = _
      rw [e]
      omega
    · show (if lMul w C p < mBy (C p) w then mBy (C p) w else lMul w C p) = _
      rw [e]
  | succ r ih =>
    intro h
    obtain ⟨i1, i2⟩ := ih (fun i hi => h i (by omega))
    have e : C (p + (r + 1)) = k := h (r + 1) (by omega)
    constructor
    · show upN (lEnd w C (p + (r + 1))) (mBy (C (p + (r + 1))) w) + nBy (C (p + (r + 1))) w = _
      rw [e, i1, upN_id b1 (by rw [Nat.add_mod, upN_mod, Nat.mul_mod, b3]; simp), Nat.add_mul, Nat.add_mul, Nat.add_mul]
      omega
    · show (if lMul w C (p + (r + 1)) < mBy (C (p + (r + 1))) w then mBy (C (p + (r + 1))) w else lMul w C (p + (r + 1))) = _
      rw [e, i2]
      (repeat' split) <;> omega
theorem lEnd_le (w : Int32) (C : Nat → Nat) : ∀ c, (∀ i, i < c → C i < 10) → lEnd w C c ≤ 16 * c ∧ 1 ≤ lMul w C c ∧ lMul w C c ≤ 8
  | 0, _ => ⟨Nat.zero_le _, Nat.le_refl 1, (by decide : 1 ≤ 8)⟩
  | c + 1, h => by
    obtain ⟨i1, i2, i3⟩ := lEnd_le w C c (fun i hi => h i (by omega))
    obtain ⟨b1, b2, -⟩ := mBy_ok w (C c) (h c (by omega))
    have n2 := (nBy_le (C c) (h c (by omega)) w).2
    have u := (upN_le (v := lEnd w C c) b1).2
    refine ⟨?_, ?_, ?_⟩
    · show upN (lEnd w C c) (mBy (C c) w) + nBy (C c) w ≤ _
      omega
    · show 1 ≤ (if lMul w C c < mBy (C c) w then mBy (C c) w else lMul w C c)
      split <;> omega
    · show (if lMul w C c < mBy (C c) w then mBy (C c) w else lMul w C c) ≤ 8
      split <;> omega
theorem pre_le (R : Nat → Nat) (m : Nat) (h : ∀ j, j < m → 1 ≤ R j ∧ R j ≤ 4) : ∀ j, j ≤ m → pre R j ≤ 4 * j
  | 0, _ => Nat.zero_le _
  | j + 1, hj => by
    have := pre_le R m h j (by omega)
    have := h j (by omega)
    show pre R j + R j ≤ _
    omega
theorem pre_cell (R : Nat → Nat) : ∀ m c, c < pre R m → ∃ j i, j < m ∧ i < R j ∧ c = pre R j + i
  | 0, c, h => absurd h (Nat.not_lt_zero _)
  | m + 1, c, h => by
    have h2 : c < pre R m + R m := h
    by_cases q : c < pre R m
    · obtain ⟨j, i, a1, a2, a3⟩ := pre_cell R m c q
      exact ⟨j, i, by omega, a2, a3⟩
    · exact ⟨m, c - pre R m, by omega, by omega, by omega⟩
theorem up_nI {v b : Nat} (hv : v ≤ 1024) (h1 : 1 ≤ b) (hb : b ≤ 8) : (nI v + nI b - 1) / nI b * nI b = nI (upN v b) := by
  rw [nI_add, show (1 : Int32) = nI 1 from rfl, pk_sub (by omega), pk_div (by omega) (by omega) (by omega), pk_mul]
  rfl
def Kb (h : VG) (g : Nat) : Prop := ∀ j, j < 10 → aI h (g + 282) j = vSmall j ∧ aI h (g + 283) j = vWide j
theorem Kb_fr {R : Nat → Prop} {F : Nat → Nat → Prop} {h h1 : VG} {g : Nat} (x : Fr R F h h1) (c1 : ¬ R (g + 282)) (c2 : ¬ R (g + 283)) (hk : Kb h g) : Kb h1 g := fun j hj => ⟨(x.I c1 j).trans (hk j hj).1, (x.I c2 j).trans (hk j hj).2⟩
theorem c_m_bytes (h : VG) (g k : Nat) (w : Int32) (hs : Sh h g) (hc : Kb h g) (hk : k < 10) : ev 166 0 [some (.ref (g + 266)), some (.int (nI k)), some (.int w)] [] h = some (some (.int (nI (nBy k w))), h) := by
  have hv : vp_in (nI k) 10 := vp_in_nI hk (by decide)
  have hcl : (nI k).toNatClampNeg = k := nI_clamp (by omega)
  obtain ⟨q1, q2⟩ := hc k hk
  rw [vSmall_n k hk] at q1
  rw [vWide_n k hk] at q2
  unfold nBy
  by_cases h0 : w = 0
  · simp +decide only [e166_0, e166_1, e166_4, e166_5, e166_8, e166_9, e166_10, e166_13, e166_14, e166_17, e166_18, e166_19, (Mod_0 hs.2.1 : ob h (g + 266) 11), (rf_g (Mod_46 hs.2.1 : rf h (g + 266) 33 (g + 282)) : gR h (g + 266) 33 = (g + 282)), (rf_is (Mod_46 hs.2.1 : rf h (g + 266) 33 (g + 282)) : isR h (g + 266) 33), (Mod_47 hs.2.1 : arI h (g + 282) 0), (rdI_0 (Mod_47 hs.2.1 : arI h (g + 282) 0) : rdI h (g + 282)), (Mod_48 hs.2.1 : aln h (g + 282) = 10), (rf_g (Mod_49 hs.2.1 : rf h (g + 266) 34 (g + 283)) : gR h (g + 266) 34 = (g + 283)), (rf_is (Mod_49 hs.2.1 : rf h (g + 266) 34 (g + 283)) : isR h (g + 266) 34), (Mod_50 hs.2.1 : arI h (g + 283) 0), (rdI_0 (Mod_50 hs.2.1 : arI h (g + 283) 0) : rdI h (g + 283)), (Mod_51 hs.2.1 : aln h (g + 283) = 10), h0, hv, hcl, q1, q2, vkk_n, vkk_i, vkk_r, vkk_l, vkk_d, catS_nil, catS_i, catS_r, catS_l, catS_d, Nat.reduceAdd, Nat.reduceLeDiff, Nat.zero_le, Nat.le_refl, Option.bind_some, Option.toList_some, Option.toList_none, List.cons_append, List.nil_append, or_true, true_or, if_true, if_false, Int32.reduceLT, Int32.reduceLE, not_true, not_false_iff, true_and, and_true, false_and, and_false]
  · simp +decide only [e166_0, e166_1, e166_4, e166_5, e166_8, e166_9, e166_10, e166_13, e166_14, e166_17, e166_18, e166_19, (Mod_0 hs.2.1 : ob h (g + 266) 11), (rf_g (Mod_46 hs.2.1 : rf h (g + 266) 33 (g + 282)) : gR h (g + 266) 33 = (g + 282)), (rf_is (Mod_46 hs.2.1 : rf h (g + 266) 33 (g + 282)) : isR h (g + 266) 33), (Mod_47 hs.2.1 : arI h (g + 282) 0), (rdI_0 (Mod_47 hs.2.1 : arI h (g + 282) 0) : rdI h (g + 282)), (Mod_48 hs.2.1 : aln h (g + 282) = 10), (rf_g (Mod_49 hs.2.1 : rf h (g + 266) 34 (g + 283)) : gR h (g + 266) 34 = (g + 283)), (rf_is (Mod_49 hs.2.1 : rf h (g + 266) 34 (g + 283)) : isR h (g + 266) 34), (Mod_50 hs.2.1 : arI h (g + 283) 0), (rdI_0 (Mod_50 hs.2.1 : arI h (g + 283) 0) : rdI h (g + 283)), (Mod_51 hs.2.1 : aln h (g + 283) = 10), h0, hv, hcl, q1, q2, vkk_n, vkk_i, vkk_r, vkk_l, vkk_d, catS_nil, catS_i, catS_r, catS_l, catS_d, Nat.reduceAdd, Nat.reduceLeDiff, Nat.zero_le, Nat.le_refl, Option.bind_some, Option.toList_some, Option.toList_none, List.cons_append, List.nil_append, or_true, true_or, if_true, if_false, Int32.reduceLT, Int32.reduceLE, not_true, not_false_iff, true_and, and_true, false_and, and_false]
theorem less4 : ∀ k, k < 10 → (if nI (nSm k) < 4 then nI (nSm k) else 4) = nI (if 4 < nSm k then 4 else nSm k) := by decide
theorem c_m_lies (h : VG) (g k : Nat) (w : Int32) (hs : Sh h g) (hc : Kb h g) (hk : k < 10) : ev 167 0 [some (.ref (g + 266)), some (.int (nI k)), some (.int w)] [] h = some (some (.int (nI (mBy k w))), h) := by
  have hv : vp_in (nI k) 10 := vp_in_nI hk (by decide)
  have hcl : (nI k).toNatClampNeg = k := nI_clamp (by omega)
  obtain ⟨q1, q2⟩ := hc k hk
  rw [vSmall_n k hk] at q1
  rw [vWide_n k hk] at q2
  have l4 := less4 k hk
  unfold mBy
  by_cases h0 : w = 0
  · simp +decide only [e167_0, e167_1, e167_4, e167_5, e167_8, e167_9, e167_10, e167_13, e167_14, e167_17, e167_18, e167_19, e167_20, e167_23, c_m_less, (Mod_0 hs.2.1 : ob h (g + 266) 11), (rf_g (Mod_46 hs.2.1 : rf h (g + 266) 33 (g + 282)) : gR h (g + 266) 33 = (g + 282)), (rf_is (Mod_46 hs.2.1 : rf h (g + 266) 33 (g + 282)) : isR h (g + 266) 33), (Mod_47 hs.2.1 : arI h (g + 282) 0), (rdI_0 (Mod_47 hs.2.1 : arI h (g + 282) 0) : rdI h (g + 282)), (Mod_48 hs.2.1 : aln h (g + 282) = 10), (rf_g (Mod_49 hs.2.1 : rf h (g + 266) 34 (g + 283)) : gR h (g + 266) 34 = (g + 283)), (rf_is (Mod_49 hs.2.1 : rf h (g + 266) 34 (g + 283)) : isR h (g + 266) 34), (Mod_50 hs.2.1 : arI h (g + 283) 0), (rdI_0 (Mod_50 hs.2.1 : arI h (g + 283) 0) : rdI h (g + 283)), (Mod_51 hs.2.1 : aln h (g + 283) = 10), h0, hv, hcl, q1, q2, l4, if_true, if_false, vkk_n, vkk_i, vkk_r, vkk_l, vkk_d, catS_nil, catS_i, catS_r, catS_l, catS_d, Nat.reduceAdd, Nat.reduceLeDiff, Nat.zero_le, Nat.le_refl, Option.bind_some, Option.toList_some, Option.toList_none, List.cons_append, List.nil_append, or_true, true_or, if_true, if_false, Int32.reduceLT, Int32.reduceLE, not_true, not_false_iff, true_and, and_true, false_and, and_false]
  · simp +decide only [e167_0, e167_1, e167_4, e167_5, e167_8, e167_9, e167_10, e167_13, e167_14, e167_17, e167_18, e167_19, e167_20, e167_23, c_m_less, (Mod_0 hs.2.1 : ob h (g + 266) 11), (rf_g (Mod_46 hs.2.1 : rf h (g + 266) 33 (g + 282)) : gR h (g + 266) 33 = (g + 282)), (rf_is (Mod_46 hs.2.1 : rf h (g + 266) 33 (g + 282)) : isR h (g + 266) 33), (Mod_47 hs.2.1 : arI h (g + 282) 0), (rdI_0 (Mod_47 hs.2.1 : arI h (g + 282) 0) : rdI h (g + 282)), (Mod_48 hs.2.1 : aln h (g + 282) = 10), (rf_g (Mod_49 hs.2.1 : rf h (g + 266) 34 (g + 283)) : gR h (g + 266) 34 = (g + 283)), (rf_is (Mod_49 hs.2.1 : rf h (g + 266) 34 (g + 283)) : isR h (g + 266) 34), (Mod_50 hs.2.1 : arI h (g + 283) 0), (rdI_0 (Mod_50 hs.2.1 : arI h (g + 283) 0) : rdI h (g + 283)), (Mod_51 hs.2.1 : aln h (g + 283) = 10), h0, hv, hcl, q1, q2, vkk_n, vkk_i, vkk_r, vkk_l, vkk_d, catS_nil, catS_i, catS_r, catS_l, catS_d, Nat.reduceAdd, Nat.reduceLeDiff, Nat.zero_le, Nat.le_refl, Option.bind_some, Option.toList_some, Option.toList_none, List.cons_append, List.nil_append, or_true, true_or, if_true, if_false, Int32.reduceLT, Int32.reduceLE, not_true, not_false_iff, true_and, and_true, false_and, and_false]
def FM (h : VG) (g f m : Nat) (K R : Nat → Nat) : Prop := f < 6 ∧ m ≤ 8 ∧ aI h (g + 274) f = nI m ∧ ∀ j, j < m → aI h (g + 275) (8 * f + j) = nI (K j) ∧ aI h (g + 276) (8 * f + j) = nI (R j)
theorem FM_fr {Q : Nat → Prop} {F : Nat → Nat → Prop} {h h1 : VG} {g f m : Nat} {K R : Nat → Nat} (x : Fr Q F h h1) (c1 : ∀ a, Q a → ¬ (g + 273 < a ∧ a < g + 277)) (hk : FM h g f m K R) : FM h1 g f m K R := ⟨hk.1, hk.2.1, (x.I (fun z => c1 _ z (by omega)) _).trans hk.2.2.1, fun j hj => ⟨(x.I (fun z => c1 _ z (by omega)) _).trans (hk.2.2.2 j hj).1, (x.I (fun z => c1 _ z (by omega)) _).trans (hk.2.2.2 j hj).2⟩⟩
theorem l_laysOut (g f m : Nat) (w : Int32) (K R C : Nat → Nat) (hKR : ∀ j, j < m → K j < 10 ∧ 1 ≤ R j ∧ R j ≤ 4) (hC : ∀ j i, j < m → i < R j → C (pre R j + i) = K j) : ∀ d j (h : VG) (l5 l6 : Option Value), j + d = m → Sh h g → Kb h g → FM h g f m K R → gI h (g + 266) 37 = nI (lMul w C (pre R j)) → ∃ h1, ev 169 10 [some (.ref (g + 266)), some (.int (nI f)), some (.int w), some (.int (nI (lEnd w C (pre R j)))), some (.int (nI j)), l5, l6] [] h = some (none, h1) ∧ Fr (fun a => a = g + 284) (fun a k => a = g + 266 ∧ (k = 36 ∨ k = 37)) h h1 ∧ gI h1 (g + 266) 37 = nI (lMul w C (pre R m)) ∧ gI h1 (g + 266) 36 = nI (lSiz w C (pre R m)) ∧ (∀ i, i < j → aI h1 (g + 284) i = aI h (g + 284) i) ∧ ∀ i, j ≤ i → i < m → aI h1 (g + 284) i = nI (lOff w C (pre R i)) := by
  intro d
  induction d with
  | zero =>
    intro j h l5 l6 hj hs hb hf h37
    obtain rfl : j = m := by omega
    have q : ¬ nI j < nI j := nI_nlt (Nat.le_refl _) (by have := hf.2.1; omega)
    have om : ob h (g + 266) 11 := Mod_0 hs.2.1
    have hv : vp_in (nI f) 6 := vp_in_nI hf.1 (by decide)
    have hc : (nI f).toNatClampNeg = f := nI_clamp (by have := hf.1; omega)
    have fm := hf.2.2.1
    have pl := pre_le R j (fun i hi => (hKR i hi).2) j (Nat.le_refl _)
    obtain ⟨b1, b2, b3⟩ := lEnd_le w C (pre R j) (fun c hc => by
      obtain ⟨x, y, x1, x2, rfl⟩ := pre_cell R j c hc
      rw [hC x y x1 x2]
      exact (hKR x x1).1)
    have bn : ¬ nI (lMul w C (pre R j)) = 0 := nI_fr0 (by omega) (by omega)
    have m8 := hf.2.1
    have eu : (nI (lEnd w C (pre R j)) + nI (lMul w C (pre R j)) - 1) / nI (lMul w C (pre R j)) * nI (lMul w C (pre R j)) = nI (lSiz w C (pre R j)) := up_nI (by omega) b2 b3
    have u := c_m_up h (nI (lEnd w C (pre R j))) (nI (lMul w C (pre R j))) bn
    rw [eu] at u
    have x1 : Fr (fun a => a = g + 284) (fun a k => a = g + 266 ∧ (k = 36 ∨ k = 37)) h (pI h (g + 266) 36 (nI (lSiz w C (pre R j)))) := Fr_pI _ _ _ _ ⟨rfl, Or.inl rfl⟩
    refine ⟨_, ?_, x1, ?_, ?_, fun i hi => by rw [aI_pI], fun i i1 i2 => by omega⟩
    · simp +decide only [e169_10, e169_12, e169_13, e169_16, e169_17, e169_18, (Mod_0 hs.2.1 : ob h (g + 266) 11), (rf_g (Mod_22 hs.2.1 : rf h (g + 266) 20 (g + 274)) : gR h (g + 266) 20 = (g + 274)), (rf_is (Mod_22 hs.2.1 : rf h (g + 266) 20 (g + 274)) : isR h (g + 266) 20), (Mod_23 hs.2.1 : arI h (g + 274) 0), (rdI_0 (Mod_23 hs.2.1 : arI h (g + 274) 0) : rdI h (g + 274)), (Mod_24 hs.2.1 : aln h (g + 274) = 6), (rf_g (Mod_25 hs.2.1 : rf h (g + 266) 21 (g + 275)) : gR h (g + 266) 21 = (g + 275)), (rf_is (Mod_25 hs.2.1 : rf h (g + 266) 21 (g + 275)) : isR h (g + 266) 21), (Mod_26 hs.2.1 : arI h (g + 275) 0), (rdI_0 (Mod_26 hs.2.1 : arI h (g + 275) 0) : rdI h (g + 275)), (Mod_27 hs.2.1 : aln h (g + 275) = 48), (rf_g (Mod_28 hs.2.1 : rf h (g + 266) 22 (g + 276)) : gR h (g + 266) 22 = (g + 276)), (rf_is (Mod_28 hs.2.1 : rf h (g + 266) 22 (g + 276)) : isR h (g + 266) 22), (Mod_29 hs.2.1 : arI h (g + 276) 0), (rdI_0 (Mod_29 hs.2.1 : arI h (g + 276) 0) : rdI h (g + 276)), (Mod_30 hs.2.1 : aln h (g + 276) = 48), (rf_g (Mod_52 hs.2.1 : rf h (g + 266) 35 (g + 284)) : gR h (g + 266) 35 = (g + 284)), (rf_is (Mod_52 hs.2.1 : rf h (g + 266) 35 (g + 284)) : isR h (g + 266) 35), (Mod_53 hs.2.1 : arI h (g + 284) 0), (rdI_0 (Mod_53 hs.2.1 : arI h (g + 284) 0) : rdI h (g + 284)), (Mod_54 hs.2.1 : aln h (g + 284) = 8), fm, hv, hc, q, vkk_n, vkk_i, vkk_r, vkk_l, vkk_d, catS_nil, catS_i, catS_r, catS_l, catS_d, Nat.reduceAdd, Nat.reduceLeDiff, Nat.zero_le, Nat.le_refl, Option.bind_some, Option.toList_some, Option.toList_none, List.cons_append, List.nil_append, or_true, true_or, if_true, if_false, Int32.reduceLT, Int32.reduceLE, not_true, not_false_iff, true_and, and_true, false_and, and_false]
      simp +decide only [e169_107, e169_108, e169_109, e169_110, e169_113, e169_116, e169_119, (Mod_0 hs.2.1 : ob h (g + 266) 11), (rf_g (Mod_22 hs.2.1 : rf h (g + 266) 20 (g + 274)) : gR h (g + 266) 20 = (g + 274)), (rf_is (Mod_22 hs.2.1 : rf h (g + 266) 20 (g + 274)) : isR h (g + 266) 20), (Mod_23 hs.2.1 : arI h (g + 274) 0), (rdI_0 (Mod_23 hs.2.1 : arI h (g + 274) 0) : rdI h (g + 274)), (Mod_24 hs.2.1 : aln h (g + 274) = 6), (rf_g (Mod_25 hs.2.1 : rf h (g + 266) 21 (g + 275)) : gR h (g + 266) 21 = (g + 275)), (rf_is (Mod_25 hs.2.1 : rf h (g + 266) 21 (g + 275)) : isR h (g + 266) 21), (Mod_26 hs.2.1 : arI h (g + 275) 0), (rdI_0 (Mod_26 hs.2.1 : arI h (g + 275) 0) : rdI h (g + 275)), (Mod_27 hs.2.1 : aln h (g + 275) = 48), (rf_g (Mod_28 hs.2.1 : rf h (g + 266) 22 (g + 276)) : gR h (g + 266) 22 = (g + 276)), (rf_is (Mod_28 hs.2.1 : rf h (g + 266) 22 (g + 276)) : isR h (g + 266) 22), (Mod_29 hs.2.1 : arI h (g + 276) 0), (rdI_0 (Mod_29 hs.2.1 : arI h (g + 276) 0) : rdI h (g + 276)), (Mod_30 hs.2.1 : aln h (g + 276) = 48), (rf_g (Mod_52 hs.2.1 : rf h (g + 266) 35 (g + 284)) : gR h (g + 266) 35 = (g + 284)), (rf_is (Mod_52 hs.2.1 : rf h (g + 266) 35 (g + 284)) : isR h (g + 266) 35), (Mod_53 hs.2.1 : arI h (g + 284) 0), (rdI_0 (Mod_53 hs.2.1 : arI h (g + 284) 0) : rdI h (g + 284)), (Mod_54 hs.2.1 : aln h (g + 284) = 8), om, h37, u, vkk_n, vkk_i, vkk_r, vkk_l, vkk_d, catS_nil, catS_i, catS_r, catS_l, catS_d, Nat.reduceAdd, Nat.reduceLeDiff, Nat.zero_le, Nat.le_refl, Option.bind_some, Option.toList_some, Option.toList_none, List.cons_append, List.nil_append, or_true, true_or, if_true, if_false, Int32.reduceLT, Int32.reduceLE, not_true, not_false_iff, true_and, and_true, false_and, and_false]
    · rw [gI_pI_ne _ _ _ _ _ _ (fun z => by omega)]
      exact h37
    · rw [gI_pI, if_pos ⟨rfl, rfl, isI_ob om rfl⟩]
  | succ d ih =>
    intro j h l5 l6 hj hs hb hf h37
    have m8' := hf.2.1
    have f6 := hf.1
    have q : nI j < nI m := nI_lt (by omega) (by omega)
    have om : ob h (g + 266) 11 := Mod_0 hs.2.1
    have hv : vp_in (nI f) 6 := vp_in_nI hf.1 (by decide)
    have hc : (nI f).toNatClampNeg = f := nI_clamp (by omega)
    have hv2 : vp_in (nI (8 * f + j)) 48 := vp_in_nI (by omega) (by decide)
    have hc2 : (nI (8 * f + j)).toNatClampNeg = 8 * f + j := nI_clamp (by omega)
    have hv3 : vp_in (nI j) 8 := vp_in_nI (by omega) (by decide)
    have hc3 : (nI j).toNatClampNeg = j := nI_clamp (by omega)
    have fm := hf.2.2.1
    obtain ⟨fk, frr⟩ := hf.2.2.2 j (by omega)
    obtain ⟨k10, r1, r4⟩ := hKR j (by omega)
    obtain ⟨y1, y2, y3⟩ := mBy_ok w (K j) k10
    have nb := nBy_le (K j) k10 w
    have pl := pre_le R m (fun i hi => (hKR i hi).2) j (by omega)
    obtain ⟨b1, b2, b3⟩ := lEnd_le w C (pre R j) (fun c hc => by
      obtain ⟨x, y, x1, x2, rfl⟩ := pre_cell R j c hc
      rw [hC x y (by omega) x2]
      exact (hKR x (by omega)).1)
    obtain ⟨r, hr⟩ : ∃ r, R j = r + 1 := ⟨R j - 1, by omega⟩
    obtain ⟨n1, n2⟩ := run_lEnd w C (pre R j) (K j) k10 r (fun i hi => hC j i (by omega) (by omega))
    rw [← hr] at n1 n2
    have n1' : lEnd w C (pre R (j + 1)) = _ := n1
    have n2' : lMul w C (pre R (j + 1)) = _ := n2
    have eo : lOff w C (pre R j) = upN (lEnd w C (pre R j)) (mBy (K j) w) := by
      have e : C (pre R j) = K j := hC j 0 (by omega) (by omega)
      unfold lOff
      rw [e]
    have bn : ¬ nI (mBy (K j) w) = 0 := nI_fr0 (by omega) (by omega)
    have eu : (nI (lEnd w C (pre R j)) + nI (mBy (K j) w) - 1) / nI (mBy (K j) w) * nI (mBy (K j) w) = nI (lOff w C (pre R j)) := by
      rw [eo]
      exact up_nI (by omega) y1 y2
    have ul := c_m_lies h g (K j) w hs hb k10
    have step : ∃ H, ev 169 44 [some (.ref (g + 266)), some (.int (nI f)), some (.int w), some (.int (nI (lEnd w C (pre R j)))), some (.int (nI j)), some (.int (nI (K j))), some (.int (nI (mBy (K j) w)))] [] h = ev 169 59 [some (.ref (g + 266)), some (.int (nI f)), some (.int w), some (.int (nI (lEnd w C (pre R j)))), some (.int (nI j)), some (.int (nI (K j))), some (.int (nI (mBy (K j) w)))] [] H ∧ Fr NR (fun a k => a = g + 266 ∧ k = 37) h H ∧ gI H (g + 266) 37 = nI (lMul w C (pre R (j + 1))) := by
      by_cases z : lMul w C (pre R j) < mBy (K j) w
      · have z1 : ¬ nI (mBy (K j) w) ≤ nI (lMul w C (pre R j)) := Int32.not_le.mpr (nI_lt z (by omega))
        refine ⟨pI h (g + 266) 37 (nI (mBy (K j) w)), ?_, Fr_pI _ _ _ _ ⟨rfl, rfl⟩, ?_⟩
        · simp +decide only [e169_44, e169_46, e169_47, e169_50, e169_53, e169_54, e169_56, (Mod_0 hs.2.1 : ob h (g + 266) 11), (rf_g (Mod_22 hs.2.1 : rf h (g + 266) 20 (g + 274)) : gR h (g + 266) 20 = (g + 274)), (rf_is (Mod_22 hs.2.1 : rf h (g + 266) 20 (g + 274)) : isR h (g + 266) 20), (Mod_23 hs.2.1 : arI h (g + 274) 0), (rdI_0 (Mod_23 hs.2.1 : arI h (g + 274) 0) : rdI h (g + 274)), (Mod_24 hs.2.1 : aln h (g + 274) = 6), (rf_g (Mod_25 hs.2.1 : rf h (g + 266) 21 (g + 275)) : gR h (g + 266) 21 = (g + 275)), (rf_is (Mod_25 hs.2.1 : rf h (g + 266) 21 (g + 275)) : isR h (g + 266) 21), (Mod_26 hs.2.1 : arI h (g + 275) 0), (rdI_0 (Mod_26 hs.2.1 : arI h (g + 275) 0) : rdI h (g + 275)), (Mod_27 hs.2.1 : aln h (g + 275) = 48), (rf_g (Mod_28 hs.2.1 : rf h (g + 266) 22 (g + 276)) : gR h (g + 266) 22 = (g + 276)), (rf_is (Mod_28 hs.2.1 : rf h (g + 266) 22 (g + 276)) : isR h (g + 266) 22), (Mod_29 hs.2.1 : arI h (g + 276) 0), (rdI_0 (Mod_29 hs.2.1 : arI h (g + 276) 0) : rdI h (g + 276)), (Mod_30 hs.2.1 : aln h (g + 276) = 48), (rf_g (Mod_52 hs.2.1 : rf h (g + 266) 35 (g + 284)) : gR h (g + 266) 35 = (g + 284)), (rf_is (Mod_52 hs.2.1 : rf h (g + 266) 35 (g + 284)) : isR h (g + 266) 35), (Mod_53 hs.2.1 : arI h (g + 284) 0), (rdI_0 (Mod_53 hs.2.1 : arI h (g + 284) 0) : rdI h (g + 284)), (Mod_54 hs.2.1 : aln h (g + 284) = 8), om, h37, z1, vkk_n, vkk_i, vkk_r, vkk_l, vkk_d, catS_nil, catS_i, catS_r, catS_l, catS_d, Nat.reduceAdd, Nat.reduceLeDiff, Nat.zero_le, Nat.le_refl, Option.bind_some, Option.toList_some, Option.toList_none, List.cons_append, List.nil_append, or_true, true_or, if_true, if_false, Int32.reduceLT, Int32.reduceLE, not_true, not_false_iff, true_and, and_true, false_and, and_false]
        · rw [gI_pI, if_pos ⟨rfl, rfl, isI_ob om rfl⟩, n2', if_pos z]
      · have z1 : nI (mBy (K j) w) ≤ nI (lMul w C (pre R j)) := Int32.not_lt.mp (nI_nlt (by omega) (by omega))
        refine ⟨h, ?_, Fr.rfl _, ?_⟩
        · simp +decide only [e169_44, e169_46, e169_47, e169_50, e169_53, e169_54, e169_56, (Mod_0 hs.2.1 : ob h (g + 266) 11), (rf_g (Mod_22 hs.2.1 : rf h (g + 266) 20 (g + 274)) : gR h (g + 266) 20 = (g + 274)), (rf_is (Mod_22 hs.2.1 : rf h (g + 266) 20 (g + 274)) : isR h (g + 266) 20), (Mod_23 hs.2.1 : arI h (g + 274) 0), (rdI_0 (Mod_23 hs.2.1 : arI h (g + 274) 0) : rdI h (g + 274)), (Mod_24 hs.2.1 : aln h (g + 274) = 6), (rf_g (Mod_25 hs.2.1 : rf h (g + 266) 21 (g + 275)) : gR h (g + 266) 21 = (g + 275)), (rf_is (Mod_25 hs.2.1 : rf h (g + 266) 21 (g + 275)) : isR h (g + 266) 21), (Mod_26 hs.2.1 : arI h (g + 275) 0), (rdI_0 (Mod_26 hs.2.1 : arI h (g + 275) 0) : rdI h (g + 275)), (Mod_27 hs.2.1 : aln h (g + 275) = 48), (rf_g (Mod_28 hs.2.1 : rf h (g + 266) 22 (g + 276)) : gR h (g + 266) 22 = (g + 276)), (rf_is (Mod_28 hs.2.1 : rf h (g + 266) 22 (g + 276)) : isR h (g + 266) 22), (Mod_29 hs.2.1 : arI h (g + 276) 0), (rdI_0 (Mod_29 hs.2.1 : arI h (g + 276) 0) : rdI h (g + 276)), (Mod_30 hs.2.1 : aln h (g + 276) = 48), (rf_g (Mod_52 hs.2.1 : rf h (g + 266) 35 (g + 284)) : gR h (g + 266) 35 = (g + 284)), (rf_is (Mod_52 hs.2.1 : rf h (g + 266) 35 (g + 284)) : isR h (g + 266) 35), (Mod_53 hs.2.1 : arI h (g + 284) 0), (rdI_0 (Mod_53 hs.2.1 : arI h (g + 284) 0) : rdI h (g + 284)), (Mod_54 hs.2.1 : aln h (g + 284) = 8), om, h37, z1, vkk_n, vkk_i, vkk_r, vkk_l, vkk_d, catS_nil, catS_i, catS_r, catS_l, catS_d, Nat.reduceAdd, Nat.reduceLeDiff, Nat.zero_le, Nat.le_refl, Option.bind_some, Option.toList_some, Option.toList_none, List.cons_append, List.nil_append, or_true, true_or, if_true, if_false, Int32.reduceLT, Int32.reduceLE, not_true, not_false_iff, true_and, and_true, false_and, and_false]
        · rw [h37, n2', if_neg z]
    obtain ⟨H, v1, v2, v3⟩ := step
    have sH : Sh H g := Sh_fr v2 (fun a z => z.elim) hs
    have bH : Kb H g := Kb_fr v2 (fun z => z) (fun z => z) hb
    have fH : FM H g f m K R := FM_fr v2 (fun a z => z.elim) hf
    have uu := c_m_up H (nI (lEnd w C (pre R j))) (nI (mBy (K j) w)) bn
    rw [eu] at uu
    have x1 : Fr (fun a => a = g + 284) NF H (wI H (g + 284) j (nI (lOff w C (pre R j)))) := Fr_wI _ _ _ _ rfl
    have c1 : ∀ i, aI (wI H (g + 284) j (nI (lOff w C (pre R j)))) (g + 284) i = if i = j then nI (lOff w C (pre R j)) else aI H (g + 284) i := by
      intro i
      rw [aI_wI0 _ _ _ _ _ _ (Mod_53 sH.2.1)]
      simp only [true_and]
    have sW : Sh (wI H (g + 284) j (nI (lOff w C (pre R j)))) g := Sh_fr x1 (fun a z => by omega) sH
    have bW : Kb (wI H (g + 284) j (nI (lOff w C (pre R j)))) g := Kb_fr x1 (fun z => by omega) (fun z => by omega) bH
    have fW : FM (wI H (g + 284) j (nI (lOff w C (pre R j)))) g f m K R := FM_fr x1 (fun a z => by omega) fH
    have fr2 := (fW.2.2.2 j (by omega)).2
    have cj := c1 j
    rw [if_pos rfl] at cj
    have ub := c_m_bytes (wI H (g + 284) j (nI (lOff w C (pre R j)))) g (K j) w sW bW k10
    have en : nI (lOff w C (pre R j)) + nI (R j) * nI (nBy (K j) w) = nI (lEnd w C (pre R (j + 1))) := by
      rw [pk_mul, nI_add, n1', eo]
    obtain ⟨h1, w1, w2, w3, w4, w5, w6⟩ := ih (j + 1) (wI H (g + 284) j (nI (lOff w C (pre R j)))) (some (.int (nI (K j)))) (some (.int (nI (mBy (K j) w)))) (by omega) sW bW fW ((x1.gI (fun z => z.elim)).trans v3)
    refine ⟨h1, ?_, ((v2.mo (fun _ z => z.elim) (fun a k z => ⟨z.1, Or.inr z.2⟩)).tr (x1.mo (fun _ z => z) (fun _ _ z => z.elim))).tr w2, w3, w4, fun i hi => ?_, fun i i1 i2 => ?_⟩
    · simp +decide only [e169_10, e169_12, e169_13, e169_16, e169_17, e169_18, (Mod_0 hs.2.1 : ob h (g + 266) 11), (rf_g (Mod_22 hs.2.1 : rf h (g + 266) 20 (g + 274)) : gR h (g + 266) 20 = (g + 274)), (rf_is (Mod_22 hs.2.1 : rf h (g + 266) 20 (g + 274)) : isR h (g + 266) 20), (Mod_23 hs.2.1 : arI h (g + 274) 0), (rdI_0 (Mod_23 hs.2.1 : arI h (g + 274) 0) : rdI h (g + 274)), (Mod_24 hs.2.1 : aln h (g + 274) = 6), (rf_g (Mod_25 hs.2.1 : rf h (g + 266) 21 (g + 275)) : gR h (g + 266) 21 = (g + 275)), (rf_is (Mod_25 hs.2.1 : rf h (g + 266) 21 (g + 275)) : isR h (g + 266) 21), (Mod_26 hs.2.1 : arI h (g + 275) 0), (rdI_0 (Mod_26 hs.2.1 : arI h (g + 275) 0) : rdI h (g + 275)), (Mod_27 hs.2.1 : aln h (g + 275) = 48), (rf_g (Mod_28 hs.2.1 : rf h (g + 266) 22 (g + 276)) : gR h (g + 266) 22 = (g + 276)), (rf_is (Mod_28 hs.2.1 : rf h (g + 266) 22 (g + 276)) : isR h (g + 266) 22), (Mod_29 hs.2.1 : arI h (g + 276) 0), (rdI_0 (Mod_29 hs.2.1 : arI h (g + 276) 0) : rdI h (g + 276)), (Mod_30 hs.2.1 : aln h (g + 276) = 48), (rf_g (Mod_52 hs.2.1 : rf h (g + 266) 35 (g + 284)) : gR h (g + 266) 35 = (g + 284)), (rf_is (Mod_52 hs.2.1 : rf h (g + 266) 35 (g + 284)) : isR h (g + 266) 35), (Mod_53 hs.2.1 : arI h (g + 284) 0), (rdI_0 (Mod_53 hs.2.1 : arI h (g + 284) 0) : rdI h (g + 284)), (Mod_54 hs.2.1 : aln h (g + 284) = 8), fm, hv, hc, q, if_true, vkk_n, vkk_i, vkk_r, vkk_l, vkk_d, catS_nil, catS_i, catS_r, catS_l, catS_d, Nat.reduceAdd, Nat.reduceLeDiff, Nat.zero_le, Nat.le_refl, Option.bind_some, Option.toList_some, Option.toList_none, List.cons_append, List.nil_append, or_true, true_or, if_true, if_false, Int32.reduceLT, Int32.reduceLE, not_true, not_false_iff, true_and, and_true, false_and, and_false]
      simp +decide only [e169_21, e169_22, e169_25, e169_27, e169_28, e169_29, e169_31, e169_32, e169_33, e169_35, e169_36, e169_38, e169_39, e169_42, (Mod_0 hs.2.1 : ob h (g + 266) 11), (rf_g (Mod_22 hs.2.1 : rf h (g + 266) 20 (g + 274)) : gR h (g + 266) 20 = (g + 274)), (rf_is (Mod_22 hs.2.1 : rf h (g + 266) 20 (g + 274)) : isR h (g + 266) 20), (Mod_23 hs.2.1 : arI h (g + 274) 0), (rdI_0 (Mod_23 hs.2.1 : arI h (g + 274) 0) : rdI h (g + 274)), (Mod_24 hs.2.1 : aln h (g + 274) = 6), (rf_g (Mod_25 hs.2.1 : rf h (g + 266) 21 (g + 275)) : gR h (g + 266) 21 = (g + 275)), (rf_is (Mod_25 hs.2.1 : rf h (g + 266) 21 (g + 275)) : isR h (g + 266) 21), (Mod_26 hs.2.1 : arI h (g + 275) 0), (rdI_0 (Mod_26 hs.2.1 : arI h (g + 275) 0) : rdI h (g + 275)), (Mod_27 hs.2.1 : aln h (g + 275) = 48), (rf_g (Mod_28 hs.2.1 : rf h (g + 266) 22 (g + 276)) : gR h (g + 266) 22 = (g + 276)), (rf_is (Mod_28 hs.2.1 : rf h (g + 266) 22 (g + 276)) : isR h (g + 266) 22), (Mod_29 hs.2.1 : arI h (g + 276) 0), (rdI_0 (Mod_29 hs.2.1 : arI h (g + 276) 0) : rdI h (g + 276)), (Mod_30 hs.2.1 : aln h (g + 276) = 48), (rf_g (Mod_52 hs.2.1 : rf h (g + 266) 35 (g + 284)) : gR h (g + 266) 35 = (g + 284)), (rf_is (Mod_52 hs.2.1 : rf h (g + 266) 35 (g + 284)) : isR h (g + 266) 35), (Mod_53 hs.2.1 : arI h (g + 284) 0), (rdI_0 (Mod_53 hs.2.1 : arI h (g + 284) 0) : rdI h (g + 284)), (Mod_54 hs.2.1 : aln h (g + 284) = 8), m8, nI_add, hv2, hc2, fk, ul, vkk_n, vkk_i, vkk_r, vkk_l, vkk_d, catS_nil, catS_i, catS_r, catS_l, catS_d, Nat.reduceAdd, Nat.reduceLeDiff, Nat.zero_le, Nat.le_refl, Option.bind_some, Option.toList_some, Option.toList_none, List.cons_append, List.nil_append, or_true, true_or, if_true, if_false, Int32.reduceLT, Int32.reduceLE, not_true, not_false_iff, true_and, and_true, false_and, and_false]
      rw [v1]
      simp +decide only [e169_59, e169_60, e169_63, e169_65, e169_66, e169_68, e169_71, (Mod_0 sH.2.1 : ob H (g + 266) 11), (rf_g (Mod_22 sH.2.1 : rf H (g + 266) 20 (g + 274)) : gR H (g + 266) 20 = (g + 274)), (rf_is (Mod_22 sH.2.1 : rf H (g + 266) 20 (g + 274)) : isR H (g + 266) 20), (Mod_23 sH.2.1 : arI H (g + 274) 0), (rdI_0 (Mod_23 sH.2.1 : arI H (g + 274) 0) : rdI H (g + 274)), (Mod_24 sH.2.1 : aln H (g + 274) = 6), (rf_g (Mod_25 sH.2.1 : rf H (g + 266) 21 (g + 275)) : gR H (g + 266) 21 = (g + 275)), (rf_is (Mod_25 sH.2.1 : rf H (g + 266) 21 (g + 275)) : isR H (g + 266) 21), (Mod_26 sH.2.1 : arI H (g + 275) 0), (rdI_0 (Mod_26 sH.2.1 : arI H (g + 275) 0) : rdI H (g + 275)), (Mod_27 sH.2.1 : aln H (g + 275) = 48), (rf_g (Mod_28 sH.2.1 : rf H (g + 266) 22 (g + 276)) : gR H (g + 266) 22 = (g + 276)), (rf_is (Mod_28 sH.2.1 : rf H (g + 266) 22 (g + 276)) : isR H (g + 266) 22), (Mod_29 sH.2.1 : arI H (g + 276) 0), (rdI_0 (Mod_29 sH.2.1 : arI H (g + 276) 0) : rdI H (g + 276)), (Mod_30 sH.2.1 : aln H (g + 276) = 48), (rf_g (Mod_52 sH.2.1 : rf H (g + 266) 35 (g + 284)) : gR H (g + 266) 35 = (g + 284)), (rf_is (Mod_52 sH.2.1 : rf H (g + 266) 35 (g + 284)) : isR H (g + 266) 35), (Mod_53 sH.2.1 : arI H (g + 284) 0), (rdI_0 (Mod_53 sH.2.1 : arI H (g + 284) 0) : rdI H (g + 284)), (Mod_54 sH.2.1 : aln H (g + 284) = 8), uu, hv3, hc3, vkk_n, vkk_i, vkk_r, vkk_l, vkk_d, catS_nil, catS_i, catS_r, catS_l, catS_d, Nat.reduceAdd, Nat.reduceLeDiff, Nat.zero_le, Nat.le_refl, Option.bind_some, Option.toList_some, Option.toList_none, List.cons_append, List.nil_append, or_true, true_or, if_true, if_false, Int32.reduceLT, Int32.reduceLE, not_true, not_false_iff, true_and, and_true, false_and, and_false]
      generalize wI H (g + 284) j (nI (lOff w C (pre R j))) = W at cj sW fr2 ub w1 ⊢
      simp +decide only [e169_72, e169_73, e169_76, e169_78, e169_79, e169_80, e169_83, e169_85, e169_86, e169_87, e169_89, e169_90, e169_91, e169_92, e169_94, e169_95, e169_98, e169_99, e169_100, e169_101, e169_104, (Mod_0 sW.2.1 : ob W (g + 266) 11), (rf_g (Mod_22 sW.2.1 : rf W (g + 266) 20 (g + 274)) : gR W (g + 266) 20 = (g + 274)), (rf_is (Mod_22 sW.2.1 : rf W (g + 266) 20 (g + 274)) : isR W (g + 266) 20), (Mod_23 sW.2.1 : arI W (g + 274) 0), (rdI_0 (Mod_23 sW.2.1 : arI W (g + 274) 0) : rdI W (g + 274)), (Mod_24 sW.2.1 : aln W (g + 274) = 6), (rf_g (Mod_25 sW.2.1 : rf W (g + 266) 21 (g + 275)) : gR W (g + 266) 21 = (g + 275)), (rf_is (Mod_25 sW.2.1 : rf W (g + 266) 21 (g + 275)) : isR W (g + 266) 21), (Mod_26 sW.2.1 : arI W (g + 275) 0), (rdI_0 (Mod_26 sW.2.1 : arI W (g + 275) 0) : rdI W (g + 275)), (Mod_27 sW.2.1 : aln W (g + 275) = 48), (rf_g (Mod_28 sW.2.1 : rf W (g + 266) 22 (g + 276)) : gR W (g + 266) 22 = (g + 276)), (rf_is (Mod_28 sW.2.1 : rf W (g + 266) 22 (g + 276)) : isR W (g + 266) 22), (Mod_29 sW.2.1 : arI W (g + 276) 0), (rdI_0 (Mod_29 sW.2.1 : arI W (g + 276) 0) : rdI W (g + 276)), (Mod_30 sW.2.1 : aln W (g + 276) = 48), (rf_g (Mod_52 sW.2.1 : rf W (g + 266) 35 (g + 284)) : gR W (g + 266) 35 = (g + 284)), (rf_is (Mod_52 sW.2.1 : rf W (g + 266) 35 (g + 284)) : isR W (g + 266) 35), (Mod_53 sW.2.1 : arI W (g + 284) 0), (rdI_0 (Mod_53 sW.2.1 : arI W (g + 284) 0) : rdI W (g + 284)), (Mod_54 sW.2.1 : aln W (g + 284) = 8), m8, nI_add, hv2, hc2, hv3, hc3, cj, fr2, ub, en, nI_1, vkk_n, vkk_i, vkk_r, vkk_l, vkk_d, catS_nil, catS_i, catS_r, catS_l, catS_d, Nat.reduceAdd, Nat.reduceLeDiff, Nat.zero_le, Nat.le_refl, Option.bind_some, Option.toList_some, Option.toList_none, List.cons_append, List.nil_append, or_true, true_or, if_true, if_false, Int32.reduceLT, Int32.reduceLE, not_true, not_false_iff, true_and, and_true, false_and, and_false]
      exact w1
    · rw [w5 i (by omega), c1 i, if_neg (by omega), v2.I (a := g + 284) (fun z => z)]
    · by_cases e : i = j
      · subst e
        rw [w5 i (by omega), cj]
      · exact w6 i (by omega) i2
