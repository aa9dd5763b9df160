/-! the law: its loop -/
set_option maxHeartbeats 4000000 in
theorem law_sw {h : VG} {g b i Ln : Nat} {xs : Nat → Int32} (X : Int32) (R : Inv h g) (hg : g + 308 ≤ h.2.1) (q : SC h b Ln xs) (hi : i + 7 ≤ Ln) (hL : Ln ≤ 3584) : ∃ h2, ev 234 33 [some (.ref b), some (.ref g), some (.ref (g + 266)), some (.int (nI i))] [.int X] h = ev 234 1401 [some (.ref b), some (.ref g), some (.ref (g + 266)), some (.int (nI i))] [] h2 ∧ Inv h2 g ∧ h2.2 = h.2 ∧ SC h2 b Ln xs := by
  rw [e234_33]
  by_cases z0 : X = (0 : Int32)
  · rw [if_pos z0]
    exact w_feed R hg q hi hL
  rw [if_neg z0]
  by_cases z1 : X = (1 : Int32)
  · rw [if_pos z1]
    exact w_back R hg q hi hL
  rw [if_neg z1]
  by_cases z2 : X = (2 : Int32)
  · rw [if_pos z2]
    exact w_read R hg q hi hL
  rw [if_neg z2]
  by_cases z3 : X = (3 : Int32)
  · rw [if_pos z3]
    exact w_place R hg q hi hL
  rw [if_neg z3]
  by_cases z4 : X = (4 : Int32)
  · rw [if_pos z4]
    exact w_why R hg q hi hL
  rw [if_neg z4]
  by_cases z5 : X = (5 : Int32)
  · rw [if_pos z5]
    exact w_layout R hg q hi hL
  rw [if_neg z5]
  by_cases z6 : X = (6 : Int32)
  · rw [if_pos z6]
    exact w_argument R hg q hi hL
  rw [if_neg z6]
  by_cases z7 : X = (7 : Int32)
  · rw [if_pos z7]
    exact w_byteAt R hg q hi hL
  rw [if_neg z7]
  by_cases z8 : X = (8 : Int32)
  · rw [if_pos z8]
    exact w_poke R hg q hi hL
  rw [if_neg z8]
  by_cases z9 : X = (9 : Int32)
  · rw [if_pos z9]
    exact w_bin R hg q hi hL
  rw [if_neg z9]
  by_cases z10 : X = (10 : Int32)
  · rw [if_pos z10]
    exact w_length R hg q hi hL
  rw [if_neg z10]
  by_cases z11 : X = (11 : Int32)
  · rw [if_pos z11]
    exact w_cell R hg q hi hL
  rw [if_neg z11]
  by_cases z12 : X = (12 : Int32)
  · rw [if_pos z12]
    exact w_write R hg q hi hL
  rw [if_neg z12]
  by_cases z13 : X = (13 : Int32)
  · rw [if_pos z13]
    exact w_box R hg q hi hL
  rw [if_neg z13]
  by_cases z14 : X = (14 : Int32)
  · rw [if_pos z14]
    exact w_put R hg q hi hL
  rw [if_neg z14]
  by_cases z15 : X = (15 : Int32)
  · rw [if_pos z15]
    exact w_copy R hg q hi hL
  rw [if_neg z15]
  by_cases z16 : X = (16 : Int32)
  · rw [if_pos z16]
    exact w_paste R hg q hi hL
  rw [if_neg z16]
  by_cases z17 : X = (17 : Int32)
  · rw [if_pos z17]
    exact w_unlike R hg q hi hL
  rw [if_neg z17]
  by_cases z18 : X = (18 : Int32)
  · rw [if_pos z18]
    exact w_load R hg q hi hL
  rw [if_neg z18]
  by_cases z19 : X = (19 : Int32)
  · rw [if_pos z19]
    exact w_store R hg q hi hL
  rw [if_neg z19]
  by_cases z20 : X = (20 : Int32)
  · rw [if_pos z20]
    exact w_turn R hg q hi hL
  rw [if_neg z20]
  by_cases z21 : X = (21 : Int32)
  · rw [if_pos z21]
    exact w_list R hg q hi hL
  rw [if_neg z21]
  by_cases z22 : X = (22 : Int32)
  · rw [if_pos z22]
    exact w_move R hg q hi hL
  rw [if_neg z22]
  by_cases z23 : X = (23 : Int32)
  · rw [if_pos z23]
    exact w_register R hg q hi hL
  rw [if_neg z23]
  by_cases z24 : X = (24 : Int32)
  · rw [if_pos z24]
    exact w_sets R hg q hi hL
  rw [if_neg z24]
  by_cases z25 : X = (25 : Int32)
  · rw [if_pos z25]
    exact w_frame R hg q hi hL
  rw [if_neg z25]
  by_cases z26 : X = (26 : Int32)
  · rw [if_pos z26]
    exact w_returns R hg q hi hL
  rw [if_neg z26]
  by_cases z27 : X = (27 : Int32)
  · rw [if_pos z27]
    exact w_hold R hg q hi hL
  rw [if_neg z27]
  by_cases z28 : X = (28 : Int32)
  · rw [if_pos z28]
    exact w_restore R hg q hi hL
  rw [if_neg z28]
  by_cases z29 : X = (29 : Int32)
  · rw [if_pos z29]
    exact w_count R hg q hi hL
  rw [if_neg z29]
  exact ⟨h, rfl, R, rfl, q⟩
set_option maxHeartbeats 4000000 in
theorem law_lt : ∀ a c : Fin 7, a.val ≤ c.val → ¬ nI a.val ≤ nI c.val - 7 := by decide +kernel
theorem l_law (g b Ln : Nat) (xs : Nat → Int32) (hL : Ln ≤ 3584) : ∀ d i h, Ln ≤ i + 7 * d → i ≤ Ln → Inv h g → g + 308 ≤ h.2.1 → SC h b Ln xs → ∃ h2, ev 234 18 [some (.ref b), some (.ref g), some (.ref (g + 266)), some (.int (nI i))] [] h = some (some (.int 1), h2) ∧ h2.2 = h.2 := by
  intro d
  induction d with
  | zero =>
    intro i h hd hi R hg q
    obtain rfl : i = Ln := by omega
    obtain ⟨rd, ln⟩ := SC_rd q
    have hx : ∃ t n f, h.1 b = .inl (t, n, f) ∧ (t < 8 ∨ t = 20 ∨ t = 21) := ⟨20, _, _, q.2, by omega⟩
    have cn : ¬ nI i ≤ nI i - 7 := by
      by_cases y : i < 7
      · exact law_lt ⟨i, y⟩ ⟨i, y⟩ (Nat.le_refl _)
      · rw [show (7 : Int32) = nI 7 from rfl, pk_sub (by omega)]
        intro z
        have := (nI_leI (by omega) (by omega)).mp z
        omega
    have e : (Int32.ofNat i) = nI i := rfl
    refine ⟨h, ?_, rfl⟩
    simp +decide only [e234_18, e234_19, e234_20, e234_21, e234_23, e234_24, e234_27, e234_28, e234_29, e234_30, e234_32, e234_1407, e234_1408, hx, ln, e, cn, vkk_n, vkk_i, vkk_r, vkk_l, vkk_d, catS_nil, catS_i, catS_r, catS_l, catS_d, Nat.reduceAdd, Nat.reduceLeDiff, Nat.zero_le, Nat.le_refl, Option.bind_some, Option.toList_some, Option.toList_none, List.cons_append, List.nil_append, or_true, true_or, if_true, if_false, Int32.reduceLT, Int32.reduceLE, not_true, not_false_iff, true_and, and_true, false_and, and_false]
  | succ d ih =>
    intro i h hd hi R hg q
    obtain ⟨rd, ln⟩ := SC_rd q
    have hx : ∃ t n f, h.1 b = .inl (t, n, f) ∧ (t < 8 ∨ t = 20 ∨ t = 21) := ⟨20, _, _, q.2, by omega⟩
    have e : (Int32.ofNat Ln) = nI Ln := rfl
    by_cases y : i + 7 ≤ Ln
    · have cn : nI i ≤ nI Ln - 7 := by
        rw [show (7 : Int32) = nI 7 from rfl, pk_sub (by omega)]
        exact nI_le (by omega) (by omega)
      have v1 : vp_in (nI i) Ln := vp_in_nI (by omega) (by omega)
      have v2 : (nI i).toNatClampNeg = i := nI_clamp (by omega)
      have ent : ev 234 18 [some (.ref b), some (.ref g), some (.ref (g + 266)), some (.int (nI i))] [] h = ev 234 33 [some (.ref b), some (.ref g), some (.ref (g + 266)), some (.int (nI i))] [.int (xs i &&& 31)] h := by
        simp +decide only [e234_18, e234_19, e234_20, e234_21, e234_23, e234_24, e234_27, e234_28, e234_29, e234_30, e234_32, e234_1407, e234_1408, hx, ln, e, cn, rd, v1, v2, SC_a q i, vkk_n, vkk_i, vkk_r, vkk_l, vkk_d, catS_nil, catS_i, catS_r, catS_l, catS_d, Nat.reduceAdd, Nat.reduceLeDiff, Nat.zero_le, Nat.le_refl, Option.bind_some, Option.toList_some, Option.toList_none, List.cons_append, List.nil_append, or_true, true_or, if_true, if_false, Int32.reduceLT, Int32.reduceLE, not_true, not_false_iff, true_and, and_true, false_and, and_false]
      obtain ⟨h1, a1, R1, t1, q1⟩ := law_sw (xs i &&& 31) R hg q y hL
      obtain ⟨h2, b1, b2⟩ := ih (i + 7) h1 (by omega) y R1 (by rw [t1]; exact hg) q1
      have f7 : nI i + 7 = nI (i + 7) := by rw [show (7 : Int32) = nI 7 from rfl, nI_add]
      refine ⟨h2, ?_, b2.trans t1⟩
      rw [ent, a1, ← b1]
      generalize hZ : ev 234 18 [some (.ref b), some (.ref g), some (.ref (g + 266)), some (.int (nI (i + 7)))] [] h1 = Z
      simp +decide only [e234_1401, e234_1404, f7, vkk_n, vkk_i, vkk_r, vkk_l, vkk_d, catS_nil, catS_i, catS_r, catS_l, catS_d, Nat.reduceAdd, Nat.reduceLeDiff, Nat.zero_le, Nat.le_refl, Option.bind_some, Option.toList_some, Option.toList_none, List.cons_append, List.nil_append, or_true, true_or, if_true, if_false, Int32.reduceLT, Int32.reduceLE, not_true, not_false_iff, true_and, and_true, false_and, and_false]
      exact hZ
    · have cn : ¬ nI i ≤ nI Ln - 7 := by
        by_cases w7 : Ln < 7
        · exact law_lt ⟨i, by omega⟩ ⟨Ln, w7⟩ hi
        · rw [show (7 : Int32) = nI 7 from rfl, pk_sub (by omega)]
          intro z
          have := (nI_leI (by omega) (by omega)).mp z
          omega
      refine ⟨h, ?_, rfl⟩
      simp +decide only [e234_18, e234_19, e234_20, e234_21, e234_23, e234_24, e234_27, e234_28, e234_29, e234_30, e234_32, e234_1407, e234_1408, hx, ln, e, cn, vkk_n, vkk_i, vkk_r, vkk_l, vkk_d, catS_nil, catS_i, catS_r, catS_l, catS_d, Nat.reduceAdd, Nat.reduceLeDiff, Nat.zero_le, Nat.le_refl, Option.bind_some, Option.toList_some, Option.toList_none, List.cons_append, List.nil_append, or_true, true_or, if_true, if_false, Int32.reduceLT, Int32.reduceLE, not_true, not_false_iff, true_and, and_true, false_and, and_false]
