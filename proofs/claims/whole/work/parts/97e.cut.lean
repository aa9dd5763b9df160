/-! read: all tokens, by the model -/
theorem l_mB (g L t : Nat) (b : Nat → Nat) (h : VG) (hs : Sh h g) (tx : TXm h g b L) (ht : t ≤ 400) (e10 : gI h (g + 266) 10 = nI t) (l3 l4 l5 l6 l7 : Option Value) : ∀ d at_ (l2 : Option Value), at_ + d = L → ∃ x2 : Option Value, ev 146 7 [some (.ref (g + 266)), some (.int (nI at_)), l2, l3, l4, l5, l6, l7] [] h = ev 146 7 [some (.ref (g + 266)), some (.int (nI (spn isBl b d at_))), x2, l3, l4, l5, l6, l7] [] h := by
  have hL := tx.1
  have om : ob h (g + 266) 11 := Mod_0 hs.2.1
  have q4 : nI t ≤ 400 := nI_le (b := 400) ht (by decide)
  have e4 := tx.2.1
  intro d
  induction d with
  | zero =>
    intro at_ l2 hd
    exact ⟨l2, rfl⟩
  | succ d ih =>
    intro at_ l2 hd
    have e : spn isBl b (d + 1) at_ = if isBl (b at_) then spn isBl b d (at_ + 1) else at_ := rfl
    rw [e]
    cases z : isBl (b at_) with
    | false =>
      simp only [Bool.false_eq_true, if_false]
      exact ⟨l2, rfl⟩
    | true =>
      simp only [if_true]
      have ta := c_textAt h g L at_ b hs tx (by omega)
      have bz : bx b L at_ = b at_ := if_pos (by omega)
      rw [bz] at ta
      have q : nI at_ < nI L := nI_lt (by omega) (by omega)
      have bb := (nI_bl ⟨b at_, (tx.2.2 at_ (by omega)).1⟩).mpr z
      obtain ⟨x2, y⟩ := ih (at_ + 1) (some (.int (nI (b at_)))) (by omega)
      refine ⟨x2, ?_⟩
      rw [← y]
      generalize hZ : ev 146 7 [some (.ref (g + 266)), some (.int (nI (at_ + 1))), some (.int (nI (b at_))), l3, l4, l5, l6, l7] [] h = Z
      simp +decide only [e146_7, e146_8, e146_11, e146_14, e146_17, e146_18, e146_19, e146_22, e146_23, e146_24, e146_25, e146_28, om, e10, q4, ta, e4, q, vkk_n, vkk_i, vkk_r, vkk_l, vkk_d, catS_nil, catS_i, catS_r, catS_l, catS_d, Nat.reduceAdd, Nat.reduceLeDiff, Nat.zero_le, Nat.le_refl, Option.bind_some, Option.toList_some, Option.toList_none, List.cons_append, List.nil_append, or_true, true_or, if_true, if_false, Int32.reduceLT, Int32.reduceLE, not_true, not_false_iff, true_and, and_true, false_and, and_false]
      by_cases q9 : nI (b at_) = 9
      · simp +decide only [e146_43, e146_44, e146_46, e146_49, e146_50, e146_52, e146_55, e146_56, e146_58, e146_61, e146_62, e146_64, e146_67, e146_70, e146_284, q9, nI_1, nI_add, vkk_n, vkk_i, vkk_r, vkk_l, vkk_d, catS_nil, catS_i, catS_r, catS_l, catS_d, Nat.reduceAdd, Nat.reduceLeDiff, Nat.zero_le, Nat.le_refl, Option.bind_some, Option.toList_some, Option.toList_none, List.cons_append, List.nil_append, or_true, true_or, if_true, if_false, Int32.reduceLT, Int32.reduceLE, not_true, not_false_iff, true_and, and_true, false_and, and_false]
        rw [q9] at hZ
        exact hZ
      · by_cases q10 : nI (b at_) = 10
        · simp +decide only [e146_43, e146_44, e146_46, e146_49, e146_50, e146_52, e146_55, e146_56, e146_58, e146_61, e146_62, e146_64, e146_67, e146_70, e146_284, q10, nI_1, nI_add, vkk_n, vkk_i, vkk_r, vkk_l, vkk_d, catS_nil, catS_i, catS_r, catS_l, catS_d, Nat.reduceAdd, Nat.reduceLeDiff, Nat.zero_le, Nat.le_refl, Option.bind_some, Option.toList_some, Option.toList_none, List.cons_append, List.nil_append, or_true, true_or, if_true, if_false, Int32.reduceLT, Int32.reduceLE, not_true, not_false_iff, true_and, and_true, false_and, and_false]
          rw [q10] at hZ
          exact hZ
        · by_cases q13 : nI (b at_) = 13
          · simp +decide only [e146_43, e146_44, e146_46, e146_49, e146_50, e146_52, e146_55, e146_56, e146_58, e146_61, e146_62, e146_64, e146_67, e146_70, e146_284, q13, nI_1, nI_add, vkk_n, vkk_i, vkk_r, vkk_l, vkk_d, catS_nil, catS_i, catS_r, catS_l, catS_d, Nat.reduceAdd, Nat.reduceLeDiff, Nat.zero_le, Nat.le_refl, Option.bind_some, Option.toList_some, Option.toList_none, List.cons_append, List.nil_append, or_true, true_or, if_true, if_false, Int32.reduceLT, Int32.reduceLE, not_true, not_false_iff, true_and, and_true, false_and, and_false]
            rw [q13] at hZ
            exact hZ
          · have q32 : nI (b at_) = 32 := ((bb.resolve_left q9).resolve_left q10).resolve_left q13
            simp +decide only [e146_43, e146_44, e146_46, e146_49, e146_50, e146_52, e146_55, e146_56, e146_58, e146_61, e146_62, e146_64, e146_67, e146_70, e146_284, q32, nI_1, nI_add, vkk_n, vkk_i, vkk_r, vkk_l, vkk_d, catS_nil, catS_i, catS_r, catS_l, catS_d, Nat.reduceAdd, Nat.reduceLeDiff, Nat.zero_le, Nat.le_refl, Option.bind_some, Option.toList_some, Option.toList_none, List.cons_append, List.nil_append, or_true, true_or, if_true, if_false, Int32.reduceLT, Int32.reduceLE, not_true, not_false_iff, true_and, and_true, false_and, and_false]
            rw [q32] at hZ
            exact hZ
theorem l_mT (g L t p : Nat) (b : Nat → Nat) (h : VG) (hs : Sh h g) (tx : TXm h g b L) (hk : ∀ j, j < 14 → aL h (g + 273) j = mKey j) (ht : t ≤ 400) (e10 : gI h (g + 266) 10 = nI t) (tm : TM h g b L t) (ep : p = tPl b L t) (hp : p < L) (l2 l3 l4 l5 l6 l7 : Option Value) : ∃ (h1 : VG) (x2 x3 x4 x5 x6 x7 : Option Value), ev 146 7 [some (.ref (g + 266)), some (.int (nI p)), l2, l3, l4, l5, l6, l7] [] h = ev 146 7 [some (.ref (g + 266)), some (.int (nI (tEnd b L p))), x2, x3, x4, x5, x6, x7] [] h1 ∧ Fr (fun a => g + 268 < a ∧ a < g + 273) (fun a k => a = g + 266 ∧ k = 10) h h1 ∧ gI h1 (g + 266) 10 = nI (t + 1) ∧ TM h1 g b L (t + 1) := by
  have hL := tx.1
  have om : ob h (g + 266) 11 := Mod_0 hs.2.1
  have q4 : nI t ≤ 400 := nI_le (b := 400) ht (by decide)
  have e4 := tx.2.1
  have ta := c_textAt h g L p b hs tx (by omega)
  have bz : bx b L p = b p := if_pos hp
  rw [bz] at ta
  have q : nI p < nI L := nI_lt (by omega) (by omega)
  have b256 := (tx.2.2 p hp).1
  have nb : isBl (b p) = false := by
    have := (spn_b isBl b (L - tAt b L t) (tAt b L t)).2.2.2
    have e : tPl b L t = spn isBl b (L - tAt b L t) (tAt b L t) := rfl
    rw [← e, ← ep] at this
    exact this (by have := tAt_le b L t; omega)
  have bb : ¬ (nI (b p) = 9 ∨ nI (b p) = 10 ∨ nI (b p) = 13 ∨ nI (b p) = 32) := fun z => by
    have := (nI_bl ⟨b p, b256⟩).mp z
    rw [nb] at this
    cases this
  have q9 : ¬ nI (b p) = 9 := fun z => bb (Or.inl z)
  have q10 : ¬ nI (b p) = 10 := fun z => bb (Or.inr (Or.inl z))
  have q13 : ¬ nI (b p) = 13 := fun z => bb (Or.inr (Or.inr (Or.inl z)))
  have q32 : ¬ nI (b p) = 32 := fun z => bb (Or.inr (Or.inr (Or.inr z)))
  have ent : ev 146 7 [some (.ref (g + 266)), some (.int (nI p)), l2, l3, l4, l5, l6, l7] [] h = ev 146 73 [some (.ref (g + 266)), some (.int (nI p)), some (.int (nI (b p))), l3, l4, l5, l6, l7] [] h := by
    simp +decide only [e146_7, e146_8, e146_11, e146_14, e146_17, e146_18, e146_19, e146_22, e146_23, e146_24, e146_25, e146_28, om, e10, q4, ta, e4, q, vkk_n, vkk_i, vkk_r, vkk_l, vkk_d, catS_nil, catS_i, catS_r, catS_l, catS_d, Nat.reduceAdd, Nat.reduceLeDiff, Nat.zero_le, Nat.le_refl, Option.bind_some, Option.toList_some, Option.toList_none, List.cons_append, List.nil_append, or_true, true_or, if_true, if_false, Int32.reduceLT, Int32.reduceLE, not_true, not_false_iff, true_and, and_true, false_and, and_false]
    simp +decide only [e146_43, e146_44, e146_46, e146_49, e146_50, e146_52, e146_55, e146_56, e146_58, e146_61, e146_62, e146_64, e146_67, e146_70, e146_284, q9, q10, q13, q32, vkk_n, vkk_i, vkk_r, vkk_l, vkk_d, catS_nil, catS_i, catS_r, catS_l, catS_d, Nat.reduceAdd, Nat.reduceLeDiff, Nat.zero_le, Nat.le_refl, Option.bind_some, Option.toList_some, Option.toList_none, List.cons_append, List.nil_append, or_true, true_or, if_true, if_false, Int32.reduceLT, Int32.reduceLE, not_true, not_false_iff, true_and, and_true, false_and, and_false]
  have nL : ¬ L ≤ p := by omega
  have kde : kd b L t = tKd b L p := by rw [ep]; rfl
  have le := c_m_le h b256
  have di := c_m_di h b256
  cases ql : isLe (b p) with
  | true =>
    rw [ql] at le
    have le : ev 142 0 [some (.int (nI (b p)))] [] h = some (some (.int 1), h) := le
    have lp := l_mL g L p b (nI (b p)) h hs tx l6 l7 (L - p) 0 (by omega) (fun i hi => absurd hi (Nat.not_lt_zero _))
    have lp : ev 146 85 [some (.ref (g + 266)), some (.int (nI p)), some (.int (nI (b p))), some (.int 0), some (.long 0), none, l6, l7] [] h = ev 146 124 [some (.ref (g + 266)), some (.int (nI p)), some (.int (nI (b p))), some (.int (nI (spn isLe b (L - p) p - p))), some (.long (vMm b p (spn isLe b (L - p) p - p))), none, l6, l7] [] h := lp
    obtain ⟨i1, i2, i3, -⟩ := spn_b isLe b (L - p) p
    have eE : tEnd b L p = spn isLe b (L - p) p := by
      unfold tEnd
      rw [if_neg nL, ql]
      rfl
    have eK : kd b L t = if 8 < spn isLe b (L - p) p - p then 3 else wKd (vl 32 (dgL b p) (spn isLe b (L - p) p - p)) := by
      rw [kde]
      unfold tKd
      rw [if_neg nL, ql]
      rfl
    have e7 : tN7 b L (tPl b L t) = vl 27 (dgL b p) (spn isLe b (L - p) p - p) := by
      rw [← ep]
      rfl
    have dg : ∀ i, i < spn isLe b (L - p) p - p → 1 ≤ dgL b p i ∧ dgL b p i ≤ 26 := fun i hi => dgL_ok (d := L - p) (by omega)
    rw [eE]
    generalize spn isLe b (L - p) p = E at *
    have pe : nI p + nI (E - p) = nI E := by
      rw [nI_add]
      congr 1
      omega
    have ent2 : ev 146 7 [some (.ref (g + 266)), some (.int (nI p)), l2, l3, l4, l5, l6, l7] [] h = ev 146 124 [some (.ref (g + 266)), some (.int (nI p)), some (.int (nI (b p))), some (.int (nI (E - p))), some (.long (vMm b p (E - p))), none, l6, l7] [] h := by
      rw [ent, ← lp]
      simp +decide only [e146_73, e146_74, e146_77, e146_80, e146_81, e146_82, e146_83, le, vkk_n, vkk_i, vkk_r, vkk_l, vkk_d, catS_nil, catS_i, catS_r, catS_l, catS_d, Nat.reduceAdd, Nat.reduceLeDiff, Nat.zero_le, Nat.le_refl, Option.bind_some, Option.toList_some, Option.toList_none, List.cons_append, List.nil_append, or_true, true_or, if_true, if_false, Int32.reduceLT, Int32.reduceLE, not_true, not_false_iff, true_and, and_true, false_and, and_false]
    rw [ent2]
    by_cases q8 : 8 < E - p
    · rw [if_pos q8] at eK
      have q8' : ¬ nI (E - p) ≤ 8 := fun z => by
        have := (nI_leI (b := 8) (by omega) (by decide)).mp z
        omega
      obtain ⟨h1, u1, u2, u3, u4⟩ := tok_tm (k := 3) (p := nI p) (v := 0) (n := vMm b p (E - p)) hs (by omega) e10 tm (by rw [eK]; rfl) (by rw [ep]) (fun z => by rw [eK] at z; cases z) (fun z => by rw [eK] at z; cases z)
      refine ⟨h1, some (.int (nI (b p))), some (.int (nI (E - p))), some (.long (vMm b p (E - p))), none, some (.int 3), l7, ?_, u2, u3, u4⟩
      simp +decide only [e146_124, e146_125, e146_127, e146_130, e146_131, e146_134, e146_135, e146_137, e146_138, e146_140, e146_143, e146_144, e146_179, e146_180, e146_182, e146_183, e146_184, e146_186, e146_189, e146_190, e146_191, e146_192, e146_193, e146_284, q8', om, u1, pe, vkk_n, vkk_i, vkk_r, vkk_l, vkk_d, catS_nil, catS_i, catS_r, catS_l, catS_d, Nat.reduceAdd, Nat.reduceLeDiff, Nat.zero_le, Nat.le_refl, Option.bind_some, Option.toList_some, Option.toList_none, List.cons_append, List.nil_append, or_true, true_or, if_true, if_false, Int32.reduceLT, Int32.reduceLE, not_true, not_false_iff, true_and, and_true, false_and, and_false]
    · rw [if_neg q8] at eK
      have q8' : nI (E - p) ≤ 8 := nI_le (b := 8) (by omega) (by decide)
      have lt := vl_lt (B := 27) (by decide) (E - p) (dgL b p) dg
      have pw : 27 ^ (E - p) ≤ 27 ^ 8 := Nat.pow_le_pow_right (by decide) (by omega)
      have eV : vMm b p (E - p) = Int64.ofNat (vl 27 (dgL b p) (E - p)) := by
        unfold vMm
        have : (if E - p < 8 then E - p else 8) = E - p := by split <;> omega
        rw [this]
      have wb := word_both dg
      rw [eV]
      have lk := l_mK g p b (nI (b p)) (nI (E - p)) (vl 27 (dgL b p) (E - p)) (by omega) h hs hk 14 0 1 rfl (by decide)
      have lk : ev 146 146 [some (.ref (g + 266)), some (.int (nI p)), some (.int (nI (b p))), some (.int (nI (E - p))), some (.long (Int64.ofNat (vl 27 (dgL b p) (E - p)))), none, some (.int 1), some (.int 0)] [] h = _ := lk
      rw [wb, ← eK] at lk
      have ko := kd_or b L t
      obtain ⟨h1, u1, u2, u3, u4⟩ := tok_tm (k := nI (kd b L t)) (p := nI p) (v := 0) (n := Int64.ofNat (vl 27 (dgL b p) (E - p))) hs (by omega) e10 tm rfl (by rw [ep]) (fun z => by
        rw [eK] at z
        rcases wKd_or (vl 32 (dgL b p) (E - p)) with y | y <;> omega) (fun z => by rw [e7])
      refine ⟨h1, some (.int (nI (b p))), some (.int (nI (E - p))), some (.long (Int64.ofNat (vl 27 (dgL b p) (E - p)))), none, some (.int (nI (kd b L t))), some (.int 14), ?_, u2, u3, u4⟩
      simp +decide only [e146_124, e146_125, e146_127, e146_130, e146_131, e146_134, e146_135, e146_137, e146_138, e146_140, e146_143, e146_144, e146_179, e146_180, e146_182, e146_183, e146_184, e146_186, e146_189, e146_190, e146_191, e146_192, e146_193, e146_284, q8', vkk_n, vkk_i, vkk_r, vkk_l, vkk_d, catS_nil, catS_i, catS_r, catS_l, catS_d, Nat.reduceAdd, Nat.reduceLeDiff, Nat.zero_le, Nat.le_refl, Option.bind_some, Option.toList_some, Option.toList_none, List.cons_append, List.nil_append, or_true, true_or, if_true, if_false, Int32.reduceLT, Int32.reduceLE, not_true, not_false_iff, true_and, and_true, false_and, and_false]
      rw [lk]
      simp +decide only [e146_179, e146_180, e146_182, e146_183, e146_184, e146_186, e146_189, e146_190, e146_191, e146_192, e146_193, e146_284, om, u1, pe, vkk_n, vkk_i, vkk_r, vkk_l, vkk_d, catS_nil, catS_i, catS_r, catS_l, catS_d, Nat.reduceAdd, Nat.reduceLeDiff, Nat.zero_le, Nat.le_refl, Option.bind_some, Option.toList_some, Option.toList_none, List.cons_append, List.nil_append, or_true, true_or, if_true, if_false, Int32.reduceLT, Int32.reduceLE, not_true, not_false_iff, true_and, and_true, false_and, and_false]
  | false =>
    rw [ql] at le
    have le : ev 142 0 [some (.int (nI (b p)))] [] h = some (some (.int 0), h) := le
    cases qd : isDi (b p) with
    | true =>
      rw [qd] at di
      have di : ev 141 0 [some (.int (nI (b p)))] [] h = some (some (.int 1), h) := di
      have lp := l_mD g L p b (nI (b p)) h hs tx l5 l6 l7 (L - p) 0 (by omega) (fun i hi => absurd hi (Nat.not_lt_zero _))
      obtain ⟨i1, i2, i3, -⟩ := spn_b isDi b (L - p) p
      have eE : tEnd b L p = spn isDi b (L - p) p := by
        unfold tEnd
        rw [if_neg nL, ql, qd]
        rfl
      have eK : kd b L t = if 4 < spn isDi b (L - p) p - p then 3 else 2 := by
        rw [kde]
        unfold tKd
        rw [if_neg nL, ql, qd]
        rfl
      have eI : tIv b L (tPl b L t) = vl 10 (dgD b p) (spn isDi b (L - p) p - p) := by
        rw [← ep]
        rfl
      have lp2 : ∀ x5 : Option Value, ev 146 208 [some (.ref (g + 266)), some (.int (nI p)), some (.int (nI (b p))), some (.int 0), some (.int 0), x5, l6, l7] [] h = ev 146 250 [some (.ref (g + 266)), some (.int (nI p)), some (.int (nI (b p))), some (.int (nI (spn isDi b (L - p) p - p))), some (.int (nI (vN b p (spn isDi b (L - p) p - p)))), x5, l6, l7] [] h := fun x5 => l_mD g L p b (nI (b p)) h hs tx x5 l6 l7 (L - p) 0 (by omega) (fun i hi => absurd hi (Nat.not_lt_zero _))
      rw [eE]
      generalize spn isDi b (L - p) p = E at *
      have pe : nI p + nI (E - p) = nI E := by
        rw [nI_add]
        congr 1
        omega
      rw [ent]
      by_cases q8 : 4 < E - p
      · rw [if_pos q8] at eK
        have q8' : ¬ nI (E - p) ≤ 4 := fun z => by
          have := (nI_leI (b := 4) (by omega) (by decide)).mp z
          omega
        obtain ⟨h1, u1, u2, u3, u4⟩ := tok_tm (k := 3) (p := nI p) (v := nI (vN b p (E - p))) (n := 0) hs (by omega) e10 tm (by rw [eK]; rfl) (by rw [ep]) (fun z => by rw [eK] at z; cases z) (fun z => by rw [eK] at z; cases z)
        refine ⟨h1, some (.int (nI (b p))), some (.int (nI (E - p))), some (.int (nI (vN b p (E - p)))), l5, l6, l7, ?_, u2, u3, u4⟩
        simp +decide only [e146_73, e146_74, e146_77, e146_80, e146_81, e146_82, e146_83, le, di, vkk_n, vkk_i, vkk_r, vkk_l, vkk_d, catS_nil, catS_i, catS_r, catS_l, catS_d, Nat.reduceAdd, Nat.reduceLeDiff, Nat.zero_le, Nat.le_refl, Option.bind_some, Option.toList_some, Option.toList_none, List.cons_append, List.nil_append, or_true, true_or, if_true, if_false, Int32.reduceLT, Int32.reduceLE, not_true, not_false_iff, true_and, and_true, false_and, and_false]
        simp +decide only [e146_196, e146_197, e146_200, e146_203, e146_204, e146_205, e146_206, le, di, lp2, vkk_n, vkk_i, vkk_r, vkk_l, vkk_d, catS_nil, catS_i, catS_r, catS_l, catS_d, Nat.reduceAdd, Nat.reduceLeDiff, Nat.zero_le, Nat.le_refl, Option.bind_some, Option.toList_some, Option.toList_none, List.cons_append, List.nil_append, or_true, true_or, if_true, if_false, Int32.reduceLT, Int32.reduceLE, not_true, not_false_iff, true_and, and_true, false_and, and_false]
        simp +decide only [e146_250, e146_251, e146_252, e146_253, e146_256, e146_257, e146_260, e146_261, e146_262, e146_264, e146_265, e146_268, e146_269, e146_270, e146_271, e146_272, e146_284, q8', om, u1, pe, vkk_n, vkk_i, vkk_r, vkk_l, vkk_d, catS_nil, catS_i, catS_r, catS_l, catS_d, Nat.reduceAdd, Nat.reduceLeDiff, Nat.zero_le, Nat.le_refl, Option.bind_some, Option.toList_some, Option.toList_none, List.cons_append, List.nil_append, or_true, true_or, if_true, if_false, Int32.reduceLT, Int32.reduceLE, not_true, not_false_iff, true_and, and_true, false_and, and_false]
      · rw [if_neg q8] at eK
        have q8' : nI (E - p) ≤ 4 := nI_le (b := 4) (by omega) (by decide)
        have eV : vN b p (E - p) = vl 10 (dgD b p) (E - p) := by
          unfold vN
          have : (if E - p < 4 then E - p else 4) = E - p := by split <;> omega
          rw [this]
        obtain ⟨h1, u1, u2, u3, u4⟩ := tok_tm (k := 2) (p := nI p) (v := nI (vN b p (E - p))) (n := 0) hs (by omega) e10 tm (by rw [eK]; rfl) (by rw [ep]) (fun z => by rw [eI, eV]) (fun z => by rw [eK] at z; cases z)
        refine ⟨h1, some (.int (nI (b p))), some (.int (nI (E - p))), some (.int (nI (vN b p (E - p)))), l5, l6, l7, ?_, u2, u3, u4⟩
        simp +decide only [e146_73, e146_74, e146_77, e146_80, e146_81, e146_82, e146_83, le, di, vkk_n, vkk_i, vkk_r, vkk_l, vkk_d, catS_nil, catS_i, catS_r, catS_l, catS_d, Nat.reduceAdd, Nat.reduceLeDiff, Nat.zero_le, Nat.le_refl, Option.bind_some, Option.toList_some, Option.toList_none, List.cons_append, List.nil_append, or_true, true_or, if_true, if_false, Int32.reduceLT, Int32.reduceLE, not_true, not_false_iff, true_and, and_true, false_and, and_false]
        simp +decide only [e146_196, e146_197, e146_200, e146_203, e146_204, e146_205, e146_206, le, di, lp2, vkk_n, vkk_i, vkk_r, vkk_l, vkk_d, catS_nil, catS_i, catS_r, catS_l, catS_d, Nat.reduceAdd, Nat.reduceLeDiff, Nat.zero_le, Nat.le_refl, Option.bind_some, Option.toList_some, Option.toList_none, List.cons_append, List.nil_append, or_true, true_or, if_true, if_false, Int32.reduceLT, Int32.reduceLE, not_true, not_false_iff, true_and, and_true, false_and, and_false]
        simp +decide only [e146_250, e146_251, e146_252, e146_253, e146_256, e146_257, e146_260, e146_261, e146_262, e146_264, e146_265, e146_268, e146_269, e146_270, e146_271, e146_272, e146_284, q8', om, u1, pe, vkk_n, vkk_i, vkk_r, vkk_l, vkk_d, catS_nil, catS_i, catS_r, catS_l, catS_d, Nat.reduceAdd, Nat.reduceLeDiff, Nat.zero_le, Nat.le_refl, Option.bind_some, Option.toList_some, Option.toList_none, List.cons_append, List.nil_append, or_true, true_or, if_true, if_false, Int32.reduceLT, Int32.reduceLE, not_true, not_false_iff, true_and, and_true, false_and, and_false]
    | false =>
      rw [qd] at di
      have di : ev 141 0 [some (.int (nI (b p)))] [] h = some (some (.int 0), h) := di
      have eE : tEnd b L p = p + 1 := by
        unfold tEnd
        rw [if_neg nL, ql, qd]
        rfl
      have eK : kd b L t = if b p = 59 then 4 else 3 := by
        rw [kde]
        unfold tKd
        rw [if_neg nL, ql, qd]
        rfl
      have s59 : nI (b p) = 59 ↔ b p = 59 := nI_eq (b := 59) (by omega) (by decide)
      rw [eE, ent]
      have sg : ∃ h1, ev 147 0 [some (.ref (g + 266)), some (.int (nI p)), some (.int (nI (b p)))] [] h = some (some (.int 1), h1) ∧ Fr (fun a => g + 268 < a ∧ a < g + 273) (fun a k => a = g + 266 ∧ k = 10) h h1 ∧ gI h1 (g + 266) 10 = nI (t + 1) ∧ TM h1 g b L (t + 1) := by
        by_cases y : b p = 59
        · have y' := s59.mpr y
          rw [if_pos y] at eK
          obtain ⟨h1, u1, u2, u3, u4⟩ := tok_tm (k := 4) (p := nI p) (v := 0) (n := 0) hs (by omega) e10 tm (by rw [eK]; rfl) (by rw [ep]) (fun z => by rw [eK] at z; cases z) (fun z => by rw [eK] at z; cases z)
          refine ⟨h1, ?_, u2, u3, u4⟩
          rw [y']
          simp +decide only [e147_0, e147_1, e147_2, e147_4, e147_7, e147_8, e147_11, e147_12, e147_13, e147_14, e147_15, e147_18, e147_19, om, u1, vkk_n, vkk_i, vkk_r, vkk_l, vkk_d, catS_nil, catS_i, catS_r, catS_l, catS_d, Nat.reduceAdd, Nat.reduceLeDiff, Nat.zero_le, Nat.le_refl, Option.bind_some, Option.toList_some, Option.toList_none, List.cons_append, List.nil_append, or_true, true_or, if_true, if_false, Int32.reduceLT, Int32.reduceLE, not_true, not_false_iff, true_and, and_true, false_and, and_false]
        · have y' : ¬ nI (b p) = 59 := fun z => y (s59.mp z)
          rw [if_neg y] at eK
          obtain ⟨h1, u1, u2, u3, u4⟩ := tok_tm (k := 3) (p := nI p) (v := 0) (n := 0) hs (by omega) e10 tm (by rw [eK]; rfl) (by rw [ep]) (fun z => by rw [eK] at z; cases z) (fun z => by rw [eK] at z; cases z)
          refine ⟨h1, ?_, u2, u3, u4⟩
          simp +decide only [e147_0, e147_1, e147_2, e147_4, e147_7, e147_8, e147_11, e147_12, e147_13, e147_14, e147_15, e147_18, e147_19, om, y', u1, vkk_n, vkk_i, vkk_r, vkk_l, vkk_d, catS_nil, catS_i, catS_r, catS_l, catS_d, Nat.reduceAdd, Nat.reduceLeDiff, Nat.zero_le, Nat.le_refl, Option.bind_some, Option.toList_some, Option.toList_none, List.cons_append, List.nil_append, or_true, true_or, if_true, if_false, Int32.reduceLT, Int32.reduceLE, not_true, not_false_iff, true_and, and_true, false_and, and_false]
      obtain ⟨h1, u1, u2, u3, u4⟩ := sg
      refine ⟨h1, some (.int (nI (b p))), l3, l4, l5, l6, l7, ?_, u2, u3, u4⟩
      simp +decide only [e146_73, e146_74, e146_77, e146_80, e146_81, e146_82, e146_83, le, di, vkk_n, vkk_i, vkk_r, vkk_l, vkk_d, catS_nil, catS_i, catS_r, catS_l, catS_d, Nat.reduceAdd, Nat.reduceLeDiff, Nat.zero_le, Nat.le_refl, Option.bind_some, Option.toList_some, Option.toList_none, List.cons_append, List.nil_append, or_true, true_or, if_true, if_false, Int32.reduceLT, Int32.reduceLE, not_true, not_false_iff, true_and, and_true, false_and, and_false]
      simp +decide only [e146_196, e146_197, e146_200, e146_203, e146_204, e146_205, e146_206, le, di, vkk_n, vkk_i, vkk_r, vkk_l, vkk_d, catS_nil, catS_i, catS_r, catS_l, catS_d, Nat.reduceAdd, Nat.reduceLeDiff, Nat.zero_le, Nat.le_refl, Option.bind_some, Option.toList_some, Option.toList_none, List.cons_append, List.nil_append, or_true, true_or, if_true, if_false, Int32.reduceLT, Int32.reduceLE, not_true, not_false_iff, true_and, and_true, false_and, and_false]
      simp +decide only [e146_275, e146_276, e146_277, e146_278, e146_279, e146_282, e146_283, e146_284, om, u1, nI_1, nI_add, vkk_n, vkk_i, vkk_r, vkk_l, vkk_d, catS_nil, catS_i, catS_r, catS_l, catS_d, Nat.reduceAdd, Nat.reduceLeDiff, Nat.zero_le, Nat.le_refl, Option.bind_some, Option.toList_some, Option.toList_none, List.cons_append, List.nil_append, or_true, true_or, if_true, if_false, Int32.reduceLT, Int32.reduceLE, not_true, not_false_iff, true_and, and_true, false_and, and_false]
theorem l_cut (g L : Nat) (b : Nat → Nat) : ∀ d t h (l2 l3 l4 l5 l6 l7 : Option Value), t + d = 401 → Sh h g → TXm h g b L → (∀ j, j < 14 → aL h (g + 273) j = mKey j) → gI h (g + 266) 10 = nI t → TM h g b L t → ∃ (h1 : VG) (c : Nat), ev 146 7 [some (.ref (g + 266)), some (.int (nI (tAt b L t))), l2, l3, l4, l5, l6, l7] [] h = some (none, h1) ∧ Fr (fun a => g + 268 < a ∧ a < g + 273) (fun a k => a = g + 266 ∧ k = 10) h h1 ∧ gI h1 (g + 266) 10 = nI c ∧ TM h1 g b L c ∧ t ≤ c ∧ c ≤ 401 ∧ (c = 401 ∨ (1 ≤ c ∧ kd b L (c - 1) = 0)) ∧ ∀ x, t ≤ x → x + 1 < c → ¬ kd b L x = 0 := by
  intro d
  induction d with
  | zero =>
    intro t h l2 l3 l4 l5 l6 l7 hd hs tx hk e10 tm
    obtain rfl : t = 401 := by omega
    have om : ob h (g + 266) 11 := Mod_0 hs.2.1
    have q4 : ¬ nI 401 ≤ 400 := by decide
    refine ⟨h, 401, ?_, Fr.rfl _, e10, tm, Nat.le_refl _, Nat.le_refl _, Or.inl rfl, fun x h1 h2 => by omega⟩
    simp +decide only [e146_7, e146_8, e146_11, e146_14, e146_287, om, e10, q4, vkk_n, vkk_i, vkk_r, vkk_l, vkk_d, catS_nil, catS_i, catS_r, catS_l, catS_d, Nat.reduceAdd, Nat.reduceLeDiff, Nat.zero_le, Nat.le_refl, Option.bind_some, Option.toList_some, Option.toList_none, List.cons_append, List.nil_append, or_true, true_or, if_true, if_false, Int32.reduceLT, Int32.reduceLE, not_true, not_false_iff, true_and, and_true, false_and, and_false]
  | succ d ih =>
    intro t h l2 l3 l4 l5 l6 l7 hd hs tx hk e10 tm
    have hL := tx.1
    have om : ob h (g + 266) 11 := Mod_0 hs.2.1
    have tl := tAt_le b L t
    obtain ⟨x2, bl⟩ := l_mB g L t b h hs tx (by omega) e10 l3 l4 l5 l6 l7 (L - tAt b L t) (tAt b L t) l2 (by omega)
    have bl : ev 146 7 [some (.ref (g + 266)), some (.int (nI (tAt b L t))), l2, l3, l4, l5, l6, l7] [] h = ev 146 7 [some (.ref (g + 266)), some (.int (nI (tPl b L t))), x2, l3, l4, l5, l6, l7] [] h := bl
    rw [bl]
    have pl := tPl_le b L t
    by_cases z : tPl b L t < L
    · obtain ⟨h1, y2, y3, y4, y5, y6, y7, u1, u2, u3, u4⟩ := l_mT g L t (tPl b L t) b h hs tx hk (by omega) e10 tm rfl z x2 l3 l4 l5 l6 l7
      have u1 : ev 146 7 [some (.ref (g + 266)), some (.int (nI (tPl b L t))), x2, l3, l4, l5, l6, l7] [] h = ev 146 7 [some (.ref (g + 266)), some (.int (nI (tAt b L (t + 1)))), y2, y3, y4, y5, y6, y7] [] h1 := u1
      have s1 : Sh h1 g := Sh_fr u2 (fun a z => by omega) hs
      obtain ⟨h2, c, v1, v2, v3, v4, v5, v6, v7, v8⟩ := ih (t + 1) h1 y2 y3 y4 y5 y6 y7 (by omega) s1 (TXm_fr u2 (fun z => by omega) (fun z => by omega) tx) (fun j hj => (u2.L (a := g + 273) (fun z => by omega) j).trans (hk j hj)) u3 u4
      refine ⟨h2, c, u1.trans v1, u2.tr v2, v3, v4, by omega, v6, v7, fun x h1 h2 => ?_⟩
      by_cases e : x = t
      · rw [e]
        unfold kd tKd
        rw [if_neg (by omega)]
        cases ql : isLe (b (tPl b L t)) with
        | true =>
          simp only [if_true]
          split
          · decide
          · rcases wKd_or (vl 32 (dgL b (tPl b L t)) (spn isLe b (L - tPl b L t) (tPl b L t) - tPl b L t)) with y | y <;> omega
        | false =>
          simp only [Bool.false_eq_true, if_false]
          (repeat' split) <;> decide
      · exact v8 x (by omega) h2
    · have ez : tPl b L t = L := by omega
      have e4 := tx.2.1
      have q4 : nI t ≤ 400 := nI_le (b := 400) (by omega) (by decide)
      have ta := c_textAt h g L L b hs tx (Nat.le_refl _)
      have q : ¬ nI L < nI L := nI_nlt (Nat.le_refl _) (by omega)
      have k0 : kd b L t = 0 := if_pos (by omega)
      obtain ⟨h1, u1, u2, u3, u4⟩ := tok_tm (k := 0) (p := nI L) (v := 0) (n := 0) hs (by omega) e10 tm (by rw [k0]; rfl) (by rw [ez]) (fun z => by rw [k0] at z; cases z) (fun z => by rw [k0] at z; cases z)
      refine ⟨h1, t + 1, ?_, u2, u3, u4, by omega, by omega, Or.inr ⟨by omega, k0⟩, fun x h1 h2 => by omega⟩
      rw [ez]
      simp +decide only [e146_7, e146_8, e146_11, e146_14, e146_17, e146_18, e146_19, e146_22, e146_23, e146_24, e146_25, e146_28, e146_31, e146_32, e146_33, e146_34, e146_37, e146_38, e146_39, e146_42, om, e10, q4, ta, e4, q, u1, vkk_n, vkk_i, vkk_r, vkk_l, vkk_d, catS_nil, catS_i, catS_r, catS_l, catS_d, Nat.reduceAdd, Nat.reduceLeDiff, Nat.zero_le, Nat.le_refl, Option.bind_some, Option.toList_some, Option.toList_none, List.cons_append, List.nil_append, or_true, true_or, if_true, if_false, Int32.reduceLT, Int32.reduceLE, not_true, not_false_iff, true_and, and_true, false_and, and_false]
theorem c_cut (h : VG) (g L : Nat) (b : Nat → Nat) (hs : Sh h g) (tx : TXm h g b L) (hk : ∀ j, j < 14 → aL h (g + 273) j = mKey j) : ∃ (h1 : VG) (c : Nat), ev 146 0 [some (.ref (g + 266)), none, none, none, none, none, none, none] [] h = some (none, h1) ∧ Fr (fun a => g + 268 < a ∧ a < g + 273) (fun a k => a = g + 266 ∧ k = 10) h h1 ∧ gI h1 (g + 266) 10 = nI c ∧ TM h1 g b L c ∧ c ≤ 401 ∧ (c = 401 ∨ (1 ≤ c ∧ kd b L (c - 1) = 0)) ∧ ∀ x, x + 1 < c → ¬ kd b L x = 0 := by
  have om : ob h (g + 266) 11 := Mod_0 hs.2.1
  have x0 : Fr (fun a => g + 268 < a ∧ a < g + 273) (fun a k => a = g + 266 ∧ k = 10) h (pI h (g + 266) 10 0) := Fr_pI _ _ _ _ ⟨rfl, rfl⟩
  have i10 : isI h (g + 266) 10 := isI_ob om rfl
  have e10 : gI (pI h (g + 266) 10 0) (g + 266) 10 = nI 0 := by
    simp +decide only [gI_pI, (eq_true i10), true_and, and_true, if_true]
  obtain ⟨h1, c, u1, u2, u3, u4, -, u5, u6, u7⟩ := l_cut g L b 401 0 (pI h (g + 266) 10 0) none none none none none none rfl (Sh_fr x0 (fun a z => by omega) hs) (TXm_fr x0 (fun z => by omega) (fun z => by omega) tx) (fun j hj => (x0.L (a := g + 273) (fun z => by omega) j).trans (hk j hj)) e10 (fun x hx => absurd hx (Nat.not_lt_zero _))
  have u1 : ev 146 7 [some (.ref (g + 266)), some (.int 0), none, none, none, none, none, none] [] (pI h (g + 266) 10 0) = _ := u1
  refine ⟨h1, c, ?_, x0.tr u2, u3, u4, u5, u6, fun x hx => u7 x (Nat.zero_le _) hx⟩
  simp +decide only [e146_0, e146_1, e146_2, e146_5, e146_6, om, vkk_n, vkk_i, vkk_r, vkk_l, vkk_d, catS_nil, catS_i, catS_r, catS_l, catS_d, Nat.reduceAdd, Nat.reduceLeDiff, Nat.zero_le, Nat.le_refl, Option.bind_some, Option.toList_some, Option.toList_none, List.cons_append, List.nil_append, or_true, true_or, if_true, if_false, Int32.reduceLT, Int32.reduceLE, not_true, not_false_iff, true_and, and_true, false_and, and_false]
  exact u1
