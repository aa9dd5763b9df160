set_option maxHeartbeats 4000000 in
/-! objects made: the words' text -/
/-- the text's String, its bytes -/
def STR (h : VG) (q wb : Nat) : Prop := h.2.2.2 4 = .ref q ∧ h.2.2.2 5 = .ref wb ∧ (∃ f, h.1 wb = .inl (21, 71, .inl f) ∧ ∀ j, j < 71 → f j = Int32.ofNat ((vTxt.toList.getD j ' ').toNat)) ∧ h.2.2.2 2 = .int 1 ∧ (h.2.2.2 3).category = 1
def wch (j : Nat) : Int32 := Int32.ofNat ((vTxt.toList.getD j ' ').toNat)
theorem wch_c : ∀ j : Fin 71, ((wch j.val &&& 255).toUInt32 % 65536).toInt32 = wch j.val ∧ narrow .char (.int (wch j.val)) = .int (wch j.val) := by decide +kernel
theorem G_str {m pc : Nat} {L : VL} {st : List Value} {h : VG} {idx k p q : Nat} (hf : fetch m pc = some (.getfield idx, 3)) (hl : vFld (mcl m) idx = some (12, k, p)) (s1 : h.2.2.2 4 = .ref q) : ev m pc L (.ref q :: st) h = ev m (pc + 3) L ((if k = 0 then h.2.2.2 5 else .int 0) :: st) h := by
  refine ev_stp hf rfl rfl ?_
  by_cases z : k = 0
  · simp only [stp, hl, vgetf, if_true, s1, z]
  · simp only [stp, hl, vgetf, if_true, s1, z, if_false]
theorem f240_1 : ∃ idx p, fetch 240 1 = some (.getfield idx, 3) ∧ vFld (mcl 240) idx = some (12, 0, p) := ⟨9, 1592, by decide +kernel, by decide +kernel⟩
theorem f241_8 : ∃ idx p, fetch 241 8 = some (.getfield idx, 3) ∧ vFld (mcl 241) idx = some (12, 0, p) := ⟨9, 1592, by decide +kernel, by decide +kernel⟩
theorem f242_7 : ∃ idx p, fetch 242 7 = some (.getfield idx, 3) ∧ vFld (mcl 242) idx = some (12, 1, p) := ⟨15, 1593, by decide +kernel, by decide +kernel⟩
theorem f243_7 : ∃ idx p, fetch 243 7 = some (.getfield idx, 3) ∧ vFld (mcl 243) idx = some (12, 1, p) := ⟨15, 1593, by decide +kernel, by decide +kernel⟩
theorem str_v {h : VG} {q : Nat} (s1 : h.2.2.2 4 = .ref q) : (∀ L st, ev 240 1 L (.ref q :: st) h = ev 240 4 L (h.2.2.2 5 :: st) h) ∧ (∀ L st, ev 241 8 L (.ref q :: st) h = ev 241 11 L (h.2.2.2 5 :: st) h) ∧ (∀ L st, ev 242 7 L (.ref q :: st) h = ev 242 10 L (.int 0 :: st) h) ∧ ∀ L st, ev 243 7 L (.ref q :: st) h = ev 243 10 L (.int 0 :: st) h := by
  obtain ⟨i1, p1, a1, b1⟩ := f240_1
  obtain ⟨i2, p2, a2, b2⟩ := f241_8
  obtain ⟨i3, p3, a3, b3⟩ := f242_7
  obtain ⟨i4, p4, a4, b4⟩ := f243_7
  exact ⟨fun L st => G_str a1 b1 s1, fun L st => G_str a2 b2 s1, fun L st => G_str a3 b3 s1, fun L st => G_str a4 b4 s1⟩
theorem str_len {h : VG} {q wb : Nat} (S : STR h q wb) : ev 240 0 [some (.ref q)] [] h = some (some (.int 71), h) := by
  obtain ⟨s1, s2, ⟨f, s3, s4⟩, s5, s6⟩ := S
  obtain ⟨g1, g2, g3, g4⟩ := str_v s1
  have v : vcls h q 12 = true := by
    unfold vcls
    rw [if_pos rfl, s1]
    exact beq_self_eq_true _
  have hx : ∃ t n f, h.1 wb = .inl (t, n, f) ∧ (t < 8 ∨ t = 20 ∨ t = 21) := ⟨21, _, _, s3, by omega⟩
  have ln : aln h wb = 71 := by unfold aln; rw [s3]
  have e71 : Int32.ofNat 71 = 71 := rfl
  have sh : (71 : Int32) >>> ((0 : Int32) &&& 31) = 71 := by decide
  have nb : narrow .byte (.int 0) = .int 0 := by decide
  simp +decide only [e240_0, e240_4, e240_5, e240_6, e240_9, e240_10, e242_0, e242_3, e242_6, e242_10, e242_13, e242_14, g1, g3, s1, s2, s5, v, hx, ln, e71, sh, nb, vkk_n, vkk_i, vkk_r, vkk_l, vkk_d, catS_nil, catS_i, catS_r, catS_l, catS_d, Nat.reduceAdd, Nat.reduceLeDiff, Nat.zero_le, Nat.le_refl, Option.bind_some, Option.toList_some, Option.toList_none, List.cons_append, List.nil_append, or_true, true_or, if_true, if_false, Int32.reduceLT, Int32.reduceLE, not_true, not_false_iff, true_and, and_true, false_and, and_false]
theorem f244_5 : fetch 244 5 = some (.invokestatic 1059, 3) := by decide +kernel
theorem c244_5 : vCal (mcl 244) 1059 = some (0, 246, 148) := by decide +kernel
theorem str_at {h : VG} {q wb : Nat} (S : STR h q wb) (j : Nat) (hj : j < 71) : ev 241 0 [some (.ref q), some (.int (nI j))] [] h = some (some (.int (wch j)), h) := by
  obtain ⟨s1, s2, ⟨f, s3, s4⟩, s5, s6⟩ := S
  obtain ⟨g1, g2, g3, g4⟩ := str_v s1
  have v : vcls h q 12 = true := by
    unfold vcls
    rw [if_pos rfl, s1]
    exact beq_self_eq_true _
  have hx : ∃ t n f, h.1 wb = .inl (t, n, f) ∧ (t < 8 ∨ t = 20 ∨ t = 21) := ⟨21, _, _, s3, by omega⟩
  have ln : aln h wb = 71 := by unfold aln; rw [s3]
  have e71 : Int32.ofNat 71 = 71 := rfl
  have rb : rdB h wb := Or.inr (Or.inr ⟨71, f, s3⟩)
  have av : aI h wb j = wch j := by unfold aI; rw [s3]; exact s4 j hj
  have v1 : vp_in (nI j) 71 := vp_in_nI (by omega) (by decide)
  have v2 : (nI j).toNatClampNeg = j := nI_clamp (by omega)
  have q1 : ¬ nI j < 0 := fun z => by
    have := (nI_ltI (b := 0) (by omega) (by decide)).mp z
    omega
  have q2 : nI j < 71 := nI_lt (b := 71) (by omega) (by decide)
  obtain ⟨w1, w2⟩ := wch_c ⟨j, hj⟩
  have w1 : ((wch j &&& 255).toUInt32 % 65536).toInt32 = wch j := w1
  have w2 : narrow .char (.int (wch j)) = .int (wch j) := w2
  generalize hv3 : h.2.2.2 3 = V3 at s6
  have e246 : ev 246 0 [some (.int (nI j)), some (.int 71), some V3] [] h = some (some (.int (nI j)), h) := by
    simp +decide only [e246_0, e246_1, e246_4, e246_5, e246_6, e246_9, e246_10, e246_11, e246_16, e246_17, q1, q2, vkk_n, vkk_i, vkk_r, vkk_l, vkk_d, catS_nil, catS_i, catS_r, catS_l, catS_d, Nat.reduceAdd, Nat.reduceLeDiff, Nat.zero_le, Nat.le_refl, Option.bind_some, Option.toList_some, Option.toList_none, List.cons_append, List.nil_append, or_true, true_or, if_true, if_false, Int32.reduceLT, Int32.reduceLE, not_true, not_false_iff, true_and, and_true, false_and, and_false]
  have e244 : ev 244 0 [some (.int (nI j)), some (.int 71)] [] h = some (none, h) := by
    have k1 : ev 244 0 [some (.int (nI j)), some (.int 71)] [] h = ev 244 5 [some (.int (nI j)), some (.int 71)] [V3, .int 71, .int (nI j)] h := by
      simp +decide only [e244_0, e244_1, e244_2, e244_8, e244_8b, e244_9, hv3, vkk_n, vkk_i, vkk_r, vkk_l, vkk_d, catS_nil, catS_i, catS_r, catS_l, catS_d, Nat.reduceAdd, Nat.reduceLeDiff, Nat.zero_le, Nat.le_refl, Option.bind_some, Option.toList_some, Option.toList_none, List.cons_append, List.nil_append, or_true, true_or, if_true, if_false, Int32.reduceLT, Int32.reduceLE, not_true, not_false_iff, true_and, and_true, false_and, and_false]
    have cs : catS [.int (nI j), .int 71, V3] ≤ mmax 246 := by
      have : catS [.int (nI j), .int 71, V3] = 3 := by
        unfold catS
        simp only [List.map_cons, List.map_nil, List.sum_cons, List.sum_nil, s6]
        rfl
      rw [this]
      decide +kernel
    have en : vEnt [.int (nI j), .int 71, V3] (mmax 246) = [some (.int (nI j)), some (.int 71), some V3] := by
      have : mmax 246 = 3 := by decide +kernel
      rw [this]
      unfold vEnt
      rw [if_neg (by show ¬ (1 : Nat) = 2; decide)]
      unfold vEnt
      rw [if_neg (by show ¬ (1 : Nat) = 2; decide)]
      unfold vEnt
      rw [if_neg (by rw [s6]; decide)]
      rfl
    have k2 := G_calls (h := h) (st := []) (L := [some (.int (nI j)), some (.int 71)]) (ars := [.int (nI j), .int 71, V3]) f244_5 c244_5 (by decide) (by decide +kernel) (by show 3 = mna 246; decide +kernel) cs (by decide) en
    have k2 : ev 244 5 [some (.int (nI j)), some (.int 71)] [V3, .int 71, .int (nI j)] h = _ := k2
    rw [k1, k2, e246]
    simp +decide only [e244_0, e244_1, e244_2, e244_8, e244_8b, e244_9, vkk_n, vkk_i, vkk_r, vkk_l, vkk_d, catS_nil, catS_i, catS_r, catS_l, catS_d, Nat.reduceAdd, Nat.reduceLeDiff, Nat.zero_le, Nat.le_refl, Option.bind_some, Option.toList_some, Option.toList_none, List.cons_append, List.nil_append, or_true, true_or, if_true, if_false, Int32.reduceLT, Int32.reduceLE, not_true, not_false_iff, true_and, and_true, false_and, and_false]
  simp +decide only [e241_0, e241_1, e241_4, e241_7, e241_11, e241_12, e241_15, e241_16, e241_20, e241_24, e243_0, e243_3, e243_6, e243_10, e243_13, e243_14, e243_17, e243_18, e245_0, e245_1, e245_2, e245_3, e245_6, e245_7, e245_8, e245_9, e245_12, e245_13, e245_14, g2, g4, s1, s2, s5, v, hx, ln, e71, e244, rb, av, v1, v2, w1, w2, vkk_n, vkk_i, vkk_r, vkk_l, vkk_d, catS_nil, catS_i, catS_r, catS_l, catS_d, Nat.reduceAdd, Nat.reduceLeDiff, Nat.zero_le, Nat.le_refl, Option.bind_some, Option.toList_some, Option.toList_none, List.cons_append, List.nil_append, or_true, true_or, if_true, if_false, Int32.reduceLT, Int32.reduceLE, not_true, not_false_iff, true_and, and_true, false_and, and_false]
