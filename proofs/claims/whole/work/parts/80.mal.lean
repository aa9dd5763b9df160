/-! move: the model lays all -/
def NN (ga : Int32) (AT : Nat) (b z : Nat → Nat) (M G : Nat → Int32) (k j : Nat) : Int32 := if ga = 0 then scM b z M G k j else if AT ≤ j ∧ j < AT + sN z k then M (j - AT) else G j
theorem l_mall (g n AT : Nat) (a at_ ga no : Int32) (b z : Nat → Nat) (M G : Nat → Int32) (hn : n ≤ 8) (hz : sN z n ≤ 256) (hbz : ∀ j, j < n → z j = 0 ∨ b j + z j ≤ 256) (hAT : ¬ ga = 0 → sN z n = 0 ∨ (at_ = nI AT ∧ AT + sN z n ≤ 256)) : ∀ d k (h : VG) (l8 : Option Value), k + d = n → Sh h g → (∀ j, j < n → aI h (g + 296) j = nI (z j) ∧ (z j = 0 ∨ aI h (g + 295) j = nI (b j))) → (∀ j, aI h (g + 297) j = M j) → (∀ j, aI h (g + 277) j = NN ga AT b z M G k j) → ∃ (h1 : VG) (x8 : Option Value), ev 221 138 [some (.ref (g + 266)), some (.int a), some (.int (nI n)), some (.int at_), some (.int ga), some (.int no), some (.int (nI (sN z k))), some (.int (nI k)), l8] [] h = ev 221 208 [some (.ref (g + 266)), some (.int a), some (.int (nI n)), some (.int at_), some (.int ga), some (.int no), some (.int (nI (sN z n))), some (.int (nI n)), x8] [] h1 ∧ Fr (fun a => a = g + 277) NF h h1 ∧ ∀ j, aI h1 (g + 277) j = NN ga AT b z M G n j := by
  intro d
  induction d with
  | zero =>
    intro k h l8 hk hs hr hM hG
    obtain rfl : k = n := by omega
    have q : ¬ nI k < nI k := nI_nlt (Nat.le_refl _) (by omega)
    refine ⟨h, l8, ?_, Fr.rfl _, hG⟩
    simp +decide only [e221_138, e221_140, e221_141, q, vkk_n, vkk_i, vkk_r, vkk_l, vkk_d, catS_nil, catS_i, catS_r, catS_l, catS_d, Nat.reduceAdd, Nat.reduceLeDiff, Nat.zero_le, Nat.le_refl, Option.bind_some, Option.toList_some, Option.toList_none, List.cons_append, List.nil_append, or_true, true_or, if_true, if_false, Int32.reduceLT, Int32.reduceLE, not_true, not_false_iff, true_and, and_true, false_and, and_false]
  | succ d ih =>
    intro k h l8 hk hs hr hM hG
    have q : nI k < nI n := nI_lt (by omega) (by omega)
    obtain ⟨r1, r2⟩ := hr k (by omega)
    have mo : sN z k + z k ≤ sN z n := sN_mono z (k + 1) n (by omega)
    have es : sN z (k + 1) = sN z k + z k := rfl
    have step : ∃ D0, (D0 + z k ≤ 256 ∨ z k = 0) ∧ (∀ i, i < z k → (¬ ga = 0 → at_ + nI (sN z k + i) = nI (D0 + i)) ∧ (ga = 0 → aI h (g + 295) k + nI i = nI (D0 + i))) ∧ ∀ j, (if D0 + 0 ≤ j ∧ j < D0 + z k then M (sN z k + (j - D0)) else NN ga AT b z M G k j) = NN ga AT b z M G (k + 1) j := by
      by_cases g0 : ga = 0
      · refine ⟨b k, ?_, fun i hi => ⟨fun y => absurd g0 y, fun _ => ?_⟩, fun j => ?_⟩
        · rcases hbz k (by omega) with y | y
          · exact Or.inr y
          · exact Or.inl y
        · rw [r2.resolve_left (by omega), nI_add]
        · unfold NN
          rw [if_pos g0, if_pos g0]
          rfl
      · refine ⟨AT + sN z k, ?_, fun i hi => ⟨fun _ => ?_, fun y => absurd y g0⟩, fun j => ?_⟩
        · rcases hAT g0 with y | y
          · exact Or.inr (by omega)
          · exact Or.inl (by omega)
        · rw [((hAT g0).resolve_left (by omega)).1, nI_add, Nat.add_assoc]
        · unfold NN
          rw [if_neg g0, if_neg g0, es]
          by_cases y : AT + sN z k + 0 ≤ j ∧ j < AT + sN z k + z k
          · rw [if_pos y, if_pos (by omega), show sN z k + (j - (AT + sN z k)) = j - AT by omega]
          · rw [if_neg y]
            by_cases y2 : AT ≤ j ∧ j < AT + sN z k
            · rw [if_pos y2, if_pos (by omega)]
            · rw [if_neg y2, if_neg (by omega)]
    obtain ⟨D0, p1, p2, p3⟩ := step
    obtain ⟨h1, u1, u2, u3⟩ := l_min g k (z k) (sN z k) D0 a (nI n) at_ ga no (aI h (g + 295) k) (by omega) (by omega) p1 p2 (z k) 0 h (by omega) hs r1 rfl
    have u1' : ev 221 147 [some (.ref (g + 266)), some (.int a), some (.int (nI n)), some (.int at_), some (.int ga), some (.int no), some (.int (nI (sN z k))), some (.int (nI k)), some (.int 0)] [] h = _ := u1
    obtain ⟨h2, x8, v1, v2, v3⟩ := ih (k + 1) h1 (some (.int (nI (z k)))) (by omega) (Sh_fr u2 (fun a y => by omega) hs) (fun j hj => ⟨(u2.I (a := g + 296) (fun y => by omega) j).trans (hr j hj).1, (hr j hj).2.imp id (fun y => (u2.I (a := g + 295) (fun y => by omega) j).trans y)⟩) (fun j => (u2.I (a := g + 297) (fun y => by omega) j).trans (hM j)) (fun j => by rw [u3 j, hM, hG, p3])
    refine ⟨h2, x8, ?_, u2.tr v2, v3⟩
    simp +decide only [e221_138, e221_140, e221_141, q, if_true, vkk_n, vkk_i, vkk_r, vkk_l, vkk_d, catS_nil, catS_i, catS_r, catS_l, catS_d, Nat.reduceAdd, Nat.reduceLeDiff, Nat.zero_le, Nat.le_refl, Option.bind_some, Option.toList_some, Option.toList_none, List.cons_append, List.nil_append, or_true, true_or, if_true, if_false, Int32.reduceLT, Int32.reduceLE, not_true, not_false_iff, true_and, and_true, false_and, and_false]
    simp +decide only [e221_144, e221_145, vkk_n, vkk_i, vkk_r, vkk_l, vkk_d, catS_nil, catS_i, catS_r, catS_l, catS_d, Nat.reduceAdd, Nat.reduceLeDiff, Nat.zero_le, Nat.le_refl, Option.bind_some, Option.toList_some, Option.toList_none, List.cons_append, List.nil_append, or_true, true_or, if_true, if_false, Int32.reduceLT, Int32.reduceLE, not_true, not_false_iff, true_and, and_true, false_and, and_false]
    rw [u1']
    simp +decide only [e221_202, e221_205, nI_1, nI_add, vkk_n, vkk_i, vkk_r, vkk_l, vkk_d, catS_nil, catS_i, catS_r, catS_l, catS_d, Nat.reduceAdd, Nat.reduceLeDiff, Nat.zero_le, Nat.le_refl, Option.bind_some, Option.toList_some, Option.toList_none, List.cons_append, List.nil_append, or_true, true_or, if_true, if_false, Int32.reduceLT, Int32.reduceLE, not_true, not_false_iff, true_and, and_true, false_and, and_false]
    exact v1
