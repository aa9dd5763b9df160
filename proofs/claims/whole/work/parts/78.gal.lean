/-! move: the model gathers all -/
def sA (ga : Int32) (AT : Nat) (b z : Nat → Nat) (n j : Nat) : Nat := if ga = 0 then AT + j else fl b z n j
theorem fl_at (b z : Nat → Nat) (n k i : Nat) (hk : k < n) (hi : i < z k) : fl b z n (sN z k + i) = b k + i := by
  have e : sN z (k + 1) = sN z k + z k := rfl
  rw [fl_low b z (k + 1) (sN z k + i) (by rw [e]; omega) n hk]
  show (if sN z k + i < sN z k then _ else b k + (sN z k + i - sN z k)) = _
  rw [if_neg (by omega)]
  omega
theorem l_gall (g n AT : Nat) (a at_ ga no : Int32) (b z : Nat → Nat) (hn : n ≤ 8) (hz : sN z n ≤ 256) (hbz : ∀ j, j < n → z j = 0 ∨ b j + z j ≤ 256) (hAT : ga = 0 → sN z n = 0 ∨ (at_ = nI AT ∧ AT + sN z n ≤ 256)) : ∀ d k (h : VG) (l8 : Option Value), k + d = n → Sh h g → (∀ j, j < n → aI h (g + 296) j = nI (z j) ∧ (z j = 0 ∨ aI h (g + 295) j = nI (b j))) → ∃ (h1 : VG) (x8 : Option Value), ev 221 62 [some (.ref (g + 266)), some (.int a), some (.int (nI n)), some (.int at_), some (.int ga), some (.int no), some (.int (nI (sN z k))), some (.int (nI k)), l8] [] h = ev 221 132 [some (.ref (g + 266)), some (.int a), some (.int (nI n)), some (.int at_), some (.int ga), some (.int no), some (.int (nI (sN z n))), some (.int (nI n)), x8] [] h1 ∧ Fr (fun a => a = g + 297) NF h h1 ∧ ∀ j, aI h1 (g + 297) j = if sN z k ≤ j ∧ j < sN z n then aI h (g + 277) (sA ga AT b z n j) else aI h (g + 297) j := by
  intro d
  induction d with
  | zero =>
    intro k h l8 hk hs hr
    obtain rfl : k = n := by omega
    have q : ¬ nI k < nI k := nI_nlt (Nat.le_refl _) (by omega)
    refine ⟨h, l8, ?_, Fr.rfl _, fun j => (if_neg (by omega)).symm⟩
    simp +decide only [e221_62, e221_64, e221_65, q, vkk_n, vkk_i, vkk_r, vkk_l, vkk_d, catS_nil, catS_i, catS_r, catS_l, catS_d, Nat.reduceAdd, Nat.reduceLeDiff, Nat.zero_le, Nat.le_refl, Option.bind_some, Option.toList_some, Option.toList_none, List.cons_append, List.nil_append, or_true, true_or, if_true, if_false, Int32.reduceLT, Int32.reduceLE, not_true, not_false_iff, true_and, and_true, false_and, and_false]
  | succ d ih =>
    intro k h l8 hk hs hr
    have q : nI k < nI n := nI_lt (by omega) (by omega)
    obtain ⟨r1, r2⟩ := hr k (by omega)
    have mo : sN z k + z k ≤ sN z n := sN_mono z (k + 1) n (by omega)
    have es : sN z (k + 1) = sN z k + z k := rfl
    obtain ⟨h1, u1, u2, u3⟩ := l_gin g k (z k) (sN z k) a (nI n) at_ ga no (aI h (g + 295) k) (fun i => sA ga AT b z n (sN z k + i)) (by omega) (by omega) (fun i hi => by
      have bz := (hbz k (by omega)).resolve_left (by omega)
      have r2' := r2.resolve_left (by omega)
      unfold sA
      by_cases g0 : ga = 0
      · obtain ⟨t1, t2⟩ := (hAT g0).resolve_left (by omega)
        rw [if_pos g0]
        refine ⟨by omega, fun _ => ?_, fun y => absurd g0 y⟩
        rw [t1, nI_add]
      · rw [if_neg g0, fl_at b z n k i (by omega) hi]
        refine ⟨by omega, fun y => absurd y g0, fun _ => ?_⟩
        rw [r2', nI_add]) (z k) 0 h (by omega) hs r1 rfl
    have u1' : ev 221 71 [some (.ref (g + 266)), some (.int a), some (.int (nI n)), some (.int at_), some (.int ga), some (.int no), some (.int (nI (sN z k))), some (.int (nI k)), some (.int 0)] [] h = _ := u1
    obtain ⟨h2, x8, v1, v2, v3⟩ := ih (k + 1) h1 (some (.int (nI (z k)))) (by omega) (Sh_fr u2 (fun a y => by omega) hs) (fun j hj => ⟨(u2.I (a := g + 296) (fun y => by omega) j).trans (hr j hj).1, (hr j hj).2.imp id (fun y => (u2.I (a := g + 295) (fun y => by omega) j).trans y)⟩)
    refine ⟨h2, x8, ?_, u2.tr v2, fun j => ?_⟩
    · simp +decide only [e221_62, e221_64, e221_65, q, if_true, vkk_n, vkk_i, vkk_r, vkk_l, vkk_d, catS_nil, catS_i, catS_r, catS_l, catS_d, Nat.reduceAdd, Nat.reduceLeDiff, Nat.zero_le, Nat.le_refl, Option.bind_some, Option.toList_some, Option.toList_none, List.cons_append, List.nil_append, or_true, true_or, if_true, if_false, Int32.reduceLT, Int32.reduceLE, not_true, not_false_iff, true_and, and_true, false_and, and_false]
      simp +decide only [e221_68, e221_69, vkk_n, vkk_i, vkk_r, vkk_l, vkk_d, catS_nil, catS_i, catS_r, catS_l, catS_d, Nat.reduceAdd, Nat.reduceLeDiff, Nat.zero_le, Nat.le_refl, Option.bind_some, Option.toList_some, Option.toList_none, List.cons_append, List.nil_append, or_true, true_or, if_true, if_false, Int32.reduceLT, Int32.reduceLE, not_true, not_false_iff, true_and, and_true, false_and, and_false]
      rw [u1']
      simp +decide only [e221_126, e221_129, nI_1, nI_add, vkk_n, vkk_i, vkk_r, vkk_l, vkk_d, catS_nil, catS_i, catS_r, catS_l, catS_d, Nat.reduceAdd, Nat.reduceLeDiff, Nat.zero_le, Nat.le_refl, Option.bind_some, Option.toList_some, Option.toList_none, List.cons_append, List.nil_append, or_true, true_or, if_true, if_false, Int32.reduceLT, Int32.reduceLE, not_true, not_false_iff, true_and, and_true, false_and, and_false]
      exact v1
    · rw [v3 j, u2.I (a := g + 277) (fun y => by omega), u3 j, es, Nat.add_zero]
      by_cases y : sN z k ≤ j ∧ j < sN z n
      · rw [if_pos y]
        by_cases y2 : sN z k + z k ≤ j ∧ j < sN z n
        · rw [if_pos y2]
        · rw [if_neg y2, if_pos (by omega), show sN z k + (j - sN z k) = j by omega]
      · rw [if_neg y, if_neg (by omega), if_neg (by omega)]
