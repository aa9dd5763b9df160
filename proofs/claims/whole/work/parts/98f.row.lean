/-! objects made: rows of objects, plans, states -/
def rowf (a off sz f : Nat) : Nat → Option Nat := fun i => if i < f then some (a + (off + sz * i)) else none
theorem rowf_0 (a off sz : Nat) : rowf a off sz 0 = fun _ => none := by
  funext i
  exact if_neg (Nat.not_lt_zero i)
theorem rowf_s (a off sz f : Nat) : va_up (rowf a off sz f) f (some (a + (off + sz * f))) = rowf a off sz (f + 1) := by
  funext i
  unfold va_up rowf
  by_cases e : i = f
  · rw [if_pos e, if_pos (by omega), e]
  · rw [if_neg e]
    by_cases y : i < f
    · rw [if_pos y, if_pos (by omega)]
    · rw [if_neg y, if_neg (by omega)]
def blks (B : Nat → List VE) (a off sz : Nat) : Nat → List VE
  | 0 => []
  | f + 1 => blks B a off sz f ++ B (a + (off + sz * f))
theorem blks_n (B : Nat → List VE) (a off sz : Nat) (hB : ∀ x, (B x).length = sz) : ∀ f, (blks B a off sz f).length = sz * f := by
  intro f
  induction f with
  | zero => rfl
  | succ f ih =>
    show (blks B a off sz f ++ B (a + (off + sz * f))).length = _
    rw [List.length_append, ih, hB, Nat.mul_succ]
def planL (a f : Nat) : List VE := [.inr (6, [.ref (a + 1), .ref (a + 3), .int 0]), .inr (5, [.ref (a + 1 + 1), .int 256, .int 0]), .inl (2, 256, .inl fun _ => 0), .inl (6, 6, .inr (.inr (.inr (.inr (rowf a 4 13 f)))))] ++ blks formB a 4 13 f
theorem planL_n (a f : Nat) : (planL a f).length = 4 + 13 * f := by
  unfold planL
  rw [List.length_append, blks_n formB a 4 13 (fun x => rfl)]
  rfl
theorem f61_44 : fetch 61 44 = some (.aastore, 1) := by decide +kernel
theorem l_iplan (h : VG) (a : Nat) : ∀ d f s, f + d = 6 → ev 61 26 [some (.ref a), some (.int (nI f))] [] (hbk h a (planL a f) s) = ev 61 51 [some (.ref a), some (.int (nI 6))] [] (hbk h a (planL a 6) (s + d * 237)) := by
  intro d
  induction d with
  | zero =>
    intro f s hd
    obtain rfl : f = 6 := by omega
    have q : ¬ nI 6 < 6 := by decide
    rw [show s + 0 * 237 = s by omega]
    simp +decide only [e61_26, e61_27, e61_29, q, vkk_n, vkk_i, vkk_r, vkk_l, vkk_d, catS_nil, catS_i, catS_r, catS_l, catS_d, Nat.reduceAdd, Nat.reduceLeDiff, Nat.zero_le, Nat.le_refl, Option.bind_some, Option.toList_some, Option.toList_none, List.cons_append, List.nil_append, or_true, true_or, if_true, if_false, Int32.reduceLT, Int32.reduceLE, not_true, not_false_iff, true_and, and_true, false_and, and_false]
  | succ d ih =>
    intro f s hd
    have q : nI f < 6 := nI_lt (b := 6) (by omega) (by decide)
    have e0 : (hbk h a (planL a f) s).1 a = .inr (6, [.ref (a + 1), .ref (a + 3), .int 0]) := hbk_get (i := 0) rfl
    have oo : ob (hbk h a (planL a f) s) a 6 := obk_6 rfl rfl rfl
    have g1 : gR (hbk h a (planL a f) s) a 1 = a + 3 := by
      unfold gR gV
      rw [e0]
      rfl
    have r1 : isR (hbk h a (planL a f) s) a 1 := ⟨a + 3, by unfold gV; rw [e0]; rfl⟩
    have st1 : ev 61 26 [some (.ref a), some (.int (nI f))] [] (hbk h a (planL a f) s) = ev 61 37 [some (.ref a), some (.int (nI f))] [.int (nI f), .ref (a + 3)] (hbk h a (planL a f) s) := by
      simp +decide only [e61_26, e61_27, e61_29, e61_32, e61_33, e61_36, q, oo, g1, r1, vkk_n, vkk_i, vkk_r, vkk_l, vkk_d, catS_nil, catS_i, catS_r, catS_l, catS_d, Nat.reduceAdd, Nat.reduceLeDiff, Nat.zero_le, Nat.le_refl, Option.bind_some, Option.toList_some, Option.toList_none, List.cons_append, List.nil_append, or_true, true_or, if_true, if_false, Int32.reduceLT, Int32.reduceLE, not_true, not_false_iff, true_and, and_true, false_and, and_false]
    rw [st1]
    have len := planL_n a f
    have k : ev 26 0 [some (.ref (a + (4 + 13 * f)))] [] (hbk h a (planL a f ++ [.inr (3, vDef 3)]) (s + 10)) = some (none, hbk h a (planL a f ++ formB (a + (4 + 13 * f))) (s + 10 + 227)) := by
      have u := ini_form (hbk h a (planL a f ++ [.inr (3, vDef 3)]) (s + 10)) (a + (4 + 13 * f)) (by rw [hbk_n, List.length_append, len]; rfl) (hbk_get (by rw [List.getElem?_append_right (by rw [len]; omega), len, Nat.sub_self]; rfl))
      rw [u]
      have two := hbk_two (h := h) (a := a) (s := s + 10) (s1 := 227) (l := planL a f) (c := .inr (3, vDef 3)) (d := (formB (a + (4 + 13 * f))).head (by unfold formB; simp)) (m := (formB (a + (4 + 13 * f))).tail)
      rw [len] at two
      exact congrArg (fun x => some (none, x)) two
    have st2 : ev 61 37 [some (.ref a), some (.int (nI f))] [.int (nI f), .ref (a + 3)] (hbk h a (planL a f) s) = ev 61 44 [some (.ref a), some (.int (nI f))] [.ref (a + (4 + 13 * f)), .int (nI f), .ref (a + 3)] (hbk h a (planL a f ++ formB (a + (4 + 13 * f))) (s + 10 + 227)) := by
      simp +decide only [e61_37, e61_40b, e61_40, e61_41, hbk_n, hbk_new, len, vnsl_3, k, vkk_n, vkk_i, vkk_r, vkk_l, vkk_d, catS_nil, catS_i, catS_r, catS_l, catS_d, Nat.reduceAdd, Nat.reduceLeDiff, Nat.zero_le, Nat.le_refl, Option.bind_some, Option.toList_some, Option.toList_none, List.cons_append, List.nil_append, or_true, true_or, if_true, if_false, Int32.reduceLT, Int32.reduceLE, not_true, not_false_iff, true_and, and_true, false_and, and_false]
    rw [st2]
    have v1 : vp_in (nI f) 6 := vp_in_nI (by omega) (by decide)
    have v2 : (nI f).toNatClampNeg = f := nI_clamp (by omega)
    have y1 : (hbk h a (planL a f ++ formB (a + (4 + 13 * f))) (s + 10 + 227)).1 (a + 3) = .inl (6, 6, .inr (.inr (.inr (.inr (rowf a 4 13 f))))) := hbk_get (i := 3) (by rw [List.getElem?_append_left (by rw [len]; omega)]; rfl)
    have y2 : ∃ vs, (hbk h a (planL a f ++ formB (a + (4 + 13 * f))) (s + 10 + 227)).1 (a + (4 + 13 * f)) = .inr (3, vs) := ⟨_, hbk_get (by rw [List.getElem?_append_right (by rw [len]; omega), len, Nat.sub_self]; rfl)⟩
    obtain ⟨vs, y2⟩ := y2
    rw [G_aast (st := []) f61_44 y1 y2 (by decide) v1, v2, rowf_s, hbk_set (i := 3) _ (by rw [List.length_append, len]; omega)]
    have y3 : (planL a f ++ formB (a + (4 + 13 * f))).set 3 (.inl (6, 6, .inr (.inr (.inr (.inr (rowf a 4 13 (f + 1))))))) = planL a (f + 1) := rfl
    rw [y3]
    have u := ih (f + 1) (s + 10 + 227) (by omega)
    rw [show s + (d + 1) * 237 = s + 10 + 227 + d * 237 by omega, ← u]
    generalize hZ : ev 61 26 [some (.ref a), some (.int (nI (f + 1)))] [] (hbk h a (planL a (f + 1)) (s + 10 + 227)) = Z
    simp +decide only [e61_45, e61_48, nI_1, nI_add, vkk_n, vkk_i, vkk_r, vkk_l, vkk_d, catS_nil, catS_i, catS_r, catS_l, catS_d, Nat.reduceAdd, Nat.reduceLeDiff, Nat.zero_le, Nat.le_refl, Option.bind_some, Option.toList_some, Option.toList_none, List.cons_append, List.nil_append, or_true, true_or, if_true, if_false, Int32.reduceLT, Int32.reduceLE, not_true, not_false_iff, true_and, and_true, false_and, and_false]
    exact hZ
def statL (a f : Nat) : List VE := [.inr (8, [.ref (a + 1), .ref (a + 3), .ref (a + 4), .int 0]), .inr (5, [.ref (a + 1 + 1), .int 256, .int 0]), .inl (2, 256, .inl fun _ => 0), .inl (5, 8, .inr (.inr (.inr (.inr (rowf a 5 3 f))))), .inl (1, 8, .inr (.inl fun _ => 0))] ++ blks binB a 5 3 f
theorem statL_n (a f : Nat) : (statL a f).length = 5 + 3 * f := by
  unfold statL
  rw [List.length_append, blks_n binB a 5 3 (fun x => rfl)]
  rfl
theorem f79_52 : fetch 79 52 = some (.aastore, 1) := by decide +kernel
theorem l_istat (h : VG) (a : Nat) : ∀ d f s, f + d = 8 → ev 79 34 [some (.ref a), some (.int (nI f))] [] (hbk h a (statL a f) s) = ev 79 59 [some (.ref a), some (.int (nI 8))] [] (hbk h a (statL a 8) (s + d * 84)) := by
  intro d
  induction d with
  | zero =>
    intro f s hd
    obtain rfl : f = 8 := by omega
    have q : ¬ nI 8 < 8 := by decide
    rw [show s + 0 * 84 = s by omega]
    simp +decide only [e79_34, e79_35, e79_37, q, vkk_n, vkk_i, vkk_r, vkk_l, vkk_d, catS_nil, catS_i, catS_r, catS_l, catS_d, Nat.reduceAdd, Nat.reduceLeDiff, Nat.zero_le, Nat.le_refl, Option.bind_some, Option.toList_some, Option.toList_none, List.cons_append, List.nil_append, or_true, true_or, if_true, if_false, Int32.reduceLT, Int32.reduceLE, not_true, not_false_iff, true_and, and_true, false_and, and_false]
  | succ d ih =>
    intro f s hd
    have q : nI f < 8 := nI_lt (b := 8) (by omega) (by decide)
    have e0 : (hbk h a (statL a f) s).1 a = .inr (8, [.ref (a + 1), .ref (a + 3), .ref (a + 4), .int 0]) := hbk_get (i := 0) rfl
    have oo : ob (hbk h a (statL a f) s) a 8 := obk_8 rfl rfl rfl rfl
    have g1 : gR (hbk h a (statL a f) s) a 1 = a + 3 := by
      unfold gR gV
      rw [e0]
      rfl
    have r1 : isR (hbk h a (statL a f) s) a 1 := ⟨a + 3, by unfold gV; rw [e0]; rfl⟩
    have st1 : ev 79 34 [some (.ref a), some (.int (nI f))] [] (hbk h a (statL a f) s) = ev 79 45 [some (.ref a), some (.int (nI f))] [.int (nI f), .ref (a + 3)] (hbk h a (statL a f) s) := by
      simp +decide only [e79_34, e79_35, e79_37, e79_40, e79_41, e79_44, q, oo, g1, r1, vkk_n, vkk_i, vkk_r, vkk_l, vkk_d, catS_nil, catS_i, catS_r, catS_l, catS_d, Nat.reduceAdd, Nat.reduceLeDiff, Nat.zero_le, Nat.le_refl, Option.bind_some, Option.toList_some, Option.toList_none, List.cons_append, List.nil_append, or_true, true_or, if_true, if_false, Int32.reduceLT, Int32.reduceLE, not_true, not_false_iff, true_and, and_true, false_and, and_false]
    rw [st1]
    have len := statL_n a f
    have k : ev 2 0 [some (.ref (a + (5 + 3 * f)))] [] (hbk h a (statL a f ++ [.inr (1, vDef 1)]) (s + 4)) = some (none, hbk h a (statL a f ++ binB (a + (5 + 3 * f))) (s + 4 + 80)) := by
      have u := ini_bin (hbk h a (statL a f ++ [.inr (1, vDef 1)]) (s + 4)) (a + (5 + 3 * f)) (by rw [hbk_n, List.length_append, len]; rfl) (hbk_get (by rw [List.getElem?_append_right (by rw [len]; omega), len, Nat.sub_self]; rfl))
      rw [u]
      have two := hbk_two (h := h) (a := a) (s := s + 4) (s1 := 80) (l := statL a f) (c := .inr (1, vDef 1)) (d := (binB (a + (5 + 3 * f))).head (by unfold binB; simp)) (m := (binB (a + (5 + 3 * f))).tail)
      rw [len] at two
      exact congrArg (fun x => some (none, x)) two
    have st2 : ev 79 45 [some (.ref a), some (.int (nI f))] [.int (nI f), .ref (a + 3)] (hbk h a (statL a f) s) = ev 79 52 [some (.ref a), some (.int (nI f))] [.ref (a + (5 + 3 * f)), .int (nI f), .ref (a + 3)] (hbk h a (statL a f ++ binB (a + (5 + 3 * f))) (s + 4 + 80)) := by
      simp +decide only [e79_45, e79_48b, e79_48, e79_49, hbk_n, hbk_new, len, vnsl_1, k, vkk_n, vkk_i, vkk_r, vkk_l, vkk_d, catS_nil, catS_i, catS_r, catS_l, catS_d, Nat.reduceAdd, Nat.reduceLeDiff, Nat.zero_le, Nat.le_refl, Option.bind_some, Option.toList_some, Option.toList_none, List.cons_append, List.nil_append, or_true, true_or, if_true, if_false, Int32.reduceLT, Int32.reduceLE, not_true, not_false_iff, true_and, and_true, false_and, and_false]
    rw [st2]
    have v1 : vp_in (nI f) 8 := vp_in_nI (by omega) (by decide)
    have v2 : (nI f).toNatClampNeg = f := nI_clamp (by omega)
    have y1 : (hbk h a (statL a f ++ binB (a + (5 + 3 * f))) (s + 4 + 80)).1 (a + 3) = .inl (5, 8, .inr (.inr (.inr (.inr (rowf a 5 3 f))))) := hbk_get (i := 3) (by rw [List.getElem?_append_left (by rw [len]; omega)]; rfl)
    have y2 : ∃ vs, (hbk h a (statL a f ++ binB (a + (5 + 3 * f))) (s + 4 + 80)).1 (a + (5 + 3 * f)) = .inr (1, vs) := ⟨_, hbk_get (by rw [List.getElem?_append_right (by rw [len]; omega), len, Nat.sub_self]; rfl)⟩
    obtain ⟨vs, y2⟩ := y2
    rw [G_aast (st := []) f79_52 y1 y2 (by decide) v1, v2, rowf_s, hbk_set (i := 3) _ (by rw [List.length_append, len]; omega)]
    have y3 : (statL a f ++ binB (a + (5 + 3 * f))).set 3 (.inl (5, 8, .inr (.inr (.inr (.inr (rowf a 5 3 (f + 1))))))) = statL a (f + 1) := rfl
    rw [y3]
    have u := ih (f + 1) (s + 4 + 80) (by omega)
    rw [show s + (d + 1) * 84 = s + 4 + 80 + d * 84 by omega, ← u]
    generalize hZ : ev 79 34 [some (.ref a), some (.int (nI (f + 1)))] [] (hbk h a (statL a (f + 1)) (s + 4 + 80)) = Z
    simp +decide only [e79_53, e79_56, nI_1, nI_add, vkk_n, vkk_i, vkk_r, vkk_l, vkk_d, catS_nil, catS_i, catS_r, catS_l, catS_d, Nat.reduceAdd, Nat.reduceLeDiff, Nat.zero_le, Nat.le_refl, Option.bind_some, Option.toList_some, Option.toList_none, List.cons_append, List.nil_append, or_true, true_or, if_true, if_false, Int32.reduceLT, Int32.reduceLE, not_true, not_false_iff, true_and, and_true, false_and, and_false]
    exact hZ
