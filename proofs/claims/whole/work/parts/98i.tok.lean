set_option maxHeartbeats 4000000 in
/-! objects made: tokens -/
def twn : Nat → Nat
  | 0 => 0
  | i + 1 => if wch i = 32 then twn i + 1 else twn i
def twf : Nat → Nat → Int64
  | 0 => fun _ => 0
  | i + 1 => if wch i = 32 then twf i else vp_updL (twf i) (twn i) (sl (twf i (twn i)) 5 ||| (wch i - 97 + 1).toInt64)
theorem twn_lt : ∀ i : Fin 71, twn i.val < 14 := by decide +kernel
theorem twf_c : ∀ j : Fin 14, twf 71 j.val = cWord j.val := by decide +kernel
def tokL (a : Nat) (F : Nat → Int64) : List VE := [.inr (9, [.ref (a + 1), .ref (a + 2), .ref (a + 3), .ref (a + 4)]), .inl (0, 401, .inl fun _ => 0), .inl (0, 401, .inl fun _ => 0), .inl (1, 401, .inr (.inl fun _ => 0)), .inl (1, 14, .inr (.inl F))]
theorem STR_hbk {h : VG} {q wb a s : Nat} {l : List VE} (S : STR h q wb) (hw : wb < a) : STR (hbk h a l s) q wb := by
  obtain ⟨s1, s2, ⟨f, s3, s4⟩, s5, s6⟩ := S
  refine ⟨s1, s2, ⟨f, ?_, s4⟩, s5, s6⟩
  show (if wb < a then h.1 wb else _) = _
  rw [if_pos hw]
  exact s3
theorem l_itok (h : VG) (a q wb s : Nat) (S : STR h q wb) (hw : wb < a) : ∀ d i, i + d = 71 → ev 83 43 [some (.ref a), some (.int (nI (twn i))), some (.int (nI i))] [] (hbk h a (tokL a (twf i)) s) = some (none, hbk h a (tokL a (twf 71)) s) := by
  intro d
  induction d with
  | zero =>
    intro i hd
    obtain rfl : i = 71 := by omega
    have S1 := STR_hbk (l := tokL a (twf 71)) (s := s) S hw
    generalize hbk h a (tokL a (twf 71)) s = H at S1 ⊢
    have len := str_len S1
    have v : vcls H q 12 = true := by
      unfold vcls
      rw [if_pos rfl, S1.1]
      exact beq_self_eq_true _
    have i1 : ¬ nI 71 < 71 := by decide
    simp +decide only [e83_43, e83_44, e83_46, e83_49, e83_52, e83_53, e83_55, e83_58, e83_60, e83_61, e83_64, e83_102, S1.1, v, len, i1, vkk_n, vkk_i, vkk_r, vkk_l, vkk_d, catS_nil, catS_i, catS_r, catS_l, catS_d, Nat.reduceAdd, Nat.reduceLeDiff, Nat.zero_le, Nat.le_refl, Option.bind_some, Option.toList_some, Option.toList_none, List.cons_append, List.nil_append, or_true, true_or, if_true, if_false, Int32.reduceLT, Int32.reduceLE, not_true, not_false_iff, true_and, and_true, false_and, and_false]
  | succ d ih =>
    intro i hd
    have u := ih (i + 1) (by omega)
    have S1 := STR_hbk (l := tokL a (twf i)) (s := s) S hw
    have len := str_len S1
    have at_ := str_at S1 i (by omega)
    have v : vcls (hbk h a (tokL a (twf i)) s) q 12 = true := by
      unfold vcls
      rw [if_pos rfl, S1.1]
      exact beq_self_eq_true _
    have i1 : nI i < 71 := nI_lt (b := 71) (by omega) (by decide)
    have wl := twn_lt ⟨i, by omega⟩
    have wl : twn i < 14 := wl
    have i2 : nI (twn i) < 14 := nI_lt (b := 14) wl (by decide)
    have v1 : vp_in (nI (twn i)) 14 := vp_in_nI (by omega) (by decide)
    have v2 : (nI (twn i)).toNatClampNeg = twn i := nI_clamp (by omega)
    have st0 : ev 83 43 [some (.ref a), some (.int (nI (twn i))), some (.int (nI i))] [] (hbk h a (tokL a (twf i)) s) = ev 83 66 [some (.ref a), some (.int (nI (twn i))), some (.int (nI i))] [.int 32, .int (wch i)] (hbk h a (tokL a (twf i)) s) := by
      generalize hbk h a (tokL a (twf i)) s = H at *
      simp +decide only [e83_43, e83_44, e83_46, e83_49, e83_52, e83_53, e83_55, e83_58, e83_60, e83_61, e83_64, e83_102, S1.1, v, len, i1, i2, at_, vkk_n, vkk_i, vkk_r, vkk_l, vkk_d, catS_nil, catS_i, catS_r, catS_l, catS_d, Nat.reduceAdd, Nat.reduceLeDiff, Nat.zero_le, Nat.le_refl, Option.bind_some, Option.toList_some, Option.toList_none, List.cons_append, List.nil_append, or_true, true_or, if_true, if_false, Int32.reduceLT, Int32.reduceLE, not_true, not_false_iff, true_and, and_true, false_and, and_false]
    rw [st0]
    by_cases z : wch i = 32
    · have e1 : twn (i + 1) = twn i + 1 := if_pos z
      have e2 : twf (i + 1) = twf i := if_pos z
      rw [e1, e2] at u
      rw [← u]
      generalize hZ : ev 83 43 [some (.ref a), some (.int (nI (twn i + 1))), some (.int (nI (i + 1)))] [] (hbk h a (tokL a (twf i)) s) = Z
      simp +decide only [e83_66, e83_69, e83_72, e83_75, e83_76, e83_79, e83_80, e83_81, e83_84, e83_85, e83_86, e83_88, e83_89, e83_92, e83_95, e83_96, e83_99, z, nI_1, nI_add, vkk_n, vkk_i, vkk_r, vkk_l, vkk_d, catS_nil, catS_i, catS_r, catS_l, catS_d, Nat.reduceAdd, Nat.reduceLeDiff, Nat.zero_le, Nat.le_refl, Option.bind_some, Option.toList_some, Option.toList_none, List.cons_append, List.nil_append, or_true, true_or, if_true, if_false, Int32.reduceLT, Int32.reduceLE, not_true, not_false_iff, true_and, and_true, false_and, and_false]
      exact hZ
    · have e1 : twn (i + 1) = twn i := if_neg z
      have e2 : twf (i + 1) = vp_updL (twf i) (twn i) (sl (twf i (twn i)) 5 ||| (wch i - 97 + 1).toInt64) := if_neg z
      rw [e1] at u
      rw [← u]
      have cw : (hbk h a (tokL a (twf i)) s).1 (a + 4) = .inl (1, 14, .inr (.inl (twf i))) := hbk_get (i := 4) rfl
      have c0 : (hbk h a (tokL a (twf i)) s).1 a = .inr (9, [.ref (a + 1), .ref (a + 2), .ref (a + 3), .ref (a + 4)]) := hbk_get (i := 0) rfl
      have wL1 : wL (hbk h a (tokL a (twf i)) s) (a + 4) (twn i) (sl (twf i (twn i)) 5 ||| (wch i - 97 + 1).toInt64) = hbk h a (tokL a (twf (i + 1))) s := by
        unfold wL
        rw [cw, e2]
        exact hbk_set (i := 4) _ (by show 4 < 5; decide)
      have o9 : ob (hbk h a (tokL a (twf i)) s) a 9 := obk_9 rfl rfl rfl rfl
      have g3 : gR (hbk h a (tokL a (twf i)) s) a 3 = a + 4 := by
        unfold gR gV
        rw [c0]
        rfl
      have r3 : isR (hbk h a (tokL a (twf i)) s) a 3 := ⟨a + 4, by unfold gV; rw [c0]; rfl⟩
      have ar : arL (hbk h a (tokL a (twf i)) s) (a + 4) := ⟨14, _, cw⟩
      have ln : aln (hbk h a (tokL a (twf i)) s) (a + 4) = 14 := by unfold aln; rw [cw]
      have av : aL (hbk h a (tokL a (twf i)) s) (a + 4) (twn i) = twf i (twn i) := by unfold aL; rw [cw]
      generalize hbk h a (tokL a (twf (i + 1))) s = H2 at wL1 ⊢
      generalize hbk h a (tokL a (twf i)) s = H at *
      have sp := c_spelled H (twf i (twn i)) (wch i)
      generalize hZ : ev 83 43 [some (.ref a), some (.int (nI (twn i))), some (.int (nI (i + 1)))] [] H2 = Z
      simp +decide only [e83_66, e83_69, e83_72, e83_75, e83_76, e83_79, e83_80, e83_81, e83_84, e83_85, e83_86, e83_88, e83_89, e83_92, e83_95, e83_96, e83_99, z, S1.1, v, at_, o9, g3, r3, ar, ln, av, v1, v2, sp, wL1, nI_1, nI_add, vkk_n, vkk_i, vkk_r, vkk_l, vkk_d, catS_nil, catS_i, catS_r, catS_l, catS_d, Nat.reduceAdd, Nat.reduceLeDiff, Nat.zero_le, Nat.le_refl, Option.bind_some, Option.toList_some, Option.toList_none, List.cons_append, List.nil_append, or_true, true_or, if_true, if_false, Int32.reduceLT, Int32.reduceLE, not_true, not_false_iff, true_and, and_true, false_and, and_false]
      exact hZ
def tokB (a : Nat) : List VE := tokL a (twf 71)
theorem ini_tok (h : VG) (a q wb : Nat) (S : STR h q wb) (hw : wb < a) (h1 : h.2.1 = a + 1) (h2 : h.1 a = .inr (9, vDef 9)) : ev 83 0 [some (.ref a), none, none] [] h = some (none, hbk h a (tokB a) 1217) := by
  have e := hbk_one h1 h2
  rw [vdef_9] at e
  have key : ev 83 0 [some (.ref a), none, none] [] (hbk h a [.inr (9, [.null, .null, .null, .null])] 0) = ev 83 43 [some (.ref a), some (.int (nI 0)), some (.int (nI 0))] [] (hbk h a (tokL a (twf 0)) 1217) := by
    generalize hZ : ev 83 43 [some (.ref a), some (.int (nI 0)), some (.int (nI 0))] [] (hbk h a (tokL a (twf 0)) 1217) = Z
    unfold tokL twf at hZ
    have c401 : (401 : Int32).toNatClampNeg = 401 := by decide
    have c14 : (14 : Int32).toNatClampNeg = 14 := by decide
    have o0 : ∀ (l : List VE) (s : Nat), ob (hbk h a (.inr (9, [.null, .null, .null, .null]) :: l) s) a 9 := fun l s => obk_9 rfl rfl rfl rfl
    have p0 : ∀ (l : List VE) (s : Nat), pR (hbk h a (.inr (9, [.null, .null, .null, .null]) :: l) s) a 0 (a + 1) = hbk h a (.inr (9, [.ref (a + 1), .null, .null, .null]) :: l) s := fun l s => by rw [hbk_pR]; rfl
    have o1 : ∀ (l : List VE) (s : Nat), ob (hbk h a (.inr (9, [.ref (a + 1), .null, .null, .null]) :: l) s) a 9 := fun l s => obk_9 rfl rfl rfl rfl
    have p1 : ∀ (l : List VE) (s : Nat), pR (hbk h a (.inr (9, [.ref (a + 1), .null, .null, .null]) :: l) s) a 1 (a + 2) = hbk h a (.inr (9, [.ref (a + 1), .ref (a + 2), .null, .null]) :: l) s := fun l s => by rw [hbk_pR]; rfl
    have o2 : ∀ (l : List VE) (s : Nat), ob (hbk h a (.inr (9, [.ref (a + 1), .ref (a + 2), .null, .null]) :: l) s) a 9 := fun l s => obk_9 rfl rfl rfl rfl
    have p2 : ∀ (l : List VE) (s : Nat), pR (hbk h a (.inr (9, [.ref (a + 1), .ref (a + 2), .null, .null]) :: l) s) a 2 (a + 3) = hbk h a (.inr (9, [.ref (a + 1), .ref (a + 2), .ref (a + 3), .null]) :: l) s := fun l s => by rw [hbk_pR]; rfl
    have o3 : ∀ (l : List VE) (s : Nat), ob (hbk h a (.inr (9, [.ref (a + 1), .ref (a + 2), .ref (a + 3), .null]) :: l) s) a 9 := fun l s => obk_9 rfl rfl rfl rfl
    have p3 : ∀ (l : List VE) (s : Nat), pR (hbk h a (.inr (9, [.ref (a + 1), .ref (a + 2), .ref (a + 3), .null]) :: l) s) a 3 (a + 4) = hbk h a (.inr (9, [.ref (a + 1), .ref (a + 2), .ref (a + 3), .ref (a + 4)]) :: l) s := fun l s => by rw [hbk_pR]; rfl
    have o4 : ∀ (l : List VE) (s : Nat), ob (hbk h a (.inr (9, [.ref (a + 1), .ref (a + 2), .ref (a + 3), .ref (a + 4)]) :: l) s) a 9 := fun l s => obk_9 rfl rfl rfl rfl
    simp +decide only [e83_0, e83_1, e83_4, e83_5, e83_8, e83_10, e83_13, e83_14, e83_17, e83_19, e83_22, e83_23, e83_26, e83_28, e83_31, e83_32, e83_34, e83_36, e83_39, e83_40, e83_41, e83_42, o0, p0, o1, p1, o2, p2, o3, p3, o4, hbk_n, hbk_new, List.length_cons, List.length_nil, List.cons_append, List.nil_append, Nat.zero_add, Nat.reduceAdd, c401, c14, vkk_n, vkk_i, vkk_r, vkk_l, vkk_d, catS_nil, catS_i, catS_r, catS_l, catS_d, Nat.reduceAdd, Nat.reduceLeDiff, Nat.zero_le, Nat.le_refl, Option.bind_some, Option.toList_some, Option.toList_none, List.cons_append, List.nil_append, or_true, true_or, if_true, if_false, Int32.reduceLT, Int32.reduceLE, not_true, not_false_iff, true_and, and_true, false_and, and_false]
    exact hZ
  rw [e] at key
  rw [key]
  exact l_itok h a q wb 1217 S hw 71 0 rfl
