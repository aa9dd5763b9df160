/-! objects made: plans, states, whole -/
theorem ini_plan (h : VG) (a : Nat) (h1 : h.2.1 = a + 1) (h2 : h.1 a = .inr (6, vDef 6)) : ev 61 0 [some (.ref a), none] [] h = some (none, hbk h a (planL a 6) 1687) := by
  have e := hbk_one h1 h2
  rw [vdef_6] at e
  have key : ev 61 0 [some (.ref a), none] [] (hbk h a [.inr (6, [.null, .null, .int 0])] 0) = ev 61 26 [some (.ref a), some (.int (nI 0))] [] (hbk h a [.inr (6, [.ref (a + 1), .ref (a + 3), .int 0]), .inr (5, [.ref (a + 1 + 1), .int 256, .int 0]), .inl (2, 256, .inl fun _ => 0), .inl (6, 6, .inr (.inr (.inr (.inr fun _ => none))))] 265) := by
    have c6 : (6 : Int32).toNatClampNeg = 6 := by decide
    have c256 : (256 : Int32).toNatClampNeg = 256 := by decide
    have o0 : ∀ (l : List VE) (s : Nat), ob (hbk h a (.inr (6, [.null, .null, .int 0]) :: l) s) a 6 := fun l s => obk_6 rfl rfl rfl
    have k0 : ∀ (s : Nat), ev 51 0 [some (.ref (a + 1))] [] (hbk h a [.inr (6, [.null, .null, .int 0]), .inr (5, vDef 5)] s) = some (none, hbk h a [.inr (6, [.null, .null, .int 0]), .inr (5, [.ref (a + 1 + 1), .int 256, .int 0]), .inl (2, 256, .inl fun _ => 0)] (s + 256)) := fun s => (ini_mem (hbk h a [.inr (6, [.null, .null, .int 0]), .inr (5, vDef 5)] s) (a + 1) rfl (hbk_get (i := 1) rfl)).trans (congrArg (fun x => some (none, x)) (hbk_two (l := [.inr (6, [.null, .null, .int 0])])))
    have p1 : ∀ (l : List VE) (s : Nat), pR (hbk h a (.inr (6, [.null, .null, .int 0]) :: l) s) a 0 (a + 1) = hbk h a (.inr (6, [.ref (a + 1), .null, .int 0]) :: l) s := fun l s => by rw [hbk_pR]; rfl
    have o2 : ∀ (l : List VE) (s : Nat), ob (hbk h a (.inr (6, [.ref (a + 1), .null, .int 0]) :: l) s) a 6 := fun l s => obk_6 rfl rfl rfl
    have p2 : ∀ (l : List VE) (s : Nat), pR (hbk h a (.inr (6, [.ref (a + 1), .null, .int 0]) :: l) s) a 1 (a + 3) = hbk h a (.inr (6, [.ref (a + 1), .ref (a + 3), .int 0]) :: l) s := fun l s => by rw [hbk_pR]; rfl
    have o3 : ∀ (l : List VE) (s : Nat), ob (hbk h a (.inr (6, [.ref (a + 1), .ref (a + 3), .int 0]) :: l) s) a 6 := fun l s => obk_6 rfl rfl rfl
    generalize hZ : ev 61 26 [some (.ref a), some (.int (nI 0))] [] (hbk h a [.inr (6, [.ref (a + 1), .ref (a + 3), .int 0]), .inr (5, [.ref (a + 1 + 1), .int 256, .int 0]), .inl (2, 256, .inl fun _ => 0), .inl (6, 6, .inr (.inr (.inr (.inr fun _ => none))))] 265) = Z
    simp +decide only [e61_0, e61_1, e61_4, e61_5, e61_8b, e61_8, e61_9, e61_12, e61_15, e61_16, e61_18, e61_21, e61_24, e61_25, o0, k0, vnsl_5, p1, o2, p2, o3, hbk_n, hbk_new, List.length_cons, List.length_nil, List.cons_append, List.nil_append, Nat.zero_add, Nat.reduceAdd, c6, c256, vkk_n, vkk_i, vkk_r, vkk_l, vkk_d, catS_nil, catS_i, catS_r, catS_l, catS_d, Nat.reduceAdd, Nat.reduceLeDiff, Nat.zero_le, Nat.le_refl, Option.bind_some, Option.toList_some, Option.toList_none, List.cons_append, List.nil_append, or_true, true_or, if_true, if_false, Int32.reduceLT, Int32.reduceLE, not_true, not_false_iff, true_and, and_true, false_and, and_false]
    exact hZ
  have e2 : hbk h a [.inr (6, [.ref (a + 1), .ref (a + 3), .int 0]), .inr (5, [.ref (a + 1 + 1), .int 256, .int 0]), .inl (2, 256, .inl fun _ => 0), .inl (6, 6, .inr (.inr (.inr (.inr fun _ => none))))] 265 = hbk h a (planL a 0) 265 := by
    unfold planL
    rw [rowf_0]
    rfl
  rw [e2, l_iplan h a 6 0 265 rfl] at key
  rw [e] at key
  rw [key]
  simp +decide only [e61_51, vkk_n, vkk_i, vkk_r, vkk_l, vkk_d, catS_nil, catS_i, catS_r, catS_l, catS_d, Nat.reduceAdd, Nat.reduceLeDiff, Nat.zero_le, Nat.le_refl, Option.bind_some, Option.toList_some, Option.toList_none, List.cons_append, List.nil_append, or_true, true_or, if_true, if_false, Int32.reduceLT, Int32.reduceLE, not_true, not_false_iff, true_and, and_true, false_and, and_false]
theorem ini_stat (h : VG) (a : Nat) (h1 : h.2.1 = a + 1) (h2 : h.1 a = .inr (8, vDef 8)) : ev 79 0 [some (.ref a), none] [] h = some (none, hbk h a (statL a 8) 947) := by
  have e := hbk_one h1 h2
  rw [vdef_8] at e
  have key : ev 79 0 [some (.ref a), none] [] (hbk h a [.inr (8, [.null, .null, .null, .int 0])] 0) = ev 79 34 [some (.ref a), some (.int (nI 0))] [] (hbk h a [.inr (8, [.ref (a + 1), .ref (a + 3), .ref (a + 4), .int 0]), .inr (5, [.ref (a + 1 + 1), .int 256, .int 0]), .inl (2, 256, .inl fun _ => 0), .inl (5, 8, .inr (.inr (.inr (.inr fun _ => none)))), .inl (1, 8, .inr (.inl fun _ => 0))] 275) := by
    have c8 : (8 : Int32).toNatClampNeg = 8 := by decide
    have c256 : (256 : Int32).toNatClampNeg = 256 := by decide
    have o0 : ∀ (l : List VE) (s : Nat), ob (hbk h a (.inr (8, [.null, .null, .null, .int 0]) :: l) s) a 8 := fun l s => obk_8 rfl rfl rfl rfl
    have k0 : ∀ (s : Nat), ev 51 0 [some (.ref (a + 1))] [] (hbk h a [.inr (8, [.null, .null, .null, .int 0]), .inr (5, vDef 5)] s) = some (none, hbk h a [.inr (8, [.null, .null, .null, .int 0]), .inr (5, [.ref (a + 1 + 1), .int 256, .int 0]), .inl (2, 256, .inl fun _ => 0)] (s + 256)) := fun s => (ini_mem (hbk h a [.inr (8, [.null, .null, .null, .int 0]), .inr (5, vDef 5)] s) (a + 1) rfl (hbk_get (i := 1) rfl)).trans (congrArg (fun x => some (none, x)) (hbk_two (l := [.inr (8, [.null, .null, .null, .int 0])])))
    have p1 : ∀ (l : List VE) (s : Nat), pR (hbk h a (.inr (8, [.null, .null, .null, .int 0]) :: l) s) a 0 (a + 1) = hbk h a (.inr (8, [.ref (a + 1), .null, .null, .int 0]) :: l) s := fun l s => by rw [hbk_pR]; rfl
    have o2 : ∀ (l : List VE) (s : Nat), ob (hbk h a (.inr (8, [.ref (a + 1), .null, .null, .int 0]) :: l) s) a 8 := fun l s => obk_8 rfl rfl rfl rfl
    have p2 : ∀ (l : List VE) (s : Nat), pR (hbk h a (.inr (8, [.ref (a + 1), .null, .null, .int 0]) :: l) s) a 1 (a + 3) = hbk h a (.inr (8, [.ref (a + 1), .ref (a + 3), .null, .int 0]) :: l) s := fun l s => by rw [hbk_pR]; rfl
    have o3 : ∀ (l : List VE) (s : Nat), ob (hbk h a (.inr (8, [.ref (a + 1), .ref (a + 3), .null, .int 0]) :: l) s) a 8 := fun l s => obk_8 rfl rfl rfl rfl
    have p3 : ∀ (l : List VE) (s : Nat), pR (hbk h a (.inr (8, [.ref (a + 1), .ref (a + 3), .null, .int 0]) :: l) s) a 2 (a + 4) = hbk h a (.inr (8, [.ref (a + 1), .ref (a + 3), .ref (a + 4), .int 0]) :: l) s := fun l s => by rw [hbk_pR]; rfl
    have o4 : ∀ (l : List VE) (s : Nat), ob (hbk h a (.inr (8, [.ref (a + 1), .ref (a + 3), .ref (a + 4), .int 0]) :: l) s) a 8 := fun l s => obk_8 rfl rfl rfl rfl
    generalize hZ : ev 79 34 [some (.ref a), some (.int (nI 0))] [] (hbk h a [.inr (8, [.ref (a + 1), .ref (a + 3), .ref (a + 4), .int 0]), .inr (5, [.ref (a + 1 + 1), .int 256, .int 0]), .inl (2, 256, .inl fun _ => 0), .inl (5, 8, .inr (.inr (.inr (.inr fun _ => none)))), .inl (1, 8, .inr (.inl fun _ => 0))] 275) = Z
    simp +decide only [e79_0, e79_1, e79_4, e79_5, e79_8b, e79_8, e79_9, e79_12, e79_15, e79_16, e79_18, e79_21, e79_24, e79_25, e79_27, e79_29, e79_32, e79_33, o0, k0, vnsl_5, p1, o2, p2, o3, p3, o4, hbk_n, hbk_new, List.length_cons, List.length_nil, List.cons_append, List.nil_append, Nat.zero_add, Nat.reduceAdd, c8, c256, vkk_n, vkk_i, vkk_r, vkk_l, vkk_d, catS_nil, catS_i, catS_r, catS_l, catS_d, Nat.reduceAdd, Nat.reduceLeDiff, Nat.zero_le, Nat.le_refl, Option.bind_some, Option.toList_some, Option.toList_none, List.cons_append, List.nil_append, or_true, true_or, if_true, if_false, Int32.reduceLT, Int32.reduceLE, not_true, not_false_iff, true_and, and_true, false_and, and_false]
    exact hZ
  have e2 : hbk h a [.inr (8, [.ref (a + 1), .ref (a + 3), .ref (a + 4), .int 0]), .inr (5, [.ref (a + 1 + 1), .int 256, .int 0]), .inl (2, 256, .inl fun _ => 0), .inl (5, 8, .inr (.inr (.inr (.inr fun _ => none)))), .inl (1, 8, .inr (.inl fun _ => 0))] 275 = hbk h a (statL a 0) 275 := by
    unfold statL
    rw [rowf_0]
    rfl
  rw [e2, l_istat h a 8 0 275 rfl] at key
  rw [e] at key
  rw [key]
  simp +decide only [e79_59, vkk_n, vkk_i, vkk_r, vkk_l, vkk_d, catS_nil, catS_i, catS_r, catS_l, catS_d, Nat.reduceAdd, Nat.reduceLeDiff, Nat.zero_le, Nat.le_refl, Option.bind_some, Option.toList_some, Option.toList_none, List.cons_append, List.nil_append, or_true, true_or, if_true, if_false, Int32.reduceLT, Int32.reduceLE, not_true, not_false_iff, true_and, and_true, false_and, and_false]
