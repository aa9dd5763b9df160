/-! objects made: the model, its rows -/
theorem set_tags {fs : List Value} {t : List Nat} {k : Nat} {v : Value} (e : fs.map vtag = t) (q : t[k]? = some (vtag v)) : (fs.set k v).map vtag = t ∧ vset fs k v = fs.set k v := by
  have hk : fs[k]?.map vtag = some (vtag v) := by rw [← List.getElem?_map, e, q]
  refine ⟨?_, by unfold vset; rw [if_pos hk]⟩
  rw [List.map_set, e]
  apply List.ext_getElem?
  intro i
  by_cases y : i = k
  · subst y
    have hl : i < t.length := (List.getElem?_eq_some_iff.mp q).1
    rw [List.getElem?_set_self hl, q]
  · rw [List.getElem?_set_ne (by omega)]
theorem app_len {l : List VE} {n : Nat} (c : VE) (hl : l.length = n) : (l ++ [c]).length = n + 1 := by rw [List.length_append, hl]; rfl
theorem hbk_last {h : VG} {m n s : Nat} {O c : VE} {l : List VE} (hl : l.length = n) : (hbk h m (O :: (l ++ [c])) s).1 (m + (n + 1)) = c := hbk_get (by rw [List.getElem?_cons_succ, ← hl, List.getElem?_append_right (Nat.le_refl _), Nat.sub_self]; rfl)
theorem hbk_slast {h : VG} {m n s : Nat} {O c : VE} {l : List VE} (d : VE) (hl : l.length = n) : hset (hbk h m (O :: (l ++ [c])) s) (m + (n + 1)) d = hbk h m (O :: (l ++ [d])) s := by
  rw [hbk_set d (by rw [List.length_cons, List.length_append, hl]; show n + 1 < n + 1 + 1; omega), List.set_cons_succ, List.set_append_right _ _ (by omega), hl, Nat.sub_self]
  rfl
theorem hbk_wIl {h : VG} {m n s t N i : Nat} {O : VE} {l : List VE} {f : Nat → Int32} {x : Int32} (hl : l.length = n) : wI (hbk h m (O :: (l ++ [.inl (t, N, .inl f)])) s) (m + (n + 1)) i x = hbk h m (O :: (l ++ [.inl (t, N, .inl (upd f i x))])) s := by
  unfold wI
  rw [hbk_last hl]
  exact hbk_slast _ hl

theorem y136_4 (h : VG) (m : Nat) (F : List Value) (l : List VE) (s : Nat) (L : VL) (hF : F.map vtag = vShape 11) (hl : l.length = 0) : ev 136 4 (some (.ref m) :: L) [] (hbk h m (.inr (11, F) :: l) s) = ev 136 13 (some (.ref m) :: L) [] (hbk h m (.inr (11, F.set 1 (.ref (m + 1))) :: (l ++ [.inl (2, 2000, .inl fun _ => 0)])) (s + 2000)) ∧ (F.set 1 (.ref (m + 1))).map vtag = vShape 11 := by
  have c2000 : (2000 : Int32).toNatClampNeg = 2000 := by decide
  obtain ⟨t1, t2⟩ := set_tags (v := .ref (m + 1)) hF (show (vShape 11)[1]? = some (vtag (.ref (m + 1))) from rfl)
  refine ⟨?_, t1⟩
  have n0 : ∀ s, (hbk h m (.inr (11, F) :: l) s).2.1 = m + 1 := fun s => by rw [hbk_n, List.length_cons, hl]
  have o0 : ∀ l s, ob (hbk h m (.inr (11, F) :: l) s) m 11 := fun l s => hbk_ob hF
  have p0 : ∀ l s, pR (hbk h m (.inr (11, F) :: l) s) m 1 (m + 1) = hbk h m (.inr (11, F.set 1 (.ref (m + 1))) :: l) s := fun l s => by rw [hbk_pR, t2]
  simp +decide only [e136_4, e136_5, e136_8, e136_10, n0, hbk_new, List.cons_append, o0, p0, c2000, vkk_n, vkk_i, vkk_r, vkk_l, vkk_d, catS_nil, catS_i, catS_r, catS_l, catS_d, Nat.reduceAdd, Nat.reduceLeDiff, Nat.zero_le, Nat.le_refl, Option.bind_some, Option.toList_some, Option.toList_none, List.cons_append, List.nil_append, or_true, true_or, if_true, if_false, Int32.reduceLT, Int32.reduceLE, not_true, not_false_iff, true_and, and_true, false_and, and_false]
theorem y136_13 (h : VG) (m : Nat) (F : List Value) (l : List VE) (s : Nat) (L : VL) (hF : F.map vtag = vShape 11) (hl : l.length = 1) : ev 136 13 (some (.ref m) :: L) [] (hbk h m (.inr (11, F) :: l) s) = ev 136 22 (some (.ref m) :: L) [] (hbk h m (.inr (11, F.set 3 (.ref (m + 2))) :: (l ++ [.inl (2, 2000, .inl fun _ => 0)])) (s + 2000)) ∧ (F.set 3 (.ref (m + 2))).map vtag = vShape 11 := by
  have c2000 : (2000 : Int32).toNatClampNeg = 2000 := by decide
  obtain ⟨t1, t2⟩ := set_tags (v := .ref (m + 2)) hF (show (vShape 11)[3]? = some (vtag (.ref (m + 2))) from rfl)
  refine ⟨?_, t1⟩
  have n0 : ∀ s, (hbk h m (.inr (11, F) :: l) s).2.1 = m + 2 := fun s => by rw [hbk_n, List.length_cons, hl]
  have o0 : ∀ l s, ob (hbk h m (.inr (11, F) :: l) s) m 11 := fun l s => hbk_ob hF
  have p0 : ∀ l s, pR (hbk h m (.inr (11, F) :: l) s) m 3 (m + 2) = hbk h m (.inr (11, F.set 3 (.ref (m + 2))) :: l) s := fun l s => by rw [hbk_pR, t2]
  simp +decide only [e136_13, e136_14, e136_17, e136_19, n0, hbk_new, List.cons_append, o0, p0, c2000, vkk_n, vkk_i, vkk_r, vkk_l, vkk_d, catS_nil, catS_i, catS_r, catS_l, catS_d, Nat.reduceAdd, Nat.reduceLeDiff, Nat.zero_le, Nat.le_refl, Option.bind_some, Option.toList_some, Option.toList_none, List.cons_append, List.nil_append, or_true, true_or, if_true, if_false, Int32.reduceLT, Int32.reduceLE, not_true, not_false_iff, true_and, and_true, false_and, and_false]
theorem y136_22 (h : VG) (m : Nat) (F : List Value) (l : List VE) (s : Nat) (L : VL) (hF : F.map vtag = vShape 11) (hl : l.length = 2) : ev 136 22 (some (.ref m) :: L) [] (hbk h m (.inr (11, F) :: l) s) = ev 136 31 (some (.ref m) :: L) [] (hbk h m (.inr (11, F.set 5 (.ref (m + 3))) :: (l ++ [.inl (0, 403, .inl fun _ => 0)])) (s + 403)) ∧ (F.set 5 (.ref (m + 3))).map vtag = vShape 11 := by
  have c403 : (403 : Int32).toNatClampNeg = 403 := by decide
  obtain ⟨t1, t2⟩ := set_tags (v := .ref (m + 3)) hF (show (vShape 11)[5]? = some (vtag (.ref (m + 3))) from rfl)
  refine ⟨?_, t1⟩
  have n0 : ∀ s, (hbk h m (.inr (11, F) :: l) s).2.1 = m + 3 := fun s => by rw [hbk_n, List.length_cons, hl]
  have o0 : ∀ l s, ob (hbk h m (.inr (11, F) :: l) s) m 11 := fun l s => hbk_ob hF
  have p0 : ∀ l s, pR (hbk h m (.inr (11, F) :: l) s) m 5 (m + 3) = hbk h m (.inr (11, F.set 5 (.ref (m + 3))) :: l) s := fun l s => by rw [hbk_pR, t2]
  simp +decide only [e136_22, e136_23, e136_26, e136_28, n0, hbk_new, List.cons_append, o0, p0, c403, vkk_n, vkk_i, vkk_r, vkk_l, vkk_d, catS_nil, catS_i, catS_r, catS_l, catS_d, Nat.reduceAdd, Nat.reduceLeDiff, Nat.zero_le, Nat.le_refl, Option.bind_some, Option.toList_some, Option.toList_none, List.cons_append, List.nil_append, or_true, true_or, if_true, if_false, Int32.reduceLT, Int32.reduceLE, not_true, not_false_iff, true_and, and_true, false_and, and_false]
theorem y136_31 (h : VG) (m : Nat) (F : List Value) (l : List VE) (s : Nat) (L : VL) (hF : F.map vtag = vShape 11) (hl : l.length = 3) : ev 136 31 (some (.ref m) :: L) [] (hbk h m (.inr (11, F) :: l) s) = ev 136 40 (some (.ref m) :: L) [] (hbk h m (.inr (11, F.set 6 (.ref (m + 4))) :: (l ++ [.inl (0, 403, .inl fun _ => 0)])) (s + 403)) ∧ (F.set 6 (.ref (m + 4))).map vtag = vShape 11 := by
  have c403 : (403 : Int32).toNatClampNeg = 403 := by decide
  obtain ⟨t1, t2⟩ := set_tags (v := .ref (m + 4)) hF (show (vShape 11)[6]? = some (vtag (.ref (m + 4))) from rfl)
  refine ⟨?_, t1⟩
  have n0 : ∀ s, (hbk h m (.inr (11, F) :: l) s).2.1 = m + 4 := fun s => by rw [hbk_n, List.length_cons, hl]
  have o0 : ∀ l s, ob (hbk h m (.inr (11, F) :: l) s) m 11 := fun l s => hbk_ob hF
  have p0 : ∀ l s, pR (hbk h m (.inr (11, F) :: l) s) m 6 (m + 4) = hbk h m (.inr (11, F.set 6 (.ref (m + 4))) :: l) s := fun l s => by rw [hbk_pR, t2]
  simp +decide only [e136_31, e136_32, e136_35, e136_37, n0, hbk_new, List.cons_append, o0, p0, c403, vkk_n, vkk_i, vkk_r, vkk_l, vkk_d, catS_nil, catS_i, catS_r, catS_l, catS_d, Nat.reduceAdd, Nat.reduceLeDiff, Nat.zero_le, Nat.le_refl, Option.bind_some, Option.toList_some, Option.toList_none, List.cons_append, List.nil_append, or_true, true_or, if_true, if_false, Int32.reduceLT, Int32.reduceLE, not_true, not_false_iff, true_and, and_true, false_and, and_false]
theorem y136_40 (h : VG) (m : Nat) (F : List Value) (l : List VE) (s : Nat) (L : VL) (hF : F.map vtag = vShape 11) (hl : l.length = 4) : ev 136 40 (some (.ref m) :: L) [] (hbk h m (.inr (11, F) :: l) s) = ev 136 49 (some (.ref m) :: L) [] (hbk h m (.inr (11, F.set 7 (.ref (m + 5))) :: (l ++ [.inl (0, 403, .inl fun _ => 0)])) (s + 403)) ∧ (F.set 7 (.ref (m + 5))).map vtag = vShape 11 := by
  have c403 : (403 : Int32).toNatClampNeg = 403 := by decide
  obtain ⟨t1, t2⟩ := set_tags (v := .ref (m + 5)) hF (show (vShape 11)[7]? = some (vtag (.ref (m + 5))) from rfl)
  refine ⟨?_, t1⟩
  have n0 : ∀ s, (hbk h m (.inr (11, F) :: l) s).2.1 = m + 5 := fun s => by rw [hbk_n, List.length_cons, hl]
  have o0 : ∀ l s, ob (hbk h m (.inr (11, F) :: l) s) m 11 := fun l s => hbk_ob hF
  have p0 : ∀ l s, pR (hbk h m (.inr (11, F) :: l) s) m 7 (m + 5) = hbk h m (.inr (11, F.set 7 (.ref (m + 5))) :: l) s := fun l s => by rw [hbk_pR, t2]
  simp +decide only [e136_40, e136_41, e136_44, e136_46, n0, hbk_new, List.cons_append, o0, p0, c403, vkk_n, vkk_i, vkk_r, vkk_l, vkk_d, catS_nil, catS_i, catS_r, catS_l, catS_d, Nat.reduceAdd, Nat.reduceLeDiff, Nat.zero_le, Nat.le_refl, Option.bind_some, Option.toList_some, Option.toList_none, List.cons_append, List.nil_append, or_true, true_or, if_true, if_false, Int32.reduceLT, Int32.reduceLE, not_true, not_false_iff, true_and, and_true, false_and, and_false]
theorem y136_49 (h : VG) (m : Nat) (F : List Value) (l : List VE) (s : Nat) (L : VL) (hF : F.map vtag = vShape 11) (hl : l.length = 5) : ev 136 49 (some (.ref m) :: L) [] (hbk h m (.inr (11, F) :: l) s) = ev 136 58 (some (.ref m) :: L) [] (hbk h m (.inr (11, F.set 8 (.ref (m + 6))) :: (l ++ [.inl (1, 403, .inr (.inl fun _ => 0))])) (s + 403)) ∧ (F.set 8 (.ref (m + 6))).map vtag = vShape 11 := by
  have c403 : (403 : Int32).toNatClampNeg = 403 := by decide
  obtain ⟨t1, t2⟩ := set_tags (v := .ref (m + 6)) hF (show (vShape 11)[8]? = some (vtag (.ref (m + 6))) from rfl)
  refine ⟨?_, t1⟩
  have n0 : ∀ s, (hbk h m (.inr (11, F) :: l) s).2.1 = m + 6 := fun s => by rw [hbk_n, List.length_cons, hl]
  have o0 : ∀ l s, ob (hbk h m (.inr (11, F) :: l) s) m 11 := fun l s => hbk_ob hF
  have p0 : ∀ l s, pR (hbk h m (.inr (11, F) :: l) s) m 8 (m + 6) = hbk h m (.inr (11, F.set 8 (.ref (m + 6))) :: l) s := fun l s => by rw [hbk_pR, t2]
  simp +decide only [e136_49, e136_50, e136_53, e136_55, n0, hbk_new, List.cons_append, o0, p0, c403, vkk_n, vkk_i, vkk_r, vkk_l, vkk_d, catS_nil, catS_i, catS_r, catS_l, catS_d, Nat.reduceAdd, Nat.reduceLeDiff, Nat.zero_le, Nat.le_refl, Option.bind_some, Option.toList_some, Option.toList_none, List.cons_append, List.nil_append, or_true, true_or, if_true, if_false, Int32.reduceLT, Int32.reduceLE, not_true, not_false_iff, true_and, and_true, false_and, and_false]
theorem y136_58 (h : VG) (m : Nat) (F : List Value) (l : List VE) (s : Nat) (L : VL) (hF : F.map vtag = vShape 11) (hl : l.length = 6) : ev 136 58 (some (.ref m) :: L) [] (hbk h m (.inr (11, F) :: l) s) = ev 136 66 (some (.ref m) :: L) [] (hbk h m (.inr (11, F.set 9 (.ref (m + 7))) :: (l ++ [.inl (1, 14, .inr (.inl fun _ => 0))])) (s + 14)) ∧ (F.set 9 (.ref (m + 7))).map vtag = vShape 11 := by
  have c14 : (14 : Int32).toNatClampNeg = 14 := by decide
  obtain ⟨t1, t2⟩ := set_tags (v := .ref (m + 7)) hF (show (vShape 11)[9]? = some (vtag (.ref (m + 7))) from rfl)
  refine ⟨?_, t1⟩
  have n0 : ∀ s, (hbk h m (.inr (11, F) :: l) s).2.1 = m + 7 := fun s => by rw [hbk_n, List.length_cons, hl]
  have o0 : ∀ l s, ob (hbk h m (.inr (11, F) :: l) s) m 11 := fun l s => hbk_ob hF
  have p0 : ∀ l s, pR (hbk h m (.inr (11, F) :: l) s) m 9 (m + 7) = hbk h m (.inr (11, F.set 9 (.ref (m + 7))) :: l) s := fun l s => by rw [hbk_pR, t2]
  simp +decide only [e136_58, e136_59, e136_61, e136_63, n0, hbk_new, List.cons_append, o0, p0, c14, vkk_n, vkk_i, vkk_r, vkk_l, vkk_d, catS_nil, catS_i, catS_r, catS_l, catS_d, Nat.reduceAdd, Nat.reduceLeDiff, Nat.zero_le, Nat.le_refl, Option.bind_some, Option.toList_some, Option.toList_none, List.cons_append, List.nil_append, or_true, true_or, if_true, if_false, Int32.reduceLT, Int32.reduceLE, not_true, not_false_iff, true_and, and_true, false_and, and_false]
theorem y136_66 (h : VG) (m : Nat) (F : List Value) (l : List VE) (s : Nat) (L : VL) (hF : F.map vtag = vShape 11) : ev 136 66 (some (.ref m) :: L) [] (hbk h m (.inr (11, F) :: l) s) = ev 136 71 (some (.ref m) :: L) [] (hbk h m (.inr (11, F.set 16 (.int (-1))) :: l) s) ∧ (F.set 16 (.int (-1))).map vtag = vShape 11 := by
  obtain ⟨t1, t2⟩ := set_tags (v := .int (-1)) hF (show (vShape 11)[16]? = some (vtag (.int (-1))) from rfl)
  refine ⟨?_, t1⟩
  have o0 : ∀ l s, ob (hbk h m (.inr (11, F) :: l) s) m 11 := fun l s => hbk_ob hF
  have p0 : ∀ l s, pI (hbk h m (.inr (11, F) :: l) s) m 16 (-1) = hbk h m (.inr (11, F.set 16 (.int (-1))) :: l) s := fun l s => by rw [hbk_pI, t2]
  simp +decide only [e136_66, e136_67, e136_68, o0, p0, vkk_n, vkk_i, vkk_r, vkk_l, vkk_d, catS_nil, catS_i, catS_r, catS_l, catS_d, Nat.reduceAdd, Nat.reduceLeDiff, Nat.zero_le, Nat.le_refl, Option.bind_some, Option.toList_some, Option.toList_none, List.cons_append, List.nil_append, or_true, true_or, if_true, if_false, Int32.reduceLT, Int32.reduceLE, not_true, not_false_iff, true_and, and_true, false_and, and_false]
theorem y136_71 (h : VG) (m : Nat) (F : List Value) (l : List VE) (s : Nat) (L : VL) (hF : F.map vtag = vShape 11) : ev 136 71 (some (.ref m) :: L) [] (hbk h m (.inr (11, F) :: l) s) = ev 136 78 (some (.ref m) :: L) [] (hbk h m (.inr (11, F.set 18 (.int 256)) :: l) s) ∧ (F.set 18 (.int 256)).map vtag = vShape 11 := by
  obtain ⟨t1, t2⟩ := set_tags (v := .int 256) hF (show (vShape 11)[18]? = some (vtag (.int 256)) from rfl)
  refine ⟨?_, t1⟩
  have o0 : ∀ l s, ob (hbk h m (.inr (11, F) :: l) s) m 11 := fun l s => hbk_ob hF
  have p0 : ∀ l s, pI (hbk h m (.inr (11, F) :: l) s) m 18 256 = hbk h m (.inr (11, F.set 18 (.int 256)) :: l) s := fun l s => by rw [hbk_pI, t2]
  simp +decide only [e136_71, e136_72, e136_75, o0, p0, vkk_n, vkk_i, vkk_r, vkk_l, vkk_d, catS_nil, catS_i, catS_r, catS_l, catS_d, Nat.reduceAdd, Nat.reduceLeDiff, Nat.zero_le, Nat.le_refl, Option.bind_some, Option.toList_some, Option.toList_none, List.cons_append, List.nil_append, or_true, true_or, if_true, if_false, Int32.reduceLT, Int32.reduceLE, not_true, not_false_iff, true_and, and_true, false_and, and_false]
theorem y136_78 (h : VG) (m : Nat) (F : List Value) (l : List VE) (s : Nat) (L : VL) (hF : F.map vtag = vShape 11) (hl : l.length = 7) : ev 136 78 (some (.ref m) :: L) [] (hbk h m (.inr (11, F) :: l) s) = ev 136 86 (some (.ref m) :: L) [] (hbk h m (.inr (11, F.set 20 (.ref (m + 8))) :: (l ++ [.inl (0, 6, .inl fun _ => 0)])) (s + 6)) ∧ (F.set 20 (.ref (m + 8))).map vtag = vShape 11 := by
  have c6 : (6 : Int32).toNatClampNeg = 6 := by decide
  obtain ⟨t1, t2⟩ := set_tags (v := .ref (m + 8)) hF (show (vShape 11)[20]? = some (vtag (.ref (m + 8))) from rfl)
  refine ⟨?_, t1⟩
  have n0 : ∀ s, (hbk h m (.inr (11, F) :: l) s).2.1 = m + 8 := fun s => by rw [hbk_n, List.length_cons, hl]
  have o0 : ∀ l s, ob (hbk h m (.inr (11, F) :: l) s) m 11 := fun l s => hbk_ob hF
  have p0 : ∀ l s, pR (hbk h m (.inr (11, F) :: l) s) m 20 (m + 8) = hbk h m (.inr (11, F.set 20 (.ref (m + 8))) :: l) s := fun l s => by rw [hbk_pR, t2]
  simp +decide only [e136_78, e136_79, e136_81, e136_83, n0, hbk_new, List.cons_append, o0, p0, c6, vkk_n, vkk_i, vkk_r, vkk_l, vkk_d, catS_nil, catS_i, catS_r, catS_l, catS_d, Nat.reduceAdd, Nat.reduceLeDiff, Nat.zero_le, Nat.le_refl, Option.bind_some, Option.toList_some, Option.toList_none, List.cons_append, List.nil_append, or_true, true_or, if_true, if_false, Int32.reduceLT, Int32.reduceLE, not_true, not_false_iff, true_and, and_true, false_and, and_false]
theorem y136_86 (h : VG) (m : Nat) (F : List Value) (l : List VE) (s : Nat) (L : VL) (hF : F.map vtag = vShape 11) (hl : l.length = 8) : ev 136 86 (some (.ref m) :: L) [] (hbk h m (.inr (11, F) :: l) s) = ev 136 94 (some (.ref m) :: L) [] (hbk h m (.inr (11, F.set 21 (.ref (m + 9))) :: (l ++ [.inl (0, 48, .inl fun _ => 0)])) (s + 48)) ∧ (F.set 21 (.ref (m + 9))).map vtag = vShape 11 := by
  have c48 : (48 : Int32).toNatClampNeg = 48 := by decide
  obtain ⟨t1, t2⟩ := set_tags (v := .ref (m + 9)) hF (show (vShape 11)[21]? = some (vtag (.ref (m + 9))) from rfl)
  refine ⟨?_, t1⟩
  have n0 : ∀ s, (hbk h m (.inr (11, F) :: l) s).2.1 = m + 9 := fun s => by rw [hbk_n, List.length_cons, hl]
  have o0 : ∀ l s, ob (hbk h m (.inr (11, F) :: l) s) m 11 := fun l s => hbk_ob hF
  have p0 : ∀ l s, pR (hbk h m (.inr (11, F) :: l) s) m 21 (m + 9) = hbk h m (.inr (11, F.set 21 (.ref (m + 9))) :: l) s := fun l s => by rw [hbk_pR, t2]
  simp +decide only [e136_86, e136_87, e136_89, e136_91, n0, hbk_new, List.cons_append, o0, p0, c48, vkk_n, vkk_i, vkk_r, vkk_l, vkk_d, catS_nil, catS_i, catS_r, catS_l, catS_d, Nat.reduceAdd, Nat.reduceLeDiff, Nat.zero_le, Nat.le_refl, Option.bind_some, Option.toList_some, Option.toList_none, List.cons_append, List.nil_append, or_true, true_or, if_true, if_false, Int32.reduceLT, Int32.reduceLE, not_true, not_false_iff, true_and, and_true, false_and, and_false]
theorem y136_94 (h : VG) (m : Nat) (F : List Value) (l : List VE) (s : Nat) (L : VL) (hF : F.map vtag = vShape 11) (hl : l.length = 9) : ev 136 94 (some (.ref m) :: L) [] (hbk h m (.inr (11, F) :: l) s) = ev 136 102 (some (.ref m) :: L) [] (hbk h m (.inr (11, F.set 22 (.ref (m + 10))) :: (l ++ [.inl (0, 48, .inl fun _ => 0)])) (s + 48)) ∧ (F.set 22 (.ref (m + 10))).map vtag = vShape 11 := by
  have c48 : (48 : Int32).toNatClampNeg = 48 := by decide
  obtain ⟨t1, t2⟩ := set_tags (v := .ref (m + 10)) hF (show (vShape 11)[22]? = some (vtag (.ref (m + 10))) from rfl)
  refine ⟨?_, t1⟩
  have n0 : ∀ s, (hbk h m (.inr (11, F) :: l) s).2.1 = m + 10 := fun s => by rw [hbk_n, List.length_cons, hl]
  have o0 : ∀ l s, ob (hbk h m (.inr (11, F) :: l) s) m 11 := fun l s => hbk_ob hF
  have p0 : ∀ l s, pR (hbk h m (.inr (11, F) :: l) s) m 22 (m + 10) = hbk h m (.inr (11, F.set 22 (.ref (m + 10))) :: l) s := fun l s => by rw [hbk_pR, t2]
  simp +decide only [e136_94, e136_95, e136_97, e136_99, n0, hbk_new, List.cons_append, o0, p0, c48, vkk_n, vkk_i, vkk_r, vkk_l, vkk_d, catS_nil, catS_i, catS_r, catS_l, catS_d, Nat.reduceAdd, Nat.reduceLeDiff, Nat.zero_le, Nat.le_refl, Option.bind_some, Option.toList_some, Option.toList_none, List.cons_append, List.nil_append, or_true, true_or, if_true, if_false, Int32.reduceLT, Int32.reduceLE, not_true, not_false_iff, true_and, and_true, false_and, and_false]
theorem y136_102 (h : VG) (m : Nat) (F : List Value) (l : List VE) (s : Nat) (L : VL) (hF : F.map vtag = vShape 11) (hl : l.length = 10) : ev 136 102 (some (.ref m) :: L) [] (hbk h m (.inr (11, F) :: l) s) = ev 136 111 (some (.ref m) :: L) [] (hbk h m (.inr (11, F.set 23 (.ref (m + 11))) :: (l ++ [.inl (0, 256, .inl fun _ => 0)])) (s + 256)) ∧ (F.set 23 (.ref (m + 11))).map vtag = vShape 11 := by
  have c256 : (256 : Int32).toNatClampNeg = 256 := by decide
  obtain ⟨t1, t2⟩ := set_tags (v := .ref (m + 11)) hF (show (vShape 11)[23]? = some (vtag (.ref (m + 11))) from rfl)
  refine ⟨?_, t1⟩
  have n0 : ∀ s, (hbk h m (.inr (11, F) :: l) s).2.1 = m + 11 := fun s => by rw [hbk_n, List.length_cons, hl]
  have o0 : ∀ l s, ob (hbk h m (.inr (11, F) :: l) s) m 11 := fun l s => hbk_ob hF
  have p0 : ∀ l s, pR (hbk h m (.inr (11, F) :: l) s) m 23 (m + 11) = hbk h m (.inr (11, F.set 23 (.ref (m + 11))) :: l) s := fun l s => by rw [hbk_pR, t2]
  simp +decide only [e136_102, e136_103, e136_106, e136_108, n0, hbk_new, List.cons_append, o0, p0, c256, vkk_n, vkk_i, vkk_r, vkk_l, vkk_d, catS_nil, catS_i, catS_r, catS_l, catS_d, Nat.reduceAdd, Nat.reduceLeDiff, Nat.zero_le, Nat.le_refl, Option.bind_some, Option.toList_some, Option.toList_none, List.cons_append, List.nil_append, or_true, true_or, if_true, if_false, Int32.reduceLT, Int32.reduceLE, not_true, not_false_iff, true_and, and_true, false_and, and_false]
theorem y136_111 (h : VG) (m : Nat) (F : List Value) (l : List VE) (s : Nat) (L : VL) (hF : F.map vtag = vShape 11) (hl : l.length = 11) : ev 136 111 (some (.ref m) :: L) [] (hbk h m (.inr (11, F) :: l) s) = ev 136 119 (some (.ref m) :: L) [] (hbk h m (.inr (11, F.set 27 (.ref (m + 12))) :: (l ++ [.inl (0, 6, .inl fun _ => 0)])) (s + 6)) ∧ (F.set 27 (.ref (m + 12))).map vtag = vShape 11 := by
  have c6 : (6 : Int32).toNatClampNeg = 6 := by decide
  obtain ⟨t1, t2⟩ := set_tags (v := .ref (m + 12)) hF (show (vShape 11)[27]? = some (vtag (.ref (m + 12))) from rfl)
  refine ⟨?_, t1⟩
  have n0 : ∀ s, (hbk h m (.inr (11, F) :: l) s).2.1 = m + 12 := fun s => by rw [hbk_n, List.length_cons, hl]
  have o0 : ∀ l s, ob (hbk h m (.inr (11, F) :: l) s) m 11 := fun l s => hbk_ob hF
  have p0 : ∀ l s, pR (hbk h m (.inr (11, F) :: l) s) m 27 (m + 12) = hbk h m (.inr (11, F.set 27 (.ref (m + 12))) :: l) s := fun l s => by rw [hbk_pR, t2]
  simp +decide only [e136_111, e136_112, e136_114, e136_116, n0, hbk_new, List.cons_append, o0, p0, c6, vkk_n, vkk_i, vkk_r, vkk_l, vkk_d, catS_nil, catS_i, catS_r, catS_l, catS_d, Nat.reduceAdd, Nat.reduceLeDiff, Nat.zero_le, Nat.le_refl, Option.bind_some, Option.toList_some, Option.toList_none, List.cons_append, List.nil_append, or_true, true_or, if_true, if_false, Int32.reduceLT, Int32.reduceLE, not_true, not_false_iff, true_and, and_true, false_and, and_false]
theorem y136_119 (h : VG) (m : Nat) (F : List Value) (l : List VE) (s : Nat) (L : VL) (hF : F.map vtag = vShape 11) (hl : l.length = 12) : ev 136 119 (some (.ref m) :: L) [] (hbk h m (.inr (11, F) :: l) s) = ev 136 127 (some (.ref m) :: L) [] (hbk h m (.inr (11, F.set 28 (.ref (m + 13))) :: (l ++ [.inl (0, 48, .inl fun _ => 0)])) (s + 48)) ∧ (F.set 28 (.ref (m + 13))).map vtag = vShape 11 := by
  have c48 : (48 : Int32).toNatClampNeg = 48 := by decide
  obtain ⟨t1, t2⟩ := set_tags (v := .ref (m + 13)) hF (show (vShape 11)[28]? = some (vtag (.ref (m + 13))) from rfl)
  refine ⟨?_, t1⟩
  have n0 : ∀ s, (hbk h m (.inr (11, F) :: l) s).2.1 = m + 13 := fun s => by rw [hbk_n, List.length_cons, hl]
  have o0 : ∀ l s, ob (hbk h m (.inr (11, F) :: l) s) m 11 := fun l s => hbk_ob hF
  have p0 : ∀ l s, pR (hbk h m (.inr (11, F) :: l) s) m 28 (m + 13) = hbk h m (.inr (11, F.set 28 (.ref (m + 13))) :: l) s := fun l s => by rw [hbk_pR, t2]
  simp +decide only [e136_119, e136_120, e136_122, e136_124, n0, hbk_new, List.cons_append, o0, p0, c48, vkk_n, vkk_i, vkk_r, vkk_l, vkk_d, catS_nil, catS_i, catS_r, catS_l, catS_d, Nat.reduceAdd, Nat.reduceLeDiff, Nat.zero_le, Nat.le_refl, Option.bind_some, Option.toList_some, Option.toList_none, List.cons_append, List.nil_append, or_true, true_or, if_true, if_false, Int32.reduceLT, Int32.reduceLE, not_true, not_false_iff, true_and, and_true, false_and, and_false]
theorem y136_127 (h : VG) (m : Nat) (F : List Value) (l : List VE) (s : Nat) (L : VL) (hF : F.map vtag = vShape 11) (hl : l.length = 13) : ev 136 127 (some (.ref m) :: L) [] (hbk h m (.inr (11, F) :: l) s) = ev 136 135 (some (.ref m) :: L) [] (hbk h m (.inr (11, F.set 29 (.ref (m + 14))) :: (l ++ [.inl (0, 48, .inl fun _ => 0)])) (s + 48)) ∧ (F.set 29 (.ref (m + 14))).map vtag = vShape 11 := by
  have c48 : (48 : Int32).toNatClampNeg = 48 := by decide
  obtain ⟨t1, t2⟩ := set_tags (v := .ref (m + 14)) hF (show (vShape 11)[29]? = some (vtag (.ref (m + 14))) from rfl)
  refine ⟨?_, t1⟩
  have n0 : ∀ s, (hbk h m (.inr (11, F) :: l) s).2.1 = m + 14 := fun s => by rw [hbk_n, List.length_cons, hl]
  have o0 : ∀ l s, ob (hbk h m (.inr (11, F) :: l) s) m 11 := fun l s => hbk_ob hF
  have p0 : ∀ l s, pR (hbk h m (.inr (11, F) :: l) s) m 29 (m + 14) = hbk h m (.inr (11, F.set 29 (.ref (m + 14))) :: l) s := fun l s => by rw [hbk_pR, t2]
  simp +decide only [e136_127, e136_128, e136_130, e136_132, n0, hbk_new, List.cons_append, o0, p0, c48, vkk_n, vkk_i, vkk_r, vkk_l, vkk_d, catS_nil, catS_i, catS_r, catS_l, catS_d, Nat.reduceAdd, Nat.reduceLeDiff, Nat.zero_le, Nat.le_refl, Option.bind_some, Option.toList_some, Option.toList_none, List.cons_append, List.nil_append, or_true, true_or, if_true, if_false, Int32.reduceLT, Int32.reduceLE, not_true, not_false_iff, true_and, and_true, false_and, and_false]
theorem y136_135 (h : VG) (m : Nat) (F : List Value) (l : List VE) (s : Nat) (L : VL) (hF : F.map vtag = vShape 11) (hl : l.length = 14) : ev 136 135 (some (.ref m) :: L) [] (hbk h m (.inr (11, F) :: l) s) = ev 136 144 (some (.ref m) :: L) [] (hbk h m (.inr (11, F.set 30 (.ref (m + 15))) :: (l ++ [.inl (0, 256, .inl fun _ => 0)])) (s + 256)) ∧ (F.set 30 (.ref (m + 15))).map vtag = vShape 11 := by
  have c256 : (256 : Int32).toNatClampNeg = 256 := by decide
  obtain ⟨t1, t2⟩ := set_tags (v := .ref (m + 15)) hF (show (vShape 11)[30]? = some (vtag (.ref (m + 15))) from rfl)
  refine ⟨?_, t1⟩
  have n0 : ∀ s, (hbk h m (.inr (11, F) :: l) s).2.1 = m + 15 := fun s => by rw [hbk_n, List.length_cons, hl]
  have o0 : ∀ l s, ob (hbk h m (.inr (11, F) :: l) s) m 11 := fun l s => hbk_ob hF
  have p0 : ∀ l s, pR (hbk h m (.inr (11, F) :: l) s) m 30 (m + 15) = hbk h m (.inr (11, F.set 30 (.ref (m + 15))) :: l) s := fun l s => by rw [hbk_pR, t2]
  simp +decide only [e136_135, e136_136, e136_139, e136_141, n0, hbk_new, List.cons_append, o0, p0, c256, vkk_n, vkk_i, vkk_r, vkk_l, vkk_d, catS_nil, catS_i, catS_r, catS_l, catS_d, Nat.reduceAdd, Nat.reduceLeDiff, Nat.zero_le, Nat.le_refl, Option.bind_some, Option.toList_some, Option.toList_none, List.cons_append, List.nil_append, or_true, true_or, if_true, if_false, Int32.reduceLT, Int32.reduceLE, not_true, not_false_iff, true_and, and_true, false_and, and_false]
def smallF : Nat → Int32 := (upd (upd (upd (upd (upd (upd (upd (upd (upd (upd (fun _ => 0) 0 1) 1 1) 2 2) 3 2) 4 4) 5 4) 6 4) 7 8) 8 8) 9 4)
theorem y136_144 (h : VG) (m : Nat) (F : List Value) (l : List VE) (s : Nat) (L : VL) (hF : F.map vtag = vShape 11) (hl : l.length = 15) : ev 136 144 (some (.ref m) :: L) [] (hbk h m (.inr (11, F) :: l) s) = ev 136 198 (some (.ref m) :: L) [] (hbk h m (.inr (11, F.set 33 (.ref (m + 16))) :: (l ++ [.inl (0, 10, .inl smallF)])) (s + 10)) ∧ (F.set 33 (.ref (m + 16))).map vtag = vShape 11 := by
  have c10 : (10 : Int32).toNatClampNeg = 10 := by decide
  obtain ⟨t1, t2⟩ := set_tags (v := .ref (m + 16)) hF (show (vShape 11)[33]? = some (vtag (.ref (m + 16))) from rfl)
  refine ⟨?_, t1⟩
  have n0 : ∀ s, (hbk h m (.inr (11, F) :: l) s).2.1 = m + 16 := fun s => by rw [hbk_n, List.length_cons, hl]
  have o0 : ∀ l s, ob (hbk h m (.inr (11, F) :: l) s) m 11 := fun l s => hbk_ob hF
  have p0 : ∀ l s, pR (hbk h m (.inr (11, F) :: l) s) m 33 (m + 16) = hbk h m (.inr (11, F.set 33 (.ref (m + 16))) :: l) s := fun l s => by rw [hbk_pR, t2]
  have ar : ∀ f s, arI (hbk h m (.inr (11, F) :: (l ++ [.inl (0, 10, .inl f)])) s) (m + 16) 0 := fun f s => ⟨10, f, hbk_last hl⟩
  have an : ∀ f s, aln (hbk h m (.inr (11, F) :: (l ++ [.inl (0, 10, .inl f)])) s) (m + 16) = 10 := fun f s => by unfold aln; rw [hbk_last hl]
  have aw : ∀ f i x s, wI (hbk h m (.inr (11, F) :: (l ++ [.inl (0, 10, .inl f)])) s) (m + 16) i x = hbk h m (.inr (11, F) :: (l ++ [.inl (0, 10, .inl (upd f i x))])) s := fun f i x s => hbk_wIl hl
  have v0 : vp_in 0 10 := (vp_in_nI (i := 0) (by omega) (by decide) : vp_in (nI 0) 10)
  have c0 : (0 : Int32).toNatClampNeg = 0 := by decide
  have v1 : vp_in 1 10 := (vp_in_nI (i := 1) (by omega) (by decide) : vp_in (nI 1) 10)
  have c1 : (1 : Int32).toNatClampNeg = 1 := by decide
  have v2 : vp_in 2 10 := (vp_in_nI (i := 2) (by omega) (by decide) : vp_in (nI 2) 10)
  have c2 : (2 : Int32).toNatClampNeg = 2 := by decide
  have v3 : vp_in 3 10 := (vp_in_nI (i := 3) (by omega) (by decide) : vp_in (nI 3) 10)
  have c3 : (3 : Int32).toNatClampNeg = 3 := by decide
  have v4 : vp_in 4 10 := (vp_in_nI (i := 4) (by omega) (by decide) : vp_in (nI 4) 10)
  have c4 : (4 : Int32).toNatClampNeg = 4 := by decide
  have v5 : vp_in 5 10 := (vp_in_nI (i := 5) (by omega) (by decide) : vp_in (nI 5) 10)
  have c5 : (5 : Int32).toNatClampNeg = 5 := by decide
  have v6 : vp_in 6 10 := (vp_in_nI (i := 6) (by omega) (by decide) : vp_in (nI 6) 10)
  have c6 : (6 : Int32).toNatClampNeg = 6 := by decide
  have v7 : vp_in 7 10 := (vp_in_nI (i := 7) (by omega) (by decide) : vp_in (nI 7) 10)
  have c7 : (7 : Int32).toNatClampNeg = 7 := by decide
  have v8 : vp_in 8 10 := (vp_in_nI (i := 8) (by omega) (by decide) : vp_in (nI 8) 10)
  have c8 : (8 : Int32).toNatClampNeg = 8 := by decide
  have v9 : vp_in 9 10 := (vp_in_nI (i := 9) (by omega) (by decide) : vp_in (nI 9) 10)
  have c9 : (9 : Int32).toNatClampNeg = 9 := by decide
  unfold smallF
  simp +decide only [e136_144, e136_145, e136_147, e136_149b, e136_149, e136_150, e136_151, e136_152, e136_153b, e136_153, e136_154, e136_155, e136_156, e136_157b, e136_157, e136_158, e136_159, e136_160, e136_161b, e136_161, e136_162, e136_163, e136_164, e136_165b, e136_165, e136_166, e136_167, e136_168, e136_169b, e136_169, e136_170, e136_171, e136_172, e136_173b, e136_173, e136_174, e136_176, e136_177, e136_178b, e136_178, e136_179, e136_181, e136_183, e136_184b, e136_184, e136_185, e136_187, e136_189, e136_190b, e136_190, e136_191, e136_193, e136_194, e136_195, n0, hbk_new, List.cons_append, o0, p0, c10, ar, an, aw, v0, c0, v1, c1, v2, c2, v3, c3, v4, c4, v5, c5, v6, c6, v7, c7, v8, c8, v9, c9, vkk_n, vkk_i, vkk_r, vkk_l, vkk_d, catS_nil, catS_i, catS_r, catS_l, catS_d, Nat.reduceAdd, Nat.reduceLeDiff, Nat.zero_le, Nat.le_refl, Option.bind_some, Option.toList_some, Option.toList_none, List.cons_append, List.nil_append, or_true, true_or, if_true, if_false, Int32.reduceLT, Int32.reduceLE, not_true, not_false_iff, true_and, and_true, false_and, and_false]
def wideF : Nat → Int32 := (upd (upd (upd (upd (upd (upd (upd (upd (upd (upd (fun _ => 0) 0 1) 1 1) 2 2) 3 2) 4 4) 5 8) 6 4) 7 8) 8 8) 9 8)
theorem y136_198 (h : VG) (m : Nat) (F : List Value) (l : List VE) (s : Nat) (L : VL) (hF : F.map vtag = vShape 11) (hl : l.length = 16) : ev 136 198 (some (.ref m) :: L) [] (hbk h m (.inr (11, F) :: l) s) = ev 136 254 (some (.ref m) :: L) [] (hbk h m (.inr (11, F.set 34 (.ref (m + 17))) :: (l ++ [.inl (0, 10, .inl wideF)])) (s + 10)) ∧ (F.set 34 (.ref (m + 17))).map vtag = vShape 11 := by
  have c10 : (10 : Int32).toNatClampNeg = 10 := by decide
  obtain ⟨t1, t2⟩ := set_tags (v := .ref (m + 17)) hF (show (vShape 11)[34]? = some (vtag (.ref (m + 17))) from rfl)
  refine ⟨?_, t1⟩
  have n0 : ∀ s, (hbk h m (.inr (11, F) :: l) s).2.1 = m + 17 := fun s => by rw [hbk_n, List.length_cons, hl]
  have o0 : ∀ l s, ob (hbk h m (.inr (11, F) :: l) s) m 11 := fun l s => hbk_ob hF
  have p0 : ∀ l s, pR (hbk h m (.inr (11, F) :: l) s) m 34 (m + 17) = hbk h m (.inr (11, F.set 34 (.ref (m + 17))) :: l) s := fun l s => by rw [hbk_pR, t2]
  have ar : ∀ f s, arI (hbk h m (.inr (11, F) :: (l ++ [.inl (0, 10, .inl f)])) s) (m + 17) 0 := fun f s => ⟨10, f, hbk_last hl⟩
  have an : ∀ f s, aln (hbk h m (.inr (11, F) :: (l ++ [.inl (0, 10, .inl f)])) s) (m + 17) = 10 := fun f s => by unfold aln; rw [hbk_last hl]
  have aw : ∀ f i x s, wI (hbk h m (.inr (11, F) :: (l ++ [.inl (0, 10, .inl f)])) s) (m + 17) i x = hbk h m (.inr (11, F) :: (l ++ [.inl (0, 10, .inl (upd f i x))])) s := fun f i x s => hbk_wIl hl
  have v0 : vp_in 0 10 := (vp_in_nI (i := 0) (by omega) (by decide) : vp_in (nI 0) 10)
  have c0 : (0 : Int32).toNatClampNeg = 0 := by decide
  have v1 : vp_in 1 10 := (vp_in_nI (i := 1) (by omega) (by decide) : vp_in (nI 1) 10)
  have c1 : (1 : Int32).toNatClampNeg = 1 := by decide
  have v2 : vp_in 2 10 := (vp_in_nI (i := 2) (by omega) (by decide) : vp_in (nI 2) 10)
  have c2 : (2 : Int32).toNatClampNeg = 2 := by decide
  have v3 : vp_in 3 10 := (vp_in_nI (i := 3) (by omega) (by decide) : vp_in (nI 3) 10)
  have c3 : (3 : Int32).toNatClampNeg = 3 := by decide
  have v4 : vp_in 4 10 := (vp_in_nI (i := 4) (by omega) (by decide) : vp_in (nI 4) 10)
  have c4 : (4 : Int32).toNatClampNeg = 4 := by decide
  have v5 : vp_in 5 10 := (vp_in_nI (i := 5) (by omega) (by decide) : vp_in (nI 5) 10)
  have c5 : (5 : Int32).toNatClampNeg = 5 := by decide
  have v6 : vp_in 6 10 := (vp_in_nI (i := 6) (by omega) (by decide) : vp_in (nI 6) 10)
  have c6 : (6 : Int32).toNatClampNeg = 6 := by decide
  have v7 : vp_in 7 10 := (vp_in_nI (i := 7) (by omega) (by decide) : vp_in (nI 7) 10)
  have c7 : (7 : Int32).toNatClampNeg = 7 := by decide
  have v8 : vp_in 8 10 := (vp_in_nI (i := 8) (by omega) (by decide) : vp_in (nI 8) 10)
  have c8 : (8 : Int32).toNatClampNeg = 8 := by decide
  have v9 : vp_in 9 10 := (vp_in_nI (i := 9) (by omega) (by decide) : vp_in (nI 9) 10)
  have c9 : (9 : Int32).toNatClampNeg = 9 := by decide
  unfold wideF
  simp +decide only [e136_198, e136_199, e136_201, e136_203b, e136_203, e136_204, e136_205, e136_206, e136_207b, e136_207, e136_208, e136_209, e136_210, e136_211b, e136_211, e136_212, e136_213, e136_214, e136_215b, e136_215, e136_216, e136_217, e136_218, e136_219b, e136_219, e136_220, e136_221, e136_222, e136_223b, e136_223, e136_224, e136_225, e136_227, e136_228b, e136_228, e136_229, e136_231, e136_232, e136_233b, e136_233, e136_234, e136_236, e136_238, e136_239b, e136_239, e136_240, e136_242, e136_244, e136_245b, e136_245, e136_246, e136_248, e136_250, e136_251, n0, hbk_new, List.cons_append, o0, p0, c10, ar, an, aw, v0, c0, v1, c1, v2, c2, v3, c3, v4, c4, v5, c5, v6, c6, v7, c7, v8, c8, v9, c9, vkk_n, vkk_i, vkk_r, vkk_l, vkk_d, catS_nil, catS_i, catS_r, catS_l, catS_d, Nat.reduceAdd, Nat.reduceLeDiff, Nat.zero_le, Nat.le_refl, Option.bind_some, Option.toList_some, Option.toList_none, List.cons_append, List.nil_append, or_true, true_or, if_true, if_false, Int32.reduceLT, Int32.reduceLE, not_true, not_false_iff, true_and, and_true, false_and, and_false]
theorem y136_254 (h : VG) (m : Nat) (F : List Value) (l : List VE) (s : Nat) (L : VL) (hF : F.map vtag = vShape 11) (hl : l.length = 17) : ev 136 254 (some (.ref m) :: L) [] (hbk h m (.inr (11, F) :: l) s) = ev 136 262 (some (.ref m) :: L) [] (hbk h m (.inr (11, F.set 35 (.ref (m + 18))) :: (l ++ [.inl (0, 8, .inl fun _ => 0)])) (s + 8)) ∧ (F.set 35 (.ref (m + 18))).map vtag = vShape 11 := by
  have c8 : (8 : Int32).toNatClampNeg = 8 := by decide
  obtain ⟨t1, t2⟩ := set_tags (v := .ref (m + 18)) hF (show (vShape 11)[35]? = some (vtag (.ref (m + 18))) from rfl)
  refine ⟨?_, t1⟩
  have n0 : ∀ s, (hbk h m (.inr (11, F) :: l) s).2.1 = m + 18 := fun s => by rw [hbk_n, List.length_cons, hl]
  have o0 : ∀ l s, ob (hbk h m (.inr (11, F) :: l) s) m 11 := fun l s => hbk_ob hF
  have p0 : ∀ l s, pR (hbk h m (.inr (11, F) :: l) s) m 35 (m + 18) = hbk h m (.inr (11, F.set 35 (.ref (m + 18))) :: l) s := fun l s => by rw [hbk_pR, t2]
  simp +decide only [e136_254, e136_255, e136_257, e136_259, n0, hbk_new, List.cons_append, o0, p0, c8, vkk_n, vkk_i, vkk_r, vkk_l, vkk_d, catS_nil, catS_i, catS_r, catS_l, catS_d, Nat.reduceAdd, Nat.reduceLeDiff, Nat.zero_le, Nat.le_refl, Option.bind_some, Option.toList_some, Option.toList_none, List.cons_append, List.nil_append, or_true, true_or, if_true, if_false, Int32.reduceLT, Int32.reduceLE, not_true, not_false_iff, true_and, and_true, false_and, and_false]
theorem y136_262 (h : VG) (m : Nat) (F : List Value) (l : List VE) (s : Nat) (L : VL) (hF : F.map vtag = vShape 11) (hl : l.length = 18) : ev 136 262 (some (.ref m) :: L) [] (hbk h m (.inr (11, F) :: l) s) = ev 136 270 (some (.ref m) :: L) [] (hbk h m (.inr (11, F.set 42 (.ref (m + 19))) :: (l ++ [.inl (0, 8, .inl fun _ => 0)])) (s + 8)) ∧ (F.set 42 (.ref (m + 19))).map vtag = vShape 11 := by
  have c8 : (8 : Int32).toNatClampNeg = 8 := by decide
  obtain ⟨t1, t2⟩ := set_tags (v := .ref (m + 19)) hF (show (vShape 11)[42]? = some (vtag (.ref (m + 19))) from rfl)
  refine ⟨?_, t1⟩
  have n0 : ∀ s, (hbk h m (.inr (11, F) :: l) s).2.1 = m + 19 := fun s => by rw [hbk_n, List.length_cons, hl]
  have o0 : ∀ l s, ob (hbk h m (.inr (11, F) :: l) s) m 11 := fun l s => hbk_ob hF
  have p0 : ∀ l s, pR (hbk h m (.inr (11, F) :: l) s) m 42 (m + 19) = hbk h m (.inr (11, F.set 42 (.ref (m + 19))) :: l) s := fun l s => by rw [hbk_pR, t2]
  simp +decide only [e136_262, e136_263, e136_265, e136_267, n0, hbk_new, List.cons_append, o0, p0, c8, vkk_n, vkk_i, vkk_r, vkk_l, vkk_d, catS_nil, catS_i, catS_r, catS_l, catS_d, Nat.reduceAdd, Nat.reduceLeDiff, Nat.zero_le, Nat.le_refl, Option.bind_some, Option.toList_some, Option.toList_none, List.cons_append, List.nil_append, or_true, true_or, if_true, if_false, Int32.reduceLT, Int32.reduceLE, not_true, not_false_iff, true_and, and_true, false_and, and_false]
theorem y136_270 (h : VG) (m : Nat) (F : List Value) (l : List VE) (s : Nat) (L : VL) (hF : F.map vtag = vShape 11) (hl : l.length = 19) : ev 136 270 (some (.ref m) :: L) [] (hbk h m (.inr (11, F) :: l) s) = ev 136 278 (some (.ref m) :: L) [] (hbk h m (.inr (11, F.set 43 (.ref (m + 20))) :: (l ++ [.inl (0, 8, .inl fun _ => 0)])) (s + 8)) ∧ (F.set 43 (.ref (m + 20))).map vtag = vShape 11 := by
  have c8 : (8 : Int32).toNatClampNeg = 8 := by decide
  obtain ⟨t1, t2⟩ := set_tags (v := .ref (m + 20)) hF (show (vShape 11)[43]? = some (vtag (.ref (m + 20))) from rfl)
  refine ⟨?_, t1⟩
  have n0 : ∀ s, (hbk h m (.inr (11, F) :: l) s).2.1 = m + 20 := fun s => by rw [hbk_n, List.length_cons, hl]
  have o0 : ∀ l s, ob (hbk h m (.inr (11, F) :: l) s) m 11 := fun l s => hbk_ob hF
  have p0 : ∀ l s, pR (hbk h m (.inr (11, F) :: l) s) m 43 (m + 20) = hbk h m (.inr (11, F.set 43 (.ref (m + 20))) :: l) s := fun l s => by rw [hbk_pR, t2]
  simp +decide only [e136_270, e136_271, e136_273, e136_275, n0, hbk_new, List.cons_append, o0, p0, c8, vkk_n, vkk_i, vkk_r, vkk_l, vkk_d, catS_nil, catS_i, catS_r, catS_l, catS_d, Nat.reduceAdd, Nat.reduceLeDiff, Nat.zero_le, Nat.le_refl, Option.bind_some, Option.toList_some, Option.toList_none, List.cons_append, List.nil_append, or_true, true_or, if_true, if_false, Int32.reduceLT, Int32.reduceLE, not_true, not_false_iff, true_and, and_true, false_and, and_false]
theorem y136_278 (h : VG) (m : Nat) (F : List Value) (l : List VE) (s : Nat) (L : VL) (hF : F.map vtag = vShape 11) (hl : l.length = 20) : ev 136 278 (some (.ref m) :: L) [] (hbk h m (.inr (11, F) :: l) s) = ev 136 287 (some (.ref m) :: L) [] (hbk h m (.inr (11, F.set 44 (.ref (m + 21))) :: (l ++ [.inl (0, 320, .inl fun _ => 0)])) (s + 320)) ∧ (F.set 44 (.ref (m + 21))).map vtag = vShape 11 := by
  have c320 : (320 : Int32).toNatClampNeg = 320 := by decide
  obtain ⟨t1, t2⟩ := set_tags (v := .ref (m + 21)) hF (show (vShape 11)[44]? = some (vtag (.ref (m + 21))) from rfl)
  refine ⟨?_, t1⟩
  have n0 : ∀ s, (hbk h m (.inr (11, F) :: l) s).2.1 = m + 21 := fun s => by rw [hbk_n, List.length_cons, hl]
  have o0 : ∀ l s, ob (hbk h m (.inr (11, F) :: l) s) m 11 := fun l s => hbk_ob hF
  have p0 : ∀ l s, pR (hbk h m (.inr (11, F) :: l) s) m 44 (m + 21) = hbk h m (.inr (11, F.set 44 (.ref (m + 21))) :: l) s := fun l s => by rw [hbk_pR, t2]
  simp +decide only [e136_278, e136_279, e136_282, e136_284, n0, hbk_new, List.cons_append, o0, p0, c320, vkk_n, vkk_i, vkk_r, vkk_l, vkk_d, catS_nil, catS_i, catS_r, catS_l, catS_d, Nat.reduceAdd, Nat.reduceLeDiff, Nat.zero_le, Nat.le_refl, Option.bind_some, Option.toList_some, Option.toList_none, List.cons_append, List.nil_append, or_true, true_or, if_true, if_false, Int32.reduceLT, Int32.reduceLE, not_true, not_false_iff, true_and, and_true, false_and, and_false]
theorem y136_287 (h : VG) (m : Nat) (F : List Value) (l : List VE) (s : Nat) (L : VL) (hF : F.map vtag = vShape 11) (hl : l.length = 21) : ev 136 287 (some (.ref m) :: L) [] (hbk h m (.inr (11, F) :: l) s) = ev 136 296 (some (.ref m) :: L) [] (hbk h m (.inr (11, F.set 45 (.ref (m + 22))) :: (l ++ [.inl (1, 320, .inr (.inl fun _ => 0))])) (s + 320)) ∧ (F.set 45 (.ref (m + 22))).map vtag = vShape 11 := by
  have c320 : (320 : Int32).toNatClampNeg = 320 := by decide
  obtain ⟨t1, t2⟩ := set_tags (v := .ref (m + 22)) hF (show (vShape 11)[45]? = some (vtag (.ref (m + 22))) from rfl)
  refine ⟨?_, t1⟩
  have n0 : ∀ s, (hbk h m (.inr (11, F) :: l) s).2.1 = m + 22 := fun s => by rw [hbk_n, List.length_cons, hl]
  have o0 : ∀ l s, ob (hbk h m (.inr (11, F) :: l) s) m 11 := fun l s => hbk_ob hF
  have p0 : ∀ l s, pR (hbk h m (.inr (11, F) :: l) s) m 45 (m + 22) = hbk h m (.inr (11, F.set 45 (.ref (m + 22))) :: l) s := fun l s => by rw [hbk_pR, t2]
  simp +decide only [e136_287, e136_288, e136_291, e136_293, n0, hbk_new, List.cons_append, o0, p0, c320, vkk_n, vkk_i, vkk_r, vkk_l, vkk_d, catS_nil, catS_i, catS_r, catS_l, catS_d, Nat.reduceAdd, Nat.reduceLeDiff, Nat.zero_le, Nat.le_refl, Option.bind_some, Option.toList_some, Option.toList_none, List.cons_append, List.nil_append, or_true, true_or, if_true, if_false, Int32.reduceLT, Int32.reduceLE, not_true, not_false_iff, true_and, and_true, false_and, and_false]
theorem y136_296 (h : VG) (m : Nat) (F : List Value) (l : List VE) (s : Nat) (L : VL) (hF : F.map vtag = vShape 11) (hl : l.length = 22) : ev 136 296 (some (.ref m) :: L) [] (hbk h m (.inr (11, F) :: l) s) = ev 136 305 (some (.ref m) :: L) [] (hbk h m (.inr (11, F.set 46 (.ref (m + 23))) :: (l ++ [.inl (4, 320, .inr (.inr (.inr (.inl fun _ => 0))))])) (s + 320)) ∧ (F.set 46 (.ref (m + 23))).map vtag = vShape 11 := by
  have c320 : (320 : Int32).toNatClampNeg = 320 := by decide
  obtain ⟨t1, t2⟩ := set_tags (v := .ref (m + 23)) hF (show (vShape 11)[46]? = some (vtag (.ref (m + 23))) from rfl)
  refine ⟨?_, t1⟩
  have n0 : ∀ s, (hbk h m (.inr (11, F) :: l) s).2.1 = m + 23 := fun s => by rw [hbk_n, List.length_cons, hl]
  have o0 : ∀ l s, ob (hbk h m (.inr (11, F) :: l) s) m 11 := fun l s => hbk_ob hF
  have p0 : ∀ l s, pR (hbk h m (.inr (11, F) :: l) s) m 46 (m + 23) = hbk h m (.inr (11, F.set 46 (.ref (m + 23))) :: l) s := fun l s => by rw [hbk_pR, t2]
  simp +decide only [e136_296, e136_297, e136_300, e136_302, n0, hbk_new, List.cons_append, o0, p0, c320, vkk_n, vkk_i, vkk_r, vkk_l, vkk_d, catS_nil, catS_i, catS_r, catS_l, catS_d, Nat.reduceAdd, Nat.reduceLeDiff, Nat.zero_le, Nat.le_refl, Option.bind_some, Option.toList_some, Option.toList_none, List.cons_append, List.nil_append, or_true, true_or, if_true, if_false, Int32.reduceLT, Int32.reduceLE, not_true, not_false_iff, true_and, and_true, false_and, and_false]
theorem y136_305 (h : VG) (m : Nat) (F : List Value) (l : List VE) (s : Nat) (L : VL) (hF : F.map vtag = vShape 11) (hl : l.length = 23) : ev 136 305 (some (.ref m) :: L) [] (hbk h m (.inr (11, F) :: l) s) = ev 136 313 (some (.ref m) :: L) [] (hbk h m (.inr (11, F.set 47 (.ref (m + 24))) :: (l ++ [.inl (0, 40, .inl fun _ => 0)])) (s + 40)) ∧ (F.set 47 (.ref (m + 24))).map vtag = vShape 11 := by
  have c40 : (40 : Int32).toNatClampNeg = 40 := by decide
  obtain ⟨t1, t2⟩ := set_tags (v := .ref (m + 24)) hF (show (vShape 11)[47]? = some (vtag (.ref (m + 24))) from rfl)
  refine ⟨?_, t1⟩
  have n0 : ∀ s, (hbk h m (.inr (11, F) :: l) s).2.1 = m + 24 := fun s => by rw [hbk_n, List.length_cons, hl]
  have o0 : ∀ l s, ob (hbk h m (.inr (11, F) :: l) s) m 11 := fun l s => hbk_ob hF
  have p0 : ∀ l s, pR (hbk h m (.inr (11, F) :: l) s) m 47 (m + 24) = hbk h m (.inr (11, F.set 47 (.ref (m + 24))) :: l) s := fun l s => by rw [hbk_pR, t2]
  simp +decide only [e136_305, e136_306, e136_308, e136_310, n0, hbk_new, List.cons_append, o0, p0, c40, vkk_n, vkk_i, vkk_r, vkk_l, vkk_d, catS_nil, catS_i, catS_r, catS_l, catS_d, Nat.reduceAdd, Nat.reduceLeDiff, Nat.zero_le, Nat.le_refl, Option.bind_some, Option.toList_some, Option.toList_none, List.cons_append, List.nil_append, or_true, true_or, if_true, if_false, Int32.reduceLT, Int32.reduceLE, not_true, not_false_iff, true_and, and_true, false_and, and_false]
theorem y136_313 (h : VG) (m : Nat) (F : List Value) (l : List VE) (s : Nat) (L : VL) (hF : F.map vtag = vShape 11) (hl : l.length = 24) : ev 136 313 (some (.ref m) :: L) [] (hbk h m (.inr (11, F) :: l) s) = ev 136 321 (some (.ref m) :: L) [] (hbk h m (.inr (11, F.set 48 (.ref (m + 25))) :: (l ++ [.inl (1, 40, .inr (.inl fun _ => 0))])) (s + 40)) ∧ (F.set 48 (.ref (m + 25))).map vtag = vShape 11 := by
  have c40 : (40 : Int32).toNatClampNeg = 40 := by decide
  obtain ⟨t1, t2⟩ := set_tags (v := .ref (m + 25)) hF (show (vShape 11)[48]? = some (vtag (.ref (m + 25))) from rfl)
  refine ⟨?_, t1⟩
  have n0 : ∀ s, (hbk h m (.inr (11, F) :: l) s).2.1 = m + 25 := fun s => by rw [hbk_n, List.length_cons, hl]
  have o0 : ∀ l s, ob (hbk h m (.inr (11, F) :: l) s) m 11 := fun l s => hbk_ob hF
  have p0 : ∀ l s, pR (hbk h m (.inr (11, F) :: l) s) m 48 (m + 25) = hbk h m (.inr (11, F.set 48 (.ref (m + 25))) :: l) s := fun l s => by rw [hbk_pR, t2]
  simp +decide only [e136_313, e136_314, e136_316, e136_318, n0, hbk_new, List.cons_append, o0, p0, c40, vkk_n, vkk_i, vkk_r, vkk_l, vkk_d, catS_nil, catS_i, catS_r, catS_l, catS_d, Nat.reduceAdd, Nat.reduceLeDiff, Nat.zero_le, Nat.le_refl, Option.bind_some, Option.toList_some, Option.toList_none, List.cons_append, List.nil_append, or_true, true_or, if_true, if_false, Int32.reduceLT, Int32.reduceLE, not_true, not_false_iff, true_and, and_true, false_and, and_false]
theorem y136_321 (h : VG) (m : Nat) (F : List Value) (l : List VE) (s : Nat) (L : VL) (hF : F.map vtag = vShape 11) (hl : l.length = 25) : ev 136 321 (some (.ref m) :: L) [] (hbk h m (.inr (11, F) :: l) s) = ev 136 329 (some (.ref m) :: L) [] (hbk h m (.inr (11, F.set 49 (.ref (m + 26))) :: (l ++ [.inl (4, 40, .inr (.inr (.inr (.inl fun _ => 0))))])) (s + 40)) ∧ (F.set 49 (.ref (m + 26))).map vtag = vShape 11 := by
  have c40 : (40 : Int32).toNatClampNeg = 40 := by decide
  obtain ⟨t1, t2⟩ := set_tags (v := .ref (m + 26)) hF (show (vShape 11)[49]? = some (vtag (.ref (m + 26))) from rfl)
  refine ⟨?_, t1⟩
  have n0 : ∀ s, (hbk h m (.inr (11, F) :: l) s).2.1 = m + 26 := fun s => by rw [hbk_n, List.length_cons, hl]
  have o0 : ∀ l s, ob (hbk h m (.inr (11, F) :: l) s) m 11 := fun l s => hbk_ob hF
  have p0 : ∀ l s, pR (hbk h m (.inr (11, F) :: l) s) m 49 (m + 26) = hbk h m (.inr (11, F.set 49 (.ref (m + 26))) :: l) s := fun l s => by rw [hbk_pR, t2]
  simp +decide only [e136_321, e136_322, e136_324, e136_326, n0, hbk_new, List.cons_append, o0, p0, c40, vkk_n, vkk_i, vkk_r, vkk_l, vkk_d, catS_nil, catS_i, catS_r, catS_l, catS_d, Nat.reduceAdd, Nat.reduceLeDiff, Nat.zero_le, Nat.le_refl, Option.bind_some, Option.toList_some, Option.toList_none, List.cons_append, List.nil_append, or_true, true_or, if_true, if_false, Int32.reduceLT, Int32.reduceLE, not_true, not_false_iff, true_and, and_true, false_and, and_false]
theorem y136_329 (h : VG) (m : Nat) (F : List Value) (l : List VE) (s : Nat) (L : VL) (hF : F.map vtag = vShape 11) (hl : l.length = 26) : ev 136 329 (some (.ref m) :: L) [] (hbk h m (.inr (11, F) :: l) s) = ev 136 338 (some (.ref m) :: L) [] (hbk h m (.inr (11, F.set 50 (.ref (m + 27))) :: (l ++ [.inl (0, 512, .inl fun _ => 0)])) (s + 512)) ∧ (F.set 50 (.ref (m + 27))).map vtag = vShape 11 := by
  have c512 : (512 : Int32).toNatClampNeg = 512 := by decide
  obtain ⟨t1, t2⟩ := set_tags (v := .ref (m + 27)) hF (show (vShape 11)[50]? = some (vtag (.ref (m + 27))) from rfl)
  refine ⟨?_, t1⟩
  have n0 : ∀ s, (hbk h m (.inr (11, F) :: l) s).2.1 = m + 27 := fun s => by rw [hbk_n, List.length_cons, hl]
  have o0 : ∀ l s, ob (hbk h m (.inr (11, F) :: l) s) m 11 := fun l s => hbk_ob hF
  have p0 : ∀ l s, pR (hbk h m (.inr (11, F) :: l) s) m 50 (m + 27) = hbk h m (.inr (11, F.set 50 (.ref (m + 27))) :: l) s := fun l s => by rw [hbk_pR, t2]
  simp +decide only [e136_329, e136_330, e136_333, e136_335, n0, hbk_new, List.cons_append, o0, p0, c512, vkk_n, vkk_i, vkk_r, vkk_l, vkk_d, catS_nil, catS_i, catS_r, catS_l, catS_d, Nat.reduceAdd, Nat.reduceLeDiff, Nat.zero_le, Nat.le_refl, Option.bind_some, Option.toList_some, Option.toList_none, List.cons_append, List.nil_append, or_true, true_or, if_true, if_false, Int32.reduceLT, Int32.reduceLE, not_true, not_false_iff, true_and, and_true, false_and, and_false]
theorem y136_338 (h : VG) (m : Nat) (F : List Value) (l : List VE) (s : Nat) (L : VL) (hF : F.map vtag = vShape 11) (hl : l.length = 27) : ev 136 338 (some (.ref m) :: L) [] (hbk h m (.inr (11, F) :: l) s) = ev 136 347 (some (.ref m) :: L) [] (hbk h m (.inr (11, F.set 51 (.ref (m + 28))) :: (l ++ [.inl (3, 512, .inl fun _ => 0)])) (s + 512)) ∧ (F.set 51 (.ref (m + 28))).map vtag = vShape 11 := by
  have c512 : (512 : Int32).toNatClampNeg = 512 := by decide
  obtain ⟨t1, t2⟩ := set_tags (v := .ref (m + 28)) hF (show (vShape 11)[51]? = some (vtag (.ref (m + 28))) from rfl)
  refine ⟨?_, t1⟩
  have n0 : ∀ s, (hbk h m (.inr (11, F) :: l) s).2.1 = m + 28 := fun s => by rw [hbk_n, List.length_cons, hl]
  have o0 : ∀ l s, ob (hbk h m (.inr (11, F) :: l) s) m 11 := fun l s => hbk_ob hF
  have p0 : ∀ l s, pR (hbk h m (.inr (11, F) :: l) s) m 51 (m + 28) = hbk h m (.inr (11, F.set 51 (.ref (m + 28))) :: l) s := fun l s => by rw [hbk_pR, t2]
  simp +decide only [e136_338, e136_339, e136_342, e136_344, n0, hbk_new, List.cons_append, o0, p0, c512, vkk_n, vkk_i, vkk_r, vkk_l, vkk_d, catS_nil, catS_i, catS_r, catS_l, catS_d, Nat.reduceAdd, Nat.reduceLeDiff, Nat.zero_le, Nat.le_refl, Option.bind_some, Option.toList_some, Option.toList_none, List.cons_append, List.nil_append, or_true, true_or, if_true, if_false, Int32.reduceLT, Int32.reduceLE, not_true, not_false_iff, true_and, and_true, false_and, and_false]
theorem y136_347 (h : VG) (m : Nat) (F : List Value) (l : List VE) (s : Nat) (L : VL) (hF : F.map vtag = vShape 11) (hl : l.length = 28) : ev 136 347 (some (.ref m) :: L) [] (hbk h m (.inr (11, F) :: l) s) = ev 136 355 (some (.ref m) :: L) [] (hbk h m (.inr (11, F.set 52 (.ref (m + 29))) :: (l ++ [.inl (0, 8, .inl fun _ => 0)])) (s + 8)) ∧ (F.set 52 (.ref (m + 29))).map vtag = vShape 11 := by
  have c8 : (8 : Int32).toNatClampNeg = 8 := by decide
  obtain ⟨t1, t2⟩ := set_tags (v := .ref (m + 29)) hF (show (vShape 11)[52]? = some (vtag (.ref (m + 29))) from rfl)
  refine ⟨?_, t1⟩
  have n0 : ∀ s, (hbk h m (.inr (11, F) :: l) s).2.1 = m + 29 := fun s => by rw [hbk_n, List.length_cons, hl]
  have o0 : ∀ l s, ob (hbk h m (.inr (11, F) :: l) s) m 11 := fun l s => hbk_ob hF
  have p0 : ∀ l s, pR (hbk h m (.inr (11, F) :: l) s) m 52 (m + 29) = hbk h m (.inr (11, F.set 52 (.ref (m + 29))) :: l) s := fun l s => by rw [hbk_pR, t2]
  simp +decide only [e136_347, e136_348, e136_350, e136_352, n0, hbk_new, List.cons_append, o0, p0, c8, vkk_n, vkk_i, vkk_r, vkk_l, vkk_d, catS_nil, catS_i, catS_r, catS_l, catS_d, Nat.reduceAdd, Nat.reduceLeDiff, Nat.zero_le, Nat.le_refl, Option.bind_some, Option.toList_some, Option.toList_none, List.cons_append, List.nil_append, or_true, true_or, if_true, if_false, Int32.reduceLT, Int32.reduceLE, not_true, not_false_iff, true_and, and_true, false_and, and_false]
theorem y136_355 (h : VG) (m : Nat) (F : List Value) (l : List VE) (s : Nat) (L : VL) (hF : F.map vtag = vShape 11) (hl : l.length = 29) : ev 136 355 (some (.ref m) :: L) [] (hbk h m (.inr (11, F) :: l) s) = ev 136 363 (some (.ref m) :: L) [] (hbk h m (.inr (11, F.set 53 (.ref (m + 30))) :: (l ++ [.inl (0, 8, .inl fun _ => 0)])) (s + 8)) ∧ (F.set 53 (.ref (m + 30))).map vtag = vShape 11 := by
  have c8 : (8 : Int32).toNatClampNeg = 8 := by decide
  obtain ⟨t1, t2⟩ := set_tags (v := .ref (m + 30)) hF (show (vShape 11)[53]? = some (vtag (.ref (m + 30))) from rfl)
  refine ⟨?_, t1⟩
  have n0 : ∀ s, (hbk h m (.inr (11, F) :: l) s).2.1 = m + 30 := fun s => by rw [hbk_n, List.length_cons, hl]
  have o0 : ∀ l s, ob (hbk h m (.inr (11, F) :: l) s) m 11 := fun l s => hbk_ob hF
  have p0 : ∀ l s, pR (hbk h m (.inr (11, F) :: l) s) m 53 (m + 30) = hbk h m (.inr (11, F.set 53 (.ref (m + 30))) :: l) s := fun l s => by rw [hbk_pR, t2]
  simp +decide only [e136_355, e136_356, e136_358, e136_360, n0, hbk_new, List.cons_append, o0, p0, c8, vkk_n, vkk_i, vkk_r, vkk_l, vkk_d, catS_nil, catS_i, catS_r, catS_l, catS_d, Nat.reduceAdd, Nat.reduceLeDiff, Nat.zero_le, Nat.le_refl, Option.bind_some, Option.toList_some, Option.toList_none, List.cons_append, List.nil_append, or_true, true_or, if_true, if_false, Int32.reduceLT, Int32.reduceLE, not_true, not_false_iff, true_and, and_true, false_and, and_false]
theorem y136_363 (h : VG) (m : Nat) (F : List Value) (l : List VE) (s : Nat) (L : VL) (hF : F.map vtag = vShape 11) (hl : l.length = 30) : ev 136 363 (some (.ref m) :: L) [] (hbk h m (.inr (11, F) :: l) s) = ev 136 372 (some (.ref m) :: L) [] (hbk h m (.inr (11, F.set 55 (.ref (m + 31))) :: (l ++ [.inl (0, 2048, .inl fun _ => 0)])) (s + 2048)) ∧ (F.set 55 (.ref (m + 31))).map vtag = vShape 11 := by
  have c2048 : (2048 : Int32).toNatClampNeg = 2048 := by decide
  obtain ⟨t1, t2⟩ := set_tags (v := .ref (m + 31)) hF (show (vShape 11)[55]? = some (vtag (.ref (m + 31))) from rfl)
  refine ⟨?_, t1⟩
  have n0 : ∀ s, (hbk h m (.inr (11, F) :: l) s).2.1 = m + 31 := fun s => by rw [hbk_n, List.length_cons, hl]
  have o0 : ∀ l s, ob (hbk h m (.inr (11, F) :: l) s) m 11 := fun l s => hbk_ob hF
  have p0 : ∀ l s, pR (hbk h m (.inr (11, F) :: l) s) m 55 (m + 31) = hbk h m (.inr (11, F.set 55 (.ref (m + 31))) :: l) s := fun l s => by rw [hbk_pR, t2]
  simp +decide only [e136_363, e136_364, e136_367, e136_369, n0, hbk_new, List.cons_append, o0, p0, c2048, vkk_n, vkk_i, vkk_r, vkk_l, vkk_d, catS_nil, catS_i, catS_r, catS_l, catS_d, Nat.reduceAdd, Nat.reduceLeDiff, Nat.zero_le, Nat.le_refl, Option.bind_some, Option.toList_some, Option.toList_none, List.cons_append, List.nil_append, or_true, true_or, if_true, if_false, Int32.reduceLT, Int32.reduceLE, not_true, not_false_iff, true_and, and_true, false_and, and_false]
theorem y136_372 (h : VG) (m : Nat) (F : List Value) (l : List VE) (s : Nat) (L : VL) (hF : F.map vtag = vShape 11) (hl : l.length = 31) : ev 136 372 (some (.ref m) :: L) [] (hbk h m (.inr (11, F) :: l) s) = ev 136 380 (some (.ref m) :: L) [] (hbk h m (.inr (11, F.set 56 (.ref (m + 32))) :: (l ++ [.inl (1, 8, .inr (.inl fun _ => 0))])) (s + 8)) ∧ (F.set 56 (.ref (m + 32))).map vtag = vShape 11 := by
  have c8 : (8 : Int32).toNatClampNeg = 8 := by decide
  obtain ⟨t1, t2⟩ := set_tags (v := .ref (m + 32)) hF (show (vShape 11)[56]? = some (vtag (.ref (m + 32))) from rfl)
  refine ⟨?_, t1⟩
  have n0 : ∀ s, (hbk h m (.inr (11, F) :: l) s).2.1 = m + 32 := fun s => by rw [hbk_n, List.length_cons, hl]
  have o0 : ∀ l s, ob (hbk h m (.inr (11, F) :: l) s) m 11 := fun l s => hbk_ob hF
  have p0 : ∀ l s, pR (hbk h m (.inr (11, F) :: l) s) m 56 (m + 32) = hbk h m (.inr (11, F.set 56 (.ref (m + 32))) :: l) s := fun l s => by rw [hbk_pR, t2]
  simp +decide only [e136_372, e136_373, e136_375, e136_377, n0, hbk_new, List.cons_append, o0, p0, c8, vkk_n, vkk_i, vkk_r, vkk_l, vkk_d, catS_nil, catS_i, catS_r, catS_l, catS_d, Nat.reduceAdd, Nat.reduceLeDiff, Nat.zero_le, Nat.le_refl, Option.bind_some, Option.toList_some, Option.toList_none, List.cons_append, List.nil_append, or_true, true_or, if_true, if_false, Int32.reduceLT, Int32.reduceLE, not_true, not_false_iff, true_and, and_true, false_and, and_false]
theorem y136_380 (h : VG) (m : Nat) (F : List Value) (l : List VE) (s : Nat) (L : VL) (hF : F.map vtag = vShape 11) (hl : l.length = 32) : ev 136 380 (some (.ref m) :: L) [] (hbk h m (.inr (11, F) :: l) s) = ev 136 387 (some (.ref m) :: L) [] (hbk h m (.inr (11, F.set 58 (.ref (m + 33))) :: (l ++ [.inl (3, 2, .inl fun _ => 0)])) (s + 2)) ∧ (F.set 58 (.ref (m + 33))).map vtag = vShape 11 := by
  have c2 : (2 : Int32).toNatClampNeg = 2 := by decide
  obtain ⟨t1, t2⟩ := set_tags (v := .ref (m + 33)) hF (show (vShape 11)[58]? = some (vtag (.ref (m + 33))) from rfl)
  refine ⟨?_, t1⟩
  have n0 : ∀ s, (hbk h m (.inr (11, F) :: l) s).2.1 = m + 33 := fun s => by rw [hbk_n, List.length_cons, hl]
  have o0 : ∀ l s, ob (hbk h m (.inr (11, F) :: l) s) m 11 := fun l s => hbk_ob hF
  have p0 : ∀ l s, pR (hbk h m (.inr (11, F) :: l) s) m 58 (m + 33) = hbk h m (.inr (11, F.set 58 (.ref (m + 33))) :: l) s := fun l s => by rw [hbk_pR, t2]
  simp +decide only [e136_380, e136_381, e136_382, e136_384, n0, hbk_new, List.cons_append, o0, p0, c2, vkk_n, vkk_i, vkk_r, vkk_l, vkk_d, catS_nil, catS_i, catS_r, catS_l, catS_d, Nat.reduceAdd, Nat.reduceLeDiff, Nat.zero_le, Nat.le_refl, Option.bind_some, Option.toList_some, Option.toList_none, List.cons_append, List.nil_append, or_true, true_or, if_true, if_false, Int32.reduceLT, Int32.reduceLE, not_true, not_false_iff, true_and, and_true, false_and, and_false]
theorem y136_387 (h : VG) (m : Nat) (F : List Value) (l : List VE) (s : Nat) (L : VL) (hF : F.map vtag = vShape 11) (hl : l.length = 33) : ev 136 387 (some (.ref m) :: L) [] (hbk h m (.inr (11, F) :: l) s) = ev 136 396 (some (.ref m) :: L) [] (hbk h m (.inr (11, F.set 59 (.ref (m + 34))) :: (l ++ [.inl (0, 512, .inl fun _ => 0)])) (s + 512)) ∧ (F.set 59 (.ref (m + 34))).map vtag = vShape 11 := by
  have c512 : (512 : Int32).toNatClampNeg = 512 := by decide
  obtain ⟨t1, t2⟩ := set_tags (v := .ref (m + 34)) hF (show (vShape 11)[59]? = some (vtag (.ref (m + 34))) from rfl)
  refine ⟨?_, t1⟩
  have n0 : ∀ s, (hbk h m (.inr (11, F) :: l) s).2.1 = m + 34 := fun s => by rw [hbk_n, List.length_cons, hl]
  have o0 : ∀ l s, ob (hbk h m (.inr (11, F) :: l) s) m 11 := fun l s => hbk_ob hF
  have p0 : ∀ l s, pR (hbk h m (.inr (11, F) :: l) s) m 59 (m + 34) = hbk h m (.inr (11, F.set 59 (.ref (m + 34))) :: l) s := fun l s => by rw [hbk_pR, t2]
  simp +decide only [e136_387, e136_388, e136_391, e136_393, n0, hbk_new, List.cons_append, o0, p0, c512, vkk_n, vkk_i, vkk_r, vkk_l, vkk_d, catS_nil, catS_i, catS_r, catS_l, catS_d, Nat.reduceAdd, Nat.reduceLeDiff, Nat.zero_le, Nat.le_refl, Option.bind_some, Option.toList_some, Option.toList_none, List.cons_append, List.nil_append, or_true, true_or, if_true, if_false, Int32.reduceLT, Int32.reduceLE, not_true, not_false_iff, true_and, and_true, false_and, and_false]
theorem y136_396 (h : VG) (m : Nat) (F : List Value) (l : List VE) (s : Nat) (L : VL) (hF : F.map vtag = vShape 11) (hl : l.length = 34) : ev 136 396 (some (.ref m) :: L) [] (hbk h m (.inr (11, F) :: l) s) = ev 136 404 (some (.ref m) :: L) [] (hbk h m (.inr (11, F.set 60 (.ref (m + 35))) :: (l ++ [.inl (0, 16, .inl fun _ => 0)])) (s + 16)) ∧ (F.set 60 (.ref (m + 35))).map vtag = vShape 11 := by
  have c16 : (16 : Int32).toNatClampNeg = 16 := by decide
  obtain ⟨t1, t2⟩ := set_tags (v := .ref (m + 35)) hF (show (vShape 11)[60]? = some (vtag (.ref (m + 35))) from rfl)
  refine ⟨?_, t1⟩
  have n0 : ∀ s, (hbk h m (.inr (11, F) :: l) s).2.1 = m + 35 := fun s => by rw [hbk_n, List.length_cons, hl]
  have o0 : ∀ l s, ob (hbk h m (.inr (11, F) :: l) s) m 11 := fun l s => hbk_ob hF
  have p0 : ∀ l s, pR (hbk h m (.inr (11, F) :: l) s) m 60 (m + 35) = hbk h m (.inr (11, F.set 60 (.ref (m + 35))) :: l) s := fun l s => by rw [hbk_pR, t2]
  simp +decide only [e136_396, e136_397, e136_399, e136_401, n0, hbk_new, List.cons_append, o0, p0, c16, vkk_n, vkk_i, vkk_r, vkk_l, vkk_d, catS_nil, catS_i, catS_r, catS_l, catS_d, Nat.reduceAdd, Nat.reduceLeDiff, Nat.zero_le, Nat.le_refl, Option.bind_some, Option.toList_some, Option.toList_none, List.cons_append, List.nil_append, or_true, true_or, if_true, if_false, Int32.reduceLT, Int32.reduceLE, not_true, not_false_iff, true_and, and_true, false_and, and_false]
theorem y136_404 (h : VG) (m : Nat) (F : List Value) (l : List VE) (s : Nat) (L : VL) (hF : F.map vtag = vShape 11) (hl : l.length = 35) : ev 136 404 (some (.ref m) :: L) [] (hbk h m (.inr (11, F) :: l) s) = ev 136 412 (some (.ref m) :: L) [] (hbk h m (.inr (11, F.set 61 (.ref (m + 36))) :: (l ++ [.inl (0, 16, .inl fun _ => 0)])) (s + 16)) ∧ (F.set 61 (.ref (m + 36))).map vtag = vShape 11 := by
  have c16 : (16 : Int32).toNatClampNeg = 16 := by decide
  obtain ⟨t1, t2⟩ := set_tags (v := .ref (m + 36)) hF (show (vShape 11)[61]? = some (vtag (.ref (m + 36))) from rfl)
  refine ⟨?_, t1⟩
  have n0 : ∀ s, (hbk h m (.inr (11, F) :: l) s).2.1 = m + 36 := fun s => by rw [hbk_n, List.length_cons, hl]
  have o0 : ∀ l s, ob (hbk h m (.inr (11, F) :: l) s) m 11 := fun l s => hbk_ob hF
  have p0 : ∀ l s, pR (hbk h m (.inr (11, F) :: l) s) m 61 (m + 36) = hbk h m (.inr (11, F.set 61 (.ref (m + 36))) :: l) s := fun l s => by rw [hbk_pR, t2]
  simp +decide only [e136_404, e136_405, e136_407, e136_409, n0, hbk_new, List.cons_append, o0, p0, c16, vkk_n, vkk_i, vkk_r, vkk_l, vkk_d, catS_nil, catS_i, catS_r, catS_l, catS_d, Nat.reduceAdd, Nat.reduceLeDiff, Nat.zero_le, Nat.le_refl, Option.bind_some, Option.toList_some, Option.toList_none, List.cons_append, List.nil_append, or_true, true_or, if_true, if_false, Int32.reduceLT, Int32.reduceLE, not_true, not_false_iff, true_and, and_true, false_and, and_false]
theorem y136_412 (h : VG) (m : Nat) (F : List Value) (l : List VE) (s : Nat) (L : VL) (hF : F.map vtag = vShape 11) (hl : l.length = 36) : ev 136 412 (some (.ref m) :: L) [] (hbk h m (.inr (11, F) :: l) s) = ev 136 421 (some (.ref m) :: L) [] (hbk h m (.inr (11, F.set 62 (.ref (m + 37))) :: (l ++ [.inl (0, 640, .inl fun _ => 0)])) (s + 640)) ∧ (F.set 62 (.ref (m + 37))).map vtag = vShape 11 := by
  have c640 : (640 : Int32).toNatClampNeg = 640 := by decide
  obtain ⟨t1, t2⟩ := set_tags (v := .ref (m + 37)) hF (show (vShape 11)[62]? = some (vtag (.ref (m + 37))) from rfl)
  refine ⟨?_, t1⟩
  have n0 : ∀ s, (hbk h m (.inr (11, F) :: l) s).2.1 = m + 37 := fun s => by rw [hbk_n, List.length_cons, hl]
  have o0 : ∀ l s, ob (hbk h m (.inr (11, F) :: l) s) m 11 := fun l s => hbk_ob hF
  have p0 : ∀ l s, pR (hbk h m (.inr (11, F) :: l) s) m 62 (m + 37) = hbk h m (.inr (11, F.set 62 (.ref (m + 37))) :: l) s := fun l s => by rw [hbk_pR, t2]
  simp +decide only [e136_412, e136_413, e136_416, e136_418, n0, hbk_new, List.cons_append, o0, p0, c640, vkk_n, vkk_i, vkk_r, vkk_l, vkk_d, catS_nil, catS_i, catS_r, catS_l, catS_d, Nat.reduceAdd, Nat.reduceLeDiff, Nat.zero_le, Nat.le_refl, Option.bind_some, Option.toList_some, Option.toList_none, List.cons_append, List.nil_append, or_true, true_or, if_true, if_false, Int32.reduceLT, Int32.reduceLE, not_true, not_false_iff, true_and, and_true, false_and, and_false]
theorem y136_421 (h : VG) (m : Nat) (F : List Value) (l : List VE) (s : Nat) (L : VL) (hF : F.map vtag = vShape 11) (hl : l.length = 37) : ev 136 421 (some (.ref m) :: L) [] (hbk h m (.inr (11, F) :: l) s) = ev 136 430 (some (.ref m) :: L) [] (hbk h m (.inr (11, F.set 63 (.ref (m + 38))) :: (l ++ [.inl (1, 640, .inr (.inl fun _ => 0))])) (s + 640)) ∧ (F.set 63 (.ref (m + 38))).map vtag = vShape 11 := by
  have c640 : (640 : Int32).toNatClampNeg = 640 := by decide
  obtain ⟨t1, t2⟩ := set_tags (v := .ref (m + 38)) hF (show (vShape 11)[63]? = some (vtag (.ref (m + 38))) from rfl)
  refine ⟨?_, t1⟩
  have n0 : ∀ s, (hbk h m (.inr (11, F) :: l) s).2.1 = m + 38 := fun s => by rw [hbk_n, List.length_cons, hl]
  have o0 : ∀ l s, ob (hbk h m (.inr (11, F) :: l) s) m 11 := fun l s => hbk_ob hF
  have p0 : ∀ l s, pR (hbk h m (.inr (11, F) :: l) s) m 63 (m + 38) = hbk h m (.inr (11, F.set 63 (.ref (m + 38))) :: l) s := fun l s => by rw [hbk_pR, t2]
  simp +decide only [e136_421, e136_422, e136_425, e136_427, n0, hbk_new, List.cons_append, o0, p0, c640, vkk_n, vkk_i, vkk_r, vkk_l, vkk_d, catS_nil, catS_i, catS_r, catS_l, catS_d, Nat.reduceAdd, Nat.reduceLeDiff, Nat.zero_le, Nat.le_refl, Option.bind_some, Option.toList_some, Option.toList_none, List.cons_append, List.nil_append, or_true, true_or, if_true, if_false, Int32.reduceLT, Int32.reduceLE, not_true, not_false_iff, true_and, and_true, false_and, and_false]
theorem y136_430 (h : VG) (m : Nat) (F : List Value) (l : List VE) (s : Nat) (L : VL) (hF : F.map vtag = vShape 11) (hl : l.length = 38) : ev 136 430 (some (.ref m) :: L) [] (hbk h m (.inr (11, F) :: l) s) = ev 136 439 (some (.ref m) :: L) [] (hbk h m (.inr (11, F.set 64 (.ref (m + 39))) :: (l ++ [.inl (4, 640, .inr (.inr (.inr (.inl fun _ => 0))))])) (s + 640)) ∧ (F.set 64 (.ref (m + 39))).map vtag = vShape 11 := by
  have c640 : (640 : Int32).toNatClampNeg = 640 := by decide
  obtain ⟨t1, t2⟩ := set_tags (v := .ref (m + 39)) hF (show (vShape 11)[64]? = some (vtag (.ref (m + 39))) from rfl)
  refine ⟨?_, t1⟩
  have n0 : ∀ s, (hbk h m (.inr (11, F) :: l) s).2.1 = m + 39 := fun s => by rw [hbk_n, List.length_cons, hl]
  have o0 : ∀ l s, ob (hbk h m (.inr (11, F) :: l) s) m 11 := fun l s => hbk_ob hF
  have p0 : ∀ l s, pR (hbk h m (.inr (11, F) :: l) s) m 64 (m + 39) = hbk h m (.inr (11, F.set 64 (.ref (m + 39))) :: l) s := fun l s => by rw [hbk_pR, t2]
  simp +decide only [e136_430, e136_431, e136_434, e136_436, n0, hbk_new, List.cons_append, o0, p0, c640, vkk_n, vkk_i, vkk_r, vkk_l, vkk_d, catS_nil, catS_i, catS_r, catS_l, catS_d, Nat.reduceAdd, Nat.reduceLeDiff, Nat.zero_le, Nat.le_refl, Option.bind_some, Option.toList_some, Option.toList_none, List.cons_append, List.nil_append, or_true, true_or, if_true, if_false, Int32.reduceLT, Int32.reduceLE, not_true, not_false_iff, true_and, and_true, false_and, and_false]
theorem y136_439 (h : VG) (m : Nat) (F : List Value) (l : List VE) (s : Nat) (L : VL) (hF : F.map vtag = vShape 11) (hl : l.length = 39) : ev 136 439 (some (.ref m) :: L) [] (hbk h m (.inr (11, F) :: l) s) = ev 136 447 (some (.ref m) :: L) [] (hbk h m (.inr (11, F.set 65 (.ref (m + 40))) :: (l ++ [.inl (1, 16, .inr (.inl fun _ => 0))])) (s + 16)) ∧ (F.set 65 (.ref (m + 40))).map vtag = vShape 11 := by
  have c16 : (16 : Int32).toNatClampNeg = 16 := by decide
  obtain ⟨t1, t2⟩ := set_tags (v := .ref (m + 40)) hF (show (vShape 11)[65]? = some (vtag (.ref (m + 40))) from rfl)
  refine ⟨?_, t1⟩
  have n0 : ∀ s, (hbk h m (.inr (11, F) :: l) s).2.1 = m + 40 := fun s => by rw [hbk_n, List.length_cons, hl]
  have o0 : ∀ l s, ob (hbk h m (.inr (11, F) :: l) s) m 11 := fun l s => hbk_ob hF
  have p0 : ∀ l s, pR (hbk h m (.inr (11, F) :: l) s) m 65 (m + 40) = hbk h m (.inr (11, F.set 65 (.ref (m + 40))) :: l) s := fun l s => by rw [hbk_pR, t2]
  simp +decide only [e136_439, e136_440, e136_442, e136_444, n0, hbk_new, List.cons_append, o0, p0, c16, vkk_n, vkk_i, vkk_r, vkk_l, vkk_d, catS_nil, catS_i, catS_r, catS_l, catS_d, Nat.reduceAdd, Nat.reduceLeDiff, Nat.zero_le, Nat.le_refl, Option.bind_some, Option.toList_some, Option.toList_none, List.cons_append, List.nil_append, or_true, true_or, if_true, if_false, Int32.reduceLT, Int32.reduceLE, not_true, not_false_iff, true_and, and_true, false_and, and_false]
theorem y136_447 (h : VG) (m : Nat) (F : List Value) (l : List VE) (s : Nat) (L : VL) (hF : F.map vtag = vShape 11) (hl : l.length = 40) : ev 136 447 (some (.ref m) :: L) [] (hbk h m (.inr (11, F) :: l) s) = ev 136 454 (some (.ref m) :: L) [] (hbk h m (.inr (11, F.set 66 (.ref (m + 41))) :: (l ++ [.inl (0, 2, .inl fun _ => 0)])) (s + 2)) ∧ (F.set 66 (.ref (m + 41))).map vtag = vShape 11 := by
  have c2 : (2 : Int32).toNatClampNeg = 2 := by decide
  obtain ⟨t1, t2⟩ := set_tags (v := .ref (m + 41)) hF (show (vShape 11)[66]? = some (vtag (.ref (m + 41))) from rfl)
  refine ⟨?_, t1⟩
  have n0 : ∀ s, (hbk h m (.inr (11, F) :: l) s).2.1 = m + 41 := fun s => by rw [hbk_n, List.length_cons, hl]
  have o0 : ∀ l s, ob (hbk h m (.inr (11, F) :: l) s) m 11 := fun l s => hbk_ob hF
  have p0 : ∀ l s, pR (hbk h m (.inr (11, F) :: l) s) m 66 (m + 41) = hbk h m (.inr (11, F.set 66 (.ref (m + 41))) :: l) s := fun l s => by rw [hbk_pR, t2]
  simp +decide only [e136_447, e136_448, e136_449, e136_451, n0, hbk_new, List.cons_append, o0, p0, c2, vkk_n, vkk_i, vkk_r, vkk_l, vkk_d, catS_nil, catS_i, catS_r, catS_l, catS_d, Nat.reduceAdd, Nat.reduceLeDiff, Nat.zero_le, Nat.le_refl, Option.bind_some, Option.toList_some, Option.toList_none, List.cons_append, List.nil_append, or_true, true_or, if_true, if_false, Int32.reduceLT, Int32.reduceLE, not_true, not_false_iff, true_and, and_true, false_and, and_false]
def modF0 : List Value := [.int 0, .null, .int 0, .null, .int 0, .null, .null, .null, .null, .null, .int 0, .int 0, .int 0, .int 0, .int 0, .int 0, .int 0, .int 0, .int 0, .int 0, .null, .null, .null, .null, .int 0, .int 0, .int 0, .null, .null, .null, .null, .int 0, .int 0, .null, .null, .null, .int 0, .int 0, .int 0, .long 0, .double 0, .int 0, .null, .null, .null, .null, .null, .null, .null, .null, .null, .null, .null, .null, .int 0, .null, .null, .int 0, .null, .null, .null, .null, .null, .null, .null, .null, .null]
def modF (m : Nat) : List Value := [.int 0, .ref (m + 1), .int 0, .ref (m + 2), .int 0, .ref (m + 3), .ref (m + 4), .ref (m + 5), .ref (m + 6), .ref (m + 7), .int 0, .int 0, .int 0, .int 0, .int 0, .int 0, .int (-1), .int 0, .int 256, .int 0, .ref (m + 8), .ref (m + 9), .ref (m + 10), .ref (m + 11), .int 0, .int 0, .int 0, .ref (m + 12), .ref (m + 13), .ref (m + 14), .ref (m + 15), .int 0, .int 0, .ref (m + 16), .ref (m + 17), .ref (m + 18), .int 0, .int 0, .int 0, .long 0, .double 0, .int 0, .ref (m + 19), .ref (m + 20), .ref (m + 21), .ref (m + 22), .ref (m + 23), .ref (m + 24), .ref (m + 25), .ref (m + 26), .ref (m + 27), .ref (m + 28), .ref (m + 29), .ref (m + 30), .int 0, .ref (m + 31), .ref (m + 32), .int 0, .ref (m + 33), .ref (m + 34), .ref (m + 35), .ref (m + 36), .ref (m + 37), .ref (m + 38), .ref (m + 39), .ref (m + 40), .ref (m + 41)]
def modR : List VE := [.inl (2, 2000, .inl fun _ => 0), .inl (2, 2000, .inl fun _ => 0), .inl (0, 403, .inl fun _ => 0), .inl (0, 403, .inl fun _ => 0), .inl (0, 403, .inl fun _ => 0), .inl (1, 403, .inr (.inl fun _ => 0)), .inl (1, 14, .inr (.inl fun _ => 0)), .inl (0, 6, .inl fun _ => 0), .inl (0, 48, .inl fun _ => 0), .inl (0, 48, .inl fun _ => 0), .inl (0, 256, .inl fun _ => 0), .inl (0, 6, .inl fun _ => 0), .inl (0, 48, .inl fun _ => 0), .inl (0, 48, .inl fun _ => 0), .inl (0, 256, .inl fun _ => 0), .inl (0, 10, .inl smallF), .inl (0, 10, .inl wideF), .inl (0, 8, .inl fun _ => 0), .inl (0, 8, .inl fun _ => 0), .inl (0, 8, .inl fun _ => 0), .inl (0, 320, .inl fun _ => 0), .inl (1, 320, .inr (.inl fun _ => 0)), .inl (4, 320, .inr (.inr (.inr (.inl fun _ => 0)))), .inl (0, 40, .inl fun _ => 0), .inl (1, 40, .inr (.inl fun _ => 0)), .inl (4, 40, .inr (.inr (.inr (.inl fun _ => 0)))), .inl (0, 512, .inl fun _ => 0), .inl (3, 512, .inl fun _ => 0), .inl (0, 8, .inl fun _ => 0), .inl (0, 8, .inl fun _ => 0), .inl (0, 2048, .inl fun _ => 0), .inl (1, 8, .inr (.inl fun _ => 0)), .inl (3, 2, .inl fun _ => 0), .inl (0, 512, .inl fun _ => 0), .inl (0, 16, .inl fun _ => 0), .inl (0, 16, .inl fun _ => 0), .inl (0, 640, .inl fun _ => 0), .inl (1, 640, .inr (.inl fun _ => 0)), .inl (4, 640, .inr (.inr (.inr (.inl fun _ => 0)))), .inl (1, 16, .inr (.inl fun _ => 0)), .inl (0, 2, .inl fun _ => 0)]
set_option maxRecDepth 40000 in
theorem ini_modA (h : VG) (m : Nat) (L : VL) : ev 136 4 (some (.ref m) :: L) [] (hbk h m [.inr (11, modF0)] 0) = ev 136 454 (some (.ref m) :: L) [] (hbk h m (.inr (11, modF m) :: modR) 13046) ∧ (modF m).map vtag = vShape 11 := by
  have e0 : modF0.map vtag = vShape 11 := rfl
  have z0 : ([] : List VE).length = 0 := rfl
  obtain ⟨t1, e1⟩ := y136_4 h m _ _ _ L e0 z0
  have z1 := app_len (.inl (2, 2000, .inl fun _ => 0)) z0
  obtain ⟨t2, e2⟩ := y136_13 h m _ _ _ L e1 z1
  have z2 := app_len (.inl (2, 2000, .inl fun _ => 0)) z1
  obtain ⟨t3, e3⟩ := y136_22 h m _ _ _ L e2 z2
  have z3 := app_len (.inl (0, 403, .inl fun _ => 0)) z2
  obtain ⟨t4, e4⟩ := y136_31 h m _ _ _ L e3 z3
  have z4 := app_len (.inl (0, 403, .inl fun _ => 0)) z3
  obtain ⟨t5, e5⟩ := y136_40 h m _ _ _ L e4 z4
  have z5 := app_len (.inl (0, 403, .inl fun _ => 0)) z4
  obtain ⟨t6, e6⟩ := y136_49 h m _ _ _ L e5 z5
  have z6 := app_len (.inl (1, 403, .inr (.inl fun _ => 0))) z5
  obtain ⟨t7, e7⟩ := y136_58 h m _ _ _ L e6 z6
  have z7 := app_len (.inl (1, 14, .inr (.inl fun _ => 0))) z6
  obtain ⟨t8, e8⟩ := y136_66 h m _ _ _ L e7
  obtain ⟨t9, e9⟩ := y136_71 h m _ _ _ L e8
  obtain ⟨t10, e10⟩ := y136_78 h m _ _ _ L e9 z7
  have z8 := app_len (.inl (0, 6, .inl fun _ => 0)) z7
  obtain ⟨t11, e11⟩ := y136_86 h m _ _ _ L e10 z8
  have z9 := app_len (.inl (0, 48, .inl fun _ => 0)) z8
  obtain ⟨t12, e12⟩ := y136_94 h m _ _ _ L e11 z9
  have z10 := app_len (.inl (0, 48, .inl fun _ => 0)) z9
  obtain ⟨t13, e13⟩ := y136_102 h m _ _ _ L e12 z10
  have z11 := app_len (.inl (0, 256, .inl fun _ => 0)) z10
  obtain ⟨t14, e14⟩ := y136_111 h m _ _ _ L e13 z11
  have z12 := app_len (.inl (0, 6, .inl fun _ => 0)) z11
  obtain ⟨t15, e15⟩ := y136_119 h m _ _ _ L e14 z12
  have z13 := app_len (.inl (0, 48, .inl fun _ => 0)) z12
  obtain ⟨t16, e16⟩ := y136_127 h m _ _ _ L e15 z13
  have z14 := app_len (.inl (0, 48, .inl fun _ => 0)) z13
  obtain ⟨t17, e17⟩ := y136_135 h m _ _ _ L e16 z14
  have z15 := app_len (.inl (0, 256, .inl fun _ => 0)) z14
  obtain ⟨t18, e18⟩ := y136_144 h m _ _ _ L e17 z15
  have z16 := app_len (.inl (0, 10, .inl smallF)) z15
  obtain ⟨t19, e19⟩ := y136_198 h m _ _ _ L e18 z16
  have z17 := app_len (.inl (0, 10, .inl wideF)) z16
  obtain ⟨t20, e20⟩ := y136_254 h m _ _ _ L e19 z17
  have z18 := app_len (.inl (0, 8, .inl fun _ => 0)) z17
  obtain ⟨t21, e21⟩ := y136_262 h m _ _ _ L e20 z18
  have z19 := app_len (.inl (0, 8, .inl fun _ => 0)) z18
  obtain ⟨t22, e22⟩ := y136_270 h m _ _ _ L e21 z19
  have z20 := app_len (.inl (0, 8, .inl fun _ => 0)) z19
  obtain ⟨t23, e23⟩ := y136_278 h m _ _ _ L e22 z20
  have z21 := app_len (.inl (0, 320, .inl fun _ => 0)) z20
  obtain ⟨t24, e24⟩ := y136_287 h m _ _ _ L e23 z21
  have z22 := app_len (.inl (1, 320, .inr (.inl fun _ => 0))) z21
  obtain ⟨t25, e25⟩ := y136_296 h m _ _ _ L e24 z22
  have z23 := app_len (.inl (4, 320, .inr (.inr (.inr (.inl fun _ => 0))))) z22
  obtain ⟨t26, e26⟩ := y136_305 h m _ _ _ L e25 z23
  have z24 := app_len (.inl (0, 40, .inl fun _ => 0)) z23
  obtain ⟨t27, e27⟩ := y136_313 h m _ _ _ L e26 z24
  have z25 := app_len (.inl (1, 40, .inr (.inl fun _ => 0))) z24
  obtain ⟨t28, e28⟩ := y136_321 h m _ _ _ L e27 z25
  have z26 := app_len (.inl (4, 40, .inr (.inr (.inr (.inl fun _ => 0))))) z25
  obtain ⟨t29, e29⟩ := y136_329 h m _ _ _ L e28 z26
  have z27 := app_len (.inl (0, 512, .inl fun _ => 0)) z26
  obtain ⟨t30, e30⟩ := y136_338 h m _ _ _ L e29 z27
  have z28 := app_len (.inl (3, 512, .inl fun _ => 0)) z27
  obtain ⟨t31, e31⟩ := y136_347 h m _ _ _ L e30 z28
  have z29 := app_len (.inl (0, 8, .inl fun _ => 0)) z28
  obtain ⟨t32, e32⟩ := y136_355 h m _ _ _ L e31 z29
  have z30 := app_len (.inl (0, 8, .inl fun _ => 0)) z29
  obtain ⟨t33, e33⟩ := y136_363 h m _ _ _ L e32 z30
  have z31 := app_len (.inl (0, 2048, .inl fun _ => 0)) z30
  obtain ⟨t34, e34⟩ := y136_372 h m _ _ _ L e33 z31
  have z32 := app_len (.inl (1, 8, .inr (.inl fun _ => 0))) z31
  obtain ⟨t35, e35⟩ := y136_380 h m _ _ _ L e34 z32
  have z33 := app_len (.inl (3, 2, .inl fun _ => 0)) z32
  obtain ⟨t36, e36⟩ := y136_387 h m _ _ _ L e35 z33
  have z34 := app_len (.inl (0, 512, .inl fun _ => 0)) z33
  obtain ⟨t37, e37⟩ := y136_396 h m _ _ _ L e36 z34
  have z35 := app_len (.inl (0, 16, .inl fun _ => 0)) z34
  obtain ⟨t38, e38⟩ := y136_404 h m _ _ _ L e37 z35
  have z36 := app_len (.inl (0, 16, .inl fun _ => 0)) z35
  obtain ⟨t39, e39⟩ := y136_412 h m _ _ _ L e38 z36
  have z37 := app_len (.inl (0, 640, .inl fun _ => 0)) z36
  obtain ⟨t40, e40⟩ := y136_421 h m _ _ _ L e39 z37
  have z38 := app_len (.inl (1, 640, .inr (.inl fun _ => 0))) z37
  obtain ⟨t41, e41⟩ := y136_430 h m _ _ _ L e40 z38
  have z39 := app_len (.inl (4, 640, .inr (.inr (.inr (.inl fun _ => 0))))) z38
  obtain ⟨t42, e42⟩ := y136_439 h m _ _ _ L e41 z39
  have z40 := app_len (.inl (1, 16, .inr (.inl fun _ => 0))) z39
  obtain ⟨t43, e43⟩ := y136_447 h m _ _ _ L e42 z40
  have z41 := app_len (.inl (0, 2, .inl fun _ => 0)) z40
  constructor
  · rw [t1, t2, t3, t4, t5, t6, t7, t8, t9, t10, t11, t12, t13, t14, t15, t16, t17, t18, t19, t20, t21, t22, t23, t24, t25, t26, t27, t28, t29, t30, t31, t32, t33, t34, t35, t36, t37, t38, t39, t40, t41, t42, t43]
    rfl
  · exact e43
