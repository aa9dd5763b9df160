/-! objects made: the model, its rows -/
theorem set_tags {fs : List Value} {t : List Nat} {k : Nat} {v : Value} (e : fs.map vtag = t) (q : t[k]? = some (vtag v)) : (fs.set k v).map vtag = t ∧ vset fs k v = fs.set k v := by
  have hk : fs[k]?.map vtag = some (vtag v) := by rw [← List.getElem?_map, e, q]
  refine ⟨?_, by unfold vset; rw [if_pos hk]⟩
  rw [List.map_set, e]
  apply List.ext_getElem?
  intro i
  by_cases y : i = k
  · subst y
    have hl : i < t.length := (List.getElem?_eq_some_iff.mp q).1
    rw [List.getElem?_set_self hl, q]
  · rw [List.getElem?_set_ne (by omega)]
theorem app_len {l : List VE} {n : Nat} (c : VE) (hl : l.length = n) : (l ++ [c]).length = n + 1 := by rw [List.length_append, hl]; rfl
theorem hbk_last {h : VG} {m n s : Nat} {O c : VE} {l : List VE} (hl : l.length = n) : (hbk h m (O :: (l ++ [c])) s).1 (m + (n + 1)) = c := hbk_get (by rw [List.getElem?_cons_succ, ← hl, List.getElem?_append_right (Nat.le_refl _), Nat.sub_self]; rfl)
theorem hbk_slast {h : VG} {m n s : Nat} {O c : VE} {l : List VE} (d : VE) (hl : l.length = n) : hset (hbk h m (O :: (l ++ [c])) s) (m + (n + 1)) d = hbk h m (O :: (l ++ [d])) s := by
  rw [hbk_set d (by rw [List.length_cons, List.length_append, hl]; show n + 1 < n + 1 + 1; omega), List.set_cons_succ, List.set_append_right _ _ (by omega), hl, Nat.sub_self]
  rfl
theorem hbk_wIl {h : VG} {m n s t N i : Nat} {O : VE} {l : List VE} {f : Nat → Int32} {x : Int32} (hl : l.length = n) : wI (hbk h m (O :: (l ++ [.inl (t, N, .inl f)])) s) (m + (n + 1)) i x = hbk h m (O :: (l ++ [.inl (t, N, .inl (upd f i x))])) s := by
  unfold wI
  rw [hbk_last hl]
  exact hbk_slast _ hl

theorem y136_4 (h : VG) (m : Nat) (F : List Value) (l : List VE) (s : Nat) (L : VL) (hF : F.map vtag = vShape 11) (hl : l.length = 0) : ev 136 4 (some (.ref m) :: L) [] (hbk h m (.inr (11, F) :: l) s) = ev 136 13 (some (.ref m) :: L) [] (hbk h m (.inr (11, F.set 1 (.ref (m + 1))) :: (l ++ [.inl (2, 2000, .inl fun _ => 0)])) (s + 2000)) ∧ (F.set 1 (.ref (m + 1))).map vtag = vShape 11 := by
  have c2000 : (2000 : Int32).toNatClampNeg = 2000 := by decide
  obtain ⟨t1, t2⟩ := set_tags (v := .ref (m + 1)) hF (show (vShape 11)[1]? = some (vtag (.ref (m + 1))) from rfl)
  refine ⟨?_, t1⟩
  have n0 : ∀ s, (hbk h m (.inr (11, F) :: l) s).2.1 = m + 1 := fun s => by rw [hbk_n, List.length_cons, hl]
  have o0 : ∀ l s, ob (hbk h m (.inr (11, F) :: l) s) m 11 := fun l s => hbk_ob hF
  have p0 : ∀ l s, pR (hbk h m (.inr (11, F) :: l) s) m 1 (m + 1) = hbk h m (.inr (11, F.set 1 (.ref (m + 1))) :: l) s := fun l s => by rw [hbk_pR, t2]
  simp +decide only [e136_4, e136_5, e136_8, e136_10, n0, hbk_new, List.cons_append, o0, p0, c2000, vkk_n, vkk_i, vkk_r, vkk_l, vkk_d, catS_nil, catS_i, catS_r, catS_l, catS_d, Nat.reduceAdd, Nat.reduceLeDiff, Nat.zero_le, Nat.le_refl, Option.bind_some, Option.toList_some, Option.toList_none, List.cons_append, List.nil_append, or_true, true_or, if_true, if_false, Int32.reduceLT, Int32.reduceLE, not_true, not_false_iff, true_and, and_true, false_and, and_false]
theorem y136_13 (h : VG) (m : Nat) (F : List Value) (l : List VE) (s : Nat) (L : VL) (hF : F.map vtag = vShape 11) (hl : l.length = 1) : ev 136 13 (some (.ref m) :: L) [] (hbk h m (.inr (11, F) :: l) s) = ev 136 22 (some (.ref m) :: L) [] (hbk h m (.inr (11, F.set 3 (.ref (m + 2))) :: (l ++ [.inl (2, 2000, .inl fun _ => 0)])) (s + 2000)) ∧ (F.set 3 (.ref (m + 2))).map vtag = vShape 11 := by
  have c2000 : (2000 : Int32).toNatClampNeg = 2000 := by decide
  obtain ⟨t1, t2⟩ := set_tags (v := .ref (m + 2)) hF (show (vShape 11)[3]? = some (vtag (.ref (m + 2))) from rfl)
  refine ⟨?_, t1⟩
  have n0 : ∀ s, (hbk h m (.inr (11, F) :: l) s).2.1 = m + 2 := fun s => by rw [hbk_n, List.length_cons, hl]
  have o0 : ∀ l s, ob (hbk h m (.inr (11, F) :: l) s) m 11 := fun l s => hbk_ob hF
  have p0 : ∀ l s, pR (hbk h m (.inr (11, F) :: l) s) m 3 (m + 2) = hbk h m (.inr (11, F.set 3 (.ref (m + 2))) :: l) s := fun l s => by rw [hbk_pR, t2]
  simp +decide only [e136_13, e136_14, e136_17, e136_19, n0, hbk_new, List.cons_append, o0, p0, c2000, vkk_n, vkk_i, vkk_r, vkk_l, vkk_d, catS_nil, catS_i, catS_r, catS_l, catS_d, Nat.reduceAdd, Nat.reduceLeDiff, Nat.zero_le, Nat.le_refl, Option.bind_some, Option.toList_some, Option.toList_none, List.cons_append, List.nil_append, or_true, true_or, if_true, if_false, Int32.reduceLT, Int32.reduceLE, not_true, not_false_iff, true_and, and_true, false_and, and_false]
theorem y136_22 (h : VG) (m : Nat) (F : List Value) (l : List VE) (s : Nat) (L : VL) (hF : F.map vtag = vShape 11) (hl : l.length = 2) : ev 136 22 (some (.ref m) :: L) [] (hbk h m (.inr (11, F) :: l) s) = ev 136 31 (some (.ref m) :: L) [] (hbk h m (.inr (11, F.set 5 (.ref (m + 3))) :: (l ++ [.inl (0, 403, .inl fun _ => 0)])) (s + 403)) ∧ (F.set 5 (.ref (m + 3))).map vtag = vShape 11 := by
  have c403 : (403 : Int32).toNatClampNeg = 403 := by decide
  obtain ⟨t1, t2⟩ := set_tags (v := .ref (m + 3)) hF (show (vShape 11)[5]? = some (vtag (.ref (m + 3))) from rfl)
  refine ⟨?_, t1⟩
  have n0 : ∀ s, (hbk h m (.inr (11, F) :: l) s).2.1 = m + 3 := fun s => by rw [hbk_n, List.length_cons, hl]
  have o0 : ∀ l s, ob (hbk h m (.inr (11, F) :: l) s) m 11 := fun l s => hbk_ob hF
  have p0 : ∀ l s, pR (hbk h m (.inr (11, F) :: l) s) m 5 (m + 3) = hbk h m (.inr (11, F.set 5 (.ref (m + 3))) :: l) s := fun l s => by rw [hbk_pR, t2]
  simp +decide only [e136_22, e136_23, e136_26, e136_28, n0, hbk_new, List.cons_append, o0, p0, c403, vkk_n, vkk_i, vkk_r, vkk_l, vkk_d, catS_nil, catS_i, catS_r, catS_l, catS_d, Nat.reduceAdd, Nat.reduceLeDiff, Nat.zero_le, Nat.le_refl, Option.bind_some, Option.toList_some, Option.toList_none, List.cons_append, List.nil_append, or_true, true_or, if_true, if_false, Int32.reduceLT, Int32.reduceLE, not_true, not_false_iff, true_and, and_true, false_and, and_false]
theorem y136_31 (h : VG) (m : Nat) (F : List Value) (l : List VE) (s : Nat) (L : VL) (hF : F.map vtag = vShape 11) (hl : l.length = 3) : ev 136 31 (some (.ref m) :: L) [] (hbk h m (.inr (11, F) :: l) s) = ev 136 40 (some (.ref m) :: L) [] (hbk h m (.inr (11, F.set 6 (.ref (m + 4))) :: (l ++ [.inl (0, 403, .inl fun _ => 0)])) (s + 403)) ∧ (F.set 6 (.ref (m + 4))).map vtag = vShape 11 := by
  have c403 : (403 : Int32).toNatClampNeg = 403 := by decide
  obtain ⟨t1, t2⟩ := set_tags (v := .ref (m + 4)) hF (show (vShape 11)[6]? = some (vtag (.ref (m + 4))) from rfl)
  refine ⟨?_, t1⟩
  have n0 : ∀ s, (hbk h m (.inr (11, F) :: l) s).2.1 = m + 4 := fun s => by rw [hbk_n, List.length_cons, hl]
  have o0 : ∀ l s, ob (hbk h m (.inr (11, F) :: l) s) m 11 := fun l s => hbk_ob hF
  have p0 : ∀ l s, pR (hbk h m (.inr (11, F) :: l) s) m 6 (m + 4) = hbk h m (.inr (11, F.set 6 (.ref (m + 4))) :: l) s := fun l s => by rw [hbk_pR, t2]
  simp +decide only [e136_31, e136_32, e136_35, e136_37, n0, hbk_new, List.cons_append, o0, p0, c403, vkk_n, vkk_i, vkk_r, vkk_l, vkk_d, catS_nil, catS_i, catS_r, catS_l, catS_d, Nat.reduceAdd, Nat.reduceLeDiff, Nat.zero_le, Nat.le_refl, Option.bind_some, Option.toList_some, Option.toList_none, List.cons_append, List.nil_append, or_true, true_or, if_true, if_false, Int32.reduceLT, Int32.reduceLE, not_true, not_false_iff, true_and, and_true, false_and, and_false]
theorem y136_40 (h : VG) (m : Nat) (F : List Value) (l : List VE) (s : Nat) (L : VL) (hF : F.map vtag = vShape 11) (hl : l.length = 4) : ev 136 40 (some (.ref m) :: L) [] (hbk h m (.inr (11, F) :: l) s) = ev 136 49 (some (.ref m) :: L) [] (hbk h m (.inr (11, F.set 7 (.ref (m + 5))) :: (l ++ [.inl (0, 403, .inl fun _ => 0)])) (s + 403)) ∧ (F.set 7 (.ref (m + 5))).map vtag = vShape 11 := by
  have c403 : (403 : Int32).toNatClampNeg = 403 := by decide
  obtain ⟨t1, t2⟩ := set_tags (v := .ref (m + 5)) hF (show (vShape 11)[7]? = some (vtag (.ref (m + 5))) from rfl)
  refine ⟨?_, t1⟩
  have n0 : ∀ s, (hbk h m (.inr (11, F) :: l) s).2.1 = m + 5 := fun s => by rw [hbk_n, List.length_cons, hl]
  have o0 : ∀ l s, ob (hbk h m (.inr (11, F) :: l) s) m 11 := fun l s => hbk_ob hF
  have p0 : ∀ l s, pR (hbk h m (.inr (11, F) :: l) s) m 7 (m + 5) = hbk h m (.inr (11, F.set 7 (.ref (m + 5))) :: l) s := fun l s => by rw [hbk_pR, t2]
  simp +decide only [e136_40, e136_41, e136_44, e136_46, n0, hbk_new, List.cons_append, o0, p0, c403, vkk_n, vkk_i, vkk_r, vkk_l, vkk_d, catS_nil, catS_i, catS_r, catS_l, catS_d, Nat.reduceAdd, Nat.reduceLeDiff, Nat.zero_le, Nat.le_refl, Option.bind_some, Option.toList_some, Option.toList_none, List.cons_append, List.nil_append, or_true, true_or, if_true, if_false, Int32.reduceLT, Int32.reduceLE, not_true, not_false_iff, true_and, and_true, false_and, and_false]
theorem y136_49 (h : VG) (m : Nat) (F : List Value) (l : List VE) (s : Nat) (L : VL) (hF : F.map vtag = vShape 11) (hl : l.length = 5) : ev 136 49 (some (.ref m) :: L) [] (hbk h m (.inr (11, F) :: l) s) = ev 136 58 (some (.ref m) :: L) [] (hbk h m (.inr (11, F.set 8 (.ref (m + 6))) :: (l ++ [.inl (1, 403, .inr (.inl fun _ => 0))])) (s + 403)) ∧ (F.set 8 (.ref (m + 6))).map vtag = vShape 11 := by
  have c403 : (403 : Int32).toNatClampNeg = 403 := by decide
  obtain ⟨t1, t2⟩ := set_tags (v := .ref (m + 6)) hF (show (vShape 11)[8]? = some (vtag (.ref (m + 6))) from rfl)
  refine ⟨?_, t1⟩
  have n0 : ∀ s, (hbk h m (.inr (11, F) :: l) s).2.1 = m + 6 := fun s => by rw [hbk_n, List.length_cons, hl]
  have o0 : ∀ l s, ob (hbk h m (.inr (11, F) :: l) s) m 11 := fun l s => hbk_ob hF
  have p0 : ∀ l s, pR (hbk h m (.inr (11, F) :: l) s) m 8 (m + 6) = hbk h m (.inr (11, F.set 8 (.ref (m + 6))) :: l) s := fun l s => by rw [hbk_pR, t2]
  simp +decide only [e136_49, e136_50, e136_53, e136_55, n0, hbk_new, List.cons_append, o0, p0, c403, vkk_n, vkk_i, vkk_r, vkk_l, vkk_d, catS_nil, catS_i, catS_r, catS_l, catS_d, Nat.reduceAdd, Nat.reduceLeDiff, Nat.zero_le, Nat.le_refl, Option.bind_some, Option.toList_some, Option.toList_none, List.cons_append, List.nil_append, or_true, true_or, if_true, if_false, Int32.reduceLT, Int32.reduceLE, not_true, not_false_iff, true_and, and_true, false_and, and_false]
theorem y136_58 (h : VG) (m : Nat) (F : List Value) (l : List VE) (s : Nat) (L : VL) (hF : F.map vtag = vShape 11) (hl : l.length = 6) : ev 136 58 (some (.ref m) :: L) [] (hbk h m (.inr (11, F) :: l) s) = ev 136 66 (some (.ref m) :: L) [] (hbk h m (.inr (11, F.set 9 (.ref (m + 7))) :: (l ++ [.inl (1, 14, .inr (.inl fun _ => 0))])) (s + 14)) ∧ (F.set 9 (.ref (m + 7))).map vtag = vShape 11 := by
  have c14 : (14 : Int32).toNatClampNeg = 14 := by decide
  obtain ⟨t1, t2⟩ := set_tags (v := .ref (m + 7)) hF (show (vShape 11)[9]? = some (vtag (.ref (m + 7))) from rfl)
  refine ⟨?_, t1⟩
  have n0 : ∀ s, (hbk h m (.inr (11, F) :: l) s).2.1 = m + 7 := fun s => by rw [hbk_n, List.length_cons, hl]
  have o0 : ∀ l s, ob (hbk h m (.inr (11, F) :: l) s) m 11 := fun l s => hbk_ob hF
  have p0 : ∀ l s, pR (hbk h m (.inr (11, F) :: l) s) m 9 (m + 7) = hbk h m (.inr (11, F.set 9 (.ref (m + 7))) :: l) s := fun l s => by rw [hbk_pR, t2]
  simp +decide only [e136_58, e136_59, e136_61, e136_63, n0, hbk_new, List.cons_append, o0, p0, c14, vkk_n, vkk_i, vkk_r, vkk_l, vkk_d, catS_nil, catS_i, catS_r, catS_l, catS_d, Nat.reduceAdd, Nat.reduceLeDiff, Nat.zero_le, Nat.le_refl, Option.bind_some, Option.toList_some, Option.toList_none, List.cons_append, List.nil_append, or_true, true_or, if_true, if_false, Int32.reduceLT, Int32.reduceLE, not_true, not_false_iff, true_and, and_true, false_and, and_false]
theorem y136_66 (h : VG) (m : Nat) (F : List Value) (l : List VE) (s : Nat) (L : VL) (hF : F.map vtag = vShape 11) : ev 136 66 (some (.ref m) :: L) [] (hbk h m (.inr (11, F) :: l) s) = ev 136 71 (some (.ref m) :: L) [] (hbk h m (.inr (11, F.set 16 (.int (-1))) :: l) s) ∧ (F.set 16 (.int (-1))).map vtag = vShape 11 := by
  obtain ⟨t1, t2⟩ := set_tags (v := .int (-1)) hF (show (vShape 11)[16]? = some (vtag (.int (-1))) from rfl)
  refine ⟨?_, t1⟩
  have o0 : ∀ l s, ob (hbk h m (.inr (11, F) :: l) s) m 11 := fun l s => hbk_ob hF
  have p0 : ∀ l s, pI (hbk h m (.inr (11, F) :: l) s) m 16 (-1) = hbk h m (.inr (11, F.set 16 (.int (-1))) :: l) s := fun l s => by rw [hbk_pI, t2]
  simp +decide only [e136_66, e136_67, e136_68, o0, p0, vkk_n, vkk_i, vkk_r, vkk_l, vkk_d, catS_nil, catS_i, catS_r, catS_l, catS_d, Nat.reduceAdd, Nat.reduceLeDiff, Nat.zero_le, Nat.le_refl, Option.bind_some, Option.toList_some, Option.toList_none, List.cons_append, List.nil_append, or_true, true_or, if_true, if_false, Int32.reduceLT, Int32.reduceLE, not_true, not_false_iff, true_and, and_true, false_and, and_false]
theorem y136_71 (h : VG) (m : Nat) (F : List Value) (l : List VE) (s : Nat) (L : VL) (hF : F.map vtag = vShape 11) : ev 136 71 (some (.ref m) :: L) [] (hbk h m (.inr (11, F) :: l) s) = ev 136 78 (some (.ref m) :: L) [] (hbk h m (.inr (11, F.set 18 (.int 256)) :: l) s) ∧ (F.set 18 (.int 256)).map vtag = vShape 11 := by
  obtain ⟨t1, t2⟩ := set_tags (v := .int 256) hF (show (vShape 11)[18]? = some (vtag (.int 256)) from rfl)
  refine ⟨?_, t1⟩
  have o0 : ∀ l s, ob (hbk h m (.inr (11, F) :: l) s) m 11 := fun l s => hbk_ob hF
  have p0 : ∀ l s, pI (hbk h m (.inr (11, F) :: l) s) m 18 256 = hbk h m (.inr (11, F.set 18 (.int 256)) :: l) s := fun l s => by rw [hbk_pI, t2]
  simp +decide only [e136_71, e136_72, e136_75, o0, p0, vkk_n, vkk_i, vkk_r, vkk_l, vkk_d, catS_nil, catS_i, catS_r, catS_l, catS_d, Nat.reduceAdd, Nat.reduceLeDiff, Nat.zero_le, Nat.le_refl, Option.bind_some, Option.toList_some, Option.toList_none, List.cons_append, List.nil_append, or_true, true_or, if_true, if_false, Int32.reduceLT, Int32.reduceLE, not_true, not_false_iff, true_and, and_true, false_and, and_false]
theorem y136_78 (h : VG) (m : Nat) (F : List Value) (l : List VE) (s : Nat) (L : VL) (hF : F.map vtag = vShape 11) (hl : l.length = 7) : ev 136 78 (some (.ref m) :: L) [] (hbk h m (.inr (11, F) :: l) s) = ev 136 86 (some (.ref m) :: L) [] (hbk h m (.inr (11, F.set 20 (.ref (m + 8))) :: (l ++ [.inl (0, 6, .inl fun _ => 0)])) (s + 6)) ∧ (F.set 20 (.ref (m + 8))).map vtag = vShape 11 := by
  have c6 : (6 : Int32).toNatClampNeg = 6 := by decide
  obtain ⟨t1, t2⟩ := set_tags (v := .ref (m + 8)) hF (show (vShape 11)[20]? = some (vtag (.ref (m + 8))) from rfl)
  refine ⟨?_, t1⟩
  have n0 : ∀ s, (hbk h m (.inr (11, F) :: l) s).2.1 = m + 8 := fun s => by rw [hbk_n, List.length_cons, hl]
  have o0 : ∀ l s, ob (hbk h m (.inr (11, F) :: l) s) m 11 := fun l s => hbk_ob hF
  have p0 : ∀ l s, pR (hbk h m (.inr (11, F) :: l) s) m 20 (m + 8) = hbk h m (.inr (11, F.set 20 (.ref (m + 8))) :: l) s := fun l s => by rw [hbk_pR, t2]
  simp +decide only [e136_78, e136_79, e136_81, e136_83, n0, hbk_new, List.cons_append, o0, p0, c6, vkk_n, vkk_i, vkk_r, vkk_l, vkk_d, catS_nil, catS_i, catS_r, catS_l, catS_d, Nat.reduceAdd, Nat.reduceLeDiff, Nat.zero_le, Nat.le_refl, Option.bind_some, Option.toList_some, Option.toList_none, List.cons_append, List.nil_append, or_true, true_or, if_true, if_false, Int32.reduceLT, Int32.reduceLE, not_true, not_false_iff, true_and, and_true, false_and, and_false]
theorem y136_86 (h : VG) (m : Nat) (F : List Value) (l : List VE) (s : Nat) (L : VL) (hF : F.map vtag = vShape 11) (hl : l.length = 8) : ev 136 86 (some (.ref m) :: L) [] (hbk h m (.inr (11, F) :: l) s) = ev 136 94 (some (.ref m) :: L) [] (hbk h m (.inr (11, F.set 21 (.ref (m + 9))) :: (l ++ [.inl (0, 48, .inl fun _ => 0)])) (s + 48)) ∧ (F.set 21 (.ref (m + 9))).map vtag = vShape 11 := by
  have c48 : (48 : Int32).toNatClampNeg = 48 := by decide
  obtain ⟨t1, t2⟩ := set_tags (v := .ref (m + 9)) hF (show (vShape 11)[21]? = some (vtag (.ref (m + 9))) from rfl)
  refine ⟨?_, t1⟩
  have n0 : ∀ s, (hbk h m (.inr (11, F) :: l) s).2.1 = m + 9 := fun s => by rw [hbk_n, List.length_cons, hl]
  have o0 : ∀ l s, ob (hbk h m (.inr (11, F) :: l) s) m 11 := fun l s => hbk_ob hF
  have p0 : ∀ l s, pR (hbk h m (.inr (11, F) :: l) s) m 21 (m + 9) = hbk h m (.inr (11, F.set 21 (.ref (m + 9))) :: l) s := fun l s => by rw [hbk_pR, t2]
  simp +decide only [e136_86, e136_87, e136_89, e136_91, n0, hbk_new, List.cons_append, o0, p0, c48, vkk_n, vkk_i, vkk_r, vkk_l, vkk_d, catS_nil, catS_i, catS_r, catS_l, catS_d, Nat.reduceAdd, Nat.reduceLeDiff, Nat.zero_le, Nat.le_refl, Option.bind_some, Option.toList_some, Option.toList_none, List.cons_append, List.nil_append, or_true, true_or, if_true, if_false, Int32.reduceLT, Int32.reduceLE, not_true, not_false_iff, true_and, and_true, false_and, and_false]
theorem y136_94 (h : VG) (m : Nat) (F : List Value) (l : List VE) (s : Nat) (L : VL) (hF : F.map vtag = vShape 11) (hl : l.length = 9) : ev 136 94 (some (.ref m) :: L) [] (hbk h m (.inr (11, F) :: l) s) = ev 136 102 (some (.ref m) :: L) [] (hbk h m (.inr (11, F.set 22 (.ref (m + 10))) :: (l ++ [.inl (0, 48, .inl fun _ => 0)])) (s + 48)) ∧ (F.set 22 (.ref (m + 10))).map vtag = vShape 11 := by
  have c48 : (48 : Int32).toNatClampNeg = 48 := by decide
  obtain ⟨t1, t2⟩ := set_tags (v := .ref (m + 10)) hF (show (vShape 11)[22]? = some (vtag (.ref (m + 10))) from rfl)
  refine ⟨?_, t1⟩
  have n0 : ∀ s, (hbk h m (.inr (11, F) :: l) s).2.1 = m + 10 := fun s => by rw [hbk_n, List.length_cons, hl]
  have o0 : ∀ l s, ob (hbk h m (.inr (11, F) :: l) s) m 11 := fun l s => hbk_ob hF
  have p0 : ∀ l s, pR (hbk h m (.inr (11, F) :: l) s) m 22 (m + 10) = hbk h m (.inr (11, F.set 22 (.ref (m + 10))) :: l) s := fun l s => by rw [hbk_pR, t2]
  simp +decide only [e136_94, e136_95, e136_97, e136_99, n0, hbk_new, List.cons_append, o0, p0, c48, vkk_n, vkk_i, vkk_r, vkk_l, vkk_d, catS_nil, catS_i, catS_r, catS_l, catS_d, Nat.reduceAdd, Nat.reduceLeDiff, Nat.zero_le, Nat.le_refl, Option.bind_some, Option.toList_some, Option.toList_none, List.cons_append, List.nil_append, or_true, true_or, if_true, if_false, Int32.reduceLT, Int32.reduceLE, not_true, not_false_iff, true_and, and_true, false_and, and_false]
theorem y136_102 (h : VG) (m : Nat) (F : List Value) (l : List VE) (s : Nat) (L : VL) (hF : F.map vtag = vShape 11) (hl : l.length = 10) : ev 136 102 (some (.ref m) :: L) [] (hbk h m (.inr (11, F) :: l) s) = ev 136 111 (some (.ref m) :: L) [] (hbk h m (.inr (11, F.set 23 (.ref (m + 11))) :: (l ++ [.inl (0, 256, .inl fun _ => 0)])) (s + 256)) ∧ (F.set 23 (.ref (m + 11))).map vtag = vShape 11 := by
  have c256 : (256 : Int32).toNatClampNeg = 256 := by decide
  obtain ⟨t1, t2⟩ := set_tags (v := .ref (m + 11)) hF (show (vShape 11)[23]? = some (vtag (.ref (m + 11))) from rfl)
  refine ⟨?_, t1⟩
  have n0 : ∀ s, (hbk h m (.inr (11, F) :: l) s).2.1 = m + 11 := fun s => by rw [hbk_n, List.length_cons, hl]
  have o0 : ∀ l s, ob (hbk h m (.inr (11, F) :: l) s) m 11 := fun l s => hbk_ob hF
  have p0 : ∀ l s, pR (hbk h m (.inr (11, F) :: l) s) m 23 (m + 11) = hbk h m (.inr (11, F.set 23 (.ref (m + 11))) :: l) s := fun l s => by rw [hbk_pR, t2]
  simp +decide only [e136_102, e136_103, e136_106, e136_108, n0, hbk_new, List.cons_append, o0, p0, c256, vkk_n, vkk_i, vkk_r, vkk_l, vkk_d, catS_nil, catS_i, catS_r, catS_l, catS_d, Nat.reduceAdd, Nat.reduceLeDiff, Nat.zero_le, Nat.le_refl, Option.bind_some, Option.toList_some, Option.toList_none, List.cons_append, List.nil_append, or_true, true_or, if_true, if_false, Int32.reduceLT, Int32.reduceLE, not_true, not_false_iff, true_and, and_true, false_and, and_false]
theorem y136_111 (h : VG) (m : Nat) (F : List Value) (l : List VE) (s : Nat) (L : VL) (hF : F.map vtag = vShape 11) (hl : l.length = 11) : ev 136 111 (some (.ref m) :: L) [] (hbk h m (.inr (11, F) :: l) s) = ev 136 119 (some (.ref m) :: L) [] (hbk h m (.inr (11, F.set 27 (.ref (m + 12))) :: (l ++ [.inl (0, 6, .inl fun _ => 0)])) (s + 6)) ∧ (F.set 27 (.ref (m + 12))).map vtag = vShape 11 := by
  have c6 : (6 : Int32).toNatClampNeg = 6 := by decide
  obtain ⟨t1, t2⟩ := set_tags (v := .ref (m + 12)) hF (show (vShape 11)[27]? = some (vtag (.ref (m + 12))) from rfl)
  refine ⟨?_, t1⟩
  have n0 : ∀ s, (hbk h m (.inr (11, F) :: l) s).2.1 = m + 12 := fun s => by rw [hbk_n, List.length_cons, hl]
  have o0 : ∀ l s, ob (hbk h m (.inr (11, F) :: l) s) m 11 := fun l s => hbk_ob hF
  have p0 : ∀ l s, pR (hbk h m (.inr (11, F) :: l) s) m 27 (m + 12) = hbk h m (.inr (11, F.set 27 (.ref (m + 12))) :: l) s := fun l s => by rw [hbk_pR, t2]
  simp +decide only [e136_111, e136_112, e136_114, e136_116, n0, hbk_new, List.cons_append, o0, p0, c6, vkk_n, vkk_i, vkk_r, vkk_l, vkk_d, catS_nil, catS_i, catS_r, catS_l, catS_d, Nat.reduceAdd, Nat.reduceLeDiff, Nat.zero_le, Nat.le_refl, Option.bind_some, Option.toList_some, Option.toList_none, List.cons_append, List.nil_append, or_true, true_or, if_true, if_false, Int32.reduceLT, Int32.reduceLE, not_true, not_false_iff, true_and, and_true, false_and, and_false]
theorem y136_119 (h : VG) (m : Nat) (F : List Value) (l : List VE) (s : Nat) (L : VL) (hF : F.map vtag = vShape 11) (hl : l.length = 12) : ev 136 119 (some (.ref m) :: L) [] (hbk h m (.inr (11, F) :: l) s) = ev 136 127 (some (.ref m) :: L) [] (hbk h m (.inr (11, F.set 28 (.ref (m + 13))) :: (l ++ [.inl (0, 48, .inl fun _ => 0)])) (s + 48)) ∧ (F.set 28 (.ref (m + 13))).map vtag = vShape 11 := by
  have c48 : (48 : Int32).toNatClampNeg = 48 := by decide
  obtain ⟨t1, t2⟩ := set_tags (v := .ref (m + 13)) hF (show (vShape 11)[28]? = some (vtag (.ref (m + 13))) from rfl)
  refine ⟨?_, t1⟩
  have n0 : ∀ s, (hbk h m (.inr (11, F) :: l) s).2.1 = m + 13 := fun s => by rw [hbk_n, List.length_cons, hl]
  have o0 : ∀ l s, ob (hbk h m (.inr (11, F) :: l) s) m 11 := fun l s => hbk_ob hF
  have p0 : ∀ l s, pR (hbk h m (.inr (11, F) :: l) s) m 28 (m + 13) = hbk h m (.inr (11, F.set 28 (.ref (m + 13))) :: l) s := fun l s => by rw [hbk_pR, t2]
  simp +decide only [e136_119, e136_120, e136_122, e136_124, n0, hbk_new, List.cons_append, o0, p0, c48, vkk_n, vkk_i, vkk_r, vkk_l, vkk_d, catS_nil, catS_i, catS_r, catS_l, catS_d, Nat.reduceAdd, Nat.reduceLeDiff, Nat.zero_le, Nat.le_refl, Option.bind_some, Option.toList_some, Option.toList_none, List.cons_append, List.nil_append, or_true, true_or, if_true, if_false, Int32.reduceLT, Int32.reduceLE, not_true, not_false_iff, true_and, and_true, false_and, and_false]
theorem y136_127 (h : VG) (m : Nat) (F : List Value) (l : List VE) (s : Nat) (L : VL) (hF : F.map vtag = vShape 11) (hl : l.length = 13) : ev 136 127 (some (.ref m) :: L) [] (hbk h m (.inr (11, F) :: l) s) = ev 136 135 (some (.ref m) :: L) [] (hbk h m (.inr (11, F.set 29 (.ref (m + 14))) :: (l ++ [.inl (0, 48, .inl fun _ => 0)])) (s + 48)) ∧ (F.set 29 (.ref (m + 14))).map vtag = vShape 11 := by
  have c48 : (48 : Int32).toNatClampNeg = 48 := by decide
  obtain ⟨t1, t2⟩ := set_tags (v := .ref (m + 14)) hF (show (vShape 11)[29]? = some (vtag (.ref (m + 14))) from rfl)
  refine ⟨?_, t1⟩
  have n0 : ∀ s, (hbk h m (.inr (11, F) :: l) s).2.1 = m + 14 := fun s => by rw [hbk_n, List.length_cons, hl]
  have o0 : ∀ l s, ob (hbk h m (.inr (11, F) :: l) s) m 11 := fun l s => hbk_ob hF
  have p0 : ∀ l s, pR (hbk h m (.inr (11, F) :: l) s) m 29 (m + 14) = hbk h m (.inr (11, F.set 29 (.ref (m + 14))) :: l) s := fun l s => by rw [hbk_pR, t2]
  simp +decide only [e136_127, e136_128, e136_130, e136_132, n0, hbk_new, List.cons_append, o0, p0, c48, vkk_n, vkk_i, vkk_r, vkk_l, vkk_d, catS_nil, catS_i, catS_r, catS_l, catS_d, Nat.reduceAdd, Nat.reduceLeDiff, Nat.zero_le, Nat.le_refl, Option.bind_some, Option.toList_some, Option.toList_none, List.cons_append, List.nil_append, or_true, true_or, if_true, if_false, Int32.reduceLT, Int32.reduceLE, not_true, not_false_iff, true_and, and_true, false_and, and_false]
theorem y136_135 (h : VG) (m : Nat) (F : List Value) (l : List VE) (s : Nat) (L : VL) (hF : F.map vtag = vShape 11) (hl : l.length = 14) : ev 136 135 (some (.ref m) :: L) [] (hbk h m (.inr (11, F) :: l) s) = ev 136 144 (some (.ref m) :: L) [] (hbk h m (.inr (11, F.set 30 (.ref (m + 15))) :: (l ++ [.inl (0, 256, .inl fun _ => 0)])) (s + 256)) ∧ (F.set 30 (.ref (m + 15))).map vtag = vShape 11 := by
  have c256 : (256 : Int32).toNatClampNeg = 256 := by decide
  obtain ⟨t1, t2⟩ := set_tags (v := .ref (m + 15)) hF (show (vShape 11)[30]? = some (vtag (.ref (m + 15))) from rfl)
  refine ⟨?_, t1⟩
  have n0 : ∀ s, (hbk h m (.inr (11, F) :: l) s).2.1 = m + 15 := fun s => by rw [hbk_n, List.length_cons, hl]
  have o0 : ∀ l s, ob (hbk h m (.inr (11, F) :: l) s) m 11 := fun l s => hbk_ob hF
  have p0 : ∀ l s, pR (hbk h m (.inr (11, F) :: l) s) m 30 (m + 15) = hbk h m (.inr (11, F.set 30 (.ref (m + 15))) :: l) s := fun l s => by rw [hbk_pR, t2]
  simp +decide only [e136_135, e136_136, e136_139, e136_141, n0, hbk_new, List.cons_append, o0, p0, c256, vkk_n, vkk_i, vkk_r, vkk_l, vkk_d, catS_nil, catS_i, catS_r, catS_l, catS_d, Nat.reduceAdd, Nat.reduceLeDiff, Nat.zero_le, Nat.le_refl, Option.bind_some, Option.toList_some, Option.toList_none, List.cons_append, List.nil_append, or_true, true_or, if_true, if_false, Int32.reduceLT, Int32.reduceLE, not_true, not_false_iff, true_and, and_true, false_and, and_false]
def smallF : Nat → Int32 := (upd (upd (upd (upd (upd (upd (upd (upd (upd (upd (fun _ => 0) 0 1) 1 1) 2 2) 3 2) 4 4) 5 4) 6 4) 7 8) 8 8) 9 4)
theorem y136_144 (h : VG) (m : Nat) (F : List Value) (l : List VE) (s : Nat) (L : VL) (hF : F.map vtag = vShape 11) (hl : l.length = 15) : ev 136 144 (some (.ref m) :: L) [] (hbk h m (.inr (11, F) :: l) s) = ev 136 198 (some (.ref m) :: L) [] (hbk h m (.inr (11, F.set 33 (.ref (m + 16))) :: (l ++ [.inl (0, 10, .inl smallF)])) (s + 10)) ∧ (F.set 33 (.ref (m + 16))).map vtag = vShape 11 := by
  have c10 : (10 : Int32).toNatClampNeg = 10 := by decide
  obtain ⟨t1, t2⟩ := set_tags (v := .ref (m + 16)) hF (show (vShape 11)[33]? = some (vtag (.ref (m + 16))) from rfl)
  refine ⟨?_, t1⟩
  have n0 : ∀ s, (hbk h m (.inr (11, F) :: l) s).2.1 = m + 16 := fun s => by rw [hbk_n, List.length_cons, hl]
  have o0 : ∀ l s, ob (hbk h m (.inr (11, F) :: l) s) m 11 := fun l s => hbk_ob hF
  have p0 : ∀ l s, pR (hbk h m (.inr (11, F) :: l) s) m 33 (m + 16) = hbk h m (.inr (11, F.set 33 (.ref (m + 16))) :: l) s := fun l s => by rw [hbk_pR, t2]
  have ar : ∀ f s, arI (hbk h m (.inr (11, F) :: (l ++ [.inl (0, 10, .inl f)])) s) (m + 16) 0 := fun f s => ⟨10, f, hbk_last hl⟩
  have an : ∀ f s, aln (hbk h m (.inr (11, F) :: (l ++ [.inl (0, 10, .inl f)])) s) (m + 16) = 10 := fun f s => by unfold aln; rw [hbk_last hl]
  have aw : ∀ f i x s, wI (hbk h m (.inr (11, F) :: (l ++ [.inl (0, 10, .inl f)])) s) (m + 16) i x = hbk h m (.inr (11, F) :: (l ++ [.inl (0, 10, .inl (upd f i x))])) s := fun f i x s => hbk_wIl hl
  have v0 : vp_in 0 10 := (vp_in_nI (n := 0) (by omega) (by decide) : vp_in (nI 0) 10)
  have c0 : (0 : Int32).toNatClampNeg = 0 := by decide
  have v1 : vp_in 1 10 := (vp_in_nI (n := 1) (by omega) (by decide) : vp_in (nI 1) 10)
  have c1 : (1 : Int32).toNatClampNeg = 1 := by decide
  have v2 : vp_in 2 10 := (vp_in_nI (n := 2) (by omega) (by decide) : vp_in (nI 2) 10)
  have c2 : (2 : Int32).toNatClampNeg = 2 := by decide
  have v3 : vp_in 3 10 := (vp_in_nI (n := 3) (by omega) (by decide) : vp_in (nI 3) 10)
  have c3 : (3 : Int32).toNatClampNeg = 3 := by decide
  have v4 : vp_in 4 10 := (vp_in_nI (n := 4) (by omega) (by decide) : vp_in (nI 4) 10)
  have c4 : (4 : Int32).toNatClampNeg = 4 := by decide
  have v5 : vp_in 5 10 := (vp_in_nI (n := 5) (by omega) (by decide) : vp_in (nI 5) 10)
  have c5 : (5 : Int32).toNatClampNeg = 5 := by decide
  have v6 : vp_in 6 10 := (vp_in_nI (n := 6) (by omega) (by decide) : vp_in (nI 6) 10)
  have c6 : (6 : Int32).toNatClampNeg = 6 := by decide
  have v7 : vp_in 7 10 := (vp_in_nI (n := 7) (by omega) (by decide) : vp_in (nI 7) 10)
  have c7 : (7 : Int32).toNatClampNeg = 7 := by decide
  have v8 : vp_in 8 10 := (vp_in_nI (n := 8) (by omega) (by decide) : vp_in (nI 8) 10)
  have c8 : (8 : Int32).toNatClampNeg = 8 := by decide
  have v9 : vp_in 9 10 := (vp_in_nI (n := 9) (by omega) (by decide) : vp_in (nI 9) 10)
  have c9 : (9 : Int32).toNatClampNeg = 9 := by decide
  unfold smallF
  simp +decide only [e136_144, e136_145, e136_147, e136_149b, e136_149, e136_150, e136_151, e136_152, e136_153b, e136_153, e136_154, e136_155, e136_156, e136_157b, e136_157, e136_158, e136_159, e136_160, e136_161b, e136_161, e136_162, e136_163, e136_164, e136_165b, e136_165, e136_166, e136_167, e136_168, e136_169b, e136_169, e136_170, e136_171, e136_172, e136_173b, e136_173, e136_174, e136_176, e136_177, e136_178b, e136_178, e136_179, e136_181, e136_183, e136_184b, e136_184, e136_185, e136_187, e136_189, e136_190b, e136_190, e136_191, e136_193, e136_194, e136_195, n0, hbk_new, List.cons_append, o0, p0, c10, ar, an, aw, v0, c0, v1, c1, v2, c2, v3, c3, v4, c4, v5, c5, v6, c6, v7, c7, v8, c8, v9, c9, vkk_n, vkk_i, vkk_r, vkk_l, vkk_d, catS_nil, catS_i, catS_r, catS_l, catS_d, Nat.reduceAdd, Nat.reduceLeDiff, Nat.zero_le, Nat.le_refl, Option.bind_some, Option.toList_some, Option.toList_none, List.cons_append, List.nil_append, or_true, true_or, if_true, if_false, Int32.reduceLT, Int32.reduceLE, not_true, not_false_iff, true_and, and_true, false_and, and_false]
def wideF : Nat → Int32 := (upd (upd (upd (upd (upd (upd (upd (upd (upd (upd (fun _ => 0) 0 1) 1 1) 2 2) 3 2) 4 4) 5 8) 6 4) 7 8) 8 8) 9 8)
theorem y136_198 (h : VG) (m : Nat) (F : List Value) (l : List VE) (s : Nat) (L : VL) (hF : F.map vtag = vShape 11) (hl : l.length = 16) : ev 136 198 (some (.ref m) :: L) [] (hbk h m (.inr (11, F) :: l) s) = ev 136 254 (some (.ref m) :: L) [] (hbk h m (.inr (11, F.set 34 (.ref (m + 17))) :: (l ++ [.inl (0, 10, .inl wideF)])) (s + 10)) ∧ (F.set 34 (.ref (m + 17))).map vtag = vShape 11 := by
  have c10 : (10 : Int32).toNatClampNeg = 10 := by decide
  obtain ⟨t1, t2⟩ := set_tags (v := .ref (m + 17)) hF (show (vShape 11)[34]? = some (vtag (.ref (m + 17))) from rfl)
  refine ⟨?_, t1⟩
  have n0 : ∀ s, (hbk h m (.inr (11, F) :: l) s).2.1 = m + 17 := fun s => by rw [hbk_n, List.length_cons, hl]
  have o0 : ∀ l s, ob (hbk h m (.inr (11, F) :: l) s) m 11 := fun l s => hbk_ob hF
  have p0 : ∀ l s, pR (hbk h m (.inr (11, F) :: l) s) m 34 (m + 17) = hbk h m (.inr (11, F.set 34 (.ref (m + 17))) :: l) s := fun l s => by rw [hbk_pR, t2]
  have ar : ∀ f s, arI (hbk h m (.inr (11, F) :: (l ++ [.inl (0, 10, .inl f)])) s) (m + 17) 0 := fun f s => ⟨10, f, hbk_last hl⟩
  have an : ∀ f s, aln (hbk h m (.inr (11, F) :: (l ++ [.inl (0, 10, .inl f)])) s) (m + 17) = 10 := fun f s => by unfold aln; rw [hbk_last hl]
  have aw : ∀ f i x s, wI (hbk h m (.inr (11, F) :: (l ++ [.inl (0, 10, .inl f)])) s) (m + 17) i x = hbk h m (.inr (11, F) :: (l ++ [.inl (0, 10, .inl (upd f i x))])) s := fun f i x s => hbk_wIl hl
  have v0 : vp_in 0 10 := (vp_in_nI (n := 0) (by omega) (by decide) : vp_in (nI 0) 10)
  have c0 : (0 : Int32).toNatClampNeg = 0 := by decide
  have v1 : vp_in 1 10 := (vp_in_nI (n := 1) (by omega) (by decide) : vp_in (nI 1) 10)
  have c1 : (1 : Int32).toNatClampNeg = 1 := by decide
  have v2 : vp_in 2 10 := (vp_in_nI (n := 2) (by omega) (by decide) : vp_in (nI 2) 10)
  have c2 : (2 : Int32).toNatClampNeg = 2 := by decide
  have v3 : vp_in 3 10 := (vp_in_nI (n := 3) (by omega) (by decide) : vp_in (nI 3) 10)
  have c3 : (3 : Int32).toNatClampNeg = 3 := by decide
  have v4 : vp_in 4 10 := (vp_in_nI (n := 4) (by omega) (by decide) : vp_in (nI 4) 10)
  have c4 : (4 : Int32).toNatClampNeg = 4 := by decide
  have v5 : vp_in 5 10 := (vp_in_nI (n := 5) (by omega) (by decide) : vp_in (nI 5) 10)
  have c5 : (5 : Int32).toNatClampNeg = 5 := by decide
  have v6 : vp_in 6 10 := (vp_in_nI (n := 6) (by omega) (by decide) : vp_in (nI 6) 10)
  have c6 : (6 : Int32).toNatClampNeg = 6 := by decide
  have v7 : vp_in 7 10 := (vp_in_nI (n := 7) (by omega) (by decide) : vp_in (nI 7) 10)
  have c7 : (7 : Int32).toNatClampNeg = 7 := by decide
  have v8 : vp_in 8 10 := (vp_in_nI (n := 8) (by omega) (by decide) : vp_in (nI 8) 10)
  have c8 : (8 : Int32).toNatClampNeg = 8 := by decide
  have v9 : vp_in 9 10 := (vp_in_nI (n := 9) (by omega) (by decide) : vp_in (nI 9) 10)
  have c9 : (9 : Int32).toNatClampNeg = 9 := by decide
  unfold wideF
  simp +decide only [e136_198, e136_199, e136_201, e136_203b, e136_203, e136_204, e136_205, e136_206, e136_207b, e136_207, e136_208, e136_209, e136_210, e136_211b, e136_211, e136_212, e136_213, e136_214, e136_215b, e136_215, e136_216, e136_217, e136_218, e136_219b, e136_219, e136_220, e136_221, e136_222, e136_223b, e136_223, e136_224, e136_225, e136_227, e136_228b, e136_228, e136_229, e136_231, e136_232, e136_233b, e136_233, e136_234, e136_236, e136_238, e136_239b, e136_239, e136_240, e136_242, e136_244, e136_245b, e136_245, e136_246, e136_248, e136_250, e136_251, n0, hbk_new, List.cons_append, o0, p0, c10, ar, an, aw, v0, c0, v1, c1, v2, c2, v3, c3, v4, c4, v5, c5, v6, c6, v7, c7, v8, c8, v9, c9, vkk_n, vkk_i, vkk_r, vkk_l, vkk_d, catS_nil, catS_i, catS_r, catS_l, catS_d, Nat.reduceAdd, Nat.reduceLeDiff, Nat.zero_le, Nat.le_refl, Option.bind_some, Option.toList_some, Option.toList_none, List.cons_append, List.nil_append, or_true, true_or, if_true, if_false, Int32.reduceLT, Int32.reduceLE, not_true, not_false_iff, true_and, and_true, false_and, and_false]
theorem y136_254 (h : VG) (m : Nat) (F : List Value) (l : List VE) (s : Nat) (L : VL) (hF : F.map vtag = vShape 11) (hl : l.length = 17) : ev 136 254 (some (.ref m) :: L) [] (hbk h m (.inr (11, F) :: l) s) = ev 136 262 (some (.ref m) :: L) [] (hbk h m (.inr (11, F.set 35 (.ref (m + 18))) :: (l ++ [.inl (0, 8, .inl fun _ => 0)])) (s + 8)) ∧ (F.set 35 (.ref (m + 18))).map vtag = vShape 11 := by
  have c8 : (8 : Int32).toNatClampNeg = 8 := by decide
  obtain ⟨t1, t2⟩ := set_tags (v := .ref (m + 18)) hF (show (vShape 11)[35]? = some (vtag (.ref (m + 18))) from rfl)
  refine ⟨?_, t1⟩
  have n0 : ∀ s, (hbk h m (.inr (11, F) :: l) s).2.1 = m + 18 := fun s => by rw [hbk_n, List.length_cons, hl]
  have o0 : ∀ l s, ob (hbk h m (.inr (11, F) :: l) s) m 11 := fun l s => hbk_ob hF
  have p0 : ∀ l s, pR (hbk h m (.inr (11, F) :: l) s) m 35 (m + 18) = hbk h m (.inr (11, F.set 35 (.ref (m + 18))) :: l) s := fun l s => by rw [hbk_pR, t2]
  simp +decide only [e136_254, e136_255, e136_257, e136_259, n0, hbk_new, List.cons_append, o0, p0, c8, vkk_n, vkk_i, vkk_r, vkk_l, vkk_d, catS_nil, catS_i, catS_r, catS_l, catS_d, Nat.reduceAdd, Nat.reduceLeDiff, Nat.zero_le, Nat.le_refl, Option.bind_some, Option.toList_some, Option.toList_none, List.cons_append, List.nil_append, or_true, true_or, if_true, if_false, Int32.reduceLT, Int32.reduceLE, not_true, not_false_iff, true_and, and_true, false_and, and_false]
theorem y136_262 (h : VG) (m : Nat) (F : List Value) (l : List VE) (s : Nat) (L : VL) (hF : F.map vtag = vShape 11) (hl : l.length = 18) : ev 136 262 (some (.ref m) :: L) [] (hbk h m (.inr (11, F) :: l) s) = ev 136 270 (some (.ref m) :: L) [] (hbk h m (.inr (11, F.set 42 (.ref (m + 19))) :: (l ++ [.inl (0, 8, .inl fun _ => 0)])) (s + 8)) ∧ (F.set 42 (.ref (m + 19))).map vtag = vShape 11 := by
  have c8 : (8 : Int32).toNatClampNeg = 8 := by decide
  obtain ⟨t1, t2⟩ := set_tags (v := .ref (m + 19)) hF (show (vShape 11)[42]? = some (vtag (.ref (m + 19))) from rfl)
  refine ⟨?_, t1⟩
  have n0 : ∀ s, (hbk h m (.inr (11, F) :: l) s).2.1 = m + 19 := fun s => by rw [hbk_n, List.length_cons, hl]
  have o0 : ∀ l s, ob (hbk h m (.inr (11, F) :: l) s) m 11 := fun l s => hbk_ob hF
  have p0 : ∀ l s, pR (hbk h m (.inr (11, F) :: l) s) m 42 (m + 19) = hbk h m (.inr (11, F.set 42 (.ref (m + 19))) :: l) s := fun l s => by rw [hbk_pR, t2]
  simp +decide only [e136_262, e136_263, e136_265, e136_267, n0, hbk_new, List.cons_append, o0, p0, c8, vkk_n, vkk_i, vkk_r, vkk_l, vkk_d, catS_nil, catS_i, catS_r, catS_l, catS_d, Nat.reduceAdd, Nat.reduceLeDiff, Nat.zero_le, Nat.le_refl, Option.bind_some, Option.toList_some, Option.toList_none, List.cons_append, List.nil_append, or_true, true_or, if_true, if_false, Int32.reduceLT, Int32.reduceLE, not_true, not_false_iff, true_and, and_true, false_and, and_false]
theorem y136_270 (h : VG) (m : Nat) (F : List Value) (l : List VE) (s : Nat) (L : VL) (hF : F.map vtag = vShape 11) (hl : l.length = 19) : ev 136 270 (some (.ref m) :: L) [] (hbk h m (.inr (11, F) :: l) s) = ev 136 278 (some (.ref m) :: L) [] (hbk h m (.inr (11, F.set 43 (.ref (m + 20))) :: (l ++ [.inl (0, 8, .inl fun _ => 0)])) (s + 8)) ∧ (F.set 43 (.ref (m + 20))).map vtag = vShape 11 := by
  have c8 : (8 : Int32).toNatClampNeg = 8 := by decide
  obtain ⟨t1, t2⟩ := set_tags (v := .ref (m + 20)) hF (show (vShape 11)[43]? = some (vtag (.ref (m + 20))) from rfl)
  refine ⟨?_, t1⟩
  have n0 : ∀ s, (hbk h m (.inr (11, F) :: l) s).2.1 = m + 20 := fun s => by rw [hbk_n, List.length_cons, hl]
  have o0 : ∀ l s, ob (hbk h m (.inr (11, F) :: l) s) m 11 := fun l s => hbk_ob hF
  have p0 : ∀ l s, pR (hbk h m (.inr (11, F) :: l) s) m 43 (m + 20) = hbk h m (.inr (11, F.set 43 (.ref (m + 20))) :: l) s := fun l s => by rw [hbk_pR, t2]
  simp +decide only [e136_270, e136_271, e136_273, e136_275, n0, hbk_new, List.cons_append, o0, p0, c8, vkk_n, vkk_i, vkk_r, vkk_l, vkk_d, catS_nil, catS_i, catS_r, catS_l, catS_d, Nat.reduceAdd, Nat.reduceLeDiff, Nat.zero_le, Nat.le_refl, Option.bind_some, Option.toList_some, Option.toList_none, List.cons_append, List.nil_append, or_true, true_or, if_true, if_false, Int32.reduceLT, Int32.reduceLE, not_true, not_false_iff, true_and, and_true, false_and, and_false]
theorem y136_278 (h : VG) (m : Nat) (F : List Value) (l : List VE) (s : Nat) (L : VL) (hF : F.map vtag = vShape 11) (hl : l.length = 20) : ev 136 278 (some (.ref m) :: L) [] (hbk h m (.inr (11, F) :: l) s) = ev 136 287 (some (.ref m) :: L) [] (hbk h m (.inr (11, F.set 44 (.ref (m + 21))) :: (l ++ [.inl (0, 320, .inl fun _ => 0)])) (s + 320)) ∧ (F.set 44 (.ref (m + 21))).map vtag = vShape 11 := by
  have c320 : (320 : Int32).toNatClampNeg = 320 := by decide
  obtain ⟨t1, t2⟩ := set_tags (v := .ref (m + 21)) hF (show (vShape 11)[44]? = some (vtag (.ref (m + 21))) from rfl)
  refine ⟨?_, t1⟩
  have n0 : ∀ s, (hbk h m (.inr (11, F) :: l) s).2.1 = m + 21 := fun s => by rw [hbk_n, List.length_cons, hl]
  have o0 : ∀ l s, ob (hbk h m (.inr (11, F) :: l) s) m 11 := fun l s => hbk_ob hF
  have p0 : ∀ l s, pR (hbk h m (.inr (11, F) :: l) s) m 44 (m + 21) = hbk h m (.inr (11, F.set 44 (.ref (m + 21))) :: l) s := fun l s => by rw [hbk_pR, t2]
  simp +decide only [e136_278, e136_279, e136_282, e136_284, n0, hbk_new, List.cons_append, o0, p0, c320, vkk_n, vkk_i, vkk_r, vkk_l, vkk_d, catS_nil, catS_i, catS_r, catS_l, catS_d, Nat.reduceAdd, Nat.reduceLeDiff, Nat.zero_le, Nat.le_refl, Option.bind_some, Option.toList_some, Option.toList_none, List.cons_append, List.nil_append, or_true, true_or, if_true, if_false, Int32.reduceLT, Int32.reduceLE, not_true, not_false_iff, true_and, and_true, false_and, and_false]
theorem y136_287 (h : VG) (m : Nat) (F : List Value) (l : List VE) (s : Nat) (L : VL) (hF : F.map vtag = vShape 11) (hl : l.length = 21) : ev 136 287 (some (.ref m) :: L) [] (hbk h m (.inr (11, F) :: l) s) = ev 136 296 (some (.ref m) :: L) [] (hbk h m (.inr (11, F.set 45 (.ref (m + 22))) :: (l ++ [.inl (1, 320, .inr (.inl fun _ => 0))])) (s + 320)) ∧ (F.set 45 (.ref (m + 22))).map vtag = vShape 11 := by
  have c320 : (320 : Int32).toNatClampNeg = 320 := by decide
  obtain ⟨t1, t2⟩ := set_tags (v := .ref (m + 22)) hF (show (vShape 11)[45]? = some (vtag (.ref (m + 22))) from rfl)
  refine ⟨?_, t1⟩
  have n0 : ∀ s, (hbk h m (.inr (11, F) :: l) s).2.1 = m + 22 := fun s => by rw [hbk_n, List.length_cons, hl]
  have o0 : ∀ l s, ob (hbk h m (.inr (11, F) :: l) s) m 11 := fun l s => hbk_ob hF
  have p0 : ∀ l s, pR (hbk h m (.inr (11, F) :: l) s) m 45 (m + 22) = hbk h m (.inr (11, F.set 45 (.ref (m + 22))) :: l) s := fun l s => by rw [hbk_pR, t2]
  simp +decide only [e136_287, e136_288, e136_291, e136_293, n0, hbk_new, List.cons_append, o0, p0, c320, vkk_n, vkk_i, vkk_r, vkk_l, vkk_d, catS_nil, catS_i, catS_r, catS_l, catS_d, Nat.reduceAdd, Nat.reduceLeDiff, Nat.zero_le, Nat.le_refl, Option.bind_some, Option.toList_some, Option.toList_none, List.cons_append, List.nil_append, or_true, true_or, if_true, if_false, Int32.reduceLT, Int32.reduceLE, not_true, not_false_iff, true_and, and_true, false_and, and_false]
theorem y136_296 (h : VG) (m : Nat) (F : List Value) (l : List VE) (s : Nat) (L : VL) (hF : F.map vtag = vShape 11) (hl : l.length = 22) : ev 136 296 (some (.ref m) :: L) [] (hbk h m (.inr (11, F) :: l) s) = ev 136 305 (some (.ref m) :: L) [] (hbk h m (.inr (11, F.set 46 (.ref (m + 23))) :: (l ++ [.inl (4, 320, .inr (.inr (.inr (.inl fun _ => 0))))])) (s + 320)) ∧ (F.set 46 (.ref (m + 23))).map vtag = vShape 11 := by
  have c320 : (320 : Int32).toNatClampNeg = 320 := by decide
  obtain ⟨t1, t2⟩ := set_tags (v := .ref (m + 23)) hF (show (vShape 11)[46]? = some (vtag (.ref (m + 23))) from rfl)
  refine ⟨?_, t1⟩
  have n0 : ∀ s, (hbk h m (.inr (11, F) :: l) s).2.1 = m + 23 := fun s => by rw [hbk_n, List.length_cons, hl]
  have o0 : ∀ l s, ob (hbk h m (.inr (11, F) :: l) s) m 11 := fun l s => hbk_ob hF
  have p0 : ∀ l s, pR (hbk h m (.inr (11, F) :: l) s) m 46 (m + 23) = hbk h m (.inr (11, F.set 46 (.ref (m + 23))) :: l) s := fun l s => by rw [hbk_pR, t2]
  simp +decide only [e136_296, e136_297, e136_300, e136_302, n0, hbk_new, List.cons_append, o0, p0, c320, vkk_n, vkk_i, vkk_r, vkk_l, vkk_d, catS_nil, catS_i, catS_r, catS_l, catS_d, Nat.reduceAdd, Nat.reduceLeDiff, Nat.zero_le, Nat.le_refl, Option.bind_some, Option.toList_some, Option.toList_none, List.cons_append, List.nil_append, or_true, true_or, if_true, if_false, Int32.reduceLT, Int32.reduceLE, not_true, not_false_iff, true_and, and_true, false_and, and_false]
theorem y136_305 (h : VG) (m : Nat) (F : List Value) (l : List VE) (s : Nat) (L : VL) (hF : F.map vtag = vShape 11) (hl : l.length = 23) : ev 136 305 (some (.ref m) :: L) [] (hbk h m (.inr (11, F) :: l) s) = ev 136 313 (some (.ref m) :: L) [] (hbk h m (.inr (11, F.set 47 (.ref (m + 24))) :: (l ++ [.inl (0, 40, .inl fun _ => 0)])) (s + 40)) ∧ (F.set 47 (.ref (m + 24))).map vtag = vShape 11 := by
  have c40 : (40 : Int32).toNatClampNeg = 40 := by decide
  obtain ⟨t1, t2⟩ := set_tags (v := .ref (m + 24)) hF (show (vShape 11)[47]? = some (vtag (.ref (m + 24))) from rfl)
  refine ⟨?_, t1⟩
  have n0 : ∀ s, (hbk h m (.inr (11, F) :: l) s).2.1 = m + 24 := fun s => by rw [hbk_n, List.length_cons, hl]
  have o0 : ∀ l s, ob (hbk h m (.inr (11, F) :: l) s) m 11 := fun l s => hbk_ob hF
  have p0 : ∀ l s, pR (hbk h m (.inr (11, F) :: l) s) m 47 (m + 24) = hbk h m (.inr (11, F.set 47 (.ref (m + 24))) :: l) s := fun l s => by rw [hbk_pR, t2]
  simp +decide only [e136_305, e136_306, e136_308, e136_310, n0, hbk_new, List.cons_append, o0, p0, c40, vkk_n, vkk_i, vkk_r, vkk_l, vkk_d, catS_nil, catS_i, catS_r, catS_l, catS_d, Nat.reduceAdd, Nat.reduceLeDiff, Nat.zero_le, Nat.le_refl, Option.bind_some, Option.toList_some, Option.toList_none, List.cons_append, List.nil_append, or_true, true_or, if_true, if_false, Int32.reduceLT, Int32.reduceLE, not_true, not_false_iff, true_and, and_true, false_and, and_false]
theorem y136_313 (h : VG) (m : Nat) (F : List Value) (l : List VE) (s : Nat) (L : VL) (hF : F.map vtag = vShape 11) (hl : l.length = 24) : ev 136 313 (some (.ref m) :: L) [] (hbk h m (.inr (11, F) :: l) s) = ev 136 321 (some (.ref m) :: L) [] (hbk h m (.inr (11, F.set 48 (.ref (m + 25))) :: (l ++ [.inl (1, 40, .inr (.inl fun _ => 0))])) (s + 40)) ∧ (F.set 48 (.ref (m + 25))).map vtag = vShape 11 := by
  have c40 : (40 : Int32).toNatClampNeg = 40 := by decide
  obtain ⟨t1, t2⟩ := set_tags (v := .ref (m + 25)) hF (show (vShape 11)[48]? = some (vtag (.ref (m + 25))) from rfl)
  refine ⟨?_, t1⟩
  have n0 : ∀ s, (hbk h m (.inr (11, F) :: l) s).2.1 = m + 25 := fun s => by rw [hbk_n, List.length_cons, hl]
  have o0 : ∀ l s, ob (hbk h m (.inr (11, F) :: l) s) m 11 := fun l s => hbk_ob hF
  have p0 : ∀ l s, pR (hbk h m (.inr (11, F) :: l) s) m 48 (m + 25) = hbk h m (.inr (11, F.set 48 (.ref (m + 25))) :: l) s := fun l s => by rw [hbk_pR, t2]
  simp +decide only [e136_313, e136_314, e136_316, e136_318, n0, hbk_new, List.cons_append, o0, p0, c40, vkk_n, vkk_i, vkk_r, vkk_l, vkk_d, catS_nil, catS_i, catS_r, catS_l, catS_d, Nat.reduceAdd, Nat.reduceLeDiff, Nat.zero_le, Nat.le_refl, Option.bind_some, Option.toList_some, Option.toList_none, List.cons_append, List.nil_append, or_true, true_or, if_true, if_false, Int32.reduceLT, Int32.reduceLE, not_true, not_false_iff, true_and, and_true, false_and, and_false]
theorem y136_321 (h : VG) (m : Nat) (F : List Value) (l : List VE) (s : Nat) (L : VL) (hF : F.map vtag = vShape 11) (hl : l.length = 25) : ev 136 321 (some (.ref m) :: L) [] (hbk h m (.inr (11, F) :: l) s) = ev 136 329 (some (.ref m) :: L) [] (hbk h m (.inr (11, F.set 49 (.ref (m + 26))) :: (l ++ [.inl (4, 40, .inr (.inr (.inr (.inl fun _ => 0))))])) (s + 40)) ∧ (F.set 49 (.ref (m + 26))).map vtag = vShape 11 := by
  have c40 : (40 : Int32).toNatClampNeg = 40 := by decide
  obtain ⟨t1, t2⟩ := set_tags (v := .ref (m + 26)) hF (show (vShape 11)[49]? = some (vtag (.ref (m + 26))) from rfl)
  refine ⟨?_, t1⟩
  have n0 : ∀ s, (hbk h m (.inr (11, F) :: l) s).2.1 = m + 26 := fun s => by rw [hbk_n, List.length_cons, hl]
  have o0 : ∀ l s, ob (hbk h m (.inr (11, F) :: l) s) m 11 := fun l s => hbk_ob hF
  have p0 : ∀ l s, pR (hbk h m (.inr (11, F) :: l) s) m 49 (m + 26) = hbk h m (.inr (11, F.set 49 (.ref (m + 26))) :: l) s := fun l s => by rw [hbk_pR, t2]
  simp +decide only [e136_321, e136_322, e136_324, e136_326, n0, hbk_new, List.cons_append, o0, p0, c40, vkk_n, vkk_i, vkk_r, vkk_l, vkk_d, catS_nil, catS_i, catS_r, catS_l, catS_d, Nat.reduceAdd, Nat.reduceLeDiff, Nat.zero_le, Nat.le_refl, Option.bind_some, Option.toList_some, Option.toList_none, List.cons_append, List.nil_append, or_true, true_or, if_true, if_false, Int32.reduceLT, Int32.reduceLE, not_true, not_false_iff, true_and, and_true, false_and, and_false]
theorem y136_329 (h : VG) (m : Nat) (F : List Value) (l : List VE) (s : Nat) (L : VL) (hF : F.map vtag = vShape 11) (hl : l.length = 26) : ev 136 329 (some (.ref m) :: L) [] (hbk h m (.inr (11, F) :: l) s) = ev 136 338 (some (.ref m) :: L) [] (hbk h m (.inr (11, F.set 50 (.ref (m + 27))) :: (l ++ [.inl (0, 512, .inl fun _ => 0)])) (s + 512)) ∧ (F.set 50 (.ref (m + 27))).map vtag = vShape 11 := by
  have c512 : (512 : Int32).toNatClampNeg = 512 := by decide
  obtain ⟨t1, t2⟩ := set_tags (v := .ref (m + 27)) hF (show (vShape 11)[50]? = some (vtag (.ref (m + 27))) from rfl)
  refine ⟨?_, t1⟩
  have n0 : ∀ s, (hbk h m (.inr (11, F) :: l) s).2.1 = m + 27 := fun s => by rw [hbk_n, List.length_cons, hl]
  have o0 : ∀ l s, ob (hbk h m (.inr (11, F) :: l) s) m 11 := fun l s => hbk_ob hF
  have p0 : ∀ l s, pR (hbk h m (.inr (11, F) :: l) s) m 50 (m + 27) = hbk h m (.inr (11, F.set 50 (.ref (m + 27))) :: l) s := fun l s => by rw [hbk_pR, t2]
  simp +decide only [e136_329, e136_330, e136_333, e136_335, n0, hbk_new, List.cons_append, o0, p0, c512, vkk_n, vkk_i, vkk_r, vkk_l, vkk_d, catS_nil, catS_i, catS_r, catS_l, catS_d, Nat.reduceAdd, Nat.reduceLeDiff, Nat.zero_le, Nat.le_refl, Option.bind_some, Option.toList_some, Option.toList_none, List.cons_append, List.nil_append, or_true, true_or, if_true, if_false, Int32.reduceLT, Int32.reduceLE, not_true, not_false_iff, true_and, and_true, false_and, and_false]
theorem y136_338 (h : VG) (m : Nat) (F : List Value) (l : List VE) (s : Nat) (L : VL) (hF : F.map vtag = vShape 11) (hl : l.length = 27) : ev 136 338 (some (.ref m) :: L) [] (hbk h m (.inr (11, F) :: l) s) = ev 136 347 (some (.ref m) :: L) [] (hbk h m (.inr (11, F.set 51 (.ref (m + 28))) :: (l ++ [.inl (3, 512, .inl fun _ => 0)])) (s + 512)) ∧ (F.set 51 (.ref (m + 28))).map vtag = vShape 11 := by
  have c512 : (512 : Int32).toNatClampNeg = 512 := by decide
  obtain ⟨t1, t2⟩ := set_tags (v := .ref (m + 28)) hF (show (vShape 11)[51]? = some (vtag (.ref (m + 28))) from rfl)
  refine ⟨?_, t1⟩
  have n0 : ∀ s, (hbk h m (.inr (11, F) :: l) s).2.1 = m + 28 := fun s => by rw [hbk_n, List.length_cons, hl]
  have o0 : ∀ l s, ob (hbk h m (.inr (11, F) :: l) s) m 11 := fun l s => hbk_ob hF
  have p0 : ∀ l s, pR (hbk h m (.inr (11, F) :: l) s) m 51 (m + 28) = hbk h m (.inr (11, F.set 51 (.ref (m + 28))) :: l) s := fun l s => by rw [hbk_pR, t2]
  simp +decide only [e136_338, e136_339, e136_342, e136_344, n0, hbk_new, List.cons_append, o0, p0, c512, vkk_n, vkk_i, vkk_r, vkk_l, vkk_d, catS_nil, catS_i, catS_r, catS_l, catS_d, Nat.reduceAdd, Nat.reduceLeDiff, Nat.zero_le, Nat.le_refl, Option.bind_some, Option.toList_some, Option.toList_none, List.cons_append, List.nil_append, or_true, true_or, if_true, if_false, Int32.reduceLT, Int32.reduceLE, not_true, not_false_iff, true_and, and_true, false_and, and_false]
theorem y136_347 (h : VG) (m : Nat) (F : List Value) (l : List VE) (s : Nat) (L : VL) (hF : F.map vtag = vShape 11) (hl : l.length = 28) : ev 136 347 (some (.ref m) :: L) [] (hbk h m (.inr (11, F) :: l) s) = ev 136 355 (some (.ref m) :: L) [] (hbk h m (.inr (11, F.set 52 (.ref (m + 29))) :: (l ++ [.inl (0, 8, .inl fun _ => 0)])) (s + 8)) ∧ (F.set 52 (.ref (m + 29))).map vtag = vShape 11 := by
  have c8 : (8 : Int32).toNatClampNeg = 8 := by decide
  obtain ⟨t1, t2⟩ := set_tags (v := .ref (m + 29)) hF (show (vShape 11)[52]? = some (vtag (.ref (m + 29))) from rfl)
  refine ⟨?_, t1⟩
  have n0 : ∀ s, (hbk h m (.inr (11, F) :: l) s).2.1 = m + 29 := fun s => by rw [hbk_n, List.length_cons, hl]
  have o0 : ∀ l s, ob (hbk h m (.inr (11, F) :: l) s) m 11 := fun l s => hbk_ob hF
  have p0 : ∀ l s, pR (hbk h m (.inr (11, F) :: l) s) m 52 (m + 29) = hbk h m (.inr (11, F.set 52 (.ref (m + 29))) :: l) s := fun l s => by rw [hbk_pR, t2]
  simp +decide only [e136_347, e136_348, e136_350, e136_352, n0, hbk_new, List.cons_append, o0, p0, c8, vkk_n, vkk_i, vkk_r, vkk_l, vkk_d, catS_nil, catS_i, catS_r, catS_l, catS_d, Nat.reduceAdd, Nat.reduceLeDiff, Nat.zero_le, Nat.le_refl, Option.bind_some, Option.toList_some, Option.toList_none, List.cons_append, List.nil_append, or_true, true_or, if_true, if_false, Int32.reduceLT, Int32.reduceLE, not_true, not_false_iff, true_and, and_true, false_and, and_false]
theorem y136_355 (h : VG) (m : Nat) (F : List Value) (l : List VE) (s : Nat) (L : VL) (hF : F.map vtag = vShape 11) (hl : l.length = 29) : ev 136 355 (some (.ref m) :: L) [] (hbk h m (.inr (11, F) :: l) s) = ev 136 363 (some (.ref m) :: L) [] (hbk h m (.inr (11, F.set 53 (.ref (m + 30))) :: (l ++ [.inl (0, 8, .inl fun _ => 0)])) (s + 8)) ∧ (F.set 53 (.ref (m + 30))).map vtag = vShape 11 := by
  have c8 : (8 : Int32).toNatClampNeg = 8 := by decide
  obtain ⟨t1, t2⟩ := set_tags (v := .ref (m + 30)) hF (show (vShape 11)[53]? = some (vtag (.ref (m + 30))) from rfl)
  refine ⟨?_, t1⟩
  have n0 : ∀ s, (hbk h m (.inr (11, F) :: l) s).2.1 = m + 30 := fun s => by rw [hbk_n, List.length_cons, hl]
  have o0 : ∀ l s, ob (hbk h m (.inr (11, F) :: l) s) m 11 := fun l s => hbk_ob hF
  have p0 : ∀ l s, pR (hbk h m (.inr (11, F) :: l) s) m 53 (m + 30) = hbk h m (.inr (11, F.set 53 (.ref (m + 30))) :: l) s := fun l s => by rw [hbk_pR, t2]
  simp +decide only [e136_355, e136_356, e136_358, e136_360, n0, hbk_new, List.cons_append, o0, p0, c8, vkk_n, vkk_i, vkk_r, vkk_l, vkk_d, catS_nil, catS_i, catS_r, catS_l, catS_d, Nat.reduceAdd, Nat.reduceLeDiff, Nat.zero_le, Nat.le_refl, Option.bind_some, Option.toList_some, Option.toList_none, List.cons_append, List.nil_append, or_true, true_or, if_true, if_false, Int32.reduceLT, Int32.reduceLE, not_true, not_false_iff, true_and, and_true, false_and, and_false]
theorem y136_363 (h : VG) (m : Nat) (F : List Value) (l : List VE) (s : Nat) (L : VL) (hF : F.map vtag = vShape 11) (hl : l.length = 30) : ev 136 363 (some (.ref m) :: L) [] (hbk h m (.inr (11, F) :: l) s) = ev 136 372 (some (.ref m) :: L) [] (hbk h m (.inr (11, F.set 55 (.ref (m + 31))) :: (l ++ [.inl (0, 2048, .inl fun _ => 0)])) (s + 2048)) ∧ (F.set 55 (.ref (m + 31))).map vtag = vShape 11 := by
  have c2048 : (2048 : Int32).toNatClampNeg = 2048 := by decide
  obtain ⟨t1, t2⟩ := set_tags (v := .ref (m + 31)) hF (show (vShape 11)[55]? = some (vtag (.ref (m + 31))) from rfl)
  refine ⟨?_, t1⟩
  have n0 : ∀ s, (hbk h m (.inr (11, F) :: l) s).2.1 = m + 31 := fun s => by rw [hbk_n, List.length_cons, hl]
  have o0 : ∀ l s, ob (hbk h m (.inr (11, F) :: l) s) m 11 := fun l s => hbk_ob hF
  have p0 : ∀ l s, pR (hbk h m (.inr (11, F) :: l) s) m 55 (m + 31) = hbk h m (.inr (11, F.set 55 (.ref (m + 31))) :: l) s := fun l s => by rw [hbk_pR, t2]
  simp +decide only [e136_363, e136_364, e136_367, e136_369, n0, hbk_new, List.cons_append, o0, p0, c2048, vkk_n, vkk_i, vkk_r, vkk_l, vkk_d, catS_nil, catS_i, catS_r, catS_l, catS_d, Nat.reduceAdd, Nat.reduceLeDiff, Nat.zero_le, Nat.le_refl, Option.bind_some, Option.toList_some, Option.toList_none, List.cons_append, List.nil_append, or_true, true_or, if_true, if_false, Int32.reduceLT, Int32.reduceLE, not_true, not_false_iff, true_and, and_true, false_and, and_false]
theorem y136_372 (h : VG) (m : Nat) (F : List Value) (l : List VE) (s : Nat) (L : VL) (hF : F.map vtag = vShape 11) (hl : l.length = 31) : ev 136 372 (some (.ref m) :: L) [] (hbk h m (.inr (11, F) :: l) s) = ev 136 380 (some (.ref m) :: L) [] (hbk h m (.inr (11, F.set 56 (.ref (m + 32))) :: (l ++ [.inl (1, 8, .inr (.inl fun _ => 0))])) (s + 8)) ∧ (F.set 56 (.ref (m + 32))).map vtag = vShape 11 := by
  have c8 : (8 : Int32).toNatClampNeg = 8 := by decide
  obtain ⟨t1, t2⟩ := set_tags (v := .ref (m + 32)) hF (show (vShape 11)[56]? = some (vtag (.ref (m + 32))) from rfl)
  refine ⟨?_, t1⟩
  have n0 : ∀ s, (hbk h m (.inr (11, F) :: l) s).2.1 = m + 32 := fun s => by rw [hbk_n, List.length_cons, hl]
  have o0 : ∀ l s, ob (hbk h m (.inr (11, F) :: l) s) m 11 := fun l s => hbk_ob hF
  have p0 : ∀ l s, pR (hbk h m (.inr (11, F) :: l) s) m 56 (m + 32) = hbk h m (.inr (11, F.set 56 (.ref (m + 32))) :: l) s := fun l s => by rw [hbk_pR, t2]
  simp +decide only [e136_372, e136_373, e136_375, e136_377, n0, hbk_new, List.cons_append, o0, p0, c8, vkk_n, vkk_i, vkk_r, vkk_l, vkk_d, catS_nil, catS_i, catS_r, catS_l, catS_d, Nat.reduceAdd, Nat.reduceLeDiff, Nat.zero_le, Nat.le_refl, Option.bind_some, Option.toList_some, Option.toList_none, List.cons_append, List.nil_append, or_true, true_or, if_true, if_false, Int32.reduceLT, Int32.reduceLE, not_true, not_false_iff, true_and, and_true, false_and, and_false]
theorem y136_380 (h : VG) (m : Nat) (F : List Value) (l : List VE) (s : Nat) (L : VL) (hF : F.map vtag = vShape 11) (hl : l.length = 32) : ev 136 380 (some (.ref m) :: L) [] (hbk h m (.inr (11, F) :: l) s) = ev 136 387 (some (.ref m) :: L) [] (hbk h m (.inr (11, F.set 58 (.ref (m + 33))) :: (l ++ [.inl (3, 2, .inl fun _ => 0)])) (s + 2)) ∧ (F.set 58 (.ref (m + 33))).map vtag = vShape 11 := by
  have c2 : (2 : Int32).toNatClampNeg = 2 := by decide
  obtain ⟨t1, t2⟩ := set_tags (v := .ref (m + 33)) hF (show (vShape 11)[58]? = some (vtag (.ref (m + 33))) from rfl)
  refine ⟨?_, t1⟩
  have n0 : ∀ s, (hbk h m (.inr (11, F) :: l) s).2.1 = m + 33 := fun s => by rw [hbk_n, List.length_cons, hl]
  have o0 : ∀ l s, ob (hbk h m (.inr (11, F) :: l) s) m 11 := fun l s => hbk_ob hF
  have p0 : ∀ l s, pR (hbk h m (.inr (11, F) :: l) s) m 58 (m + 33) = hbk h m (.inr (11, F.set 58 (.ref (m + 33))) :: l) s := fun l s => by rw [hbk_pR, t2]
  simp +decide only [e136_380, e136_381, e136_382, e136_384, n0, hbk_new, List.cons_append, o0, p0, c2, vkk_n, vkk_i, vkk_r, vkk_l, vkk_d, catS_nil, catS_i, catS_r, catS_l, catS_d, Nat.reduceAdd, Nat.reduceLeDiff, Nat.zero_le, Nat.le_refl, Option.bind_some, Option.toList_some, Option.toList_none, List.cons_append, List.nil_append, or_true, true_or, if_true, if_false, Int32.reduceLT, Int32.reduceLE, not_true, not_false_iff, true_and, and_true, false_and, and_false]
theorem y136_387 (h : VG) (m : Nat) (F : List Value) (l : List VE) (s : Nat) (L : VL) (hF : F.map vtag = vShape 11) (hl : l.length = 33) : ev 136 387 (some (.ref m) :: L) [] (hbk h m (.inr (11, F) :: l) s) = ev 136 396 (some (.ref m) :: L) [] (hbk h m (.inr (11, F.set 59 (.ref (m + 34))) :: (l ++ [.inl (0, 512, .inl fun _ => 0)])) (s + 512)) ∧ (F.set 59 (.ref (m + 34))).map vtag = vShape 11 := by
  have c512 : (512 : Int32).toNatClampNeg = 512 := by decide
  obtain ⟨t1, t2⟩ := set_tags (v := .ref (m + 34)) hF (show (vShape 11)[59]? = some (vtag (.ref (m + 34))) from rfl)
  refine ⟨?_, t1⟩
  have n0 : ∀ s, (hbk h m (.inr (11, F) :: l) s).2.1 = m + 34 := fun s => by rw [hbk_n, List.length_cons, hl]
  have o0 : ∀ l s, ob (hbk h m (.inr (11, F) :: l) s) m 11 := fun l s => hbk_ob hF
  have p0 : ∀ l s, pR (hbk h m (.inr (11, F) :: l) s) m 59 (m + 34) = hbk h m (.inr (11, F.set 59 (.ref (m + 34))) :: l) s := fun l s => by rw [hbk_pR, t2]
  simp +decide only [e136_387, e136_388, e136_391, e136_393, n0, hbk_new, List.cons_append, o0, p0, c512, vkk_n, vkk_i, vkk_r, vkk_l, vkk_d, catS_nil, catS_i, catS_r, catS_l, catS_d, Nat.reduceAdd, Nat.reduceLeDiff, Nat.zero_le, Nat.le_refl, Option.bind_some, Option.toList_some, Option.toList_none, List.cons_append, List.nil_append, or_true, true_or, if_true, if_false, Int32.reduceLT, Int32.reduceLE, not_true, not_false_iff, true_and, and_true, false_and, and_false]
theorem y136_396 (h : VG) (m : Nat) (F : List Value) (l : List VE) (s : Nat) (L : VL) (hF : F.map vtag = vShape 11) (hl : l.length = 34) : ev 136 396 (some (.ref m) :: L) [] (hbk h m (.inr (11, F) :: l) s) = ev 136 404 (some (.ref m) :: L) [] (hbk h m (.inr (11, F.set 60 (.ref (m + 35))) :: (l ++ [.inl (0, 16, .inl fun _ => 0)])) (s + 16)) ∧ (F.set 60 (.ref (m + 35))).map vtag = vShape 11 := by
  have c16 : (16 : Int32).toNatClampNeg = 16 := by decide
  obtain ⟨t1, t2⟩ := set_tags (v := .ref (m + 35)) hF (show (vShape 11)[60]? = some (vtag (.ref (m + 35))) from rfl)
  refine ⟨?_, t1⟩
  have n0 : ∀ s, (hbk h m (.inr (11, F) :: l) s).2.1 = m + 35 := fun s => by rw [hbk_n, List.length_cons, hl]
  have o0 : ∀ l s, ob (hbk h m (.inr (11, F) :: l) s) m 11 := fun l s => hbk_ob hF
  have p0 : ∀ l s, pR (hbk h m (.inr (11, F) :: l) s) m 60 (m + 35) = hbk h m (.inr (11, F.set 60 (.ref (m + 35))) :: l) s := fun l s => by rw [hbk_pR, t2]
  simp +decide only [e136_396, e136_397, e136_399, e136_401, n0, hbk_new, List.cons_append, o0, p0, c16, vkk_n, vkk_i, vkk_r, vkk_l, vkk_d, catS_nil, catS_i, catS_r, catS_l, catS_d, Nat.reduceAdd, Nat.reduceLeDiff, Nat.zero_le, Nat.le_refl, Option.bind_some, Option.toList_some, Option.toList_none, List.cons_append, List.nil_append, or_true, true_or, if_true, if_false, Int32.reduceLT, Int32.reduceLE, not_true, not_false_iff, true_and, and_true, false_and, and_false]
theorem y136_404 (h : VG) (m : Nat) (F : List Value) (l : List VE) (s : Nat) (L : VL) (hF : F.map vtag = vShape 11) (hl : l.length = 35) : ev 136 404 (some (.ref m) :: L) [] (hbk h m (.inr (11, F) :: l) s) = ev 136 412 (some (.ref m) :: L) [] (hbk h m (.inr (11, F.set 61 (.ref (m + 36))) :: (l ++ [.inl (0, 16, .inl fun _ => 0)])) (s + 16)) ∧ (F.set 61 (.ref (m + 36))).map vtag = vShape 11 := by
  have c16 : (16 : Int32).toNatClampNeg = 16 := by decide
  obtain ⟨t1, t2⟩ := set_tags (v := .ref (m + 36)) hF (show (vShape 11)[61]? = some (vtag (.ref (m + 36))) from rfl)
  refine ⟨?_, t1⟩
  have n0 : ∀ s, (hbk h m (.inr (11, F) :: l) s).2.1 = m + 36 := fun s => by rw [hbk_n, List.length_cons, hl]
  have o0 : ∀ l s, ob (hbk h m (.inr (11, F) :: l) s) m 11 := fun l s => hbk_ob hF
  have p0 : ∀ l s, pR (hbk h m (.inr (11, F) :: l) s) m 61 (m + 36) = hbk h m (.inr (11, F.set 61 (.ref (m + 36))) :: l) s := fun l s => by rw [hbk_pR, t2]
  simp +decide only [e136_404, e136_405, e136_407, e136_409, n0, hbk_new, List.cons_append, o0, p0, c16, vkk_n, vkk_i, vkk_r, vkk_l, vkk_d, catS_nil, catS_i, catS_r, catS_l, catS_d, Nat.reduceAdd, Nat.reduceLeDiff, Nat.zero_le, Nat.le_refl, Option.bind_some, Option.toList_some, Option.toList_none, List.cons_append, List.nil_append, or_true, true_or, if_true, if_false, Int32.reduceLT, Int32.reduceLE, not_true, not_false_iff, true_and, and_true, false_and, and_false]
theorem y136_412 (h : VG) (m : Nat) (F : List Value) (l : List VE) (s : Nat) (L : VL) (hF : F.map vtag = vShape 11) (hl : l.length = 36) : ev 136 412 (some (.ref m) :: L) [] (hbk h m (.inr (11, F) :: l) s) = ev 136 421 (some (.ref m) :: L) [] (hbk h m (.inr (11, F.set 62 (.ref (m + 37))) :: (l ++ [.inl (0, 640, .inl fun _ => 0)])) (s + 640)) ∧ (F.set 62 (.ref (m + 37))).map vtag = vShape 11 := by
  have c640 : (640 : Int32).toNatClampNeg = 640 := by decide
  obtain ⟨t1, t2⟩ := set_tags (v := .ref (m + 37)) hF (show (vShape 11)[62]? = some (vtag (.ref (m + 37))) from rfl)
  refine ⟨?_, t1⟩
  have n0 : ∀ s, (hbk h m (.inr (11, F) :: l) s).2.1 = m + 37 := fun s => by rw [hbk_n, List.length_cons, hl]
  have o0 : ∀ l s, ob (hbk h m (.inr (11, F) :: l) s) m 11 := fun l s => hbk_ob hF
  have p0 : ∀ l s, pR (hbk h m (.inr (11, F) :: l) s) m 62 (m + 37) = hbk h m (.inr (11, F.set 62 (.ref (m + 37))) :: l) s := fun l s => by rw [hbk_pR, t2]
  simp +decide only [e136_412, e136_413, e136_416, e136_418, n0, hbk_new, List.cons_append, o0, p0, c640, vkk_n, vkk_i, vkk_r, vkk_l, vkk_d, catS_nil, catS_i, catS_r, catS_l, catS_d, Nat.reduceAdd, Nat.reduceLeDiff, Nat.zero_le, Nat.le_refl, Option.bind_some, Option.toList_some, Option.toList_none, List.cons_append, List.nil_append, or_true, true_or, if_true, if_false, Int32.reduceLT, Int32.reduceLE, not_true, not_false_iff, true_and, and_true, false_and, and_false]
theorem y136_421 (h : VG) (m : Nat) (F : List Value) (l : List VE) (s : Nat) (L : VL) (hF : F.map vtag = vShape 11) (hl : l.length = 37) : ev 136 421 (some (.ref m) :: L) [] (hbk h m (.inr (11, F) :: l) s) = ev 136 430 (some (.ref m) :: L) [] (hbk h m (.inr (11, F.set 63 (.ref (m + 38))) :: (l ++ [.inl (1, 640, .inr (.inl fun _ => 0))])) (s + 640)) ∧ (F.set 63 (.ref (m + 38))).map vtag = vShape 11 := by
  have c640 : (640 : Int32).toNatClampNeg = 640 := by decide
  obtain ⟨t1, t2⟩ := set_tags (v := .ref (m + 38)) hF (show (vShape 11)[63]? = some (vtag (.ref (m + 38))) from rfl)
  refine ⟨?_, t1⟩
  have n0 : ∀ s, (hbk h m (.inr (11, F) :: l) s).2.1 = m + 38 := fun s => by rw [hbk_n, List.length_cons, hl]
  have o0 : ∀ l s, ob (hbk h m (.inr (11, F) :: l) s) m 11 := fun l s => hbk_ob hF
  have p0 : ∀ l s, pR (hbk h m (.inr (11, F) :: l) s) m 63 (m + 38) = hbk h m (.inr (11, F.set 63 (.ref (m + 38))) :: l) s := fun l s => by rw [hbk_pR, t2]
  simp +decide only [e136_421, e136_422, e136_425, e136_427, n0, hbk_new, List.cons_append, o0, p0, c640, vkk_n, vkk_i, vkk_r, vkk_l, vkk_d, catS_nil, catS_i, catS_r, catS_l, catS_d, Nat.reduceAdd, Nat.reduceLeDiff, Nat.zero_le, Nat.le_refl, Option.bind_some, Option.toList_some, Option.toList_none, List.cons_append, List.nil_append, or_true, true_or, if_true, if_false, Int32.reduceLT, Int32.reduceLE, not_true, not_false_iff, true_and, and_true, false_and, and_false]
theorem y136_430 (h : VG) (m : Nat) (F : List Value) (l : List VE) (s : Nat) (L : VL) (hF : F.map vtag = vShape 11) (hl : l.length = 38) : ev 136 430 (some (.ref m) :: L) [] (hbk h m (.inr (11, F) :: l) s) = ev 136 439 (some (.ref m) :: L) [] (hbk h m (.inr (11, F.set 64 (.ref (m + 39))) :: (l ++ [.inl (4, 640, .inr (.inr (.inr (.inl fun _ => 0))))])) (s + 640)) ∧ (F.set 64 (.ref (m + 39))).map vtag = vShape 11 := by
  have c640 : (640 : Int32).toNatClampNeg = 640 := by decide
  obtain ⟨t1, t2⟩ := set_tags (v := .ref (m + 39)) hF (show (vShape 11)[64]? = some (vtag (.ref (m + 39))) from rfl)
  refine ⟨?_, t1⟩
  have n0 : ∀ s, (hbk h m (.inr (11, F) :: l) s).2.1 = m + 39 := fun s => by rw [hbk_n, List.length_cons, hl]
  have o0 : ∀ l s, ob (hbk h m (.inr (11, F) :: l) s) m 11 := fun l s => hbk_ob hF
  have p0 : ∀ l s, pR (hbk h m (.inr (11, F) :: l) s) m 64 (m + 39) = hbk h m (.inr (11, F.set 64 (.ref (m + 39))) :: l) s := fun l s => by rw [hbk_pR, t2]
  simp +decide only [e136_430, e136_431, e136_434, e136_436, n0, hbk_new, List.cons_append, o0, p0, c640, vkk_n, vkk_i, vkk_r, vkk_l, vkk_d, catS_nil, catS_i, catS_r, catS_l, catS_d, Nat.reduceAdd, Nat.reduceLeDiff, Nat.zero_le, Nat.le_refl, Option.bind_some, Option.toList_some, Option.toList_none, List.cons_append, List.nil_append, or_true, true_or, if_true, if_false, Int32.reduceLT, Int32.reduceLE, not_true, not_false_iff, true_and, and_true, false_and, and_false]
theorem y136_439 (h : VG) (m : Nat) (F : List Value) (l : List VE) (s : Nat) (L : VL) (hF : F.map vtag = vShape 11) (hl : l.length = 39) : ev 136 439 (some (.ref m) :: L) [] (hbk h m (.inr (11, F) :: l) s) = ev 136 447 (some (.ref m) :: L) [] (hbk h m (.inr (11, F.set 65 (.ref (m + 40))) :: (l ++ [.inl (1, 16, .inr (.inl fun _ => 0))])) (s + 16)) ∧ (F.set 65 (.ref (m + 40))).map vtag = vShape 11 := by
  have c16 : (16 : Int32).toNatClampNeg = 16 := by decide
  obtain ⟨t1, t2⟩ := set_tags (v := .ref (m + 40)) hF (show (vShape 11)[65]? = some (vtag (.ref (m + 40))) from rfl)
  refine ⟨?_, t1⟩
  have n0 : ∀ s, (hbk h m (.inr (11, F) :: l) s).2.1 = m + 40 := fun s => by rw [hbk_n, List.length_cons, hl]
  have o0 : ∀ l s, ob (hbk h m (.inr (11, F) :: l) s) m 11 := fun l s => hbk_ob hF
  have p0 : ∀ l s, pR (hbk h m (.inr (11, F) :: l) s) m 65 (m + 40) = hbk h m (.inr (11, F.set 65 (.ref (m + 40))) :: l) s := fun l s => by rw [hbk_pR, t2]
  simp +decide only [e136_439, e136_440, e136_442, e136_444, n0, hbk_new, List.cons_append, o0, p0, c16, vkk_n, vkk_i, vkk_r, vkk_l, vkk_d, catS_nil, catS_i, catS_r, catS_l, catS_d, Nat.reduceAdd, Nat.reduceLeDiff, Nat.zero_le, Nat.le_refl, Option.bind_some, Option.toList_some, Option.toList_none, List.cons_append, List.nil_append, or_true, true_or, if_true, if_false, Int32.reduceLT, Int32.reduceLE, not_true, not_false_iff, true_and, and_true, false_and, and_false]
theorem y136_447 (h : VG) (m : Nat) (F : List Value) (l : List VE) (s : Nat) (L : VL) (hF : F.map vtag = vShape 11) (hl : l.length = 40) : ev 136 447 (some (.ref m) :: L) [] (hbk h m (.inr (11, F) :: l) s) = ev 136 454 (some (.ref m) :: L) [] (hbk h m (.inr (11, F.set 66 (.ref (m + 41))) :: (l ++ [.inl (0, 2, .inl fun _ => 0)])) (s + 2)) ∧ (F.set 66 (.ref (m + 41))).map vtag = vShape 11 := by
  have c2 : (2 : Int32).toNatClampNeg = 2 := by decide
  obtain ⟨t1, t2⟩ := set_tags (v := .ref (m + 41)) hF (show (vShape 11)[66]? = some (vtag (.ref (m + 41))) from rfl)
  refine ⟨?_, t1⟩
  have n0 : ∀ s, (hbk h m (.inr (11, F) :: l) s).2.1 = m + 41 := fun s => by rw [hbk_n, List.length_cons, hl]
  have o0 : ∀ l s, ob (hbk h m (.inr (11, F) :: l) s) m 11 := fun l s => hbk_ob hF
  have p0 : ∀ l s, pR (hbk h m (.inr (11, F) :: l) s) m 66 (m + 41) = hbk h m (.inr (11, F.set 66 (.ref (m + 41))) :: l) s := fun l s => by rw [hbk_pR, t2]
  simp +decide only [e136_447, e136_448, e136_449, e136_451, n0, hbk_new, List.cons_append, o0, p0, c2, vkk_n, vkk_i, vkk_r, vkk_l, vkk_d, catS_nil, catS_i, catS_r, catS_l, catS_d, Nat.reduceAdd, Nat.reduceLeDiff, Nat.zero_le, Nat.le_refl, Option.bind_some, Option.toList_some, Option.toList_none, List.cons_append, List.nil_append, or_true, true_or, if_true, if_false, Int32.reduceLT, Int32.reduceLE, not_true, not_false_iff, true_and, and_true, false_and, and_false]
def modF0 : List Value := [.int 0, .null, .int 0, .null, .int 0, .null, .null, .null, .null, .null, .int 0, .int 0, .int 0, .int 0, .int 0, .int 0, .int 0, .int 0, .int 0, .int 0, .null, .null, .null, .null, .int 0, .int 0, .int 0, .null, .null, .null, .null, .int 0, .int 0, .null, .null, .null, .int 0, .int 0, .int 0, .long 0, .double 0, .int 0, .null, .null, .null, .null, .null, .null, .null, .null, .null, .null, .null, .null, .int 0, .null, .null, .int 0, .null, .null, .null, .null, .null, .null, .null, .null, .null]
def modR0 : List VE := []
def mf1 (m : Nat) : List Value := [.int 0, .ref (m + 1), .int 0, .null, .int 0, .null, .null, .null, .null, .null, .int 0, .int 0, .int 0, .int 0, .int 0, .int 0, .int 0, .int 0, .int 0, .int 0, .null, .null, .null, .null, .int 0, .int 0, .int 0, .null, .null, .null, .null, .int 0, .int 0, .null, .null, .null, .int 0, .int 0, .int 0, .long 0, .double 0, .int 0, .null, .null, .null, .null, .null, .null, .null, .null, .null, .null, .null, .null, .int 0, .null, .null, .int 0, .null, .null, .null, .null, .null, .null, .null, .null, .null]
theorem mf1_s (m : Nat) : (modF0).set 1 (.ref (m + 1)) = mf1 m := rfl
def mr1 : List VE := [.inl (2, 2000, .inl fun _ => 0)]
theorem mr1_s : modR0 ++ [.inl (2, 2000, .inl fun _ => 0)] = mr1 := rfl
def mf2 (m : Nat) : List Value := [.int 0, .ref (m + 1), .int 0, .ref (m + 2), .int 0, .null, .null, .null, .null, .null, .int 0, .int 0, .int 0, .int 0, .int 0, .int 0, .int 0, .int 0, .int 0, .int 0, .null, .null, .null, .null, .int 0, .int 0, .int 0, .null, .null, .null, .null, .int 0, .int 0, .null, .null, .null, .int 0, .int 0, .int 0, .long 0, .double 0, .int 0, .null, .null, .null, .null, .null, .null, .null, .null, .null, .null, .null, .null, .int 0, .null, .null, .int 0, .null, .null, .null, .null, .null, .null, .null, .null, .null]
theorem mf2_s (m : Nat) : (mf1 m).set 3 (.ref (m + 2)) = mf2 m := rfl
def mr2 : List VE := [.inl (2, 2000, .inl fun _ => 0), .inl (2, 2000, .inl fun _ => 0)]
theorem mr2_s : mr1 ++ [.inl (2, 2000, .inl fun _ => 0)] = mr2 := rfl
def mf3 (m : Nat) : List Value := [.int 0, .ref (m + 1), .int 0, .ref (m + 2), .int 0, .ref (m + 3), .null, .null, .null, .null, .int 0, .int 0, .int 0, .int 0, .int 0, .int 0, .int 0, .int 0, .int 0, .int 0, .null, .null, .null, .null, .int 0, .int 0, .int 0, .null, .null, .null, .null, .int 0, .int 0, .null, .null, .null, .int 0, .int 0, .int 0, .long 0, .double 0, .int 0, .null, .null, .null, .null, .null, .null, .null, .null, .null, .null, .null, .null, .int 0, .null, .null, .int 0, .null, .null, .null, .null, .null, .null, .null, .null, .null]
theorem mf3_s (m : Nat) : (mf2 m).set 5 (.ref (m + 3)) = mf3 m := rfl
def mr3 : List VE := [.inl (2, 2000, .inl fun _ => 0), .inl (2, 2000, .inl fun _ => 0), .inl (0, 403, .inl fun _ => 0)]
theorem mr3_s : mr2 ++ [.inl (0, 403, .inl fun _ => 0)] = mr3 := rfl
def mf4 (m : Nat) : List Value := [.int 0, .ref (m + 1), .int 0, .ref (m + 2), .int 0, .ref (m + 3), .ref (m + 4), .null, .null, .null, .int 0, .int 0, .int 0, .int 0, .int 0, .int 0, .int 0, .int 0, .int 0, .int 0, .null, .null, .null, .null, .int 0, .int 0, .int 0, .null, .null, .null, .null, .int 0, .int 0, .null, .null, .null, .int 0, .int 0, .int 0, .long 0, .double 0, .int 0, .null, .null, .null, .null, .null, .null, .null, .null, .null, .null, .null, .null, .int 0, .null, .null, .int 0, .null, .null, .null, .null, .null, .null, .null, .null, .null]
theorem mf4_s (m : Nat) : (mf3 m).set 6 (.ref (m + 4)) = mf4 m := rfl
def mr4 : List VE := [.inl (2, 2000, .inl fun _ => 0), .inl (2, 2000, .inl fun _ => 0), .inl (0, 403, .inl fun _ => 0), .inl (0, 403, .inl fun _ => 0)]
theorem mr4_s : mr3 ++ [.inl (0, 403, .inl fun _ => 0)] = mr4 := rfl
def mf5 (m : Nat) : List Value := [.int 0, .ref (m + 1), .int 0, .ref (m + 2), .int 0, .ref (m + 3), .ref (m + 4), .ref (m + 5), .null, .null, .int 0, .int 0, .int 0, .int 0, .int 0, .int 0, .int 0, .int 0, .int 0, .int 0, .null, .null, .null, .null, .int 0, .int 0, .int 0, .null, .null, .null, .null, .int 0, .int 0, .null, .null, .null, .int 0, .int 0, .int 0, .long 0, .double 0, .int 0, .null, .null, .null, .null, .null, .null, .null, .null, .null, .null, .null, .null, .int 0, .null, .null, .int 0, .null, .null, .null, .null, .null, .null, .null, .null, .null]
theorem mf5_s (m : Nat) : (mf4 m).set 7 (.ref (m + 5)) = mf5 m := rfl
def mr5 : List VE := [.inl (2, 2000, .inl fun _ => 0), .inl (2, 2000, .inl fun _ => 0), .inl (0, 403, .inl fun _ => 0), .inl (0, 403, .inl fun _ => 0), .inl (0, 403, .inl fun _ => 0)]
theorem mr5_s : mr4 ++ [.inl (0, 403, .inl fun _ => 0)] = mr5 := rfl
def mf6 (m : Nat) : List Value := [.int 0, .ref (m + 1), .int 0, .ref (m + 2), .int 0, .ref (m + 3), .ref (m + 4), .ref (m + 5), .ref (m + 6), .null, .int 0, .int 0, .int 0, .int 0, .int 0, .int 0, .int 0, .int 0, .int 0, .int 0, .null, .null, .null, .null, .int 0, .int 0, .int 0, .null, .null, .null, .null, .int 0, .int 0, .null, .null, .null, .int 0, .int 0, .int 0, .long 0, .double 0, .int 0, .null, .null, .null, .null, .null, .null, .null, .null, .null, .null, .null, .null, .int 0, .null, .null, .int 0, .null, .null, .null, .null, .null, .null, .null, .null, .null]
theorem mf6_s (m : Nat) : (mf5 m).set 8 (.ref (m + 6)) = mf6 m := rfl
def mr6 : List VE := [.inl (2, 2000, .inl fun _ => 0), .inl (2, 2000, .inl fun _ => 0), .inl (0, 403, .inl fun _ => 0), .inl (0, 403, .inl fun _ => 0), .inl (0, 403, .inl fun _ => 0), .inl (1, 403, .inr (.inl fun _ => 0))]
theorem mr6_s : mr5 ++ [.inl (1, 403, .inr (.inl fun _ => 0))] = mr6 := rfl
def mf7 (m : Nat) : List Value := [.int 0, .ref (m + 1), .int 0, .ref (m + 2), .int 0, .ref (m + 3), .ref (m + 4), .ref (m + 5), .ref (m + 6), .ref (m + 7), .int 0, .int 0, .int 0, .int 0, .int 0, .int 0, .int 0, .int 0, .int 0, .int 0, .null, .null, .null, .null, .int 0, .int 0, .int 0, .null, .null, .null, .null, .int 0, .int 0, .null, .null, .null, .int 0, .int 0, .int 0, .long 0, .double 0, .int 0, .null, .null, .null, .null, .null, .null, .null, .null, .null, .null, .null, .null, .int 0, .null, .null, .int 0, .null, .null, .null, .null, .null, .null, .null, .null, .null]
theorem mf7_s (m : Nat) : (mf6 m).set 9 (.ref (m + 7)) = mf7 m := rfl
def mr7 : List VE := [.inl (2, 2000, .inl fun _ => 0), .inl (2, 2000, .inl fun _ => 0), .inl (0, 403, .inl fun _ => 0), .inl (0, 403, .inl fun _ => 0), .inl (0, 403, .inl fun _ => 0), .inl (1, 403, .inr (.inl fun _ => 0)), .inl (1, 14, .inr (.inl fun _ => 0))]
theorem mr7_s : mr6 ++ [.inl (1, 14, .inr (.inl fun _ => 0))] = mr7 := rfl
def mf8 (m : Nat) : List Value := [.int 0, .ref (m + 1), .int 0, .ref (m + 2), .int 0, .ref (m + 3), .ref (m + 4), .ref (m + 5), .ref (m + 6), .ref (m + 7), .int 0, .int 0, .int 0, .int 0, .int 0, .int 0, .int (-1), .int 0, .int 0, .int 0, .null, .null, .null, .null, .int 0, .int 0, .int 0, .null, .null, .null, .null, .int 0, .int 0, .null, .null, .null, .int 0, .int 0, .int 0, .long 0, .double 0, .int 0, .null, .null, .null, .null, .null, .null, .null, .null, .null, .null, .null, .null, .int 0, .null, .null, .int 0, .null, .null, .null, .null, .null, .null, .null, .null, .null]
theorem mf8_s (m : Nat) : (mf7 m).set 16 (.int (-1)) = mf8 m := rfl
def mf9 (m : Nat) : List Value := [.int 0, .ref (m + 1), .int 0, .ref (m + 2), .int 0, .ref (m + 3), .ref (m + 4), .ref (m + 5), .ref (m + 6), .ref (m + 7), .int 0, .int 0, .int 0, .int 0, .int 0, .int 0, .int (-1), .int 0, .int 256, .int 0, .null, .null, .null, .null, .int 0, .int 0, .int 0, .null, .null, .null, .null, .int 0, .int 0, .null, .null, .null, .int 0, .int 0, .int 0, .long 0, .double 0, .int 0, .null, .null, .null, .null, .null, .null, .null, .null, .null, .null, .null, .null, .int 0, .null, .null, .int 0, .null, .null, .null, .null, .null, .null, .null, .null, .null]
theorem mf9_s (m : Nat) : (mf8 m).set 18 (.int 256) = mf9 m := rfl
def mf10 (m : Nat) : List Value := [.int 0, .ref (m + 1), .int 0, .ref (m + 2), .int 0, .ref (m + 3), .ref (m + 4), .ref (m + 5), .ref (m + 6), .ref (m + 7), .int 0, .int 0, .int 0, .int 0, .int 0, .int 0, .int (-1), .int 0, .int 256, .int 0, .ref (m + 8), .null, .null, .null, .int 0, .int 0, .int 0, .null, .null, .null, .null, .int 0, .int 0, .null, .null, .null, .int 0, .int 0, .int 0, .long 0, .double 0, .int 0, .null, .null, .null, .null, .null, .null, .null, .null, .null, .null, .null, .null, .int 0, .null, .null, .int 0, .null, .null, .null, .null, .null, .null, .null, .null, .null]
theorem mf10_s (m : Nat) : (mf9 m).set 20 (.ref (m + 8)) = mf10 m := rfl
def mr8 : List VE := [.inl (2, 2000, .inl fun _ => 0), .inl (2, 2000, .inl fun _ => 0), .inl (0, 403, .inl fun _ => 0), .inl (0, 403, .inl fun _ => 0), .inl (0, 403, .inl fun _ => 0), .inl (1, 403, .inr (.inl fun _ => 0)), .inl (1, 14, .inr (.inl fun _ => 0)), .inl (0, 6, .inl fun _ => 0)]
theorem mr8_s : mr7 ++ [.inl (0, 6, .inl fun _ => 0)] = mr8 := rfl
def mf11 (m : Nat) : List Value := [.int 0, .ref (m + 1), .int 0, .ref (m + 2), .int 0, .ref (m + 3), .ref (m + 4), .ref (m + 5), .ref (m + 6), .ref (m + 7), .int 0, .int 0, .int 0, .int 0, .int 0, .int 0, .int (-1), .int 0, .int 256, .int 0, .ref (m + 8), .ref (m + 9), .null, .null, .int 0, .int 0, .int 0, .null, .null, .null, .null, .int 0, .int 0, .null, .null, .null, .int 0, .int 0, .int 0, .long 0, .double 0, .int 0, .null, .null, .null, .null, .null, .null, .null, .null, .null, .null, .null, .null, .int 0, .null, .null, .int 0, .null, .null, .null, .null, .null, .null, .null, .null, .null]
theorem mf11_s (m : Nat) : (mf10 m).set 21 (.ref (m + 9)) = mf11 m := rfl
def mr9 : List VE := [.inl (2, 2000, .inl fun _ => 0), .inl (2, 2000, .inl fun _ => 0), .inl (0, 403, .inl fun _ => 0), .inl (0, 403, .inl fun _ => 0), .inl (0, 403, .inl fun _ => 0), .inl (1, 403, .inr (.inl fun _ => 0)), .inl (1, 14, .inr (.inl fun _ => 0)), .inl (0, 6, .inl fun _ => 0), .inl (0, 48, .inl fun _ => 0)]
theorem mr9_s : mr8 ++ [.inl (0, 48, .inl fun _ => 0)] = mr9 := rfl
def mf12 (m : Nat) : List Value := [.int 0, .ref (m + 1), .int 0, .ref (m + 2), .int 0, .ref (m + 3), .ref (m + 4), .ref (m + 5), .ref (m + 6), .ref (m + 7), .int 0, .int 0, .int 0, .int 0, .int 0, .int 0, .int (-1), .int 0, .int 256, .int 0, .ref (m + 8), .ref (m + 9), .ref (m + 10), .null, .int 0, .int 0, .int 0, .null, .null, .null, .null, .int 0, .int 0, .null, .null, .null, .int 0, .int 0, .int 0, .long 0, .double 0, .int 0, .null, .null, .null, .null, .null, .null, .null, .null, .null, .null, .null, .null, .int 0, .null, .null, .int 0, .null, .null, .null, .null, .null, .null, .null, .null, .null]
theorem mf12_s (m : Nat) : (mf11 m).set 22 (.ref (m + 10)) = mf12 m := rfl
def mr10 : List VE := [.inl (2, 2000, .inl fun _ => 0), .inl (2, 2000, .inl fun _ => 0), .inl (0, 403, .inl fun _ => 0), .inl (0, 403, .inl fun _ => 0), .inl (0, 403, .inl fun _ => 0), .inl (1, 403, .inr (.inl fun _ => 0)), .inl (1, 14, .inr (.inl fun _ => 0)), .inl (0, 6, .inl fun _ => 0), .inl (0, 48, .inl fun _ => 0), .inl (0, 48, .inl fun _ => 0)]
theorem mr10_s : mr9 ++ [.inl (0, 48, .inl fun _ => 0)] = mr10 := rfl
def mf13 (m : Nat) : List Value := [.int 0, .ref (m + 1), .int 0, .ref (m + 2), .int 0, .ref (m + 3), .ref (m + 4), .ref (m + 5), .ref (m + 6), .ref (m + 7), .int 0, .int 0, .int 0, .int 0, .int 0, .int 0, .int (-1), .int 0, .int 256, .int 0, .ref (m + 8), .ref (m + 9), .ref (m + 10), .ref (m + 11), .int 0, .int 0, .int 0, .null, .null, .null, .null, .int 0, .int 0, .null, .null, .null, .int 0, .int 0, .int 0, .long 0, .double 0, .int 0, .null, .null, .null, .null, .null, .null, .null, .null, .null, .null, .null, .null, .int 0, .null, .null, .int 0, .null, .null, .null, .null, .null, .null, .null, .null, .null]
theorem mf13_s (m : Nat) : (mf12 m).set 23 (.ref (m + 11)) = mf13 m := rfl
def mr11 : List VE := [.inl (2, 2000, .inl fun _ => 0), .inl (2, 2000, .inl fun _ => 0), .inl (0, 403, .inl fun _ => 0), .inl (0, 403, .inl fun _ => 0), .inl (0, 403, .inl fun _ => 0), .inl (1, 403, .inr (.inl fun _ => 0)), .inl (1, 14, .inr (.inl fun _ => 0)), .inl (0, 6, .inl fun _ => 0), .inl (0, 48, .inl fun _ => 0), .inl (0, 48, .inl fun _ => 0), .inl (0, 256, .inl fun _ => 0)]
theorem mr11_s : mr10 ++ [.inl (0, 256, .inl fun _ => 0)] = mr11 := rfl
def mf14 (m : Nat) : List Value := [.int 0, .ref (m + 1), .int 0, .ref (m + 2), .int 0, .ref (m + 3), .ref (m + 4), .ref (m + 5), .ref (m + 6), .ref (m + 7), .int 0, .int 0, .int 0, .int 0, .int 0, .int 0, .int (-1), .int 0, .int 256, .int 0, .ref (m + 8), .ref (m + 9), .ref (m + 10), .ref (m + 11), .int 0, .int 0, .int 0, .ref (m + 12), .null, .null, .null, .int 0, .int 0, .null, .null, .null, .int 0, .int 0, .int 0, .long 0, .double 0, .int 0, .null, .null, .null, .null, .null, .null, .null, .null, .null, .null, .null, .null, .int 0, .null, .null, .int 0, .null, .null, .null, .null, .null, .null, .null, .null, .null]
theorem mf14_s (m : Nat) : (mf13 m).set 27 (.ref (m + 12)) = mf14 m := rfl
def mr12 : List VE := [.inl (2, 2000, .inl fun _ => 0), .inl (2, 2000, .inl fun _ => 0), .inl (0, 403, .inl fun _ => 0), .inl (0, 403, .inl fun _ => 0), .inl (0, 403, .inl fun _ => 0), .inl (1, 403, .inr (.inl fun _ => 0)), .inl (1, 14, .inr (.inl fun _ => 0)), .inl (0, 6, .inl fun _ => 0), .inl (0, 48, .inl fun _ => 0), .inl (0, 48, .inl fun _ => 0), .inl (0, 256, .inl fun _ => 0), .inl (0, 6, .inl fun _ => 0)]
theorem mr12_s : mr11 ++ [.inl (0, 6, .inl fun _ => 0)] = mr12 := rfl
def mf15 (m : Nat) : List Value := [.int 0, .ref (m + 1), .int 0, .ref (m + 2), .int 0, .ref (m + 3), .ref (m + 4), .ref (m + 5), .ref (m + 6), .ref (m + 7), .int 0, .int 0, .int 0, .int 0, .int 0, .int 0, .int (-1), .int 0, .int 256, .int 0, .ref (m + 8), .ref (m + 9), .ref (m + 10), .ref (m + 11), .int 0, .int 0, .int 0, .ref (m + 12), .ref (m + 13), .null, .null, .int 0, .int 0, .null, .null, .null, .int 0, .int 0, .int 0, .long 0, .double 0, .int 0, .null, .null, .null, .null, .null, .null, .null, .null, .null, .null, .null, .null, .int 0, .null, .null, .int 0, .null, .null, .null, .null, .null, .null, .null, .null, .null]
theorem mf15_s (m : Nat) : (mf14 m).set 28 (.ref (m + 13)) = mf15 m := rfl
def mr13 : List VE := [.inl (2, 2000, .inl fun _ => 0), .inl (2, 2000, .inl fun _ => 0), .inl (0, 403, .inl fun _ => 0), .inl (0, 403, .inl fun _ => 0), .inl (0, 403, .inl fun _ => 0), .inl (1, 403, .inr (.inl fun _ => 0)), .inl (1, 14, .inr (.inl fun _ => 0)), .inl (0, 6, .inl fun _ => 0), .inl (0, 48, .inl fun _ => 0), .inl (0, 48, .inl fun _ => 0), .inl (0, 256, .inl fun _ => 0), .inl (0, 6, .inl fun _ => 0), .inl (0, 48, .inl fun _ => 0)]
theorem mr13_s : mr12 ++ [.inl (0, 48, .inl fun _ => 0)] = mr13 := rfl
def mf16 (m : Nat) : List Value := [.int 0, .ref (m + 1), .int 0, .ref (m + 2), .int 0, .ref (m + 3), .ref (m + 4), .ref (m + 5), .ref (m + 6), .ref (m + 7), .int 0, .int 0, .int 0, .int 0, .int 0, .int 0, .int (-1), .int 0, .int 256, .int 0, .ref (m + 8), .ref (m + 9), .ref (m + 10), .ref (m + 11), .int 0, .int 0, .int 0, .ref (m + 12), .ref (m + 13), .ref (m + 14), .null, .int 0, .int 0, .null, .null, .null, .int 0, .int 0, .int 0, .long 0, .double 0, .int 0, .null, .null, .null, .null, .null, .null, .null, .null, .null, .null, .null, .null, .int 0, .null, .null, .int 0, .null, .null, .null, .null, .null, .null, .null, .null, .null]
theorem mf16_s (m : Nat) : (mf15 m).set 29 (.ref (m + 14)) = mf16 m := rfl
def mr14 : List VE := [.inl (2, 2000, .inl fun _ => 0), .inl (2, 2000, .inl fun _ => 0), .inl (0, 403, .inl fun _ => 0), .inl (0, 403, .inl fun _ => 0), .inl (0, 403, .inl fun _ => 0), .inl (1, 403, .inr (.inl fun _ => 0)), .inl (1, 14, .inr (.inl fun _ => 0)), .inl (0, 6, .inl fun _ => 0), .inl (0, 48, .inl fun _ => 0), .inl (0, 48, .inl fun _ => 0), .inl (0, 256, .inl fun _ => 0), .inl (0, 6, .inl fun _ => 0), .inl (0, 48, .inl fun _ => 0), .inl (0, 48, .inl fun _ => 0)]
theorem mr14_s : mr13 ++ [.inl (0, 48, .inl fun _ => 0)] = mr14 := rfl
def mf17 (m : Nat) : List Value := [.int 0, .ref (m + 1), .int 0, .ref (m + 2), .int 0, .ref (m + 3), .ref (m + 4), .ref (m + 5), .ref (m + 6), .ref (m + 7), .int 0, .int 0, .int 0, .int 0, .int 0, .int 0, .int (-1), .int 0, .int 256, .int 0, .ref (m + 8), .ref (m + 9), .ref (m + 10), .ref (m + 11), .int 0, .int 0, .int 0, .ref (m + 12), .ref (m + 13), .ref (m + 14), .ref (m + 15), .int 0, .int 0, .null, .null, .null, .int 0, .int 0, .int 0, .long 0, .double 0, .int 0, .null, .null, .null, .null, .null, .null, .null, .null, .null, .null, .null, .null, .int 0, .null, .null, .int 0, .null, .null, .null, .null, .null, .null, .null, .null, .null]
theorem mf17_s (m : Nat) : (mf16 m).set 30 (.ref (m + 15)) = mf17 m := rfl
def mr15 : List VE := [.inl (2, 2000, .inl fun _ => 0), .inl (2, 2000, .inl fun _ => 0), .inl (0, 403, .inl fun _ => 0), .inl (0, 403, .inl fun _ => 0), .inl (0, 403, .inl fun _ => 0), .inl (1, 403, .inr (.inl fun _ => 0)), .inl (1, 14, .inr (.inl fun _ => 0)), .inl (0, 6, .inl fun _ => 0), .inl (0, 48, .inl fun _ => 0), .inl (0, 48, .inl fun _ => 0), .inl (0, 256, .inl fun _ => 0), .inl (0, 6, .inl fun _ => 0), .inl (0, 48, .inl fun _ => 0), .inl (0, 48, .inl fun _ => 0), .inl (0, 256, .inl fun _ => 0)]
theorem mr15_s : mr14 ++ [.inl (0, 256, .inl fun _ => 0)] = mr15 := rfl
def mf18 (m : Nat) : List Value := [.int 0, .ref (m + 1), .int 0, .ref (m + 2), .int 0, .ref (m + 3), .ref (m + 4), .ref (m + 5), .ref (m + 6), .ref (m + 7), .int 0, .int 0, .int 0, .int 0, .int 0, .int 0, .int (-1), .int 0, .int 256, .int 0, .ref (m + 8), .ref (m + 9), .ref (m + 10), .ref (m + 11), .int 0, .int 0, .int 0, .ref (m + 12), .ref (m + 13), .ref (m + 14), .ref (m + 15), .int 0, .int 0, .ref (m + 16), .null, .null, .int 0, .int 0, .int 0, .long 0, .double 0, .int 0, .null, .null, .null, .null, .null, .null, .null, .null, .null, .null, .null, .null, .int 0, .null, .null, .int 0, .null, .null, .null, .null, .null, .null, .null, .null, .null]
theorem mf18_s (m : Nat) : (mf17 m).set 33 (.ref (m + 16)) = mf18 m := rfl
def mr16 : List VE := [.inl (2, 2000, .inl fun _ => 0), .inl (2, 2000, .inl fun _ => 0), .inl (0, 403, .inl fun _ => 0), .inl (0, 403, .inl fun _ => 0), .inl (0, 403, .inl fun _ => 0), .inl (1, 403, .inr (.inl fun _ => 0)), .inl (1, 14, .inr (.inl fun _ => 0)), .inl (0, 6, .inl fun _ => 0), .inl (0, 48, .inl fun _ => 0), .inl (0, 48, .inl fun _ => 0), .inl (0, 256, .inl fun _ => 0), .inl (0, 6, .inl fun _ => 0), .inl (0, 48, .inl fun _ => 0), .inl (0, 48, .inl fun _ => 0), .inl (0, 256, .inl fun _ => 0), .inl (0, 10, .inl smallF)]
theorem mr16_s : mr15 ++ [.inl (0, 10, .inl smallF)] = mr16 := rfl
def mf19 (m : Nat) : List Value := [.int 0, .ref (m + 1), .int 0, .ref (m + 2), .int 0, .ref (m + 3), .ref (m + 4), .ref (m + 5), .ref (m + 6), .ref (m + 7), .int 0, .int 0, .int 0, .int 0, .int 0, .int 0, .int (-1), .int 0, .int 256, .int 0, .ref (m + 8), .ref (m + 9), .ref (m + 10), .ref (m + 11), .int 0, .int 0, .int 0, .ref (m + 12), .ref (m + 13), .ref (m + 14), .ref (m + 15), .int 0, .int 0, .ref (m + 16), .ref (m + 17), .null, .int 0, .int 0, .int 0, .long 0, .double 0, .int 0, .null, .null, .null, .null, .null, .null, .null, .null, .null, .null, .null, .null, .int 0, .null, .null, .int 0, .null, .null, .null, .null, .null, .null, .null, .null, .null]
theorem mf19_s (m : Nat) : (mf18 m).set 34 (.ref (m + 17)) = mf19 m := rfl
def mr17 : List VE := [.inl (2, 2000, .inl fun _ => 0), .inl (2, 2000, .inl fun _ => 0), .inl (0, 403, .inl fun _ => 0), .inl (0, 403, .inl fun _ => 0), .inl (0, 403, .inl fun _ => 0), .inl (1, 403, .inr (.inl fun _ => 0)), .inl (1, 14, .inr (.inl fun _ => 0)), .inl (0, 6, .inl fun _ => 0), .inl (0, 48, .inl fun _ => 0), .inl (0, 48, .inl fun _ => 0), .inl (0, 256, .inl fun _ => 0), .inl (0, 6, .inl fun _ => 0), .inl (0, 48, .inl fun _ => 0), .inl (0, 48, .inl fun _ => 0), .inl (0, 256, .inl fun _ => 0), .inl (0, 10, .inl smallF), .inl (0, 10, .inl wideF)]
theorem mr17_s : mr16 ++ [.inl (0, 10, .inl wideF)] = mr17 := rfl
def mf20 (m : Nat) : List Value := [.int 0, .ref (m + 1), .int 0, .ref (m + 2), .int 0, .ref (m + 3), .ref (m + 4), .ref (m + 5), .ref (m + 6), .ref (m + 7), .int 0, .int 0, .int 0, .int 0, .int 0, .int 0, .int (-1), .int 0, .int 256, .int 0, .ref (m + 8), .ref (m + 9), .ref (m + 10), .ref (m + 11), .int 0, .int 0, .int 0, .ref (m + 12), .ref (m + 13), .ref (m + 14), .ref (m + 15), .int 0, .int 0, .ref (m + 16), .ref (m + 17), .ref (m + 18), .int 0, .int 0, .int 0, .long 0, .double 0, .int 0, .null, .null, .null, .null, .null, .null, .null, .null, .null, .null, .null, .null, .int 0, .null, .null, .int 0, .null, .null, .null, .null, .null, .null, .null, .null, .null]
theorem mf20_s (m : Nat) : (mf19 m).set 35 (.ref (m + 18)) = mf20 m := rfl
def mr18 : List VE := [.inl (2, 2000, .inl fun _ => 0), .inl (2, 2000, .inl fun _ => 0), .inl (0, 403, .inl fun _ => 0), .inl (0, 403, .inl fun _ => 0), .inl (0, 403, .inl fun _ => 0), .inl (1, 403, .inr (.inl fun _ => 0)), .inl (1, 14, .inr (.inl fun _ => 0)), .inl (0, 6, .inl fun _ => 0), .inl (0, 48, .inl fun _ => 0), .inl (0, 48, .inl fun _ => 0), .inl (0, 256, .inl fun _ => 0), .inl (0, 6, .inl fun _ => 0), .inl (0, 48, .inl fun _ => 0), .inl (0, 48, .inl fun _ => 0), .inl (0, 256, .inl fun _ => 0), .inl (0, 10, .inl smallF), .inl (0, 10, .inl wideF), .inl (0, 8, .inl fun _ => 0)]
theorem mr18_s : mr17 ++ [.inl (0, 8, .inl fun _ => 0)] = mr18 := rfl
def mf21 (m : Nat) : List Value := [.int 0, .ref (m + 1), .int 0, .ref (m + 2), .int 0, .ref (m + 3), .ref (m + 4), .ref (m + 5), .ref (m + 6), .ref (m + 7), .int 0, .int 0, .int 0, .int 0, .int 0, .int 0, .int (-1), .int 0, .int 256, .int 0, .ref (m + 8), .ref (m + 9), .ref (m + 10), .ref (m + 11), .int 0, .int 0, .int 0, .ref (m + 12), .ref (m + 13), .ref (m + 14), .ref (m + 15), .int 0, .int 0, .ref (m + 16), .ref (m + 17), .ref (m + 18), .int 0, .int 0, .int 0, .long 0, .double 0, .int 0, .ref (m + 19), .null, .null, .null, .null, .null, .null, .null, .null, .null, .null, .null, .int 0, .null, .null, .int 0, .null, .null, .null, .null, .null, .null, .null, .null, .null]
theorem mf21_s (m : Nat) : (mf20 m).set 42 (.ref (m + 19)) = mf21 m := rfl
def mr19 : List VE := [.inl (2, 2000, .inl fun _ => 0), .inl (2, 2000, .inl fun _ => 0), .inl (0, 403, .inl fun _ => 0), .inl (0, 403, .inl fun _ => 0), .inl (0, 403, .inl fun _ => 0), .inl (1, 403, .inr (.inl fun _ => 0)), .inl (1, 14, .inr (.inl fun _ => 0)), .inl (0, 6, .inl fun _ => 0), .inl (0, 48, .inl fun _ => 0), .inl (0, 48, .inl fun _ => 0), .inl (0, 256, .inl fun _ => 0), .inl (0, 6, .inl fun _ => 0), .inl (0, 48, .inl fun _ => 0), .inl (0, 48, .inl fun _ => 0), .inl (0, 256, .inl fun _ => 0), .inl (0, 10, .inl smallF), .inl (0, 10, .inl wideF), .inl (0, 8, .inl fun _ => 0), .inl (0, 8, .inl fun _ => 0)]
theorem mr19_s : mr18 ++ [.inl (0, 8, .inl fun _ => 0)] = mr19 := rfl
def mf22 (m : Nat) : List Value := [.int 0, .ref (m + 1), .int 0, .ref (m + 2), .int 0, .ref (m + 3), .ref (m + 4), .ref (m + 5), .ref (m + 6), .ref (m + 7), .int 0, .int 0, .int 0, .int 0, .int 0, .int 0, .int (-1), .int 0, .int 256, .int 0, .ref (m + 8), .ref (m + 9), .ref (m + 10), .ref (m + 11), .int 0, .int 0, .int 0, .ref (m + 12), .ref (m + 13), .ref (m + 14), .ref (m + 15), .int 0, .int 0, .ref (m + 16), .ref (m + 17), .ref (m + 18), .int 0, .int 0, .int 0, .long 0, .double 0, .int 0, .ref (m + 19), .ref (m + 20), .null, .null, .null, .null, .null, .null, .null, .null, .null, .null, .int 0, .null, .null, .int 0, .null, .null, .null, .null, .null, .null, .null, .null, .null]
theorem mf22_s (m : Nat) : (mf21 m).set 43 (.ref (m + 20)) = mf22 m := rfl
def mr20 : List VE := [.inl (2, 2000, .inl fun _ => 0), .inl (2, 2000, .inl fun _ => 0), .inl (0, 403, .inl fun _ => 0), .inl (0, 403, .inl fun _ => 0), .inl (0, 403, .inl fun _ => 0), .inl (1, 403, .inr (.inl fun _ => 0)), .inl (1, 14, .inr (.inl fun _ => 0)), .inl (0, 6, .inl fun _ => 0), .inl (0, 48, .inl fun _ => 0), .inl (0, 48, .inl fun _ => 0), .inl (0, 256, .inl fun _ => 0), .inl (0, 6, .inl fun _ => 0), .inl (0, 48, .inl fun _ => 0), .inl (0, 48, .inl fun _ => 0), .inl (0, 256, .inl fun _ => 0), .inl (0, 10, .inl smallF), .inl (0, 10, .inl wideF), .inl (0, 8, .inl fun _ => 0), .inl (0, 8, .inl fun _ => 0), .inl (0, 8, .inl fun _ => 0)]
theorem mr20_s : mr19 ++ [.inl (0, 8, .inl fun _ => 0)] = mr20 := rfl
def mf23 (m : Nat) : List Value := [.int 0, .ref (m + 1), .int 0, .ref (m + 2), .int 0, .ref (m + 3), .ref (m + 4), .ref (m + 5), .ref (m + 6), .ref (m + 7), .int 0, .int 0, .int 0, .int 0, .int 0, .int 0, .int (-1), .int 0, .int 256, .int 0, .ref (m + 8), .ref (m + 9), .ref (m + 10), .ref (m + 11), .int 0, .int 0, .int 0, .ref (m + 12), .ref (m + 13), .ref (m + 14), .ref (m + 15), .int 0, .int 0, .ref (m + 16), .ref (m + 17), .ref (m + 18), .int 0, .int 0, .int 0, .long 0, .double 0, .int 0, .ref (m + 19), .ref (m + 20), .ref (m + 21), .null, .null, .null, .null, .null, .null, .null, .null, .null, .int 0, .null, .null, .int 0, .null, .null, .null, .null, .null, .null, .null, .null, .null]
theorem mf23_s (m : Nat) : (mf22 m).set 44 (.ref (m + 21)) = mf23 m := rfl
def mr21 : List VE := [.inl (2, 2000, .inl fun _ => 0), .inl (2, 2000, .inl fun _ => 0), .inl (0, 403, .inl fun _ => 0), .inl (0, 403, .inl fun _ => 0), .inl (0, 403, .inl fun _ => 0), .inl (1, 403, .inr (.inl fun _ => 0)), .inl (1, 14, .inr (.inl fun _ => 0)), .inl (0, 6, .inl fun _ => 0), .inl (0, 48, .inl fun _ => 0), .inl (0, 48, .inl fun _ => 0), .inl (0, 256, .inl fun _ => 0), .inl (0, 6, .inl fun _ => 0), .inl (0, 48, .inl fun _ => 0), .inl (0, 48, .inl fun _ => 0), .inl (0, 256, .inl fun _ => 0), .inl (0, 10, .inl smallF), .inl (0, 10, .inl wideF), .inl (0, 8, .inl fun _ => 0), .inl (0, 8, .inl fun _ => 0), .inl (0, 8, .inl fun _ => 0), .inl (0, 320, .inl fun _ => 0)]
theorem mr21_s : mr20 ++ [.inl (0, 320, .inl fun _ => 0)] = mr21 := rfl
def mf24 (m : Nat) : List Value := [.int 0, .ref (m + 1), .int 0, .ref (m + 2), .int 0, .ref (m + 3), .ref (m + 4), .ref (m + 5), .ref (m + 6), .ref (m + 7), .int 0, .int 0, .int 0, .int 0, .int 0, .int 0, .int (-1), .int 0, .int 256, .int 0, .ref (m + 8), .ref (m + 9), .ref (m + 10), .ref (m + 11), .int 0, .int 0, .int 0, .ref (m + 12), .ref (m + 13), .ref (m + 14), .ref (m + 15), .int 0, .int 0, .ref (m + 16), .ref (m + 17), .ref (m + 18), .int 0, .int 0, .int 0, .long 0, .double 0, .int 0, .ref (m + 19), .ref (m + 20), .ref (m + 21), .ref (m + 22), .null, .null, .null, .null, .null, .null, .null, .null, .int 0, .null, .null, .int 0, .null, .null, .null, .null, .null, .null, .null, .null, .null]
theorem mf24_s (m : Nat) : (mf23 m).set 45 (.ref (m + 22)) = mf24 m := rfl
def mr22 : List VE := [.inl (2, 2000, .inl fun _ => 0), .inl (2, 2000, .inl fun _ => 0), .inl (0, 403, .inl fun _ => 0), .inl (0, 403, .inl fun _ => 0), .inl (0, 403, .inl fun _ => 0), .inl (1, 403, .inr (.inl fun _ => 0)), .inl (1, 14, .inr (.inl fun _ => 0)), .inl (0, 6, .inl fun _ => 0), .inl (0, 48, .inl fun _ => 0), .inl (0, 48, .inl fun _ => 0), .inl (0, 256, .inl fun _ => 0), .inl (0, 6, .inl fun _ => 0), .inl (0, 48, .inl fun _ => 0), .inl (0, 48, .inl fun _ => 0), .inl (0, 256, .inl fun _ => 0), .inl (0, 10, .inl smallF), .inl (0, 10, .inl wideF), .inl (0, 8, .inl fun _ => 0), .inl (0, 8, .inl fun _ => 0), .inl (0, 8, .inl fun _ => 0), .inl (0, 320, .inl fun _ => 0), .inl (1, 320, .inr (.inl fun _ => 0))]
theorem mr22_s : mr21 ++ [.inl (1, 320, .inr (.inl fun _ => 0))] = mr22 := rfl
def mf25 (m : Nat) : List Value := [.int 0, .ref (m + 1), .int 0, .ref (m + 2), .int 0, .ref (m + 3), .ref (m + 4), .ref (m + 5), .ref (m + 6), .ref (m + 7), .int 0, .int 0, .int 0, .int 0, .int 0, .int 0, .int (-1), .int 0, .int 256, .int 0, .ref (m + 8), .ref (m + 9), .ref (m + 10), .ref (m + 11), .int 0, .int 0, .int 0, .ref (m + 12), .ref (m + 13), .ref (m + 14), .ref (m + 15), .int 0, .int 0, .ref (m + 16), .ref (m + 17), .ref (m + 18), .int 0, .int 0, .int 0, .long 0, .double 0, .int 0, .ref (m + 19), .ref (m + 20), .ref (m + 21), .ref (m + 22), .ref (m + 23), .null, .null, .null, .null, .null, .null, .null, .int 0, .null, .null, .int 0, .null, .null, .null, .null, .null, .null, .null, .null, .null]
theorem mf25_s (m : Nat) : (mf24 m).set 46 (.ref (m + 23)) = mf25 m := rfl
def mr23 : List VE := [.inl (2, 2000, .inl fun _ => 0), .inl (2, 2000, .inl fun _ => 0), .inl (0, 403, .inl fun _ => 0), .inl (0, 403, .inl fun _ => 0), .inl (0, 403, .inl fun _ => 0), .inl (1, 403, .inr (.inl fun _ => 0)), .inl (1, 14, .inr (.inl fun _ => 0)), .inl (0, 6, .inl fun _ => 0), .inl (0, 48, .inl fun _ => 0), .inl (0, 48, .inl fun _ => 0), .inl (0, 256, .inl fun _ => 0), .inl (0, 6, .inl fun _ => 0), .inl (0, 48, .inl fun _ => 0), .inl (0, 48, .inl fun _ => 0), .inl (0, 256, .inl fun _ => 0), .inl (0, 10, .inl smallF), .inl (0, 10, .inl wideF), .inl (0, 8, .inl fun _ => 0), .inl (0, 8, .inl fun _ => 0), .inl (0, 8, .inl fun _ => 0), .inl (0, 320, .inl fun _ => 0), .inl (1, 320, .inr (.inl fun _ => 0)), .inl (4, 320, .inr (.inr (.inr (.inl fun _ => 0))))]
theorem mr23_s : mr22 ++ [.inl (4, 320, .inr (.inr (.inr (.inl fun _ => 0))))] = mr23 := rfl
def mf26 (m : Nat) : List Value := [.int 0, .ref (m + 1), .int 0, .ref (m + 2), .int 0, .ref (m + 3), .ref (m + 4), .ref (m + 5), .ref (m + 6), .ref (m + 7), .int 0, .int 0, .int 0, .int 0, .int 0, .int 0, .int (-1), .int 0, .int 256, .int 0, .ref (m + 8), .ref (m + 9), .ref (m + 10), .ref (m + 11), .int 0, .int 0, .int 0, .ref (m + 12), .ref (m + 13), .ref (m + 14), .ref (m + 15), .int 0, .int 0, .ref (m + 16), .ref (m + 17), .ref (m + 18), .int 0, .int 0, .int 0, .long 0, .double 0, .int 0, .ref (m + 19), .ref (m + 20), .ref (m + 21), .ref (m + 22), .ref (m + 23), .ref (m + 24), .null, .null, .null, .null, .null, .null, .int 0, .null, .null, .int 0, .null, .null, .null, .null, .null, .null, .null, .null, .null]
theorem mf26_s (m : Nat) : (mf25 m).set 47 (.ref (m + 24)) = mf26 m := rfl
def mr24 : List VE := [.inl (2, 2000, .inl fun _ => 0), .inl (2, 2000, .inl fun _ => 0), .inl (0, 403, .inl fun _ => 0), .inl (0, 403, .inl fun _ => 0), .inl (0, 403, .inl fun _ => 0), .inl (1, 403, .inr (.inl fun _ => 0)), .inl (1, 14, .inr (.inl fun _ => 0)), .inl (0, 6, .inl fun _ => 0), .inl (0, 48, .inl fun _ => 0), .inl (0, 48, .inl fun _ => 0), .inl (0, 256, .inl fun _ => 0), .inl (0, 6, .inl fun _ => 0), .inl (0, 48, .inl fun _ => 0), .inl (0, 48, .inl fun _ => 0), .inl (0, 256, .inl fun _ => 0), .inl (0, 10, .inl smallF), .inl (0, 10, .inl wideF), .inl (0, 8, .inl fun _ => 0), .inl (0, 8, .inl fun _ => 0), .inl (0, 8, .inl fun _ => 0), .inl (0, 320, .inl fun _ => 0), .inl (1, 320, .inr (.inl fun _ => 0)), .inl (4, 320, .inr (.inr (.inr (.inl fun _ => 0)))), .inl (0, 40, .inl fun _ => 0)]
theorem mr24_s : mr23 ++ [.inl (0, 40, .inl fun _ => 0)] = mr24 := rfl
def mf27 (m : Nat) : List Value := [.int 0, .ref (m + 1), .int 0, .ref (m + 2), .int 0, .ref (m + 3), .ref (m + 4), .ref (m + 5), .ref (m + 6), .ref (m + 7), .int 0, .int 0, .int 0, .int 0, .int 0, .int 0, .int (-1), .int 0, .int 256, .int 0, .ref (m + 8), .ref (m + 9), .ref (m + 10), .ref (m + 11), .int 0, .int 0, .int 0, .ref (m + 12), .ref (m + 13), .ref (m + 14), .ref (m + 15), .int 0, .int 0, .ref (m + 16), .ref (m + 17), .ref (m + 18), .int 0, .int 0, .int 0, .long 0, .double 0, .int 0, .ref (m + 19), .ref (m + 20), .ref (m + 21), .ref (m + 22), .ref (m + 23), .ref (m + 24), .ref (m + 25), .null, .null, .null, .null, .null, .int 0, .null, .null, .int 0, .null, .null, .null, .null, .null, .null, .null, .null, .null]
theorem mf27_s (m : Nat) : (mf26 m).set 48 (.ref (m + 25)) = mf27 m := rfl
def mr25 : List VE := [.inl (2, 2000, .inl fun _ => 0), .inl (2, 2000, .inl fun _ => 0), .inl (0, 403, .inl fun _ => 0), .inl (0, 403, .inl fun _ => 0), .inl (0, 403, .inl fun _ => 0), .inl (1, 403, .inr (.inl fun _ => 0)), .inl (1, 14, .inr (.inl fun _ => 0)), .inl (0, 6, .inl fun _ => 0), .inl (0, 48, .inl fun _ => 0), .inl (0, 48, .inl fun _ => 0), .inl (0, 256, .inl fun _ => 0), .inl (0, 6, .inl fun _ => 0), .inl (0, 48, .inl fun _ => 0), .inl (0, 48, .inl fun _ => 0), .inl (0, 256, .inl fun _ => 0), .inl (0, 10, .inl smallF), .inl (0, 10, .inl wideF), .inl (0, 8, .inl fun _ => 0), .inl (0, 8, .inl fun _ => 0), .inl (0, 8, .inl fun _ => 0), .inl (0, 320, .inl fun _ => 0), .inl (1, 320, .inr (.inl fun _ => 0)), .inl (4, 320, .inr (.inr (.inr (.inl fun _ => 0)))), .inl (0, 40, .inl fun _ => 0), .inl (1, 40, .inr (.inl fun _ => 0))]
theorem mr25_s : mr24 ++ [.inl (1, 40, .inr (.inl fun _ => 0))] = mr25 := rfl
def mf28 (m : Nat) : List Value := [.int 0, .ref (m + 1), .int 0, .ref (m + 2), .int 0, .ref (m + 3), .ref (m + 4), .ref (m + 5), .ref (m + 6), .ref (m + 7), .int 0, .int 0, .int 0, .int 0, .int 0, .int 0, .int (-1), .int 0, .int 256, .int 0, .ref (m + 8), .ref (m + 9), .ref (m + 10), .ref (m + 11), .int 0, .int 0, .int 0, .ref (m + 12), .ref (m + 13), .ref (m + 14), .ref (m + 15), .int 0, .int 0, .ref (m + 16), .ref (m + 17), .ref (m + 18), .int 0, .int 0, .int 0, .long 0, .double 0, .int 0, .ref (m + 19), .ref (m + 20), .ref (m + 21), .ref (m + 22), .ref (m + 23), .ref (m + 24), .ref (m + 25), .ref (m + 26), .null, .null, .null, .null, .int 0, .null, .null, .int 0, .null, .null, .null, .null, .null, .null, .null, .null, .null]
theorem mf28_s (m : Nat) : (mf27 m).set 49 (.ref (m + 26)) = mf28 m := rfl
def mr26 : List VE := [.inl (2, 2000, .inl fun _ => 0), .inl (2, 2000, .inl fun _ => 0), .inl (0, 403, .inl fun _ => 0), .inl (0, 403, .inl fun _ => 0), .inl (0, 403, .inl fun _ => 0), .inl (1, 403, .inr (.inl fun _ => 0)), .inl (1, 14, .inr (.inl fun _ => 0)), .inl (0, 6, .inl fun _ => 0), .inl (0, 48, .inl fun _ => 0), .inl (0, 48, .inl fun _ => 0), .inl (0, 256, .inl fun _ => 0), .inl (0, 6, .inl fun _ => 0), .inl (0, 48, .inl fun _ => 0), .inl (0, 48, .inl fun _ => 0), .inl (0, 256, .inl fun _ => 0), .inl (0, 10, .inl smallF), .inl (0, 10, .inl wideF), .inl (0, 8, .inl fun _ => 0), .inl (0, 8, .inl fun _ => 0), .inl (0, 8, .inl fun _ => 0), .inl (0, 320, .inl fun _ => 0), .inl (1, 320, .inr (.inl fun _ => 0)), .inl (4, 320, .inr (.inr (.inr (.inl fun _ => 0)))), .inl (0, 40, .inl fun _ => 0), .inl (1, 40, .inr (.inl fun _ => 0)), .inl (4, 40, .inr (.inr (.inr (.inl fun _ => 0))))]
theorem mr26_s : mr25 ++ [.inl (4, 40, .inr (.inr (.inr (.inl fun _ => 0))))] = mr26 := rfl
def mf29 (m : Nat) : List Value := [.int 0, .ref (m + 1), .int 0, .ref (m + 2), .int 0, .ref (m + 3), .ref (m + 4), .ref (m + 5), .ref (m + 6), .ref (m + 7), .int 0, .int 0, .int 0, .int 0, .int 0, .int 0, .int (-1), .int 0, .int 256, .int 0, .ref (m + 8), .ref (m + 9), .ref (m + 10), .ref (m + 11), .int 0, .int 0, .int 0, .ref (m + 12), .ref (m + 13), .ref (m + 14), .ref (m + 15), .int 0, .int 0, .ref (m + 16), .ref (m + 17), .ref (m + 18), .int 0, .int 0, .int 0, .long 0, .double 0, .int 0, .ref (m + 19), .ref (m + 20), .ref (m + 21), .ref (m + 22), .ref (m + 23), .ref (m + 24), .ref (m + 25), .ref (m + 26), .ref (m + 27), .null, .null, .null, .int 0, .null, .null, .int 0, .null, .null, .null, .null, .null, .null, .null, .null, .null]
theorem mf29_s (m : Nat) : (mf28 m).set 50 (.ref (m + 27)) = mf29 m := rfl
def mr27 : List VE := [.inl (2, 2000, .inl fun _ => 0), .inl (2, 2000, .inl fun _ => 0), .inl (0, 403, .inl fun _ => 0), .inl (0, 403, .inl fun _ => 0), .inl (0, 403, .inl fun _ => 0), .inl (1, 403, .inr (.inl fun _ => 0)), .inl (1, 14, .inr (.inl fun _ => 0)), .inl (0, 6, .inl fun _ => 0), .inl (0, 48, .inl fun _ => 0), .inl (0, 48, .inl fun _ => 0), .inl (0, 256, .inl fun _ => 0), .inl (0, 6, .inl fun _ => 0), .inl (0, 48, .inl fun _ => 0), .inl (0, 48, .inl fun _ => 0), .inl (0, 256, .inl fun _ => 0), .inl (0, 10, .inl smallF), .inl (0, 10, .inl wideF), .inl (0, 8, .inl fun _ => 0), .inl (0, 8, .inl fun _ => 0), .inl (0, 8, .inl fun _ => 0), .inl (0, 320, .inl fun _ => 0), .inl (1, 320, .inr (.inl fun _ => 0)), .inl (4, 320, .inr (.inr (.inr (.inl fun _ => 0)))), .inl (0, 40, .inl fun _ => 0), .inl (1, 40, .inr (.inl fun _ => 0)), .inl (4, 40, .inr (.inr (.inr (.inl fun _ => 0)))), .inl (0, 512, .inl fun _ => 0)]
theorem mr27_s : mr26 ++ [.inl (0, 512, .inl fun _ => 0)] = mr27 := rfl
def mf30 (m : Nat) : List Value := [.int 0, .ref (m + 1), .int 0, .ref (m + 2), .int 0, .ref (m + 3), .ref (m + 4), .ref (m + 5), .ref (m + 6), .ref (m + 7), .int 0, .int 0, .int 0, .int 0, .int 0, .int 0, .int (-1), .int 0, .int 256, .int 0, .ref (m + 8), .ref (m + 9), .ref (m + 10), .ref (m + 11), .int 0, .int 0, .int 0, .ref (m + 12), .ref (m + 13), .ref (m + 14), .ref (m + 15), .int 0, .int 0, .ref (m + 16), .ref (m + 17), .ref (m + 18), .int 0, .int 0, .int 0, .long 0, .double 0, .int 0, .ref (m + 19), .ref (m + 20), .ref (m + 21), .ref (m + 22), .ref (m + 23), .ref (m + 24), .ref (m + 25), .ref (m + 26), .ref (m + 27), .ref (m + 28), .null, .null, .int 0, .null, .null, .int 0, .null, .null, .null, .null, .null, .null, .null, .null, .null]
theorem mf30_s (m : Nat) : (mf29 m).set 51 (.ref (m + 28)) = mf30 m := rfl
def mr28 : List VE := [.inl (2, 2000, .inl fun _ => 0), .inl (2, 2000, .inl fun _ => 0), .inl (0, 403, .inl fun _ => 0), .inl (0, 403, .inl fun _ => 0), .inl (0, 403, .inl fun _ => 0), .inl (1, 403, .inr (.inl fun _ => 0)), .inl (1, 14, .inr (.inl fun _ => 0)), .inl (0, 6, .inl fun _ => 0), .inl (0, 48, .inl fun _ => 0), .inl (0, 48, .inl fun _ => 0), .inl (0, 256, .inl fun _ => 0), .inl (0, 6, .inl fun _ => 0), .inl (0, 48, .inl fun _ => 0), .inl (0, 48, .inl fun _ => 0), .inl (0, 256, .inl fun _ => 0), .inl (0, 10, .inl smallF), .inl (0, 10, .inl wideF), .inl (0, 8, .inl fun _ => 0), .inl (0, 8, .inl fun _ => 0), .inl (0, 8, .inl fun _ => 0), .inl (0, 320, .inl fun _ => 0), .inl (1, 320, .inr (.inl fun _ => 0)), .inl (4, 320, .inr (.inr (.inr (.inl fun _ => 0)))), .inl (0, 40, .inl fun _ => 0), .inl (1, 40, .inr (.inl fun _ => 0)), .inl (4, 40, .inr (.inr (.inr (.inl fun _ => 0)))), .inl (0, 512, .inl fun _ => 0), .inl (3, 512, .inl fun _ => 0)]
theorem mr28_s : mr27 ++ [.inl (3, 512, .inl fun _ => 0)] = mr28 := rfl
def mf31 (m : Nat) : List Value := [.int 0, .ref (m + 1), .int 0, .ref (m + 2), .int 0, .ref (m + 3), .ref (m + 4), .ref (m + 5), .ref (m + 6), .ref (m + 7), .int 0, .int 0, .int 0, .int 0, .int 0, .int 0, .int (-1), .int 0, .int 256, .int 0, .ref (m + 8), .ref (m + 9), .ref (m + 10), .ref (m + 11), .int 0, .int 0, .int 0, .ref (m + 12), .ref (m + 13), .ref (m + 14), .ref (m + 15), .int 0, .int 0, .ref (m + 16), .ref (m + 17), .ref (m + 18), .int 0, .int 0, .int 0, .long 0, .double 0, .int 0, .ref (m + 19), .ref (m + 20), .ref (m + 21), .ref (m + 22), .ref (m + 23), .ref (m + 24), .ref (m + 25), .ref (m + 26), .ref (m + 27), .ref (m + 28), .ref (m + 29), .null, .int 0, .null, .null, .int 0, .null, .null, .null, .null, .null, .null, .null, .null, .null]
theorem mf31_s (m : Nat) : (mf30 m).set 52 (.ref (m + 29)) = mf31 m := rfl
def mr29 : List VE := [.inl (2, 2000, .inl fun _ => 0), .inl (2, 2000, .inl fun _ => 0), .inl (0, 403, .inl fun _ => 0), .inl (0, 403, .inl fun _ => 0), .inl (0, 403, .inl fun _ => 0), .inl (1, 403, .inr (.inl fun _ => 0)), .inl (1, 14, .inr (.inl fun _ => 0)), .inl (0, 6, .inl fun _ => 0), .inl (0, 48, .inl fun _ => 0), .inl (0, 48, .inl fun _ => 0), .inl (0, 256, .inl fun _ => 0), .inl (0, 6, .inl fun _ => 0), .inl (0, 48, .inl fun _ => 0), .inl (0, 48, .inl fun _ => 0), .inl (0, 256, .inl fun _ => 0), .inl (0, 10, .inl smallF), .inl (0, 10, .inl wideF), .inl (0, 8, .inl fun _ => 0), .inl (0, 8, .inl fun _ => 0), .inl (0, 8, .inl fun _ => 0), .inl (0, 320, .inl fun _ => 0), .inl (1, 320, .inr (.inl fun _ => 0)), .inl (4, 320, .inr (.inr (.inr (.inl fun _ => 0)))), .inl (0, 40, .inl fun _ => 0), .inl (1, 40, .inr (.inl fun _ => 0)), .inl (4, 40, .inr (.inr (.inr (.inl fun _ => 0)))), .inl (0, 512, .inl fun _ => 0), .inl (3, 512, .inl fun _ => 0), .inl (0, 8, .inl fun _ => 0)]
theorem mr29_s : mr28 ++ [.inl (0, 8, .inl fun _ => 0)] = mr29 := rfl
def mf32 (m : Nat) : List Value := [.int 0, .ref (m + 1), .int 0, .ref (m + 2), .int 0, .ref (m + 3), .ref (m + 4), .ref (m + 5), .ref (m + 6), .ref (m + 7), .int 0, .int 0, .int 0, .int 0, .int 0, .int 0, .int (-1), .int 0, .int 256, .int 0, .ref (m + 8), .ref (m + 9), .ref (m + 10), .ref (m + 11), .int 0, .int 0, .int 0, .ref (m + 12), .ref (m + 13), .ref (m + 14), .ref (m + 15), .int 0, .int 0, .ref (m + 16), .ref (m + 17), .ref (m + 18), .int 0, .int 0, .int 0, .long 0, .double 0, .int 0, .ref (m + 19), .ref (m + 20), .ref (m + 21), .ref (m + 22), .ref (m + 23), .ref (m + 24), .ref (m + 25), .ref (m + 26), .ref (m + 27), .ref (m + 28), .ref (m + 29), .ref (m + 30), .int 0, .null, .null, .int 0, .null, .null, .null, .null, .null, .null, .null, .null, .null]
theorem mf32_s (m : Nat) : (mf31 m).set 53 (.ref (m + 30)) = mf32 m := rfl
def mr30 : List VE := [.inl (2, 2000, .inl fun _ => 0), .inl (2, 2000, .inl fun _ => 0), .inl (0, 403, .inl fun _ => 0), .inl (0, 403, .inl fun _ => 0), .inl (0, 403, .inl fun _ => 0), .inl (1, 403, .inr (.inl fun _ => 0)), .inl (1, 14, .inr (.inl fun _ => 0)), .inl (0, 6, .inl fun _ => 0), .inl (0, 48, .inl fun _ => 0), .inl (0, 48, .inl fun _ => 0), .inl (0, 256, .inl fun _ => 0), .inl (0, 6, .inl fun _ => 0), .inl (0, 48, .inl fun _ => 0), .inl (0, 48, .inl fun _ => 0), .inl (0, 256, .inl fun _ => 0), .inl (0, 10, .inl smallF), .inl (0, 10, .inl wideF), .inl (0, 8, .inl fun _ => 0), .inl (0, 8, .inl fun _ => 0), .inl (0, 8, .inl fun _ => 0), .inl (0, 320, .inl fun _ => 0), .inl (1, 320, .inr (.inl fun _ => 0)), .inl (4, 320, .inr (.inr (.inr (.inl fun _ => 0)))), .inl (0, 40, .inl fun _ => 0), .inl (1, 40, .inr (.inl fun _ => 0)), .inl (4, 40, .inr (.inr (.inr (.inl fun _ => 0)))), .inl (0, 512, .inl fun _ => 0), .inl (3, 512, .inl fun _ => 0), .inl (0, 8, .inl fun _ => 0), .inl (0, 8, .inl fun _ => 0)]
theorem mr30_s : mr29 ++ [.inl (0, 8, .inl fun _ => 0)] = mr30 := rfl
def mf33 (m : Nat) : List Value := [.int 0, .ref (m + 1), .int 0, .ref (m + 2), .int 0, .ref (m + 3), .ref (m + 4), .ref (m + 5), .ref (m + 6), .ref (m + 7), .int 0, .int 0, .int 0, .int 0, .int 0, .int 0, .int (-1), .int 0, .int 256, .int 0, .ref (m + 8), .ref (m + 9), .ref (m + 10), .ref (m + 11), .int 0, .int 0, .int 0, .ref (m + 12), .ref (m + 13), .ref (m + 14), .ref (m + 15), .int 0, .int 0, .ref (m + 16), .ref (m + 17), .ref (m + 18), .int 0, .int 0, .int 0, .long 0, .double 0, .int 0, .ref (m + 19), .ref (m + 20), .ref (m + 21), .ref (m + 22), .ref (m + 23), .ref (m + 24), .ref (m + 25), .ref (m + 26), .ref (m + 27), .ref (m + 28), .ref (m + 29), .ref (m + 30), .int 0, .ref (m + 31), .null, .int 0, .null, .null, .null, .null, .null, .null, .null, .null, .null]
theorem mf33_s (m : Nat) : (mf32 m).set 55 (.ref (m + 31)) = mf33 m := rfl
def mr31 : List VE := [.inl (2, 2000, .inl fun _ => 0), .inl (2, 2000, .inl fun _ => 0), .inl (0, 403, .inl fun _ => 0), .inl (0, 403, .inl fun _ => 0), .inl (0, 403, .inl fun _ => 0), .inl (1, 403, .inr (.inl fun _ => 0)), .inl (1, 14, .inr (.inl fun _ => 0)), .inl (0, 6, .inl fun _ => 0), .inl (0, 48, .inl fun _ => 0), .inl (0, 48, .inl fun _ => 0), .inl (0, 256, .inl fun _ => 0), .inl (0, 6, .inl fun _ => 0), .inl (0, 48, .inl fun _ => 0), .inl (0, 48, .inl fun _ => 0), .inl (0, 256, .inl fun _ => 0), .inl (0, 10, .inl smallF), .inl (0, 10, .inl wideF), .inl (0, 8, .inl fun _ => 0), .inl (0, 8, .inl fun _ => 0), .inl (0, 8, .inl fun _ => 0), .inl (0, 320, .inl fun _ => 0), .inl (1, 320, .inr (.inl fun _ => 0)), .inl (4, 320, .inr (.inr (.inr (.inl fun _ => 0)))), .inl (0, 40, .inl fun _ => 0), .inl (1, 40, .inr (.inl fun _ => 0)), .inl (4, 40, .inr (.inr (.inr (.inl fun _ => 0)))), .inl (0, 512, .inl fun _ => 0), .inl (3, 512, .inl fun _ => 0), .inl (0, 8, .inl fun _ => 0), .inl (0, 8, .inl fun _ => 0), .inl (0, 2048, .inl fun _ => 0)]
theorem mr31_s : mr30 ++ [.inl (0, 2048, .inl fun _ => 0)] = mr31 := rfl
def mf34 (m : Nat) : List Value := [.int 0, .ref (m + 1), .int 0, .ref (m + 2), .int 0, .ref (m + 3), .ref (m + 4), .ref (m + 5), .ref (m + 6), .ref (m + 7), .int 0, .int 0, .int 0, .int 0, .int 0, .int 0, .int (-1), .int 0, .int 256, .int 0, .ref (m + 8), .ref (m + 9), .ref (m + 10), .ref (m + 11), .int 0, .int 0, .int 0, .ref (m + 12), .ref (m + 13), .ref (m + 14), .ref (m + 15), .int 0, .int 0, .ref (m + 16), .ref (m + 17), .ref (m + 18), .int 0, .int 0, .int 0, .long 0, .double 0, .int 0, .ref (m + 19), .ref (m + 20), .ref (m + 21), .ref (m + 22), .ref (m + 23), .ref (m + 24), .ref (m + 25), .ref (m + 26), .ref (m + 27), .ref (m + 28), .ref (m + 29), .ref (m + 30), .int 0, .ref (m + 31), .ref (m + 32), .int 0, .null, .null, .null, .null, .null, .null, .null, .null, .null]
theorem mf34_s (m : Nat) : (mf33 m).set 56 (.ref (m + 32)) = mf34 m := rfl
def mr32 : List VE := [.inl (2, 2000, .inl fun _ => 0), .inl (2, 2000, .inl fun _ => 0), .inl (0, 403, .inl fun _ => 0), .inl (0, 403, .inl fun _ => 0), .inl (0, 403, .inl fun _ => 0), .inl (1, 403, .inr (.inl fun _ => 0)), .inl (1, 14, .inr (.inl fun _ => 0)), .inl (0, 6, .inl fun _ => 0), .inl (0, 48, .inl fun _ => 0), .inl (0, 48, .inl fun _ => 0), .inl (0, 256, .inl fun _ => 0), .inl (0, 6, .inl fun _ => 0), .inl (0, 48, .inl fun _ => 0), .inl (0, 48, .inl fun _ => 0), .inl (0, 256, .inl fun _ => 0), .inl (0, 10, .inl smallF), .inl (0, 10, .inl wideF), .inl (0, 8, .inl fun _ => 0), .inl (0, 8, .inl fun _ => 0), .inl (0, 8, .inl fun _ => 0), .inl (0, 320, .inl fun _ => 0), .inl (1, 320, .inr (.inl fun _ => 0)), .inl (4, 320, .inr (.inr (.inr (.inl fun _ => 0)))), .inl (0, 40, .inl fun _ => 0), .inl (1, 40, .inr (.inl fun _ => 0)), .inl (4, 40, .inr (.inr (.inr (.inl fun _ => 0)))), .inl (0, 512, .inl fun _ => 0), .inl (3, 512, .inl fun _ => 0), .inl (0, 8, .inl fun _ => 0), .inl (0, 8, .inl fun _ => 0), .inl (0, 2048, .inl fun _ => 0), .inl (1, 8, .inr (.inl fun _ => 0))]
theorem mr32_s : mr31 ++ [.inl (1, 8, .inr (.inl fun _ => 0))] = mr32 := rfl
def mf35 (m : Nat) : List Value := [.int 0, .ref (m + 1), .int 0, .ref (m + 2), .int 0, .ref (m + 3), .ref (m + 4), .ref (m + 5), .ref (m + 6), .ref (m + 7), .int 0, .int 0, .int 0, .int 0, .int 0, .int 0, .int (-1), .int 0, .int 256, .int 0, .ref (m + 8), .ref (m + 9), .ref (m + 10), .ref (m + 11), .int 0, .int 0, .int 0, .ref (m + 12), .ref (m + 13), .ref (m + 14), .ref (m + 15), .int 0, .int 0, .ref (m + 16), .ref (m + 17), .ref (m + 18), .int 0, .int 0, .int 0, .long 0, .double 0, .int 0, .ref (m + 19), .ref (m + 20), .ref (m + 21), .ref (m + 22), .ref (m + 23), .ref (m + 24), .ref (m + 25), .ref (m + 26), .ref (m + 27), .ref (m + 28), .ref (m + 29), .ref (m + 30), .int 0, .ref (m + 31), .ref (m + 32), .int 0, .ref (m + 33), .null, .null, .null, .null, .null, .null, .null, .null]
theorem mf35_s (m : Nat) : (mf34 m).set 58 (.ref (m + 33)) = mf35 m := rfl
def mr33 : List VE := [.inl (2, 2000, .inl fun _ => 0), .inl (2, 2000, .inl fun _ => 0), .inl (0, 403, .inl fun _ => 0), .inl (0, 403, .inl fun _ => 0), .inl (0, 403, .inl fun _ => 0), .inl (1, 403, .inr (.inl fun _ => 0)), .inl (1, 14, .inr (.inl fun _ => 0)), .inl (0, 6, .inl fun _ => 0), .inl (0, 48, .inl fun _ => 0), .inl (0, 48, .inl fun _ => 0), .inl (0, 256, .inl fun _ => 0), .inl (0, 6, .inl fun _ => 0), .inl (0, 48, .inl fun _ => 0), .inl (0, 48, .inl fun _ => 0), .inl (0, 256, .inl fun _ => 0), .inl (0, 10, .inl smallF), .inl (0, 10, .inl wideF), .inl (0, 8, .inl fun _ => 0), .inl (0, 8, .inl fun _ => 0), .inl (0, 8, .inl fun _ => 0), .inl (0, 320, .inl fun _ => 0), .inl (1, 320, .inr (.inl fun _ => 0)), .inl (4, 320, .inr (.inr (.inr (.inl fun _ => 0)))), .inl (0, 40, .inl fun _ => 0), .inl (1, 40, .inr (.inl fun _ => 0)), .inl (4, 40, .inr (.inr (.inr (.inl fun _ => 0)))), .inl (0, 512, .inl fun _ => 0), .inl (3, 512, .inl fun _ => 0), .inl (0, 8, .inl fun _ => 0), .inl (0, 8, .inl fun _ => 0), .inl (0, 2048, .inl fun _ => 0), .inl (1, 8, .inr (.inl fun _ => 0)), .inl (3, 2, .inl fun _ => 0)]
theorem mr33_s : mr32 ++ [.inl (3, 2, .inl fun _ => 0)] = mr33 := rfl
def mf36 (m : Nat) : List Value := [.int 0, .ref (m + 1), .int 0, .ref (m + 2), .int 0, .ref (m + 3), .ref (m + 4), .ref (m + 5), .ref (m + 6), .ref (m + 7), .int 0, .int 0, .int 0, .int 0, .int 0, .int 0, .int (-1), .int 0, .int 256, .int 0, .ref (m + 8), .ref (m + 9), .ref (m + 10), .ref (m + 11), .int 0, .int 0, .int 0, .ref (m + 12), .ref (m + 13), .ref (m + 14), .ref (m + 15), .int 0, .int 0, .ref (m + 16), .ref (m + 17), .ref (m + 18), .int 0, .int 0, .int 0, .long 0, .double 0, .int 0, .ref (m + 19), .ref (m + 20), .ref (m + 21), .ref (m + 22), .ref (m + 23), .ref (m + 24), .ref (m + 25), .ref (m + 26), .ref (m + 27), .ref (m + 28), .ref (m + 29), .ref (m + 30), .int 0, .ref (m + 31), .ref (m + 32), .int 0, .ref (m + 33), .ref (m + 34), .null, .null, .null, .null, .null, .null, .null]
theorem mf36_s (m : Nat) : (mf35 m).set 59 (.ref (m + 34)) = mf36 m := rfl
def mr34 : List VE := [.inl (2, 2000, .inl fun _ => 0), .inl (2, 2000, .inl fun _ => 0), .inl (0, 403, .inl fun _ => 0), .inl (0, 403, .inl fun _ => 0), .inl (0, 403, .inl fun _ => 0), .inl (1, 403, .inr (.inl fun _ => 0)), .inl (1, 14, .inr (.inl fun _ => 0)), .inl (0, 6, .inl fun _ => 0), .inl (0, 48, .inl fun _ => 0), .inl (0, 48, .inl fun _ => 0), .inl (0, 256, .inl fun _ => 0), .inl (0, 6, .inl fun _ => 0), .inl (0, 48, .inl fun _ => 0), .inl (0, 48, .inl fun _ => 0), .inl (0, 256, .inl fun _ => 0), .inl (0, 10, .inl smallF), .inl (0, 10, .inl wideF), .inl (0, 8, .inl fun _ => 0), .inl (0, 8, .inl fun _ => 0), .inl (0, 8, .inl fun _ => 0), .inl (0, 320, .inl fun _ => 0), .inl (1, 320, .inr (.inl fun _ => 0)), .inl (4, 320, .inr (.inr (.inr (.inl fun _ => 0)))), .inl (0, 40, .inl fun _ => 0), .inl (1, 40, .inr (.inl fun _ => 0)), .inl (4, 40, .inr (.inr (.inr (.inl fun _ => 0)))), .inl (0, 512, .inl fun _ => 0), .inl (3, 512, .inl fun _ => 0), .inl (0, 8, .inl fun _ => 0), .inl (0, 8, .inl fun _ => 0), .inl (0, 2048, .inl fun _ => 0), .inl (1, 8, .inr (.inl fun _ => 0)), .inl (3, 2, .inl fun _ => 0), .inl (0, 512, .inl fun _ => 0)]
theorem mr34_s : mr33 ++ [.inl (0, 512, .inl fun _ => 0)] = mr34 := rfl
def mf37 (m : Nat) : List Value := [.int 0, .ref (m + 1), .int 0, .ref (m + 2), .int 0, .ref (m + 3), .ref (m + 4), .ref (m + 5), .ref (m + 6), .ref (m + 7), .int 0, .int 0, .int 0, .int 0, .int 0, .int 0, .int (-1), .int 0, .int 256, .int 0, .ref (m + 8), .ref (m + 9), .ref (m + 10), .ref (m + 11), .int 0, .int 0, .int 0, .ref (m + 12), .ref (m + 13), .ref (m + 14), .ref (m + 15), .int 0, .int 0, .ref (m + 16), .ref (m + 17), .ref (m + 18), .int 0, .int 0, .int 0, .long 0, .double 0, .int 0, .ref (m + 19), .ref (m + 20), .ref (m + 21), .ref (m + 22), .ref (m + 23), .ref (m + 24), .ref (m + 25), .ref (m + 26), .ref (m + 27), .ref (m + 28), .ref (m + 29), .ref (m + 30), .int 0, .ref (m + 31), .ref (m + 32), .int 0, .ref (m + 33), .ref (m + 34), .ref (m + 35), .null, .null, .null, .null, .null, .null]
theorem mf37_s (m : Nat) : (mf36 m).set 60 (.ref (m + 35)) = mf37 m := rfl
def mr35 : List VE := [.inl (2, 2000, .inl fun _ => 0), .inl (2, 2000, .inl fun _ => 0), .inl (0, 403, .inl fun _ => 0), .inl (0, 403, .inl fun _ => 0), .inl (0, 403, .inl fun _ => 0), .inl (1, 403, .inr (.inl fun _ => 0)), .inl (1, 14, .inr (.inl fun _ => 0)), .inl (0, 6, .inl fun _ => 0), .inl (0, 48, .inl fun _ => 0), .inl (0, 48, .inl fun _ => 0), .inl (0, 256, .inl fun _ => 0), .inl (0, 6, .inl fun _ => 0), .inl (0, 48, .inl fun _ => 0), .inl (0, 48, .inl fun _ => 0), .inl (0, 256, .inl fun _ => 0), .inl (0, 10, .inl smallF), .inl (0, 10, .inl wideF), .inl (0, 8, .inl fun _ => 0), .inl (0, 8, .inl fun _ => 0), .inl (0, 8, .inl fun _ => 0), .inl (0, 320, .inl fun _ => 0), .inl (1, 320, .inr (.inl fun _ => 0)), .inl (4, 320, .inr (.inr (.inr (.inl fun _ => 0)))), .inl (0, 40, .inl fun _ => 0), .inl (1, 40, .inr (.inl fun _ => 0)), .inl (4, 40, .inr (.inr (.inr (.inl fun _ => 0)))), .inl (0, 512, .inl fun _ => 0), .inl (3, 512, .inl fun _ => 0), .inl (0, 8, .inl fun _ => 0), .inl (0, 8, .inl fun _ => 0), .inl (0, 2048, .inl fun _ => 0), .inl (1, 8, .inr (.inl fun _ => 0)), .inl (3, 2, .inl fun _ => 0), .inl (0, 512, .inl fun _ => 0), .inl (0, 16, .inl fun _ => 0)]
theorem mr35_s : mr34 ++ [.inl (0, 16, .inl fun _ => 0)] = mr35 := rfl
def mf38 (m : Nat) : List Value := [.int 0, .ref (m + 1), .int 0, .ref (m + 2), .int 0, .ref (m + 3), .ref (m + 4), .ref (m + 5), .ref (m + 6), .ref (m + 7), .int 0, .int 0, .int 0, .int 0, .int 0, .int 0, .int (-1), .int 0, .int 256, .int 0, .ref (m + 8), .ref (m + 9), .ref (m + 10), .ref (m + 11), .int 0, .int 0, .int 0, .ref (m + 12), .ref (m + 13), .ref (m + 14), .ref (m + 15), .int 0, .int 0, .ref (m + 16), .ref (m + 17), .ref (m + 18), .int 0, .int 0, .int 0, .long 0, .double 0, .int 0, .ref (m + 19), .ref (m + 20), .ref (m + 21), .ref (m + 22), .ref (m + 23), .ref (m + 24), .ref (m + 25), .ref (m + 26), .ref (m + 27), .ref (m + 28), .ref (m + 29), .ref (m + 30), .int 0, .ref (m + 31), .ref (m + 32), .int 0, .ref (m + 33), .ref (m + 34), .ref (m + 35), .ref (m + 36), .null, .null, .null, .null, .null]
theorem mf38_s (m : Nat) : (mf37 m).set 61 (.ref (m + 36)) = mf38 m := rfl
def mr36 : List VE := [.inl (2, 2000, .inl fun _ => 0), .inl (2, 2000, .inl fun _ => 0), .inl (0, 403, .inl fun _ => 0), .inl (0, 403, .inl fun _ => 0), .inl (0, 403, .inl fun _ => 0), .inl (1, 403, .inr (.inl fun _ => 0)), .inl (1, 14, .inr (.inl fun _ => 0)), .inl (0, 6, .inl fun _ => 0), .inl (0, 48, .inl fun _ => 0), .inl (0, 48, .inl fun _ => 0), .inl (0, 256, .inl fun _ => 0), .inl (0, 6, .inl fun _ => 0), .inl (0, 48, .inl fun _ => 0), .inl (0, 48, .inl fun _ => 0), .inl (0, 256, .inl fun _ => 0), .inl (0, 10, .inl smallF), .inl (0, 10, .inl wideF), .inl (0, 8, .inl fun _ => 0), .inl (0, 8, .inl fun _ => 0), .inl (0, 8, .inl fun _ => 0), .inl (0, 320, .inl fun _ => 0), .inl (1, 320, .inr (.inl fun _ => 0)), .inl (4, 320, .inr (.inr (.inr (.inl fun _ => 0)))), .inl (0, 40, .inl fun _ => 0), .inl (1, 40, .inr (.inl fun _ => 0)), .inl (4, 40, .inr (.inr (.inr (.inl fun _ => 0)))), .inl (0, 512, .inl fun _ => 0), .inl (3, 512, .inl fun _ => 0), .inl (0, 8, .inl fun _ => 0), .inl (0, 8, .inl fun _ => 0), .inl (0, 2048, .inl fun _ => 0), .inl (1, 8, .inr (.inl fun _ => 0)), .inl (3, 2, .inl fun _ => 0), .inl (0, 512, .inl fun _ => 0), .inl (0, 16, .inl fun _ => 0), .inl (0, 16, .inl fun _ => 0)]
theorem mr36_s : mr35 ++ [.inl (0, 16, .inl fun _ => 0)] = mr36 := rfl
def mf39 (m : Nat) : List Value := [.int 0, .ref (m + 1), .int 0, .ref (m + 2), .int 0, .ref (m + 3), .ref (m + 4), .ref (m + 5), .ref (m + 6), .ref (m + 7), .int 0, .int 0, .int 0, .int 0, .int 0, .int 0, .int (-1), .int 0, .int 256, .int 0, .ref (m + 8), .ref (m + 9), .ref (m + 10), .ref (m + 11), .int 0, .int 0, .int 0, .ref (m + 12), .ref (m + 13), .ref (m + 14), .ref (m + 15), .int 0, .int 0, .ref (m + 16), .ref (m + 17), .ref (m + 18), .int 0, .int 0, .int 0, .long 0, .double 0, .int 0, .ref (m + 19), .ref (m + 20), .ref (m + 21), .ref (m + 22), .ref (m + 23), .ref (m + 24), .ref (m + 25), .ref (m + 26), .ref (m + 27), .ref (m + 28), .ref (m + 29), .ref (m + 30), .int 0, .ref (m + 31), .ref (m + 32), .int 0, .ref (m + 33), .ref (m + 34), .ref (m + 35), .ref (m + 36), .ref (m + 37), .null, .null, .null, .null]
theorem mf39_s (m : Nat) : (mf38 m).set 62 (.ref (m + 37)) = mf39 m := rfl
def mr37 : List VE := [.inl (2, 2000, .inl fun _ => 0), .inl (2, 2000, .inl fun _ => 0), .inl (0, 403, .inl fun _ => 0), .inl (0, 403, .inl fun _ => 0), .inl (0, 403, .inl fun _ => 0), .inl (1, 403, .inr (.inl fun _ => 0)), .inl (1, 14, .inr (.inl fun _ => 0)), .inl (0, 6, .inl fun _ => 0), .inl (0, 48, .inl fun _ => 0), .inl (0, 48, .inl fun _ => 0), .inl (0, 256, .inl fun _ => 0), .inl (0, 6, .inl fun _ => 0), .inl (0, 48, .inl fun _ => 0), .inl (0, 48, .inl fun _ => 0), .inl (0, 256, .inl fun _ => 0), .inl (0, 10, .inl smallF), .inl (0, 10, .inl wideF), .inl (0, 8, .inl fun _ => 0), .inl (0, 8, .inl fun _ => 0), .inl (0, 8, .inl fun _ => 0), .inl (0, 320, .inl fun _ => 0), .inl (1, 320, .inr (.inl fun _ => 0)), .inl (4, 320, .inr (.inr (.inr (.inl fun _ => 0)))), .inl (0, 40, .inl fun _ => 0), .inl (1, 40, .inr (.inl fun _ => 0)), .inl (4, 40, .inr (.inr (.inr (.inl fun _ => 0)))), .inl (0, 512, .inl fun _ => 0), .inl (3, 512, .inl fun _ => 0), .inl (0, 8, .inl fun _ => 0), .inl (0, 8, .inl fun _ => 0), .inl (0, 2048, .inl fun _ => 0), .inl (1, 8, .inr (.inl fun _ => 0)), .inl (3, 2, .inl fun _ => 0), .inl (0, 512, .inl fun _ => 0), .inl (0, 16, .inl fun _ => 0), .inl (0, 16, .inl fun _ => 0), .inl (0, 640, .inl fun _ => 0)]
theorem mr37_s : mr36 ++ [.inl (0, 640, .inl fun _ => 0)] = mr37 := rfl
def mf40 (m : Nat) : List Value := [.int 0, .ref (m + 1), .int 0, .ref (m + 2), .int 0, .ref (m + 3), .ref (m + 4), .ref (m + 5), .ref (m + 6), .ref (m + 7), .int 0, .int 0, .int 0, .int 0, .int 0, .int 0, .int (-1), .int 0, .int 256, .int 0, .ref (m + 8), .ref (m + 9), .ref (m + 10), .ref (m + 11), .int 0, .int 0, .int 0, .ref (m + 12), .ref (m + 13), .ref (m + 14), .ref (m + 15), .int 0, .int 0, .ref (m + 16), .ref (m + 17), .ref (m + 18), .int 0, .int 0, .int 0, .long 0, .double 0, .int 0, .ref (m + 19), .ref (m + 20), .ref (m + 21), .ref (m + 22), .ref (m + 23), .ref (m + 24), .ref (m + 25), .ref (m + 26), .ref (m + 27), .ref (m + 28), .ref (m + 29), .ref (m + 30), .int 0, .ref (m + 31), .ref (m + 32), .int 0, .ref (m + 33), .ref (m + 34), .ref (m + 35), .ref (m + 36), .ref (m + 37), .ref (m + 38), .null, .null, .null]
theorem mf40_s (m : Nat) : (mf39 m).set 63 (.ref (m + 38)) = mf40 m := rfl
def mr38 : List VE := [.inl (2, 2000, .inl fun _ => 0), .inl (2, 2000, .inl fun _ => 0), .inl (0, 403, .inl fun _ => 0), .inl (0, 403, .inl fun _ => 0), .inl (0, 403, .inl fun _ => 0), .inl (1, 403, .inr (.inl fun _ => 0)), .inl (1, 14, .inr (.inl fun _ => 0)), .inl (0, 6, .inl fun _ => 0), .inl (0, 48, .inl fun _ => 0), .inl (0, 48, .inl fun _ => 0), .inl (0, 256, .inl fun _ => 0), .inl (0, 6, .inl fun _ => 0), .inl (0, 48, .inl fun _ => 0), .inl (0, 48, .inl fun _ => 0), .inl (0, 256, .inl fun _ => 0), .inl (0, 10, .inl smallF), .inl (0, 10, .inl wideF), .inl (0, 8, .inl fun _ => 0), .inl (0, 8, .inl fun _ => 0), .inl (0, 8, .inl fun _ => 0), .inl (0, 320, .inl fun _ => 0), .inl (1, 320, .inr (.inl fun _ => 0)), .inl (4, 320, .inr (.inr (.inr (.inl fun _ => 0)))), .inl (0, 40, .inl fun _ => 0), .inl (1, 40, .inr (.inl fun _ => 0)), .inl (4, 40, .inr (.inr (.inr (.inl fun _ => 0)))), .inl (0, 512, .inl fun _ => 0), .inl (3, 512, .inl fun _ => 0), .inl (0, 8, .inl fun _ => 0), .inl (0, 8, .inl fun _ => 0), .inl (0, 2048, .inl fun _ => 0), .inl (1, 8, .inr (.inl fun _ => 0)), .inl (3, 2, .inl fun _ => 0), .inl (0, 512, .inl fun _ => 0), .inl (0, 16, .inl fun _ => 0), .inl (0, 16, .inl fun _ => 0), .inl (0, 640, .inl fun _ => 0), .inl (1, 640, .inr (.inl fun _ => 0))]
theorem mr38_s : mr37 ++ [.inl (1, 640, .inr (.inl fun _ => 0))] = mr38 := rfl
def mf41 (m : Nat) : List Value := [.int 0, .ref (m + 1), .int 0, .ref (m + 2), .int 0, .ref (m + 3), .ref (m + 4), .ref (m + 5), .ref (m + 6), .ref (m + 7), .int 0, .int 0, .int 0, .int 0, .int 0, .int 0, .int (-1), .int 0, .int 256, .int 0, .ref (m + 8), .ref (m + 9), .ref (m + 10), .ref (m + 11), .int 0, .int 0, .int 0, .ref (m + 12), .ref (m + 13), .ref (m + 14), .ref (m + 15), .int 0, .int 0, .ref (m + 16), .ref (m + 17), .ref (m + 18), .int 0, .int 0, .int 0, .long 0, .double 0, .int 0, .ref (m + 19), .ref (m + 20), .ref (m + 21), .ref (m + 22), .ref (m + 23), .ref (m + 24), .ref (m + 25), .ref (m + 26), .ref (m + 27), .ref (m + 28), .ref (m + 29), .ref (m + 30), .int 0, .ref (m + 31), .ref (m + 32), .int 0, .ref (m + 33), .ref (m + 34), .ref (m + 35), .ref (m + 36), .ref (m + 37), .ref (m + 38), .ref (m + 39), .null, .null]
theorem mf41_s (m : Nat) : (mf40 m).set 64 (.ref (m + 39)) = mf41 m := rfl
def mr39 : List VE := [.inl (2, 2000, .inl fun _ => 0), .inl (2, 2000, .inl fun _ => 0), .inl (0, 403, .inl fun _ => 0), .inl (0, 403, .inl fun _ => 0), .inl (0, 403, .inl fun _ => 0), .inl (1, 403, .inr (.inl fun _ => 0)), .inl (1, 14, .inr (.inl fun _ => 0)), .inl (0, 6, .inl fun _ => 0), .inl (0, 48, .inl fun _ => 0), .inl (0, 48, .inl fun _ => 0), .inl (0, 256, .inl fun _ => 0), .inl (0, 6, .inl fun _ => 0), .inl (0, 48, .inl fun _ => 0), .inl (0, 48, .inl fun _ => 0), .inl (0, 256, .inl fun _ => 0), .inl (0, 10, .inl smallF), .inl (0, 10, .inl wideF), .inl (0, 8, .inl fun _ => 0), .inl (0, 8, .inl fun _ => 0), .inl (0, 8, .inl fun _ => 0), .inl (0, 320, .inl fun _ => 0), .inl (1, 320, .inr (.inl fun _ => 0)), .inl (4, 320, .inr (.inr (.inr (.inl fun _ => 0)))), .inl (0, 40, .inl fun _ => 0), .inl (1, 40, .inr (.inl fun _ => 0)), .inl (4, 40, .inr (.inr (.inr (.inl fun _ => 0)))), .inl (0, 512, .inl fun _ => 0), .inl (3, 512, .inl fun _ => 0), .inl (0, 8, .inl fun _ => 0), .inl (0, 8, .inl fun _ => 0), .inl (0, 2048, .inl fun _ => 0), .inl (1, 8, .inr (.inl fun _ => 0)), .inl (3, 2, .inl fun _ => 0), .inl (0, 512, .inl fun _ => 0), .inl (0, 16, .inl fun _ => 0), .inl (0, 16, .inl fun _ => 0), .inl (0, 640, .inl fun _ => 0), .inl (1, 640, .inr (.inl fun _ => 0)), .inl (4, 640, .inr (.inr (.inr (.inl fun _ => 0))))]
theorem mr39_s : mr38 ++ [.inl (4, 640, .inr (.inr (.inr (.inl fun _ => 0))))] = mr39 := rfl
def mf42 (m : Nat) : List Value := [.int 0, .ref (m + 1), .int 0, .ref (m + 2), .int 0, .ref (m + 3), .ref (m + 4), .ref (m + 5), .ref (m + 6), .ref (m + 7), .int 0, .int 0, .int 0, .int 0, .int 0, .int 0, .int (-1), .int 0, .int 256, .int 0, .ref (m + 8), .ref (m + 9), .ref (m + 10), .ref (m + 11), .int 0, .int 0, .int 0, .ref (m + 12), .ref (m + 13), .ref (m + 14), .ref (m + 15), .int 0, .int 0, .ref (m + 16), .ref (m + 17), .ref (m + 18), .int 0, .int 0, .int 0, .long 0, .double 0, .int 0, .ref (m + 19), .ref (m + 20), .ref (m + 21), .ref (m + 22), .ref (m + 23), .ref (m + 24), .ref (m + 25), .ref (m + 26), .ref (m + 27), .ref (m + 28), .ref (m + 29), .ref (m + 30), .int 0, .ref (m + 31), .ref (m + 32), .int 0, .ref (m + 33), .ref (m + 34), .ref (m + 35), .ref (m + 36), .ref (m + 37), .ref (m + 38), .ref (m + 39), .ref (m + 40), .null]
theorem mf42_s (m : Nat) : (mf41 m).set 65 (.ref (m + 40)) = mf42 m := rfl
def mr40 : List VE := [.inl (2, 2000, .inl fun _ => 0), .inl (2, 2000, .inl fun _ => 0), .inl (0, 403, .inl fun _ => 0), .inl (0, 403, .inl fun _ => 0), .inl (0, 403, .inl fun _ => 0), .inl (1, 403, .inr (.inl fun _ => 0)), .inl (1, 14, .inr (.inl fun _ => 0)), .inl (0, 6, .inl fun _ => 0), .inl (0, 48, .inl fun _ => 0), .inl (0, 48, .inl fun _ => 0), .inl (0, 256, .inl fun _ => 0), .inl (0, 6, .inl fun _ => 0), .inl (0, 48, .inl fun _ => 0), .inl (0, 48, .inl fun _ => 0), .inl (0, 256, .inl fun _ => 0), .inl (0, 10, .inl smallF), .inl (0, 10, .inl wideF), .inl (0, 8, .inl fun _ => 0), .inl (0, 8, .inl fun _ => 0), .inl (0, 8, .inl fun _ => 0), .inl (0, 320, .inl fun _ => 0), .inl (1, 320, .inr (.inl fun _ => 0)), .inl (4, 320, .inr (.inr (.inr (.inl fun _ => 0)))), .inl (0, 40, .inl fun _ => 0), .inl (1, 40, .inr (.inl fun _ => 0)), .inl (4, 40, .inr (.inr (.inr (.inl fun _ => 0)))), .inl (0, 512, .inl fun _ => 0), .inl (3, 512, .inl fun _ => 0), .inl (0, 8, .inl fun _ => 0), .inl (0, 8, .inl fun _ => 0), .inl (0, 2048, .inl fun _ => 0), .inl (1, 8, .inr (.inl fun _ => 0)), .inl (3, 2, .inl fun _ => 0), .inl (0, 512, .inl fun _ => 0), .inl (0, 16, .inl fun _ => 0), .inl (0, 16, .inl fun _ => 0), .inl (0, 640, .inl fun _ => 0), .inl (1, 640, .inr (.inl fun _ => 0)), .inl (4, 640, .inr (.inr (.inr (.inl fun _ => 0)))), .inl (1, 16, .inr (.inl fun _ => 0))]
theorem mr40_s : mr39 ++ [.inl (1, 16, .inr (.inl fun _ => 0))] = mr40 := rfl
def modF (m : Nat) : List Value := [.int 0, .ref (m + 1), .int 0, .ref (m + 2), .int 0, .ref (m + 3), .ref (m + 4), .ref (m + 5), .ref (m + 6), .ref (m + 7), .int 0, .int 0, .int 0, .int 0, .int 0, .int 0, .int (-1), .int 0, .int 256, .int 0, .ref (m + 8), .ref (m + 9), .ref (m + 10), .ref (m + 11), .int 0, .int 0, .int 0, .ref (m + 12), .ref (m + 13), .ref (m + 14), .ref (m + 15), .int 0, .int 0, .ref (m + 16), .ref (m + 17), .ref (m + 18), .int 0, .int 0, .int 0, .long 0, .double 0, .int 0, .ref (m + 19), .ref (m + 20), .ref (m + 21), .ref (m + 22), .ref (m + 23), .ref (m + 24), .ref (m + 25), .ref (m + 26), .ref (m + 27), .ref (m + 28), .ref (m + 29), .ref (m + 30), .int 0, .ref (m + 31), .ref (m + 32), .int 0, .ref (m + 33), .ref (m + 34), .ref (m + 35), .ref (m + 36), .ref (m + 37), .ref (m + 38), .ref (m + 39), .ref (m + 40), .ref (m + 41)]
theorem modF_s (m : Nat) : (mf42 m).set 66 (.ref (m + 41)) = modF m := rfl
def modR : List VE := [.inl (2, 2000, .inl fun _ => 0), .inl (2, 2000, .inl fun _ => 0), .inl (0, 403, .inl fun _ => 0), .inl (0, 403, .inl fun _ => 0), .inl (0, 403, .inl fun _ => 0), .inl (1, 403, .inr (.inl fun _ => 0)), .inl (1, 14, .inr (.inl fun _ => 0)), .inl (0, 6, .inl fun _ => 0), .inl (0, 48, .inl fun _ => 0), .inl (0, 48, .inl fun _ => 0), .inl (0, 256, .inl fun _ => 0), .inl (0, 6, .inl fun _ => 0), .inl (0, 48, .inl fun _ => 0), .inl (0, 48, .inl fun _ => 0), .inl (0, 256, .inl fun _ => 0), .inl (0, 10, .inl smallF), .inl (0, 10, .inl wideF), .inl (0, 8, .inl fun _ => 0), .inl (0, 8, .inl fun _ => 0), .inl (0, 8, .inl fun _ => 0), .inl (0, 320, .inl fun _ => 0), .inl (1, 320, .inr (.inl fun _ => 0)), .inl (4, 320, .inr (.inr (.inr (.inl fun _ => 0)))), .inl (0, 40, .inl fun _ => 0), .inl (1, 40, .inr (.inl fun _ => 0)), .inl (4, 40, .inr (.inr (.inr (.inl fun _ => 0)))), .inl (0, 512, .inl fun _ => 0), .inl (3, 512, .inl fun _ => 0), .inl (0, 8, .inl fun _ => 0), .inl (0, 8, .inl fun _ => 0), .inl (0, 2048, .inl fun _ => 0), .inl (1, 8, .inr (.inl fun _ => 0)), .inl (3, 2, .inl fun _ => 0), .inl (0, 512, .inl fun _ => 0), .inl (0, 16, .inl fun _ => 0), .inl (0, 16, .inl fun _ => 0), .inl (0, 640, .inl fun _ => 0), .inl (1, 640, .inr (.inl fun _ => 0)), .inl (4, 640, .inr (.inr (.inr (.inl fun _ => 0)))), .inl (1, 16, .inr (.inl fun _ => 0)), .inl (0, 2, .inl fun _ => 0)]
theorem modR_s : mr40 ++ [.inl (0, 2, .inl fun _ => 0)] = modR := rfl
theorem ini_modA (h : VG) (m : Nat) (L : VL) : ev 136 4 (some (.ref m) :: L) [] (hbk h m [.inr (11, modF0)] 0) = ev 136 454 (some (.ref m) :: L) [] (hbk h m (.inr (11, modF m) :: modR) 13046) ∧ (modF m).map vtag = vShape 11 := by
  have e0 : modF0.map vtag = vShape 11 := rfl
  have z0 : modR0.length = 0 := rfl
  obtain ⟨t1, e1⟩ := y136_4 h m (modF0) modR0 0 L e0 z0
  have z1 : mr1.length = 1 := rfl
  rw [mf1_s, mr1_s, show 0 + 2000 = 2000 from rfl] at t1
  rw [mf1_s] at e1
  obtain ⟨t2, e2⟩ := y136_13 h m (mf1 m) mr1 2000 L e1 z1
  have z2 : mr2.length = 2 := rfl
  rw [mf2_s, mr2_s, show 2000 + 2000 = 4000 from rfl] at t2
  rw [mf2_s] at e2
  obtain ⟨t3, e3⟩ := y136_22 h m (mf2 m) mr2 4000 L e2 z2
  have z3 : mr3.length = 3 := rfl
  rw [mf3_s, mr3_s, show 4000 + 403 = 4403 from rfl] at t3
  rw [mf3_s] at e3
  obtain ⟨t4, e4⟩ := y136_31 h m (mf3 m) mr3 4403 L e3 z3
  have z4 : mr4.length = 4 := rfl
  rw [mf4_s, mr4_s, show 4403 + 403 = 4806 from rfl] at t4
  rw [mf4_s] at e4
  obtain ⟨t5, e5⟩ := y136_40 h m (mf4 m) mr4 4806 L e4 z4
  have z5 : mr5.length = 5 := rfl
  rw [mf5_s, mr5_s, show 4806 + 403 = 5209 from rfl] at t5
  rw [mf5_s] at e5
  obtain ⟨t6, e6⟩ := y136_49 h m (mf5 m) mr5 5209 L e5 z5
  have z6 : mr6.length = 6 := rfl
  rw [mf6_s, mr6_s, show 5209 + 403 = 5612 from rfl] at t6
  rw [mf6_s] at e6
  obtain ⟨t7, e7⟩ := y136_58 h m (mf6 m) mr6 5612 L e6 z6
  have z7 : mr7.length = 7 := rfl
  rw [mf7_s, mr7_s, show 5612 + 14 = 5626 from rfl] at t7
  rw [mf7_s] at e7
  obtain ⟨t8, e8⟩ := y136_66 h m (mf7 m) mr7 5626 L e7
  rw [mf8_s] at t8
  rw [mf8_s] at e8
  obtain ⟨t9, e9⟩ := y136_71 h m (mf8 m) mr7 5626 L e8
  rw [mf9_s] at t9
  rw [mf9_s] at e9
  obtain ⟨t10, e10⟩ := y136_78 h m (mf9 m) mr7 5626 L e9 z7
  have z8 : mr8.length = 8 := rfl
  rw [mf10_s, mr8_s, show 5626 + 6 = 5632 from rfl] at t10
  rw [mf10_s] at e10
  obtain ⟨t11, e11⟩ := y136_86 h m (mf10 m) mr8 5632 L e10 z8
  have z9 : mr9.length = 9 := rfl
  rw [mf11_s, mr9_s, show 5632 + 48 = 5680 from rfl] at t11
  rw [mf11_s] at e11
  obtain ⟨t12, e12⟩ := y136_94 h m (mf11 m) mr9 5680 L e11 z9
  have z10 : mr10.length = 10 := rfl
  rw [mf12_s, mr10_s, show 5680 + 48 = 5728 from rfl] at t12
  rw [mf12_s] at e12
  obtain ⟨t13, e13⟩ := y136_102 h m (mf12 m) mr10 5728 L e12 z10
  have z11 : mr11.length = 11 := rfl
  rw [mf13_s, mr11_s, show 5728 + 256 = 5984 from rfl] at t13
  rw [mf13_s] at e13
  obtain ⟨t14, e14⟩ := y136_111 h m (mf13 m) mr11 5984 L e13 z11
  have z12 : mr12.length = 12 := rfl
  rw [mf14_s, mr12_s, show 5984 + 6 = 5990 from rfl] at t14
  rw [mf14_s] at e14
  obtain ⟨t15, e15⟩ := y136_119 h m (mf14 m) mr12 5990 L e14 z12
  have z13 : mr13.length = 13 := rfl
  rw [mf15_s, mr13_s, show 5990 + 48 = 6038 from rfl] at t15
  rw [mf15_s] at e15
  obtain ⟨t16, e16⟩ := y136_127 h m (mf15 m) mr13 6038 L e15 z13
  have z14 : mr14.length = 14 := rfl
  rw [mf16_s, mr14_s, show 6038 + 48 = 6086 from rfl] at t16
  rw [mf16_s] at e16
  obtain ⟨t17, e17⟩ := y136_135 h m (mf16 m) mr14 6086 L e16 z14
  have z15 : mr15.length = 15 := rfl
  rw [mf17_s, mr15_s, show 6086 + 256 = 6342 from rfl] at t17
  rw [mf17_s] at e17
  obtain ⟨t18, e18⟩ := y136_144 h m (mf17 m) mr15 6342 L e17 z15
  have z16 : mr16.length = 16 := rfl
  rw [mf18_s, mr16_s, show 6342 + 10 = 6352 from rfl] at t18
  rw [mf18_s] at e18
  obtain ⟨t19, e19⟩ := y136_198 h m (mf18 m) mr16 6352 L e18 z16
  have z17 : mr17.length = 17 := rfl
  rw [mf19_s, mr17_s, show 6352 + 10 = 6362 from rfl] at t19
  rw [mf19_s] at e19
  obtain ⟨t20, e20⟩ := y136_254 h m (mf19 m) mr17 6362 L e19 z17
  have z18 : mr18.length = 18 := rfl
  rw [mf20_s, mr18_s, show 6362 + 8 = 6370 from rfl] at t20
  rw [mf20_s] at e20
  obtain ⟨t21, e21⟩ := y136_262 h m (mf20 m) mr18 6370 L e20 z18
  have z19 : mr19.length = 19 := rfl
  rw [mf21_s, mr19_s, show 6370 + 8 = 6378 from rfl] at t21
  rw [mf21_s] at e21
  obtain ⟨t22, e22⟩ := y136_270 h m (mf21 m) mr19 6378 L e21 z19
  have z20 : mr20.length = 20 := rfl
  rw [mf22_s, mr20_s, show 6378 + 8 = 6386 from rfl] at t22
  rw [mf22_s] at e22
  obtain ⟨t23, e23⟩ := y136_278 h m (mf22 m) mr20 6386 L e22 z20
  have z21 : mr21.length = 21 := rfl
  rw [mf23_s, mr21_s, show 6386 + 320 = 6706 from rfl] at t23
  rw [mf23_s] at e23
  obtain ⟨t24, e24⟩ := y136_287 h m (mf23 m) mr21 6706 L e23 z21
  have z22 : mr22.length = 22 := rfl
  rw [mf24_s, mr22_s, show 6706 + 320 = 7026 from rfl] at t24
  rw [mf24_s] at e24
  obtain ⟨t25, e25⟩ := y136_296 h m (mf24 m) mr22 7026 L e24 z22
  have z23 : mr23.length = 23 := rfl
  rw [mf25_s, mr23_s, show 7026 + 320 = 7346 from rfl] at t25
  rw [mf25_s] at e25
  obtain ⟨t26, e26⟩ := y136_305 h m (mf25 m) mr23 7346 L e25 z23
  have z24 : mr24.length = 24 := rfl
  rw [mf26_s, mr24_s, show 7346 + 40 = 7386 from rfl] at t26
  rw [mf26_s] at e26
  obtain ⟨t27, e27⟩ := y136_313 h m (mf26 m) mr24 7386 L e26 z24
  have z25 : mr25.length = 25 := rfl
  rw [mf27_s, mr25_s, show 7386 + 40 = 7426 from rfl] at t27
  rw [mf27_s] at e27
  obtain ⟨t28, e28⟩ := y136_321 h m (mf27 m) mr25 7426 L e27 z25
  have z26 : mr26.length = 26 := rfl
  rw [mf28_s, mr26_s, show 7426 + 40 = 7466 from rfl] at t28
  rw [mf28_s] at e28
  obtain ⟨t29, e29⟩ := y136_329 h m (mf28 m) mr26 7466 L e28 z26
  have z27 : mr27.length = 27 := rfl
  rw [mf29_s, mr27_s, show 7466 + 512 = 7978 from rfl] at t29
  rw [mf29_s] at e29
  obtain ⟨t30, e30⟩ := y136_338 h m (mf29 m) mr27 7978 L e29 z27
  have z28 : mr28.length = 28 := rfl
  rw [mf30_s, mr28_s, show 7978 + 512 = 8490 from rfl] at t30
  rw [mf30_s] at e30
  obtain ⟨t31, e31⟩ := y136_347 h m (mf30 m) mr28 8490 L e30 z28
  have z29 : mr29.length = 29 := rfl
  rw [mf31_s, mr29_s, show 8490 + 8 = 8498 from rfl] at t31
  rw [mf31_s] at e31
  obtain ⟨t32, e32⟩ := y136_355 h m (mf31 m) mr29 8498 L e31 z29
  have z30 : mr30.length = 30 := rfl
  rw [mf32_s, mr30_s, show 8498 + 8 = 8506 from rfl] at t32
  rw [mf32_s] at e32
  obtain ⟨t33, e33⟩ := y136_363 h m (mf32 m) mr30 8506 L e32 z30
  have z31 : mr31.length = 31 := rfl
  rw [mf33_s, mr31_s, show 8506 + 2048 = 10554 from rfl] at t33
  rw [mf33_s] at e33
  obtain ⟨t34, e34⟩ := y136_372 h m (mf33 m) mr31 10554 L e33 z31
  have z32 : mr32.length = 32 := rfl
  rw [mf34_s, mr32_s, show 10554 + 8 = 10562 from rfl] at t34
  rw [mf34_s] at e34
  obtain ⟨t35, e35⟩ := y136_380 h m (mf34 m) mr32 10562 L e34 z32
  have z33 : mr33.length = 33 := rfl
  rw [mf35_s, mr33_s, show 10562 + 2 = 10564 from rfl] at t35
  rw [mf35_s] at e35
  obtain ⟨t36, e36⟩ := y136_387 h m (mf35 m) mr33 10564 L e35 z33
  have z34 : mr34.length = 34 := rfl
  rw [mf36_s, mr34_s, show 10564 + 512 = 11076 from rfl] at t36
  rw [mf36_s] at e36
  obtain ⟨t37, e37⟩ := y136_396 h m (mf36 m) mr34 11076 L e36 z34
  have z35 : mr35.length = 35 := rfl
  rw [mf37_s, mr35_s, show 11076 + 16 = 11092 from rfl] at t37
  rw [mf37_s] at e37
  obtain ⟨t38, e38⟩ := y136_404 h m (mf37 m) mr35 11092 L e37 z35
  have z36 : mr36.length = 36 := rfl
  rw [mf38_s, mr36_s, show 11092 + 16 = 11108 from rfl] at t38
  rw [mf38_s] at e38
  obtain ⟨t39, e39⟩ := y136_412 h m (mf38 m) mr36 11108 L e38 z36
  have z37 : mr37.length = 37 := rfl
  rw [mf39_s, mr37_s, show 11108 + 640 = 11748 from rfl] at t39
  rw [mf39_s] at e39
  obtain ⟨t40, e40⟩ := y136_421 h m (mf39 m) mr37 11748 L e39 z37
  have z38 : mr38.length = 38 := rfl
  rw [mf40_s, mr38_s, show 11748 + 640 = 12388 from rfl] at t40
  rw [mf40_s] at e40
  obtain ⟨t41, e41⟩ := y136_430 h m (mf40 m) mr38 12388 L e40 z38
  have z39 : mr39.length = 39 := rfl
  rw [mf41_s, mr39_s, show 12388 + 640 = 13028 from rfl] at t41
  rw [mf41_s] at e41
  obtain ⟨t42, e42⟩ := y136_439 h m (mf41 m) mr39 13028 L e41 z39
  have z40 : mr40.length = 40 := rfl
  rw [mf42_s, mr40_s, show 13028 + 16 = 13044 from rfl] at t42
  rw [mf42_s] at e42
  obtain ⟨t43, e43⟩ := y136_447 h m (mf42 m) mr40 13044 L e42 z40
  have z41 : modR.length = 41 := rfl
  rw [modF_s, modR_s, show 13044 + 2 = 13046 from rfl] at t43
  rw [modF_s] at e43
  have t0 : hbk h m [.inr (11, modF0)] 0 = hbk h m (.inr (11, modF0) :: modR0) 0 := rfl
  rw [t0, t1, t2, t3, t4, t5, t6, t7, t8, t9, t10, t11, t12, t13, t14, t15, t16, t17, t18, t19, t20, t21, t22, t23, t24, t25, t26, t27, t28, t29, t30, t31, t32, t33, t34, t35, t36, t37, t38, t39, t40, t41, t42, t43]
  exact ⟨rfl, e43⟩
