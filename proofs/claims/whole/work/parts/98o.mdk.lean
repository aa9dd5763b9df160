/-! objects made: the model, whole -/
def mLet (c0 c1 c2 c3 c4 c5 c6 : Int32) : Int64 := [c0, c1, c2, c3, c4, c5, c6].foldl (fun x c => if c = 0 then x else 27 * x + (c - 97 + 1).toInt64) 0
theorem c_letters (h : VG) (c0 c1 c2 c3 c4 c5 c6 : Int32) : ev 144 0 [some (.int c0), some (.int c1), some (.int c2), some (.int c3), some (.int c4), some (.int c5), some (.int c6)] [] h = some (some (.long (mLet c0 c1 c2 c3 c4 c5 c6)), h) := by
  simp +decide only [e144_0, e144_1, e144_2, e144_5, e144_6, e144_9, e144_10, e144_13, e144_14, e144_17, e144_19, e144_22, e144_24, e144_27, e144_29, e144_32, c_appends, vkk_n, vkk_i, vkk_r, vkk_l, vkk_d, catS_nil, catS_i, catS_r, catS_l, catS_d, Nat.reduceAdd, Nat.reduceLeDiff, Nat.zero_le, Nat.le_refl, Option.bind_some, Option.toList_some, Option.toList_none, List.cons_append, List.nil_append, or_true, true_or, if_true, if_false, Int32.reduceLT, Int32.reduceLE, not_true, not_false_iff, true_and, and_true, false_and, and_false]
  rfl
theorem y136_k0 (h : VG) (m : Nat) (F : List Value) (l : List VE) (s : Nat) (L : VL) (f : Nat → Int64) (hF : F.map vtag = vShape 11) (hk : F[9]? = some (.ref (m + 7))) (hl : l[6]? = some (.inl (1, 14, .inr (.inl f)))) : ev 136 454 (some (.ref m) :: L) [] (hbk h m (.inr (11, F) :: l) s) = ev 136 473 (some (.ref m) :: L) [] (hbk h m (.inr (11, F) :: l.set 6 (.inl (1, 14, .inr (.inl (vp_updL f 0 1708))))) s) := by
  have kk := c_letters (hbk h m (.inr (11, F) :: l) s) 98 105 103 0 0 0 0
  rw [show mLet 98 105 103 0 0 0 0 = 1708 from by decide] at kk
  have cl : (hbk h m (.inr (11, F) :: l) s).1 (m + 7) = .inl (1, 14, .inr (.inl f)) := hbk_get (i := 7) (by rw [List.getElem?_cons_succ]; exact hl)
  have oo : ob (hbk h m (.inr (11, F) :: l) s) m 11 := hbk_ob hF
  have gv : gV (hbk h m (.inr (11, F) :: l) s) m 9 = .ref (m + 7) := by
    unfold gV
    rw [show (hbk h m (.inr (11, F) :: l) s).1 m = .inr (11, F) from hbk_get (i := 0) rfl]
    show (F[9]?).getD _ = _
    rw [hk]
    rfl
  have rr : isR (hbk h m (.inr (11, F) :: l) s) m 9 := ⟨_, gv⟩
  have gr : gR (hbk h m (.inr (11, F) :: l) s) m 9 = m + 7 := by unfold gR; rw [gv]
  have aa : arL (hbk h m (.inr (11, F) :: l) s) (m + 7) := ⟨14, f, cl⟩
  have an : aln (hbk h m (.inr (11, F) :: l) s) (m + 7) = 14 := by unfold aln; rw [cl]
  have hlt : 6 < l.length := (List.getElem?_eq_some_iff.mp hl).1
  have ww : wL (hbk h m (.inr (11, F) :: l) s) (m + 7) 0 1708 = hbk h m (.inr (11, F) :: l.set 6 (.inl (1, 14, .inr (.inl (vp_updL f 0 1708))))) s := by
    unfold wL
    rw [cl]
    show hset _ (m + 7) _ = _
    rw [hbk_set (i := 7) _ (by rw [List.length_cons]; omega), List.set_cons_succ]
  have vi : vp_in 0 14 := (vp_in_nI (n := 0) (by omega) (by decide) : vp_in (nI 0) 14)
  have ci : (0 : Int32).toNatClampNeg = 0 := by decide
  generalize hbk h m (.inr (11, F) :: l.set 6 (.inl (1, 14, .inr (.inl (vp_updL f 0 1708))))) s = H2 at *
  generalize hbk h m (.inr (11, F) :: l) s = H at *
  simp +decide only [e136_454, e136_455, e136_458, e136_459, e136_461, e136_463, e136_465, e136_466, e136_467, e136_468, e136_469, e136_472, kk, oo, rr, gr, aa, an, ww, vi, ci, vkk_n, vkk_i, vkk_r, vkk_l, vkk_d, catS_nil, catS_i, catS_r, catS_l, catS_d, Nat.reduceAdd, Nat.reduceLeDiff, Nat.zero_le, Nat.le_refl, Option.bind_some, Option.toList_some, Option.toList_none, List.cons_append, List.nil_append, or_true, true_or, if_true, if_false, Int32.reduceLT, Int32.reduceLE, not_true, not_false_iff, true_and, and_true, false_and, and_false]
theorem y136_k1 (h : VG) (m : Nat) (F : List Value) (l : List VE) (s : Nat) (L : VL) (f : Nat → Int64) (hF : F.map vtag = vShape 11) (hk : F[9]? = some (.ref (m + 7))) (hl : l[6]? = some (.inl (1, 14, .inr (.inl f)))) : ev 136 473 (some (.ref m) :: L) [] (hbk h m (.inr (11, F) :: l) s) = ev 136 493 (some (.ref m) :: L) [] (hbk h m (.inr (11, F) :: l.set 6 (.inl (1, 14, .inr (.inl (vp_updL f 1 243140))))) s) := by
  have kk := c_letters (hbk h m (.inr (11, F) :: l) s) 108 105 110 101 0 0 0
  rw [show mLet 108 105 110 101 0 0 0 = 243140 from by decide] at kk
  have cl : (hbk h m (.inr (11, F) :: l) s).1 (m + 7) = .inl (1, 14, .inr (.inl f)) := hbk_get (i := 7) (by rw [List.getElem?_cons_succ]; exact hl)
  have oo : ob (hbk h m (.inr (11, F) :: l) s) m 11 := hbk_ob hF
  have gv : gV (hbk h m (.inr (11, F) :: l) s) m 9 = .ref (m + 7) := by
    unfold gV
    rw [show (hbk h m (.inr (11, F) :: l) s).1 m = .inr (11, F) from hbk_get (i := 0) rfl]
    show (F[9]?).getD _ = _
    rw [hk]
    rfl
  have rr : isR (hbk h m (.inr (11, F) :: l) s) m 9 := ⟨_, gv⟩
  have gr : gR (hbk h m (.inr (11, F) :: l) s) m 9 = m + 7 := by unfold gR; rw [gv]
  have aa : arL (hbk h m (.inr (11, F) :: l) s) (m + 7) := ⟨14, f, cl⟩
  have an : aln (hbk h m (.inr (11, F) :: l) s) (m + 7) = 14 := by unfold aln; rw [cl]
  have hlt : 6 < l.length := (List.getElem?_eq_some_iff.mp hl).1
  have ww : wL (hbk h m (.inr (11, F) :: l) s) (m + 7) 1 243140 = hbk h m (.inr (11, F) :: l.set 6 (.inl (1, 14, .inr (.inl (vp_updL f 1 243140))))) s := by
    unfold wL
    rw [cl]
    show hset _ (m + 7) _ = _
    rw [hbk_set (i := 7) _ (by rw [List.length_cons]; omega), List.set_cons_succ]
  have vi : vp_in 1 14 := (vp_in_nI (n := 1) (by omega) (by decide) : vp_in (nI 1) 14)
  have ci : (1 : Int32).toNatClampNeg = 1 := by decide
  generalize hbk h m (.inr (11, F) :: l.set 6 (.inl (1, 14, .inr (.inl (vp_updL f 1 243140))))) s = H2 at *
  generalize hbk h m (.inr (11, F) :: l) s = H at *
  simp +decide only [e136_473, e136_474, e136_477, e136_478, e136_480, e136_482, e136_484, e136_486, e136_487, e136_488, e136_489, e136_492, kk, oo, rr, gr, aa, an, ww, vi, ci, vkk_n, vkk_i, vkk_r, vkk_l, vkk_d, catS_nil, catS_i, catS_r, catS_l, catS_d, Nat.reduceAdd, Nat.reduceLeDiff, Nat.zero_le, Nat.le_refl, Option.bind_some, Option.toList_some, Option.toList_none, List.cons_append, List.nil_append, or_true, true_or, if_true, if_false, Int32.reduceLT, Int32.reduceLE, not_true, not_false_iff, true_and, and_true, false_and, and_false]
theorem y136_k2 (h : VG) (m : Nat) (F : List Value) (l : List VE) (s : Nat) (L : VL) (f : Nat → Int64) (hF : F.map vtag = vShape 11) (hk : F[9]? = some (.ref (m + 7))) (hl : l[6]? = some (.inl (1, 14, .inr (.inl f)))) : ev 136 493 (some (.ref m) :: L) [] (hbk h m (.inr (11, F) :: l) s) = ev 136 513 (some (.ref m) :: L) [] (hbk h m (.inr (11, F) :: l.set 6 (.inl (1, 14, .inr (.inl (vp_updL f 2 129532))))) s) := by
  have kk := c_letters (hbk h m (.inr (11, F) :: l) s) 102 111 114 109 0 0 0
  rw [show mLet 102 111 114 109 0 0 0 = 129532 from by decide] at kk
  have cl : (hbk h m (.inr (11, F) :: l) s).1 (m + 7) = .inl (1, 14, .inr (.inl f)) := hbk_get (i := 7) (by rw [List.getElem?_cons_succ]; exact hl)
  have oo : ob (hbk h m (.inr (11, F) :: l) s) m 11 := hbk_ob hF
  have gv : gV (hbk h m (.inr (11, F) :: l) s) m 9 = .ref (m + 7) := by
    unfold gV
    rw [show (hbk h m (.inr (11, F) :: l) s).1 m = .inr (11, F) from hbk_get (i := 0) rfl]
    show (F[9]?).getD _ = _
    rw [hk]
    rfl
  have rr : isR (hbk h m (.inr (11, F) :: l) s) m 9 := ⟨_, gv⟩
  have gr : gR (hbk h m (.inr (11, F) :: l) s) m 9 = m + 7 := by unfold gR; rw [gv]
  have aa : arL (hbk h m (.inr (11, F) :: l) s) (m + 7) := ⟨14, f, cl⟩
  have an : aln (hbk h m (.inr (11, F) :: l) s) (m + 7) = 14 := by unfold aln; rw [cl]
  have hlt : 6 < l.length := (List.getElem?_eq_some_iff.mp hl).1
  have ww : wL (hbk h m (.inr (11, F) :: l) s) (m + 7) 2 129532 = hbk h m (.inr (11, F) :: l.set 6 (.inl (1, 14, .inr (.inl (vp_updL f 2 129532))))) s := by
    unfold wL
    rw [cl]
    show hset _ (m + 7) _ = _
    rw [hbk_set (i := 7) _ (by rw [List.length_cons]; omega), List.set_cons_succ]
  have vi : vp_in 2 14 := (vp_in_nI (n := 2) (by omega) (by decide) : vp_in (nI 2) 14)
  have ci : (2 : Int32).toNatClampNeg = 2 := by decide
  generalize hbk h m (.inr (11, F) :: l.set 6 (.inl (1, 14, .inr (.inl (vp_updL f 2 129532))))) s = H2 at *
  generalize hbk h m (.inr (11, F) :: l) s = H at *
  simp +decide only [e136_493, e136_494, e136_497, e136_498, e136_500, e136_502, e136_504, e136_506, e136_507, e136_508, e136_509, e136_512, kk, oo, rr, gr, aa, an, ww, vi, ci, vkk_n, vkk_i, vkk_r, vkk_l, vkk_d, catS_nil, catS_i, catS_r, catS_l, catS_d, Nat.reduceAdd, Nat.reduceLeDiff, Nat.zero_le, Nat.le_refl, Option.bind_some, Option.toList_some, Option.toList_none, List.cons_append, List.nil_append, or_true, true_or, if_true, if_false, Int32.reduceLT, Int32.reduceLE, not_true, not_false_iff, true_and, and_true, false_and, and_false]
theorem y136_k3 (h : VG) (m : Nat) (F : List Value) (l : List VE) (s : Nat) (L : VL) (f : Nat → Int64) (hF : F.map vtag = vShape 11) (hk : F[9]? = some (.ref (m + 7))) (hl : l[6]? = some (.inl (1, 14, .inr (.inl f)))) : ev 136 513 (some (.ref m) :: L) [] (hbk h m (.inr (11, F) :: l) s) = ev 136 533 (some (.ref m) :: L) [] (hbk h m (.inr (11, F) :: l.set 6 (.inl (1, 14, .inr (.inl (vp_updL f 3 124995))))) s) := by
  have kk := c_letters (hbk h m (.inr (11, F) :: l) s) 102 105 108 108 0 0 0
  rw [show mLet 102 105 108 108 0 0 0 = 124995 from by decide] at kk
  have cl : (hbk h m (.inr (11, F) :: l) s).1 (m + 7) = .inl (1, 14, .inr (.inl f)) := hbk_get (i := 7) (by rw [List.getElem?_cons_succ]; exact hl)
  have oo : ob (hbk h m (.inr (11, F) :: l) s) m 11 := hbk_ob hF
  have gv : gV (hbk h m (.inr (11, F) :: l) s) m 9 = .ref (m + 7) := by
    unfold gV
    rw [show (hbk h m (.inr (11, F) :: l) s).1 m = .inr (11, F) from hbk_get (i := 0) rfl]
    show (F[9]?).getD _ = _
    rw [hk]
    rfl
  have rr : isR (hbk h m (.inr (11, F) :: l) s) m 9 := ⟨_, gv⟩
  have gr : gR (hbk h m (.inr (11, F) :: l) s) m 9 = m + 7 := by unfold gR; rw [gv]
  have aa : arL (hbk h m (.inr (11, F) :: l) s) (m + 7) := ⟨14, f, cl⟩
  have an : aln (hbk h m (.inr (11, F) :: l) s) (m + 7) = 14 := by unfold aln; rw [cl]
  have hlt : 6 < l.length := (List.getElem?_eq_some_iff.mp hl).1
  have ww : wL (hbk h m (.inr (11, F) :: l) s) (m + 7) 3 124995 = hbk h m (.inr (11, F) :: l.set 6 (.inl (1, 14, .inr (.inl (vp_updL f 3 124995))))) s := by
    unfold wL
    rw [cl]
    show hset _ (m + 7) _ = _
    rw [hbk_set (i := 7) _ (by rw [List.length_cons]; omega), List.set_cons_succ]
  have vi : vp_in 3 14 := (vp_in_nI (n := 3) (by omega) (by decide) : vp_in (nI 3) 14)
  have ci : (3 : Int32).toNatClampNeg = 3 := by decide
  generalize hbk h m (.inr (11, F) :: l.set 6 (.inl (1, 14, .inr (.inl (vp_updL f 3 124995))))) s = H2 at *
  generalize hbk h m (.inr (11, F) :: l) s = H at *
  simp +decide only [e136_513, e136_514, e136_517, e136_518, e136_520, e136_522, e136_524, e136_526, e136_527, e136_528, e136_529, e136_532, kk, oo, rr, gr, aa, an, ww, vi, ci, vkk_n, vkk_i, vkk_r, vkk_l, vkk_d, catS_nil, catS_i, catS_r, catS_l, catS_d, Nat.reduceAdd, Nat.reduceLeDiff, Nat.zero_le, Nat.le_refl, Option.bind_some, Option.toList_some, Option.toList_none, List.cons_append, List.nil_append, or_true, true_or, if_true, if_false, Int32.reduceLT, Int32.reduceLE, not_true, not_false_iff, true_and, and_true, false_and, and_false]
theorem y136_k4 (h : VG) (m : Nat) (F : List Value) (l : List VE) (s : Nat) (L : VL) (f : Nat → Int64) (hF : F.map vtag = vShape 11) (hk : F[9]? = some (.ref (m + 7))) (hl : l[6]? = some (.inl (1, 14, .inr (.inl f)))) : ev 136 533 (some (.ref m) :: L) [] (hbk h m (.inr (11, F) :: l) s) = ev 136 553 (some (.ref m) :: L) [] (hbk h m (.inr (11, F) :: l.set 6 (.inl (1, 14, .inr (.inl (vp_updL f 4 126880))))) s) := by
  have kk := c_letters (hbk h m (.inr (11, F) :: l) s) 102 108 97 103 0 0 0
  rw [show mLet 102 108 97 103 0 0 0 = 126880 from by decide] at kk
  have cl : (hbk h m (.inr (11, F) :: l) s).1 (m + 7) = .inl (1, 14, .inr (.inl f)) := hbk_get (i := 7) (by rw [List.getElem?_cons_succ]; exact hl)
  have oo : ob (hbk h m (.inr (11, F) :: l) s) m 11 := hbk_ob hF
  have gv : gV (hbk h m (.inr (11, F) :: l) s) m 9 = .ref (m + 7) := by
    unfold gV
    rw [show (hbk h m (.inr (11, F) :: l) s).1 m = .inr (11, F) from hbk_get (i := 0) rfl]
    show (F[9]?).getD _ = _
    rw [hk]
    rfl
  have rr : isR (hbk h m (.inr (11, F) :: l) s) m 9 := ⟨_, gv⟩
  have gr : gR (hbk h m (.inr (11, F) :: l) s) m 9 = m + 7 := by unfold gR; rw [gv]
  have aa : arL (hbk h m (.inr (11, F) :: l) s) (m + 7) := ⟨14, f, cl⟩
  have an : aln (hbk h m (.inr (11, F) :: l) s) (m + 7) = 14 := by unfold aln; rw [cl]
  have hlt : 6 < l.length := (List.getElem?_eq_some_iff.mp hl).1
  have ww : wL (hbk h m (.inr (11, F) :: l) s) (m + 7) 4 126880 = hbk h m (.inr (11, F) :: l.set 6 (.inl (1, 14, .inr (.inl (vp_updL f 4 126880))))) s := by
    unfold wL
    rw [cl]
    show hset _ (m + 7) _ = _
    rw [hbk_set (i := 7) _ (by rw [List.length_cons]; omega), List.set_cons_succ]
  have vi : vp_in 4 14 := (vp_in_nI (n := 4) (by omega) (by decide) : vp_in (nI 4) 14)
  have ci : (4 : Int32).toNatClampNeg = 4 := by decide
  generalize hbk h m (.inr (11, F) :: l.set 6 (.inl (1, 14, .inr (.inl (vp_updL f 4 126880))))) s = H2 at *
  generalize hbk h m (.inr (11, F) :: l) s = H at *
  simp +decide only [e136_533, e136_534, e136_537, e136_538, e136_540, e136_542, e136_544, e136_546, e136_547, e136_548, e136_549, e136_552, kk, oo, rr, gr, aa, an, ww, vi, ci, vkk_n, vkk_i, vkk_r, vkk_l, vkk_d, catS_nil, catS_i, catS_r, catS_l, catS_d, Nat.reduceAdd, Nat.reduceLeDiff, Nat.zero_le, Nat.le_refl, Option.bind_some, Option.toList_some, Option.toList_none, List.cons_append, List.nil_append, or_true, true_or, if_true, if_false, Int32.reduceLT, Int32.reduceLE, not_true, not_false_iff, true_and, and_true, false_and, and_false]
theorem y136_k5 (h : VG) (m : Nat) (F : List Value) (l : List VE) (s : Nat) (L : VL) (f : Nat → Int64) (hF : F.map vtag = vShape 11) (hk : F[9]? = some (.ref (m + 7))) (hl : l[6]? = some (.inl (1, 14, .inr (.inl f)))) : ev 136 553 (some (.ref m) :: L) [] (hbk h m (.inr (11, F) :: l) s) = ev 136 573 (some (.ref m) :: L) [] (hbk h m (.inr (11, F) :: l.set 6 (.inl (1, 14, .inr (.inl (vp_updL f 5 58136))))) s) := by
  have kk := c_letters (hbk h m (.inr (11, F) :: l) s) 98 121 116 101 0 0 0
  rw [show mLet 98 121 116 101 0 0 0 = 58136 from by decide] at kk
  have cl : (hbk h m (.inr (11, F) :: l) s).1 (m + 7) = .inl (1, 14, .inr (.inl f)) := hbk_get (i := 7) (by rw [List.getElem?_cons_succ]; exact hl)
  have oo : ob (hbk h m (.inr (11, F) :: l) s) m 11 := hbk_ob hF
  have gv : gV (hbk h m (.inr (11, F) :: l) s) m 9 = .ref (m + 7) := by
    unfold gV
    rw [show (hbk h m (.inr (11, F) :: l) s).1 m = .inr (11, F) from hbk_get (i := 0) rfl]
    show (F[9]?).getD _ = _
    rw [hk]
    rfl
  have rr : isR (hbk h m (.inr (11, F) :: l) s) m 9 := ⟨_, gv⟩
  have gr : gR (hbk h m (.inr (11, F) :: l) s) m 9 = m + 7 := by unfold gR; rw [gv]
  have aa : arL (hbk h m (.inr (11, F) :: l) s) (m + 7) := ⟨14, f, cl⟩
  have an : aln (hbk h m (.inr (11, F) :: l) s) (m + 7) = 14 := by unfold aln; rw [cl]
  have hlt : 6 < l.length := (List.getElem?_eq_some_iff.mp hl).1
  have ww : wL (hbk h m (.inr (11, F) :: l) s) (m + 7) 5 58136 = hbk h m (.inr (11, F) :: l.set 6 (.inl (1, 14, .inr (.inl (vp_updL f 5 58136))))) s := by
    unfold wL
    rw [cl]
    show hset _ (m + 7) _ = _
    rw [hbk_set (i := 7) _ (by rw [List.length_cons]; omega), List.set_cons_succ]
  have vi : vp_in 5 14 := (vp_in_nI (n := 5) (by omega) (by decide) : vp_in (nI 5) 14)
  have ci : (5 : Int32).toNatClampNeg = 5 := by decide
  generalize hbk h m (.inr (11, F) :: l.set 6 (.inl (1, 14, .inr (.inl (vp_updL f 5 58136))))) s = H2 at *
  generalize hbk h m (.inr (11, F) :: l) s = H at *
  simp +decide only [e136_553, e136_554, e136_557, e136_558, e136_560, e136_562, e136_564, e136_566, e136_567, e136_568, e136_569, e136_572, kk, oo, rr, gr, aa, an, ww, vi, ci, vkk_n, vkk_i, vkk_r, vkk_l, vkk_d, catS_nil, catS_i, catS_r, catS_l, catS_d, Nat.reduceAdd, Nat.reduceLeDiff, Nat.zero_le, Nat.le_refl, Option.bind_some, Option.toList_some, Option.toList_none, List.cons_append, List.nil_append, or_true, true_or, if_true, if_false, Int32.reduceLT, Int32.reduceLE, not_true, not_false_iff, true_and, and_true, false_and, and_false]
theorem y136_k6 (h : VG) (m : Nat) (F : List Value) (l : List VE) (s : Nat) (L : VL) (f : Nat → Int64) (hF : F.map vtag = vShape 11) (hk : F[9]? = some (.ref (m + 7))) (hl : l[6]? = some (.inl (1, 14, .inr (.inl f)))) : ev 136 573 (some (.ref m) :: L) [] (hbk h m (.inr (11, F) :: l) s) = ev 136 594 (some (.ref m) :: L) [] (hbk h m (.inr (11, F) :: l.set 6 (.inl (1, 14, .inr (.inl (vp_updL f 6 64926))))) s) := by
  have kk := c_letters (hbk h m (.inr (11, F) :: l) s) 99 104 97 114 0 0 0
  rw [show mLet 99 104 97 114 0 0 0 = 64926 from by decide] at kk
  have cl : (hbk h m (.inr (11, F) :: l) s).1 (m + 7) = .inl (1, 14, .inr (.inl f)) := hbk_get (i := 7) (by rw [List.getElem?_cons_succ]; exact hl)
  have oo : ob (hbk h m (.inr (11, F) :: l) s) m 11 := hbk_ob hF
  have gv : gV (hbk h m (.inr (11, F) :: l) s) m 9 = .ref (m + 7) := by
    unfold gV
    rw [show (hbk h m (.inr (11, F) :: l) s).1 m = .inr (11, F) from hbk_get (i := 0) rfl]
    show (F[9]?).getD _ = _
    rw [hk]
    rfl
  have rr : isR (hbk h m (.inr (11, F) :: l) s) m 9 := ⟨_, gv⟩
  have gr : gR (hbk h m (.inr (11, F) :: l) s) m 9 = m + 7 := by unfold gR; rw [gv]
  have aa : arL (hbk h m (.inr (11, F) :: l) s) (m + 7) := ⟨14, f, cl⟩
  have an : aln (hbk h m (.inr (11, F) :: l) s) (m + 7) = 14 := by unfold aln; rw [cl]
  have hlt : 6 < l.length := (List.getElem?_eq_some_iff.mp hl).1
  have ww : wL (hbk h m (.inr (11, F) :: l) s) (m + 7) 6 64926 = hbk h m (.inr (11, F) :: l.set 6 (.inl (1, 14, .inr (.inl (vp_updL f 6 64926))))) s := by
    unfold wL
    rw [cl]
    show hset _ (m + 7) _ = _
    rw [hbk_set (i := 7) _ (by rw [List.length_cons]; omega), List.set_cons_succ]
  have vi : vp_in 6 14 := (vp_in_nI (n := 6) (by omega) (by decide) : vp_in (nI 6) 14)
  have ci : (6 : Int32).toNatClampNeg = 6 := by decide
  generalize hbk h m (.inr (11, F) :: l.set 6 (.inl (1, 14, .inr (.inl (vp_updL f 6 64926))))) s = H2 at *
  generalize hbk h m (.inr (11, F) :: l) s = H at *
  simp +decide only [e136_573, e136_574, e136_577, e136_579, e136_581, e136_583, e136_585, e136_587, e136_588, e136_589, e136_590, e136_593, kk, oo, rr, gr, aa, an, ww, vi, ci, vkk_n, vkk_i, vkk_r, vkk_l, vkk_d, catS_nil, catS_i, catS_r, catS_l, catS_d, Nat.reduceAdd, Nat.reduceLeDiff, Nat.zero_le, Nat.le_refl, Option.bind_some, Option.toList_some, Option.toList_none, List.cons_append, List.nil_append, or_true, true_or, if_true, if_false, Int32.reduceLT, Int32.reduceLE, not_true, not_false_iff, true_and, and_true, false_and, and_false]
theorem y136_k7 (h : VG) (m : Nat) (F : List Value) (l : List VE) (s : Nat) (L : VL) (f : Nat → Int64) (hF : F.map vtag = vShape 11) (hk : F[9]? = some (.ref (m + 7))) (hl : l[6]? = some (.inl (1, 14, .inr (.inl f)))) : ev 136 594 (some (.ref m) :: L) [] (hbk h m (.inr (11, F) :: l) s) = ev 136 616 (some (.ref m) :: L) [] (hbk h m (.inr (11, F) :: l.set 6 (.inl (1, 14, .inr (.inl (vp_updL f 7 10266284))))) s) := by
  have kk := c_letters (hbk h m (.inr (11, F) :: l) s) 115 104 111 114 116 0 0
  rw [show mLet 115 104 111 114 116 0 0 = 10266284 from by decide] at kk
  have cl : (hbk h m (.inr (11, F) :: l) s).1 (m + 7) = .inl (1, 14, .inr (.inl f)) := hbk_get (i := 7) (by rw [List.getElem?_cons_succ]; exact hl)
  have oo : ob (hbk h m (.inr (11, F) :: l) s) m 11 := hbk_ob hF
  have gv : gV (hbk h m (.inr (11, F) :: l) s) m 9 = .ref (m + 7) := by
    unfold gV
    rw [show (hbk h m (.inr (11, F) :: l) s).1 m = .inr (11, F) from hbk_get (i := 0) rfl]
    show (F[9]?).getD _ = _
    rw [hk]
    rfl
  have rr : isR (hbk h m (.inr (11, F) :: l) s) m 9 := ⟨_, gv⟩
  have gr : gR (hbk h m (.inr (11, F) :: l) s) m 9 = m + 7 := by unfold gR; rw [gv]
  have aa : arL (hbk h m (.inr (11, F) :: l) s) (m + 7) := ⟨14, f, cl⟩
  have an : aln (hbk h m (.inr (11, F) :: l) s) (m + 7) = 14 := by unfold aln; rw [cl]
  have hlt : 6 < l.length := (List.getElem?_eq_some_iff.mp hl).1
  have ww : wL (hbk h m (.inr (11, F) :: l) s) (m + 7) 7 10266284 = hbk h m (.inr (11, F) :: l.set 6 (.inl (1, 14, .inr (.inl (vp_updL f 7 10266284))))) s := by
    unfold wL
    rw [cl]
    show hset _ (m + 7) _ = _
    rw [hbk_set (i := 7) _ (by rw [List.length_cons]; omega), List.set_cons_succ]
  have vi : vp_in 7 14 := (vp_in_nI (n := 7) (by omega) (by decide) : vp_in (nI 7) 14)
  have ci : (7 : Int32).toNatClampNeg = 7 := by decide
  generalize hbk h m (.inr (11, F) :: l.set 6 (.inl (1, 14, .inr (.inl (vp_updL f 7 10266284))))) s = H2 at *
  generalize hbk h m (.inr (11, F) :: l) s = H at *
  simp +decide only [e136_594, e136_595, e136_598, e136_600, e136_602, e136_604, e136_606, e136_608, e136_610, e136_611, e136_612, e136_615, kk, oo, rr, gr, aa, an, ww, vi, ci, vkk_n, vkk_i, vkk_r, vkk_l, vkk_d, catS_nil, catS_i, catS_r, catS_l, catS_d, Nat.reduceAdd, Nat.reduceLeDiff, Nat.zero_le, Nat.le_refl, Option.bind_some, Option.toList_some, Option.toList_none, List.cons_append, List.nil_append, or_true, true_or, if_true, if_false, Int32.reduceLT, Int32.reduceLE, not_true, not_false_iff, true_and, and_true, false_and, and_false]
theorem y136_k8 (h : VG) (m : Nat) (F : List Value) (l : List VE) (s : Nat) (L : VL) (f : Nat → Int64) (hF : F.map vtag = vShape 11) (hk : F[9]? = some (.ref (m + 7))) (hl : l[6]? = some (.inl (1, 14, .inr (.inl f)))) : ev 136 616 (some (.ref m) :: L) [] (hbk h m (.inr (11, F) :: l) s) = ev 136 636 (some (.ref m) :: L) [] (hbk h m (.inr (11, F) :: l.set 6 (.inl (1, 14, .inr (.inl (vp_updL f 8 6959))))) s) := by
  have kk := c_letters (hbk h m (.inr (11, F) :: l) s) 105 110 116 0 0 0 0
  rw [show mLet 105 110 116 0 0 0 0 = 6959 from by decide] at kk
  have cl : (hbk h m (.inr (11, F) :: l) s).1 (m + 7) = .inl (1, 14, .inr (.inl f)) := hbk_get (i := 7) (by rw [List.getElem?_cons_succ]; exact hl)
  have oo : ob (hbk h m (.inr (11, F) :: l) s) m 11 := hbk_ob hF
  have gv : gV (hbk h m (.inr (11, F) :: l) s) m 9 = .ref (m + 7) := by
    unfold gV
    rw [show (hbk h m (.inr (11, F) :: l) s).1 m = .inr (11, F) from hbk_get (i := 0) rfl]
    show (F[9]?).getD _ = _
    rw [hk]
    rfl
  have rr : isR (hbk h m (.inr (11, F) :: l) s) m 9 := ⟨_, gv⟩
  have gr : gR (hbk h m (.inr (11, F) :: l) s) m 9 = m + 7 := by unfold gR; rw [gv]
  have aa : arL (hbk h m (.inr (11, F) :: l) s) (m + 7) := ⟨14, f, cl⟩
  have an : aln (hbk h m (.inr (11, F) :: l) s) (m + 7) = 14 := by unfold aln; rw [cl]
  have hlt : 6 < l.length := (List.getElem?_eq_some_iff.mp hl).1
  have ww : wL (hbk h m (.inr (11, F) :: l) s) (m + 7) 8 6959 = hbk h m (.inr (11, F) :: l.set 6 (.inl (1, 14, .inr (.inl (vp_updL f 8 6959))))) s := by
    unfold wL
    rw [cl]
    show hset _ (m + 7) _ = _
    rw [hbk_set (i := 7) _ (by rw [List.length_cons]; omega), List.set_cons_succ]
  have vi : vp_in 8 14 := (vp_in_nI (n := 8) (by omega) (by decide) : vp_in (nI 8) 14)
  have ci : (8 : Int32).toNatClampNeg = 8 := by decide
  generalize hbk h m (.inr (11, F) :: l.set 6 (.inl (1, 14, .inr (.inl (vp_updL f 8 6959))))) s = H2 at *
  generalize hbk h m (.inr (11, F) :: l) s = H at *
  simp +decide only [e136_616, e136_617, e136_620, e136_622, e136_624, e136_626, e136_628, e136_629, e136_630, e136_631, e136_632, e136_635, kk, oo, rr, gr, aa, an, ww, vi, ci, vkk_n, vkk_i, vkk_r, vkk_l, vkk_d, catS_nil, catS_i, catS_r, catS_l, catS_d, Nat.reduceAdd, Nat.reduceLeDiff, Nat.zero_le, Nat.le_refl, Option.bind_some, Option.toList_some, Option.toList_none, List.cons_append, List.nil_append, or_true, true_or, if_true, if_false, Int32.reduceLT, Int32.reduceLE, not_true, not_false_iff, true_and, and_true, false_and, and_false]
theorem y136_k9 (h : VG) (m : Nat) (F : List Value) (l : List VE) (s : Nat) (L : VL) (f : Nat → Int64) (hF : F.map vtag = vShape 11) (hk : F[9]? = some (.ref (m + 7))) (hl : l[6]? = some (.inl (1, 14, .inr (.inl f)))) : ev 136 636 (some (.ref m) :: L) [] (hbk h m (.inr (11, F) :: l) s) = ev 136 657 (some (.ref m) :: L) [] (hbk h m (.inr (11, F) :: l.set 6 (.inl (1, 14, .inr (.inl (vp_updL f 9 247516))))) s) := by
  have kk := c_letters (hbk h m (.inr (11, F) :: l) s) 108 111 110 103 0 0 0
  rw [show mLet 108 111 110 103 0 0 0 = 247516 from by decide] at kk
  have cl : (hbk h m (.inr (11, F) :: l) s).1 (m + 7) = .inl (1, 14, .inr (.inl f)) := hbk_get (i := 7) (by rw [List.getElem?_cons_succ]; exact hl)
  have oo : ob (hbk h m (.inr (11, F) :: l) s) m 11 := hbk_ob hF
  have gv : gV (hbk h m (.inr (11, F) :: l) s) m 9 = .ref (m + 7) := by
    unfold gV
    rw [show (hbk h m (.inr (11, F) :: l) s).1 m = .inr (11, F) from hbk_get (i := 0) rfl]
    show (F[9]?).getD _ = _
    rw [hk]
    rfl
  have rr : isR (hbk h m (.inr (11, F) :: l) s) m 9 := ⟨_, gv⟩
  have gr : gR (hbk h m (.inr (11, F) :: l) s) m 9 = m + 7 := by unfold gR; rw [gv]
  have aa : arL (hbk h m (.inr (11, F) :: l) s) (m + 7) := ⟨14, f, cl⟩
  have an : aln (hbk h m (.inr (11, F) :: l) s) (m + 7) = 14 := by unfold aln; rw [cl]
  have hlt : 6 < l.length := (List.getElem?_eq_some_iff.mp hl).1
  have ww : wL (hbk h m (.inr (11, F) :: l) s) (m + 7) 9 247516 = hbk h m (.inr (11, F) :: l.set 6 (.inl (1, 14, .inr (.inl (vp_updL f 9 247516))))) s := by
    unfold wL
    rw [cl]
    show hset _ (m + 7) _ = _
    rw [hbk_set (i := 7) _ (by rw [List.length_cons]; omega), List.set_cons_succ]
  have vi : vp_in 9 14 := (vp_in_nI (n := 9) (by omega) (by decide) : vp_in (nI 9) 14)
  have ci : (9 : Int32).toNatClampNeg = 9 := by decide
  generalize hbk h m (.inr (11, F) :: l.set 6 (.inl (1, 14, .inr (.inl (vp_updL f 9 247516))))) s = H2 at *
  generalize hbk h m (.inr (11, F) :: l) s = H at *
  simp +decide only [e136_636, e136_637, e136_640, e136_642, e136_644, e136_646, e136_648, e136_650, e136_651, e136_652, e136_653, e136_656, kk, oo, rr, gr, aa, an, ww, vi, ci, vkk_n, vkk_i, vkk_r, vkk_l, vkk_d, catS_nil, catS_i, catS_r, catS_l, catS_d, Nat.reduceAdd, Nat.reduceLeDiff, Nat.zero_le, Nat.le_refl, Option.bind_some, Option.toList_some, Option.toList_none, List.cons_append, List.nil_append, or_true, true_or, if_true, if_false, Int32.reduceLT, Int32.reduceLE, not_true, not_false_iff, true_and, and_true, false_and, and_false]
theorem y136_k10 (h : VG) (m : Nat) (F : List Value) (l : List VE) (s : Nat) (L : VL) (f : Nat → Int64) (hF : F.map vtag = vShape 11) (hk : F[9]? = some (.ref (m + 7))) (hl : l[6]? = some (.inl (1, 14, .inr (.inl f)))) : ev 136 657 (some (.ref m) :: L) [] (hbk h m (.inr (11, F) :: l) s) = ev 136 679 (some (.ref m) :: L) [] (hbk h m (.inr (11, F) :: l.set 6 (.inl (1, 14, .inr (.inl (vp_updL f 10 3435824))))) s) := by
  have kk := c_letters (hbk h m (.inr (11, F) :: l) s) 102 108 111 97 116 0 0
  rw [show mLet 102 108 111 97 116 0 0 = 3435824 from by decide] at kk
  have cl : (hbk h m (.inr (11, F) :: l) s).1 (m + 7) = .inl (1, 14, .inr (.inl f)) := hbk_get (i := 7) (by rw [List.getElem?_cons_succ]; exact hl)
  have oo : ob (hbk h m (.inr (11, F) :: l) s) m 11 := hbk_ob hF
  have gv : gV (hbk h m (.inr (11, F) :: l) s) m 9 = .ref (m + 7) := by
    unfold gV
    rw [show (hbk h m (.inr (11, F) :: l) s).1 m = .inr (11, F) from hbk_get (i := 0) rfl]
    show (F[9]?).getD _ = _
    rw [hk]
    rfl
  have rr : isR (hbk h m (.inr (11, F) :: l) s) m 9 := ⟨_, gv⟩
  have gr : gR (hbk h m (.inr (11, F) :: l) s) m 9 = m + 7 := by unfold gR; rw [gv]
  have aa : arL (hbk h m (.inr (11, F) :: l) s) (m + 7) := ⟨14, f, cl⟩
  have an : aln (hbk h m (.inr (11, F) :: l) s) (m + 7) = 14 := by unfold aln; rw [cl]
  have hlt : 6 < l.length := (List.getElem?_eq_some_iff.mp hl).1
  have ww : wL (hbk h m (.inr (11, F) :: l) s) (m + 7) 10 3435824 = hbk h m (.inr (11, F) :: l.set 6 (.inl (1, 14, .inr (.inl (vp_updL f 10 3435824))))) s := by
    unfold wL
    rw [cl]
    show hset _ (m + 7) _ = _
    rw [hbk_set (i := 7) _ (by rw [List.length_cons]; omega), List.set_cons_succ]
  have vi : vp_in 10 14 := (vp_in_nI (n := 10) (by omega) (by decide) : vp_in (nI 10) 14)
  have ci : (10 : Int32).toNatClampNeg = 10 := by decide
  generalize hbk h m (.inr (11, F) :: l.set 6 (.inl (1, 14, .inr (.inl (vp_updL f 10 3435824))))) s = H2 at *
  generalize hbk h m (.inr (11, F) :: l) s = H at *
  simp +decide only [e136_657, e136_658, e136_661, e136_663, e136_665, e136_667, e136_669, e136_671, e136_673, e136_674, e136_675, e136_678, kk, oo, rr, gr, aa, an, ww, vi, ci, vkk_n, vkk_i, vkk_r, vkk_l, vkk_d, catS_nil, catS_i, catS_r, catS_l, catS_d, Nat.reduceAdd, Nat.reduceLeDiff, Nat.zero_le, Nat.le_refl, Option.bind_some, Option.toList_some, Option.toList_none, List.cons_append, List.nil_append, or_true, true_or, if_true, if_false, Int32.reduceLT, Int32.reduceLE, not_true, not_false_iff, true_and, and_true, false_and, and_false]
theorem y136_k11 (h : VG) (m : Nat) (F : List Value) (l : List VE) (s : Nat) (L : VL) (f : Nat → Int64) (hF : F.map vtag = vShape 11) (hk : F[9]? = some (.ref (m + 7))) (hl : l[6]? = some (.inl (1, 14, .inr (.inl f)))) : ev 136 679 (some (.ref m) :: L) [] (hbk h m (.inr (11, F) :: l) s) = ev 136 702 (some (.ref m) :: L) [] (hbk h m (.inr (11, F) :: l.set 6 (.inl (1, 14, .inr (.inl (vp_updL f 11 65782373))))) s) := by
  have kk := c_letters (hbk h m (.inr (11, F) :: l) s) 100 111 117 98 108 101 0
  rw [show mLet 100 111 117 98 108 101 0 = 65782373 from by decide] at kk
  have cl : (hbk h m (.inr (11, F) :: l) s).1 (m + 7) = .inl (1, 14, .inr (.inl f)) := hbk_get (i := 7) (by rw [List.getElem?_cons_succ]; exact hl)
  have oo : ob (hbk h m (.inr (11, F) :: l) s) m 11 := hbk_ob hF
  have gv : gV (hbk h m (.inr (11, F) :: l) s) m 9 = .ref (m + 7) := by
    unfold gV
    rw [show (hbk h m (.inr (11, F) :: l) s).1 m = .inr (11, F) from hbk_get (i := 0) rfl]
    show (F[9]?).getD _ = _
    rw [hk]
    rfl
  have rr : isR (hbk h m (.inr (11, F) :: l) s) m 9 := ⟨_, gv⟩
  have gr : gR (hbk h m (.inr (11, F) :: l) s) m 9 = m + 7 := by unfold gR; rw [gv]
  have aa : arL (hbk h m (.inr (11, F) :: l) s) (m + 7) := ⟨14, f, cl⟩
  have an : aln (hbk h m (.inr (11, F) :: l) s) (m + 7) = 14 := by unfold aln; rw [cl]
  have hlt : 6 < l.length := (List.getElem?_eq_some_iff.mp hl).1
  have ww : wL (hbk h m (.inr (11, F) :: l) s) (m + 7) 11 65782373 = hbk h m (.inr (11, F) :: l.set 6 (.inl (1, 14, .inr (.inl (vp_updL f 11 65782373))))) s := by
    unfold wL
    rw [cl]
    show hset _ (m + 7) _ = _
    rw [hbk_set (i := 7) _ (by rw [List.length_cons]; omega), List.set_cons_succ]
  have vi : vp_in 11 14 := (vp_in_nI (n := 11) (by omega) (by decide) : vp_in (nI 11) 14)
  have ci : (11 : Int32).toNatClampNeg = 11 := by decide
  generalize hbk h m (.inr (11, F) :: l.set 6 (.inl (1, 14, .inr (.inl (vp_updL f 11 65782373))))) s = H2 at *
  generalize hbk h m (.inr (11, F) :: l) s = H at *
  simp +decide only [e136_679, e136_680, e136_683, e136_685, e136_687, e136_689, e136_691, e136_693, e136_695, e136_697, e136_698, e136_701, kk, oo, rr, gr, aa, an, ww, vi, ci, vkk_n, vkk_i, vkk_r, vkk_l, vkk_d, catS_nil, catS_i, catS_r, catS_l, catS_d, Nat.reduceAdd, Nat.reduceLeDiff, Nat.zero_le, Nat.le_refl, Option.bind_some, Option.toList_some, Option.toList_none, List.cons_append, List.nil_append, or_true, true_or, if_true, if_false, Int32.reduceLT, Int32.reduceLE, not_true, not_false_iff, true_and, and_true, false_and, and_false]
theorem y136_k12 (h : VG) (m : Nat) (F : List Value) (l : List VE) (s : Nat) (L : VL) (f : Nat → Int64) (hF : F.map vtag = vShape 11) (hk : F[9]? = some (.ref (m + 7))) (hl : l[6]? = some (.inl (1, 14, .inr (.inl f)))) : ev 136 702 (some (.ref m) :: L) [] (hbk h m (.inr (11, F) :: l) s) = ev 136 723 (some (.ref m) :: L) [] (hbk h m (.inr (11, F) :: l.set 6 (.inl (1, 14, .inr (.inl (vp_updL f 12 349951))))) s) := by
  have kk := c_letters (hbk h m (.inr (11, F) :: l) s) 113 117 97 100 0 0 0
  rw [show mLet 113 117 97 100 0 0 0 = 349951 from by decide] at kk
  have cl : (hbk h m (.inr (11, F) :: l) s).1 (m + 7) = .inl (1, 14, .inr (.inl f)) := hbk_get (i := 7) (by rw [List.getElem?_cons_succ]; exact hl)
  have oo : ob (hbk h m (.inr (11, F) :: l) s) m 11 := hbk_ob hF
  have gv : gV (hbk h m (.inr (11, F) :: l) s) m 9 = .ref (m + 7) := by
    unfold gV
    rw [show (hbk h m (.inr (11, F) :: l) s).1 m = .inr (11, F) from hbk_get (i := 0) rfl]
    show (F[9]?).getD _ = _
    rw [hk]
    rfl
  have rr : isR (hbk h m (.inr (11, F) :: l) s) m 9 := ⟨_, gv⟩
  have gr : gR (hbk h m (.inr (11, F) :: l) s) m 9 = m + 7 := by unfold gR; rw [gv]
  have aa : arL (hbk h m (.inr (11, F) :: l) s) (m + 7) := ⟨14, f, cl⟩
  have an : aln (hbk h m (.inr (11, F) :: l) s) (m + 7) = 14 := by unfold aln; rw [cl]
  have hlt : 6 < l.length := (List.getElem?_eq_some_iff.mp hl).1
  have ww : wL (hbk h m (.inr (11, F) :: l) s) (m + 7) 12 349951 = hbk h m (.inr (11, F) :: l.set 6 (.inl (1, 14, .inr (.inl (vp_updL f 12 349951))))) s := by
    unfold wL
    rw [cl]
    show hset _ (m + 7) _ = _
    rw [hbk_set (i := 7) _ (by rw [List.length_cons]; omega), List.set_cons_succ]
  have vi : vp_in 12 14 := (vp_in_nI (n := 12) (by omega) (by decide) : vp_in (nI 12) 14)
  have ci : (12 : Int32).toNatClampNeg = 12 := by decide
  generalize hbk h m (.inr (11, F) :: l.set 6 (.inl (1, 14, .inr (.inl (vp_updL f 12 349951))))) s = H2 at *
  generalize hbk h m (.inr (11, F) :: l) s = H at *
  simp +decide only [e136_702, e136_703, e136_706, e136_708, e136_710, e136_712, e136_714, e136_716, e136_717, e136_718, e136_719, e136_722, kk, oo, rr, gr, aa, an, ww, vi, ci, vkk_n, vkk_i, vkk_r, vkk_l, vkk_d, catS_nil, catS_i, catS_r, catS_l, catS_d, Nat.reduceAdd, Nat.reduceLeDiff, Nat.zero_le, Nat.le_refl, Option.bind_some, Option.toList_some, Option.toList_none, List.cons_append, List.nil_append, or_true, true_or, if_true, if_false, Int32.reduceLT, Int32.reduceLE, not_true, not_false_iff, true_and, and_true, false_and, and_false]
theorem y136_k13 (h : VG) (m : Nat) (F : List Value) (l : List VE) (s : Nat) (L : VL) (f : Nat → Int64) (hF : F.map vtag = vShape 11) (hk : F[9]? = some (.ref (m + 7))) (hl : l[6]? = some (.inl (1, 14, .inr (.inl f)))) : ev 136 723 (some (.ref m) :: L) [] (hbk h m (.inr (11, F) :: l) s) = ev 136 743 (some (.ref m) :: L) [] (hbk h m (.inr (11, F) :: l.set 6 (.inl (1, 14, .inr (.inl (vp_updL f 13 12222))))) s) := by
  have kk := c_letters (hbk h m (.inr (11, F) :: l) s) 112 116 114 0 0 0 0
  rw [show mLet 112 116 114 0 0 0 0 = 12222 from by decide] at kk
  have cl : (hbk h m (.inr (11, F) :: l) s).1 (m + 7) = .inl (1, 14, .inr (.inl f)) := hbk_get (i := 7) (by rw [List.getElem?_cons_succ]; exact hl)
  have oo : ob (hbk h m (.inr (11, F) :: l) s) m 11 := hbk_ob hF
  have gv : gV (hbk h m (.inr (11, F) :: l) s) m 9 = .ref (m + 7) := by
    unfold gV
    rw [show (hbk h m (.inr (11, F) :: l) s).1 m = .inr (11, F) from hbk_get (i := 0) rfl]
    show (F[9]?).getD _ = _
    rw [hk]
    rfl
  have rr : isR (hbk h m (.inr (11, F) :: l) s) m 9 := ⟨_, gv⟩
  have gr : gR (hbk h m (.inr (11, F) :: l) s) m 9 = m + 7 := by unfold gR; rw [gv]
  have aa : arL (hbk h m (.inr (11, F) :: l) s) (m + 7) := ⟨14, f, cl⟩
  have an : aln (hbk h m (.inr (11, F) :: l) s) (m + 7) = 14 := by unfold aln; rw [cl]
  have hlt : 6 < l.length := (List.getElem?_eq_some_iff.mp hl).1
  have ww : wL (hbk h m (.inr (11, F) :: l) s) (m + 7) 13 12222 = hbk h m (.inr (11, F) :: l.set 6 (.inl (1, 14, .inr (.inl (vp_updL f 13 12222))))) s := by
    unfold wL
    rw [cl]
    show hset _ (m + 7) _ = _
    rw [hbk_set (i := 7) _ (by rw [List.length_cons]; omega), List.set_cons_succ]
  have vi : vp_in 13 14 := (vp_in_nI (n := 13) (by omega) (by decide) : vp_in (nI 13) 14)
  have ci : (13 : Int32).toNatClampNeg = 13 := by decide
  generalize hbk h m (.inr (11, F) :: l.set 6 (.inl (1, 14, .inr (.inl (vp_updL f 13 12222))))) s = H2 at *
  generalize hbk h m (.inr (11, F) :: l) s = H at *
  simp +decide only [e136_723, e136_724, e136_727, e136_729, e136_731, e136_733, e136_735, e136_736, e136_737, e136_738, e136_739, e136_742, kk, oo, rr, gr, aa, an, ww, vi, ci, vkk_n, vkk_i, vkk_r, vkk_l, vkk_d, catS_nil, catS_i, catS_r, catS_l, catS_d, Nat.reduceAdd, Nat.reduceLeDiff, Nat.zero_le, Nat.le_refl, Option.bind_some, Option.toList_some, Option.toList_none, List.cons_append, List.nil_append, or_true, true_or, if_true, if_false, Int32.reduceLT, Int32.reduceLE, not_true, not_false_iff, true_and, and_true, false_and, and_false]
def keyF : Nat → Int64 := (vp_updL (vp_updL (vp_updL (vp_updL (vp_updL (vp_updL (vp_updL (vp_updL (vp_updL (vp_updL (vp_updL (vp_updL (vp_updL (vp_updL (fun _ => 0) 0 1708) 1 243140) 2 129532) 3 124995) 4 126880) 5 58136) 6 64926) 7 10266284) 8 6959) 9 247516) 10 3435824) 11 65782373) 12 349951) 13 12222)
theorem y136_s (h : VG) (m : Nat) (F : List Value) (l : List VE) (s : Nat) (hF : F.map vtag = vShape 11) (hk : F[42]? = some (.ref (m + 19))) : ∀ d i f, i + d = 8 → l[18]? = some (.inl (0, 8, .inl f)) → ∃ f2, ev 136 745 [some (.ref m), some (.int (nI i))] [] (hbk h m (.inr (11, F) :: l) s) = some (none, hbk h m (.inr (11, F) :: l.set 18 (.inl (0, 8, .inl f2))) s) ∧ (∀ j, j < i → f2 j = f j) ∧ ∀ j, i ≤ j → j < 8 → f2 j = 11 := by
  intro d
  induction d generalizing l with
  | zero =>
    intro i f hd hl
    obtain rfl : i = 8 := by omega
    have q : ¬ nI 8 < 8 := by decide
    refine ⟨f, ?_, fun _ _ => rfl, fun j a b => by omega⟩
    have hlt : 18 < l.length := (List.getElem?_eq_some_iff.mp hl).1
    have e : l.set 18 (.inl (0, 8, .inl f)) = l := by
      apply List.ext_getElem?
      intro i
      by_cases y : i = 18
      · subst y
        rw [List.getElem?_set_self hlt, hl]
      · rw [List.getElem?_set_ne (by omega)]
    rw [e]
    simp +decide only [e136_745, e136_746, e136_748, e136_765, q, vkk_n, vkk_i, vkk_r, vkk_l, vkk_d, catS_nil, catS_i, catS_r, catS_l, catS_d, Nat.reduceAdd, Nat.reduceLeDiff, Nat.zero_le, Nat.le_refl, Option.bind_some, Option.toList_some, Option.toList_none, List.cons_append, List.nil_append, or_true, true_or, if_true, if_false, Int32.reduceLT, Int32.reduceLE, not_true, not_false_iff, true_and, and_true, false_and, and_false]
  | succ d ih =>
    intro i f hd hl
    have hlt : 18 < l.length := (List.getElem?_eq_some_iff.mp hl).1
    have q : nI i < 8 := nI_lt (b := 8) (by omega) (by decide)
    obtain ⟨f2, u1, u2, u3⟩ := ih (l.set 18 (.inl (0, 8, .inl (upd f i 11)))) (i + 1) (upd f i 11) (by omega) (List.getElem?_set_self hlt)
    refine ⟨f2, ?_, fun j hj => ?_, fun j a b => ?_⟩
    · rw [List.set_set] at u1
      rw [← u1]
      have cl : (hbk h m (.inr (11, F) :: l) s).1 (m + 19) = .inl (0, 8, .inl f) := hbk_get (i := 19) (by rw [List.getElem?_cons_succ]; exact hl)
      have oo : ob (hbk h m (.inr (11, F) :: l) s) m 11 := hbk_ob hF
      have gv : gV (hbk h m (.inr (11, F) :: l) s) m 42 = .ref (m + 19) := by
        unfold gV
        rw [show (hbk h m (.inr (11, F) :: l) s).1 m = .inr (11, F) from hbk_get (i := 0) rfl]
        show (F[42]?).getD _ = _
        rw [hk]
        rfl
      have rr : isR (hbk h m (.inr (11, F) :: l) s) m 42 := ⟨_, gv⟩
      have gr : gR (hbk h m (.inr (11, F) :: l) s) m 42 = m + 19 := by unfold gR; rw [gv]
      have aa : arI (hbk h m (.inr (11, F) :: l) s) (m + 19) 0 := ⟨8, f, cl⟩
      have an : aln (hbk h m (.inr (11, F) :: l) s) (m + 19) = 8 := by unfold aln; rw [cl]
      have v1 : vp_in (nI i) 8 := vp_in_nI (by omega) (by decide)
      have v2 : (nI i).toNatClampNeg = i := nI_clamp (by omega)
      have ww : wI (hbk h m (.inr (11, F) :: l) s) (m + 19) i 11 = hbk h m (.inr (11, F) :: l.set 18 (.inl (0, 8, .inl (upd f i 11)))) s := by
        unfold wI
        rw [cl]
        show hset _ (m + 19) _ = _
        rw [hbk_set (i := 19) _ (by rw [List.length_cons]; omega), List.set_cons_succ]
      generalize hbk h m (.inr (11, F) :: l.set 18 (.inl (0, 8, .inl (upd f i 11)))) s = H2 at *
      generalize hbk h m (.inr (11, F) :: l) s = H at *
      generalize hZ : ev 136 745 [some (.ref m), some (.int (nI (i + 1)))] [] H2 = Z
      simp +decide only [e136_745, e136_746, e136_748, e136_765, q, vkk_n, vkk_i, vkk_r, vkk_l, vkk_d, catS_nil, catS_i, catS_r, catS_l, catS_d, Nat.reduceAdd, Nat.reduceLeDiff, Nat.zero_le, Nat.le_refl, Option.bind_some, Option.toList_some, Option.toList_none, List.cons_append, List.nil_append, or_true, true_or, if_true, if_false, Int32.reduceLT, Int32.reduceLE, not_true, not_false_iff, true_and, and_true, false_and, and_false]
      simp +decide only [e136_751, e136_752, e136_755, e136_756, e136_758, e136_759, e136_762, oo, rr, gr, aa, an, v1, v2, ww, nI_1, nI_add, vkk_n, vkk_i, vkk_r, vkk_l, vkk_d, catS_nil, catS_i, catS_r, catS_l, catS_d, Nat.reduceAdd, Nat.reduceLeDiff, Nat.zero_le, Nat.le_refl, Option.bind_some, Option.toList_some, Option.toList_none, List.cons_append, List.nil_append, or_true, true_or, if_true, if_false, Int32.reduceLT, Int32.reduceLE, not_true, not_false_iff, true_and, and_true, false_and, and_false]
      exact hZ
    · rw [u2 j (by omega)]
      show (if j = i then _ else _) = _
      rw [if_neg (by omega)]
    · by_cases y : j = i
      · rw [u2 j (by omega), y]
        show (if i = i then _ else _) = _
        rw [if_pos rfl]
      · exact u3 j (by omega) b
def modK (f : Nat → Int32) : List VE := (modR.set 6 (.inl (1, 14, .inr (.inl keyF)))).set 18 (.inl (0, 8, .inl f))
set_option maxRecDepth 40000 in
theorem ini_mod (h : VG) (m : Nat) (h1 : h.2.1 = m + 1) (h2 : h.1 m = .inr (11, vDef 11)) : ∃ f, (∀ j, j < 8 → f j = 11) ∧ ev 136 0 [some (.ref m), none] [] h = some (none, hbk h m (.inr (11, modF m) :: modK f) 13046) := by
  have e := hbk_one h1 h2
  rw [vdef_11] at e
  obtain ⟨a1, a2⟩ := ini_modA h m [none]
  have b0 := y136_k0 h m (modF m) (modR) 13046 [none] (fun _ => 0) a2 rfl rfl
  have b1 := y136_k1 h m (modF m) ((modR).set 6 (.inl (1, 14, .inr (.inl (vp_updL (fun _ => 0) 0 1708))))) 13046 [none] (vp_updL (fun _ => 0) 0 1708) a2 rfl rfl
  rw [List.set_set] at b1
  have b2 := y136_k2 h m (modF m) ((modR).set 6 (.inl (1, 14, .inr (.inl (vp_updL (vp_updL (fun _ => 0) 0 1708) 1 243140))))) 13046 [none] (vp_updL (vp_updL (fun _ => 0) 0 1708) 1 243140) a2 rfl rfl
  rw [List.set_set] at b2
  have b3 := y136_k3 h m (modF m) ((modR).set 6 (.inl (1, 14, .inr (.inl (vp_updL (vp_updL (vp_updL (fun _ => 0) 0 1708) 1 243140) 2 129532))))) 13046 [none] (vp_updL (vp_updL (vp_updL (fun _ => 0) 0 1708) 1 243140) 2 129532) a2 rfl rfl
  rw [List.set_set] at b3
  have b4 := y136_k4 h m (modF m) ((modR).set 6 (.inl (1, 14, .inr (.inl (vp_updL (vp_updL (vp_updL (vp_updL (fun _ => 0) 0 1708) 1 243140) 2 129532) 3 124995))))) 13046 [none] (vp_updL (vp_updL (vp_updL (vp_updL (fun _ => 0) 0 1708) 1 243140) 2 129532) 3 124995) a2 rfl rfl
  rw [List.set_set] at b4
  have b5 := y136_k5 h m (modF m) ((modR).set 6 (.inl (1, 14, .inr (.inl (vp_updL (vp_updL (vp_updL (vp_updL (vp_updL (fun _ => 0) 0 1708) 1 243140) 2 129532) 3 124995) 4 126880))))) 13046 [none] (vp_updL (vp_updL (vp_updL (vp_updL (vp_updL (fun _ => 0) 0 1708) 1 243140) 2 129532) 3 124995) 4 126880) a2 rfl rfl
  rw [List.set_set] at b5
  have b6 := y136_k6 h m (modF m) ((modR).set 6 (.inl (1, 14, .inr (.inl (vp_updL (vp_updL (vp_updL (vp_updL (vp_updL (vp_updL (fun _ => 0) 0 1708) 1 243140) 2 129532) 3 124995) 4 126880) 5 58136))))) 13046 [none] (vp_updL (vp_updL (vp_updL (vp_updL (vp_updL (vp_updL (fun _ => 0) 0 1708) 1 243140) 2 129532) 3 124995) 4 126880) 5 58136) a2 rfl rfl
  rw [List.set_set] at b6
  have b7 := y136_k7 h m (modF m) ((modR).set 6 (.inl (1, 14, .inr (.inl (vp_updL (vp_updL (vp_updL (vp_updL (vp_updL (vp_updL (vp_updL (fun _ => 0) 0 1708) 1 243140) 2 129532) 3 124995) 4 126880) 5 58136) 6 64926))))) 13046 [none] (vp_updL (vp_updL (vp_updL (vp_updL (vp_updL (vp_updL (vp_updL (fun _ => 0) 0 1708) 1 243140) 2 129532) 3 124995) 4 126880) 5 58136) 6 64926) a2 rfl rfl
  rw [List.set_set] at b7
  have b8 := y136_k8 h m (modF m) ((modR).set 6 (.inl (1, 14, .inr (.inl (vp_updL (vp_updL (vp_updL (vp_updL (vp_updL (vp_updL (vp_updL (vp_updL (fun _ => 0) 0 1708) 1 243140) 2 129532) 3 124995) 4 126880) 5 58136) 6 64926) 7 10266284))))) 13046 [none] (vp_updL (vp_updL (vp_updL (vp_updL (vp_updL (vp_updL (vp_updL (vp_updL (fun _ => 0) 0 1708) 1 243140) 2 129532) 3 124995) 4 126880) 5 58136) 6 64926) 7 10266284) a2 rfl rfl
  rw [List.set_set] at b8
  have b9 := y136_k9 h m (modF m) ((modR).set 6 (.inl (1, 14, .inr (.inl (vp_updL (vp_updL (vp_updL (vp_updL (vp_updL (vp_updL (vp_updL (vp_updL (vp_updL (fun _ => 0) 0 1708) 1 243140) 2 129532) 3 124995) 4 126880) 5 58136) 6 64926) 7 10266284) 8 6959))))) 13046 [none] (vp_updL (vp_updL (vp_updL (vp_updL (vp_updL (vp_updL (vp_updL (vp_updL (vp_updL (fun _ => 0) 0 1708) 1 243140) 2 129532) 3 124995) 4 126880) 5 58136) 6 64926) 7 10266284) 8 6959) a2 rfl rfl
  rw [List.set_set] at b9
  have b10 := y136_k10 h m (modF m) ((modR).set 6 (.inl (1, 14, .inr (.inl (vp_updL (vp_updL (vp_updL (vp_updL (vp_updL (vp_updL (vp_updL (vp_updL (vp_updL (vp_updL (fun _ => 0) 0 1708) 1 243140) 2 129532) 3 124995) 4 126880) 5 58136) 6 64926) 7 10266284) 8 6959) 9 247516))))) 13046 [none] (vp_updL (vp_updL (vp_updL (vp_updL (vp_updL (vp_updL (vp_updL (vp_updL (vp_updL (vp_updL (fun _ => 0) 0 1708) 1 243140) 2 129532) 3 124995) 4 126880) 5 58136) 6 64926) 7 10266284) 8 6959) 9 247516) a2 rfl rfl
  rw [List.set_set] at b10
  have b11 := y136_k11 h m (modF m) ((modR).set 6 (.inl (1, 14, .inr (.inl (vp_updL (vp_updL (vp_updL (vp_updL (vp_updL (vp_updL (vp_updL (vp_updL (vp_updL (vp_updL (vp_updL (fun _ => 0) 0 1708) 1 243140) 2 129532) 3 124995) 4 126880) 5 58136) 6 64926) 7 10266284) 8 6959) 9 247516) 10 3435824))))) 13046 [none] (vp_updL (vp_updL (vp_updL (vp_updL (vp_updL (vp_updL (vp_updL (vp_updL (vp_updL (vp_updL (vp_updL (fun _ => 0) 0 1708) 1 243140) 2 129532) 3 124995) 4 126880) 5 58136) 6 64926) 7 10266284) 8 6959) 9 247516) 10 3435824) a2 rfl rfl
  rw [List.set_set] at b11
  have b12 := y136_k12 h m (modF m) ((modR).set 6 (.inl (1, 14, .inr (.inl (vp_updL (vp_updL (vp_updL (vp_updL (vp_updL (vp_updL (vp_updL (vp_updL (vp_updL (vp_updL (vp_updL (vp_updL (fun _ => 0) 0 1708) 1 243140) 2 129532) 3 124995) 4 126880) 5 58136) 6 64926) 7 10266284) 8 6959) 9 247516) 10 3435824) 11 65782373))))) 13046 [none] (vp_updL (vp_updL (vp_updL (vp_updL (vp_updL (vp_updL (vp_updL (vp_updL (vp_updL (vp_updL (vp_updL (vp_updL (fun _ => 0) 0 1708) 1 243140) 2 129532) 3 124995) 4 126880) 5 58136) 6 64926) 7 10266284) 8 6959) 9 247516) 10 3435824) 11 65782373) a2 rfl rfl
  rw [List.set_set] at b12
  have b13 := y136_k13 h m (modF m) ((modR).set 6 (.inl (1, 14, .inr (.inl (vp_updL (vp_updL (vp_updL (vp_updL (vp_updL (vp_updL (vp_updL (vp_updL (vp_updL (vp_updL (vp_updL (vp_updL (vp_updL (fun _ => 0) 0 1708) 1 243140) 2 129532) 3 124995) 4 126880) 5 58136) 6 64926) 7 10266284) 8 6959) 9 247516) 10 3435824) 11 65782373) 12 349951))))) 13046 [none] (vp_updL (vp_updL (vp_updL (vp_updL (vp_updL (vp_updL (vp_updL (vp_updL (vp_updL (vp_updL (vp_updL (vp_updL (vp_updL (fun _ => 0) 0 1708) 1 243140) 2 129532) 3 124995) 4 126880) 5 58136) 6 64926) 7 10266284) 8 6959) 9 247516) 10 3435824) 11 65782373) 12 349951) a2 rfl rfl
  rw [List.set_set] at b13
  obtain ⟨f, s1, -, s2⟩ := y136_s h m (modF m) ((modR).set 6 (.inl (1, 14, .inr (.inl (vp_updL (vp_updL (vp_updL (vp_updL (vp_updL (vp_updL (vp_updL (vp_updL (vp_updL (vp_updL (vp_updL (vp_updL (vp_updL (vp_updL (fun _ => 0) 0 1708) 1 243140) 2 129532) 3 124995) 4 126880) 5 58136) 6 64926) 7 10266284) 8 6959) 9 247516) 10 3435824) 11 65782373) 12 349951) 13 12222))))) 13046 a2 rfl 8 0 (fun _ => 0) rfl rfl
  refine ⟨f, fun j hj => s2 j (Nat.zero_le _) hj, ?_⟩
  have e1 : hbk h m [.inr (11, modF0)] 0 = h := e
  have key : ev 136 0 [some (.ref m), none] [] (hbk h m [.inr (11, modF0)] 0) = some (none, hbk h m (.inr (11, modF m) :: modK f) 13046) := by
    have i1 : ev 136 0 [some (.ref m), none] [] (hbk h m [.inr (11, modF0)] 0) = ev 136 4 [some (.ref m), none] [] (hbk h m [.inr (11, modF0)] 0) := by
      simp +decide only [e136_0, e136_1, vkk_n, vkk_i, vkk_r, vkk_l, vkk_d, catS_nil, catS_i, catS_r, catS_l, catS_d, Nat.reduceAdd, Nat.reduceLeDiff, Nat.zero_le, Nat.le_refl, Option.bind_some, Option.toList_some, Option.toList_none, List.cons_append, List.nil_append, or_true, true_or, if_true, if_false, Int32.reduceLT, Int32.reduceLE, not_true, not_false_iff, true_and, and_true, false_and, and_false]
    rw [i1, a1, b0, b1, b2, b3, b4, b5, b6, b7, b8, b9, b10, b11, b12, b13]
    have i2 : ∀ H : VG, ev 136 743 [some (.ref m), none] [] H = ev 136 745 [some (.ref m), some (.int (nI 0))] [] H := fun H => by
      have z : (0 : Int32) = nI 0 := rfl
      simp +decide only [e136_743, e136_744, vkk_n, vkk_i, vkk_r, vkk_l, vkk_d, catS_nil, catS_i, catS_r, catS_l, catS_d, Nat.reduceAdd, Nat.reduceLeDiff, Nat.zero_le, Nat.le_refl, Option.bind_some, Option.toList_some, Option.toList_none, List.cons_append, List.nil_append, or_true, true_or, if_true, if_false, Int32.reduceLT, Int32.reduceLE, not_true, not_false_iff, true_and, and_true, false_and, and_false]
      rfl
    rw [i2, s1]
    rfl
  rw [e1] at key
  exact key
