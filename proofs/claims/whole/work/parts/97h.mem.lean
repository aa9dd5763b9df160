/-! read: members, by the class -/
def mt (T : Nat → Nat) (s0 : Nat) : Nat → Nat
  | 0 => s0
  | j + 1 => if T (mt T s0 j + 1) = 3 then mt T s0 j + 2 else mt T s0 j + 1
def QR (Q a : Nat) : Prop := Q < a ∧ a < Q + 13
def QF (g Q a k : Nat) : Prop := (a = g + 2 ∧ ¬ k = 1 ∧ ¬ k = 2) ∨ (a = Q ∧ (k = 0 ∨ k = 1 ∨ k = 2)) ∨ ((a = Q + 5 ∨ a = Q + 7) ∧ (k = 2 ∨ k = 3))
def QM (g Q a k : Nat) : Prop := (a = g + 2 ∧ ¬ k = 1 ∧ ¬ k = 2) ∨ (a = Q ∧ (k = 1 ∨ k = 2))
def rpT (T V : Nat → Nat) (s : Nat) : Nat := if T s = 3 then (if 1 ≤ V s ∧ V s ≤ 4 then V s else 1) else 1
def wRp (T V : Nat → Nat) (W : Nat × Nat) (s : Nat) : Nat × Nat := if T s = 3 ∧ ¬ (1 ≤ V s ∧ V s ≤ 4) then wN W 5 s else W
def mKk (b : Nat → Nat) (L s0 j : Nat) : Nat := kd b L (mt (tyC b L) s0 j) - 24
/-- the token that tells how many -/
def mr (T : Nat → Nat) (s : Nat) : Nat := if T (s + 1) = 3 then s + 1 else s
def mRr (b : Nat → Nat) (L s0 j : Nat) : Nat := rpT (tyC b L) (vC b L) (mr (tyC b L) (mt (tyC b L) s0 j))
def wM (b : Nat → Nat) (L s0 : Nat) (W : Nat × Nat) : Nat → Nat × Nat
  | 0 => W
  | j + 1 => wRp (tyC b L) (vC b L) (wM b L s0 W j) (mr (tyC b L) (mt (tyC b L) s0 j))
def rMem (T : Nat → Nat) : Nat → Nat → Nat → Nat × Nat
  | 0, _, s => (0, s)
  | d + 1, m, s => if T s = 5 then (if m = 8 then (2, s) else rB (rP T 5 s) fun s1 => rB (if T s1 = 3 then rP T 3 s1 else (0, s1)) fun s2 => rMem T d (m + 1) s2) else (if m = 0 then (1, s) else (0, s))
theorem rpT_b (T V : Nat → Nat) (s : Nat) : 1 ≤ rpT T V s ∧ rpT T V s ≤ 4 := by
  unfold rpT
  (repeat' split) <;> omega
theorem mR_b (b : Nat → Nat) (L s0 j : Nat) : 1 ≤ mRr b L s0 j ∧ mRr b L s0 j ≤ 4 := rpT_b _ _ _
theorem c_repeats {h : VG} {g P L TT s : Nat} {b : Nat → Nat} {W : Nat × Nat} (q : RD h g P b L TT (s + 1)) (hw : WF h g b L W) : ∃ h1, ev 76 0 [some (.ref (g + 2)), none] [] h = some (some (.int (nI (rpT (tyC b L) (vC b L) s))), h1) ∧ Fr NR (fun a k => a = g + 2 ∧ (k = 0 ∨ k = 4)) h h1 ∧ WF h1 g b L (wRp (tyC b L) (vC b L) W s) ∧ RD h1 g P b L TT (s + 1) := by
  have ps := (c_passed q).1
  have nt := c_note (c := 5) q hw (Or.inr rfl)
  have q' := q
  obtain ⟨hs, q2, q3, q4, q5, q6, q7⟩ := q
  obtain ⟨a1, -⟩ := q3 s (by omega)
  have a1 : aI h (g + 4) s = nI (tyC b L s) := a1
  have v1 : vp_in (nI s) 401 := vp_in_nI (by omega) (by decide)
  have v2 : (nI s).toNatClampNeg = s := nI_clamp (by omega)
  have sb : nI (s + 1) - 1 = nI s := by rw [show (1 : Int32) = nI 1 from rfl, pk_sub (by omega)]; rfl
  have tl := ty_lt b L s
  have o7 : ob h (g + 2) 7 := Cls_11 hs.1
  unfold rpT wRp
  by_cases z : tyC b L s = 3
  · obtain ⟨p1, p2⟩ := ps z
    rw [z] at a1
    have a1 : aI h (g + 4) s = 3 := a1
    rw [if_pos z]
    by_cases y1 : 1 ≤ vC b L s
    · have y1' : ¬ nI (vC b L s) < 1 := fun w => by have := (nI_ltI (b := 1) (by omega) (by decide)).mp w; omega
      by_cases y2 : vC b L s ≤ 4
      · have y2' : nI (vC b L s) ≤ 4 := nI_le (b := 4) y2 (by decide)
        rw [if_pos ⟨y1, y2⟩, if_neg (fun w => w.2 ⟨y1, y2⟩)]
        refine ⟨h, ?_, Fr.rfl _, hw, q'⟩
        simp +decide only [e76_0, e76_1, e76_4, e76_7, e76_8, e76_11, e76_12, e76_13, e76_14, e76_15, e76_18, e76_19, e76_20, e76_21, e76_24, e76_25, e76_26, e76_27, e76_30, e76_31, e76_32, e76_35, e76_36, e76_37, e76_40, e76_41, e76_42, e76_43, q4, sb, v1, v2, a1, p1, y1', y2', (Cls_11 hs.1 : ob h (g + 2) 7), (rf_g (Cls_12 hs.1 : rf h (g + 2) 1 (g + 3)) : gR h (g + 2) 1 = (g + 3)), (rf_is (Cls_12 hs.1 : rf h (g + 2) 1 (g + 3)) : isR h (g + 2) 1), (Tok_0 (Cls_13 hs.1) : ob h (g + 3) 9), (rf_g (Tok_1 (Cls_13 hs.1) : rf h (g + 3) 0 (g + 4)) : gR h (g + 3) 0 = (g + 4)), (rf_is (Tok_1 (Cls_13 hs.1) : rf h (g + 3) 0 (g + 4)) : isR h (g + 3) 0), (rf_g (Tok_2 (Cls_13 hs.1) : rf h (g + 3) 1 (g + 5)) : gR h (g + 3) 1 = (g + 5)), (rf_is (Tok_2 (Cls_13 hs.1) : rf h (g + 3) 1 (g + 5)) : isR h (g + 3) 1), (rf_g (Tok_3 (Cls_13 hs.1) : rf h (g + 3) 2 (g + 6)) : gR h (g + 3) 2 = (g + 6)), (rf_is (Tok_3 (Cls_13 hs.1) : rf h (g + 3) 2 (g + 6)) : isR h (g + 3) 2), (rf_g (Tok_4 (Cls_13 hs.1) : rf h (g + 3) 3 (g + 7)) : gR h (g + 3) 3 = (g + 7)), (rf_is (Tok_4 (Cls_13 hs.1) : rf h (g + 3) 3 (g + 7)) : isR h (g + 3) 3), (Tok_5 (Cls_13 hs.1) : arI h (g + 4) 0), (rdI_0 (Tok_5 (Cls_13 hs.1) : arI h (g + 4) 0) : rdI h (g + 4)), (Tok_6 (Cls_13 hs.1) : aln h (g + 4) = 401), (Tok_7 (Cls_13 hs.1) : arI h (g + 5) 0), (rdI_0 (Tok_7 (Cls_13 hs.1) : arI h (g + 5) 0) : rdI h (g + 5)), (Tok_8 (Cls_13 hs.1) : aln h (g + 5) = 401), (Tok_9 (Cls_13 hs.1) : arL h (g + 6)), (Tok_10 (Cls_13 hs.1) : aln h (g + 6) = 401), (Tok_11 (Cls_13 hs.1) : arL h (g + 7)), (Tok_12 (Cls_13 hs.1) : aln h (g + 7) = 14), vkk_n, vkk_i, vkk_r, vkk_l, vkk_d, catS_nil, catS_i, catS_r, catS_l, catS_d, Nat.reduceAdd, Nat.reduceLeDiff, Nat.zero_le, Nat.le_refl, Option.bind_some, Option.toList_some, Option.toList_none, List.cons_append, List.nil_append, or_true, true_or, if_true, if_false, Int32.reduceLT, Int32.reduceLE, not_true, not_false_iff, true_and, and_true, false_and, and_false]
      · have y2' : ¬ nI (vC b L s) ≤ 4 := fun w => y2 ((nI_leI (b := 4) (by omega) (by decide)).mp w)
        rw [if_neg (fun w => y2 w.2), if_pos ⟨z, fun w => y2 w.2⟩]
        obtain ⟨h1, u1, u2, u3⟩ := nt
        have u1 : ev 71 0 [some (.ref (g + 2)), some (.int 5)] [] h = some (none, h1) := u1
        refine ⟨h1, ?_, u2, u3⟩
        simp +decide only [e76_0, e76_1, e76_4, e76_7, e76_8, e76_11, e76_12, e76_13, e76_14, e76_15, e76_18, e76_19, e76_20, e76_21, e76_24, e76_25, e76_26, e76_27, e76_30, e76_31, e76_32, e76_35, e76_36, e76_37, e76_40, e76_41, e76_42, e76_43, q4, sb, v1, v2, a1, p1, y1', y2', u1, (Cls_11 hs.1 : ob h (g + 2) 7), (rf_g (Cls_12 hs.1 : rf h (g + 2) 1 (g + 3)) : gR h (g + 2) 1 = (g + 3)), (rf_is (Cls_12 hs.1 : rf h (g + 2) 1 (g + 3)) : isR h (g + 2) 1), (Tok_0 (Cls_13 hs.1) : ob h (g + 3) 9), (rf_g (Tok_1 (Cls_13 hs.1) : rf h (g + 3) 0 (g + 4)) : gR h (g + 3) 0 = (g + 4)), (rf_is (Tok_1 (Cls_13 hs.1) : rf h (g + 3) 0 (g + 4)) : isR h (g + 3) 0), (rf_g (Tok_2 (Cls_13 hs.1) : rf h (g + 3) 1 (g + 5)) : gR h (g + 3) 1 = (g + 5)), (rf_is (Tok_2 (Cls_13 hs.1) : rf h (g + 3) 1 (g + 5)) : isR h (g + 3) 1), (rf_g (Tok_3 (Cls_13 hs.1) : rf h (g + 3) 2 (g + 6)) : gR h (g + 3) 2 = (g + 6)), (rf_is (Tok_3 (Cls_13 hs.1) : rf h (g + 3) 2 (g + 6)) : isR h (g + 3) 2), (rf_g (Tok_4 (Cls_13 hs.1) : rf h (g + 3) 3 (g + 7)) : gR h (g + 3) 3 = (g + 7)), (rf_is (Tok_4 (Cls_13 hs.1) : rf h (g + 3) 3 (g + 7)) : isR h (g + 3) 3), (Tok_5 (Cls_13 hs.1) : arI h (g + 4) 0), (rdI_0 (Tok_5 (Cls_13 hs.1) : arI h (g + 4) 0) : rdI h (g + 4)), (Tok_6 (Cls_13 hs.1) : aln h (g + 4) = 401), (Tok_7 (Cls_13 hs.1) : arI h (g + 5) 0), (rdI_0 (Tok_7 (Cls_13 hs.1) : arI h (g + 5) 0) : rdI h (g + 5)), (Tok_8 (Cls_13 hs.1) : aln h (g + 5) = 401), (Tok_9 (Cls_13 hs.1) : arL h (g + 6)), (Tok_10 (Cls_13 hs.1) : aln h (g + 6) = 401), (Tok_11 (Cls_13 hs.1) : arL h (g + 7)), (Tok_12 (Cls_13 hs.1) : aln h (g + 7) = 14), vkk_n, vkk_i, vkk_r, vkk_l, vkk_d, catS_nil, catS_i, catS_r, catS_l, catS_d, Nat.reduceAdd, Nat.reduceLeDiff, Nat.zero_le, Nat.le_refl, Option.bind_some, Option.toList_some, Option.toList_none, List.cons_append, List.nil_append, or_true, true_or, if_true, if_false, Int32.reduceLT, Int32.reduceLE, not_true, not_false_iff, true_and, and_true, false_and, and_false]
        try rfl
    · have y1' : nI (vC b L s) < 1 := (nI_ltI (b := 1) (by omega) (by decide)).mpr (by omega)
      rw [if_neg (fun w => y1 w.1), if_pos ⟨z, fun w => y1 w.1⟩]
      obtain ⟨h1, u1, u2, u3⟩ := nt
      have u1 : ev 71 0 [some (.ref (g + 2)), some (.int 5)] [] h = some (none, h1) := u1
      refine ⟨h1, ?_, u2, u3⟩
      simp +decide only [e76_0, e76_1, e76_4, e76_7, e76_8, e76_11, e76_12, e76_13, e76_14, e76_15, e76_18, e76_19, e76_20, e76_21, e76_24, e76_25, e76_26, e76_27, e76_30, e76_31, e76_32, e76_35, e76_36, e76_37, e76_40, e76_41, e76_42, e76_43, q4, sb, v1, v2, a1, p1, y1', u1, (Cls_11 hs.1 : ob h (g + 2) 7), (rf_g (Cls_12 hs.1 : rf h (g + 2) 1 (g + 3)) : gR h (g + 2) 1 = (g + 3)), (rf_is (Cls_12 hs.1 : rf h (g + 2) 1 (g + 3)) : isR h (g + 2) 1), (Tok_0 (Cls_13 hs.1) : ob h (g + 3) 9), (rf_g (Tok_1 (Cls_13 hs.1) : rf h (g + 3) 0 (g + 4)) : gR h (g + 3) 0 = (g + 4)), (rf_is (Tok_1 (Cls_13 hs.1) : rf h (g + 3) 0 (g + 4)) : isR h (g + 3) 0), (rf_g (Tok_2 (Cls_13 hs.1) : rf h (g + 3) 1 (g + 5)) : gR h (g + 3) 1 = (g + 5)), (rf_is (Tok_2 (Cls_13 hs.1) : rf h (g + 3) 1 (g + 5)) : isR h (g + 3) 1), (rf_g (Tok_3 (Cls_13 hs.1) : rf h (g + 3) 2 (g + 6)) : gR h (g + 3) 2 = (g + 6)), (rf_is (Tok_3 (Cls_13 hs.1) : rf h (g + 3) 2 (g + 6)) : isR h (g + 3) 2), (rf_g (Tok_4 (Cls_13 hs.1) : rf h (g + 3) 3 (g + 7)) : gR h (g + 3) 3 = (g + 7)), (rf_is (Tok_4 (Cls_13 hs.1) : rf h (g + 3) 3 (g + 7)) : isR h (g + 3) 3), (Tok_5 (Cls_13 hs.1) : arI h (g + 4) 0), (rdI_0 (Tok_5 (Cls_13 hs.1) : arI h (g + 4) 0) : rdI h (g + 4)), (Tok_6 (Cls_13 hs.1) : aln h (g + 4) = 401), (Tok_7 (Cls_13 hs.1) : arI h (g + 5) 0), (rdI_0 (Tok_7 (Cls_13 hs.1) : arI h (g + 5) 0) : rdI h (g + 5)), (Tok_8 (Cls_13 hs.1) : aln h (g + 5) = 401), (Tok_9 (Cls_13 hs.1) : arL h (g + 6)), (Tok_10 (Cls_13 hs.1) : aln h (g + 6) = 401), (Tok_11 (Cls_13 hs.1) : arL h (g + 7)), (Tok_12 (Cls_13 hs.1) : aln h (g + 7) = 14), vkk_n, vkk_i, vkk_r, vkk_l, vkk_d, catS_nil, catS_i, catS_r, catS_l, catS_d, Nat.reduceAdd, Nat.reduceLeDiff, Nat.zero_le, Nat.le_refl, Option.bind_some, Option.toList_some, Option.toList_none, List.cons_append, List.nil_append, or_true, true_or, if_true, if_false, Int32.reduceLT, Int32.reduceLE, not_true, not_false_iff, true_and, and_true, false_and, and_false]
      try rfl
  · rw [if_neg z, if_neg (fun w => z w.1)]
    have z' : ¬ nI (tyC b L s) = 3 := fun w => z ((nI_eq (b := 3) (by omega) (by decide)).mp w)
    refine ⟨h, ?_, Fr.rfl _, hw, q'⟩
    simp +decide only [e76_0, e76_1, e76_4, e76_7, e76_8, e76_11, e76_12, e76_13, e76_14, e76_15, e76_18, e76_19, e76_20, e76_21, e76_24, e76_25, e76_26, e76_27, e76_30, e76_31, e76_32, e76_35, e76_36, e76_37, e76_40, e76_41, e76_42, e76_43, q4, sb, v1, v2, a1, z', (Cls_11 hs.1 : ob h (g + 2) 7), (rf_g (Cls_12 hs.1 : rf h (g + 2) 1 (g + 3)) : gR h (g + 2) 1 = (g + 3)), (rf_is (Cls_12 hs.1 : rf h (g + 2) 1 (g + 3)) : isR h (g + 2) 1), (Tok_0 (Cls_13 hs.1) : ob h (g + 3) 9), (rf_g (Tok_1 (Cls_13 hs.1) : rf h (g + 3) 0 (g + 4)) : gR h (g + 3) 0 = (g + 4)), (rf_is (Tok_1 (Cls_13 hs.1) : rf h (g + 3) 0 (g + 4)) : isR h (g + 3) 0), (rf_g (Tok_2 (Cls_13 hs.1) : rf h (g + 3) 1 (g + 5)) : gR h (g + 3) 1 = (g + 5)), (rf_is (Tok_2 (Cls_13 hs.1) : rf h (g + 3) 1 (g + 5)) : isR h (g + 3) 1), (rf_g (Tok_3 (Cls_13 hs.1) : rf h (g + 3) 2 (g + 6)) : gR h (g + 3) 2 = (g + 6)), (rf_is (Tok_3 (Cls_13 hs.1) : rf h (g + 3) 2 (g + 6)) : isR h (g + 3) 2), (rf_g (Tok_4 (Cls_13 hs.1) : rf h (g + 3) 3 (g + 7)) : gR h (g + 3) 3 = (g + 7)), (rf_is (Tok_4 (Cls_13 hs.1) : rf h (g + 3) 3 (g + 7)) : isR h (g + 3) 3), (Tok_5 (Cls_13 hs.1) : arI h (g + 4) 0), (rdI_0 (Tok_5 (Cls_13 hs.1) : arI h (g + 4) 0) : rdI h (g + 4)), (Tok_6 (Cls_13 hs.1) : aln h (g + 4) = 401), (Tok_7 (Cls_13 hs.1) : arI h (g + 5) 0), (rdI_0 (Tok_7 (Cls_13 hs.1) : arI h (g + 5) 0) : rdI h (g + 5)), (Tok_8 (Cls_13 hs.1) : aln h (g + 5) = 401), (Tok_9 (Cls_13 hs.1) : arL h (g + 6)), (Tok_10 (Cls_13 hs.1) : aln h (g + 6) = 401), (Tok_11 (Cls_13 hs.1) : arL h (g + 7)), (Tok_12 (Cls_13 hs.1) : aln h (g + 7) = 14), vkk_n, vkk_i, vkk_r, vkk_l, vkk_d, catS_nil, catS_i, catS_r, catS_l, catS_d, Nat.reduceAdd, Nat.reduceLeDiff, Nat.zero_le, Nat.le_refl, Option.bind_some, Option.toList_some, Option.toList_none, List.cons_append, List.nil_append, or_true, true_or, if_true, if_false, Int32.reduceLT, Int32.reduceLE, not_true, not_false_iff, true_and, and_true, false_and, and_false]
    try rfl
set_option maxHeartbeats 4000000 in
theorem l_mem (g P Q f L TT s0 : Nat) (b : Nat → Nat) (W0 : Nat × Nat) (hP : g + 8 ≤ P) (hQ : Q = P + 4 + 13 * f) (hf : f < 6) (hP2 : P = g + 8 ∨ P = g + 90) : ∀ d m h (l3 : Option Value), m + d = 9 → m ≤ 8 → RD h g P b L TT (mt (tyC b L) s0 m) → ShForm h Q → CF h Q m (mKk b L s0) (mRr b L s0) → WF h g b L (wM b L s0 W0 m) → (∀ j, j < m → tyC b L (mt (tyC b L) s0 j) = 5) → ((rMem (tyC b L) d m (mt (tyC b L) s0 m)).1 = 0 → ∃ (h1 : VG) (M : Nat), ev 75 2 [some (.ref (g + 2)), some (.ref Q), some (.int (nI m)), l3] [] h = some (some (.int 1), h1) ∧ Fr (QR Q) (QM g Q) h h1 ∧ 1 ≤ M ∧ M ≤ 8 ∧ rMem (tyC b L) d m (mt (tyC b L) s0 m) = (0, mt (tyC b L) s0 M) ∧ RD h1 g P b L TT (mt (tyC b L) s0 M) ∧ CF h1 Q M (mKk b L s0) (mRr b L s0) ∧ WF h1 g b L (wM b L s0 W0 M) ∧ (∀ j, j < M → tyC b L (mt (tyC b L) s0 j) = 5) ∧ ¬ tyC b L (mt (tyC b L) s0 M) = 5) ∧ (¬ (rMem (tyC b L) d m (mt (tyC b L) s0 m)).1 = 0 → ∃ h1, ev 75 2 [some (.ref (g + 2)), some (.ref Q), some (.int (nI m)), l3] [] h = some (some (.int 0), h1) ∧ Fr (QR Q) (QM g Q) h h1 ∧ ST h1 g (rMem (tyC b L) d m (mt (tyC b L) s0 m)).1 (tPl b L (rMem (tyC b L) d m (mt (tyC b L) s0 m)).2)) := by
  intro d
  induction d with
  | zero =>
    intro m h l3 hd hm
    omega
  | succ d ih =>
    intro m h l3 hd hm q hS cf wf h5
    have e : rMem (tyC b L) (d + 1) m (mt (tyC b L) s0 m) = if tyC b L (mt (tyC b L) s0 m) = 5 then (if m = 8 then (2, mt (tyC b L) s0 m) else rB (rP (tyC b L) 5 (mt (tyC b L) s0 m)) fun s1 => rB (if tyC b L s1 = 3 then rP (tyC b L) 3 s1 else (0, s1)) fun s2 => rMem (tyC b L) d (m + 1) s2) else (if m = 0 then (1, mt (tyC b L) s0 m) else (0, mt (tyC b L) s0 m)) := rfl
    rw [e]
    have em : mt (tyC b L) s0 (m + 1) = if tyC b L (mt (tyC b L) s0 m + 1) = 3 then mt (tyC b L) s0 m + 2 else mt (tyC b L) s0 m + 1 := rfl
    have eK : mKk b L s0 m = kd b L (mt (tyC b L) s0 m) - 24 := rfl
    have eR : mRr b L s0 m = rpT (tyC b L) (vC b L) (mr (tyC b L) (mt (tyC b L) s0 m)) := rfl
    have eW : wM b L s0 W0 (m + 1) = wRp (tyC b L) (vC b L) (wM b L s0 W0 m) (mr (tyC b L) (mt (tyC b L) s0 m)) := rfl
    generalize hs_ : mt (tyC b L) s0 m = s at q em eK eR eW ⊢
    have nx := c_isNext (y := 5) q (by decide)
    have nx : ev 67 0 [some (.ref (g + 2)), some (.int 5)] [] h = _ := nx
    have ps := c_pass (y := 5) q (by decide) (by decide)
    have st2 := c_stop (f := 2) q
    have o7 : ob h (g + 2) 7 := Cls_11 q.1.1
    have m0 : nI m = 0 ↔ m = 0 := nI_eq (b := 0) (by omega) (by decide)
    have m8_ : nI m = 8 ↔ m = 8 := nI_eq (b := 8) (by omega) (by decide)
    have inN : ∀ {h h1 : VG} {F : Nat → Nat → Prop}, Fr NR F h h1 → (∀ a k, F a k → a = g + 2 ∧ ¬ k = 1 ∧ ¬ k = 2) → Fr (QR Q) (QM g Q) h h1 := fun x c => x.mo (fun a z => z.elim) (fun a k z => Or.inl (by have := c a k z; omega))
    by_cases z5 : tyC b L s = 5
    case neg =>
      rw [if_neg z5]
      by_cases z0 : m = 0
      · rw [if_pos z0]
        refine ⟨fun z => absurd z (by show ¬ (1 : Nat) = 0; decide), fun _ => ?_⟩
        rcases ps with ⟨h1, u1, u2, -⟩ | ⟨h1, ff, u1, u2, u3, u4, u5⟩
        · exact absurd u2 z5
        · have ff1 : ff = 1 := by
            unfold rP at u1
            rw [if_neg z5] at u1
            exact (Prod.mk.inj u1).1.symm
          subst ff1
          have u3 : ev 68 0 [some (.ref (g + 2)), some (.int 5)] [] h = _ := u3
          refine ⟨h1, ?_, inN u4 (fun a k z => by omega), u5⟩
          have z0' := m0.mpr z0
          rw [z0']
          simp +decide only [e75_2, e75_3, e75_6, e75_7, e75_8, e75_11, e75_74, e75_75, e75_14, e75_15, e75_17, e75_20, e75_21, e75_22, e75_25, e75_26, e75_27, e75_28, e75_31, e75_34, e75_35, o7, u3, vkk_n, vkk_i, vkk_r, vkk_l, vkk_d, catS_nil, catS_i, catS_r, catS_l, catS_d, Nat.reduceAdd, Nat.reduceLeDiff, Nat.zero_le, Nat.le_refl, Option.bind_some, Option.toList_some, Option.toList_none, List.cons_append, List.nil_append, or_true, true_or, if_true, if_false, Int32.reduceLT, Int32.reduceLE, not_true, not_false_iff, true_and, and_true, false_and, and_false]
      · rw [if_neg z0]
        rw [if_neg z5] at nx
        have z0' : ¬ nI m = 0 := fun y => z0 (m0.mp y)
        refine ⟨fun _ => ⟨h, m, ?_, Fr.rfl _, by omega, hm, ?_, ?_, cf, wf, h5, ?_⟩, fun z => absurd rfl z⟩
        · simp +decide only [e75_2, e75_3, e75_6, e75_7, e75_8, e75_11, e75_74, e75_75, z0', o7, nx, vkk_n, vkk_i, vkk_r, vkk_l, vkk_d, catS_nil, catS_i, catS_r, catS_l, catS_d, Nat.reduceAdd, Nat.reduceLeDiff, Nat.zero_le, Nat.le_refl, Option.bind_some, Option.toList_some, Option.toList_none, List.cons_append, List.nil_append, or_true, true_or, if_true, if_false, Int32.reduceLT, Int32.reduceLE, not_true, not_false_iff, true_and, and_true, false_and, and_false]
        · rw [hs_]
        · rw [hs_]
          exact q
        · rw [hs_]
          exact z5
    rw [if_pos z5]
    rw [if_pos z5] at nx
    have ent : ev 75 2 [some (.ref (g + 2)), some (.ref Q), some (.int (nI m)), l3] [] h = ev 75 14 [some (.ref (g + 2)), some (.ref Q), some (.int (nI m)), l3] [] h := by
      by_cases z0 : m = 0
      · have z0' := m0.mpr z0
        rw [z0']
        simp +decide only [e75_2, e75_3, e75_6, e75_7, e75_8, e75_11, e75_74, e75_75, vkk_n, vkk_i, vkk_r, vkk_l, vkk_d, catS_nil, catS_i, catS_r, catS_l, catS_d, Nat.reduceAdd, Nat.reduceLeDiff, Nat.zero_le, Nat.le_refl, Option.bind_some, Option.toList_some, Option.toList_none, List.cons_append, List.nil_append, or_true, true_or, if_true, if_false, Int32.reduceLT, Int32.reduceLE, not_true, not_false_iff, true_and, and_true, false_and, and_false]
      · have z0' : ¬ nI m = 0 := fun y => z0 (m0.mp y)
        simp +decide only [e75_2, e75_3, e75_6, e75_7, e75_8, e75_11, e75_74, e75_75, z0', o7, nx, vkk_n, vkk_i, vkk_r, vkk_l, vkk_d, catS_nil, catS_i, catS_r, catS_l, catS_d, Nat.reduceAdd, Nat.reduceLeDiff, Nat.zero_le, Nat.le_refl, Option.bind_some, Option.toList_some, Option.toList_none, List.cons_append, List.nil_append, or_true, true_or, if_true, if_false, Int32.reduceLT, Int32.reduceLE, not_true, not_false_iff, true_and, and_true, false_and, and_false]
    rw [ent]
    by_cases z8 : m = 8
    · rw [if_pos z8]
      refine ⟨fun z => absurd z (by show ¬ (2 : Nat) = 0; decide), fun _ => ?_⟩
      obtain ⟨h1, u1, u2, u3⟩ := st2
      have u1 : ev 70 0 [some (.ref (g + 2)), some (.int 2)] [] h = some (some (.int 0), h1) := u1
      refine ⟨h1, ?_, inN u2 (fun a k z => by omega), u3⟩
      have z8' := m8_.mpr z8
      simp +decide only [e75_14, e75_15, e75_17, e75_20, e75_21, e75_22, e75_25, e75_26, e75_27, e75_28, e75_31, e75_34, e75_35, z8', o7, u1, vkk_n, vkk_i, vkk_r, vkk_l, vkk_d, catS_nil, catS_i, catS_r, catS_l, catS_d, Nat.reduceAdd, Nat.reduceLeDiff, Nat.zero_le, Nat.le_refl, Option.bind_some, Option.toList_some, Option.toList_none, List.cons_append, List.nil_append, or_true, true_or, if_true, if_false, Int32.reduceLT, Int32.reduceLE, not_true, not_false_iff, true_and, and_true, false_and, and_false]
    rw [if_neg z8]
    have z8' : ¬ nI m = 8 := fun y => z8 (m8_.mp y)
    rcases ps with ⟨h1, u1, u2, u3, u4, u5⟩ | ⟨h1, ff, u1, u2, u3, u4, u5⟩
    case inr =>
      have u3 : ev 68 0 [some (.ref (g + 2)), some (.int 5)] [] h = _ := u3
      rw [u1]
      have ff0 : ¬ ff = 0 := by omega
      have rb : ∀ F : Nat → Nat × Nat, rB (ff, s) F = (ff, s) := fun F => if_neg ff0
      rw [rb]
      refine ⟨fun z => absurd z ff0, fun _ => ⟨h1, ?_, inN u4 (fun a k z => by omega), u5⟩⟩
      simp +decide only [e75_14, e75_15, e75_17, e75_20, e75_21, e75_22, e75_25, e75_26, e75_27, e75_28, e75_31, e75_34, e75_35, z8', o7, u3, vkk_n, vkk_i, vkk_r, vkk_l, vkk_d, catS_nil, catS_i, catS_r, catS_l, catS_d, Nat.reduceAdd, Nat.reduceLeDiff, Nat.zero_le, Nat.le_refl, Option.bind_some, Option.toList_some, Option.toList_none, List.cons_append, List.nil_append, or_true, true_or, if_true, if_false, Int32.reduceLT, Int32.reduceLE, not_true, not_false_iff, true_and, and_true, false_and, and_false]
    have u3 : ev 68 0 [some (.ref (g + 2)), some (.int 5)] [] h = _ := u3
    rw [u1]
    have rb : ∀ F : Nat → Nat × Nat, rB (0, s + 1) F = F (s + 1) := fun F => if_pos rfl
    rw [rb]
    have pd := (c_passed u5).2 z5
    have nx3 := c_isNext (y := 3) u5 (by decide)
    have nx3 : ev 67 0 [some (.ref (g + 2)), some (.int 3)] [] h1 = _ := nx3
    have ps3 := c_pass (y := 3) u5 (by decide) (by decide)
    have o71 : ob h1 (g + 2) 7 := Cls_11 u5.1.1
    have F1 : Fr (QR Q) (QM g Q) h h1 := inN u4 (fun a k z => by omega)
    have hS1 := (ShForm_kp F1.1 Q).mpr hS
    have cf1 := CF_fr u4 (fun a z => z.elim) (fun k z => by omega) cf
    have wf1 : WF h1 g b L (wM b L s0 W0 m) := ⟨wf.1, (u4.gI (fun z => by omega)).trans wf.2.1, fun z => (u4.gI (fun z => by omega)).trans (wf.2.2.1 z), (u4.gI (fun z => by omega)).trans wf.2.2.2⟩
    -- what is done behind the number, if there is one
    have go : ∀ (h2 : VG) (x : Nat), RD h2 g P b L TT (x + 1) → ShForm h2 Q → CF h2 Q m (mKk b L s0) (mRr b L s0) → WF h2 g b L (wM b L s0 W0 m) → x = mr (tyC b L) s → mt (tyC b L) s0 (m + 1) = x + 1 → ((rMem (tyC b L) d (m + 1) (x + 1)).1 = 0 → ∃ (h1 : VG) (M : Nat), ev 75 59 [some (.ref (g + 2)), some (.ref Q), some (.int (nI m)), some (.int (nI (mKk b L s0 m)))] [] h2 = some (some (.int 1), h1) ∧ Fr (QR Q) (QM g Q) h2 h1 ∧ 1 ≤ M ∧ M ≤ 8 ∧ rMem (tyC b L) d (m + 1) (x + 1) = (0, mt (tyC b L) s0 M) ∧ RD h1 g P b L TT (mt (tyC b L) s0 M) ∧ CF h1 Q M (mKk b L s0) (mRr b L s0) ∧ WF h1 g b L (wM b L s0 W0 M) ∧ (∀ j, j < M → tyC b L (mt (tyC b L) s0 j) = 5) ∧ ¬ tyC b L (mt (tyC b L) s0 M) = 5) ∧ (¬ (rMem (tyC b L) d (m + 1) (x + 1)).1 = 0 → ∃ h1, ev 75 59 [some (.ref (g + 2)), some (.ref Q), some (.int (nI m)), some (.int (nI (mKk b L s0 m)))] [] h2 = some (some (.int 0), h1) ∧ Fr (QR Q) (QM g Q) h2 h1 ∧ ST h1 g (rMem (tyC b L) d (m + 1) (x + 1)).1 (tPl b L (rMem (tyC b L) d (m + 1) (x + 1)).2)) := by
      intro h2 x q2 hS2 cf2 wf2 hx hm1
      obtain ⟨h3, r1, r2, r3, r4⟩ := c_repeats q2 wf2
      have o72 : ob h2 (g + 2) 7 := Cls_11 q2.1.1
      have hS3 := (ShForm_kp r2.1 Q).mpr hS2
      have cf3 := CF_fr r2 (fun a z => z.elim) (fun k z => by omega) cf2
      obtain ⟨h4, a1, a2, a3⟩ := c_addMember h3 Q m (mKk b L s0) (mRr b L s0) hS3 cf3 (by omega) (fun j _ => mR_b b L s0 j)
      have eRx : rpT (tyC b L) (vC b L) x = mRr b L s0 m := by rw [eR, hx]
      rw [eRx] at r1
      have r3' : WF h3 g b L (wM b L s0 W0 (m + 1)) := by
        rw [eW, ← hx]
        exact r3
      have A2 : Fr (QR Q) (QM g Q) h3 h4 := a2.mo (fun a z => by unfold QR; omega) (fun a k z => Or.inr z)
      have q4 : RD h4 g P b L TT (x + 1) := RD_fr a2 (fun a z => by omega) ((a2.gI (fun z => by omega)).trans r4.2.2.2.1) r4.2.2.2.2.1 r4
      have wf4 : WF h4 g b L (wM b L s0 W0 (m + 1)) := ⟨r3'.1, (a2.gI (fun z => by omega)).trans r3'.2.1, fun z => (a2.gI (fun z => by omega)).trans (r3'.2.2.1 z), (a2.gI (fun z => by omega)).trans r3'.2.2.2⟩
      have oQ3 := Form_0 hS3
      have oQ2 := Form_0 hS2
      have F4 : Fr (QR Q) (QM g Q) h2 h4 := (inN r2 (fun a k z => by omega)).tr A2
      have nxt := ih (m + 1) h4 (some (.int (nI (mKk b L s0 m)))) (by omega) (by omega) (by rw [hm1]; exact q4) ((ShForm_kp a2.1 Q).mpr hS3) a3 wf4 (fun j hj => by
        by_cases ej : j = m
        · rw [ej, hs_]
          exact z5
        · exact h5 j (by omega))
      rw [hm1] at nxt
      have stp_ : ev 75 59 [some (.ref (g + 2)), some (.ref Q), some (.int (nI m)), some (.int (nI (mKk b L s0 m)))] [] h2 = ev 75 2 [some (.ref (g + 2)), some (.ref Q), some (.int (nI (m + 1))), some (.int (nI (mKk b L s0 m)))] [] h4 := by
        generalize hZ : ev 75 2 [some (.ref (g + 2)), some (.ref Q), some (.int (nI (m + 1))), some (.int (nI (mKk b L s0 m)))] [] h4 = Z
        simp +decide only [e75_59, e75_60, e75_61, e75_62, e75_65, e75_68, e75_71, oQ2, o72, r1, oQ3, a1, nI_1, nI_add, vkk_n, vkk_i, vkk_r, vkk_l, vkk_d, catS_nil, catS_i, catS_r, catS_l, catS_d, Nat.reduceAdd, Nat.reduceLeDiff, Nat.zero_le, Nat.le_refl, Option.bind_some, Option.toList_some, Option.toList_none, List.cons_append, List.nil_append, or_true, true_or, if_true, if_false, Int32.reduceLT, Int32.reduceLE, not_true, not_false_iff, true_and, and_true, false_and, and_false]
        exact hZ
      rw [stp_]
      refine ⟨fun z => ?_, fun z => ?_⟩
      · obtain ⟨h5_, M, k1, k2, k3⟩ := nxt.1 z
        exact ⟨h5_, M, k1, F4.tr k2, k3⟩
      · obtain ⟨h5_, k1, k2, k3⟩ := nxt.2 z
        exact ⟨h5_, k1, F4.tr k2, k3⟩
    have ent2 : ev 75 14 [some (.ref (g + 2)), some (.ref Q), some (.int (nI m)), l3] [] h = ev 75 41 [some (.ref (g + 2)), some (.ref Q), some (.int (nI m)), some (.int (nI (mKk b L s0 m)))] [] h1 := by
      rw [eK]
      simp +decide only [e75_14, e75_15, e75_17, e75_20, e75_21, e75_22, e75_25, e75_26, e75_27, e75_28, e75_31, e75_34, e75_35, e75_36, e75_37, e75_40, z8', o7, u3, o71, pd.1, vkk_n, vkk_i, vkk_r, vkk_l, vkk_d, catS_nil, catS_i, catS_r, catS_l, catS_d, Nat.reduceAdd, Nat.reduceLeDiff, Nat.zero_le, Nat.le_refl, Option.bind_some, Option.toList_some, Option.toList_none, List.cons_append, List.nil_append, or_true, true_or, if_true, if_false, Int32.reduceLT, Int32.reduceLE, not_true, not_false_iff, true_and, and_true, false_and, and_false]
    rw [ent2]
    by_cases z3 : tyC b L (s + 1) = 3
    · rw [if_pos z3] at nx3 em
      rw [if_pos z3]
      rcases ps3 with ⟨h2, w1, w2, w3, w4, w5⟩ | ⟨h2, ff, w1, w2, w3, w4, w5⟩
      · have w3 : ev 68 0 [some (.ref (g + 2)), some (.int 3)] [] h1 = _ := w3
        rw [w1]
        have rb2 : ∀ F : Nat → Nat × Nat, rB (0, s + 1 + 1) F = F (s + 1 + 1) := fun F => if_pos rfl
        rw [rb2]
        have ent3 : ev 75 41 [some (.ref (g + 2)), some (.ref Q), some (.int (nI m)), some (.int (nI (mKk b L s0 m)))] [] h1 = ev 75 59 [some (.ref (g + 2)), some (.ref Q), some (.int (nI m)), some (.int (nI (mKk b L s0 m)))] [] h2 := by
          simp +decide only [e75_41, e75_42, e75_43, e75_46, e75_49, e75_50, e75_51, e75_54, e75_57, e75_58, o71, nx3, w3, vkk_n, vkk_i, vkk_r, vkk_l, vkk_d, catS_nil, catS_i, catS_r, catS_l, catS_d, Nat.reduceAdd, Nat.reduceLeDiff, Nat.zero_le, Nat.le_refl, Option.bind_some, Option.toList_some, Option.toList_none, List.cons_append, List.nil_append, or_true, true_or, if_true, if_false, Int32.reduceLT, Int32.reduceLE, not_true, not_false_iff, true_and, and_true, false_and, and_false]
        rw [ent3]
        have F2 := F1.tr (inN w4 (fun a k z => by omega))
        have g2 := go h2 (s + 1) w5 ((ShForm_kp w4.1 Q).mpr hS1) (CF_fr w4 (fun a z => z.elim) (fun k z => by omega) cf1) ⟨wf1.1, (w4.gI (fun z => by omega)).trans wf1.2.1, fun z => (w4.gI (fun z => by omega)).trans (wf1.2.2.1 z), (w4.gI (fun z => by omega)).trans wf1.2.2.2⟩ (by unfold mr; rw [if_pos z3]) em
        refine ⟨fun z => ?_, fun z => ?_⟩
        · obtain ⟨h5_, M, k1, k2, k3⟩ := g2.1 z
          exact ⟨h5_, M, k1, F2.tr k2, k3⟩
        · obtain ⟨h5_, k1, k2, k3⟩ := g2.2 z
          exact ⟨h5_, k1, F2.tr k2, k3⟩
      · have w3 : ev 68 0 [some (.ref (g + 2)), some (.int 3)] [] h1 = _ := w3
        rw [w1]
        have ff0 : ¬ ff = 0 := by omega
        have rb2 : ∀ F : Nat → Nat × Nat, rB (ff, s + 1) F = (ff, s + 1) := fun F => if_neg ff0
        rw [rb2]
        refine ⟨fun z => absurd z ff0, fun _ => ⟨h2, ?_, F1.tr (inN w4 (fun a k z => by omega)), w5⟩⟩
        simp +decide only [e75_41, e75_42, e75_43, e75_46, e75_49, e75_50, e75_51, e75_54, e75_57, e75_58, o71, nx3, w3, vkk_n, vkk_i, vkk_r, vkk_l, vkk_d, catS_nil, catS_i, catS_r, catS_l, catS_d, Nat.reduceAdd, Nat.reduceLeDiff, Nat.zero_le, Nat.le_refl, Option.bind_some, Option.toList_some, Option.toList_none, List.cons_append, List.nil_append, or_true, true_or, if_true, if_false, Int32.reduceLT, Int32.reduceLE, not_true, not_false_iff, true_and, and_true, false_and, and_false]
    · rw [if_neg z3] at nx3 em
      rw [if_neg z3, rb]
      have ent3 : ev 75 41 [some (.ref (g + 2)), some (.ref Q), some (.int (nI m)), some (.int (nI (mKk b L s0 m)))] [] h1 = ev 75 59 [some (.ref (g + 2)), some (.ref Q), some (.int (nI m)), some (.int (nI (mKk b L s0 m)))] [] h1 := by
        simp +decide only [e75_41, e75_42, e75_43, e75_46, e75_49, e75_50, e75_51, e75_54, e75_57, e75_58, o71, nx3, vkk_n, vkk_i, vkk_r, vkk_l, vkk_d, catS_nil, catS_i, catS_r, catS_l, catS_d, Nat.reduceAdd, Nat.reduceLeDiff, Nat.zero_le, Nat.le_refl, Option.bind_some, Option.toList_some, Option.toList_none, List.cons_append, List.nil_append, or_true, true_or, if_true, if_false, Int32.reduceLT, Int32.reduceLE, not_true, not_false_iff, true_and, and_true, false_and, and_false]
      rw [ent3]
      have g2 := go h1 s u5 hS1 cf1 wf1 (by unfold mr; rw [if_neg z3]) em
      refine ⟨fun z => ?_, fun z => ?_⟩
      · obtain ⟨h5_, M, k1, k2, k3⟩ := g2.1 z
        exact ⟨h5_, M, k1, F1.tr k2, k3⟩
      · obtain ⟨h5_, k1, k2, k3⟩ := g2.2 z
        exact ⟨h5_, k1, F1.tr k2, k3⟩
