/-! read: a line that begins with 'big', with 'line', with 'form', by the class -/
def rBig (T : Nat → Nat) (s : Nat) : Nat × Nat := rB (rP T 6 s) (rP T 4)
def rLin (T : Nat → Nat) (s : Nat) : Nat × Nat := rB (rP T 7 s) fun s1 => rB (rP T 3 s1) fun s2 => rP T 4 s2
def rFrm (T : Nat → Nat) (told s : Nat) : Nat × Nat := if told = 6 then (2, s) else rB (rP T 8 s) fun s1 => rB (rP T 2 s1) fun s2 => rB (rMem T 9 0 s2) fun s3 => rP T 4 s3
theorem rB_0 (s : Nat) (F : Nat → Nat × Nat) : rB (0, s) F = F s := if_pos rfl
theorem rB_n {f : Nat} (s : Nat) (F : Nat → Nat × Nat) (h : f = 1 ∨ f = 2) : rB (f, s) F = (f, s) := if_neg (by show ¬ f = 0; omega)
def KINDS (T : Nat → Nat) (s0 M : Nat) : Prop := ∀ j, j < M → T (mt T s0 j) = 5
def LFF (g P Q a k : Nat) : Prop := QF g Q a k ∨ (a = P ∧ k = 2)
/-- whether a form of that name is told; what is wrong then -/
def DUP (h : VG) (P n : Nat) (v : Int64) (W W1 : Nat × Nat) (s : Nat) : Prop := ((∃ f, f < n ∧ gL h (P + 4 + 13 * f) 0 = v) ∧ W1 = wN W 3 s) ∨ ((∀ f, f < n → ¬ gL h (P + 4 + 13 * f) 0 = v) ∧ W1 = W)
def GF (g a k : Nat) : Prop := a = g + 2 ∧ ¬ k = 1 ∧ ¬ k = 2
theorem WF_fr {R : Nat → Prop} {F : Nat → Nat → Prop} {h h1 : VG} {g L : Nat} {b : Nat → Nat} {W : Nat × Nat} (x : Fr R F h h1) (c : ∀ k, F (g + 2) k → ¬ k = 0 ∧ ¬ k = 4 ∧ ¬ k = 5) (q : WF h g b L W) : WF h1 g b L W := ⟨q.1, (x.gI (fun z => (c _ z).2.1 rfl)).trans q.2.1, fun z => (x.gI (fun z => (c _ z).1 rfl)).trans (q.2.2.1 z), (x.gI (fun z => (c _ z).2.2 rfl)).trans q.2.2.2⟩
theorem pl_of {h : VG} {g P : Nat} (hs : Sh h g) (hP : P = g + 8 ∨ P = g + 90) : ShPlan h P := by
  rcases hP with rfl | rfl
  · exact Cls_14 hs.1
  · exact Cls_15 hs.1
theorem c_readBig {h : VG} {g P L TT s : Nat} {b : Nat → Nat} {W : Nat × Nat} (hP : P = g + 8 ∨ P = g + 90) (q : RD h g P b L TT s) (hw : WF h g b L W) : ((rBig (tyC b L) s).1 = 0 → ∃ h1, ev 72 0 [some (.ref (g + 2))] [] h = some (none, h1) ∧ rBig (tyC b L) s = (0, s + 2) ∧ tyC b L s = 6 ∧ tyC b L (s + 1) = 4 ∧ Fr NR (fun a k => GF g a k ∨ (a = P + 1 ∧ k = 2)) h h1 ∧ RD h1 g P b L TT (s + 2) ∧ WF h1 g b L W ∧ gI h1 (P + 1) 2 = 1) ∧ (¬ (rBig (tyC b L) s).1 = 0 → ∃ h1, ev 72 0 [some (.ref (g + 2))] [] h = some (none, h1) ∧ Fr NR (fun a k => GF g a k ∨ (a = P + 1 ∧ k = 2)) h h1 ∧ ST h1 g (rBig (tyC b L) s).1 (tPl b L (rBig (tyC b L) s).2)) := by
  have o7 : ob h (g + 2) 7 := Cls_11 q.1.1
  unfold rBig
  rcases c_pass (y := 6) q (by decide) (by decide) with ⟨h1, u1, u2, u3, u4, u5⟩ | ⟨h1, ff, u1, u2, u3, u4, u5⟩
  case inr =>
    have u3 : ev 68 0 [some (.ref (g + 2)), some (.int 6)] [] h = _ := u3
    rw [u1, rB_n _ _ u2]
    refine ⟨fun z => absurd z (by show ¬ ff = 0; omega), fun _ => ⟨h1, ?_, u4.mo (fun _ z => z) (fun a k z => Or.inl (by unfold GF; omega)), u5⟩⟩
    simp +decide only [e72_0, e72_1, e72_3, e72_6, e72_9, e72_10, e72_11, e72_14, e72_17, e72_18, e72_21, e72_24, e72_25, e72_28, o7, u3, vkk_n, vkk_i, vkk_r, vkk_l, vkk_d, catS_nil, catS_i, catS_r, catS_l, catS_d, Nat.reduceAdd, Nat.reduceLeDiff, Nat.zero_le, Nat.le_refl, Option.bind_some, Option.toList_some, Option.toList_none, List.cons_append, List.nil_append, or_true, true_or, if_true, if_false, Int32.reduceLT, Int32.reduceLE, not_true, not_false_iff, true_and, and_true, false_and, and_false]
  have u3 : ev 68 0 [some (.ref (g + 2)), some (.int 6)] [] h = _ := u3
  rw [u1, rB_0]
  have o71 : ob h1 (g + 2) 7 := Cls_11 u5.1.1
  rcases c_pass (y := 4) u5 (by decide) (by decide) with ⟨h2, w1, w2, w3, w4, w5⟩ | ⟨h2, ff, w1, w2, w3, w4, w5⟩
  case inr =>
    have w3 : ev 68 0 [some (.ref (g + 2)), some (.int 4)] [] h1 = _ := w3
    rw [w1]
    refine ⟨fun z => absurd z (by show ¬ ff = 0; omega), fun _ => ⟨h2, ?_, (u4.mo (fun _ z => z) (fun a k z => Or.inl (by unfold GF; omega))).tr (w4.mo (fun _ z => z) (fun a k z => Or.inl (by unfold GF; omega))), w5⟩⟩
    simp +decide only [e72_0, e72_1, e72_3, e72_6, e72_9, e72_10, e72_11, e72_14, e72_17, e72_18, e72_21, e72_24, e72_25, e72_28, o7, u3, o71, w3, vkk_n, vkk_i, vkk_r, vkk_l, vkk_d, catS_nil, catS_i, catS_r, catS_l, catS_d, Nat.reduceAdd, Nat.reduceLeDiff, Nat.zero_le, Nat.le_refl, Option.bind_some, Option.toList_some, Option.toList_none, List.cons_append, List.nil_append, or_true, true_or, if_true, if_false, Int32.reduceLT, Int32.reduceLE, not_true, not_false_iff, true_and, and_true, false_and, and_false]
  have w3 : ev 68 0 [some (.ref (g + 2)), some (.int 4)] [] h1 = _ := w3
  rw [w1]
  have o72 : ob h2 (g + 2) 7 := Cls_11 w5.1.1
  have hPl := pl_of w5.1 hP
  have rP2 := w5.2.1
  have oM : ob h2 (P + 1) 5 := Mem_0 (Plan_3 hPl)
  have x1 : Fr NR (fun a k => GF g a k ∨ (a = P + 1 ∧ k = 2)) h2 (pI h2 (P + 1) 2 1) := Fr_pI _ _ _ _ (Or.inr ⟨rfl, rfl⟩)
  refine ⟨fun _ => ⟨pI h2 (P + 1) 2 1, ?_, rfl, u2, w2, ((u4.mo (fun _ z => z) (fun a k z => Or.inl (by unfold GF; omega))).tr (w4.mo (fun _ z => z) (fun a k z => Or.inl (by unfold GF; omega)))).tr x1, RD_fr x1 (fun a z => z.elim) ((gI_pI_ne _ _ _ _ _ _ (fun z => by omega)).trans w5.2.2.2.1) w5.2.2.2.2.1 w5, ?_, ?_⟩, fun z => absurd rfl z⟩
  · simp +decide only [e72_0, e72_1, e72_3, e72_6, e72_9, e72_10, e72_11, e72_14, e72_17, e72_18, e72_21, e72_24, e72_25, e72_28, o7, u3, o71, w3, o72, rf_g rP2, rf_is rP2, (Plan_0 hPl : ob h2 P 6), (eq_true (isI_ob (Plan_0 hPl : ob h2 P 6) rfl : isI h2 P 2)), (rf_g (Plan_1 hPl : rf h2 P 0 (P + 1)) : gR h2 P 0 = (P + 1)), (rf_is (Plan_1 hPl : rf h2 P 0 (P + 1)) : isR h2 P 0), (rf_g (Plan_2 hPl : rf h2 P 1 (P + 3)) : gR h2 P 1 = (P + 3)), (rf_is (Plan_2 hPl : rf h2 P 1 (P + 3)) : isR h2 P 1), (Plan_4 hPl : arR h2 (P + 3) 6), (rdR_6 (Plan_4 hPl : arR h2 (P + 3) 6) : rdR h2 (P + 3)), (Plan_5 hPl : aln h2 (P + 3) = 6), (Mem_0 (Plan_3 hPl) : ob h2 (P + 1) 5), (eq_true (isI_ob (Mem_0 (Plan_3 hPl) : ob h2 (P + 1) 5) rfl : isI h2 (P + 1) 1)), (eq_true (isI_ob (Mem_0 (Plan_3 hPl) : ob h2 (P + 1) 5) rfl : isI h2 (P + 1) 2)), (rf_g (Mem_1 (Plan_3 hPl) : rf h2 (P + 1) 0 (P + 2)) : gR h2 (P + 1) 0 = (P + 2)), (rf_is (Mem_1 (Plan_3 hPl) : rf h2 (P + 1) 0 (P + 2)) : isR h2 (P + 1) 0), (Mem_2 (Plan_3 hPl) : arI h2 (P + 2) 2), (rdB_2 (Mem_2 (Plan_3 hPl) : arI h2 (P + 2) 2) : rdB h2 (P + 2)), (Mem_3 (Plan_3 hPl) : aln h2 (P + 2) = 256), vkk_n, vkk_i, vkk_r, vkk_l, vkk_d, catS_nil, catS_i, catS_r, catS_l, catS_d, Nat.reduceAdd, Nat.reduceLeDiff, Nat.zero_le, Nat.le_refl, Option.bind_some, Option.toList_some, Option.toList_none, List.cons_append, List.nil_append, or_true, true_or, if_true, if_false, Int32.reduceLT, Int32.reduceLE, not_true, not_false_iff, true_and, and_true, false_and, and_false]
  · have x2 := (u4.mo (R1 := NR) (F1 := fun a k => (a = g + 2 ∧ k = 3) ∨ (a = P + 1 ∧ k = 2)) (fun _ z => z) (fun a k z => Or.inl z)).tr ((w4.mo (fun _ z => z) (fun a k z => Or.inl z)).tr (Fr_pI h2 (P + 1) 2 1 (Or.inr ⟨rfl, rfl⟩)))
    exact WF_fr x2 (fun k z => by omega) hw
  · simp +decide only [gI_pI, (eq_true (isI_ob oM rfl : isI h2 (P + 1) 2)), true_and, and_true, if_true]
theorem c_readLine {h : VG} {g P L TT s : Nat} {b : Nat → Nat} {W : Nat × Nat} (hP : P = g + 8 ∨ P = g + 90) (q : RD h g P b L TT s) (hw : WF h g b L W) : ((rLin (tyC b L) s).1 = 0 → ∃ h1, ev 73 0 [some (.ref (g + 2)), none] [] h = some (none, h1) ∧ rLin (tyC b L) s = (0, s + 3) ∧ tyC b L s = 7 ∧ tyC b L (s + 1) = 3 ∧ tyC b L (s + 2) = 4 ∧ Fr NR (fun a k => GF g a k ∨ (a = P + 1 ∧ k = 1)) h h1 ∧ RD h1 g P b L TT (s + 3) ∧ ((1 ≤ vC b L (s + 1) ∧ vC b L (s + 1) ≤ 256 ∧ WF h1 g b L W ∧ gI h1 (P + 1) 1 = nI (vC b L (s + 1))) ∨ (¬ (1 ≤ vC b L (s + 1) ∧ vC b L (s + 1) ≤ 256) ∧ WF h1 g b L (wN W 5 (s + 1)) ∧ gI h1 (P + 1) 1 = gI h (P + 1) 1))) ∧ (¬ (rLin (tyC b L) s).1 = 0 → ∃ h1, ev 73 0 [some (.ref (g + 2)), none] [] h = some (none, h1) ∧ Fr NR (fun a k => GF g a k ∨ (a = P + 1 ∧ k = 1)) h h1 ∧ ST h1 g (rLin (tyC b L) s).1 (tPl b L (rLin (tyC b L) s).2)) := by
  have o7 : ob h (g + 2) 7 := Cls_11 q.1.1
  have toG : ∀ {h h1 : VG} {F : Nat → Nat → Prop}, Fr NR F h h1 → (∀ a k, F a k → a = g + 2 ∧ ¬ k = 1 ∧ ¬ k = 2) → Fr NR (fun a k => GF g a k ∨ (a = P + 1 ∧ k = 1)) h h1 := fun x c => x.mo (fun a z => z) (fun a k z => Or.inl (c a k z))
  unfold rLin
  rcases c_pass (y := 7) q (by decide) (by decide) with ⟨h1, u1, u2, u3, u4, u5⟩ | ⟨h1, ff, u1, u2, u3, u4, u5⟩
  case inr =>
    have u3 : ev 68 0 [some (.ref (g + 2)), some (.int 7)] [] h = _ := u3
    rw [u1, rB_n _ _ u2]
    refine ⟨fun z => absurd z (by show ¬ ff = 0; omega), fun _ => ⟨h1, ?_, toG u4 (fun a k z => by omega), u5⟩⟩
    simp +decide only [e73_0, e73_1, e73_3, e73_6, e73_9, e73_10, e73_11, e73_14, e73_17, e73_18, e73_19, e73_22, e73_23, e73_24, e73_25, e73_28, e73_29, e73_32, e73_35, e73_36, e73_37, e73_40, e73_43, e73_44, e73_47, e73_50, e73_51, e73_54, e73_55, e73_56, e73_59, e73_59b, e73_60, o7, u3, vkk_n, vkk_i, vkk_r, vkk_l, vkk_d, catS_nil, catS_i, catS_r, catS_l, catS_d, Nat.reduceAdd, Nat.reduceLeDiff, Nat.zero_le, Nat.le_refl, Option.bind_some, Option.toList_some, Option.toList_none, List.cons_append, List.nil_append, or_true, true_or, if_true, if_false, Int32.reduceLT, Int32.reduceLE, not_true, not_false_iff, true_and, and_true, false_and, and_false]
  have u3 : ev 68 0 [some (.ref (g + 2)), some (.int 7)] [] h = _ := u3
  rw [u1, rB_0]
  have o71 : ob h1 (g + 2) 7 := Cls_11 u5.1.1
  rcases c_pass (y := 3) u5 (by decide) (by decide) with ⟨h2, w1, w2, w3, w4, w5⟩ | ⟨h2, ff, w1, w2, w3, w4, w5⟩
  case inr =>
    have w3 : ev 68 0 [some (.ref (g + 2)), some (.int 3)] [] h1 = _ := w3
    rw [w1, rB_n _ _ w2]
    refine ⟨fun z => absurd z (by show ¬ ff = 0; omega), fun _ => ⟨h2, ?_, (toG u4 (fun a k z => by omega)).tr (toG w4 (fun a k z => by omega)), w5⟩⟩
    simp +decide only [e73_0, e73_1, e73_3, e73_6, e73_9, e73_10, e73_11, e73_14, e73_17, e73_18, e73_19, e73_22, e73_23, e73_24, e73_25, e73_28, e73_29, e73_32, e73_35, e73_36, e73_37, e73_40, e73_43, e73_44, e73_47, e73_50, e73_51, e73_54, e73_55, e73_56, e73_59, e73_59b, e73_60, o7, u3, o71, w3, vkk_n, vkk_i, vkk_r, vkk_l, vkk_d, catS_nil, catS_i, catS_r, catS_l, catS_d, Nat.reduceAdd, Nat.reduceLeDiff, Nat.zero_le, Nat.le_refl, Option.bind_some, Option.toList_some, Option.toList_none, List.cons_append, List.nil_append, or_true, true_or, if_true, if_false, Int32.reduceLT, Int32.reduceLE, not_true, not_false_iff, true_and, and_true, false_and, and_false]
  have w3 : ev 68 0 [some (.ref (g + 2)), some (.int 3)] [] h1 = _ := w3
  rw [w1, rB_0]
  have o72 : ob h2 (g + 2) 7 := Cls_11 w5.1.1
  obtain ⟨pd, p4⟩ := (c_passed w5).1 w2
  have F2 := (toG u4 (fun a k z => by omega)).tr (toG w4 (fun a k z => by omega))
  have wf2 : WF h2 g b L W := WF_fr w4 (fun k z => by omega) (WF_fr u4 (fun k z => by omega) hw)
  have hPl := pl_of w5.1 hP
  have rP2 := w5.2.1
  have oM : ob h2 (P + 1) 5 := Mem_0 (Plan_3 hPl)
  -- the value is noted or taken
  have mid : ∃ h3, ev 73 18 [some (.ref (g + 2)), none] [] h2 = ev 73 54 [some (.ref (g + 2)), some (.int (nI (vC b L (s + 1))))] [] h3 ∧ Fr NR (fun a k => GF g a k ∨ (a = P + 1 ∧ k = 1)) h2 h3 ∧ RD h3 g P b L TT (s + 1 + 1) ∧ ((1 ≤ vC b L (s + 1) ∧ vC b L (s + 1) ≤ 256 ∧ WF h3 g b L W ∧ gI h3 (P + 1) 1 = nI (vC b L (s + 1))) ∨ (¬ (1 ≤ vC b L (s + 1) ∧ vC b L (s + 1) ≤ 256) ∧ WF h3 g b L (wN W 5 (s + 1)) ∧ gI h3 (P + 1) 1 = gI h (P + 1) 1)) := by
    have old : gI h2 (P + 1) 1 = gI h (P + 1) 1 := (w4.gI (fun z => by omega)).trans (u4.gI (fun z => by omega))
    by_cases ok : 1 ≤ vC b L (s + 1) ∧ vC b L (s + 1) ≤ 256
    · have y1 : ¬ nI (vC b L (s + 1)) < 1 := fun z => by have := (nI_ltI (b := 1) (by omega) (by decide)).mp z; omega
      have y2 : nI (vC b L (s + 1)) ≤ 256 := nI_le (b := 256) ok.2 (by decide)
      have x1 : Fr NR (fun a k => GF g a k ∨ (a = P + 1 ∧ k = 1)) h2 (pI h2 (P + 1) 1 (nI (vC b L (s + 1)))) := Fr_pI _ _ _ _ (Or.inr ⟨rfl, rfl⟩)
      have x2 : Fr NR (fun a k => a = P + 1 ∧ k = 1) h2 (pI h2 (P + 1) 1 (nI (vC b L (s + 1)))) := Fr_pI _ _ _ _ ⟨rfl, rfl⟩
      refine ⟨_, ?_, x1, RD_fr x1 (fun a z => z.elim) ((gI_pI_ne _ _ _ _ _ _ (fun z => by omega)).trans w5.2.2.2.1) w5.2.2.2.2.1 w5, Or.inl ⟨ok.1, ok.2, WF_fr x2 (fun k z => by omega) wf2, ?_⟩⟩
      · simp +decide only [e73_18, e73_19, e73_22, e73_23, e73_24, e73_25, e73_28, e73_29, e73_32, e73_35, e73_36, e73_37, e73_40, e73_43, e73_44, e73_47, e73_50, e73_51, o72, pd, y1, y2, rf_g rP2, rf_is rP2, (Plan_0 hPl : ob h2 P 6), (eq_true (isI_ob (Plan_0 hPl : ob h2 P 6) rfl : isI h2 P 2)), (rf_g (Plan_1 hPl : rf h2 P 0 (P + 1)) : gR h2 P 0 = (P + 1)), (rf_is (Plan_1 hPl : rf h2 P 0 (P + 1)) : isR h2 P 0), (rf_g (Plan_2 hPl : rf h2 P 1 (P + 3)) : gR h2 P 1 = (P + 3)), (rf_is (Plan_2 hPl : rf h2 P 1 (P + 3)) : isR h2 P 1), (Plan_4 hPl : arR h2 (P + 3) 6), (rdR_6 (Plan_4 hPl : arR h2 (P + 3) 6) : rdR h2 (P + 3)), (Plan_5 hPl : aln h2 (P + 3) = 6), (Mem_0 (Plan_3 hPl) : ob h2 (P + 1) 5), (eq_true (isI_ob (Mem_0 (Plan_3 hPl) : ob h2 (P + 1) 5) rfl : isI h2 (P + 1) 1)), (eq_true (isI_ob (Mem_0 (Plan_3 hPl) : ob h2 (P + 1) 5) rfl : isI h2 (P + 1) 2)), (rf_g (Mem_1 (Plan_3 hPl) : rf h2 (P + 1) 0 (P + 2)) : gR h2 (P + 1) 0 = (P + 2)), (rf_is (Mem_1 (Plan_3 hPl) : rf h2 (P + 1) 0 (P + 2)) : isR h2 (P + 1) 0), (Mem_2 (Plan_3 hPl) : arI h2 (P + 2) 2), (rdB_2 (Mem_2 (Plan_3 hPl) : arI h2 (P + 2) 2) : rdB h2 (P + 2)), (Mem_3 (Plan_3 hPl) : aln h2 (P + 2) = 256), vkk_n, vkk_i, vkk_r, vkk_l, vkk_d, catS_nil, catS_i, catS_r, catS_l, catS_d, Nat.reduceAdd, Nat.reduceLeDiff, Nat.zero_le, Nat.le_refl, Option.bind_some, Option.toList_some, Option.toList_none, List.cons_append, List.nil_append, or_true, true_or, if_true, if_false, Int32.reduceLT, Int32.reduceLE, not_true, not_false_iff, true_and, and_true, false_and, and_false]
      · simp +decide only [gI_pI, (eq_true (isI_ob oM rfl : isI h2 (P + 1) 1)), true_and, and_true, if_true]
    · obtain ⟨h3, n1, n2, n3, n4⟩ := c_note (c := 5) w5 wf2 (Or.inr rfl)
      have n1 : ev 71 0 [some (.ref (g + 2)), some (.int 5)] [] h2 = _ := n1
      refine ⟨h3, ?_, toG n2 (fun a k z => by omega), n4, Or.inr ⟨ok, n3, (n2.gI (fun z => by omega)).trans old⟩⟩
      by_cases k1 : 1 ≤ vC b L (s + 1)
      · have y1 : ¬ nI (vC b L (s + 1)) < 1 := fun z => by have := (nI_ltI (b := 1) (by omega) (by decide)).mp z; omega
        have y2 : ¬ nI (vC b L (s + 1)) ≤ 256 := fun z => ok ⟨k1, (nI_leI (b := 256) (by omega) (by decide)).mp z⟩
        simp +decide only [e73_18, e73_19, e73_22, e73_23, e73_24, e73_25, e73_28, e73_29, e73_32, e73_35, e73_36, e73_37, e73_40, e73_43, e73_44, e73_47, e73_50, e73_51, o72, pd, y1, y2, n1, vkk_n, vkk_i, vkk_r, vkk_l, vkk_d, catS_nil, catS_i, catS_r, catS_l, catS_d, Nat.reduceAdd, Nat.reduceLeDiff, Nat.zero_le, Nat.le_refl, Option.bind_some, Option.toList_some, Option.toList_none, List.cons_append, List.nil_append, or_true, true_or, if_true, if_false, Int32.reduceLT, Int32.reduceLE, not_true, not_false_iff, true_and, and_true, false_and, and_false]
      · have y1 : nI (vC b L (s + 1)) < 1 := (nI_ltI (b := 1) (by omega) (by decide)).mpr (by omega)
        simp +decide only [e73_18, e73_19, e73_22, e73_23, e73_24, e73_25, e73_28, e73_29, e73_32, e73_35, e73_36, e73_37, e73_40, e73_43, e73_44, e73_47, e73_50, e73_51, o72, pd, y1, n1, vkk_n, vkk_i, vkk_r, vkk_l, vkk_d, catS_nil, catS_i, catS_r, catS_l, catS_d, Nat.reduceAdd, Nat.reduceLeDiff, Nat.zero_le, Nat.le_refl, Option.bind_some, Option.toList_some, Option.toList_none, List.cons_append, List.nil_append, or_true, true_or, if_true, if_false, Int32.reduceLT, Int32.reduceLE, not_true, not_false_iff, true_and, and_true, false_and, and_false]
  have ent : ev 73 0 [some (.ref (g + 2)), none] [] h = ev 73 18 [some (.ref (g + 2)), none] [] h2 := by
    simp +decide only [e73_0, e73_1, e73_3, e73_6, e73_9, e73_10, e73_11, e73_14, e73_17, o7, u3, o71, w3, vkk_n, vkk_i, vkk_r, vkk_l, vkk_d, catS_nil, catS_i, catS_r, catS_l, catS_d, Nat.reduceAdd, Nat.reduceLeDiff, Nat.zero_le, Nat.le_refl, Option.bind_some, Option.toList_some, Option.toList_none, List.cons_append, List.nil_append, or_true, true_or, if_true, if_false, Int32.reduceLT, Int32.reduceLE, not_true, not_false_iff, true_and, and_true, false_and, and_false]
  obtain ⟨h3, m1, m2, m3, m4⟩ := mid
  rw [ent, m1]
  have o73 : ob h3 (g + 2) 7 := Cls_11 m3.1.1
  have F3 := F2.tr m2
  rcases c_pass (y := 4) m3 (by decide) (by decide) with ⟨h4, k1, k2, k3, k4, k5⟩ | ⟨h4, ff, k1, k2, k3, k4, k5⟩
  case inr =>
    have k3 : ev 68 0 [some (.ref (g + 2)), some (.int 4)] [] h3 = _ := k3
    rw [k1]
    refine ⟨fun z => absurd z (by show ¬ ff = 0; omega), fun _ => ⟨h4, ?_, F3.tr (toG k4 (fun a k z => by omega)), k5⟩⟩
    simp +decide only [e73_54, e73_55, e73_56, e73_59, e73_59b, e73_60, o73, k3, vkk_n, vkk_i, vkk_r, vkk_l, vkk_d, catS_nil, catS_i, catS_r, catS_l, catS_d, Nat.reduceAdd, Nat.reduceLeDiff, Nat.zero_le, Nat.le_refl, Option.bind_some, Option.toList_some, Option.toList_none, List.cons_append, List.nil_append, or_true, true_or, if_true, if_false, Int32.reduceLT, Int32.reduceLE, not_true, not_false_iff, true_and, and_true, false_and, and_false]
  have k3 : ev 68 0 [some (.ref (g + 2)), some (.int 4)] [] h3 = _ := k3
  rw [k1]
  have g1 : gI h4 (P + 1) 1 = gI h3 (P + 1) 1 := k4.gI (fun z => by omega)
  refine ⟨fun _ => ⟨h4, ?_, rfl, u2, w2, k2, F3.tr (toG k4 (fun a k z => by omega)), k5, ?_⟩, fun z => absurd rfl z⟩
  · simp +decide only [e73_54, e73_55, e73_56, e73_59, e73_59b, e73_60, o73, k3, vkk_n, vkk_i, vkk_r, vkk_l, vkk_d, catS_nil, catS_i, catS_r, catS_l, catS_d, Nat.reduceAdd, Nat.reduceLeDiff, Nat.zero_le, Nat.le_refl, Option.bind_some, Option.toList_some, Option.toList_none, List.cons_append, List.nil_append, or_true, true_or, if_true, if_false, Int32.reduceLT, Int32.reduceLE, not_true, not_false_iff, true_and, and_true, false_and, and_false]
  · rw [g1]
    rcases m4 with ⟨z1, z2, z3, z4⟩ | ⟨z1, z2, z3⟩
    · exact Or.inl ⟨z1, z2, WF_fr k4 (fun k z => by omega) z3, z4⟩
    · exact Or.inr ⟨z1, WF_fr k4 (fun k z => by omega) z2, z3⟩
set_option maxHeartbeats 4000000 in
theorem c_readForm {h : VG} {g P Q n L TT s : Nat} {b : Nat → Nat} {W : Nat × Nat} (hP : P = g + 8 ∨ P = g + 90) (hQ : Q = P + 4 + 13 * n) (hn : n ≤ 6) (q : RD h g P b L TT s) (hw : WF h g b L W) (e2 : gI h P 2 = nI n) (wid : ∀ f, f < 6 → gI h (P + 4 + 13 * f + 5) 0 = 0 ∧ gI h (P + 4 + 13 * f + 7) 0 = 1) : ((rFrm (tyC b L) n s).1 = 0 → ∃ (h1 : VG) (M : Nat) (W1 : Nat × Nat), ev 74 0 [some (.ref (g + 2)), none, none, none] [] h = some (none, h1) ∧ n < 6 ∧ 1 ≤ M ∧ M ≤ 8 ∧ rFrm (tyC b L) n s = (0, mt (tyC b L) (s + 2) M + 1) ∧ tyC b L s = 8 ∧ tyC b L (s + 1) = 2 ∧ tyC b L (mt (tyC b L) (s + 2) M) = 4 ∧ (∀ j, j < M → tyC b L (mt (tyC b L) (s + 2) j) = 5) ∧ Fr (QR Q) (LFF g P Q) h h1 ∧ RD h1 g P b L TT (mt (tyC b L) (s + 2) M + 1) ∧ DUP h P n (Int64.ofNat (tNm b L (tPl b L (s + 1)))) W W1 (s + 1) ∧ WF h1 g b L (wM b L (s + 2) W1 M) ∧ gI h1 P 2 = nI (n + 1) ∧ gL h1 Q 0 = Int64.ofNat (tNm b L (tPl b L (s + 1))) ∧ CF h1 Q M (mKk b L (s + 2)) (mRr b L (s + 2)) ∧ CL h1 Q (pre (mRr b L (s + 2)) M) (cK (mKk b L (s + 2)) (mRr b L (s + 2)) M)) ∧ (¬ (rFrm (tyC b L) n s).1 = 0 → ∃ h1, ev 74 0 [some (.ref (g + 2)), none, none, none] [] h = some (none, h1) ∧ Fr (PR P) (PF g P) h h1 ∧ ST h1 g (rFrm (tyC b L) n s).1 (tPl b L (rFrm (tyC b L) n s).2)) := by
  have o7 : ob h (g + 2) 7 := Cls_11 q.1.1
  have hPl := pl_of q.1 hP
  have rP0 := q.2.1
  have toG : ∀ {h h1 : VG} {F : Nat → Nat → Prop}, Fr NR F h h1 → (∀ a k, F a k → a = g + 2 ∧ ¬ k = 1 ∧ ¬ k = 2) → Fr (QR Q) (LFF g P Q) h h1 := fun x c => x.mo (fun a z => z.elim) (fun a k z => Or.inl (Or.inl (c a k z)))
  have n6 : nI n = 6 ↔ n = 6 := nI_eq (b := 6) (by omega) (by decide)
  unfold rFrm
  by_cases z6 : n = 6
  · rw [if_pos z6]
    have z6' := n6.mpr z6
    obtain ⟨h1, u1, u2, u3⟩ := c_stop (f := 2) q
    have u1 : ev 70 0 [some (.ref (g + 2)), some (.int 2)] [] h = _ := u1
    refine ⟨fun z => absurd z (by show ¬ (2 : Nat) = 0; decide), fun _ => ⟨h1, ?_, u2.mo (fun a z => z.elim) (fun a k z => by unfold PF; omega), u3⟩⟩
    simp +decide only [e74_0, e74_1, e74_4, e74_7, e74_9, e74_12, e74_13, e74_14, e74_17, e74_17b, e74_18, e74_19, e74_20, e74_22, e74_25, e74_28, e74_29, e74_30, e74_33, e74_36, o7, rf_g rP0, rf_is rP0, e2, z6', u1, (Plan_0 hPl : ob h P 6), (eq_true (isI_ob (Plan_0 hPl : ob h P 6) rfl : isI h P 2)), (rf_g (Plan_1 hPl : rf h P 0 (P + 1)) : gR h P 0 = (P + 1)), (rf_is (Plan_1 hPl : rf h P 0 (P + 1)) : isR h P 0), (rf_g (Plan_2 hPl : rf h P 1 (P + 3)) : gR h P 1 = (P + 3)), (rf_is (Plan_2 hPl : rf h P 1 (P + 3)) : isR h P 1), (Plan_4 hPl : arR h (P + 3) 6), (rdR_6 (Plan_4 hPl : arR h (P + 3) 6) : rdR h (P + 3)), (Plan_5 hPl : aln h (P + 3) = 6), (Mem_0 (Plan_3 hPl) : ob h (P + 1) 5), (eq_true (isI_ob (Mem_0 (Plan_3 hPl) : ob h (P + 1) 5) rfl : isI h (P + 1) 1)), (eq_true (isI_ob (Mem_0 (Plan_3 hPl) : ob h (P + 1) 5) rfl : isI h (P + 1) 2)), (rf_g (Mem_1 (Plan_3 hPl) : rf h (P + 1) 0 (P + 2)) : gR h (P + 1) 0 = (P + 2)), (rf_is (Mem_1 (Plan_3 hPl) : rf h (P + 1) 0 (P + 2)) : isR h (P + 1) 0), (Mem_2 (Plan_3 hPl) : arI h (P + 2) 2), (rdB_2 (Mem_2 (Plan_3 hPl) : arI h (P + 2) 2) : rdB h (P + 2)), (Mem_3 (Plan_3 hPl) : aln h (P + 2) = 256), vkk_n, vkk_i, vkk_r, vkk_l, vkk_d, catS_nil, catS_i, catS_r, catS_l, catS_d, Nat.reduceAdd, Nat.reduceLeDiff, Nat.zero_le, Nat.le_refl, Option.bind_some, Option.toList_some, Option.toList_none, List.cons_append, List.nil_append, or_true, true_or, if_true, if_false, Int32.reduceLT, Int32.reduceLE, not_true, not_false_iff, true_and, and_true, false_and, and_false]
  rw [if_neg z6]
  have z6' : ¬ nI n = 6 := fun z => z6 (n6.mp z)
  have toP : ∀ {h h1 : VG}, Fr (QR Q) (LFF g P Q) h h1 → Fr (PR P) (PF g P) h h1 := fun x => x.mo (fun a z => by unfold QR at z; unfold PR; omega) (fun a k z => by unfold LFF QF at z; unfold PF; omega)
  rcases c_pass (y := 8) q (by decide) (by decide) with ⟨h1, u1, u2, u3, u4, u5⟩ | ⟨h1, ff, u1, u2, u3, u4, u5⟩
  case inr =>
    have u3 : ev 68 0 [some (.ref (g + 2)), some (.int 8)] [] h = _ := u3
    rw [u1, rB_n _ _ u2]
    refine ⟨fun z => absurd z (by show ¬ ff = 0; omega), fun _ => ⟨h1, ?_, toP (toG u4 (fun a k z => by omega)), u5⟩⟩
    simp +decide only [e74_0, e74_1, e74_4, e74_7, e74_9, e74_12, e74_13, e74_14, e74_17, e74_17b, e74_18, e74_19, e74_20, e74_22, e74_25, e74_28, e74_29, e74_30, e74_33, e74_36, o7, rf_g rP0, rf_is rP0, e2, z6', u3, (Plan_0 hPl : ob h P 6), (eq_true (isI_ob (Plan_0 hPl : ob h P 6) rfl : isI h P 2)), (rf_g (Plan_1 hPl : rf h P 0 (P + 1)) : gR h P 0 = (P + 1)), (rf_is (Plan_1 hPl : rf h P 0 (P + 1)) : isR h P 0), (rf_g (Plan_2 hPl : rf h P 1 (P + 3)) : gR h P 1 = (P + 3)), (rf_is (Plan_2 hPl : rf h P 1 (P + 3)) : isR h P 1), (Plan_4 hPl : arR h (P + 3) 6), (rdR_6 (Plan_4 hPl : arR h (P + 3) 6) : rdR h (P + 3)), (Plan_5 hPl : aln h (P + 3) = 6), (Mem_0 (Plan_3 hPl) : ob h (P + 1) 5), (eq_true (isI_ob (Mem_0 (Plan_3 hPl) : ob h (P + 1) 5) rfl : isI h (P + 1) 1)), (eq_true (isI_ob (Mem_0 (Plan_3 hPl) : ob h (P + 1) 5) rfl : isI h (P + 1) 2)), (rf_g (Mem_1 (Plan_3 hPl) : rf h (P + 1) 0 (P + 2)) : gR h (P + 1) 0 = (P + 2)), (rf_is (Mem_1 (Plan_3 hPl) : rf h (P + 1) 0 (P + 2)) : isR h (P + 1) 0), (Mem_2 (Plan_3 hPl) : arI h (P + 2) 2), (rdB_2 (Mem_2 (Plan_3 hPl) : arI h (P + 2) 2) : rdB h (P + 2)), (Mem_3 (Plan_3 hPl) : aln h (P + 2) = 256), vkk_n, vkk_i, vkk_r, vkk_l, vkk_d, catS_nil, catS_i, catS_r, catS_l, catS_d, Nat.reduceAdd, Nat.reduceLeDiff, Nat.zero_le, Nat.le_refl, Option.bind_some, Option.toList_some, Option.toList_none, List.cons_append, List.nil_append, or_true, true_or, if_true, if_false, Int32.reduceLT, Int32.reduceLE, not_true, not_false_iff, true_and, and_true, false_and, and_false]
  have u3 : ev 68 0 [some (.ref (g + 2)), some (.int 8)] [] h = _ := u3
  rw [u1, rB_0]
  have o71 : ob h1 (g + 2) 7 := Cls_11 u5.1.1
  rcases c_pass (y := 2) u5 (by decide) (by decide) with ⟨h2, w1, w2, w3, w4, w5⟩ | ⟨h2, ff, w1, w2, w3, w4, w5⟩
  case inr =>
    have w3 : ev 68 0 [some (.ref (g + 2)), some (.int 2)] [] h1 = _ := w3
    rw [w1, rB_n _ _ w2]
    refine ⟨fun z => absurd z (by show ¬ ff = 0; omega), fun _ => ⟨h2, ?_, toP ((toG u4 (fun a k z => by omega)).tr (toG w4 (fun a k z => by omega))), w5⟩⟩
    simp +decide only [e74_0, e74_1, e74_4, e74_7, e74_9, e74_12, e74_13, e74_14, e74_17, e74_17b, e74_18, e74_19, e74_20, e74_22, e74_25, e74_28, e74_29, e74_30, e74_33, e74_36, o7, rf_g rP0, rf_is rP0, e2, z6', u3, o71, w3, (Plan_0 hPl : ob h P 6), (eq_true (isI_ob (Plan_0 hPl : ob h P 6) rfl : isI h P 2)), (rf_g (Plan_1 hPl : rf h P 0 (P + 1)) : gR h P 0 = (P + 1)), (rf_is (Plan_1 hPl : rf h P 0 (P + 1)) : isR h P 0), (rf_g (Plan_2 hPl : rf h P 1 (P + 3)) : gR h P 1 = (P + 3)), (rf_is (Plan_2 hPl : rf h P 1 (P + 3)) : isR h P 1), (Plan_4 hPl : arR h (P + 3) 6), (rdR_6 (Plan_4 hPl : arR h (P + 3) 6) : rdR h (P + 3)), (Plan_5 hPl : aln h (P + 3) = 6), (Mem_0 (Plan_3 hPl) : ob h (P + 1) 5), (eq_true (isI_ob (Mem_0 (Plan_3 hPl) : ob h (P + 1) 5) rfl : isI h (P + 1) 1)), (eq_true (isI_ob (Mem_0 (Plan_3 hPl) : ob h (P + 1) 5) rfl : isI h (P + 1) 2)), (rf_g (Mem_1 (Plan_3 hPl) : rf h (P + 1) 0 (P + 2)) : gR h (P + 1) 0 = (P + 2)), (rf_is (Mem_1 (Plan_3 hPl) : rf h (P + 1) 0 (P + 2)) : isR h (P + 1) 0), (Mem_2 (Plan_3 hPl) : arI h (P + 2) 2), (rdB_2 (Mem_2 (Plan_3 hPl) : arI h (P + 2) 2) : rdB h (P + 2)), (Mem_3 (Plan_3 hPl) : aln h (P + 2) = 256), vkk_n, vkk_i, vkk_r, vkk_l, vkk_d, catS_nil, catS_i, catS_r, catS_l, catS_d, Nat.reduceAdd, Nat.reduceLeDiff, Nat.zero_le, Nat.le_refl, Option.bind_some, Option.toList_some, Option.toList_none, List.cons_append, List.nil_append, or_true, true_or, if_true, if_false, Int32.reduceLT, Int32.reduceLE, not_true, not_false_iff, true_and, and_true, false_and, and_false]
  have w3 : ev 68 0 [some (.ref (g + 2)), some (.int 2)] [] h1 = _ := w3
  rw [w1, rB_0]
  have ent : ev 74 0 [some (.ref (g + 2)), none, none, none] [] h = ev 74 37 [some (.ref (g + 2)), none, none, none] [] h2 := by
    simp +decide only [e74_0, e74_1, e74_4, e74_7, e74_9, e74_12, e74_13, e74_14, e74_17, e74_17b, e74_18, e74_19, e74_20, e74_22, e74_25, e74_28, e74_29, e74_30, e74_33, e74_36, o7, rf_g rP0, rf_is rP0, e2, z6', u3, o71, w3, (Plan_0 hPl : ob h P 6), (eq_true (isI_ob (Plan_0 hPl : ob h P 6) rfl : isI h P 2)), (rf_g (Plan_1 hPl : rf h P 0 (P + 1)) : gR h P 0 = (P + 1)), (rf_is (Plan_1 hPl : rf h P 0 (P + 1)) : isR h P 0), (rf_g (Plan_2 hPl : rf h P 1 (P + 3)) : gR h P 1 = (P + 3)), (rf_is (Plan_2 hPl : rf h P 1 (P + 3)) : isR h P 1), (Plan_4 hPl : arR h (P + 3) 6), (rdR_6 (Plan_4 hPl : arR h (P + 3) 6) : rdR h (P + 3)), (Plan_5 hPl : aln h (P + 3) = 6), (Mem_0 (Plan_3 hPl) : ob h (P + 1) 5), (eq_true (isI_ob (Mem_0 (Plan_3 hPl) : ob h (P + 1) 5) rfl : isI h (P + 1) 1)), (eq_true (isI_ob (Mem_0 (Plan_3 hPl) : ob h (P + 1) 5) rfl : isI h (P + 1) 2)), (rf_g (Mem_1 (Plan_3 hPl) : rf h (P + 1) 0 (P + 2)) : gR h (P + 1) 0 = (P + 2)), (rf_is (Mem_1 (Plan_3 hPl) : rf h (P + 1) 0 (P + 2)) : isR h (P + 1) 0), (Mem_2 (Plan_3 hPl) : arI h (P + 2) 2), (rdB_2 (Mem_2 (Plan_3 hPl) : arI h (P + 2) 2) : rdB h (P + 2)), (Mem_3 (Plan_3 hPl) : aln h (P + 2) = 256), vkk_n, vkk_i, vkk_r, vkk_l, vkk_d, catS_nil, catS_i, catS_r, catS_l, catS_d, Nat.reduceAdd, Nat.reduceLeDiff, Nat.zero_le, Nat.le_refl, Option.bind_some, Option.toList_some, Option.toList_none, List.cons_append, List.nil_append, or_true, true_or, if_true, if_false, Int32.reduceLT, Int32.reduceLE, not_true, not_false_iff, true_and, and_true, false_and, and_false]
  rw [ent]
  have F2 : Fr NR (fun a k => a = g + 2 ∧ k = 3) h h2 := u4.tr w4
  have F2' : Fr (QR Q) (LFF g P Q) h h2 := toG F2 (fun a k z => by omega)
  have o72 : ob h2 (g + 2) 7 := Cls_11 w5.1.1
  have hPl2 := pl_of w5.1 hP
  have rP2 := w5.2.1
  have e22 : gI h2 P 2 = nI n := (F2.gI (fun z => by omega)).trans e2
  have wf2 : WF h2 g b L W := WF_fr F2 (fun k z => by omega) hw
  -- the name
  have k1 : kd b L (s + 1) = 1 := (cTy_0 (kd_or b L (s + 1))).2.2.2.1.mp w2
  have nmv : aL h2 (g + 6) (s + 1) = Int64.ofNat (tNm b L (tPl b L (s + 1))) := (w5.2.2.1 (s + 1) (by have := w5.2.2.2.2.1; omega)).2.2.2.1 k1
  have v1 : vp_in (nI (s + 1)) 401 := vp_in_nI (by have := w5.2.2.2.2.1; have := w5.2.2.2.2.2.1; omega) (by decide)
  have v2 : (nI (s + 1)).toNatClampNeg = s + 1 := nI_clamp (by have := w5.2.2.2.2.1; have := w5.2.2.2.2.2.1; omega)
  have nxt : gI h2 (g + 2) 3 = nI (s + 1 + 1) := w5.2.2.2.1
  have sb : nI (s + 1 + 1) - 1 = nI (s + 1) := by rw [show (1 : Int32) = nI 1 from rfl, pk_sub (by omega)]; rfl
  generalize Int64.ofNat (tNm b L (tPl b L (s + 1))) = NM at nmv ⊢
  have nmo : ∀ f, gL h2 (P + 4 + 13 * f) 0 = gL h (P + 4 + 13 * f) 0 := fun f => F2.gL (fun z => by omega)
  -- told already?
  have has : ∃ (h3 : VG) (W1 : Nat × Nat), ev 74 37 [some (.ref (g + 2)), none, none, none] [] h2 = ev 74 68 [some (.ref (g + 2)), some (.long NM), none, none] [] h3 ∧ Fr NR (fun a k => a = g + 2 ∧ (k = 0 ∨ k = 4)) h2 h3 ∧ RD h3 g P b L TT (s + 1 + 1) ∧ WF h3 g b L W1 ∧ DUP h P n NM W W1 (s + 1) := by
    rcases l_has P n NM h2 hn hPl2 e22 n 0 (by omega) with ⟨⟨f, f1, f2, f3⟩, hv⟩ | ⟨f1, hv⟩
    · have hv : ev 63 2 [some (.ref P), some (.long NM), none, some (.int 0)] [] h2 = _ := hv
      obtain ⟨h3, n1, n2, n3, n4⟩ := c_note (c := 3) w5 wf2 (Or.inl rfl)
      have n1 : ev 71 0 [some (.ref (g + 2)), some (.int 3)] [] h2 = _ := n1
      refine ⟨h3, wN W 3 (s + 1), ?_, n2, n4, n3, Or.inl ⟨⟨f, f2, (nmo f).symm.trans f3⟩, rfl⟩⟩
      simp +decide only [e74_37, e74_38, e74_41, e74_44, e74_45, e74_48, e74_49, e74_50, e74_51, e74_52, e74_53, e74_56, e74_57, e74_60, e74_63, e74_64, e74_65, e63_0, e63_1, o72, rf_g rP2, rf_is rP2, nxt, sb, v1, v2, nmv, hv, n1, (Cls_11 w5.1.1 : ob h2 (g + 2) 7), (rf_g (Cls_12 w5.1.1 : rf h2 (g + 2) 1 (g + 3)) : gR h2 (g + 2) 1 = (g + 3)), (rf_is (Cls_12 w5.1.1 : rf h2 (g + 2) 1 (g + 3)) : isR h2 (g + 2) 1), (Tok_0 (Cls_13 w5.1.1) : ob h2 (g + 3) 9), (rf_g (Tok_1 (Cls_13 w5.1.1) : rf h2 (g + 3) 0 (g + 4)) : gR h2 (g + 3) 0 = (g + 4)), (rf_is (Tok_1 (Cls_13 w5.1.1) : rf h2 (g + 3) 0 (g + 4)) : isR h2 (g + 3) 0), (rf_g (Tok_2 (Cls_13 w5.1.1) : rf h2 (g + 3) 1 (g + 5)) : gR h2 (g + 3) 1 = (g + 5)), (rf_is (Tok_2 (Cls_13 w5.1.1) : rf h2 (g + 3) 1 (g + 5)) : isR h2 (g + 3) 1), (rf_g (Tok_3 (Cls_13 w5.1.1) : rf h2 (g + 3) 2 (g + 6)) : gR h2 (g + 3) 2 = (g + 6)), (rf_is (Tok_3 (Cls_13 w5.1.1) : rf h2 (g + 3) 2 (g + 6)) : isR h2 (g + 3) 2), (rf_g (Tok_4 (Cls_13 w5.1.1) : rf h2 (g + 3) 3 (g + 7)) : gR h2 (g + 3) 3 = (g + 7)), (rf_is (Tok_4 (Cls_13 w5.1.1) : rf h2 (g + 3) 3 (g + 7)) : isR h2 (g + 3) 3), (Tok_5 (Cls_13 w5.1.1) : arI h2 (g + 4) 0), (rdI_0 (Tok_5 (Cls_13 w5.1.1) : arI h2 (g + 4) 0) : rdI h2 (g + 4)), (Tok_6 (Cls_13 w5.1.1) : aln h2 (g + 4) = 401), (Tok_7 (Cls_13 w5.1.1) : arI h2 (g + 5) 0), (rdI_0 (Tok_7 (Cls_13 w5.1.1) : arI h2 (g + 5) 0) : rdI h2 (g + 5)), (Tok_8 (Cls_13 w5.1.1) : aln h2 (g + 5) = 401), (Tok_9 (Cls_13 w5.1.1) : arL h2 (g + 6)), (Tok_10 (Cls_13 w5.1.1) : aln h2 (g + 6) = 401), (Tok_11 (Cls_13 w5.1.1) : arL h2 (g + 7)), (Tok_12 (Cls_13 w5.1.1) : aln h2 (g + 7) = 14), (Plan_0 hPl2 : ob h2 P 6), (eq_true (isI_ob (Plan_0 hPl2 : ob h2 P 6) rfl : isI h2 P 2)), (rf_g (Plan_1 hPl2 : rf h2 P 0 (P + 1)) : gR h2 P 0 = (P + 1)), (rf_is (Plan_1 hPl2 : rf h2 P 0 (P + 1)) : isR h2 P 0), (rf_g (Plan_2 hPl2 : rf h2 P 1 (P + 3)) : gR h2 P 1 = (P + 3)), (rf_is (Plan_2 hPl2 : rf h2 P 1 (P + 3)) : isR h2 P 1), (Plan_4 hPl2 : arR h2 (P + 3) 6), (rdR_6 (Plan_4 hPl2 : arR h2 (P + 3) 6) : rdR h2 (P + 3)), (Plan_5 hPl2 : aln h2 (P + 3) = 6), (Mem_0 (Plan_3 hPl2) : ob h2 (P + 1) 5), (eq_true (isI_ob (Mem_0 (Plan_3 hPl2) : ob h2 (P + 1) 5) rfl : isI h2 (P + 1) 1)), (eq_true (isI_ob (Mem_0 (Plan_3 hPl2) : ob h2 (P + 1) 5) rfl : isI h2 (P + 1) 2)), (rf_g (Mem_1 (Plan_3 hPl2) : rf h2 (P + 1) 0 (P + 2)) : gR h2 (P + 1) 0 = (P + 2)), (rf_is (Mem_1 (Plan_3 hPl2) : rf h2 (P + 1) 0 (P + 2)) : isR h2 (P + 1) 0), (Mem_2 (Plan_3 hPl2) : arI h2 (P + 2) 2), (rdB_2 (Mem_2 (Plan_3 hPl2) : arI h2 (P + 2) 2) : rdB h2 (P + 2)), (Mem_3 (Plan_3 hPl2) : aln h2 (P + 2) = 256), vkk_n, vkk_i, vkk_r, vkk_l, vkk_d, catS_nil, catS_i, catS_r, catS_l, catS_d, Nat.reduceAdd, Nat.reduceLeDiff, Nat.zero_le, Nat.le_refl, Option.bind_some, Option.toList_some, Option.toList_none, List.cons_append, List.nil_append, or_true, true_or, if_true, if_false, Int32.reduceLT, Int32.reduceLE, not_true, not_false_iff, true_and, and_true, false_and, and_false]
    · have hv : ev 63 2 [some (.ref P), some (.long NM), none, some (.int 0)] [] h2 = _ := hv
      refine ⟨h2, W, ?_, Fr.rfl _, w5, wf2, Or.inr ⟨fun f hf y => f1 f (Nat.zero_le _) hf ((nmo f).trans y), rfl⟩⟩
      simp +decide only [e74_37, e74_38, e74_41, e74_44, e74_45, e74_48, e74_49, e74_50, e74_51, e74_52, e74_53, e74_56, e74_57, e74_60, e74_63, e74_64, e74_65, e63_0, e63_1, o72, rf_g rP2, rf_is rP2, nxt, sb, v1, v2, nmv, hv, (Cls_11 w5.1.1 : ob h2 (g + 2) 7), (rf_g (Cls_12 w5.1.1 : rf h2 (g + 2) 1 (g + 3)) : gR h2 (g + 2) 1 = (g + 3)), (rf_is (Cls_12 w5.1.1 : rf h2 (g + 2) 1 (g + 3)) : isR h2 (g + 2) 1), (Tok_0 (Cls_13 w5.1.1) : ob h2 (g + 3) 9), (rf_g (Tok_1 (Cls_13 w5.1.1) : rf h2 (g + 3) 0 (g + 4)) : gR h2 (g + 3) 0 = (g + 4)), (rf_is (Tok_1 (Cls_13 w5.1.1) : rf h2 (g + 3) 0 (g + 4)) : isR h2 (g + 3) 0), (rf_g (Tok_2 (Cls_13 w5.1.1) : rf h2 (g + 3) 1 (g + 5)) : gR h2 (g + 3) 1 = (g + 5)), (rf_is (Tok_2 (Cls_13 w5.1.1) : rf h2 (g + 3) 1 (g + 5)) : isR h2 (g + 3) 1), (rf_g (Tok_3 (Cls_13 w5.1.1) : rf h2 (g + 3) 2 (g + 6)) : gR h2 (g + 3) 2 = (g + 6)), (rf_is (Tok_3 (Cls_13 w5.1.1) : rf h2 (g + 3) 2 (g + 6)) : isR h2 (g + 3) 2), (rf_g (Tok_4 (Cls_13 w5.1.1) : rf h2 (g + 3) 3 (g + 7)) : gR h2 (g + 3) 3 = (g + 7)), (rf_is (Tok_4 (Cls_13 w5.1.1) : rf h2 (g + 3) 3 (g + 7)) : isR h2 (g + 3) 3), (Tok_5 (Cls_13 w5.1.1) : arI h2 (g + 4) 0), (rdI_0 (Tok_5 (Cls_13 w5.1.1) : arI h2 (g + 4) 0) : rdI h2 (g + 4)), (Tok_6 (Cls_13 w5.1.1) : aln h2 (g + 4) = 401), (Tok_7 (Cls_13 w5.1.1) : arI h2 (g + 5) 0), (rdI_0 (Tok_7 (Cls_13 w5.1.1) : arI h2 (g + 5) 0) : rdI h2 (g + 5)), (Tok_8 (Cls_13 w5.1.1) : aln h2 (g + 5) = 401), (Tok_9 (Cls_13 w5.1.1) : arL h2 (g + 6)), (Tok_10 (Cls_13 w5.1.1) : aln h2 (g + 6) = 401), (Tok_11 (Cls_13 w5.1.1) : arL h2 (g + 7)), (Tok_12 (Cls_13 w5.1.1) : aln h2 (g + 7) = 14), (Plan_0 hPl2 : ob h2 P 6), (eq_true (isI_ob (Plan_0 hPl2 : ob h2 P 6) rfl : isI h2 P 2)), (rf_g (Plan_1 hPl2 : rf h2 P 0 (P + 1)) : gR h2 P 0 = (P + 1)), (rf_is (Plan_1 hPl2 : rf h2 P 0 (P + 1)) : isR h2 P 0), (rf_g (Plan_2 hPl2 : rf h2 P 1 (P + 3)) : gR h2 P 1 = (P + 3)), (rf_is (Plan_2 hPl2 : rf h2 P 1 (P + 3)) : isR h2 P 1), (Plan_4 hPl2 : arR h2 (P + 3) 6), (rdR_6 (Plan_4 hPl2 : arR h2 (P + 3) 6) : rdR h2 (P + 3)), (Plan_5 hPl2 : aln h2 (P + 3) = 6), (Mem_0 (Plan_3 hPl2) : ob h2 (P + 1) 5), (eq_true (isI_ob (Mem_0 (Plan_3 hPl2) : ob h2 (P + 1) 5) rfl : isI h2 (P + 1) 1)), (eq_true (isI_ob (Mem_0 (Plan_3 hPl2) : ob h2 (P + 1) 5) rfl : isI h2 (P + 1) 2)), (rf_g (Mem_1 (Plan_3 hPl2) : rf h2 (P + 1) 0 (P + 2)) : gR h2 (P + 1) 0 = (P + 2)), (rf_is (Mem_1 (Plan_3 hPl2) : rf h2 (P + 1) 0 (P + 2)) : isR h2 (P + 1) 0), (Mem_2 (Plan_3 hPl2) : arI h2 (P + 2) 2), (rdB_2 (Mem_2 (Plan_3 hPl2) : arI h2 (P + 2) 2) : rdB h2 (P + 2)), (Mem_3 (Plan_3 hPl2) : aln h2 (P + 2) = 256), vkk_n, vkk_i, vkk_r, vkk_l, vkk_d, catS_nil, catS_i, catS_r, catS_l, catS_d, Nat.reduceAdd, Nat.reduceLeDiff, Nat.zero_le, Nat.le_refl, Option.bind_some, Option.toList_some, Option.toList_none, List.cons_append, List.nil_append, or_true, true_or, if_true, if_false, Int32.reduceLT, Int32.reduceLE, not_true, not_false_iff, true_and, and_true, false_and, and_false]
  obtain ⟨h3, W1, a1, a2, a3, a4, a5⟩ := has
  rw [a1]
  have F3 : Fr (QR Q) (LFF g P Q) h h3 := F2'.tr (toG a2 (fun a k z => by omega))
  have o73 : ob h3 (g + 2) 7 := Cls_11 a3.1.1
  have hPl3 := pl_of a3.1 hP
  have rP3 := a3.2.1
  have e23 : gI h3 P 2 = nI n := (a2.gI (fun z => by omega)).trans e22
  have vn : vp_in (nI n) 6 := vp_in_nI (by omega) (by decide)
  have vn2 : (nI n).toNatClampNeg = n := nI_clamp (by omega)
  have aRow : aR h3 (P + 3) n = some Q := by rw [hQ]; exact Plan_6 hPl3 n (by omega)
  have hS3 : ShForm h3 Q := by rw [hQ]; exact Plan_7 hPl3 n (by omega)
  have oQ3 := Form_0 hS3
  obtain ⟨h4, b1, b2, b3, b4, b5⟩ := c_fbegin h3 Q NM hS3
  have B2 : Fr (QR Q) (LFF g P Q) h3 h4 := b2.mo (fun a z => z.elim) (fun a k z => Or.inl (Or.inr (Or.inl z)))
  have q4 : RD h4 g P b L TT (s + 1 + 1) := RD_fr b2 (fun a z => z.elim) ((b2.gI (fun z => by omega)).trans a3.2.2.2.1) a3.2.2.2.2.1 a3
  have wf4 : WF h4 g b L W1 := WF_fr b2 (fun k z => by omega) a4
  have o74 : ob h4 (g + 2) 7 := Cls_11 q4.1.1
  have ent2 : ev 74 68 [some (.ref (g + 2)), some (.long NM), none, none] [] h3 = ev 74 89 [some (.ref (g + 2)), some (.long NM), none, some (.ref Q)] [] h4 := by
    simp +decide only [e74_68, e74_69, e74_72, e74_75, e74_76, e74_79, e74_82, e74_83, e74_84, e74_85, e74_86, o73, rf_g rP3, rf_is rP3, e23, vn, vn2, aRow, vrf_some, oQ3, b1, (Plan_0 hPl3 : ob h3 P 6), (eq_true (isI_ob (Plan_0 hPl3 : ob h3 P 6) rfl : isI h3 P 2)), (rf_g (Plan_1 hPl3 : rf h3 P 0 (P + 1)) : gR h3 P 0 = (P + 1)), (rf_is (Plan_1 hPl3 : rf h3 P 0 (P + 1)) : isR h3 P 0), (rf_g (Plan_2 hPl3 : rf h3 P 1 (P + 3)) : gR h3 P 1 = (P + 3)), (rf_is (Plan_2 hPl3 : rf h3 P 1 (P + 3)) : isR h3 P 1), (Plan_4 hPl3 : arR h3 (P + 3) 6), (rdR_6 (Plan_4 hPl3 : arR h3 (P + 3) 6) : rdR h3 (P + 3)), (Plan_5 hPl3 : aln h3 (P + 3) = 6), (Mem_0 (Plan_3 hPl3) : ob h3 (P + 1) 5), (eq_true (isI_ob (Mem_0 (Plan_3 hPl3) : ob h3 (P + 1) 5) rfl : isI h3 (P + 1) 1)), (eq_true (isI_ob (Mem_0 (Plan_3 hPl3) : ob h3 (P + 1) 5) rfl : isI h3 (P + 1) 2)), (rf_g (Mem_1 (Plan_3 hPl3) : rf h3 (P + 1) 0 (P + 2)) : gR h3 (P + 1) 0 = (P + 2)), (rf_is (Mem_1 (Plan_3 hPl3) : rf h3 (P + 1) 0 (P + 2)) : isR h3 (P + 1) 0), (Mem_2 (Plan_3 hPl3) : arI h3 (P + 2) 2), (rdB_2 (Mem_2 (Plan_3 hPl3) : arI h3 (P + 2) 2) : rdB h3 (P + 2)), (Mem_3 (Plan_3 hPl3) : aln h3 (P + 2) = 256), vkk_n, vkk_i, vkk_r, vkk_l, vkk_d, catS_nil, catS_i, catS_r, catS_l, catS_d, Nat.reduceAdd, Nat.reduceLeDiff, Nat.zero_le, Nat.le_refl, Option.bind_some, Option.toList_some, Option.toList_none, List.cons_append, List.nil_append, or_true, true_or, if_true, if_false, Int32.reduceLT, Int32.reduceLE, not_true, not_false_iff, true_and, and_true, false_and, and_false]
  rw [ent2]
  have F4 := F3.tr B2
  have cf4 : CF h4 Q 0 (mKk b L (s + 2)) (mRr b L (s + 2)) := ⟨b4, b5, fun j hj => absurd hj (Nat.not_lt_zero _), fun i hi => absurd hi (Nat.not_lt_zero _)⟩
  obtain ⟨rm0, rm1⟩ := l_mem g P Q n L TT (s + 2) b W1 (by omega) hQ (by omega) hP 9 0 h4 none rfl (by decide) q4 ((ShForm_kp b2.1 Q).mpr hS3) cf4 wf4 (fun j hj => absurd hj (Nat.not_lt_zero _))
  by_cases ok : (rMem (tyC b L) 9 0 (s + 2)).1 = 0
  case neg =>
    obtain ⟨h5, k1, k2, k3⟩ := rm1 ok
    have k1 : ev 75 2 [some (.ref (g + 2)), some (.ref Q), some (.int 0), none] [] h4 = _ := k1
    have e : rB (rMem (tyC b L) 9 0 (s + 1 + 1)) (fun s3 => rP (tyC b L) 4 s3) = rMem (tyC b L) 9 0 (s + 2) := if_neg ok
    rw [e]
    refine ⟨fun z => absurd z ok, fun _ => ⟨h5, ?_, toP (F4.tr (k2.mo (fun a z => z) (fun a k z => Or.inl (by unfold QM at z; unfold QF; omega)))), k3⟩⟩
    simp +decide only [e74_89, e74_90, e74_91, e74_94, e74_97, e74_98, e74_99, e74_102, e74_105, e74_106, e74_122, e75_0, e75_1, o74, k1, vkk_n, vkk_i, vkk_r, vkk_l, vkk_d, catS_nil, catS_i, catS_r, catS_l, catS_d, Nat.reduceAdd, Nat.reduceLeDiff, Nat.zero_le, Nat.le_refl, Option.bind_some, Option.toList_some, Option.toList_none, List.cons_append, List.nil_append, or_true, true_or, if_true, if_false, Int32.reduceLT, Int32.reduceLE, not_true, not_false_iff, true_and, and_true, false_and, and_false]
  obtain ⟨h5, M, k1, k2, M1, M8, k3, k4, k5, k6, k7, k8⟩ := rm0 ok
  clear rm0 rm1
  have k7w : KINDS (tyC b L) (s + 2) M := k7
  clear k7
  have k1 : ev 75 2 [some (.ref (g + 2)), some (.ref Q), some (.int 0), none] [] h4 = _ := k1
  have k3 : rMem (tyC b L) 9 0 (s + 1 + 1) = (0, mt (tyC b L) (s + 2) M) := k3
  rw [k3, rB_0]
  have o75 : ob h5 (g + 2) 7 := Cls_11 k4.1.1
  have F5 := F4.tr (k2.mo (fun a z => z) (fun a k z => Or.inl (by unfold QM at z; unfold QF; omega)))
  rcases c_pass (y := 4) k4 (by decide) (by decide) with ⟨h6, x1, x2, x3, x4, x5⟩ | ⟨h6, ff, x1, x2, x3, x4, x5⟩
  case inr =>
    have x3 : ev 68 0 [some (.ref (g + 2)), some (.int 4)] [] h5 = _ := x3
    rw [x1]
    refine ⟨fun z => absurd z (by show ¬ ff = 0; omega), fun _ => ⟨h6, ?_, toP (F5.tr (toG x4 (fun a k z => by omega))), x5⟩⟩
    simp +decide only [e74_89, e74_90, e74_91, e74_94, e74_97, e74_98, e74_99, e74_102, e74_105, e74_106, e74_122, e75_0, e75_1, o74, k1, o75, x3, vkk_n, vkk_i, vkk_r, vkk_l, vkk_d, catS_nil, catS_i, catS_r, catS_l, catS_d, Nat.reduceAdd, Nat.reduceLeDiff, Nat.zero_le, Nat.le_refl, Option.bind_some, Option.toList_some, Option.toList_none, List.cons_append, List.nil_append, or_true, true_or, if_true, if_false, Int32.reduceLT, Int32.reduceLE, not_true, not_false_iff, true_and, and_true, false_and, and_false]
  have x3 : ev 68 0 [some (.ref (g + 2)), some (.int 4)] [] h5 = _ := x3
  rw [x1]
  have F6 := F5.tr (toG x4 (fun a k z => by omega))
  have hPl6 := pl_of x5.1 hP
  have hS6 : ShForm h6 Q := by rw [hQ]; exact Plan_7 hPl6 n (by omega)
  have wd := wid n (by omega)
  rw [← hQ] at wd
  have cf6 : CF h6 Q M (mKk b L (s + 2)) (mRr b L (s + 2)) := CF_fr x4 (fun a z => z.elim) (fun k z => by omega) k5
  have pl := pre_le (mRr b L (s + 2)) M (fun j _ => mR_b b L (s + 2) j) M (Nat.le_refl _)
  have k10 : ∀ i, i < pre (mRr b L (s + 2)) M → cK (mKk b L (s + 2)) (mRr b L (s + 2)) M i < 10 := fun i hi => by
    obtain ⟨j, x, hj, hx, rfl⟩ := pre_cell (mRr b L (s + 2)) M i hi
    rw [cK_at _ _ M j x hj hx]
    have t5 := k7w j hj
    have ko := kd_or b L (mt (tyC b L) (s + 2) j)
    have := (cTy_0 ko).2.2.2.2.2.2.1.mp t5
    unfold mKk
    omega
  obtain ⟨h7, y1, y2, y3⟩ := c_layOut h6 g Q (pre (mRr b L (s + 2)) M) (cK (mKk b L (s + 2)) (mRr b L (s + 2)) M) (by omega) (by omega) k10 x5.1 hS6 ((F6.gI (fun z => by unfold LFF QF at z; omega)).trans wd.1) ((F6.gI (fun z => by unfold LFF QF at z; omega)).trans wd.2) cf6.2.1 cf6.2.2.2
  have o76 : ob h6 (g + 2) 7 := Cls_11 x5.1.1
  have oQ6 := Form_0 hS6
  have q7 : RD h7 g P b L TT (mt (tyC b L) (s + 2) M + 1) := RD_fr y2 (fun a z => by omega) ((y2.gI (fun z => by omega)).trans x5.2.2.2.1) x5.2.2.2.2.1 x5
  have o77 : ob h7 (g + 2) 7 := Cls_11 q7.1.1
  have rP7 := q7.2.1
  have hPl7 := pl_of q7.1 hP
  have e26 : gI h6 P 2 = nI n := (x4.gI (fun z => by omega)).trans ((k2.gI (fun z => by unfold QM at z; omega)).trans ((b2.gI (fun z => by omega)).trans e23))
  have e27 : gI h7 P 2 = nI n := (y2.gI (fun z => by omega)).trans e26
  have oP7 : ob h7 P 6 := Plan_0 hPl7
  have x8 : Fr (QR Q) (LFF g P Q) h7 (pI h7 P 2 (nI (n + 1))) := Fr_pI _ _ _ _ (Or.inr ⟨rfl, rfl⟩)
  have x8' : Fr NR (fun a k => a = P ∧ k = 2) h7 (pI h7 P 2 (nI (n + 1))) := Fr_pI _ _ _ _ ⟨rfl, rfl⟩
  have F7 : Fr (QR Q) (LFF g P Q) h h7 := F6.tr (y2.mo (fun a z => by unfold QR; omega) (fun a k z => Or.inl (Or.inr (Or.inr z))))
  have yx : Fr (fun a => Q + 5 < a ∧ a < Q + 13) (fun a k => ((a = Q + 5 ∨ a = Q + 7) ∧ (k = 2 ∨ k = 3)) ∨ (a = P ∧ k = 2)) h6 (pI h7 P 2 (nI (n + 1))) := (y2.mo (fun a z => z) (fun a k z => Or.inl z)).tr (x8'.mo (fun a z => z.elim) (fun a k z => Or.inr z))
  have cl7 : CL (pI h7 P 2 (nI (n + 1))) Q (pre (mRr b L (s + 2)) M) (cK (mKk b L (s + 2)) (mRr b L (s + 2)) M) := by
    obtain ⟨z1, z2, z3, z4, z5⟩ := y3
    refine ⟨(x8'.gI (fun z => by omega)).trans z1, (x8'.gI (fun z => by omega)).trans z2, (x8'.gI (fun z => by omega)).trans z3, (x8'.gI (fun z => by omega)).trans z4, fun i hi => ?_⟩
    simp only [aI_pI]
    exact z5 i hi
  refine ⟨fun _ => ⟨pI h7 P 2 (nI (n + 1)), M, W1, ?_, by omega, M1, M8, rfl, u2, w2, x2, k7w, F7.tr x8, RD_fr x8' (fun a z => z.elim) ((x8'.gI (fun z => by omega)).trans q7.2.2.2.1) q7.2.2.2.2.1 q7, a5, ?_, ?_, ?_, CF_fr yx (fun a z => by omega) (fun k z => by omega) cf6, cl7⟩, fun z => absurd rfl z⟩
  · simp +decide only [e74_89, e74_90, e74_91, e74_94, e74_97, e74_98, e74_99, e74_102, e74_105, e74_106, e74_122, e75_0, e75_1, o74, k1, o75, x3, oQ6, y1, vkk_n, vkk_i, vkk_r, vkk_l, vkk_d, catS_nil, catS_i, catS_r, catS_l, catS_d, Nat.reduceAdd, Nat.reduceLeDiff, Nat.zero_le, Nat.le_refl, Option.bind_some, Option.toList_some, Option.toList_none, List.cons_append, List.nil_append, or_true, true_or, if_true, if_false, Int32.reduceLT, Int32.reduceLE, not_true, not_false_iff, true_and, and_true, false_and, and_false]
    simp +decide only [e74_109, e74_110, e74_113b, e74_113, e74_114, e74_117, e74_118, e74_119, e74_122, o77, rf_g rP7, rf_is rP7, e27, nI_1, nI_add, (Plan_0 hPl7 : ob h7 P 6), (eq_true (isI_ob (Plan_0 hPl7 : ob h7 P 6) rfl : isI h7 P 2)), (rf_g (Plan_1 hPl7 : rf h7 P 0 (P + 1)) : gR h7 P 0 = (P + 1)), (rf_is (Plan_1 hPl7 : rf h7 P 0 (P + 1)) : isR h7 P 0), (rf_g (Plan_2 hPl7 : rf h7 P 1 (P + 3)) : gR h7 P 1 = (P + 3)), (rf_is (Plan_2 hPl7 : rf h7 P 1 (P + 3)) : isR h7 P 1), (Plan_4 hPl7 : arR h7 (P + 3) 6), (rdR_6 (Plan_4 hPl7 : arR h7 (P + 3) 6) : rdR h7 (P + 3)), (Plan_5 hPl7 : aln h7 (P + 3) = 6), (Mem_0 (Plan_3 hPl7) : ob h7 (P + 1) 5), (eq_true (isI_ob (Mem_0 (Plan_3 hPl7) : ob h7 (P + 1) 5) rfl : isI h7 (P + 1) 1)), (eq_true (isI_ob (Mem_0 (Plan_3 hPl7) : ob h7 (P + 1) 5) rfl : isI h7 (P + 1) 2)), (rf_g (Mem_1 (Plan_3 hPl7) : rf h7 (P + 1) 0 (P + 2)) : gR h7 (P + 1) 0 = (P + 2)), (rf_is (Mem_1 (Plan_3 hPl7) : rf h7 (P + 1) 0 (P + 2)) : isR h7 (P + 1) 0), (Mem_2 (Plan_3 hPl7) : arI h7 (P + 2) 2), (rdB_2 (Mem_2 (Plan_3 hPl7) : arI h7 (P + 2) 2) : rdB h7 (P + 2)), (Mem_3 (Plan_3 hPl7) : aln h7 (P + 2) = 256), vkk_n, vkk_i, vkk_r, vkk_l, vkk_d, catS_nil, catS_i, catS_r, catS_l, catS_d, Nat.reduceAdd, Nat.reduceLeDiff, Nat.zero_le, Nat.le_refl, Option.bind_some, Option.toList_some, Option.toList_none, List.cons_append, List.nil_append, or_true, true_or, if_true, if_false, Int32.reduceLT, Int32.reduceLE, not_true, not_false_iff, true_and, and_true, false_and, and_false]
  · exact WF_fr x8' (fun k z => by omega) (WF_fr y2 (fun k z => by omega) (WF_fr x4 (fun k z => by omega) k6))
  · simp +decide only [gI_pI, (eq_true (isI_ob oP7 rfl : isI h7 P 2)), true_and, and_true, if_true]
  · have a : gL h5 Q 0 = gL h4 Q 0 := k2.gL (fun z => by unfold QM at z; omega)
    rw [x8'.gL (fun z => by omega), y2.gL (fun z => by omega), x4.gL (fun z => by omega)]
    exact a.trans b3
