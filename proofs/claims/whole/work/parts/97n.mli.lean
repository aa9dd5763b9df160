set_option maxHeartbeats 4000000 in
/-! read: a line, by the model -/
theorem l_mmem (g L c : Nat) (b : Nat → Nat) (kk : Int32) : ∀ d m h X, m + d = 9 → (m = 9 → ¬ X.1 = 0) → (m = 0 → X.1 = 0 → tyC b L X.2 = 5) → MC h g b L c → MX h g b L c X → ∃ (h1 : VG) (l2 : Option Value), ev 157 99 [some (.ref (g + 266)), some (.int kk), some (.int (nI m))] [] h = ev 157 117 [some (.ref (g + 266)), some (.int kk), l2] [] h1 ∧ Fr NR (FTM g) h h1 ∧ MX h1 g b L c (rB X (rMem (tyC b L) d m)) := by
  intro d
  induction d with
  | zero =>
    intro m h X hd h9 h0 q x
    have z : ¬ X.1 = 0 := h9 (by omega)
    have om : ob h (g + 266) 11 := Mod_0 q.1.2.1
    have e := c_misKind q x
    rw [if_neg (fun w => z w.1)] at e
    rw [rB_x _ z]
    refine ⟨h, some (.int (nI m)), ?_, Fr.rfl _, x⟩
    simp +decide only [e157_99, e157_100, e157_103, om, e, vkk_n, vkk_i, vkk_r, vkk_l, vkk_d, catS_nil, catS_i, catS_r, catS_l, catS_d, Nat.reduceAdd, Nat.reduceLeDiff, Nat.zero_le, Nat.le_refl, Option.bind_some, Option.toList_some, Option.toList_none, List.cons_append, List.nil_append, or_true, true_or, if_true, if_false, Int32.reduceLT, Int32.reduceLE, not_true, not_false_iff, true_and, and_true, false_and, and_false]
  | succ d ih =>
    intro m h X hd h9 h0 q x
    have om : ob h (g + 266) 11 := Mod_0 q.1.2.1
    have e := c_misKind q x
    have ed : ∀ s, rMem (tyC b L) (d + 1) m s = if tyC b L s = 5 then (if m = 8 then (2, s) else rB (rP (tyC b L) 5 s) fun s1 => rB (if tyC b L s1 = 3 then rP (tyC b L) 3 s1 else (0, s1)) fun s2 => rMem (tyC b L) d (m + 1) s2) else (if m = 0 then (1, s) else (0, s)) := fun s => rfl
    by_cases z : X.1 = 0
    case neg =>
      rw [if_neg (fun w => z w.1)] at e
      rw [rB_x _ z]
      refine ⟨h, some (.int (nI m)), ?_, Fr.rfl _, x⟩
      simp +decide only [e157_99, e157_100, e157_103, om, e, vkk_n, vkk_i, vkk_r, vkk_l, vkk_d, catS_nil, catS_i, catS_r, catS_l, catS_d, Nat.reduceAdd, Nat.reduceLeDiff, Nat.zero_le, Nat.le_refl, Option.bind_some, Option.toList_some, Option.toList_none, List.cons_append, List.nil_append, or_true, true_or, if_true, if_false, Int32.reduceLT, Int32.reduceLE, not_true, not_false_iff, true_and, and_true, false_and, and_false]
    by_cases t : tyC b L X.2 = 5
    case neg =>
      rw [if_neg (fun w => t w.2)] at e
      have m0 : ¬ m = 0 := fun y => t (h0 y z)
      rw [rB_o _ z, ed, if_neg t, if_neg m0]
      refine ⟨h, some (.int (nI m)), ?_, Fr.rfl _, by rw [← z]; exact x⟩
      simp +decide only [e157_99, e157_100, e157_103, om, e, vkk_n, vkk_i, vkk_r, vkk_l, vkk_d, catS_nil, catS_i, catS_r, catS_l, catS_d, Nat.reduceAdd, Nat.reduceLeDiff, Nat.zero_le, Nat.le_refl, Option.bind_some, Option.toList_some, Option.toList_none, List.cons_append, List.nil_append, or_true, true_or, if_true, if_false, Int32.reduceLT, Int32.reduceLE, not_true, not_false_iff, true_and, and_true, false_and, and_false]
    rw [if_pos ⟨z, t⟩] at e
    have ex : X = (0, X.2) := by rw [← z]
    rw [ex] at x
    obtain ⟨h1, u1, u2, u3⟩ := c_mmember q x (m := m) (by omega) t
    have q1 := MC_fr u2 q
    have nz : (m + 1 = 9 → ¬ (rM1 (tyC b L) m X.2).1 = 0) := fun y => by
      unfold rM1
      rw [if_pos (by omega)]
      show ¬ (2 : Nat) = 0
      decide
    obtain ⟨h2, l2, n1, n2, n3⟩ := ih (m + 1) h1 _ (by omega) nz (fun y => by omega) q1 u3
    refine ⟨h2, l2, ?_, u2.tr n2, ?_⟩
    · rw [← n1]
      generalize hZ : ev 157 99 [some (.ref (g + 266)), some (.int kk), some (.int (nI (m + 1)))] [] h1 = Z
      have st0 : ev 157 99 [some (.ref (g + 266)), some (.int kk), some (.int (nI m))] [] h = ev 157 106 [some (.ref (g + 266)), some (.int kk), some (.int (nI m))] [] h := by
        simp +decide only [e157_99, e157_100, e157_103, om, e, vkk_n, vkk_i, vkk_r, vkk_l, vkk_d, catS_nil, catS_i, catS_r, catS_l, catS_d, Nat.reduceAdd, Nat.reduceLeDiff, Nat.zero_le, Nat.le_refl, Option.bind_some, Option.toList_some, Option.toList_none, List.cons_append, List.nil_append, or_true, true_or, if_true, if_false, Int32.reduceLT, Int32.reduceLE, not_true, not_false_iff, true_and, and_true, false_and, and_false]
      rw [st0]
      simp +decide only [e157_106, e157_107, e157_108, e157_111, e157_114, om, u1, nI_1, nI_add, vkk_n, vkk_i, vkk_r, vkk_l, vkk_d, catS_nil, catS_i, catS_r, catS_l, catS_d, Nat.reduceAdd, Nat.reduceLeDiff, Nat.zero_le, Nat.le_refl, Option.bind_some, Option.toList_some, Option.toList_none, List.cons_append, List.nil_append, or_true, true_or, if_true, if_false, Int32.reduceLT, Int32.reduceLE, not_true, not_false_iff, true_and, and_true, false_and, and_false]
      exact hZ
    · rw [rB_o _ z, ed, if_pos t]
      have eq : rB (rM1 (tyC b L) m X.2) (rMem (tyC b L) d (m + 1)) = if m = 8 then (2, X.2) else rB (rP (tyC b L) 5 X.2) fun s1 => rB (if tyC b L s1 = 3 then rP (tyC b L) 3 s1 else (0, s1)) fun s2 => rMem (tyC b L) d (m + 1) s2 := by
        unfold rM1
        by_cases y : m = 8
        · rw [if_pos y, if_pos y]
          exact rB_x _ (by show ¬ (2 : Nat) = 0; decide)
        · rw [if_neg y, if_neg y, rB_assoc]
      rw [← eq]
      exact n3
theorem l_mfil (g L c : Nat) (b : Nat → Nat) (kk : Int32) : ∀ d i h X, i + d = 17 → 1 ≤ i → (i = 17 → ¬ X.1 = 0) → MC h g b L c → MX h g b L c X → ∃ (h1 : VG) (l2 : Option Value), ev 157 135 [some (.ref (g + 266)), some (.int kk), some (.int (nI i))] [] h = ev 157 167 [some (.ref (g + 266)), some (.int kk), l2] [] h1 ∧ Fr NR (FTM g) h h1 ∧ MX h1 g b L c (rB X (rFil (tyC b L) d i)) := by
  intro d
  induction d with
  | zero =>
    intro i h X hd h1 h9 q x
    have z : ¬ X.1 = 0 := h9 (by omega)
    have om : ob h (g + 266) 11 := Mod_0 q.1.2.1
    have e := c_mis q x (k := 2) (by decide)
    have e : ev 148 0 [some (.ref (g + 266)), some (.int 2)] [] h = _ := e
    rw [if_neg (fun w => z w.1)] at e
    rw [rB_x _ z]
    refine ⟨h, some (.int (nI i)), ?_, Fr.rfl _, x⟩
    simp +decide only [e157_135, e157_136, e157_137, e157_140, om, e, vkk_n, vkk_i, vkk_r, vkk_l, vkk_d, catS_nil, catS_i, catS_r, catS_l, catS_d, Nat.reduceAdd, Nat.reduceLeDiff, Nat.zero_le, Nat.le_refl, Option.bind_some, Option.toList_some, Option.toList_none, List.cons_append, List.nil_append, or_true, true_or, if_true, if_false, Int32.reduceLT, Int32.reduceLE, not_true, not_false_iff, true_and, and_true, false_and, and_false]
  | succ d ih =>
    intro i h X hd i1 h9 q x
    have om : ob h (g + 266) 11 := Mod_0 q.1.2.1
    have e := c_mis q x (k := 2) (by decide)
    have e : ev 148 0 [some (.ref (g + 266)), some (.int 2)] [] h = _ := e
    have t3 : tyC b L X.2 = 3 ↔ kd b L X.2 = 2 := (cTy_0 (kd_or b L X.2)).2.2.2.2.1
    have ed : ∀ s, rFil (tyC b L) (d + 1) i s = if tyC b L s = 3 then (if i = 16 then (2, s) else rB (rP (tyC b L) 3 s) fun s1 => rFil (tyC b L) d (i + 1) s1) else (if i = 0 then (1, s) else (0, s)) := fun s => rfl
    have n16 : nI i = 16 ↔ i = 16 := nI_eq (b := 16) (by omega) (by decide)
    by_cases z : X.1 = 0
    case neg =>
      rw [if_neg (fun w => z w.1)] at e
      rw [rB_x _ z]
      refine ⟨h, some (.int (nI i)), ?_, Fr.rfl _, x⟩
      simp +decide only [e157_135, e157_136, e157_137, e157_140, om, e, vkk_n, vkk_i, vkk_r, vkk_l, vkk_d, catS_nil, catS_i, catS_r, catS_l, catS_d, Nat.reduceAdd, Nat.reduceLeDiff, Nat.zero_le, Nat.le_refl, Option.bind_some, Option.toList_some, Option.toList_none, List.cons_append, List.nil_append, or_true, true_or, if_true, if_false, Int32.reduceLT, Int32.reduceLE, not_true, not_false_iff, true_and, and_true, false_and, and_false]
    by_cases t : tyC b L X.2 = 3
    case neg =>
      rw [if_neg (fun w => t (t3.mpr w.2))] at e
      rw [rB_o _ z, ed, if_neg t, if_neg (by omega)]
      refine ⟨h, some (.int (nI i)), ?_, Fr.rfl _, by rw [← z]; exact x⟩
      simp +decide only [e157_135, e157_136, e157_137, e157_140, om, e, vkk_n, vkk_i, vkk_r, vkk_l, vkk_d, catS_nil, catS_i, catS_r, catS_l, catS_d, Nat.reduceAdd, Nat.reduceLeDiff, Nat.zero_le, Nat.le_refl, Option.bind_some, Option.toList_some, Option.toList_none, List.cons_append, List.nil_append, or_true, true_or, if_true, if_false, Int32.reduceLT, Int32.reduceLE, not_true, not_false_iff, true_and, and_true, false_and, and_false]
    rw [if_pos ⟨z, t3.mp t⟩] at e
    have ex : X = (0, X.2) := by rw [← z]
    rw [ex] at x
    have st0 : ev 157 135 [some (.ref (g + 266)), some (.int kk), some (.int (nI i))] [] h = ev 157 143 [some (.ref (g + 266)), some (.int kk), some (.int (nI i))] [] h := by
      simp +decide only [e157_135, e157_136, e157_137, e157_140, om, e, vkk_n, vkk_i, vkk_r, vkk_l, vkk_d, catS_nil, catS_i, catS_r, catS_l, catS_d, Nat.reduceAdd, Nat.reduceLeDiff, Nat.zero_le, Nat.le_refl, Option.bind_some, Option.toList_some, Option.toList_none, List.cons_append, List.nil_append, or_true, true_or, if_true, if_false, Int32.reduceLT, Int32.reduceLE, not_true, not_false_iff, true_and, and_true, false_and, and_false]
    rw [st0, rB_o _ z, ed, if_pos t]
    by_cases y : i = 16
    · have y' := n16.mpr y
      obtain ⟨h1, u1, u2, u3⟩ := c_mfail (f := 2) q x (Or.inr rfl)
      have u1 : ev 149 0 [some (.ref (g + 266)), some (.int 2)] [] h = _ := u1
      have q1 := MC_fr u2 q
      have u3 : MX h1 g b L c (2, X.2) := u3
      obtain ⟨h2, l2, n1, n2, n3⟩ := ih (i + 1) h1 _ (by omega) (by omega) (fun _ => by show ¬ (2 : Nat) = 0; decide) q1 u3
      rw [if_pos y]
      refine ⟨h2, l2, ?_, u2.tr n2, n3⟩
      rw [← n1]
      generalize hZ : ev 157 135 [some (.ref (g + 266)), some (.int kk), some (.int (nI (i + 1)))] [] h1 = Z
      simp +decide only [e157_143, e157_144, e157_146, e157_149, e157_150, e157_151, e157_154, e157_157, e157_158, e157_161, e157_164, om, eq_true y', u1, nI_1, nI_add, vkk_n, vkk_i, vkk_r, vkk_l, vkk_d, catS_nil, catS_i, catS_r, catS_l, catS_d, Nat.reduceAdd, Nat.reduceLeDiff, Nat.zero_le, Nat.le_refl, Option.bind_some, Option.toList_some, Option.toList_none, List.cons_append, List.nil_append, or_true, true_or, if_true, if_false, Int32.reduceLT, Int32.reduceLE, not_true, not_false_iff, true_and, and_true, false_and, and_false]
      exact hZ
    · have y' : ¬ nI i = 16 := fun y2 => y (n16.mp y2)
      obtain ⟨h1, u1, u2, u3⟩ := c_mpass q x (by have := t3.mp t; omega)
      have q1 := MC_fr u2 q
      obtain ⟨h2, l2, n1, n2, n3⟩ := ih (i + 1) h1 _ (by omega) (by omega) (fun y2 => by omega) q1 u3
      rw [if_neg y]
      have eP : rP (tyC b L) 3 X.2 = if X.2 = 400 then (2, X.2) else (0, X.2 + 1) := if_pos t
      rw [eP]
      refine ⟨h2, l2, ?_, u2.tr n2, n3⟩
      rw [← n1]
      generalize hZ : ev 157 135 [some (.ref (g + 266)), some (.int kk), some (.int (nI (i + 1)))] [] h1 = Z
      simp +decide only [e157_143, e157_144, e157_146, e157_149, e157_150, e157_151, e157_154, e157_157, e157_158, e157_161, e157_164, om, y', u1, nI_1, nI_add, vkk_n, vkk_i, vkk_r, vkk_l, vkk_d, catS_nil, catS_i, catS_r, catS_l, catS_d, Nat.reduceAdd, Nat.reduceLeDiff, Nat.zero_le, Nat.le_refl, Option.bind_some, Option.toList_some, Option.toList_none, List.cons_append, List.nil_append, or_true, true_or, if_true, if_false, Int32.reduceLT, Int32.reduceLE, not_true, not_false_iff, true_and, and_true, false_and, and_false]
      exact hZ
theorem MX_fr {F : Nat → Nat → Prop} {h h1 : VG} {g L c : Nat} {b : Nat → Nat} {X : Nat × Nat} (y : Fr NR F h h1) (d : ∀ k, F (g + 266) k → ¬ k = 11 ∧ ¬ k = 12 ∧ ¬ k = 13) (x : MX h g b L c X) : MX h1 g b L c X := ⟨x.1, (y.gI (fun z => (d _ z).2.1 rfl)).trans x.2.1, fun z => ⟨(y.gI (fun z => (d _ z).1 rfl)).trans (x.2.2.1 z).1, (x.2.2.1 z).2⟩, fun z => (y.gI (fun z => (d _ z).2.2 rfl)).trans (x.2.2.2 z)⟩
theorem c_mline {h : VG} {g L c n s : Nat} {b : Nat → Nat} (q : MC h g b L c) (x : MX h g b L c (0, s)) (hn : n ≤ 6) (e26 : gI h (g + 266) 26 = nI n) : ∃ h1, ev 157 0 [some (.ref (g + 266)), none, none] [] h = some (none, h1) ∧ Fr NR (FTN g) h h1 ∧ MX h1 g b L c (rTel (tyC b L) n s) ∧ gI h1 (g + 266) 26 = nI (if tyC b L s = 8 ∧ ¬ n = 6 then n + 1 else n) := by
  have om : ob h (g + 266) 11 := Mod_0 q.1.2.1
  have hs := q.1
  obtain ⟨ea, lt⟩ := x.2.2.1 rfl
  have ea : gI h (g + 266) 11 = nI s := ea
  have lt : s < c := lt
  have hc := q.2.2.1
  have v1 : vp_in (nI s) 403 := vp_in_nI (by omega) (by decide)
  have v2 : (nI s).toNatClampNeg = s := nI_clamp (by omega)
  have tk := (q.2.1 s lt).1
  have ko := kd_or b L s
  have ct := cTy_0 ko
  have t6 : tyC b L s = 6 ↔ kd b L s = 20 := ct.2.2.2.2.2.2.2.1
  have t7 : tyC b L s = 7 ↔ kd b L s = 21 := ct.2.2.2.2.2.2.2.2.1
  have t8 : tyC b L s = 8 ↔ kd b L s = 22 := ct.2.2.2.2.2.2.2.2.2.1
  have t9 : tyC b L s = 9 ↔ kd b L s = 23 := ct.2.2.2.2.2.2.2.2.2.2
  have n6 : nI n = 6 ↔ n = 6 := nI_eq (b := 6) (by omega) (by decide)
  have FN : ∀ {h h1 : VG}, Fr NR (FTM g) h h1 → Fr NR (FTN g) h h1 := fun y => y.mo (fun a z => z) (fun a k z => by unfold FTM at z; unfold FTN; omega)
  have G26 : ∀ {h h1 : VG}, Fr NR (FTM g) h h1 → gI h1 (g + 266) 26 = gI h (g + 266) 26 := fun y => y.gI (fun z => by unfold FTM at z; omega)
  by_cases r : 20 ≤ kd b L s ∧ kd b L s ≤ 23
  case neg =>
    obtain ⟨h1, u1, u2, u3⟩ := c_mfail (f := 1) q x (Or.inl rfl)
    have u1 : ev 149 0 [some (.ref (g + 266)), some (.int 1)] [] h = _ := u1
    have er : rTel (tyC b L) n s = (1, s) := by
      unfold rTel
      rw [if_neg (fun z => by have := t6.mp z; omega), if_neg (fun z => by have := t7.mp z; omega), if_neg (fun z => by have := t8.mp z; omega), if_neg (fun z => by have := t9.mp z; omega)]
    rw [er, if_neg (fun z => by have := t8.mp z.1; omega)]
    refine ⟨h1, ?_, FN u2, u3, (G26 u2).trans e26⟩
    by_cases k1 : kd b L s < 20
    · have k1' : nI (kd b L s) < 20 := nI_lt (b := 20) k1 (by decide)
      simp +decide only [e157_0, e157_1, e157_4, e157_5, e157_8, e157_9, e157_10, e157_11, e157_13, e157_16, e157_17, e157_19, e157_22, e157_23, e157_24, e157_27, ea, v1, v2, tk, k1', u1, (Mod_0 hs.2.1 : ob h (g + 266) 11), (rf_g (Mod_7 hs.2.1 : rf h (g + 266) 5 (g + 269)) : gR h (g + 266) 5 = (g + 269)), (rf_is (Mod_7 hs.2.1 : rf h (g + 266) 5 (g + 269)) : isR h (g + 266) 5), (Mod_8 hs.2.1 : arI h (g + 269) 0), (rdI_0 (Mod_8 hs.2.1 : arI h (g + 269) 0) : rdI h (g + 269)), (Mod_9 hs.2.1 : aln h (g + 269) = 403), (rf_g (Mod_10 hs.2.1 : rf h (g + 266) 6 (g + 270)) : gR h (g + 266) 6 = (g + 270)), (rf_is (Mod_10 hs.2.1 : rf h (g + 266) 6 (g + 270)) : isR h (g + 266) 6), (Mod_11 hs.2.1 : arI h (g + 270) 0), (rdI_0 (Mod_11 hs.2.1 : arI h (g + 270) 0) : rdI h (g + 270)), (Mod_12 hs.2.1 : aln h (g + 270) = 403), vkk_n, vkk_i, vkk_r, vkk_l, vkk_d, catS_nil, catS_i, catS_r, catS_l, catS_d, Nat.reduceAdd, Nat.reduceLeDiff, Nat.zero_le, Nat.le_refl, Option.bind_some, Option.toList_some, Option.toList_none, List.cons_append, List.nil_append, or_true, true_or, if_true, if_false, Int32.reduceLT, Int32.reduceLE, not_true, not_false_iff, true_and, and_true, false_and, and_false]
    · have k1' : ¬ nI (kd b L s) < 20 := fun z => k1 ((nI_ltI (b := 20) (by omega) (by decide)).mp z)
      have k2' : ¬ nI (kd b L s) ≤ 23 := fun z => by have := (nI_leI (b := 23) (by omega) (by decide)).mp z; omega
      simp +decide only [e157_0, e157_1, e157_4, e157_5, e157_8, e157_9, e157_10, e157_11, e157_13, e157_16, e157_17, e157_19, e157_22, e157_23, e157_24, e157_27, ea, v1, v2, tk, k1', k2', u1, (Mod_0 hs.2.1 : ob h (g + 266) 11), (rf_g (Mod_7 hs.2.1 : rf h (g + 266) 5 (g + 269)) : gR h (g + 266) 5 = (g + 269)), (rf_is (Mod_7 hs.2.1 : rf h (g + 266) 5 (g + 269)) : isR h (g + 266) 5), (Mod_8 hs.2.1 : arI h (g + 269) 0), (rdI_0 (Mod_8 hs.2.1 : arI h (g + 269) 0) : rdI h (g + 269)), (Mod_9 hs.2.1 : aln h (g + 269) = 403), (rf_g (Mod_10 hs.2.1 : rf h (g + 266) 6 (g + 270)) : gR h (g + 266) 6 = (g + 270)), (rf_is (Mod_10 hs.2.1 : rf h (g + 266) 6 (g + 270)) : isR h (g + 266) 6), (Mod_11 hs.2.1 : arI h (g + 270) 0), (rdI_0 (Mod_11 hs.2.1 : arI h (g + 270) 0) : rdI h (g + 270)), (Mod_12 hs.2.1 : aln h (g + 270) = 403), vkk_n, vkk_i, vkk_r, vkk_l, vkk_d, catS_nil, catS_i, catS_r, catS_l, catS_d, Nat.reduceAdd, Nat.reduceLeDiff, Nat.zero_le, Nat.le_refl, Option.bind_some, Option.toList_some, Option.toList_none, List.cons_append, List.nil_append, or_true, true_or, if_true, if_false, Int32.reduceLT, Int32.reduceLE, not_true, not_false_iff, true_and, and_true, false_and, and_false]
  obtain ⟨r1, r2⟩ := r
  have ent : ev 157 0 [some (.ref (g + 266)), none, none] [] h = ev 157 28 [some (.ref (g + 266)), some (.int (nI (kd b L s))), none] [] h := by
    have k1' : ¬ nI (kd b L s) < 20 := fun z => by have := (nI_ltI (b := 20) (by omega) (by decide)).mp z; omega
    have k2' : nI (kd b L s) ≤ 23 := nI_le (b := 23) r2 (by decide)
    simp +decide only [e157_0, e157_1, e157_4, e157_5, e157_8, e157_9, e157_10, e157_11, e157_13, e157_16, e157_17, e157_19, e157_22, e157_23, e157_24, e157_27, ea, v1, v2, tk, k1', k2', (Mod_0 hs.2.1 : ob h (g + 266) 11), (rf_g (Mod_7 hs.2.1 : rf h (g + 266) 5 (g + 269)) : gR h (g + 266) 5 = (g + 269)), (rf_is (Mod_7 hs.2.1 : rf h (g + 266) 5 (g + 269)) : isR h (g + 266) 5), (Mod_8 hs.2.1 : arI h (g + 269) 0), (rdI_0 (Mod_8 hs.2.1 : arI h (g + 269) 0) : rdI h (g + 269)), (Mod_9 hs.2.1 : aln h (g + 269) = 403), (rf_g (Mod_10 hs.2.1 : rf h (g + 266) 6 (g + 270)) : gR h (g + 266) 6 = (g + 270)), (rf_is (Mod_10 hs.2.1 : rf h (g + 266) 6 (g + 270)) : isR h (g + 266) 6), (Mod_11 hs.2.1 : arI h (g + 270) 0), (rdI_0 (Mod_11 hs.2.1 : arI h (g + 270) 0) : rdI h (g + 270)), (Mod_12 hs.2.1 : aln h (g + 270) = 403), vkk_n, vkk_i, vkk_r, vkk_l, vkk_d, catS_nil, catS_i, catS_r, catS_l, catS_d, Nat.reduceAdd, Nat.reduceLeDiff, Nat.zero_le, Nat.le_refl, Option.bind_some, Option.toList_some, Option.toList_none, List.cons_append, List.nil_append, or_true, true_or, if_true, if_false, Int32.reduceLT, Int32.reduceLE, not_true, not_false_iff, true_and, and_true, false_and, and_false]
  rw [ent]
  obtain ⟨h1, u1, u2, u3⟩ := c_mpass q x (by omega)
  have q1 := MC_fr u2 q
  have om1 : ob h1 (g + 266) 11 := Mod_0 q1.1.2.1
  have e261 := (G26 u2).trans e26
  have eP : ∀ y, tyC b L s = y → rP (tyC b L) y s = if s = 400 then (2, s) else (0, s + 1) := fun y hy => if_pos hy
  generalize (if s = 400 then ((2, s) : Nat × Nat) else (0, s + 1)) = Y at u3 eP
  have end_ : ∀ (h2 : VG) (l1 l2 : Option Value) (Z : Nat × Nat), MC h2 g b L c → MX h2 g b L c Z → ∃ h3, ev 157 167 [some (.ref (g + 266)), l1, l2] [] h2 = some (none, h3) ∧ Fr NR (FTM g) h2 h3 ∧ MX h3 g b L c (rB Z (rP (tyC b L) 4)) := by
    intro h2 l1 l2 Z q2 z2
    obtain ⟨h3, w1, w2, w3⟩ := c_mmust (k := 4) (y := 4) q2 z2 (by decide)
    have w1 : ev 152 0 [some (.ref (g + 266)), some (.int 4)] [] h2 = _ := w1
    have om2 : ob h2 (g + 266) 11 := Mod_0 q2.1.2.1
    refine ⟨h3, ?_, w2, w3⟩
    simp +decide only [e157_167, e157_168, e157_169, e157_172, om2, w1, vkk_n, vkk_i, vkk_r, vkk_l, vkk_d, catS_nil, catS_i, catS_r, catS_l, catS_d, Nat.reduceAdd, Nat.reduceLeDiff, Nat.zero_le, Nat.le_refl, Option.bind_some, Option.toList_some, Option.toList_none, List.cons_append, List.nil_append, or_true, true_or, if_true, if_false, Int32.reduceLT, Int32.reduceLE, not_true, not_false_iff, true_and, and_true, false_and, and_false]
  rcases (by omega : kd b L s = 20 ∨ kd b L s = 21 ∨ kd b L s = 22 ∨ kd b L s = 23) with k | k | k | k
  · have T6 := t6.mpr k
    have er : rTel (tyC b L) n s = rB Y (rP (tyC b L) 4) := by
      unfold rTel rBig
      rw [if_pos T6, eP 6 T6]
    obtain ⟨h3, w1, w2, w3⟩ := end_ h1 (some (.int (nI (kd b L s)))) none Y q1 u3
    rw [er, if_neg (fun z => by have := t8.mp z.1; omega)]
    refine ⟨h3, ?_, FN (u2.tr w2), w3, (G26 w2).trans e261⟩
    rw [k] at w1 ⊢
    have w1 : ev 157 167 [some (.ref (g + 266)), some (.int 20), none] [] h1 = _ := w1
    show ev 157 28 [some (.ref (g + 266)), some (.int 20), none] [] h = _
    rw [← w1]
    simp +decide only [e157_28, e157_29, e157_31, e157_34, e157_35, e157_38, e157_40, e157_43, e157_44, e157_45, e157_48, e157_49, e157_50, e157_53, e157_54, e157_56, e157_59, e157_60, e157_61, e157_64, e157_65, e157_67, e157_117, e157_118, e157_120, e157_123, e157_124, e157_125, e157_128, e157_129, e157_130, e157_133, e157_134, om, u1, vkk_n, vkk_i, vkk_r, vkk_l, vkk_d, catS_nil, catS_i, catS_r, catS_l, catS_d, Nat.reduceAdd, Nat.reduceLeDiff, Nat.zero_le, Nat.le_refl, Option.bind_some, Option.toList_some, Option.toList_none, List.cons_append, List.nil_append, or_true, true_or, if_true, if_false, Int32.reduceLT, Int32.reduceLE, not_true, not_false_iff, true_and, and_true, false_and, and_false]
  · have T7 := t7.mpr k
    obtain ⟨h2, a1, a2, a3⟩ := c_mmust (k := 2) (y := 3) q1 u3 (by decide)
    have a1 : ev 152 0 [some (.ref (g + 266)), some (.int 2)] [] h1 = _ := a1
    have q2 := MC_fr a2 q1
    have er : rTel (tyC b L) n s = rB (rB Y (rP (tyC b L) 3)) (rP (tyC b L) 4) := by
      unfold rTel rLin
      rw [if_neg (by omega), if_pos T7, eP 7 T7, rB_assoc]
    obtain ⟨h3, w1, w2, w3⟩ := end_ h2 (some (.int (nI (kd b L s)))) none _ q2 a3
    rw [er, if_neg (fun z => by have := t8.mp z.1; omega)]
    refine ⟨h3, ?_, FN ((u2.tr a2).tr w2), w3, (G26 w2).trans ((G26 a2).trans e261)⟩
    rw [k] at w1 ⊢
    have w1 : ev 157 167 [some (.ref (g + 266)), some (.int 21), none] [] h2 = _ := w1
    show ev 157 28 [some (.ref (g + 266)), some (.int 21), none] [] h = _
    rw [← w1]
    simp +decide only [e157_28, e157_29, e157_31, e157_34, e157_35, e157_38, e157_40, e157_43, e157_44, e157_45, e157_48, e157_49, e157_50, e157_53, e157_54, e157_56, e157_59, e157_60, e157_61, e157_64, e157_65, e157_67, e157_117, e157_118, e157_120, e157_123, e157_124, e157_125, e157_128, e157_129, e157_130, e157_133, e157_134, om, om1, u1, a1, vkk_n, vkk_i, vkk_r, vkk_l, vkk_d, catS_nil, catS_i, catS_r, catS_l, catS_d, Nat.reduceAdd, Nat.reduceLeDiff, Nat.zero_le, Nat.le_refl, Option.bind_some, Option.toList_some, Option.toList_none, List.cons_append, List.nil_append, or_true, true_or, if_true, if_false, Int32.reduceLT, Int32.reduceLE, not_true, not_false_iff, true_and, and_true, false_and, and_false]
  · have T8 := t8.mpr k
    by_cases z6 : n = 6
    · have z6' := n6.mpr z6
      obtain ⟨h4, w1, w2, w3⟩ := c_mfail (f := 2) q x (Or.inr rfl)
      have w1 : ev 149 0 [some (.ref (g + 266)), some (.int 2)] [] h = _ := w1
      have er : rTel (tyC b L) n s = (2, s) := by
        unfold rTel rFrm
        rw [if_neg (by omega), if_neg (by omega), if_pos T8, if_pos z6]
      rw [er, if_neg (fun z => z.2 z6)]
      refine ⟨h4, ?_, FN w2, w3, (G26 w2).trans e26⟩
      rw [k]
      show ev 157 28 [some (.ref (g + 266)), some (.int 22), none] [] h = _
      simp +decide only [e157_28, e157_29, e157_31, e157_34, e157_35, e157_38, e157_40, e157_43, e157_44, e157_45, e157_48, e157_49, e157_50, e157_53, e157_54, e157_56, e157_59, e157_60, e157_61, e157_64, e157_65, e157_67, om, e26, z6', w1, vkk_n, vkk_i, vkk_r, vkk_l, vkk_d, catS_nil, catS_i, catS_r, catS_l, catS_d, Nat.reduceAdd, Nat.reduceLeDiff, Nat.zero_le, Nat.le_refl, Option.bind_some, Option.toList_some, Option.toList_none, List.cons_append, List.nil_append, or_true, true_or, if_true, if_false, Int32.reduceLT, Int32.reduceLE, not_true, not_false_iff, true_and, and_true, false_and, and_false]
    have z6' : ¬ nI n = 6 := fun z => z6 (n6.mp z)
    rw [if_pos ⟨T8, z6⟩]
    have x2 : Fr NR (fun a k => a = g + 266 ∧ k = 26) h1 (pI h1 (g + 266) 26 (nI (n + 1))) := Fr_pI _ _ _ _ ⟨rfl, rfl⟩
    have E26 : gI (pI h1 (g + 266) 26 (nI (n + 1))) (g + 266) 26 = nI (n + 1) := by simp +decide only [gI_pI, (eq_true (isI_ob om1 rfl : isI h1 (g + 266) 26)), true_and, and_true, if_true]
    have ent2 : ev 157 28 [some (.ref (g + 266)), some (.int (nI (kd b L s))), none] [] h = ev 157 80 [some (.ref (g + 266)), some (.int (nI (kd b L s))), none] [] (pI h1 (g + 266) 26 (nI (n + 1))) := by
      rw [k]
      show ev 157 28 [some (.ref (g + 266)), some (.int 22), none] [] h = ev 157 80 [some (.ref (g + 266)), some (.int 22), none] [] _
      simp +decide only [e157_28, e157_29, e157_31, e157_34, e157_35, e157_38, e157_40, e157_43, e157_44, e157_45, e157_48, e157_49, e157_50, e157_53, e157_54, e157_56, e157_59, e157_60, e157_61, e157_64, e157_65, e157_67, e157_70, e157_71b, e157_71, e157_72, e157_75, e157_76, e157_77, om, om1, e26, e261, z6', u1, nI_1, nI_add, vkk_n, vkk_i, vkk_r, vkk_l, vkk_d, catS_nil, catS_i, catS_r, catS_l, catS_d, Nat.reduceAdd, Nat.reduceLeDiff, Nat.zero_le, Nat.le_refl, Option.bind_some, Option.toList_some, Option.toList_none, List.cons_append, List.nil_append, or_true, true_or, if_true, if_false, Int32.reduceLT, Int32.reduceLE, not_true, not_false_iff, true_and, and_true, false_and, and_false]
    rw [ent2]
    have q2 := MC_fr x2 q1
    have u4 : MX (pI h1 (g + 266) 26 (nI (n + 1))) g b L c Y := MX_fr x2 (fun k z => by omega) u3
    have F2 : Fr NR (FTN g) h (pI h1 (g + 266) 26 (nI (n + 1))) := (FN u2).tr (x2.mo (fun a z => z) (fun a k z => by unfold FTN; omega))
    generalize pI h1 (g + 266) 26 (nI (n + 1)) = h2 at q2 u4 F2 E26
    obtain ⟨h3, a1, a2, a3⟩ := c_mmust (k := 1) (y := 2) q2 u4 (by decide)
    have a1 : ev 152 0 [some (.ref (g + 266)), some (.int 1)] [] h2 = _ := a1
    have q3 := MC_fr a2 q2
    have om2 : ob h2 (g + 266) 11 := Mod_0 q2.1.2.1
    have om3 : ob h3 (g + 266) 11 := Mod_0 q3.1.2.1
    have ik := c_misKind q3 a3
    -- the first kind
    have mid : ∃ (h4 : VG) (X2 : Nat × Nat), ev 157 80 [some (.ref (g + 266)), some (.int (nI (kd b L s))), none] [] h2 = ev 157 99 [some (.ref (g + 266)), some (.int (nI (kd b L s))), some (.int (nI 0))] [] h4 ∧ Fr NR (FTM g) h3 h4 ∧ MX h4 g b L c X2 ∧ (X2.1 = 0 → tyC b L X2.2 = 5) ∧ rB X2 (rMem (tyC b L) 9 0) = rB (rB Y (rP (tyC b L) 2)) (rMem (tyC b L) 9 0) := by
      by_cases y : (rB Y (rP (tyC b L) 2)).1 = 0 ∧ tyC b L (rB Y (rP (tyC b L) 2)).2 = 5
      · rw [if_pos y] at ik
        refine ⟨h3, _, ?_, Fr.rfl _, a3, fun _ => y.2, rfl⟩
        simp +decide only [e157_80, e157_81, e157_82, e157_85, e157_86, e157_89, e157_92, e157_93, e157_94, e157_97, e157_98, om2, om3, a1, ik, vkk_n, vkk_i, vkk_r, vkk_l, vkk_d, catS_nil, catS_i, catS_r, catS_l, catS_d, Nat.reduceAdd, Nat.reduceLeDiff, Nat.zero_le, Nat.le_refl, Option.bind_some, Option.toList_some, Option.toList_none, List.cons_append, List.nil_append, or_true, true_or, if_true, if_false, Int32.reduceLT, Int32.reduceLE, not_true, not_false_iff, true_and, and_true, false_and, and_false]
        rfl
      · rw [if_neg y] at ik
        obtain ⟨h4, b1, b2, b3⟩ := c_mfail (f := 1) q3 a3 (Or.inl rfl)
        have b1 : ev 149 0 [some (.ref (g + 266)), some (.int 1)] [] h3 = _ := b1
        have nz : ¬ (rB (rB Y (rP (tyC b L) 2)) fun s => (1, s)).1 = 0 := by
          by_cases z : (rB Y (rP (tyC b L) 2)).1 = 0
          · rw [rB_o _ z]
            show ¬ (1 : Nat) = 0
            decide
          · rw [rB_x _ z]
            exact z
        refine ⟨h4, _, ?_, b2, b3, fun z => absurd z nz, ?_⟩
        · simp +decide only [e157_80, e157_81, e157_82, e157_85, e157_86, e157_89, e157_92, e157_93, e157_94, e157_97, e157_98, om2, om3, a1, ik, b1, vkk_n, vkk_i, vkk_r, vkk_l, vkk_d, catS_nil, catS_i, catS_r, catS_l, catS_d, Nat.reduceAdd, Nat.reduceLeDiff, Nat.zero_le, Nat.le_refl, Option.bind_some, Option.toList_some, Option.toList_none, List.cons_append, List.nil_append, or_true, true_or, if_true, if_false, Int32.reduceLT, Int32.reduceLE, not_true, not_false_iff, true_and, and_true, false_and, and_false]
          rfl
        · rw [rB_x _ nz]
          by_cases z : (rB Y (rP (tyC b L) 2)).1 = 0
          · rw [rB_o _ z, rB_o _ z]
            have ed : rMem (tyC b L) 9 0 (rB Y (rP (tyC b L) 2)).2 = if tyC b L (rB Y (rP (tyC b L) 2)).2 = 5 then _ else (if 0 = 0 then (1, (rB Y (rP (tyC b L) 2)).2) else (0, (rB Y (rP (tyC b L) 2)).2)) := rfl
            rw [ed, if_neg (fun t => y ⟨z, t⟩), if_pos rfl]
          · rw [rB_x _ z, rB_x _ z]
    obtain ⟨h4, X2, b1, b2, b3, b4, b5⟩ := mid
    have q4 := MC_fr b2 q3
    obtain ⟨h5, l2, d1, d2, d3⟩ := l_mmem g L c b (nI (kd b L s)) 9 0 h4 X2 rfl (fun z => absurd z (by decide)) (fun _ => b4) q4 b3
    rw [b5] at d3
    have q5 := MC_fr d2 q4
    have om5 : ob h5 (g + 266) 11 := Mod_0 q5.1.2.1
    obtain ⟨h6, w1, w2, w3⟩ := end_ h5 (some (.int (nI (kd b L s)))) l2 _ q5 d3
    have er : rTel (tyC b L) n s = rB (rB (rB Y (rP (tyC b L) 2)) (rMem (tyC b L) 9 0)) (rP (tyC b L) 4) := by
      unfold rTel rFrm
      rw [if_neg (by omega), if_neg (by omega), if_pos T8, if_neg z6, eP 8 T8, rB_assoc, rB_assoc]
    rw [er]
    refine ⟨h6, ?_, F2.tr (FN (((a2.tr b2).tr d2).tr w2)), w3, (G26 w2).trans ((G26 d2).trans ((G26 b2).trans ((G26 a2).trans E26)))⟩
    rw [b1, d1]
    rw [k] at w1 ⊢
    have w1 : ev 157 167 [some (.ref (g + 266)), some (.int 22), l2] [] h5 = _ := w1
    show ev 157 117 [some (.ref (g + 266)), some (.int 22), l2] [] h5 = _
    rw [← w1]
    simp +decide only [e157_117, e157_118, e157_120, e157_123, e157_124, e157_125, e157_128, e157_129, e157_130, e157_133, e157_134, om5, vkk_n, vkk_i, vkk_r, vkk_l, vkk_d, catS_nil, catS_i, catS_r, catS_l, catS_d, Nat.reduceAdd, Nat.reduceLeDiff, Nat.zero_le, Nat.le_refl, Option.bind_some, Option.toList_some, Option.toList_none, List.cons_append, List.nil_append, or_true, true_or, if_true, if_false, Int32.reduceLT, Int32.reduceLE, not_true, not_false_iff, true_and, and_true, false_and, and_false]
  · have T9 := t9.mpr k
    obtain ⟨h2, a1, a2, a3⟩ := c_mmust (k := 2) (y := 3) q1 u3 (by decide)
    have a1 : ev 152 0 [some (.ref (g + 266)), some (.int 2)] [] h1 = _ := a1
    have q2 := MC_fr a2 q1
    have om2 : ob h2 (g + 266) 11 := Mod_0 q2.1.2.1
    obtain ⟨h3, b1, b2, b3⟩ := c_mmust (k := 2) (y := 3) q2 a3 (by decide)
    have b1 : ev 152 0 [some (.ref (g + 266)), some (.int 2)] [] h2 = _ := b1
    have q3 := MC_fr b2 q2
    obtain ⟨h4, l2, d1, d2, d3⟩ := l_mfil g L c b (nI (kd b L s)) 16 1 h3 _ rfl (Nat.le_refl _) (fun z => absurd z (by decide)) q3 b3
    have q4 := MC_fr d2 q3
    obtain ⟨h5, w1, w2, w3⟩ := end_ h4 (some (.int (nI (kd b L s)))) l2 _ q4 d3
    have ef : ∀ s2, rFil (tyC b L) 17 0 s2 = rB (rP (tyC b L) 3 s2) (rFil (tyC b L) 16 1) := by
      intro s2
      have ed : rFil (tyC b L) 17 0 s2 = if tyC b L s2 = 3 then (if 0 = 16 then (2, s2) else rB (rP (tyC b L) 3 s2) fun s1 => rFil (tyC b L) 16 (0 + 1) s1) else (if 0 = 0 then (1, s2) else (0, s2)) := rfl
      rw [ed]
      by_cases y : tyC b L s2 = 3
      · rw [if_pos y, if_neg (by decide)]
      · rw [if_neg y, if_pos rfl]
        have : rP (tyC b L) 3 s2 = (1, s2) := if_neg y
        rw [this]
        exact (rB_x _ (by show ¬ (1 : Nat) = 0; decide)).symm
    have er : rTel (tyC b L) n s = rB (rB (rB (rB Y (rP (tyC b L) 3)) (rP (tyC b L) 3)) (rFil (tyC b L) 16 1)) (rP (tyC b L) 4) := by
      unfold rTel rFll
      rw [if_neg (by omega), if_neg (by omega), if_neg (by omega), if_pos T9, eP 9 T9]
      simp only [rB_assoc, ef]
    rw [er, if_neg (fun z => by have := t8.mp z.1; omega)]
    refine ⟨h5, ?_, FN ((((u2.tr a2).tr b2).tr d2).tr w2), w3, (G26 w2).trans ((G26 d2).trans ((G26 b2).trans ((G26 a2).trans e261)))⟩
    rw [k] at w1 d1 ⊢
    have w1 : ev 157 167 [some (.ref (g + 266)), some (.int 23), l2] [] h4 = _ := w1
    have d1 : ev 157 135 [some (.ref (g + 266)), some (.int 23), some (.int 1)] [] h3 = ev 157 167 [some (.ref (g + 266)), some (.int 23), l2] [] h4 := d1
    show ev 157 28 [some (.ref (g + 266)), some (.int 23), none] [] h = _
    rw [← w1, ← d1]
    simp +decide only [e157_28, e157_29, e157_31, e157_34, e157_35, e157_38, e157_40, e157_43, e157_44, e157_45, e157_48, e157_49, e157_50, e157_53, e157_54, e157_56, e157_59, e157_60, e157_61, e157_64, e157_65, e157_67, e157_117, e157_118, e157_120, e157_123, e157_124, e157_125, e157_128, e157_129, e157_130, e157_133, e157_134, om, om1, om2, u1, a1, b1, vkk_n, vkk_i, vkk_r, vkk_l, vkk_d, catS_nil, catS_i, catS_r, catS_l, catS_d, Nat.reduceAdd, Nat.reduceLeDiff, Nat.zero_le, Nat.le_refl, Option.bind_some, Option.toList_some, Option.toList_none, List.cons_append, List.nil_append, or_true, true_or, if_true, if_false, Int32.reduceLT, Int32.reduceLE, not_true, not_false_iff, true_and, and_true, false_and, and_false]
