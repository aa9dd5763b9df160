set_option maxHeartbeats 4000000 in
/-! read: the class's reading, whole -/
theorem pR_same (h : VG) (a k x ci : Nat) (ho : ob h a ci) (hs : (vShape ci)[k]? = some 3) : gI (pR h a k x) = gI h ∧ gL (pR h a k x) = gL h ∧ gD (pR h a k x) = gD h ∧ aI (pR h a k x) = aI h ∧ aL (pR h a k x) = aL h ∧ aD (pR h a k x) = aD h := by
  have A : Ag (fun b j => b = a ∧ j = k) h (pR h a k x) := pR_ag h a k x ci ho ⟨rfl, rfl⟩
  have r1 := pR_rf h a k x ci ho hs
  obtain ⟨fs, v, e1, e2, e3, -⟩ := ob_at ho hs
  have r2 : ∃ y, gV h a k = .ref y ∨ gV h a k = .null := by
    have : gV h a k = v := by
      unfold gV
      rw [e1]
      show fs.getD k .null = v
      rw [List.getD_eq_getElem?_getD, e2]
      rfl
    rw [this]
    cases v with
    | ref y => exact ⟨y, Or.inl rfl⟩
    | null => exact ⟨0, Or.inr rfl⟩
    | int y => exact absurd e3 (fun z => by simp [vtag] at z)
    | long y => exact absurd e3 (fun z => by simp [vtag] at z)
    | double y => exact absurd e3 (fun z => by simp [vtag] at z)
    | float y => exact absurd e3 (fun z => by simp [vtag] at z)
    | _ => exact absurd e3 (fun z => by simp [vtag] at z)
  obtain ⟨y, r2⟩ := r2
  unfold rf at r1
  refine ⟨?_, ?_, ?_, ?_, ?_, ?_⟩
  · funext b j
    by_cases z : b = a ∧ j = k
    · obtain ⟨rfl, rfl⟩ := z
      unfold gI
      rw [r1]
      rcases r2 with r2 | r2 <;> rw [r2]
    · exact A.gIe z
  · funext b j
    by_cases z : b = a ∧ j = k
    · obtain ⟨rfl, rfl⟩ := z
      unfold gL
      rw [r1]
      rcases r2 with r2 | r2 <;> rw [r2]
    · exact A.gLe z
  · funext b j
    by_cases z : b = a ∧ j = k
    · obtain ⟨rfl, rfl⟩ := z
      unfold gD
      rw [r1]
      rcases r2 with r2 | r2 <;> rw [r2]
    · exact A.gDe z
  · funext b j
    exact A.I b j
  · funext b j
    exact A.L b j
  · funext b j
    exact A.D b j
theorem c_planBegin (h : VG) (P : Nat) (hP : ShPlan h P) : ∃ h1, ev 62 0 [some (.ref P)] [] h = some (none, h1) ∧ Fr (fun a => a = P + 2) (fun a k => (a = P ∧ k = 2) ∨ (a = P + 1 ∧ (k = 1 ∨ k = 2))) h h1 ∧ gI h1 P 2 = nI 0 ∧ gI h1 (P + 1) 1 = nI 256 ∧ gI h1 (P + 1) 2 = nI 0 ∧ MB h1 P (fun _ => 0) := by
  have oP := Plan_0 hP
  have sM := Plan_3 hP
  have oM := Mem_0 sM
  have a1 : arI h (P + 1 + 1) 2 := Mem_2 sM
  have f1 := c_fillB h (P + 1 + 1) 0 256 (by decide) a1 (Mem_3 sM)
  have x1 : Fr (fun a => a = P + 2) (fun a k => (a = P ∧ k = 2) ∨ (a = P + 1 ∧ (k = 1 ∨ k = 2))) h (bI h (P + 1 + 1) (fun j => if j < 256 then vp_nar .byte 0 else aI h (P + 1 + 1) j)) := Fr_bI _ _ _ (by show P + 1 + 1 = P + 2; rfl)
  have c1 : ∀ j, j < 256 → aI (bI h (P + 1 + 1) (fun j => if j < 256 then vp_nar .byte 0 else aI h (P + 1 + 1) j)) (P + 2) j = vp_nar .byte 0 := by
    intro j hj
    have := aI_bI h (P + 1 + 1) (fun j => if j < 256 then vp_nar .byte 0 else aI h (P + 1 + 1) j) j a1
    refine this.trans ?_
    show (if j < 256 then vp_nar .byte 0 else aI h (P + 1 + 1) j) = vp_nar .byte 0
    rw [if_pos hj]
  generalize hH : bI h (P + 1 + 1) (fun j => if j < 256 then vp_nar .byte 0 else aI h (P + 1 + 1) j) = H at f1 x1 c1
  have s2 : ShPlan H P := (ShPlan_kp x1.1 P).mpr hP
  have oM2 := Mem_0 (Plan_3 s2)
  have oP2 := Plan_0 s2
  have x2 : Fr (fun a => a = P + 2) (fun a k => (a = P ∧ k = 2) ∨ (a = P + 1 ∧ (k = 1 ∨ k = 2))) H (pI (pI (pI H (P + 1) 1 256) (P + 1) 2 0) P 2 0) := ((Fr_pI _ _ _ _ (Or.inr ⟨rfl, Or.inl rfl⟩)).tr (Fr_pI _ _ _ _ (Or.inr ⟨rfl, Or.inr rfl⟩))).tr (Fr_pI _ _ _ _ (Or.inl ⟨rfl, rfl⟩))
  have nP1 : ¬ P + 1 = P := by omega
  have nP2 : ¬ P = P + 1 := by omega
  refine ⟨pI (pI (pI H (P + 1) 1 256) (P + 1) 2 0) P 2 0, ?_, x1.tr x2, ?_, ?_, ?_, fun j hj => ⟨Nat.zero_lt_succ _, ?_⟩⟩
  · simp +decide only [e62_0, e62_1, e62_4, e62_7, e62_8, e62_9, e62_12, e52_0, e52_1, e52_4, e52_5, e52_8, e52_9, e52_12, e52_15, e52_16, e52_17, e52_20, f1, oP, oM, oM2, oP2, ob_pI, (Plan_0 hP : ob h P 6), (eq_true (isI_ob (Plan_0 hP : ob h P 6) rfl : isI h P 2)), (rf_g (Plan_1 hP : rf h P 0 (P + 1)) : gR h P 0 = (P + 1)), (rf_is (Plan_1 hP : rf h P 0 (P + 1)) : isR h P 0), (rf_g (Plan_2 hP : rf h P 1 (P + 3)) : gR h P 1 = (P + 3)), (rf_is (Plan_2 hP : rf h P 1 (P + 3)) : isR h P 1), (Plan_4 hP : arR h (P + 3) 6), (rdR_6 (Plan_4 hP : arR h (P + 3) 6) : rdR h (P + 3)), (Plan_5 hP : aln h (P + 3) = 6), (Mem_0 (Plan_3 hP) : ob h (P + 1) 5), (eq_true (isI_ob (Mem_0 (Plan_3 hP) : ob h (P + 1) 5) rfl : isI h (P + 1) 1)), (eq_true (isI_ob (Mem_0 (Plan_3 hP) : ob h (P + 1) 5) rfl : isI h (P + 1) 2)), (rf_g (Mem_1 (Plan_3 hP) : rf h (P + 1) 0 (P + 2)) : gR h (P + 1) 0 = (P + 2)), (rf_is (Mem_1 (Plan_3 hP) : rf h (P + 1) 0 (P + 2)) : isR h (P + 1) 0), (Mem_2 (Plan_3 hP) : arI h (P + 2) 2), (rdB_2 (Mem_2 (Plan_3 hP) : arI h (P + 2) 2) : rdB h (P + 2)), (Mem_3 (Plan_3 hP) : aln h (P + 2) = 256), vkk_n, vkk_i, vkk_r, vkk_l, vkk_d, catS_nil, catS_i, catS_r, catS_l, catS_d, Nat.reduceAdd, Nat.reduceLeDiff, Nat.zero_le, Nat.le_refl, Option.bind_some, Option.toList_some, Option.toList_none, List.cons_append, List.nil_append, or_true, true_or, if_true, if_false, Int32.reduceLT, Int32.reduceLE, not_true, not_false_iff, true_and, and_true, false_and, and_false]
  · simp +decide only [gI_pI, isI_pI, nP1, nP2, (eq_true (isI_ob oP2 rfl : isI H P 2)), true_and, and_true, false_and, and_false, if_true, if_false]
  · simp +decide only [gI_pI, isI_pI, nP1, nP2, (eq_true (isI_ob oM2 rfl : isI H (P + 1) 1)), true_and, and_true, false_and, and_false, if_true, if_false]
  · simp +decide only [gI_pI, isI_pI, nP1, nP2, (eq_true (isI_ob oM2 rfl : isI H (P + 1) 2)), true_and, and_true, false_and, and_false, if_true, if_false]
  · simp only [aI_pI]
    exact c1 j hj
set_option maxHeartbeats 4000000 in
/-- all lines before line N are right, none is the text's end -/
def OKS (b : Nat → Nat) (L N : Nat) : Prop := ∀ x, x < N → VAL b L (LSt b L x) ∧ ¬ tyC b L (sgS (LSt b L x)) = 0
/-- how a text ends: right, with N lines; or stopped at line N -/
def REND (g P L TT : Nat) (b : Nat → Nat) (h1 : VG) (y : Int32) : Prop := (∃ N, N ≤ 400 ∧ y = nI (sgW (LSt b L N)).1 ∧ CST h1 g P b L TT (LSt b L N) ∧ OKS b L N ∧ tyC b L (sgS (LSt b L N)) = 0) ∨ (∃ N, N ≤ 400 ∧ sgS (LSt b L N) ≤ TT ∧ OKS b L N ∧ ¬ tyC b L (sgS (LSt b L N)) = 0 ∧ ¬ (rTel (tyC b L) (sgN (LSt b L N)) (sgS (LSt b L N))).1 = 0 ∧ y = nI (rTel (tyC b L) (sgN (LSt b L N)) (sgS (LSt b L N))).1 ∧ ST h1 g (rTel (tyC b L) (sgN (LSt b L N)) (sgS (LSt b L N))).1 (tPl b L (rTel (tyC b L) (sgN (LSt b L N)) (sgS (LSt b L N))).2))
theorem l_tell (g P L TT T : Nat) (b : Nat → Nat) (hP : P = g + 8 ∨ P = g + 90) : ∀ d i h, i + d = 401 → CST h g P b L TT (LSt b L i) → i ≤ sgS (LSt b L i) → OKS b L i → ∃ (h1 : VG) (y : Int32), ev 65 39 [some (.ref (g + 2)), some (.ref T), some (.int (nI L)), some (.ref P), some (.int (nI i))] [] h = some (some (.int y), h1) ∧ Fr (PR P) (PF g P) h h1 ∧ Sh h1 g ∧ REND g P L TT b h1 y := by
  intro d
  induction d with
  | zero =>
    intro i h hd q hi
    have s1 := q.1.2.2.2.2.1
    have s2 := q.1.2.2.2.2.2.1
    omega
  | succ d ih =>
    intro i h hd q hi ok
    have q' := q
    obtain ⟨q1, q2, -⟩ := q'
    have s1 := q1.2.2.2.2.1
    have s2 := q1.2.2.2.2.2.1
    have o7 : ob h (g + 2) 7 := Cls_11 q1.1.1
    have w5 := q2.2.2.2
    have w4 := q2.2.1
    have i4 : nI i ≤ 400 := nI_le (b := 400) (by omega) (by decide)
    have nx := c_isNext (y := 0) q1 (by decide)
    have nx : ev 67 0 [some (.ref (g + 2)), some (.int 0)] [] h = _ := nx
    by_cases z0 : tyC b L (sgS (LSt b L i)) = 0
    · rw [if_pos z0] at nx
      refine ⟨h, nI (sgW (LSt b L i)).1, ?_, Fr.rfl _, q1.1, Or.inl ⟨i, by omega, rfl, q, ok, z0⟩⟩
      simp +decide only [e65_39, e65_41, e65_44, e65_47, e65_48, e65_51, e65_54, e65_55, e65_56, e65_59, i4, o7, w5, nx, w4, e65_72, e65_73, e65_76, vkk_n, vkk_i, vkk_r, vkk_l, vkk_d, catS_nil, catS_i, catS_r, catS_l, catS_d, Nat.reduceAdd, Nat.reduceLeDiff, Nat.zero_le, Nat.le_refl, Option.bind_some, Option.toList_some, Option.toList_none, List.cons_append, List.nil_append, or_true, true_or, if_true, if_false, Int32.reduceLT, Int32.reduceLE, not_true, not_false_iff, true_and, and_true, false_and, and_false]
    rw [if_neg z0] at nx
    obtain ⟨r0, r1⟩ := c_readTell hP q
    have ent : ev 65 39 [some (.ref (g + 2)), some (.ref T), some (.int (nI L)), some (.ref P), some (.int (nI i))] [] h = ev 65 62 [some (.ref (g + 2)), some (.ref T), some (.int (nI L)), some (.ref P), some (.int (nI i))] [] h := by
      simp +decide only [e65_39, e65_41, e65_44, e65_47, e65_48, e65_51, e65_54, e65_55, e65_56, e65_59, i4, o7, w5, nx, vkk_n, vkk_i, vkk_r, vkk_l, vkk_d, catS_nil, catS_i, catS_r, catS_l, catS_d, Nat.reduceAdd, Nat.reduceLeDiff, Nat.zero_le, Nat.le_refl, Option.bind_some, Option.toList_some, Option.toList_none, List.cons_append, List.nil_append, or_true, true_or, if_true, if_false, Int32.reduceLT, Int32.reduceLE, not_true, not_false_iff, true_and, and_true, false_and, and_false]
    rw [ent]
    by_cases ze : (rTel (tyC b L) (sgN (LSt b L i)) (sgS (LSt b L i))).1 = 0
    · obtain ⟨h1, u1, u2, u3, u4, u5⟩ := r0 ze
      clear r0 r1
      have st_ : ev 65 62 [some (.ref (g + 2)), some (.ref T), some (.int (nI L)), some (.ref P), some (.int (nI i))] [] h = ev 65 39 [some (.ref (g + 2)), some (.ref T), some (.int (nI L)), some (.ref P), some (.int (nI (i + 1)))] [] h1 := by
        generalize hZ : ev 65 39 [some (.ref (g + 2)), some (.ref T), some (.int (nI L)), some (.ref P), some (.int (nI (i + 1)))] [] h1 = Z
        simp +decide only [e65_62, e65_63, e65_66, e65_69, o7, u1, nI_1, nI_add, vkk_n, vkk_i, vkk_r, vkk_l, vkk_d, catS_nil, catS_i, catS_r, catS_l, catS_d, Nat.reduceAdd, Nat.reduceLeDiff, Nat.zero_le, Nat.le_refl, Option.bind_some, Option.toList_some, Option.toList_none, List.cons_append, List.nil_append, or_true, true_or, if_true, if_false, Int32.reduceLT, Int32.reduceLE, not_true, not_false_iff, true_and, and_true, false_and, and_false]
        exact hZ
      rw [st_]
      obtain ⟨h2, y, n1, n2, n3, n4⟩ := ih (i + 1) h1 (by omega) u3 (by show i + 1 ≤ sgS (stp1 b L (LSt b L i)); omega) (fun x hx => by
        by_cases ex : x = i
        · rw [ex]
          exact ⟨u4, z0⟩
        · exact ok x (by omega))
      exact ⟨h2, y, n1, u2.tr n2, n3, n4⟩
    · obtain ⟨h1, u1, u2, u3⟩ := r1 ze
      clear r0 r1
      have sh1 : Sh h1 g := Sh_fr u2 (fun a z => by unfold PR at z; omega) q1.1
      have o71 : ob h1 (g + 2) 7 := Cls_11 sh1.1
      have st_ : ev 65 62 [some (.ref (g + 2)), some (.ref T), some (.int (nI L)), some (.ref P), some (.int (nI i))] [] h = ev 65 39 [some (.ref (g + 2)), some (.ref T), some (.int (nI L)), some (.ref P), some (.int (nI (i + 1)))] [] h1 := by
        generalize hZ : ev 65 39 [some (.ref (g + 2)), some (.ref T), some (.int (nI L)), some (.ref P), some (.int (nI (i + 1)))] [] h1 = Z
        simp +decide only [e65_62, e65_63, e65_66, e65_69, o7, u1, nI_1, nI_add, vkk_n, vkk_i, vkk_r, vkk_l, vkk_d, catS_nil, catS_i, catS_r, catS_l, catS_d, Nat.reduceAdd, Nat.reduceLeDiff, Nat.zero_le, Nat.le_refl, Option.bind_some, Option.toList_some, Option.toList_none, List.cons_append, List.nil_append, or_true, true_or, if_true, if_false, Int32.reduceLT, Int32.reduceLE, not_true, not_false_iff, true_and, and_true, false_and, and_false]
        exact hZ
      have u3' := u3
      obtain ⟨t4, -, t5⟩ := u3'
      rw [st_]
      refine ⟨h1, _, ?_, u2, sh1, Or.inr ⟨i, by omega, s1, ok, z0, ze, rfl, u3⟩⟩
      by_cases k4 : i + 1 ≤ 400
      · have k4' : nI (i + 1) ≤ 400 := nI_le (b := 400) k4 (by decide)
        simp +decide only [e65_39, e65_41, e65_44, e65_47, e65_48, e65_51, e65_54, e65_55, e65_56, e65_59, k4', o71, t5, t4, e65_72, e65_73, e65_76, vkk_n, vkk_i, vkk_r, vkk_l, vkk_d, catS_nil, catS_i, catS_r, catS_l, catS_d, Nat.reduceAdd, Nat.reduceLeDiff, Nat.zero_le, Nat.le_refl, Option.bind_some, Option.toList_some, Option.toList_none, List.cons_append, List.nil_append, or_true, true_or, if_true, if_false, Int32.reduceLT, Int32.reduceLE, not_true, not_false_iff, true_and, and_true, false_and, and_false]
      · have k4' : ¬ nI (i + 1) ≤ 400 := fun z => k4 ((nI_leI (b := 400) (by omega) (by decide)).mp z)
        simp +decide only [e65_39, e65_41, e65_44, e65_47, e65_48, e65_51, e65_54, e65_55, e65_56, e65_59, k4', o71, t5, t4, e65_72, e65_73, e65_76, vkk_n, vkk_i, vkk_r, vkk_l, vkk_d, catS_nil, catS_i, catS_r, catS_l, catS_d, Nat.reduceAdd, Nat.reduceLeDiff, Nat.zero_le, Nat.le_refl, Option.bind_some, Option.toList_some, Option.toList_none, List.cons_append, List.nil_append, or_true, true_or, if_true, if_false, Int32.reduceLT, Int32.reduceLE, not_true, not_false_iff, true_and, and_true, false_and, and_false]
theorem c_faultOf {h : VG} {g P L : Nat} {b : Nat → Nat} (hP : P = g + 8 ∨ P = g + 90) (hs : Sh h g) (tx : TXc h g b L) (hw : ∀ j, j < 14 → aL h (g + 7) j = cWord j) (wd : WID h P) : ∃ (ha h1 : VG) (TT : Nat) (y : Int32), ev 65 0 [some (.ref (g + 2)), some (.ref (g + 1)), some (.int (nI L)), some (.ref P), none] [] h = some (some (.int y), h1) ∧ Fr (fun a => a = g + 4 ∨ a = g + 5 ∨ a = g + 6) NF h ha ∧ Sh ha g ∧ Fr (PR P) (PF g P) (pR ha (g + 2) 2 P) h1 ∧ Sh h1 g ∧ REND g P L TT b h1 y ∧ (∀ x, x < TT → ¬ kd b L x = 0 ∧ ¬ kd b L x = 3) ∧ (TT = 400 ∨ kd b L TT = 0 ∨ kd b L TT = 3) ∧ TT ≤ 400 := by
  obtain ⟨h1, TT, a1, a2, a3, a4, a5, a6⟩ := c_scan h g L b hs tx hw
  have s1 : Sh h1 g := Sh_fr a2 (fun a z => by omega) hs
  have o7 : ob h1 (g + 2) 7 := Cls_11 s1.1
  have o70 : ob h (g + 2) 7 := Cls_11 hs.1
  have o9 : ob h (g + 3) 9 := Tok_0 (Cls_13 hs.1)
  have wd1 : WID h1 P := WID_fr a2 (fun a k f hf z => z.elim) wd
  have A : Ag (fun a k => a = g + 2 ∧ k = 2) h1 (pR h1 (g + 2) 2 P) := pR_ag h1 (g + 2) 2 P 7 o7 ⟨rfl, rfl⟩
  obtain ⟨E1, E2, E3, E4, E5, E6⟩ := pR_same h1 (g + 2) 2 P 7 o7 rfl
  have rP2 : rf (pR h1 (g + 2) 2 P) (g + 2) 2 P := pR_rf h1 (g + 2) 2 P 7 o7 rfl
  have o72 : ob (pR h1 (g + 2) 2 P) (g + 2) 7 := A.obe.mpr o7
  have s2 : Sh (pR h1 (g + 2) 2 P) g := Sh_ag A (fun b j z => Or.inr z) (by
    rcases Cls_16 s1.1 with ⟨x, y⟩ | ⟨x, y⟩
    · exact Or.inl ⟨(A.rfe (fun z => by omega)).mpr x, (A.rfe (fun z => by omega)).mpr y⟩
    · exact Or.inr ⟨(A.rfe (fun z => by omega)).mpr x, (A.rfe (fun z => by omega)).mpr y⟩) s1
  have tc2 : TC (pR h1 (g + 2) 2 P) g b L (TT + 1) := by
    unfold TC
    rw [E4, E5]
    exact a3
  have wd2 : WID (pR h1 (g + 2) 2 P) P := by
    unfold WID
    rw [E1]
    exact wd1
  generalize hH : pR h1 (g + 2) 2 P = H at A E1 E2 E3 E4 E5 E6 rP2 o72 s2 tc2 wd2
  obtain ⟨h3, b1, b2, b3, b4, b5, b6⟩ := c_planBegin H P (pl_of s2 hP)
  have s3 : Sh h3 g := Sh_fr b2 (fun a z => by omega) s2
  have o73 : ob h3 (g + 2) 7 := Cls_11 s3.1
  have oP2 : ob H P 6 := Plan_0 (pl_of s2 hP)
  have x3 : Fr NR (fun a k => a = g + 2 ∧ (k = 3 ∨ k = 4 ∨ k = 5)) h3 (pI (pI (pI h3 (g + 2) 3 0) (g + 2) 4 0) (g + 2) 5 0) := ((Fr_pI _ _ _ _ ⟨rfl, Or.inl rfl⟩).tr (Fr_pI _ _ _ _ ⟨rfl, Or.inr (Or.inl rfl)⟩)).tr (Fr_pI _ _ _ _ ⟨rfl, Or.inr (Or.inr rfl)⟩)
  have v3 : gI (pI (pI (pI h3 (g + 2) 3 0) (g + 2) 4 0) (g + 2) 5 0) (g + 2) 3 = 0 := by simp +decide only [gI_pI, isI_pI, (eq_true (isI_ob o73 rfl : isI h3 (g + 2) 3)), true_and, and_true, false_and, and_false, if_true, if_false]
  have v4 : gI (pI (pI (pI h3 (g + 2) 3 0) (g + 2) 4 0) (g + 2) 5 0) (g + 2) 4 = 0 := by simp +decide only [gI_pI, isI_pI, (eq_true (isI_ob o73 rfl : isI h3 (g + 2) 4)), true_and, and_true, false_and, and_false, if_true, if_false]
  have v5 : gI (pI (pI (pI h3 (g + 2) 3 0) (g + 2) 4 0) (g + 2) 5 0) (g + 2) 5 = 0 := by simp +decide only [gI_pI, isI_pI, (eq_true (isI_ob o73 rfl : isI h3 (g + 2) 5)), true_and, and_true, false_and, and_false, if_true, if_false]
  have ent : ev 65 0 [some (.ref (g + 2)), some (.ref (g + 1)), some (.int (nI L)), some (.ref P), none] [] h = ev 65 39 [some (.ref (g + 2)), some (.ref (g + 1)), some (.int (nI L)), some (.ref P), some (.int (nI 0))] [] (pI (pI (pI h3 (g + 2) 3 0) (g + 2) 4 0) (g + 2) 5 0) := by
    simp +decide only [e65_0, e65_1, e65_4, e65_5, e65_6, e65_9, e65_10, e65_11, e65_14, e65_15, e65_18, e65_21, e65_22, e65_23, e65_26, e65_27, e65_28, e65_31, e65_32, e65_33, e65_36, e65_37, o70, o9, o7, o72, o73, oP2, ob_pI, a1, hH, rf_g rP2, rf_is rP2, b1, (Cls_11 hs.1 : ob h (g + 2) 7), (rf_g (Cls_12 hs.1 : rf h (g + 2) 1 (g + 3)) : gR h (g + 2) 1 = (g + 3)), (rf_is (Cls_12 hs.1 : rf h (g + 2) 1 (g + 3)) : isR h (g + 2) 1), vkk_n, vkk_i, vkk_r, vkk_l, vkk_d, catS_nil, catS_i, catS_r, catS_l, catS_d, Nat.reduceAdd, Nat.reduceLeDiff, Nat.zero_le, Nat.le_refl, Option.bind_some, Option.toList_some, Option.toList_none, List.cons_append, List.nil_append, or_true, true_or, if_true, if_false, Int32.reduceLT, Int32.reduceLE, not_true, not_false_iff, true_and, and_true, false_and, and_false]
    rfl
  generalize pI (pI (pI h3 (g + 2) 3 0) (g + 2) 4 0) (g + 2) 5 0 = h4 at x3 v3 v4 v5 ent
  have F4 : Fr (PR P) (PF g P) H h4 := (b2.mo (fun a z => by unfold PR; omega) (fun a k z => by unfold PF; omega)).tr (x3.mo (fun a z => z.elim) (fun a k z => by unfold PF; omega))
  have rd4 : RD h4 g P b L TT (sgS (LSt b L 0)) := ⟨Sh_fr x3 (fun a z => z.elim) s3, (rf_kp F4.1 ..).mpr rP2, TC_fr F4 (fun a z => by unfold PR at z; omega) tc2, v3, Nat.zero_le _, a4, a6⟩
  have cs : CST h4 g P b L TT (LSt b L 0) := ⟨rd4, ⟨(by show (0 : Nat) < 6; decide), v4, fun z => absurd rfl z, v5⟩, ⟨(x3.gI (fun z => by omega)).trans b3, Nat.zero_le _⟩, ⟨(x3.gI (fun z => by omega)).trans b4, (by show (1 : Nat) ≤ 256; decide), (by show (256 : Nat) ≤ 256; decide)⟩, ⟨(x3.gI (fun z => by omega)).trans b5, (by show (0 : Nat) ≤ 1; decide)⟩, MB_fr x3 (fun z => z) b6, WID_fr F4 (fun a k f hf z => by unfold PF at z; omega) wd2, fun f hf => absurd hf (Nat.not_lt_zero _)⟩
  obtain ⟨h5, y, n1, n2, n3, n4⟩ := l_tell g P L TT (g + 1) b hP 401 0 h4 rfl cs (Nat.zero_le _) (fun x hx => absurd hx (Nat.not_lt_zero _))
  refine ⟨h1, h5, TT, y, ent.trans n1, a2, s1, ?_, n3, n4, a5, a6, a4⟩
  rw [hH]
  exact F4.tr n2
