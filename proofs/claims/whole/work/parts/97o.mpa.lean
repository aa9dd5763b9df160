set_option maxHeartbeats 4000000 in
/-! read: the model's reading of lines, whole -/
theorem sgN_stp (b : Nat → Nat) (L : Nat) (σ : SG) (v : VAL b L σ) : sgN (stp1 b L σ) = if tyC b L (sgS σ) = 8 ∧ ¬ sgN σ = 6 then sgN σ + 1 else sgN σ := by
  obtain ⟨-, v⟩ := v
  unfold stp1
  rcases v with ⟨v1, -⟩ | ⟨v1, -⟩ | ⟨v1, -, v2, -⟩ | ⟨v1, -⟩
  · rw [if_pos v1, if_neg (by omega)]
    rfl
  · rw [if_neg (by omega), if_pos v1, if_neg (by omega)]
    rfl
  · rw [if_neg (by omega), if_neg (by omega), if_pos v1, if_pos ⟨v1, by omega⟩]
    rfl
  · rw [if_neg (by omega), if_neg (by omega), if_neg (by omega), if_neg (by omega)]
    rfl
theorem sgN_le {b : Nat → Nat} {L N : Nat} (ok : OKS b L N) : ∀ i, i ≤ N → sgN (LSt b L i) ≤ 6 := by
  intro i
  induction i with
  | zero =>
    intro _
    exact Nat.zero_le _
  | succ i ih =>
    intro hi
    have a := ih (by omega)
    have e : sgN (LSt b L (i + 1)) = _ := sgN_stp b L (LSt b L i) (ok i (by omega)).1
    rw [e]
    split <;> omega
theorem l_mln (g L c N : Nat) (b : Nat → Nat) (l1 : Option Value) (ok : OKS b L N) : ∀ d i h, i + d = N → MC h g b L c → MX h g b L c (0, sgS (LSt b L i)) → gI h (g + 266) 26 = nI (sgN (LSt b L i)) → ∃ h1, ev 153 65 [some (.ref (g + 266)), l1] [] h = ev 153 65 [some (.ref (g + 266)), l1] [] h1 ∧ Fr NR (FTN g) h h1 ∧ MX h1 g b L c (0, sgS (LSt b L N)) ∧ gI h1 (g + 266) 26 = nI (sgN (LSt b L N)) := by
  intro d
  induction d with
  | zero =>
    intro i h hd q x e
    obtain rfl : i = N := by omega
    exact ⟨h, rfl, Fr.rfl _, x, e⟩
  | succ d ih =>
    intro i h hd q x e
    obtain ⟨v, t0⟩ := ok i (by omega)
    have om : ob h (g + 266) 11 := Mod_0 q.1.2.1
    have x12 : gI h (g + 266) 12 = nI 0 := x.2.1
    have x12 : gI h (g + 266) 12 = 0 := x12
    have is := c_mis q x (k := 0) (by decide)
    have is : ev 148 0 [some (.ref (g + 266)), some (.int 0)] [] h = _ := is
    have k0 : ¬ kd b L (sgS (LSt b L i)) = 0 := fun z => t0 ((cTy_0 (kd_or b L (sgS (LSt b L i)))).2.1.mpr z)
    rw [if_neg (fun z => k0 z.2)] at is
    obtain ⟨h1, u1, u2, u3, u4⟩ := c_mline q x (sgN_le ok i (by omega)) e
    have q1 := MC_fr u2 q
    rw [v.1] at u3
    rw [← sgN_stp b L _ v] at u4
    obtain ⟨h2, n1, n2, n3⟩ := ih (i + 1) h1 (by omega) q1 u3 u4
    refine ⟨h2, ?_, u2.tr n2, n3⟩
    rw [← n1]
    generalize hZ : ev 153 65 [some (.ref (g + 266)), l1] [] h1 = Z
    have st0 : ev 153 65 [some (.ref (g + 266)), l1] [] h = ev 153 80 [some (.ref (g + 266)), l1] [] h := by
      simp +decide only [e153_65, e153_66, e153_69, e153_72, e153_73, e153_74, e153_77, om, x12, is, vkk_n, vkk_i, vkk_r, vkk_l, vkk_d, catS_nil, catS_i, catS_r, catS_l, catS_d, Nat.reduceAdd, Nat.reduceLeDiff, Nat.zero_le, Nat.le_refl, Option.bind_some, Option.toList_some, Option.toList_none, List.cons_append, List.nil_append, or_true, true_or, if_true, if_false, Int32.reduceLT, Int32.reduceLE, not_true, not_false_iff, true_and, and_true, false_and, and_false]
    rw [st0]
    simp +decide only [e153_80, e153_81, e153_84, om, u1, vkk_n, vkk_i, vkk_r, vkk_l, vkk_d, catS_nil, catS_i, catS_r, catS_l, catS_d, Nat.reduceAdd, Nat.reduceLeDiff, Nat.zero_le, Nat.le_refl, Option.bind_some, Option.toList_some, Option.toList_none, List.cons_append, List.nil_append, or_true, true_or, if_true, if_false, Int32.reduceLT, Int32.reduceLE, not_true, not_false_iff, true_and, and_true, false_and, and_false]
    exact hZ
/-- a text that is right to its end -/
theorem c_mparseA {h : VG} {g L c N : Nat} {b : Nat → Nat} (l1 : Option Value) (ok : OKS b L N) (q : MC h g b L c) (x : MX h g b L c (0, 0)) (e : gI h (g + 266) 26 = nI 0) (t0 : tyC b L (sgS (LSt b L N)) = 0) : ∃ h1, ev 153 65 [some (.ref (g + 266)), l1] [] h = ev 153 87 [some (.ref (g + 266)), l1] [] h1 ∧ Fr NR (FTN g) h h1 ∧ MX h1 g b L c (0, sgS (LSt b L N)) := by
  obtain ⟨h1, n1, n2, n3, n4⟩ := l_mln g L c N b l1 ok N 0 h (by omega) q x e
  have q1 := MC_fr n2 q
  have om : ob h1 (g + 266) 11 := Mod_0 q1.1.2.1
  have x12 : gI h1 (g + 266) 12 = nI 0 := n3.2.1
  have x12 : gI h1 (g + 266) 12 = 0 := x12
  have is := c_mis q1 n3 (k := 0) (by decide)
  have is : ev 148 0 [some (.ref (g + 266)), some (.int 0)] [] h1 = _ := is
  rw [if_pos ⟨rfl, (cTy_0 (kd_or b L (sgS (LSt b L N)))).2.1.mp t0⟩] at is
  refine ⟨h1, ?_, n2, n3⟩
  rw [n1]
  simp +decide only [e153_65, e153_66, e153_69, e153_72, e153_73, e153_74, e153_77, om, x12, is, vkk_n, vkk_i, vkk_r, vkk_l, vkk_d, catS_nil, catS_i, catS_r, catS_l, catS_d, Nat.reduceAdd, Nat.reduceLeDiff, Nat.zero_le, Nat.le_refl, Option.bind_some, Option.toList_some, Option.toList_none, List.cons_append, List.nil_append, or_true, true_or, if_true, if_false, Int32.reduceLT, Int32.reduceLE, not_true, not_false_iff, true_and, and_true, false_and, and_false]
/-- a text that is stopped at line N -/
theorem c_mparseB {h : VG} {g L c N : Nat} {b : Nat → Nat} (l1 : Option Value) (ok : OKS b L N) (q : MC h g b L c) (x : MX h g b L c (0, 0)) (e : gI h (g + 266) 26 = nI 0) (t0 : ¬ tyC b L (sgS (LSt b L N)) = 0) (f0 : ¬ (rTel (tyC b L) (sgN (LSt b L N)) (sgS (LSt b L N))).1 = 0) : ∃ h1, ev 153 65 [some (.ref (g + 266)), l1] [] h = ev 153 87 [some (.ref (g + 266)), l1] [] h1 ∧ Fr NR (FTN g) h h1 ∧ MX h1 g b L c (rTel (tyC b L) (sgN (LSt b L N)) (sgS (LSt b L N))) := by
  obtain ⟨h1, n1, n2, n3, n4⟩ := l_mln g L c N b l1 ok N 0 h (by omega) q x e
  have q1 := MC_fr n2 q
  have om : ob h1 (g + 266) 11 := Mod_0 q1.1.2.1
  have x12 : gI h1 (g + 266) 12 = nI 0 := n3.2.1
  have x12 : gI h1 (g + 266) 12 = 0 := x12
  have is := c_mis q1 n3 (k := 0) (by decide)
  have is : ev 148 0 [some (.ref (g + 266)), some (.int 0)] [] h1 = _ := is
  have k0 : ¬ kd b L (sgS (LSt b L N)) = 0 := fun z => t0 ((cTy_0 (kd_or b L (sgS (LSt b L N)))).2.1.mpr z)
  rw [if_neg (fun z => k0 z.2)] at is
  obtain ⟨h2, u1, u2, u3, u4⟩ := c_mline q1 n3 (sgN_le ok N (Nat.le_refl _)) n4
  have q2 := MC_fr u2 q1
  have om2 : ob h2 (g + 266) 11 := Mod_0 q2.1.2.1
  have y12 : gI h2 (g + 266) 12 = nI _ := u3.2.1
  have y0 : ¬ nI (rTel (tyC b L) (sgN (LSt b L N)) (sgS (LSt b L N))).1 = 0 := fun z => f0 ((nI_eq (b := 0) (by have := u3.1; omega) (by decide)).mp z)
  refine ⟨h2, ?_, n2.tr u2, u3⟩
  rw [n1]
  have st0 : ev 153 65 [some (.ref (g + 266)), l1] [] h1 = ev 153 65 [some (.ref (g + 266)), l1] [] h2 := by
    have st1 : ev 153 65 [some (.ref (g + 266)), l1] [] h1 = ev 153 80 [some (.ref (g + 266)), l1] [] h1 := by
      simp +decide only [e153_65, e153_66, e153_69, e153_72, e153_73, e153_74, e153_77, om, x12, is, vkk_n, vkk_i, vkk_r, vkk_l, vkk_d, catS_nil, catS_i, catS_r, catS_l, catS_d, Nat.reduceAdd, Nat.reduceLeDiff, Nat.zero_le, Nat.le_refl, Option.bind_some, Option.toList_some, Option.toList_none, List.cons_append, List.nil_append, or_true, true_or, if_true, if_false, Int32.reduceLT, Int32.reduceLE, not_true, not_false_iff, true_and, and_true, false_and, and_false]
    rw [st1]
    generalize hZ : ev 153 65 [some (.ref (g + 266)), l1] [] h2 = Z
    simp +decide only [e153_80, e153_81, e153_84, om, u1, vkk_n, vkk_i, vkk_r, vkk_l, vkk_d, catS_nil, catS_i, catS_r, catS_l, catS_d, Nat.reduceAdd, Nat.reduceLeDiff, Nat.zero_le, Nat.le_refl, Option.bind_some, Option.toList_some, Option.toList_none, List.cons_append, List.nil_append, or_true, true_or, if_true, if_false, Int32.reduceLT, Int32.reduceLE, not_true, not_false_iff, true_and, and_true, false_and, and_false]
    exact hZ
  rw [st0]
  simp +decide only [e153_65, e153_66, e153_69, e153_72, e153_73, e153_74, e153_77, om2, y12, y0, vkk_n, vkk_i, vkk_r, vkk_l, vkk_d, catS_nil, catS_i, catS_r, catS_l, catS_d, Nat.reduceAdd, Nat.reduceLeDiff, Nat.zero_le, Nat.le_refl, Option.bind_some, Option.toList_some, Option.toList_none, List.cons_append, List.nil_append, or_true, true_or, if_true, if_false, Int32.reduceLT, Int32.reduceLE, not_true, not_false_iff, true_and, and_true, false_and, and_false]
