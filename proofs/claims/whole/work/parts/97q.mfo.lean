set_option maxHeartbeats 4000000 in
/-! read: forms by the model -/
theorem mIn_nI {v l u : Nat} (hv : v < 2147483648) (hl : l < 2147483648) (hu : u < 2147483648) : mIn (nI v) (nI l) (nI u) = if l ≤ v ∧ v ≤ u then 1 else 0 := by
  unfold mIn
  by_cases y1 : l ≤ v
  · rw [if_neg (fun z => by have := (nI_ltI hv hl).mp z; omega)]
    by_cases y2 : v ≤ u
    · rw [if_pos ((nI_leI hv hu).mpr y2), if_pos ⟨y1, y2⟩]
    · rw [if_neg (fun z => y2 ((nI_leI hv hu).mp z)), if_neg (fun z => y2 z.2)]
  · rw [if_pos ((nI_ltI hv hl).mpr (by omega)), if_neg (fun z => y1 z.1)]
theorem vl27_lt (d : Nat → Nat) : ∀ n, (∀ i, i < n → d i ≤ 26) → vl 27 d n < 27 ^ n := by
  intro n
  induction n with
  | zero =>
    intro _
    show (0 : Nat) < 1
    decide
  | succ n ih =>
    intro h
    have i1 := ih (fun i hi => h i (by omega))
    have i2 := h n (by omega)
    have e : vl 27 d (n + 1) = 27 * vl 27 d n + d n := rfl
    have p : (27 : Nat) ^ (n + 1) = 27 ^ n * 27 := rfl
    omega
theorem tN7_lt (b : Nat → Nat) (L x : Nat) (h : kd b L x = 1) : tN7 b L (tPl b L x) < 1099511627776 := by
  unfold tN7
  unfold kd tKd at h
  generalize tPl b L x = p at h ⊢
  obtain ⟨i1, i2, i3, -⟩ := spn_b isLe b (L - p) p
  by_cases nL : L ≤ p
  · rw [if_pos nL] at h
    cases h
  rw [if_neg nL] at h
  cases q : isLe (b p) with
  | false =>
    rw [q] at h
    simp only [Bool.false_eq_true, if_false] at h
    exfalso
    revert h
    (repeat' split) <;> omega
  | true =>
    rw [q] at h
    simp only [if_true] at h
    by_cases y : 8 < spn isLe b (L - p) p - p
    · rw [if_pos y] at h
      cases h
    · have a := vl27_lt (dgL b p) (spn isLe b (L - p) p - p) (fun i hi => (dgL_ok (d := L - p) (by omega)).2)
      have pw : 27 ^ (spn isLe b (L - p) p - p) ≤ 27 ^ 8 := Nat.pow_le_pow_right (by decide) (by omega)
      omega
theorem nm_same (b : Nat → Nat) (L x y : Nat) (hx : kd b L x = 1) (hy : kd b L y = 1) : Int64.ofNat (tN7 b L (tPl b L x)) = Int64.ofNat (tN7 b L (tPl b L y)) ↔ tnm b L x = tnm b L y := by
  have a := tN7_lt b L x hx
  have c := tN7_lt b L y hy
  rw [fN_eq (by omega) (by omega)]
  unfold tnm tNm tN7
  exact (vl_same (fun i hi => dgL_ok (d := L - tPl b L x) (by omega)) (fun i hi => dgL_ok (d := L - tPl b L y) (by omega))).symm
/-- a form before token i has the name of token x -/
def dpU (b : Nat → Nat) (L x i : Nat) : Prop := ∃ j, j < i ∧ kd b L j = 22 ∧ tnm b L (j + 1) = tnm b L x
noncomputable def wDU (b : Nat → Nat) (L x : Nat) (W : Nat × Nat) (i : Nat) : Nat × Nat := @ite _ (dpU b L x i) (Classical.propDecidable _) (wN W 3 x) W
theorem wDU_s (b : Nat → Nat) (L x : Nat) (W : Nat × Nat) (i : Nat) : wDU b L x W (i + 1) = @ite _ (kd b L i = 22 ∧ tnm b L (i + 1) = tnm b L x) (Classical.propDecidable _) (wN W 3 x) (wDU b L x W i) := by
  unfold wDU
  by_cases y : kd b L i = 22 ∧ tnm b L (i + 1) = tnm b L x
  · rw [if_pos y, if_pos ⟨i, by omega, y⟩]
  · rw [if_neg y]
    by_cases z : dpU b L x i
    · obtain ⟨j, j1, j2⟩ := z
      rw [if_pos ⟨j, by omega, j2⟩, if_pos ⟨j, j1, j2⟩]
    · rw [if_neg z, if_neg]
      intro ⟨j, j1, j2⟩
      by_cases e : j = i
      · exact y (e ▸ j2)
      · exact z ⟨j, by omega, j2⟩
theorem l_mnm (g L c s : Nat) (b : Nat → Nat) (W : Nat × Nat) (hc : s + 1 < c) (hW : WL W s) (k1 : kd b L (s + 1) = 1) (hN : ∀ i, i < s → kd b L i = 22 → kd b L (i + 1) = 1) : ∀ d i h (l3 : Option Value), i + d = s → MZ h g b L c → WM h g b L (wDU b L (s + 1) W i) → ∃ h1, ev 160 2 [some (.ref (g + 266)), some (.int (nI s)), some (.int (nI i)), l3] [] h = ev 160 52 [some (.ref (g + 266)), some (.int (nI s)), some (.int (nI s)), l3] [] h1 ∧ Fr NR (FTW g) h h1 ∧ WM h1 g b L (wDU b L (s + 1) W s) := by
  intro d
  induction d with
  | zero =>
    intro i h l3 hd q wm
    obtain rfl : i = s := by omega
    have i1 : ¬ nI i < nI i := fun z => by
      have := (nI_ltI (by have := q.1.2.2.1; omega) (by have := q.1.2.2.1; omega)).mp z
      omega
    refine ⟨h, ?_, Fr.rfl _, wm⟩
    simp +decide only [e160_2, e160_3, e160_4, i1, vkk_n, vkk_i, vkk_r, vkk_l, vkk_d, catS_nil, catS_i, catS_r, catS_l, catS_d, Nat.reduceAdd, Nat.reduceLeDiff, Nat.zero_le, Nat.le_refl, Option.bind_some, Option.toList_some, Option.toList_none, List.cons_append, List.nil_append, or_true, true_or, if_true, if_false, Int32.reduceLT, Int32.reduceLE, not_true, not_false_iff, true_and, and_true, false_and, and_false]
  | succ d ih =>
    intro i h l3 hd q wm
    have hs := q.1.1
    have om : ob h (g + 266) 11 := Mod_0 hs.2.1
    have hcc := q.1.2.2.1
    have i1 : nI i < nI s := nI_lt (by omega) (by omega)
    have v1 : vp_in (nI i) 403 := vp_in_nI (by omega) (by decide)
    have v2 : (nI i).toNatClampNeg = i := nI_clamp (by omega)
    have v3 : vp_in (nI (i + 1)) 403 := vp_in_nI (by omega) (by decide)
    have v4 : (nI (i + 1)).toNatClampNeg = i + 1 := nI_clamp (by omega)
    have v5 : vp_in (nI (s + 1)) 403 := vp_in_nI (by omega) (by decide)
    have v6 : (nI (s + 1)).toNatClampNeg = s + 1 := nI_clamp (by omega)
    have t1 := (q.1.2.1 i (by omega)).1
    have n2 := (q.1.2.1 (s + 1) (by omega)).2.2.2 k1
    have ko := kd_or b L i
    have n22 : nI (kd b L i) = 22 ↔ kd b L i = 22 := nI_eq (b := 22) (by omega) (by decide)
    have stp_ : ∃ h1, ev 160 7 [some (.ref (g + 266)), some (.int (nI s)), some (.int (nI i)), l3] [] h = ev 160 2 [some (.ref (g + 266)), some (.int (nI s)), some (.int (nI (i + 1))), l3] [] h1 ∧ Fr NR (FTW g) h h1 ∧ WM h1 g b L (wDU b L (s + 1) W (i + 1)) := by
      rw [wDU_s]
      by_cases y : kd b L i = 22
      · have y' := n22.mpr y
        have ki := hN i (by omega) y
        have n1 := (q.1.2.1 (i + 1) (by omega)).2.2.2 ki
        have sm := nm_same b L (i + 1) (s + 1) ki k1
        by_cases z : tnm b L (i + 1) = tnm b L (s + 1)
        · have z' : lg_cmp (aL h (g + 272) (i + 1)) (aL h (g + 272) (s + 1)) = 0 := by rw [n1, n2]; exact (lcmp_eq _ _).mpr (sm.mpr z)
          have wq : (wDU b L (s + 1) W i).1 = 0 ∨ (wDU b L (s + 1) W i).2 < s + 1 ∨ ((wDU b L (s + 1) W i).2 = s + 1 ∧ (wDU b L (s + 1) W i).1 ≤ 3) := by
            unfold wDU wN
            unfold WL at hW
            split
            · split
              · right
                right
                exact ⟨rfl, Nat.le_refl _⟩
              · omega
            · omega
          obtain ⟨h1, u1, u2, u3⟩ := c_wrong (k := 3) (x := s + 1) q hc wm (Or.inl rfl) wq
          have u1 : ev 150 0 [some (.ref (g + 266)), some (.int 3), some (.int (nI (s + 1))), none] [] h = _ := u1
          have e3 : wN (wDU b L (s + 1) W i) 3 (s + 1) = wN W 3 (s + 1) := by
            unfold wDU
            split
            · unfold wN
              by_cases w0 : W.1 = 0
              · rw [if_pos w0, if_neg (by show ¬ (3 : Nat) = 0; decide)]
              · rw [if_neg w0, if_neg w0]
            · rfl
          rw [e3] at u3
          rw [if_pos ⟨y, z⟩]
          refine ⟨h1, ?_, u2, u3⟩
          generalize hZ : ev 160 2 [some (.ref (g + 266)), some (.int (nI s)), some (.int (nI (i + 1))), l3] [] h1 = Z
          simp +decide only [e160_7, e160_8, e160_11, e160_12, e160_13, e160_15, e160_18, e160_19, e160_22, e160_23, e160_24, e160_25, e160_26, e160_27, e160_30, e160_31, e160_32, e160_33, e160_34, e160_35, e160_38, e160_39, e160_40, e160_41, e160_42, e160_43, e160_46, e160_49, om, v1, v2, v3, v4, v5, v6, t1, eq_true y', z', u1, nI_1, nI_add, (Mod_0 hs.2.1 : ob h (g + 266) 11), (rf_g (Mod_7 hs.2.1 : rf h (g + 266) 5 (g + 269)) : gR h (g + 266) 5 = (g + 269)), (rf_is (Mod_7 hs.2.1 : rf h (g + 266) 5 (g + 269)) : isR h (g + 266) 5), (Mod_8 hs.2.1 : arI h (g + 269) 0), (rdI_0 (Mod_8 hs.2.1 : arI h (g + 269) 0) : rdI h (g + 269)), (Mod_9 hs.2.1 : aln h (g + 269) = 403), (rf_g (Mod_10 hs.2.1 : rf h (g + 266) 6 (g + 270)) : gR h (g + 266) 6 = (g + 270)), (rf_is (Mod_10 hs.2.1 : rf h (g + 266) 6 (g + 270)) : isR h (g + 266) 6), (Mod_11 hs.2.1 : arI h (g + 270) 0), (rdI_0 (Mod_11 hs.2.1 : arI h (g + 270) 0) : rdI h (g + 270)), (Mod_12 hs.2.1 : aln h (g + 270) = 403), (rf_g (Mod_13 hs.2.1 : rf h (g + 266) 7 (g + 271)) : gR h (g + 266) 7 = (g + 271)), (rf_is (Mod_13 hs.2.1 : rf h (g + 266) 7 (g + 271)) : isR h (g + 266) 7), (Mod_14 hs.2.1 : arI h (g + 271) 0), (rdI_0 (Mod_14 hs.2.1 : arI h (g + 271) 0) : rdI h (g + 271)), (Mod_15 hs.2.1 : aln h (g + 271) = 403), (rf_g (Mod_16 hs.2.1 : rf h (g + 266) 8 (g + 272)) : gR h (g + 266) 8 = (g + 272)), (rf_is (Mod_16 hs.2.1 : rf h (g + 266) 8 (g + 272)) : isR h (g + 266) 8), (Mod_17 hs.2.1 : arL h (g + 272)), (Mod_18 hs.2.1 : aln h (g + 272) = 403), (rf_g (Mod_34 hs.2.1 : rf h (g + 266) 27 (g + 278)) : gR h (g + 266) 27 = (g + 278)), (rf_is (Mod_34 hs.2.1 : rf h (g + 266) 27 (g + 278)) : isR h (g + 266) 27), (Mod_35 hs.2.1 : arI h (g + 278) 0), (rdI_0 (Mod_35 hs.2.1 : arI h (g + 278) 0) : rdI h (g + 278)), (Mod_36 hs.2.1 : aln h (g + 278) = 6), (rf_g (Mod_37 hs.2.1 : rf h (g + 266) 28 (g + 279)) : gR h (g + 266) 28 = (g + 279)), (rf_is (Mod_37 hs.2.1 : rf h (g + 266) 28 (g + 279)) : isR h (g + 266) 28), (Mod_38 hs.2.1 : arI h (g + 279) 0), (rdI_0 (Mod_38 hs.2.1 : arI h (g + 279) 0) : rdI h (g + 279)), (Mod_39 hs.2.1 : aln h (g + 279) = 48), (rf_g (Mod_40 hs.2.1 : rf h (g + 266) 29 (g + 280)) : gR h (g + 266) 29 = (g + 280)), (rf_is (Mod_40 hs.2.1 : rf h (g + 266) 29 (g + 280)) : isR h (g + 266) 29), (Mod_41 hs.2.1 : arI h (g + 280) 0), (rdI_0 (Mod_41 hs.2.1 : arI h (g + 280) 0) : rdI h (g + 280)), (Mod_42 hs.2.1 : aln h (g + 280) = 48), vkk_n, vkk_i, vkk_r, vkk_l, vkk_d, catS_nil, catS_i, catS_r, catS_l, catS_d, Nat.reduceAdd, Nat.reduceLeDiff, Nat.zero_le, Nat.le_refl, Option.bind_some, Option.toList_some, Option.toList_none, List.cons_append, List.nil_append, or_true, true_or, if_true, if_false, Int32.reduceLT, Int32.reduceLE, not_true, not_false_iff, true_and, and_true, false_and, and_false]
          exact hZ
        · have z' : ¬ lg_cmp (aL h (g + 272) (i + 1)) (aL h (g + 272) (s + 1)) = 0 := by
            rw [n1, n2]
            exact fun v => z (sm.mp ((lcmp_eq _ _).mp v))
          rw [if_neg (fun v => z v.2)]
          refine ⟨h, ?_, Fr.rfl _, wm⟩
          generalize hZ : ev 160 2 [some (.ref (g + 266)), some (.int (nI s)), some (.int (nI (i + 1))), l3] [] h = Z
          simp +decide only [e160_7, e160_8, e160_11, e160_12, e160_13, e160_15, e160_18, e160_19, e160_22, e160_23, e160_24, e160_25, e160_26, e160_27, e160_30, e160_31, e160_32, e160_33, e160_34, e160_35, e160_38, e160_39, e160_40, e160_41, e160_42, e160_43, e160_46, e160_49, om, v1, v2, v3, v4, v5, v6, t1, eq_true y', z', nI_1, nI_add, (Mod_0 hs.2.1 : ob h (g + 266) 11), (rf_g (Mod_7 hs.2.1 : rf h (g + 266) 5 (g + 269)) : gR h (g + 266) 5 = (g + 269)), (rf_is (Mod_7 hs.2.1 : rf h (g + 266) 5 (g + 269)) : isR h (g + 266) 5), (Mod_8 hs.2.1 : arI h (g + 269) 0), (rdI_0 (Mod_8 hs.2.1 : arI h (g + 269) 0) : rdI h (g + 269)), (Mod_9 hs.2.1 : aln h (g + 269) = 403), (rf_g (Mod_10 hs.2.1 : rf h (g + 266) 6 (g + 270)) : gR h (g + 266) 6 = (g + 270)), (rf_is (Mod_10 hs.2.1 : rf h (g + 266) 6 (g + 270)) : isR h (g + 266) 6), (Mod_11 hs.2.1 : arI h (g + 270) 0), (rdI_0 (Mod_11 hs.2.1 : arI h (g + 270) 0) : rdI h (g + 270)), (Mod_12 hs.2.1 : aln h (g + 270) = 403), (rf_g (Mod_13 hs.2.1 : rf h (g + 266) 7 (g + 271)) : gR h (g + 266) 7 = (g + 271)), (rf_is (Mod_13 hs.2.1 : rf h (g + 266) 7 (g + 271)) : isR h (g + 266) 7), (Mod_14 hs.2.1 : arI h (g + 271) 0), (rdI_0 (Mod_14 hs.2.1 : arI h (g + 271) 0) : rdI h (g + 271)), (Mod_15 hs.2.1 : aln h (g + 271) = 403), (rf_g (Mod_16 hs.2.1 : rf h (g + 266) 8 (g + 272)) : gR h (g + 266) 8 = (g + 272)), (rf_is (Mod_16 hs.2.1 : rf h (g + 266) 8 (g + 272)) : isR h (g + 266) 8), (Mod_17 hs.2.1 : arL h (g + 272)), (Mod_18 hs.2.1 : aln h (g + 272) = 403), (rf_g (Mod_34 hs.2.1 : rf h (g + 266) 27 (g + 278)) : gR h (g + 266) 27 = (g + 278)), (rf_is (Mod_34 hs.2.1 : rf h (g + 266) 27 (g + 278)) : isR h (g + 266) 27), (Mod_35 hs.2.1 : arI h (g + 278) 0), (rdI_0 (Mod_35 hs.2.1 : arI h (g + 278) 0) : rdI h (g + 278)), (Mod_36 hs.2.1 : aln h (g + 278) = 6), (rf_g (Mod_37 hs.2.1 : rf h (g + 266) 28 (g + 279)) : gR h (g + 266) 28 = (g + 279)), (rf_is (Mod_37 hs.2.1 : rf h (g + 266) 28 (g + 279)) : isR h (g + 266) 28), (Mod_38 hs.2.1 : arI h (g + 279) 0), (rdI_0 (Mod_38 hs.2.1 : arI h (g + 279) 0) : rdI h (g + 279)), (Mod_39 hs.2.1 : aln h (g + 279) = 48), (rf_g (Mod_40 hs.2.1 : rf h (g + 266) 29 (g + 280)) : gR h (g + 266) 29 = (g + 280)), (rf_is (Mod_40 hs.2.1 : rf h (g + 266) 29 (g + 280)) : isR h (g + 266) 29), (Mod_41 hs.2.1 : arI h (g + 280) 0), (rdI_0 (Mod_41 hs.2.1 : arI h (g + 280) 0) : rdI h (g + 280)), (Mod_42 hs.2.1 : aln h (g + 280) = 48), vkk_n, vkk_i, vkk_r, vkk_l, vkk_d, catS_nil, catS_i, catS_r, catS_l, catS_d, Nat.reduceAdd, Nat.reduceLeDiff, Nat.zero_le, Nat.le_refl, Option.bind_some, Option.toList_some, Option.toList_none, List.cons_append, List.nil_append, or_true, true_or, if_true, if_false, Int32.reduceLT, Int32.reduceLE, not_true, not_false_iff, true_and, and_true, false_and, and_false]
          exact hZ
      · have y' : ¬ nI (kd b L i) = 22 := fun v => y (n22.mp v)
        rw [if_neg (fun v => y v.1)]
        refine ⟨h, ?_, Fr.rfl _, wm⟩
        generalize hZ : ev 160 2 [some (.ref (g + 266)), some (.int (nI s)), some (.int (nI (i + 1))), l3] [] h = Z
        simp +decide only [e160_7, e160_8, e160_11, e160_12, e160_13, e160_15, e160_18, e160_19, e160_22, e160_23, e160_24, e160_25, e160_26, e160_27, e160_30, e160_31, e160_32, e160_33, e160_34, e160_35, e160_38, e160_39, e160_40, e160_41, e160_42, e160_43, e160_46, e160_49, om, v1, v2, t1, y', nI_1, nI_add, (Mod_0 hs.2.1 : ob h (g + 266) 11), (rf_g (Mod_7 hs.2.1 : rf h (g + 266) 5 (g + 269)) : gR h (g + 266) 5 = (g + 269)), (rf_is (Mod_7 hs.2.1 : rf h (g + 266) 5 (g + 269)) : isR h (g + 266) 5), (Mod_8 hs.2.1 : arI h (g + 269) 0), (rdI_0 (Mod_8 hs.2.1 : arI h (g + 269) 0) : rdI h (g + 269)), (Mod_9 hs.2.1 : aln h (g + 269) = 403), (rf_g (Mod_10 hs.2.1 : rf h (g + 266) 6 (g + 270)) : gR h (g + 266) 6 = (g + 270)), (rf_is (Mod_10 hs.2.1 : rf h (g + 266) 6 (g + 270)) : isR h (g + 266) 6), (Mod_11 hs.2.1 : arI h (g + 270) 0), (rdI_0 (Mod_11 hs.2.1 : arI h (g + 270) 0) : rdI h (g + 270)), (Mod_12 hs.2.1 : aln h (g + 270) = 403), (rf_g (Mod_13 hs.2.1 : rf h (g + 266) 7 (g + 271)) : gR h (g + 266) 7 = (g + 271)), (rf_is (Mod_13 hs.2.1 : rf h (g + 266) 7 (g + 271)) : isR h (g + 266) 7), (Mod_14 hs.2.1 : arI h (g + 271) 0), (rdI_0 (Mod_14 hs.2.1 : arI h (g + 271) 0) : rdI h (g + 271)), (Mod_15 hs.2.1 : aln h (g + 271) = 403), (rf_g (Mod_16 hs.2.1 : rf h (g + 266) 8 (g + 272)) : gR h (g + 266) 8 = (g + 272)), (rf_is (Mod_16 hs.2.1 : rf h (g + 266) 8 (g + 272)) : isR h (g + 266) 8), (Mod_17 hs.2.1 : arL h (g + 272)), (Mod_18 hs.2.1 : aln h (g + 272) = 403), (rf_g (Mod_34 hs.2.1 : rf h (g + 266) 27 (g + 278)) : gR h (g + 266) 27 = (g + 278)), (rf_is (Mod_34 hs.2.1 : rf h (g + 266) 27 (g + 278)) : isR h (g + 266) 27), (Mod_35 hs.2.1 : arI h (g + 278) 0), (rdI_0 (Mod_35 hs.2.1 : arI h (g + 278) 0) : rdI h (g + 278)), (Mod_36 hs.2.1 : aln h (g + 278) = 6), (rf_g (Mod_37 hs.2.1 : rf h (g + 266) 28 (g + 279)) : gR h (g + 266) 28 = (g + 279)), (rf_is (Mod_37 hs.2.1 : rf h (g + 266) 28 (g + 279)) : isR h (g + 266) 28), (Mod_38 hs.2.1 : arI h (g + 279) 0), (rdI_0 (Mod_38 hs.2.1 : arI h (g + 279) 0) : rdI h (g + 279)), (Mod_39 hs.2.1 : aln h (g + 279) = 48), (rf_g (Mod_40 hs.2.1 : rf h (g + 266) 29 (g + 280)) : gR h (g + 266) 29 = (g + 280)), (rf_is (Mod_40 hs.2.1 : rf h (g + 266) 29 (g + 280)) : isR h (g + 266) 29), (Mod_41 hs.2.1 : arI h (g + 280) 0), (rdI_0 (Mod_41 hs.2.1 : arI h (g + 280) 0) : rdI h (g + 280)), (Mod_42 hs.2.1 : aln h (g + 280) = 48), vkk_n, vkk_i, vkk_r, vkk_l, vkk_d, catS_nil, catS_i, catS_r, catS_l, catS_d, Nat.reduceAdd, Nat.reduceLeDiff, Nat.zero_le, Nat.le_refl, Option.bind_some, Option.toList_some, Option.toList_none, List.cons_append, List.nil_append, or_true, true_or, if_true, if_false, Int32.reduceLT, Int32.reduceLE, not_true, not_false_iff, true_and, and_true, false_and, and_false]
        exact hZ
    obtain ⟨h1, s1, s2, s3⟩ := stp_
    have q1 : MZ h1 g b L c := MZ_fr s2 (fun a z => z.elim) (fun k z => by unfold FTW at z; omega) q
    obtain ⟨h2, n1, n2, n3⟩ := ih (i + 1) h1 l3 (by omega) q1 s3
    refine ⟨h2, ?_, s2.tr n2, n3⟩
    rw [← n1, ← s1]
    simp +decide only [e160_2, e160_3, e160_4, i1, vkk_n, vkk_i, vkk_r, vkk_l, vkk_d, catS_nil, catS_i, catS_r, catS_l, catS_d, Nat.reduceAdd, Nat.reduceLeDiff, Nat.zero_le, Nat.le_refl, Option.bind_some, Option.toList_some, Option.toList_none, List.cons_append, List.nil_append, or_true, true_or, if_true, if_false, Int32.reduceLT, Int32.reduceLE, not_true, not_false_iff, true_and, and_true, false_and, and_false]
/-- members of form n in the model's new rows; before them nothing has changed -/
def NK (h h1 : VG) (g n m : Nat) (K R : Nat → Nat) (W : Nat × Nat) : Prop := (∀ j, j < m → aI h1 (g + 279) (8 * n + j) = nI (K j) ∧ (W.1 = 0 → aI h1 (g + 280) (8 * n + j) = nI (R j))) ∧ ∀ x, x < 8 * n → aI h1 (g + 279) x = aI h (g + 279) x ∧ aI h1 (g + 280) x = aI h (g + 280) x
theorem mt_ge (T : Nat → Nat) (s0 : Nat) : ∀ m, s0 + m ≤ mt T s0 m := by
  intro m
  induction m with
  | zero => exact Nat.le_refl _
  | succ m ih =>
    show _ ≤ (if T (mt T s0 m + 1) = 3 then mt T s0 m + 2 else mt T s0 m + 1)
    split <;> omega
theorem mt_up (T : Nat → Nat) (s0 : Nat) (M : Nat) : ∀ m, m ≤ M → mt T s0 m ≤ mt T s0 M := by
  induction M with
  | zero =>
    intro m hm
    obtain rfl : m = 0 := by omega
    exact Nat.le_refl _
  | succ M ih =>
    intro m hm
    by_cases e : m = M + 1
    · rw [e]
      exact Nat.le_refl _
    · have a := ih m (by omega)
      have : mt T s0 M ≤ (if T (mt T s0 M + 1) = 3 then mt T s0 M + 2 else mt T s0 M + 1) := by split <;> omega
      exact Nat.le_trans a this
theorem l_mmb (g L c s n M : Nat) (b : Nat → Nat) (W : Nat × Nat) (hM : M ≤ 8) (hn : n < 6) (hc : mt (tyC b L) (s + 2) M < c) (hI : KINDS (tyC b L) (s + 2) M) (h4 : kd b L (mt (tyC b L) (s + 2) M) = 4) (hW : WL W (s + 2)) : ∀ d m h h0, m + d = M → MZ h g b L c → gI h (g + 266) 26 = nI n → WL (wM b L (s + 2) W m) (mt (tyC b L) (s + 2) m) → WM h g b L (wM b L (s + 2) W m) → NK h0 h g n m (mKk b L (s + 2)) (mRr b L (s + 2)) (wM b L (s + 2) W m) → ∃ h1, ev 160 58 [some (.ref (g + 266)), some (.int (nI s)), some (.int (nI m)), some (.int (nI (mt (tyC b L) (s + 2) m)))] [] h = ev 160 170 [some (.ref (g + 266)), some (.int (nI s)), some (.int (nI M)), some (.int (nI (mt (tyC b L) (s + 2) M)))] [] h1 ∧ Fr (fun a => a = g + 279 ∨ a = g + 280) (FTW g) h h1 ∧ WL (wM b L (s + 2) W M) (mt (tyC b L) (s + 2) M) ∧ WM h1 g b L (wM b L (s + 2) W M) ∧ NK h0 h1 g n M (mKk b L (s + 2)) (mRr b L (s + 2)) (wM b L (s + 2) W M) := by
  intro d
  induction d with
  | zero =>
    intro m h h0 hd q e26 wl wm nk
    obtain rfl : m = M := by omega
    have hs := q.1.1
    have om : ob h (g + 266) 11 := Mod_0 hs.2.1
    have hcc := q.1.2.2.1
    have v1 : vp_in (nI (mt (tyC b L) (s + 2) m)) 403 := vp_in_nI (by omega) (by decide)
    have v2 : (nI (mt (tyC b L) (s + 2) m)).toNatClampNeg = mt (tyC b L) (s + 2) m := nI_clamp (by omega)
    have t1 := (q.1.2.1 _ hc).1
    rw [h4] at t1
    have t1 : aI h (g + 269) (mt (tyC b L) (s + 2) m) = 4 := t1
    refine ⟨h, ?_, Fr.rfl _, wl, wm, nk⟩
    simp +decide only [e160_58, e160_59, e160_62, e160_63, e160_64, e160_65, v1, v2, t1, (Mod_0 hs.2.1 : ob h (g + 266) 11), (rf_g (Mod_7 hs.2.1 : rf h (g + 266) 5 (g + 269)) : gR h (g + 266) 5 = (g + 269)), (rf_is (Mod_7 hs.2.1 : rf h (g + 266) 5 (g + 269)) : isR h (g + 266) 5), (Mod_8 hs.2.1 : arI h (g + 269) 0), (rdI_0 (Mod_8 hs.2.1 : arI h (g + 269) 0) : rdI h (g + 269)), (Mod_9 hs.2.1 : aln h (g + 269) = 403), (rf_g (Mod_10 hs.2.1 : rf h (g + 266) 6 (g + 270)) : gR h (g + 266) 6 = (g + 270)), (rf_is (Mod_10 hs.2.1 : rf h (g + 266) 6 (g + 270)) : isR h (g + 266) 6), (Mod_11 hs.2.1 : arI h (g + 270) 0), (rdI_0 (Mod_11 hs.2.1 : arI h (g + 270) 0) : rdI h (g + 270)), (Mod_12 hs.2.1 : aln h (g + 270) = 403), (rf_g (Mod_13 hs.2.1 : rf h (g + 266) 7 (g + 271)) : gR h (g + 266) 7 = (g + 271)), (rf_is (Mod_13 hs.2.1 : rf h (g + 266) 7 (g + 271)) : isR h (g + 266) 7), (Mod_14 hs.2.1 : arI h (g + 271) 0), (rdI_0 (Mod_14 hs.2.1 : arI h (g + 271) 0) : rdI h (g + 271)), (Mod_15 hs.2.1 : aln h (g + 271) = 403), (rf_g (Mod_16 hs.2.1 : rf h (g + 266) 8 (g + 272)) : gR h (g + 266) 8 = (g + 272)), (rf_is (Mod_16 hs.2.1 : rf h (g + 266) 8 (g + 272)) : isR h (g + 266) 8), (Mod_17 hs.2.1 : arL h (g + 272)), (Mod_18 hs.2.1 : aln h (g + 272) = 403), (rf_g (Mod_34 hs.2.1 : rf h (g + 266) 27 (g + 278)) : gR h (g + 266) 27 = (g + 278)), (rf_is (Mod_34 hs.2.1 : rf h (g + 266) 27 (g + 278)) : isR h (g + 266) 27), (Mod_35 hs.2.1 : arI h (g + 278) 0), (rdI_0 (Mod_35 hs.2.1 : arI h (g + 278) 0) : rdI h (g + 278)), (Mod_36 hs.2.1 : aln h (g + 278) = 6), (rf_g (Mod_37 hs.2.1 : rf h (g + 266) 28 (g + 279)) : gR h (g + 266) 28 = (g + 279)), (rf_is (Mod_37 hs.2.1 : rf h (g + 266) 28 (g + 279)) : isR h (g + 266) 28), (Mod_38 hs.2.1 : arI h (g + 279) 0), (rdI_0 (Mod_38 hs.2.1 : arI h (g + 279) 0) : rdI h (g + 279)), (Mod_39 hs.2.1 : aln h (g + 279) = 48), (rf_g (Mod_40 hs.2.1 : rf h (g + 266) 29 (g + 280)) : gR h (g + 266) 29 = (g + 280)), (rf_is (Mod_40 hs.2.1 : rf h (g + 266) 29 (g + 280)) : isR h (g + 266) 29), (Mod_41 hs.2.1 : arI h (g + 280) 0), (rdI_0 (Mod_41 hs.2.1 : arI h (g + 280) 0) : rdI h (g + 280)), (Mod_42 hs.2.1 : aln h (g + 280) = 48), vkk_n, vkk_i, vkk_r, vkk_l, vkk_d, catS_nil, catS_i, catS_r, catS_l, catS_d, Nat.reduceAdd, Nat.reduceLeDiff, Nat.zero_le, Nat.le_refl, Option.bind_some, Option.toList_some, Option.toList_none, List.cons_append, List.nil_append, or_true, true_or, if_true, if_false, Int32.reduceLT, Int32.reduceLE, not_true, not_false_iff, true_and, and_true, false_and, and_false]
  | succ d ih =>
    intro m h h0 hd q e26 wl wm nk
    have hs := q.1.1
    have om : ob h (g + 266) 11 := Mod_0 hs.2.1
    have hcc := q.1.2.2.1
    have up := mt_up (tyC b L) (s + 2) M (m + 1) (by omega)
    have e1 : mt (tyC b L) (s + 2) (m + 1) = if tyC b L (mt (tyC b L) (s + 2) m + 1) = 3 then mt (tyC b L) (s + 2) m + 2 else mt (tyC b L) (s + 2) m + 1 := rfl
    have kk := hI m (by omega)
    have eW : wM b L (s + 2) W (m + 1) = wRp (tyC b L) (vC b L) (wM b L (s + 2) W m) (mr (tyC b L) (mt (tyC b L) (s + 2) m)) := rfl
    have eK : mKk b L (s + 2) m = kd b L (mt (tyC b L) (s + 2) m) - 24 := rfl
    have eR : mRr b L (s + 2) m = rpT (tyC b L) (vC b L) (mr (tyC b L) (mt (tyC b L) (s + 2) m)) := rfl
    generalize hX : mt (tyC b L) (s + 2) m = X at e1 kk eW eK eR wl ⊢
    have Xl : X + 1 ≤ mt (tyC b L) (s + 2) (m + 1) := by
      rw [e1]
      split <;> omega
    have v1 : vp_in (nI X) 403 := vp_in_nI (by omega) (by decide)
    have v2 : (nI X).toNatClampNeg = X := nI_clamp (by omega)
    have v3 : vp_in (nI (X + 1)) 403 := vp_in_nI (by omega) (by decide)
    have v4 : (nI (X + 1)).toNatClampNeg = X + 1 := nI_clamp (by omega)
    have t1 := (q.1.2.1 X (by omega)).1
    have ko := kd_or b L X
    have k24 := (cTy_0 ko).2.2.2.2.2.2.1.mp kk
    have x4 : ¬ nI (kd b L X) = 4 := fun z => by have := (nI_eq (b := 4) (by omega) (by decide)).mp z; omega
    have x2 : ¬ nI (kd b L X) = 2 := fun z => by have := (nI_eq (b := 2) (by omega) (by decide)).mp z; omega
    have s24 : nI (kd b L X) - 24 = nI (kd b L X - 24) := by rw [show (24 : Int32) = nI 24 from rfl, pk_sub (by omega)]
    have i8 : (8 : Int32) * nI n + nI m = nI (8 * n + m) := by rw [m8, nI_add]
    have i8' : nI (8 * n + (m + 1)) - 1 = nI (8 * n + m) := by rw [show (1 : Int32) = nI 1 from rfl, pk_sub (by omega)]; congr 1
    have i88 : (8 : Int32) * nI n + nI (m + 1) = nI (8 * n + (m + 1)) := by rw [m8, nI_add]
    have w1 : vp_in (nI (8 * n + m)) 48 := vp_in_nI (by omega) (by decide)
    have w2 : (nI (8 * n + m)).toNatClampNeg = 8 * n + m := nI_clamp (by omega)
    have one : nI 1 = (1 : Int32) := rfl
    -- the kind
    have ent : ev 160 58 [some (.ref (g + 266)), some (.int (nI s)), some (.int (nI m)), some (.int (nI X))] [] h = ev 160 58 [some (.ref (g + 266)), some (.int (nI s)), some (.int (nI (m + 1))), some (.int (nI (X + 1)))] [] (wI (wI h (g + 279) (8 * n + m) (nI (kd b L X - 24))) (g + 280) (8 * n + m) (nI 1)) := by
      have st0 : ev 160 58 [some (.ref (g + 266)), some (.int (nI s)), some (.int (nI m)), some (.int (nI X))] [] h = ev 160 123 [some (.ref (g + 266)), some (.int (nI s)), some (.int (nI m)), some (.int (nI X))] [] h := by
        simp +decide only [e160_58, e160_59, e160_62, e160_63, e160_64, e160_65, e160_68, e160_69, e160_72, e160_73, e160_74, e160_75, v1, v2, t1, x4, x2, (Mod_0 hs.2.1 : ob h (g + 266) 11), (rf_g (Mod_7 hs.2.1 : rf h (g + 266) 5 (g + 269)) : gR h (g + 266) 5 = (g + 269)), (rf_is (Mod_7 hs.2.1 : rf h (g + 266) 5 (g + 269)) : isR h (g + 266) 5), (Mod_8 hs.2.1 : arI h (g + 269) 0), (rdI_0 (Mod_8 hs.2.1 : arI h (g + 269) 0) : rdI h (g + 269)), (Mod_9 hs.2.1 : aln h (g + 269) = 403), (rf_g (Mod_10 hs.2.1 : rf h (g + 266) 6 (g + 270)) : gR h (g + 266) 6 = (g + 270)), (rf_is (Mod_10 hs.2.1 : rf h (g + 266) 6 (g + 270)) : isR h (g + 266) 6), (Mod_11 hs.2.1 : arI h (g + 270) 0), (rdI_0 (Mod_11 hs.2.1 : arI h (g + 270) 0) : rdI h (g + 270)), (Mod_12 hs.2.1 : aln h (g + 270) = 403), (rf_g (Mod_13 hs.2.1 : rf h (g + 266) 7 (g + 271)) : gR h (g + 266) 7 = (g + 271)), (rf_is (Mod_13 hs.2.1 : rf h (g + 266) 7 (g + 271)) : isR h (g + 266) 7), (Mod_14 hs.2.1 : arI h (g + 271) 0), (rdI_0 (Mod_14 hs.2.1 : arI h (g + 271) 0) : rdI h (g + 271)), (Mod_15 hs.2.1 : aln h (g + 271) = 403), (rf_g (Mod_16 hs.2.1 : rf h (g + 266) 8 (g + 272)) : gR h (g + 266) 8 = (g + 272)), (rf_is (Mod_16 hs.2.1 : rf h (g + 266) 8 (g + 272)) : isR h (g + 266) 8), (Mod_17 hs.2.1 : arL h (g + 272)), (Mod_18 hs.2.1 : aln h (g + 272) = 403), (rf_g (Mod_34 hs.2.1 : rf h (g + 266) 27 (g + 278)) : gR h (g + 266) 27 = (g + 278)), (rf_is (Mod_34 hs.2.1 : rf h (g + 266) 27 (g + 278)) : isR h (g + 266) 27), (Mod_35 hs.2.1 : arI h (g + 278) 0), (rdI_0 (Mod_35 hs.2.1 : arI h (g + 278) 0) : rdI h (g + 278)), (Mod_36 hs.2.1 : aln h (g + 278) = 6), (rf_g (Mod_37 hs.2.1 : rf h (g + 266) 28 (g + 279)) : gR h (g + 266) 28 = (g + 279)), (rf_is (Mod_37 hs.2.1 : rf h (g + 266) 28 (g + 279)) : isR h (g + 266) 28), (Mod_38 hs.2.1 : arI h (g + 279) 0), (rdI_0 (Mod_38 hs.2.1 : arI h (g + 279) 0) : rdI h (g + 279)), (Mod_39 hs.2.1 : aln h (g + 279) = 48), (rf_g (Mod_40 hs.2.1 : rf h (g + 266) 29 (g + 280)) : gR h (g + 266) 29 = (g + 280)), (rf_is (Mod_40 hs.2.1 : rf h (g + 266) 29 (g + 280)) : isR h (g + 266) 29), (Mod_41 hs.2.1 : arI h (g + 280) 0), (rdI_0 (Mod_41 hs.2.1 : arI h (g + 280) 0) : rdI h (g + 280)), (Mod_42 hs.2.1 : aln h (g + 280) = 48), vkk_n, vkk_i, vkk_r, vkk_l, vkk_d, catS_nil, catS_i, catS_r, catS_l, catS_d, Nat.reduceAdd, Nat.reduceLeDiff, Nat.zero_le, Nat.le_refl, Option.bind_some, Option.toList_some, Option.toList_none, List.cons_append, List.nil_append, or_true, true_or, if_true, if_false, Int32.reduceLT, Int32.reduceLE, not_true, not_false_iff, true_and, and_true, false_and, and_false]
      rw [st0]
      generalize hZ : ev 160 58 [some (.ref (g + 266)), some (.int (nI s)), some (.int (nI (m + 1))), some (.int (nI (X + 1)))] [] (wI (wI h (g + 279) (8 * n + m) (nI (kd b L X - 24))) (g + 280) (8 * n + m) (nI 1)) = Z
      simp +decide only [e160_123, e160_124, e160_127, e160_129, e160_130, e160_133, e160_134, e160_135, e160_136, e160_137, e160_140, e160_141, e160_142, e160_144, e160_145, e160_146, e160_147, e160_150, e160_152, e160_153, e160_156, e160_157, e160_158, e160_159, e160_160, e160_161, e160_164, e160_167, om, v1, v2, t1, s24, e26, i8, w1, w2, nI_1, nI_add, (Mod_0 hs.2.1 : ob h (g + 266) 11), (rf_g (Mod_7 hs.2.1 : rf h (g + 266) 5 (g + 269)) : gR h (g + 266) 5 = (g + 269)), (rf_is (Mod_7 hs.2.1 : rf h (g + 266) 5 (g + 269)) : isR h (g + 266) 5), (Mod_8 hs.2.1 : arI h (g + 269) 0), (rdI_0 (Mod_8 hs.2.1 : arI h (g + 269) 0) : rdI h (g + 269)), (Mod_9 hs.2.1 : aln h (g + 269) = 403), (rf_g (Mod_10 hs.2.1 : rf h (g + 266) 6 (g + 270)) : gR h (g + 266) 6 = (g + 270)), (rf_is (Mod_10 hs.2.1 : rf h (g + 266) 6 (g + 270)) : isR h (g + 266) 6), (Mod_11 hs.2.1 : arI h (g + 270) 0), (rdI_0 (Mod_11 hs.2.1 : arI h (g + 270) 0) : rdI h (g + 270)), (Mod_12 hs.2.1 : aln h (g + 270) = 403), (rf_g (Mod_13 hs.2.1 : rf h (g + 266) 7 (g + 271)) : gR h (g + 266) 7 = (g + 271)), (rf_is (Mod_13 hs.2.1 : rf h (g + 266) 7 (g + 271)) : isR h (g + 266) 7), (Mod_14 hs.2.1 : arI h (g + 271) 0), (rdI_0 (Mod_14 hs.2.1 : arI h (g + 271) 0) : rdI h (g + 271)), (Mod_15 hs.2.1 : aln h (g + 271) = 403), (rf_g (Mod_16 hs.2.1 : rf h (g + 266) 8 (g + 272)) : gR h (g + 266) 8 = (g + 272)), (rf_is (Mod_16 hs.2.1 : rf h (g + 266) 8 (g + 272)) : isR h (g + 266) 8), (Mod_17 hs.2.1 : arL h (g + 272)), (Mod_18 hs.2.1 : aln h (g + 272) = 403), (rf_g (Mod_34 hs.2.1 : rf h (g + 266) 27 (g + 278)) : gR h (g + 266) 27 = (g + 278)), (rf_is (Mod_34 hs.2.1 : rf h (g + 266) 27 (g + 278)) : isR h (g + 266) 27), (Mod_35 hs.2.1 : arI h (g + 278) 0), (rdI_0 (Mod_35 hs.2.1 : arI h (g + 278) 0) : rdI h (g + 278)), (Mod_36 hs.2.1 : aln h (g + 278) = 6), (rf_g (Mod_37 hs.2.1 : rf h (g + 266) 28 (g + 279)) : gR h (g + 266) 28 = (g + 279)), (rf_is (Mod_37 hs.2.1 : rf h (g + 266) 28 (g + 279)) : isR h (g + 266) 28), (Mod_38 hs.2.1 : arI h (g + 279) 0), (rdI_0 (Mod_38 hs.2.1 : arI h (g + 279) 0) : rdI h (g + 279)), (Mod_39 hs.2.1 : aln h (g + 279) = 48), (rf_g (Mod_40 hs.2.1 : rf h (g + 266) 29 (g + 280)) : gR h (g + 266) 29 = (g + 280)), (rf_is (Mod_40 hs.2.1 : rf h (g + 266) 29 (g + 280)) : isR h (g + 266) 29), (Mod_41 hs.2.1 : arI h (g + 280) 0), (rdI_0 (Mod_41 hs.2.1 : arI h (g + 280) 0) : rdI h (g + 280)), (Mod_42 hs.2.1 : aln h (g + 280) = 48), ob_pI, rf_pI, isR_pI, isI_pI, isL_pI, arI_pI, arL_pI, arR_pI, arD_pI, aln_pI, rdI_pI, rdB_pI, rdR_pI, aR_pI, pI_2, gI_pI, gL_pI, gD_pI, gR_pI, aI_pI, aL_pI, aD_pI, ob_pL, rf_pL, isR_pL, isI_pL, isL_pL, arI_pL, arL_pL, arR_pL, arD_pL, aln_pL, rdI_pL, rdB_pL, rdR_pL, aR_pL, pL_2, gI_pL, gL_pL, gD_pL, gR_pL, aI_pL, aL_pL, aD_pL, ob_wI, rf_wI, isR_wI, isI_wI, isL_wI, arI_wI, arL_wI, arR_wI, arD_wI, aln_wI, rdI_wI, rdB_wI, rdR_wI, aR_wI, wI_2, gI_wI, gL_wI, gD_wI, gR_wI, aL_wI, aD_wI, aI_wI_ne, ob_wL, rf_wL, isR_wL, isI_wL, isL_wL, arI_wL, arL_wL, arR_wL, arD_wL, aln_wL, rdI_wL, rdB_wL, rdR_wL, aR_wL, wL_2, gI_wL, gL_wL, gD_wL, gR_wL, aI_wL, aD_wL, aL_wL_ne, ob_bI, rf_bI, isR_bI, isI_bI, isL_bI, arI_bI, arL_bI, arR_bI, arD_bI, aln_bI, rdI_bI, rdB_bI, rdR_bI, aR_bI, bI_2, gI_bI, gL_bI, gD_bI, gR_bI, aL_bI, aD_bI, aI_bI_ne, ob_bL, rf_bL, isR_bL, isI_bL, isL_bL, arI_bL, arL_bL, arR_bL, arD_bL, aln_bL, rdI_bL, rdB_bL, rdR_bL, aR_bL, bL_2, gI_bL, gL_bL, gD_bL, gR_bL, aI_bL, aD_bL, aL_bL_ne, vkk_n, vkk_i, vkk_r, vkk_l, vkk_d, catS_nil, catS_i, catS_r, catS_l, catS_d, Nat.reduceAdd, Nat.reduceLeDiff, Nat.zero_le, Nat.le_refl, Option.bind_some, Option.toList_some, Option.toList_none, List.cons_append, List.nil_append, or_true, true_or, if_true, if_false, Int32.reduceLT, Int32.reduceLE, not_true, not_false_iff, true_and, and_true, false_and, and_false, Nat.add_assoc, Nat.reduceAdd, Nat.add_left_cancel_iff, Nat.reduceEqDiff, Nat.add_eq_left, Nat.left_eq_add]
      exact hZ
    have f1 : Fr (fun a => a = g + 279 ∨ a = g + 280) (FTW g) h (wI (wI h (g + 279) (8 * n + m) (nI (kd b L X - 24))) (g + 280) (8 * n + m) (nI 1)) := (Fr_wI _ _ _ _ (Or.inl rfl)).tr (Fr_wI _ _ _ _ (Or.inr rfl))
    have f2 : Fr (fun a => a = g + 279 ∨ a = g + 280) NF h (wI (wI h (g + 279) (8 * n + m) (nI (kd b L X - 24))) (g + 280) (8 * n + m) (nI 1)) := (Fr_wI _ _ _ _ (Or.inl rfl)).tr (Fr_wI _ _ _ _ (Or.inr rfl))
    have aK : ∀ j, aI (wI (wI h (g + 279) (8 * n + m) (nI (kd b L X - 24))) (g + 280) (8 * n + m) (nI 1)) (g + 279) j = if j = 8 * n + m then nI (kd b L X - 24) else aI h (g + 279) j := by
      intro j
      rw [aI_wI_ne _ _ _ _ _ _ (ad_ne (by decide)), aI_wI0 _ _ _ _ _ _ (Mod_38 hs.2.1)]
      by_cases z : j = 8 * n + m
      · rw [if_pos ⟨rfl, z⟩, if_pos z]
      · rw [if_neg (fun y => z y.2), if_neg z]
    have aC : ∀ j, aI (wI (wI h (g + 279) (8 * n + m) (nI (kd b L X - 24))) (g + 280) (8 * n + m) (nI 1)) (g + 280) j = if j = 8 * n + m then nI 1 else aI h (g + 280) j := by
      intro j
      rw [aI_wI0 _ _ _ _ _ _ (by simp only [arI_wI]; exact (Mod_41 hs.2.1)), aI_wI_ne _ _ _ _ _ _ (ad_ne (by decide))]
      by_cases z : j = 8 * n + m
      · rw [if_pos ⟨rfl, z⟩, if_pos z]
      · rw [if_neg (fun y => z y.2), if_neg z]
    rw [ent]
    generalize wI (wI h (g + 279) (8 * n + m) (nI (kd b L X - 24))) (g + 280) (8 * n + m) (nI 1) = H at f1 f2 aK aC
    have qH : MZ H g b L c := MZ_fr f2 (fun a z => by omega) (fun k z => z.elim) q
    have eH : gI H (g + 266) 26 = nI n := (f2.gI (fun z => z)).trans e26
    have wH : WM H g b L (wM b L (s + 2) W m) := WM_fr f2 (fun k z => z.elim) wm
    obtain ⟨nk1, nk2⟩ := nk
    have t3 : tyC b L (X + 1) = 3 ↔ kd b L (X + 1) = 2 := (cTy_0 (kd_or b L (X + 1))).2.2.2.2.1
    by_cases y : tyC b L (X + 1) = 3
    case neg =>
      rw [if_neg y] at e1
      have em : mr (tyC b L) X = X := if_neg y
      have eW' : wM b L (s + 2) W (m + 1) = wM b L (s + 2) W m := by
        rw [eW, em]
        unfold wRp
        rw [if_neg (fun z => by omega)]
      have eR' : mRr b L (s + 2) m = 1 := by
        rw [eR, em]
        unfold rpT
        rw [if_neg (by omega)]
      have nkH : NK h0 H g n (m + 1) (mKk b L (s + 2)) (mRr b L (s + 2)) (wM b L (s + 2) W (m + 1)) := by
        refine ⟨fun j hj => ?_, fun x hx => ?_⟩
        · rw [aK, aC, eW']
          by_cases ej : j = m
          · rw [ej, if_pos rfl, if_pos rfl, eK, eR']
            exact ⟨rfl, fun _ => rfl⟩
          · rw [if_neg (by omega), if_neg (by omega)]
            exact nk1 j (by omega)
        · rw [aK, aC, if_neg (by omega), if_neg (by omega)]
          exact nk2 x hx
      obtain ⟨h2, n1, n2, n3⟩ := ih (m + 1) H h0 (by omega) qH eH (by rw [e1, eW']; exact WL_up (by omega) wl) (by rw [eW']; exact wH) nkH
      rw [e1] at n1
      exact ⟨h2, n1, f1.tr n2, n3⟩
    -- how many
    have k2 := t3.mp y
    rw [if_pos y] at e1
    have em : mr (tyC b L) X = X + 1 := if_pos y
    have hsH := qH.1.1
    have omH : ob H (g + 266) 11 := Mod_0 hsH.2.1
    obtain ⟨u1, -, u3, -⟩ := qH.1.2.1 (X + 1) (by omega)
    rw [k2] at u1
    have u1 : aI H (g + 269) (X + 1) = 2 := u1
    have u3 : aI H (g + 271) (X + 1) = nI (vC b L (X + 1)) := u3 k2
    have vlt : vC b L (X + 1) < 10000 := tIv_lt b L _ k2
    have g1 : Fr (fun a => a = g + 279 ∨ a = g + 280) (FTW g) H (wI H (g + 280) (8 * n + m) (nI (vC b L (X + 1)))) := Fr_wI _ _ _ _ (Or.inr rfl)
    have g2 : Fr (fun a => a = g + 279 ∨ a = g + 280) NF H (wI H (g + 280) (8 * n + m) (nI (vC b L (X + 1)))) := Fr_wI _ _ _ _ (Or.inr rfl)
    have qG : MZ (wI H (g + 280) (8 * n + m) (nI (vC b L (X + 1)))) g b L c := MZ_fr g2 (fun a z => by omega) (fun k z => z.elim) qH
    have eG : gI (wI H (g + 280) (8 * n + m) (nI (vC b L (X + 1)))) (g + 266) 26 = nI n := (g2.gI (fun z => z)).trans eH
    have wG : WM (wI H (g + 280) (8 * n + m) (nI (vC b L (X + 1)))) g b L (wM b L (s + 2) W m) := WM_fr g2 (fun k z => z.elim) wH
    have bK : ∀ j, aI (wI H (g + 280) (8 * n + m) (nI (vC b L (X + 1)))) (g + 279) j = aI H (g + 279) j := fun j => aI_wI_ne _ _ _ _ _ _ (ad_ne (by decide))
    have bC : ∀ j, aI (wI H (g + 280) (8 * n + m) (nI (vC b L (X + 1)))) (g + 280) j = if j = 8 * n + m then nI (vC b L (X + 1)) else aI H (g + 280) j := by
      intro j
      rw [aI_wI0 _ _ _ _ _ _ (Mod_41 hsH.2.1)]
      by_cases z : j = 8 * n + m
      · rw [if_pos ⟨rfl, z⟩, if_pos z]
      · rw [if_neg (fun y => z y.2), if_neg z]
    have bV : aI (wI H (g + 280) (8 * n + m) (nI (vC b L (X + 1)))) (g + 271) (X + 1) = nI (vC b L (X + 1)) := (aI_wI_ne _ _ _ _ _ _ (ad_ne (by decide))).trans u3
    have ent2 : ev 160 58 [some (.ref (g + 266)), some (.int (nI s)), some (.int (nI (m + 1))), some (.int (nI (X + 1)))] [] H = ev 160 100 [some (.ref (g + 266)), some (.int (nI s)), some (.int (nI (m + 1))), some (.int (nI (X + 1)))] [] (wI H (g + 280) (8 * n + m) (nI (vC b L (X + 1)))) := by
      simp +decide only [e160_58, e160_59, e160_62, e160_63, e160_64, e160_65, e160_68, e160_69, e160_72, e160_73, e160_74, e160_75, e160_78, e160_79, e160_82, e160_84, e160_85, e160_88, e160_89, e160_90, e160_91, e160_92, e160_93, e160_94, e160_97, e160_98, e160_99, omH, v3, v4, u1, u3, eH, i88, i8', w1, w2, (Mod_0 hsH.2.1 : ob H (g + 266) 11), (rf_g (Mod_7 hsH.2.1 : rf H (g + 266) 5 (g + 269)) : gR H (g + 266) 5 = (g + 269)), (rf_is (Mod_7 hsH.2.1 : rf H (g + 266) 5 (g + 269)) : isR H (g + 266) 5), (Mod_8 hsH.2.1 : arI H (g + 269) 0), (rdI_0 (Mod_8 hsH.2.1 : arI H (g + 269) 0) : rdI H (g + 269)), (Mod_9 hsH.2.1 : aln H (g + 269) = 403), (rf_g (Mod_10 hsH.2.1 : rf H (g + 266) 6 (g + 270)) : gR H (g + 266) 6 = (g + 270)), (rf_is (Mod_10 hsH.2.1 : rf H (g + 266) 6 (g + 270)) : isR H (g + 266) 6), (Mod_11 hsH.2.1 : arI H (g + 270) 0), (rdI_0 (Mod_11 hsH.2.1 : arI H (g + 270) 0) : rdI H (g + 270)), (Mod_12 hsH.2.1 : aln H (g + 270) = 403), (rf_g (Mod_13 hsH.2.1 : rf H (g + 266) 7 (g + 271)) : gR H (g + 266) 7 = (g + 271)), (rf_is (Mod_13 hsH.2.1 : rf H (g + 266) 7 (g + 271)) : isR H (g + 266) 7), (Mod_14 hsH.2.1 : arI H (g + 271) 0), (rdI_0 (Mod_14 hsH.2.1 : arI H (g + 271) 0) : rdI H (g + 271)), (Mod_15 hsH.2.1 : aln H (g + 271) = 403), (rf_g (Mod_16 hsH.2.1 : rf H (g + 266) 8 (g + 272)) : gR H (g + 266) 8 = (g + 272)), (rf_is (Mod_16 hsH.2.1 : rf H (g + 266) 8 (g + 272)) : isR H (g + 266) 8), (Mod_17 hsH.2.1 : arL H (g + 272)), (Mod_18 hsH.2.1 : aln H (g + 272) = 403), (rf_g (Mod_34 hsH.2.1 : rf H (g + 266) 27 (g + 278)) : gR H (g + 266) 27 = (g + 278)), (rf_is (Mod_34 hsH.2.1 : rf H (g + 266) 27 (g + 278)) : isR H (g + 266) 27), (Mod_35 hsH.2.1 : arI H (g + 278) 0), (rdI_0 (Mod_35 hsH.2.1 : arI H (g + 278) 0) : rdI H (g + 278)), (Mod_36 hsH.2.1 : aln H (g + 278) = 6), (rf_g (Mod_37 hsH.2.1 : rf H (g + 266) 28 (g + 279)) : gR H (g + 266) 28 = (g + 279)), (rf_is (Mod_37 hsH.2.1 : rf H (g + 266) 28 (g + 279)) : isR H (g + 266) 28), (Mod_38 hsH.2.1 : arI H (g + 279) 0), (rdI_0 (Mod_38 hsH.2.1 : arI H (g + 279) 0) : rdI H (g + 279)), (Mod_39 hsH.2.1 : aln H (g + 279) = 48), (rf_g (Mod_40 hsH.2.1 : rf H (g + 266) 29 (g + 280)) : gR H (g + 266) 29 = (g + 280)), (rf_is (Mod_40 hsH.2.1 : rf H (g + 266) 29 (g + 280)) : isR H (g + 266) 29), (Mod_41 hsH.2.1 : arI H (g + 280) 0), (rdI_0 (Mod_41 hsH.2.1 : arI H (g + 280) 0) : rdI H (g + 280)), (Mod_42 hsH.2.1 : aln H (g + 280) = 48), vkk_n, vkk_i, vkk_r, vkk_l, vkk_d, catS_nil, catS_i, catS_r, catS_l, catS_d, Nat.reduceAdd, Nat.reduceLeDiff, Nat.zero_le, Nat.le_refl, Option.bind_some, Option.toList_some, Option.toList_none, List.cons_append, List.nil_append, or_true, true_or, if_true, if_false, Int32.reduceLT, Int32.reduceLE, not_true, not_false_iff, true_and, and_true, false_and, and_false]
    rw [ent2]
    have nkG : ∀ W1 : Nat × Nat, (W1.1 = 0 → (wM b L (s + 2) W m).1 = 0 ∧ vC b L (X + 1) = mRr b L (s + 2) m) → ∀ h3, (∀ j, aI h3 (g + 279) j = aI (wI H (g + 280) (8 * n + m) (nI (vC b L (X + 1)))) (g + 279) j ∧ aI h3 (g + 280) j = aI (wI H (g + 280) (8 * n + m) (nI (vC b L (X + 1)))) (g + 280) j) → NK h0 h3 g n (m + 1) (mKk b L (s + 2)) (mRr b L (s + 2)) W1 := by
      intro W1 hw h3 e3
      refine ⟨fun j hj => ?_, fun x hx => ?_⟩
      · rw [(e3 _).1, (e3 _).2, bK, bC, aK, aC]
        by_cases ej : j = m
        · rw [ej, if_pos rfl, if_pos rfl, eK]
          exact ⟨rfl, fun z => by rw [(hw z).2]⟩
        · rw [if_neg (by omega), if_neg (by omega), if_neg (by omega)]
          exact ⟨(nk1 j (by omega)).1, fun z => (nk1 j (by omega)).2 (hw z).1⟩
      · rw [(e3 _).1, (e3 _).2, bK, bC, aK, aC, if_neg (by omega), if_neg (by omega), if_neg (by omega)]
        exact nk2 x hx
    generalize wI H (g + 280) (8 * n + m) (nI (vC b L (X + 1))) = G at g1 g2 qG eG wG bV nkG
    have hsG := qG.1.1
    have omG : ob G (g + 266) 11 := Mod_0 hsG.2.1
    have fin : ∃ h3, ev 160 100 [some (.ref (g + 266)), some (.int (nI s)), some (.int (nI (m + 1))), some (.int (nI (X + 1)))] [] G = ev 160 58 [some (.ref (g + 266)), some (.int (nI s)), some (.int (nI (m + 1))), some (.int (nI (X + 2)))] [] h3 ∧ Fr NR (FTW g) G h3 ∧ WM h3 g b L (wM b L (s + 2) W (m + 1)) ∧ WL (wM b L (s + 2) W (m + 1)) (X + 2) ∧ ((wM b L (s + 2) W (m + 1)).1 = 0 → (wM b L (s + 2) W m).1 = 0 ∧ vC b L (X + 1) = mRr b L (s + 2) m) := by
      rw [eW, eR, em]
      unfold wRp rpT
      rw [if_pos y]
      by_cases ok : 1 ≤ vC b L (X + 1) ∧ vC b L (X + 1) ≤ 4
      · rw [if_neg (fun z => z.2 ok), if_pos ok]
        have mi : mIn (nI (vC b L (X + 1))) 1 4 = 1 := (mIn_nI (l := 1) (u := 4) (by omega) (by decide) (by decide)).trans (if_pos ok)
        refine ⟨G, ?_, Fr.rfl _, wG, WL_up (by omega) wl, fun z => ⟨z, rfl⟩⟩
        generalize hZ : ev 160 58 [some (.ref (g + 266)), some (.int (nI s)), some (.int (nI (m + 1))), some (.int (nI (X + 2)))] [] G = Z
        simp +decide only [e160_100, e160_101, e160_104, e160_105, e160_106, e160_107, e160_108, e160_111, e160_114, e160_115, e160_116, e160_117, e160_120, e160_164, e160_167, omG, v3, v4, bV, c_m_in, mi, nI_1, nI_add, (Mod_0 hsG.2.1 : ob G (g + 266) 11), (rf_g (Mod_7 hsG.2.1 : rf G (g + 266) 5 (g + 269)) : gR G (g + 266) 5 = (g + 269)), (rf_is (Mod_7 hsG.2.1 : rf G (g + 266) 5 (g + 269)) : isR G (g + 266) 5), (Mod_8 hsG.2.1 : arI G (g + 269) 0), (rdI_0 (Mod_8 hsG.2.1 : arI G (g + 269) 0) : rdI G (g + 269)), (Mod_9 hsG.2.1 : aln G (g + 269) = 403), (rf_g (Mod_10 hsG.2.1 : rf G (g + 266) 6 (g + 270)) : gR G (g + 266) 6 = (g + 270)), (rf_is (Mod_10 hsG.2.1 : rf G (g + 266) 6 (g + 270)) : isR G (g + 266) 6), (Mod_11 hsG.2.1 : arI G (g + 270) 0), (rdI_0 (Mod_11 hsG.2.1 : arI G (g + 270) 0) : rdI G (g + 270)), (Mod_12 hsG.2.1 : aln G (g + 270) = 403), (rf_g (Mod_13 hsG.2.1 : rf G (g + 266) 7 (g + 271)) : gR G (g + 266) 7 = (g + 271)), (rf_is (Mod_13 hsG.2.1 : rf G (g + 266) 7 (g + 271)) : isR G (g + 266) 7), (Mod_14 hsG.2.1 : arI G (g + 271) 0), (rdI_0 (Mod_14 hsG.2.1 : arI G (g + 271) 0) : rdI G (g + 271)), (Mod_15 hsG.2.1 : aln G (g + 271) = 403), (rf_g (Mod_16 hsG.2.1 : rf G (g + 266) 8 (g + 272)) : gR G (g + 266) 8 = (g + 272)), (rf_is (Mod_16 hsG.2.1 : rf G (g + 266) 8 (g + 272)) : isR G (g + 266) 8), (Mod_17 hsG.2.1 : arL G (g + 272)), (Mod_18 hsG.2.1 : aln G (g + 272) = 403), (rf_g (Mod_34 hsG.2.1 : rf G (g + 266) 27 (g + 278)) : gR G (g + 266) 27 = (g + 278)), (rf_is (Mod_34 hsG.2.1 : rf G (g + 266) 27 (g + 278)) : isR G (g + 266) 27), (Mod_35 hsG.2.1 : arI G (g + 278) 0), (rdI_0 (Mod_35 hsG.2.1 : arI G (g + 278) 0) : rdI G (g + 278)), (Mod_36 hsG.2.1 : aln G (g + 278) = 6), (rf_g (Mod_37 hsG.2.1 : rf G (g + 266) 28 (g + 279)) : gR G (g + 266) 28 = (g + 279)), (rf_is (Mod_37 hsG.2.1 : rf G (g + 266) 28 (g + 279)) : isR G (g + 266) 28), (Mod_38 hsG.2.1 : arI G (g + 279) 0), (rdI_0 (Mod_38 hsG.2.1 : arI G (g + 279) 0) : rdI G (g + 279)), (Mod_39 hsG.2.1 : aln G (g + 279) = 48), (rf_g (Mod_40 hsG.2.1 : rf G (g + 266) 29 (g + 280)) : gR G (g + 266) 29 = (g + 280)), (rf_is (Mod_40 hsG.2.1 : rf G (g + 266) 29 (g + 280)) : isR G (g + 266) 29), (Mod_41 hsG.2.1 : arI G (g + 280) 0), (rdI_0 (Mod_41 hsG.2.1 : arI G (g + 280) 0) : rdI G (g + 280)), (Mod_42 hsG.2.1 : aln G (g + 280) = 48), vkk_n, vkk_i, vkk_r, vkk_l, vkk_d, catS_nil, catS_i, catS_r, catS_l, catS_d, Nat.reduceAdd, Nat.reduceLeDiff, Nat.zero_le, Nat.le_refl, Option.bind_some, Option.toList_some, Option.toList_none, List.cons_append, List.nil_append, or_true, true_or, if_true, if_false, Int32.reduceLT, Int32.reduceLE, not_true, not_false_iff, true_and, and_true, false_and, and_false]
        exact hZ
      · rw [if_pos ⟨y, ok⟩, if_neg ok]
        have mi : mIn (nI (vC b L (X + 1))) 1 4 = 0 := (mIn_nI (l := 1) (u := 4) (by omega) (by decide) (by decide)).trans (if_neg ok)
        obtain ⟨h3, r1, r2, r3⟩ := c_wrong (k := 5) (x := X + 1) qG (by omega) wG (Or.inr rfl) (by unfold WL at wl; omega)
        have r1 : ev 150 0 [some (.ref (g + 266)), some (.int 5), some (.int (nI (X + 1))), none] [] G = _ := r1
        refine ⟨h3, ?_, r2, r3, WL_N _ (WL_up (by omega) wl), fun z => ?_⟩
        · generalize hZ : ev 160 58 [some (.ref (g + 266)), some (.int (nI s)), some (.int (nI (m + 1))), some (.int (nI (X + 2)))] [] h3 = Z
          simp +decide only [e160_100, e160_101, e160_104, e160_105, e160_106, e160_107, e160_108, e160_111, e160_114, e160_115, e160_116, e160_117, e160_120, e160_164, e160_167, omG, v3, v4, bV, c_m_in, mi, r1, nI_1, nI_add, (Mod_0 hsG.2.1 : ob G (g + 266) 11), (rf_g (Mod_7 hsG.2.1 : rf G (g + 266) 5 (g + 269)) : gR G (g + 266) 5 = (g + 269)), (rf_is (Mod_7 hsG.2.1 : rf G (g + 266) 5 (g + 269)) : isR G (g + 266) 5), (Mod_8 hsG.2.1 : arI G (g + 269) 0), (rdI_0 (Mod_8 hsG.2.1 : arI G (g + 269) 0) : rdI G (g + 269)), (Mod_9 hsG.2.1 : aln G (g + 269) = 403), (rf_g (Mod_10 hsG.2.1 : rf G (g + 266) 6 (g + 270)) : gR G (g + 266) 6 = (g + 270)), (rf_is (Mod_10 hsG.2.1 : rf G (g + 266) 6 (g + 270)) : isR G (g + 266) 6), (Mod_11 hsG.2.1 : arI G (g + 270) 0), (rdI_0 (Mod_11 hsG.2.1 : arI G (g + 270) 0) : rdI G (g + 270)), (Mod_12 hsG.2.1 : aln G (g + 270) = 403), (rf_g (Mod_13 hsG.2.1 : rf G (g + 266) 7 (g + 271)) : gR G (g + 266) 7 = (g + 271)), (rf_is (Mod_13 hsG.2.1 : rf G (g + 266) 7 (g + 271)) : isR G (g + 266) 7), (Mod_14 hsG.2.1 : arI G (g + 271) 0), (rdI_0 (Mod_14 hsG.2.1 : arI G (g + 271) 0) : rdI G (g + 271)), (Mod_15 hsG.2.1 : aln G (g + 271) = 403), (rf_g (Mod_16 hsG.2.1 : rf G (g + 266) 8 (g + 272)) : gR G (g + 266) 8 = (g + 272)), (rf_is (Mod_16 hsG.2.1 : rf G (g + 266) 8 (g + 272)) : isR G (g + 266) 8), (Mod_17 hsG.2.1 : arL G (g + 272)), (Mod_18 hsG.2.1 : aln G (g + 272) = 403), (rf_g (Mod_34 hsG.2.1 : rf G (g + 266) 27 (g + 278)) : gR G (g + 266) 27 = (g + 278)), (rf_is (Mod_34 hsG.2.1 : rf G (g + 266) 27 (g + 278)) : isR G (g + 266) 27), (Mod_35 hsG.2.1 : arI G (g + 278) 0), (rdI_0 (Mod_35 hsG.2.1 : arI G (g + 278) 0) : rdI G (g + 278)), (Mod_36 hsG.2.1 : aln G (g + 278) = 6), (rf_g (Mod_37 hsG.2.1 : rf G (g + 266) 28 (g + 279)) : gR G (g + 266) 28 = (g + 279)), (rf_is (Mod_37 hsG.2.1 : rf G (g + 266) 28 (g + 279)) : isR G (g + 266) 28), (Mod_38 hsG.2.1 : arI G (g + 279) 0), (rdI_0 (Mod_38 hsG.2.1 : arI G (g + 279) 0) : rdI G (g + 279)), (Mod_39 hsG.2.1 : aln G (g + 279) = 48), (rf_g (Mod_40 hsG.2.1 : rf G (g + 266) 29 (g + 280)) : gR G (g + 266) 29 = (g + 280)), (rf_is (Mod_40 hsG.2.1 : rf G (g + 266) 29 (g + 280)) : isR G (g + 266) 29), (Mod_41 hsG.2.1 : arI G (g + 280) 0), (rdI_0 (Mod_41 hsG.2.1 : arI G (g + 280) 0) : rdI G (g + 280)), (Mod_42 hsG.2.1 : aln G (g + 280) = 48), vkk_n, vkk_i, vkk_r, vkk_l, vkk_d, catS_nil, catS_i, catS_r, catS_l, catS_d, Nat.reduceAdd, Nat.reduceLeDiff, Nat.zero_le, Nat.le_refl, Option.bind_some, Option.toList_some, Option.toList_none, List.cons_append, List.nil_append, or_true, true_or, if_true, if_false, Int32.reduceLT, Int32.reduceLE, not_true, not_false_iff, true_and, and_true, false_and, and_false]
          exact hZ
        · exfalso
          unfold wN at z
          split at z
          · exact absurd z (by show ¬ (5 : Nat) = 0; decide)
          · rename_i w0
            exact w0 z
    obtain ⟨h3, r1, r2, r3, r4, r5⟩ := fin
    rw [r1]
    have q3 : MZ h3 g b L c := MZ_fr r2 (fun a z => z.elim) (fun k z => by unfold FTW at z; omega) qG
    have nk3 := nkG _ r5 h3 (fun j => ⟨r2.I (fun z => z) j, r2.I (fun z => z) j⟩)
    obtain ⟨h2, n1, n2, n3⟩ := ih (m + 1) h3 h0 (by omega) q3 ((r2.gI (fun z => by unfold FTW at z; omega)).trans eG) (by rw [e1]; exact r4) r3 nk3
    rw [e1] at n1
    exact ⟨h2, n1, ((f1.tr g1).tr (r2.mo (fun a z => z.elim) (fun a k z => z))).tr n2, n3⟩
