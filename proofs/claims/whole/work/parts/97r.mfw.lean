set_option maxHeartbeats 4000000 in
/-! read: a form by the model, whole; where lines begin and end -/
theorem c_mform {h : VG} {g L c s n M : Nat} {b : Nat → Nat} {W : Nat × Nat} (q : MZ h g b L c) (e26 : gI h (g + 266) 26 = nI n) (wm : WM h g b L W) (hW : WL W s) (hM : M ≤ 8) (hn : n < 6) (hc : mt (tyC b L) (s + 2) M < c) (k1 : kd b L (s + 1) = 1) (hI : KINDS (tyC b L) (s + 2) M) (h4 : kd b L (mt (tyC b L) (s + 2) M) = 4) (hN : ∀ i, i < s → kd b L i = 22 → kd b L (i + 1) = 1) : ∃ h1, ev 160 0 [some (.ref (g + 266)), some (.int (nI s)), none, none] [] h = some (none, h1) ∧ Fr (fun a => a = g + 278 ∨ a = g + 279 ∨ a = g + 280) (fun a k => a = g + 266 ∧ (k = 14 ∨ k = 15 ∨ k = 26)) h h1 ∧ WM h1 g b L (wM b L (s + 2) (wDU b L (s + 1) W s) M) ∧ gI h1 (g + 266) 26 = nI (n + 1) ∧ aI h1 (g + 278) n = nI M ∧ (∀ x, x < n → aI h1 (g + 278) x = aI h (g + 278) x) ∧ NK h h1 g n M (mKk b L (s + 2)) (mRr b L (s + 2)) (wM b L (s + 2) (wDU b L (s + 1) W s) M) := by
  have ge := mt_ge (tyC b L) (s + 2) M
  have hcc := q.1.2.2.1
  have w0 : wDU b L (s + 1) W 0 = W := by
    unfold wDU
    rw [if_neg]
    intro ⟨j, j1, _⟩
    omega
  obtain ⟨h1, a1, a2, a3⟩ := l_mnm g L c s b W (by omega) hW k1 hN s 0 h none (by omega) q (by rw [w0]; exact wm)
  have a1 : ev 160 2 [some (.ref (g + 266)), some (.int (nI s)), some (.int 0), none] [] h = _ := a1
  have q1 : MZ h1 g b L c := MZ_fr a2 (fun a z => z.elim) (fun k z => by unfold FTW at z; omega) q
  have e1 : gI h1 (g + 266) 26 = nI n := (a2.gI (fun z => by unfold FTW at z; omega)).trans e26
  have hW1 : WL (wDU b L (s + 1) W s) (s + 2) := by
    unfold wDU
    split
    · exact WL_N _ (WL_up (by omega) hW)
    · exact WL_up (by omega) hW
  generalize hD : wDU b L (s + 1) W s = W1 at a3 hW1 ⊢
  obtain ⟨h2, b1, b2, b3, b4, b5⟩ := l_mmb g L c s n M b W1 hM hn hc hI h4 hW1 M 0 h1 h (by omega) q1 e1 hW1 a3 ⟨fun j hj => absurd hj (Nat.not_lt_zero _), fun x hx => ⟨a2.I (fun z => z) x, a2.I (fun z => z) x⟩⟩
  have b1 : ev 160 58 [some (.ref (g + 266)), some (.int (nI s)), some (.int 0), some (.int (nI (s + 2)))] [] h1 = _ := b1
  have q2 : MZ h2 g b L c := MZ_fr b2 (fun a z => by omega) (fun k z => by unfold FTW at z; omega) q1
  have e2 : gI h2 (g + 266) 26 = nI n := (b2.gI (fun z => by unfold FTW at z; omega)).trans e1
  have hs := q2.1.1
  have om : ob h2 (g + 266) 11 := Mod_0 hs.2.1
  have v1 : vp_in (nI n) 6 := vp_in_nI (by omega) (by decide)
  have v2 : (nI n).toNatClampNeg = n := nI_clamp (by omega)
  have x1 : Fr (fun a => a = g + 278 ∨ a = g + 279 ∨ a = g + 280) (fun a k => a = g + 266 ∧ (k = 14 ∨ k = 15 ∨ k = 26)) h2 (pI (wI h2 (g + 278) n (nI M)) (g + 266) 26 (nI (n + 1))) := (Fr_wI _ _ _ _ (Or.inl rfl)).tr (Fr_pI _ _ _ _ ⟨rfl, by omega⟩)
  have x2 : Fr (fun a => a = g + 278) (fun a k => a = g + 266 ∧ k = 26) h2 (pI (wI h2 (g + 278) n (nI M)) (g + 266) 26 (nI (n + 1))) := by
    have y1 : Fr (fun a => a = g + 278) (fun a k => a = g + 266 ∧ k = 26) h2 (wI h2 (g + 278) n (nI M)) := Fr_wI _ _ _ _ rfl
    exact y1.tr (Fr_pI _ _ _ _ ⟨rfl, rfl⟩)
  have n2 : nI s + 2 = nI (s + 2) := by rw [show (2 : Int32) = nI 2 from rfl, nI_add]
  have aM : ∀ j, aI (pI (wI h2 (g + 278) n (nI M)) (g + 266) 26 (nI (n + 1))) (g + 278) j = if j = n then nI M else aI h2 (g + 278) j := by
    intro j
    rw [aI_pI, aI_wI0 _ _ _ _ _ _ (Mod_35 hs.2.1)]
    by_cases z : j = n
    · rw [if_pos ⟨rfl, z⟩, if_pos z]
    · rw [if_neg (fun y => z y.2), if_neg z]
  have st0 : ev 160 0 [some (.ref (g + 266)), some (.int (nI s)), none, none] [] h = ev 160 2 [some (.ref (g + 266)), some (.int (nI s)), some (.int 0), none] [] h := by
    simp +decide only [e160_0, e160_1, vkk_n, vkk_i, vkk_r, vkk_l, vkk_d, catS_nil, catS_i, catS_r, catS_l, catS_d, Nat.reduceAdd, Nat.reduceLeDiff, Nat.zero_le, Nat.le_refl, Option.bind_some, Option.toList_some, Option.toList_none, List.cons_append, List.nil_append, or_true, true_or, if_true, if_false, Int32.reduceLT, Int32.reduceLE, not_true, not_false_iff, true_and, and_true, false_and, and_false]
  have st1 : ev 160 52 [some (.ref (g + 266)), some (.int (nI s)), some (.int (nI s)), none] [] h1 = ev 160 58 [some (.ref (g + 266)), some (.int (nI s)), some (.int 0), some (.int (nI (s + 2)))] [] h1 := by
    simp +decide only [e160_52, e160_53, e160_54, e160_55, e160_56, e160_57, n2, vkk_n, vkk_i, vkk_r, vkk_l, vkk_d, catS_nil, catS_i, catS_r, catS_l, catS_d, Nat.reduceAdd, Nat.reduceLeDiff, Nat.zero_le, Nat.le_refl, Option.bind_some, Option.toList_some, Option.toList_none, List.cons_append, List.nil_append, or_true, true_or, if_true, if_false, Int32.reduceLT, Int32.reduceLE, not_true, not_false_iff, true_and, and_true, false_and, and_false]
  refine ⟨pI (wI h2 (g + 278) n (nI M)) (g + 266) 26 (nI (n + 1)), ?_, ((a2.mo (fun a z => z.elim) (fun a k z => by unfold FTW at z; omega)).tr (b2.mo (fun a z => by omega) (fun a k z => by unfold FTW at z; omega))).tr x1, WM_fr x2 (fun k z => by omega) b4, ?_, ?_, fun x hx => ?_, ?_⟩
  · rw [st0, a1, st1, b1]
    simp +decide only [e160_170, e160_171, e160_174, e160_175, e160_178, e160_179, e160_180, e160_181b, e160_181, e160_182, e160_185, e160_186, e160_187, e160_190, om, v1, v2, e2, nI_1, nI_add, (Mod_0 hs.2.1 : ob h2 (g + 266) 11), (rf_g (Mod_7 hs.2.1 : rf h2 (g + 266) 5 (g + 269)) : gR h2 (g + 266) 5 = (g + 269)), (rf_is (Mod_7 hs.2.1 : rf h2 (g + 266) 5 (g + 269)) : isR h2 (g + 266) 5), (Mod_8 hs.2.1 : arI h2 (g + 269) 0), (rdI_0 (Mod_8 hs.2.1 : arI h2 (g + 269) 0) : rdI h2 (g + 269)), (Mod_9 hs.2.1 : aln h2 (g + 269) = 403), (rf_g (Mod_10 hs.2.1 : rf h2 (g + 266) 6 (g + 270)) : gR h2 (g + 266) 6 = (g + 270)), (rf_is (Mod_10 hs.2.1 : rf h2 (g + 266) 6 (g + 270)) : isR h2 (g + 266) 6), (Mod_11 hs.2.1 : arI h2 (g + 270) 0), (rdI_0 (Mod_11 hs.2.1 : arI h2 (g + 270) 0) : rdI h2 (g + 270)), (Mod_12 hs.2.1 : aln h2 (g + 270) = 403), (rf_g (Mod_13 hs.2.1 : rf h2 (g + 266) 7 (g + 271)) : gR h2 (g + 266) 7 = (g + 271)), (rf_is (Mod_13 hs.2.1 : rf h2 (g + 266) 7 (g + 271)) : isR h2 (g + 266) 7), (Mod_14 hs.2.1 : arI h2 (g + 271) 0), (rdI_0 (Mod_14 hs.2.1 : arI h2 (g + 271) 0) : rdI h2 (g + 271)), (Mod_15 hs.2.1 : aln h2 (g + 271) = 403), (rf_g (Mod_16 hs.2.1 : rf h2 (g + 266) 8 (g + 272)) : gR h2 (g + 266) 8 = (g + 272)), (rf_is (Mod_16 hs.2.1 : rf h2 (g + 266) 8 (g + 272)) : isR h2 (g + 266) 8), (Mod_17 hs.2.1 : arL h2 (g + 272)), (Mod_18 hs.2.1 : aln h2 (g + 272) = 403), (rf_g (Mod_34 hs.2.1 : rf h2 (g + 266) 27 (g + 278)) : gR h2 (g + 266) 27 = (g + 278)), (rf_is (Mod_34 hs.2.1 : rf h2 (g + 266) 27 (g + 278)) : isR h2 (g + 266) 27), (Mod_35 hs.2.1 : arI h2 (g + 278) 0), (rdI_0 (Mod_35 hs.2.1 : arI h2 (g + 278) 0) : rdI h2 (g + 278)), (Mod_36 hs.2.1 : aln h2 (g + 278) = 6), (rf_g (Mod_37 hs.2.1 : rf h2 (g + 266) 28 (g + 279)) : gR h2 (g + 266) 28 = (g + 279)), (rf_is (Mod_37 hs.2.1 : rf h2 (g + 266) 28 (g + 279)) : isR h2 (g + 266) 28), (Mod_38 hs.2.1 : arI h2 (g + 279) 0), (rdI_0 (Mod_38 hs.2.1 : arI h2 (g + 279) 0) : rdI h2 (g + 279)), (Mod_39 hs.2.1 : aln h2 (g + 279) = 48), (rf_g (Mod_40 hs.2.1 : rf h2 (g + 266) 29 (g + 280)) : gR h2 (g + 266) 29 = (g + 280)), (rf_is (Mod_40 hs.2.1 : rf h2 (g + 266) 29 (g + 280)) : isR h2 (g + 266) 29), (Mod_41 hs.2.1 : arI h2 (g + 280) 0), (rdI_0 (Mod_41 hs.2.1 : arI h2 (g + 280) 0) : rdI h2 (g + 280)), (Mod_42 hs.2.1 : aln h2 (g + 280) = 48), ob_pI, rf_pI, isR_pI, isI_pI, isL_pI, arI_pI, arL_pI, arR_pI, arD_pI, aln_pI, rdI_pI, rdB_pI, rdR_pI, aR_pI, pI_2, gI_pI, gL_pI, gD_pI, gR_pI, aI_pI, aL_pI, aD_pI, ob_pL, rf_pL, isR_pL, isI_pL, isL_pL, arI_pL, arL_pL, arR_pL, arD_pL, aln_pL, rdI_pL, rdB_pL, rdR_pL, aR_pL, pL_2, gI_pL, gL_pL, gD_pL, gR_pL, aI_pL, aL_pL, aD_pL, ob_wI, rf_wI, isR_wI, isI_wI, isL_wI, arI_wI, arL_wI, arR_wI, arD_wI, aln_wI, rdI_wI, rdB_wI, rdR_wI, aR_wI, wI_2, gI_wI, gL_wI, gD_wI, gR_wI, aL_wI, aD_wI, aI_wI_ne, ob_wL, rf_wL, isR_wL, isI_wL, isL_wL, arI_wL, arL_wL, arR_wL, arD_wL, aln_wL, rdI_wL, rdB_wL, rdR_wL, aR_wL, wL_2, gI_wL, gL_wL, gD_wL, gR_wL, aI_wL, aD_wL, aL_wL_ne, ob_bI, rf_bI, isR_bI, isI_bI, isL_bI, arI_bI, arL_bI, arR_bI, arD_bI, aln_bI, rdI_bI, rdB_bI, rdR_bI, aR_bI, bI_2, gI_bI, gL_bI, gD_bI, gR_bI, aL_bI, aD_bI, aI_bI_ne, ob_bL, rf_bL, isR_bL, isI_bL, isL_bL, arI_bL, arL_bL, arR_bL, arD_bL, aln_bL, rdI_bL, rdB_bL, rdR_bL, aR_bL, bL_2, gI_bL, gL_bL, gD_bL, gR_bL, aI_bL, aD_bL, aL_bL_ne, vkk_n, vkk_i, vkk_r, vkk_l, vkk_d, catS_nil, catS_i, catS_r, catS_l, catS_d, Nat.reduceAdd, Nat.reduceLeDiff, Nat.zero_le, Nat.le_refl, Option.bind_some, Option.toList_some, Option.toList_none, List.cons_append, List.nil_append, or_true, true_or, if_true, if_false, Int32.reduceLT, Int32.reduceLE, not_true, not_false_iff, true_and, and_true, false_and, and_false, Nat.add_assoc, Nat.reduceAdd, Nat.add_left_cancel_iff, Nat.reduceEqDiff, Nat.add_eq_left, Nat.left_eq_add]
  · simp +decide only [gI_pI, isI_wI, gI_wI, (eq_true (isI_ob om rfl : isI h2 (g + 266) 26)), true_and, and_true, if_true]
  · rw [aM, if_pos rfl]
  · rw [aM, if_neg (by omega), b2.I (fun z => by omega), a2.I (fun z => z)]
  · obtain ⟨c1, c2⟩ := b5
    refine ⟨fun j hj => ?_, fun x hx => ?_⟩
    · rw [x2.I (fun z => by omega), x2.I (fun z => by omega)]
      exact c1 j hj
    · rw [x2.I (fun z => by omega), x2.I (fun z => by omega)]
      exact c2 x hx
/-- a line from s to s1 -/
def INL (b : Nat → Nat) (L s s1 : Nat) : Prop := s < s1 ∧ kd b L (s1 - 1) = 4 ∧ (∀ x, s ≤ x → x + 1 < s1 → ¬ kd b L x = 4) ∧ (∀ x, s < x → x < s1 → kd b L x < 20 ∨ 24 ≤ kd b L x)
theorem mt_in (T : Nat → Nat) (s0 M : Nat) (h : KINDS T s0 M) : ∀ m, m ≤ M → ∀ x, s0 ≤ x → x < mt T s0 m → T x = 5 ∨ T x = 3 := by
  intro m
  induction m with
  | zero =>
    intro _ x h1 h2
    have h2 : x < s0 := h2
    omega
  | succ m ih =>
    intro hm x h1 h2
    have h2 : x < (if T (mt T s0 m + 1) = 3 then mt T s0 m + 2 else mt T s0 m + 1) := h2
    by_cases y : x < mt T s0 m
    · exact ih (by omega) x h1 y
    · by_cases e : x = mt T s0 m
      · rw [e]
        exact Or.inl (h m (by omega))
      · by_cases t : T (mt T s0 m + 1) = 3
        · rw [if_pos t] at h2
          have : x = mt T s0 m + 1 := by omega
          rw [this]
          exact Or.inr t
        · rw [if_neg t] at h2
          omega
theorem VAL_in {b : Nat → Nat} {L : Nat} {σ : SG} (v : VAL b L σ) : INL b L (sgS σ) (sgS (stp1 b L σ)) := by
  have K := fun x => cTy_0 (kd_or b L x)
  have k3 : ∀ x, tyC b L x = 3 → kd b L x = 2 := fun x => (K x).2.2.2.2.1.mp
  have k4 : ∀ x, tyC b L x = 4 → kd b L x = 4 := fun x => (K x).2.2.2.2.2.1.mp
  have k2 : ∀ x, tyC b L x = 2 → kd b L x = 1 := fun x => (K x).2.2.2.1.mp
  have k5 : ∀ x, tyC b L x = 5 → 24 ≤ kd b L x := fun x => (K x).2.2.2.2.2.2.1.mp
  have k6 : ∀ x, tyC b L x = 6 → kd b L x = 20 := fun x => (K x).2.2.2.2.2.2.2.1.mp
  have k7 : ∀ x, tyC b L x = 7 → kd b L x = 21 := fun x => (K x).2.2.2.2.2.2.2.2.1.mp
  have k8 : ∀ x, tyC b L x = 8 → kd b L x = 22 := fun x => (K x).2.2.2.2.2.2.2.2.2.1.mp
  have k9 : ∀ x, tyC b L x = 9 → kd b L x = 23 := fun x => (K x).2.2.2.2.2.2.2.2.2.2.mp
  clear K
  obtain ⟨-, v⟩ := v
  generalize hs : sgS σ = s at v
  rcases v with ⟨v1, v2⟩ | ⟨v1, v2, v3⟩ | ⟨v1, v2, v3, v4, v5, v6, v7⟩ | ⟨v1, v2, v3, v4, v5, v6⟩
  · have e : sgS (stp1 b L σ) = s + 2 := by
      unfold stp1
      rw [hs, if_pos v1]
      show sgS σ + 2 = _
      rw [hs]
    rw [e]
    have a1 := k6 s v1
    have a2 := k4 _ v2
    refine ⟨by omega, a2, fun x x1 x2 => ?_, fun x x1 x2 => ?_⟩
    · obtain rfl : x = s := by omega
      omega
    · obtain rfl : x = s + 1 := by omega
      omega
  · have e : sgS (stp1 b L σ) = s + 3 := by
      unfold stp1
      rw [hs, if_neg (by omega), if_pos v1]
      show sgS σ + 3 = _
      rw [hs]
    rw [e]
    have a1 := k7 s v1
    have a2 := k3 _ v2
    have a3 := k4 _ v3
    refine ⟨by omega, a3, fun x x1 x2 => ?_, fun x x1 x2 => ?_⟩
    · rcases (by omega : x = s ∨ x = s + 1) with rfl | rfl <;> omega
    · rcases (by omega : x = s + 1 ∨ x = s + 2) with rfl | rfl <;> omega
  · have e : sgS (stp1 b L σ) = mt (tyC b L) (s + 2) (fmN b L σ) + 1 := by
      unfold stp1
      rw [hs, if_neg (by omega), if_neg (by omega), if_pos v1]
      show mt (tyC b L) (sgS σ + 2) (fmN b L σ) + 1 = _
      rw [hs]
    rw [e]
    have ge := mt_ge (tyC b L) (s + 2) (fmN b L σ)
    have a1 := k8 s v1
    have a2 := k2 _ v2
    have a4 := k4 _ v7
    have ins : ∀ x, s + 2 ≤ x → x < mt (tyC b L) (s + 2) (fmN b L σ) → kd b L x = 2 ∨ 24 ≤ kd b L x := fun x x1 x2 => by
      rcases mt_in (tyC b L) (s + 2) _ v6 _ (Nat.le_refl _) x x1 x2 with z | z
      · exact Or.inr (k5 x z)
      · exact Or.inl (k3 x z)
    generalize mt (tyC b L) (s + 2) (fmN b L σ) = E at ge a4 ins ⊢
    refine ⟨by omega, a4, fun x x1 x2 => ?_, fun x x1 x2 => ?_⟩
    · by_cases y : x < s + 2
      · rcases (by omega : x = s ∨ x = s + 1) with rfl | rfl <;> omega
      · have := ins x (by omega) (by omega)
        omega
    · by_cases y : x < s + 2
      · obtain rfl : x = s + 1 := by omega
        omega
      · by_cases z : x < E
        · have := ins x (by omega) z
          omega
        · obtain rfl : x = E := by omega
          omega
  · have e : sgS (stp1 b L σ) = s + 2 + flN b L σ + 1 := by
      unfold stp1
      rw [hs, if_neg (by omega), if_neg (by omega), if_neg (by omega)]
      show sgS σ + 2 + flN b L σ + 1 = _
      rw [hs]
    rw [e]
    have a1 := k9 s v1
    have a2 := k3 _ v2
    have a4 := k4 _ v6
    have ins : ∀ x, s + 1 ≤ x → x < s + 2 + flN b L σ → kd b L x = 2 := fun x x1 x2 => by
      by_cases y : x = s + 1
      · rw [y]
        exact a2
      · have := k3 _ (v5 (x - (s + 2)) (by omega))
        rw [show s + 2 + (x - (s + 2)) = x by omega] at this
        exact this
    refine ⟨by omega, a4, fun x x1 x2 => ?_, fun x x1 x2 => ?_⟩
    · by_cases y : x = s
      · rw [y]
        omega
      · have := ins x (by omega) (by omega)
        omega
    · by_cases z : x < s + 2 + flN b L σ
      · have := ins x (by omega) z
        omega
      · obtain rfl : x = s + 2 + flN b L σ := by omega
        omega
