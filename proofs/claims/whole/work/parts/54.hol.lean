/-! hold, restore: loops of the model -/
theorem l_hold1 (g : Nat) (σ : Nat) (hσ : σ < 2) (V0 : Nat → Int32) : ∀ (d k : Nat) (h : VG), k + d = 256 → Sh h g → (∀ i, i < 256 → aI h (g + 277) (i) = V0 i) → ∃ h1, ev 229 13 [some (.ref (g + 266)), some (.int (nI σ)), some (.int (nI k))] [] h = ev 229 44 [some (.ref (g + 266)), some (.int (nI σ)), some (.int (nI 256))] [] h1 ∧ Fr (fun a => a = g + 300) NF h h1 ∧ (∀ i, k ≤ i → i < 256 → aI h1 (g + 300) (256 * σ + i) = V0 i) ∧ ∀ j, ¬ (256 * σ + k ≤ j ∧ j < 256 * σ + 256) → aI h1 (g + 300) j = aI h (g + 300) j := by
  have m1 : (256 : Int32) * nI σ = nI (256 * σ) := by rw [show (256 : Int32) = nI 256 from rfl, pk_mul]
  intro d
  induction d with
  | zero =>
    intro k h hk hs _
    obtain rfl : k = 256 := by omega
    have q : ¬ nI 256 < nI 256 := by rw [nI_ltI (by omega) (by omega)]; omega
    refine ⟨h, ?_, Fr.rfl _, fun i h1 h2 => by omega, fun j _ => rfl⟩
    have q' : ¬ (256 : Int32) < 256 := q
    rw [show nI 256 = (256 : Int32) from rfl]
    simp +decide only [e229_13, e229_14, e229_17, q', vkk_n, vkk_n, vkk_i, vkk_r, vkk_l, vkk_d, catS_nil, catS_i, catS_r, catS_l, catS_d, Nat.reduceAdd, Nat.reduceLeDiff, Nat.zero_le, Nat.le_refl, Option.bind_some, Option.toList_some, Option.toList_none, List.cons_append, List.nil_append, or_true, true_or, if_true, if_false, Int32.reduceLT, Int32.reduceLE, not_true, not_false_iff, true_and, and_true, false_and, and_false]
  | succ d ih =>
    intro k h hk hs r0
    have q : nI k < nI 256 := nI_lt (by omega) (by omega)
    have q' : nI k < 256 := q
    have e0 := r0 k (by omega)
    have t0 : arI h (g + 300) 0 := Mod_101 hs.2.1
    have iv1 : vp_in (nI (256 * σ + k)) 512 := vp_in_nI (by omega) (by decide)
    have ic1 : (nI (256 * σ + k)).toNatClampNeg = 256 * σ + k := nI_clamp (by omega)
    have iv2 : vp_in (nI (k)) 256 := vp_in_nI (by omega) (by decide)
    have ic2 : (nI (k)).toNatClampNeg = k := nI_clamp (by omega)
    have x1 : Fr (fun a => a = g + 300) NF h (wI h (g + 300) (256 * σ + k) (V0 k)) := (Fr.rfl h).tr (Fr_wI _ _ _ _ (rfl))
    have y1 : ∀ j, ¬ j = 256 * σ + k → aI (wI h (g + 300) (256 * σ + k) (V0 k)) (g + 300) j = aI h (g + 300) j := by
      intro j hj
      rw [aI_wI_j _ _ _ _ _ _ hj]
    have y2 : aI (wI h (g + 300) (256 * σ + k) (V0 k)) (g + 300) (256 * σ + k) = V0 k := by
      rw [aI_wI0 _ _ _ _ _ _ t0, if_pos ⟨rfl, rfl⟩]
    have s1 : Sh (wI h (g + 300) (256 * σ + k) (V0 k)) g := Sh_fr x1 (fun a z => by omega) hs
    obtain ⟨h1, u1, u2, u3, u4⟩ := ih (k + 1) _ (by omega) s1 (fun i hi => by rw [x1.I (a := g + 277) (fun z => by omega)]; exact r0 i hi)
    refine ⟨h1, ?_, x1.tr u2, fun i i1 i2 => ?_, fun j hj => ?_⟩
    · simp +decide only [e229_13, e229_14, e229_17, q', vkk_n, if_true]
      simp +decide only [e229_20, e229_21, e229_24, e229_27, e229_28, e229_29, e229_30, e229_31, e229_32, e229_35, e229_36, e229_37, e229_38, e229_41, nI_add, m1, iv1, ic1, iv2, ic2, e0, (Mod_0 hs.2.1 : ob h (g + 266) 11), (rf_g (Mod_31 hs.2.1 : rf h (g + 266) 23 (g + 277)) : gR h (g + 266) 23 = (g + 277)), (rf_is (Mod_31 hs.2.1 : rf h (g + 266) 23 (g + 277)) : isR h (g + 266) 23), (Mod_32 hs.2.1 : arI h (g + 277) 0), (rdI_0 (Mod_32 hs.2.1 : arI h (g + 277) 0) : rdI h (g + 277)), (Mod_33 hs.2.1 : aln h (g + 277) = 256), (rf_g (Mod_100 hs.2.1 : rf h (g + 266) 59 (g + 300)) : gR h (g + 266) 59 = (g + 300)), (rf_is (Mod_100 hs.2.1 : rf h (g + 266) 59 (g + 300)) : isR h (g + 266) 59), (Mod_101 hs.2.1 : arI h (g + 300) 0), (rdI_0 (Mod_101 hs.2.1 : arI h (g + 300) 0) : rdI h (g + 300)), (Mod_102 hs.2.1 : aln h (g + 300) = 512), nI_1, ob_pI, rf_pI, isR_pI, isI_pI, isL_pI, arI_pI, arL_pI, arR_pI, arD_pI, aln_pI, rdI_pI, rdB_pI, rdR_pI, aR_pI, pI_2, gI_pI, gL_pI, gD_pI, gR_pI, aI_pI, aL_pI, aD_pI, ob_pL, rf_pL, isR_pL, isI_pL, isL_pL, arI_pL, arL_pL, arR_pL, arD_pL, aln_pL, rdI_pL, rdB_pL, rdR_pL, aR_pL, pL_2, gI_pL, gL_pL, gD_pL, gR_pL, aI_pL, aL_pL, aD_pL, ob_pD, rf_pD, isR_pD, isI_pD, isL_pD, arI_pD, arL_pD, arR_pD, arD_pD, aln_pD, rdI_pD, rdB_pD, rdR_pD, aR_pD, pD_2, gI_pD, gL_pD, gD_pD, gR_pD, aI_pD, aL_pD, aD_pD, ob_wI, rf_wI, isR_wI, isI_wI, isL_wI, arI_wI, arL_wI, arR_wI, arD_wI, aln_wI, rdI_wI, rdB_wI, rdR_wI, aR_wI, wI_2, gI_wI, gL_wI, gD_wI, gR_wI, aL_wI, aD_wI, aI_wI_ne, ob_wL, rf_wL, isR_wL, isI_wL, isL_wL, arI_wL, arL_wL, arR_wL, arD_wL, aln_wL, rdI_wL, rdB_wL, rdR_wL, aR_wL, wL_2, gI_wL, gL_wL, gD_wL, gR_wL, aI_wL, aD_wL, aL_wL_ne, ob_wD, rf_wD, isR_wD, isI_wD, isL_wD, arI_wD, arL_wD, arR_wD, arD_wD, aln_wD, rdI_wD, rdB_wD, rdR_wD, aR_wD, wD_2, gI_wD, gL_wD, gD_wD, gR_wD, aI_wD, aL_wD, aD_wD_ne, ob_bI, rf_bI, isR_bI, isI_bI, isL_bI, arI_bI, arL_bI, arR_bI, arD_bI, aln_bI, rdI_bI, rdB_bI, rdR_bI, aR_bI, bI_2, gI_bI, gL_bI, gD_bI, gR_bI, aL_bI, aD_bI, aI_bI_ne, ob_bL, rf_bL, isR_bL, isI_bL, isL_bL, arI_bL, arL_bL, arR_bL, arD_bL, aln_bL, rdI_bL, rdB_bL, rdR_bL, aR_bL, bL_2, gI_bL, gL_bL, gD_bL, gR_bL, aI_bL, aD_bL, aL_bL_ne, gI_pI, gL_pL, gD_pD, isI_pI, isL_pI, isD_pI, isI_pL, isL_pL, isD_pL, isI_pD, isL_pD, isD_pD, vkk_n, vkk_i, vkk_r, vkk_l, vkk_d, catS_nil, catS_i, catS_r, catS_l, catS_d, Nat.reduceAdd, Nat.reduceLeDiff, Nat.zero_le, Nat.le_refl, Option.bind_some, Option.toList_some, Option.toList_none, List.cons_append, List.nil_append, or_true, true_or, if_true, if_false, Int32.reduceLT, Int32.reduceLE, not_true, not_false_iff, true_and, and_true, false_and, and_false, Nat.add_assoc, Nat.reduceAdd, Nat.add_left_cancel_iff, Nat.reduceEqDiff, Nat.add_eq_left, Nat.left_eq_add]
      exact u1
    · by_cases ik : i = k
      · subst ik
        have a := u4 (256 * σ + i) (by omega)
        rw [a]
        exact y2
      · exact u3 i (by omega) i2
    · have a := u4 j (by omega)
      rw [a]
      exact y1 j (by omega)
theorem l_hold2 (g : Nat) (σ : Nat) (hσ : σ < 2) (V0 : Nat → Int32) (V1 : Nat → Int32) (V2 : Nat → Int64) : ∀ (d k : Nat) (h : VG), k + d = 8 → Sh h g → (∀ i, i < 8 → aI h (g + 285) (i) = V0 i) → (∀ i, i < 8 → aI h (g + 286) (i) = V1 i) → (∀ i, i < 8 → aL h (g + 298) (i) = V2 i) → ∃ h1, ev 229 46 [some (.ref (g + 266)), some (.int (nI σ)), some (.int (nI k))] [] h = ev 229 109 [some (.ref (g + 266)), some (.int (nI σ)), some (.int (nI 8))] [] h1 ∧ Fr (fun a => a = g + 301 ∨ a = g + 302 ∨ a = g + 306) NF h h1 ∧ (∀ i, k ≤ i → i < 8 → aI h1 (g + 301) (8 * σ + i) = V0 i ∧ aI h1 (g + 302) (8 * σ + i) = V1 i ∧ aL h1 (g + 306) (8 * σ + i) = V2 i) ∧ ∀ j, ¬ (8 * σ + k ≤ j ∧ j < 8 * σ + 8) → aI h1 (g + 301) j = aI h (g + 301) j ∧ aI h1 (g + 302) j = aI h (g + 302) j ∧ aL h1 (g + 306) j = aL h (g + 306) j := by
  have m1 : (8 : Int32) * nI σ = nI (8 * σ) := by rw [show (8 : Int32) = nI 8 from rfl, pk_mul]
  intro d
  induction d with
  | zero =>
    intro k h hk hs _ _ _
    obtain rfl : k = 8 := by omega
    have q : ¬ nI 8 < nI 8 := by rw [nI_ltI (by omega) (by omega)]; omega
    refine ⟨h, ?_, Fr.rfl _, fun i h1 h2 => by omega, fun j _ => ⟨rfl, rfl, rfl⟩⟩
    have q' : ¬ (8 : Int32) < 8 := q
    rw [show nI 8 = (8 : Int32) from rfl]
    simp +decide only [e229_46, e229_47, e229_49, q', vkk_n, vkk_n, vkk_i, vkk_r, vkk_l, vkk_d, catS_nil, catS_i, catS_r, catS_l, catS_d, Nat.reduceAdd, Nat.reduceLeDiff, Nat.zero_le, Nat.le_refl, Option.bind_some, Option.toList_some, Option.toList_none, List.cons_append, List.nil_append, or_true, true_or, if_true, if_false, Int32.reduceLT, Int32.reduceLE, not_true, not_false_iff, true_and, and_true, false_and, and_false]
  | succ d ih =>
    intro k h hk hs r0 r1 r2
    have q : nI k < nI 8 := nI_lt (by omega) (by omega)
    have q' : nI k < 8 := q
    have e0 := r0 k (by omega)
    have t0 : arI h (g + 301) 0 := Mod_104 hs.2.1
    have e1 := r1 k (by omega)
    have t1 : arI h (g + 302) 0 := Mod_107 hs.2.1
    have e2 := r2 k (by omega)
    have t2 : arL h (g + 306) := Mod_119 hs.2.1
    have iv1 : vp_in (nI (8 * σ + k)) 16 := vp_in_nI (by omega) (by decide)
    have ic1 : (nI (8 * σ + k)).toNatClampNeg = 8 * σ + k := nI_clamp (by omega)
    have iv2 : vp_in (nI (k)) 8 := vp_in_nI (by omega) (by decide)
    have ic2 : (nI (k)).toNatClampNeg = k := nI_clamp (by omega)
    have x1 : Fr (fun a => a = g + 301 ∨ a = g + 302 ∨ a = g + 306) NF h (wL (wI (wI h (g + 301) (8 * σ + k) (V0 k)) (g + 302) (8 * σ + k) (V1 k)) (g + 306) (8 * σ + k) (V2 k)) := (((Fr.rfl h).tr (Fr_wI _ _ _ _ (Or.inl rfl))).tr (Fr_wI _ _ _ _ (Or.inr (Or.inl rfl)))).tr (Fr_wL _ _ _ _ (Or.inr (Or.inr rfl)))
    have y1 : ∀ j, ¬ j = 8 * σ + k → aI (wL (wI (wI h (g + 301) (8 * σ + k) (V0 k)) (g + 302) (8 * σ + k) (V1 k)) (g + 306) (8 * σ + k) (V2 k)) (g + 301) j = aI h (g + 301) j ∧ aI (wL (wI (wI h (g + 301) (8 * σ + k) (V0 k)) (g + 302) (8 * σ + k) (V1 k)) (g + 306) (8 * σ + k) (V2 k)) (g + 302) j = aI h (g + 302) j ∧ aL (wL (wI (wI h (g + 301) (8 * σ + k) (V0 k)) (g + 302) (8 * σ + k) (V1 k)) (g + 306) (8 * σ + k) (V2 k)) (g + 306) j = aL h (g + 306) j := by
      intro j hj
      refine ⟨?_, ?_, ?_⟩
      · rw [aI_wL, aI_wI_ne _ _ _ _ _ _ (by omega), aI_wI_j _ _ _ _ _ _ hj]
      · rw [aI_wL, aI_wI_j _ _ _ _ _ _ hj, aI_wI_ne _ _ _ _ _ _ (by omega)]
      · rw [aL_wL_j _ _ _ _ _ _ hj, aL_wI, aL_wI]
    have y2 : aI (wL (wI (wI h (g + 301) (8 * σ + k) (V0 k)) (g + 302) (8 * σ + k) (V1 k)) (g + 306) (8 * σ + k) (V2 k)) (g + 301) (8 * σ + k) = V0 k ∧ aI (wL (wI (wI h (g + 301) (8 * σ + k) (V0 k)) (g + 302) (8 * σ + k) (V1 k)) (g + 306) (8 * σ + k) (V2 k)) (g + 302) (8 * σ + k) = V1 k ∧ aL (wL (wI (wI h (g + 301) (8 * σ + k) (V0 k)) (g + 302) (8 * σ + k) (V1 k)) (g + 306) (8 * σ + k) (V2 k)) (g + 306) (8 * σ + k) = V2 k := by
      refine ⟨?_, ?_, ?_⟩
      · rw [aI_wL, aI_wI_ne _ _ _ _ _ _ (by omega), aI_wI0 _ _ _ _ _ _ t0, if_pos ⟨rfl, rfl⟩]
      · rw [aI_wL, aI_wI0 _ _ _ _ _ _ (by simp only [arI_wI, arI_wL, arI_wD]; exact t1), if_pos ⟨rfl, rfl⟩]
      · rw [aL_wL _ _ _ _ _ _ (by simp only [arL_wI, arL_wL, arL_wD]; exact t2), if_pos ⟨rfl, rfl⟩]
    have s1 : Sh (wL (wI (wI h (g + 301) (8 * σ + k) (V0 k)) (g + 302) (8 * σ + k) (V1 k)) (g + 306) (8 * σ + k) (V2 k)) g := Sh_fr x1 (fun a z => by omega) hs
    obtain ⟨h1, u1, u2, u3, u4⟩ := ih (k + 1) _ (by omega) s1 (fun i hi => by rw [x1.I (a := g + 285) (fun z => by omega)]; exact r0 i hi) (fun i hi => by rw [x1.I (a := g + 286) (fun z => by omega)]; exact r1 i hi) (fun i hi => by rw [x1.L (a := g + 298) (fun z => by omega)]; exact r2 i hi)
    refine ⟨h1, ?_, x1.tr u2, fun i i1 i2 => ?_, fun j hj => ?_⟩
    · simp +decide only [e229_46, e229_47, e229_49, q', vkk_n, if_true]
      simp +decide only [e229_52, e229_53, e229_56, e229_58, e229_59, e229_60, e229_61, e229_62, e229_63, e229_66, e229_67, e229_68, e229_69, e229_70, e229_73, e229_75, e229_76, e229_77, e229_78, e229_79, e229_80, e229_83, e229_84, e229_85, e229_86, e229_87, e229_90, e229_92, e229_93, e229_94, e229_95, e229_96, e229_97, e229_100, e229_101, e229_102, e229_103, e229_106, nI_add, m1, iv1, ic1, iv2, ic2, e0, e1, e2, (Mod_0 hs.2.1 : ob h (g + 266) 11), (rf_g (Mod_55 hs.2.1 : rf h (g + 266) 42 (g + 285)) : gR h (g + 266) 42 = (g + 285)), (rf_is (Mod_55 hs.2.1 : rf h (g + 266) 42 (g + 285)) : isR h (g + 266) 42), (Mod_56 hs.2.1 : arI h (g + 285) 0), (rdI_0 (Mod_56 hs.2.1 : arI h (g + 285) 0) : rdI h (g + 285)), (Mod_57 hs.2.1 : aln h (g + 285) = 8), (rf_g (Mod_58 hs.2.1 : rf h (g + 266) 43 (g + 286)) : gR h (g + 266) 43 = (g + 286)), (rf_is (Mod_58 hs.2.1 : rf h (g + 266) 43 (g + 286)) : isR h (g + 266) 43), (Mod_59 hs.2.1 : arI h (g + 286) 0), (rdI_0 (Mod_59 hs.2.1 : arI h (g + 286) 0) : rdI h (g + 286)), (Mod_60 hs.2.1 : aln h (g + 286) = 8), (rf_g (Mod_94 hs.2.1 : rf h (g + 266) 56 (g + 298)) : gR h (g + 266) 56 = (g + 298)), (rf_is (Mod_94 hs.2.1 : rf h (g + 266) 56 (g + 298)) : isR h (g + 266) 56), (Mod_95 hs.2.1 : arL h (g + 298)), (Mod_96 hs.2.1 : aln h (g + 298) = 8), (rf_g (Mod_103 hs.2.1 : rf h (g + 266) 60 (g + 301)) : gR h (g + 266) 60 = (g + 301)), (rf_is (Mod_103 hs.2.1 : rf h (g + 266) 60 (g + 301)) : isR h (g + 266) 60), (Mod_104 hs.2.1 : arI h (g + 301) 0), (rdI_0 (Mod_104 hs.2.1 : arI h (g + 301) 0) : rdI h (g + 301)), (Mod_105 hs.2.1 : aln h (g + 301) = 16), (rf_g (Mod_106 hs.2.1 : rf h (g + 266) 61 (g + 302)) : gR h (g + 266) 61 = (g + 302)), (rf_is (Mod_106 hs.2.1 : rf h (g + 266) 61 (g + 302)) : isR h (g + 266) 61), (Mod_107 hs.2.1 : arI h (g + 302) 0), (rdI_0 (Mod_107 hs.2.1 : arI h (g + 302) 0) : rdI h (g + 302)), (Mod_108 hs.2.1 : aln h (g + 302) = 16), (rf_g (Mod_118 hs.2.1 : rf h (g + 266) 65 (g + 306)) : gR h (g + 266) 65 = (g + 306)), (rf_is (Mod_118 hs.2.1 : rf h (g + 266) 65 (g + 306)) : isR h (g + 266) 65), (Mod_119 hs.2.1 : arL h (g + 306)), (Mod_120 hs.2.1 : aln h (g + 306) = 16), nI_1, ob_pI, rf_pI, isR_pI, isI_pI, isL_pI, arI_pI, arL_pI, arR_pI, arD_pI, aln_pI, rdI_pI, rdB_pI, rdR_pI, aR_pI, pI_2, gI_pI, gL_pI, gD_pI, gR_pI, aI_pI, aL_pI, aD_pI, ob_pL, rf_pL, isR_pL, isI_pL, isL_pL, arI_pL, arL_pL, arR_pL, arD_pL, aln_pL, rdI_pL, rdB_pL, rdR_pL, aR_pL, pL_2, gI_pL, gL_pL, gD_pL, gR_pL, aI_pL, aL_pL, aD_pL, ob_pD, rf_pD, isR_pD, isI_pD, isL_pD, arI_pD, arL_pD, arR_pD, arD_pD, aln_pD, rdI_pD, rdB_pD, rdR_pD, aR_pD, pD_2, gI_pD, gL_pD, gD_pD, gR_pD, aI_pD, aL_pD, aD_pD, ob_wI, rf_wI, isR_wI, isI_wI, isL_wI, arI_wI, arL_wI, arR_wI, arD_wI, aln_wI, rdI_wI, rdB_wI, rdR_wI, aR_wI, wI_2, gI_wI, gL_wI, gD_wI, gR_wI, aL_wI, aD_wI, aI_wI_ne, ob_wL, rf_wL, isR_wL, isI_wL, isL_wL, arI_wL, arL_wL, arR_wL, arD_wL, aln_wL, rdI_wL, rdB_wL, rdR_wL, aR_wL, wL_2, gI_wL, gL_wL, gD_wL, gR_wL, aI_wL, aD_wL, aL_wL_ne, ob_wD, rf_wD, isR_wD, isI_wD, isL_wD, arI_wD, arL_wD, arR_wD, arD_wD, aln_wD, rdI_wD, rdB_wD, rdR_wD, aR_wD, wD_2, gI_wD, gL_wD, gD_wD, gR_wD, aI_wD, aL_wD, aD_wD_ne, ob_bI, rf_bI, isR_bI, isI_bI, isL_bI, arI_bI, arL_bI, arR_bI, arD_bI, aln_bI, rdI_bI, rdB_bI, rdR_bI, aR_bI, bI_2, gI_bI, gL_bI, gD_bI, gR_bI, aL_bI, aD_bI, aI_bI_ne, ob_bL, rf_bL, isR_bL, isI_bL, isL_bL, arI_bL, arL_bL, arR_bL, arD_bL, aln_bL, rdI_bL, rdB_bL, rdR_bL, aR_bL, bL_2, gI_bL, gL_bL, gD_bL, gR_bL, aI_bL, aD_bL, aL_bL_ne, gI_pI, gL_pL, gD_pD, isI_pI, isL_pI, isD_pI, isI_pL, isL_pL, isD_pL, isI_pD, isL_pD, isD_pD, vkk_n, vkk_i, vkk_r, vkk_l, vkk_d, catS_nil, catS_i, catS_r, catS_l, catS_d, Nat.reduceAdd, Nat.reduceLeDiff, Nat.zero_le, Nat.le_refl, Option.bind_some, Option.toList_some, Option.toList_none, List.cons_append, List.nil_append, or_true, true_or, if_true, if_false, Int32.reduceLT, Int32.reduceLE, not_true, not_false_iff, true_and, and_true, false_and, and_false, Nat.add_assoc, Nat.reduceAdd, Nat.add_left_cancel_iff, Nat.reduceEqDiff, Nat.add_eq_left, Nat.left_eq_add]
      exact u1
    · by_cases ik : i = k
      · subst ik
        have a := u4 (8 * σ + i) (by omega)
        rw [a.1, a.2.1, a.2.2]
        exact y2
      · exact u3 i (by omega) i2
    · have a := u4 j (by omega)
      rw [a.1, a.2.1, a.2.2]
      exact y1 j (by omega)
theorem l_hold3 (g : Nat) (σ : Nat) (hσ : σ < 2) (V0 : Nat → Int32) (V1 : Nat → Int64) (V2 : Nat → UInt64) : ∀ (d k : Nat) (h : VG), k + d = 320 → Sh h g → (∀ i, i < 320 → aI h (g + 287) (i) = V0 i) → (∀ i, i < 320 → aL h (g + 288) (i) = V1 i) → (∀ i, i < 320 → aD h (g + 289) (i) = V2 i) → ∃ h1, ev 229 111 [some (.ref (g + 266)), some (.int (nI σ)), some (.int (nI k))] [] h = ev 229 178 [some (.ref (g + 266)), some (.int (nI σ)), some (.int (nI 320))] [] h1 ∧ Fr (fun a => a = g + 303 ∨ a = g + 304 ∨ a = g + 305) NF h h1 ∧ (∀ i, k ≤ i → i < 320 → aI h1 (g + 303) (320 * σ + i) = V0 i ∧ aL h1 (g + 304) (320 * σ + i) = V1 i ∧ aD h1 (g + 305) (320 * σ + i) = V2 i) ∧ ∀ j, ¬ (320 * σ + k ≤ j ∧ j < 320 * σ + 320) → aI h1 (g + 303) j = aI h (g + 303) j ∧ aL h1 (g + 304) j = aL h (g + 304) j ∧ aD h1 (g + 305) j = aD h (g + 305) j := by
  have m1 : (320 : Int32) * nI σ = nI (320 * σ) := by rw [show (320 : Int32) = nI 320 from rfl, pk_mul]
  intro d
  induction d with
  | zero =>
    intro k h hk hs _ _ _
    obtain rfl : k = 320 := by omega
    have q : ¬ nI 320 < nI 320 := by rw [nI_ltI (by omega) (by omega)]; omega
    refine ⟨h, ?_, Fr.rfl _, fun i h1 h2 => by omega, fun j _ => ⟨rfl, rfl, rfl⟩⟩
    have q' : ¬ (320 : Int32) < 320 := q
    rw [show nI 320 = (320 : Int32) from rfl]
    simp +decide only [e229_111, e229_112, e229_115, q', vkk_n, vkk_n, vkk_i, vkk_r, vkk_l, vkk_d, catS_nil, catS_i, catS_r, catS_l, catS_d, Nat.reduceAdd, Nat.reduceLeDiff, Nat.zero_le, Nat.le_refl, Option.bind_some, Option.toList_some, Option.toList_none, List.cons_append, List.nil_append, or_true, true_or, if_true, if_false, Int32.reduceLT, Int32.reduceLE, not_true, not_false_iff, true_and, and_true, false_and, and_false]
  | succ d ih =>
    intro k h hk hs r0 r1 r2
    have q : nI k < nI 320 := nI_lt (by omega) (by omega)
    have q' : nI k < 320 := q
    have e0 := r0 k (by omega)
    have t0 : arI h (g + 303) 0 := Mod_110 hs.2.1
    have e1 := r1 k (by omega)
    have t1 : arL h (g + 304) := Mod_113 hs.2.1
    have e2 := r2 k (by omega)
    have t2 : arD h (g + 305) := Mod_116 hs.2.1
    have iv1 : vp_in (nI (320 * σ + k)) 640 := vp_in_nI (by omega) (by decide)
    have ic1 : (nI (320 * σ + k)).toNatClampNeg = 320 * σ + k := nI_clamp (by omega)
    have iv2 : vp_in (nI (k)) 320 := vp_in_nI (by omega) (by decide)
    have ic2 : (nI (k)).toNatClampNeg = k := nI_clamp (by omega)
    have x1 : Fr (fun a => a = g + 303 ∨ a = g + 304 ∨ a = g + 305) NF h (wD (wL (wI h (g + 303) (320 * σ + k) (V0 k)) (g + 304) (320 * σ + k) (V1 k)) (g + 305) (320 * σ + k) (V2 k)) := (((Fr.rfl h).tr (Fr_wI _ _ _ _ (Or.inl rfl))).tr (Fr_wL _ _ _ _ (Or.inr (Or.inl rfl)))).tr (Fr_wD _ _ _ _ (Or.inr (Or.inr rfl)))
    have y1 : ∀ j, ¬ j = 320 * σ + k → aI (wD (wL (wI h (g + 303) (320 * σ + k) (V0 k)) (g + 304) (320 * σ + k) (V1 k)) (g + 305) (320 * σ + k) (V2 k)) (g + 303) j = aI h (g + 303) j ∧ aL (wD (wL (wI h (g + 303) (320 * σ + k) (V0 k)) (g + 304) (320 * σ + k) (V1 k)) (g + 305) (320 * σ + k) (V2 k)) (g + 304) j = aL h (g + 304) j ∧ aD (wD (wL (wI h (g + 303) (320 * σ + k) (V0 k)) (g + 304) (320 * σ + k) (V1 k)) (g + 305) (320 * σ + k) (V2 k)) (g + 305) j = aD h (g + 305) j := by
      intro j hj
      refine ⟨?_, ?_, ?_⟩
      · rw [aI_wD, aI_wL, aI_wI_j _ _ _ _ _ _ hj]
      · rw [aL_wD, aL_wL_j _ _ _ _ _ _ hj, aL_wI]
      · rw [aD_wD_j _ _ _ _ _ _ hj, aD_wL, aD_wI]
    have y2 : aI (wD (wL (wI h (g + 303) (320 * σ + k) (V0 k)) (g + 304) (320 * σ + k) (V1 k)) (g + 305) (320 * σ + k) (V2 k)) (g + 303) (320 * σ + k) = V0 k ∧ aL (wD (wL (wI h (g + 303) (320 * σ + k) (V0 k)) (g + 304) (320 * σ + k) (V1 k)) (g + 305) (320 * σ + k) (V2 k)) (g + 304) (320 * σ + k) = V1 k ∧ aD (wD (wL (wI h (g + 303) (320 * σ + k) (V0 k)) (g + 304) (320 * σ + k) (V1 k)) (g + 305) (320 * σ + k) (V2 k)) (g + 305) (320 * σ + k) = V2 k := by
      refine ⟨?_, ?_, ?_⟩
      · rw [aI_wD, aI_wL, aI_wI0 _ _ _ _ _ _ t0, if_pos ⟨rfl, rfl⟩]
      · rw [aL_wD, aL_wL _ _ _ _ _ _ (by simp only [arL_wI, arL_wL, arL_wD]; exact t1), if_pos ⟨rfl, rfl⟩]
      · rw [aD_wD _ _ _ _ _ _ (by simp only [arD_wI, arD_wL, arD_wD]; exact t2), if_pos ⟨rfl, rfl⟩]
    have s1 : Sh (wD (wL (wI h (g + 303) (320 * σ + k) (V0 k)) (g + 304) (320 * σ + k) (V1 k)) (g + 305) (320 * σ + k) (V2 k)) g := Sh_fr x1 (fun a z => by omega) hs
    obtain ⟨h1, u1, u2, u3, u4⟩ := ih (k + 1) _ (by omega) s1 (fun i hi => by rw [x1.I (a := g + 287) (fun z => by omega)]; exact r0 i hi) (fun i hi => by rw [x1.L (a := g + 288) (fun z => by omega)]; exact r1 i hi) (fun i hi => by rw [x1.D (a := g + 289) (fun z => by omega)]; exact r2 i hi)
    refine ⟨h1, ?_, x1.tr u2, fun i i1 i2 => ?_, fun j hj => ?_⟩
    · simp +decide only [e229_111, e229_112, e229_115, q', vkk_n, if_true]
      simp +decide only [e229_118, e229_119, e229_122, e229_125, e229_126, e229_127, e229_128, e229_129, e229_130, e229_133, e229_134, e229_135, e229_136, e229_137, e229_140, e229_143, e229_144, e229_145, e229_146, e229_147, e229_148, e229_151, e229_152, e229_153, e229_154, e229_155, e229_158, e229_161, e229_162, e229_163, e229_164, e229_165, e229_166, e229_169, e229_170, e229_171, e229_172, e229_175, nI_add, m1, iv1, ic1, iv2, ic2, e0, e1, e2, (Mod_0 hs.2.1 : ob h (g + 266) 11), (rf_g (Mod_61 hs.2.1 : rf h (g + 266) 44 (g + 287)) : gR h (g + 266) 44 = (g + 287)), (rf_is (Mod_61 hs.2.1 : rf h (g + 266) 44 (g + 287)) : isR h (g + 266) 44), (Mod_62 hs.2.1 : arI h (g + 287) 0), (rdI_0 (Mod_62 hs.2.1 : arI h (g + 287) 0) : rdI h (g + 287)), (Mod_63 hs.2.1 : aln h (g + 287) = 320), (rf_g (Mod_64 hs.2.1 : rf h (g + 266) 45 (g + 288)) : gR h (g + 266) 45 = (g + 288)), (rf_is (Mod_64 hs.2.1 : rf h (g + 266) 45 (g + 288)) : isR h (g + 266) 45), (Mod_65 hs.2.1 : arL h (g + 288)), (Mod_66 hs.2.1 : aln h (g + 288) = 320), (rf_g (Mod_67 hs.2.1 : rf h (g + 266) 46 (g + 289)) : gR h (g + 266) 46 = (g + 289)), (rf_is (Mod_67 hs.2.1 : rf h (g + 266) 46 (g + 289)) : isR h (g + 266) 46), (Mod_68 hs.2.1 : arD h (g + 289)), (Mod_69 hs.2.1 : aln h (g + 289) = 320), (rf_g (Mod_109 hs.2.1 : rf h (g + 266) 62 (g + 303)) : gR h (g + 266) 62 = (g + 303)), (rf_is (Mod_109 hs.2.1 : rf h (g + 266) 62 (g + 303)) : isR h (g + 266) 62), (Mod_110 hs.2.1 : arI h (g + 303) 0), (rdI_0 (Mod_110 hs.2.1 : arI h (g + 303) 0) : rdI h (g + 303)), (Mod_111 hs.2.1 : aln h (g + 303) = 640), (rf_g (Mod_112 hs.2.1 : rf h (g + 266) 63 (g + 304)) : gR h (g + 266) 63 = (g + 304)), (rf_is (Mod_112 hs.2.1 : rf h (g + 266) 63 (g + 304)) : isR h (g + 266) 63), (Mod_113 hs.2.1 : arL h (g + 304)), (Mod_114 hs.2.1 : aln h (g + 304) = 640), (rf_g (Mod_115 hs.2.1 : rf h (g + 266) 64 (g + 305)) : gR h (g + 266) 64 = (g + 305)), (rf_is (Mod_115 hs.2.1 : rf h (g + 266) 64 (g + 305)) : isR h (g + 266) 64), (Mod_116 hs.2.1 : arD h (g + 305)), (Mod_117 hs.2.1 : aln h (g + 305) = 640), nI_1, ob_pI, rf_pI, isR_pI, isI_pI, isL_pI, arI_pI, arL_pI, arR_pI, arD_pI, aln_pI, rdI_pI, rdB_pI, rdR_pI, aR_pI, pI_2, gI_pI, gL_pI, gD_pI, gR_pI, aI_pI, aL_pI, aD_pI, ob_pL, rf_pL, isR_pL, isI_pL, isL_pL, arI_pL, arL_pL, arR_pL, arD_pL, aln_pL, rdI_pL, rdB_pL, rdR_pL, aR_pL, pL_2, gI_pL, gL_pL, gD_pL, gR_pL, aI_pL, aL_pL, aD_pL, ob_pD, rf_pD, isR_pD, isI_pD, isL_pD, arI_pD, arL_pD, arR_pD, arD_pD, aln_pD, rdI_pD, rdB_pD, rdR_pD, aR_pD, pD_2, gI_pD, gL_pD, gD_pD, gR_pD, aI_pD, aL_pD, aD_pD, ob_wI, rf_wI, isR_wI, isI_wI, isL_wI, arI_wI, arL_wI, arR_wI, arD_wI, aln_wI, rdI_wI, rdB_wI, rdR_wI, aR_wI, wI_2, gI_wI, gL_wI, gD_wI, gR_wI, aL_wI, aD_wI, aI_wI_ne, ob_wL, rf_wL, isR_wL, isI_wL, isL_wL, arI_wL, arL_wL, arR_wL, arD_wL, aln_wL, rdI_wL, rdB_wL, rdR_wL, aR_wL, wL_2, gI_wL, gL_wL, gD_wL, gR_wL, aI_wL, aD_wL, aL_wL_ne, ob_wD, rf_wD, isR_wD, isI_wD, isL_wD, arI_wD, arL_wD, arR_wD, arD_wD, aln_wD, rdI_wD, rdB_wD, rdR_wD, aR_wD, wD_2, gI_wD, gL_wD, gD_wD, gR_wD, aI_wD, aL_wD, aD_wD_ne, ob_bI, rf_bI, isR_bI, isI_bI, isL_bI, arI_bI, arL_bI, arR_bI, arD_bI, aln_bI, rdI_bI, rdB_bI, rdR_bI, aR_bI, bI_2, gI_bI, gL_bI, gD_bI, gR_bI, aL_bI, aD_bI, aI_bI_ne, ob_bL, rf_bL, isR_bL, isI_bL, isL_bL, arI_bL, arL_bL, arR_bL, arD_bL, aln_bL, rdI_bL, rdB_bL, rdR_bL, aR_bL, bL_2, gI_bL, gL_bL, gD_bL, gR_bL, aI_bL, aD_bL, aL_bL_ne, gI_pI, gL_pL, gD_pD, isI_pI, isL_pI, isD_pI, isI_pL, isL_pL, isD_pL, isI_pD, isL_pD, isD_pD, vkk_n, vkk_i, vkk_r, vkk_l, vkk_d, catS_nil, catS_i, catS_r, catS_l, catS_d, Nat.reduceAdd, Nat.reduceLeDiff, Nat.zero_le, Nat.le_refl, Option.bind_some, Option.toList_some, Option.toList_none, List.cons_append, List.nil_append, or_true, true_or, if_true, if_false, Int32.reduceLT, Int32.reduceLE, not_true, not_false_iff, true_and, and_true, false_and, and_false, Nat.add_assoc, Nat.reduceAdd, Nat.add_left_cancel_iff, Nat.reduceEqDiff, Nat.add_eq_left, Nat.left_eq_add]
      exact u1
    · by_cases ik : i = k
      · subst ik
        have a := u4 (320 * σ + i) (by omega)
        rw [a.1, a.2.1, a.2.2]
        exact y2
      · exact u3 i (by omega) i2
    · have a := u4 j (by omega)
      rw [a.1, a.2.1, a.2.2]
      exact y1 j (by omega)
theorem l_rest1 (g : Nat) (σ : Nat) (hσ : σ < 2) (V0 : Nat → Int32) : ∀ (d k : Nat) (h : VG), k + d = 256 → Sh h g → (∀ i, i < 256 → aI h (g + 300) (256 * σ + i) = V0 i) → ∃ h1, ev 230 22 [some (.ref (g + 266)), some (.int (nI σ)), some (.int (nI k))] [] h = ev 230 53 [some (.ref (g + 266)), some (.int (nI σ)), some (.int (nI 256))] [] h1 ∧ Fr (fun a => a = g + 277) NF h h1 ∧ (∀ i, k ≤ i → i < 256 → aI h1 (g + 277) (i) = V0 i) ∧ ∀ j, ¬ (k ≤ j ∧ j < 256) → aI h1 (g + 277) j = aI h (g + 277) j := by
  have m1 : (256 : Int32) * nI σ = nI (256 * σ) := by rw [show (256 : Int32) = nI 256 from rfl, pk_mul]
  intro d
  induction d with
  | zero =>
    intro k h hk hs _
    obtain rfl : k = 256 := by omega
    have q : ¬ nI 256 < nI 256 := by rw [nI_ltI (by omega) (by omega)]; omega
    refine ⟨h, ?_, Fr.rfl _, fun i h1 h2 => by omega, fun j _ => rfl⟩
    have q' : ¬ (256 : Int32) < 256 := q
    rw [show nI 256 = (256 : Int32) from rfl]
    simp +decide only [e230_22, e230_23, e230_26, q', vkk_n, vkk_n, vkk_i, vkk_r, vkk_l, vkk_d, catS_nil, catS_i, catS_r, catS_l, catS_d, Nat.reduceAdd, Nat.reduceLeDiff, Nat.zero_le, Nat.le_refl, Option.bind_some, Option.toList_some, Option.toList_none, List.cons_append, List.nil_append, or_true, true_or, if_true, if_false, Int32.reduceLT, Int32.reduceLE, not_true, not_false_iff, true_and, and_true, false_and, and_false]
  | succ d ih =>
    intro k h hk hs r0
    have q : nI k < nI 256 := nI_lt (by omega) (by omega)
    have q' : nI k < 256 := q
    have e0 := r0 k (by omega)
    have t0 : arI h (g + 277) 0 := Mod_32 hs.2.1
    have iv1 : vp_in (nI (k)) 256 := vp_in_nI (by omega) (by decide)
    have ic1 : (nI (k)).toNatClampNeg = k := nI_clamp (by omega)
    have iv2 : vp_in (nI (256 * σ + k)) 512 := vp_in_nI (by omega) (by decide)
    have ic2 : (nI (256 * σ + k)).toNatClampNeg = 256 * σ + k := nI_clamp (by omega)
    have x1 : Fr (fun a => a = g + 277) NF h (wI h (g + 277) (k) (V0 k)) := (Fr.rfl h).tr (Fr_wI _ _ _ _ (rfl))
    have y1 : ∀ j, ¬ j = k → aI (wI h (g + 277) (k) (V0 k)) (g + 277) j = aI h (g + 277) j := by
      intro j hj
      rw [aI_wI_j _ _ _ _ _ _ hj]
    have y2 : aI (wI h (g + 277) (k) (V0 k)) (g + 277) (k) = V0 k := by
      rw [aI_wI0 _ _ _ _ _ _ t0, if_pos ⟨rfl, rfl⟩]
    have s1 : Sh (wI h (g + 277) (k) (V0 k)) g := Sh_fr x1 (fun a z => by omega) hs
    obtain ⟨h1, u1, u2, u3, u4⟩ := ih (k + 1) _ (by omega) s1 (fun i hi => by rw [x1.I (a := g + 300) (fun z => by omega)]; exact r0 i hi)
    refine ⟨h1, ?_, x1.tr u2, fun i i1 i2 => ?_, fun j hj => ?_⟩
    · simp +decide only [e230_22, e230_23, e230_26, q', vkk_n, if_true]
      simp +decide only [e230_29, e230_30, e230_33, e230_34, e230_35, e230_38, e230_41, e230_42, e230_43, e230_44, e230_45, e230_46, e230_47, e230_50, nI_add, m1, iv1, ic1, iv2, ic2, e0, (Mod_0 hs.2.1 : ob h (g + 266) 11), (rf_g (Mod_31 hs.2.1 : rf h (g + 266) 23 (g + 277)) : gR h (g + 266) 23 = (g + 277)), (rf_is (Mod_31 hs.2.1 : rf h (g + 266) 23 (g + 277)) : isR h (g + 266) 23), (Mod_32 hs.2.1 : arI h (g + 277) 0), (rdI_0 (Mod_32 hs.2.1 : arI h (g + 277) 0) : rdI h (g + 277)), (Mod_33 hs.2.1 : aln h (g + 277) = 256), (rf_g (Mod_100 hs.2.1 : rf h (g + 266) 59 (g + 300)) : gR h (g + 266) 59 = (g + 300)), (rf_is (Mod_100 hs.2.1 : rf h (g + 266) 59 (g + 300)) : isR h (g + 266) 59), (Mod_101 hs.2.1 : arI h (g + 300) 0), (rdI_0 (Mod_101 hs.2.1 : arI h (g + 300) 0) : rdI h (g + 300)), (Mod_102 hs.2.1 : aln h (g + 300) = 512), nI_1, ob_pI, rf_pI, isR_pI, isI_pI, isL_pI, arI_pI, arL_pI, arR_pI, arD_pI, aln_pI, rdI_pI, rdB_pI, rdR_pI, aR_pI, pI_2, gI_pI, gL_pI, gD_pI, gR_pI, aI_pI, aL_pI, aD_pI, ob_pL, rf_pL, isR_pL, isI_pL, isL_pL, arI_pL, arL_pL, arR_pL, arD_pL, aln_pL, rdI_pL, rdB_pL, rdR_pL, aR_pL, pL_2, gI_pL, gL_pL, gD_pL, gR_pL, aI_pL, aL_pL, aD_pL, ob_pD, rf_pD, isR_pD, isI_pD, isL_pD, arI_pD, arL_pD, arR_pD, arD_pD, aln_pD, rdI_pD, rdB_pD, rdR_pD, aR_pD, pD_2, gI_pD, gL_pD, gD_pD, gR_pD, aI_pD, aL_pD, aD_pD, ob_wI, rf_wI, isR_wI, isI_wI, isL_wI, arI_wI, arL_wI, arR_wI, arD_wI, aln_wI, rdI_wI, rdB_wI, rdR_wI, aR_wI, wI_2, gI_wI, gL_wI, gD_wI, gR_wI, aL_wI, aD_wI, aI_wI_ne, ob_wL, rf_wL, isR_wL, isI_wL, isL_wL, arI_wL, arL_wL, arR_wL, arD_wL, aln_wL, rdI_wL, rdB_wL, rdR_wL, aR_wL, wL_2, gI_wL, gL_wL, gD_wL, gR_wL, aI_wL, aD_wL, aL_wL_ne, ob_wD, rf_wD, isR_wD, isI_wD, isL_wD, arI_wD, arL_wD, arR_wD, arD_wD, aln_wD, rdI_wD, rdB_wD, rdR_wD, aR_wD, wD_2, gI_wD, gL_wD, gD_wD, gR_wD, aI_wD, aL_wD, aD_wD_ne, ob_bI, rf_bI, isR_bI, isI_bI, isL_bI, arI_bI, arL_bI, arR_bI, arD_bI, aln_bI, rdI_bI, rdB_bI, rdR_bI, aR_bI, bI_2, gI_bI, gL_bI, gD_bI, gR_bI, aL_bI, aD_bI, aI_bI_ne, ob_bL, rf_bL, isR_bL, isI_bL, isL_bL, arI_bL, arL_bL, arR_bL, arD_bL, aln_bL, rdI_bL, rdB_bL, rdR_bL, aR_bL, bL_2, gI_bL, gL_bL, gD_bL, gR_bL, aI_bL, aD_bL, aL_bL_ne, gI_pI, gL_pL, gD_pD, isI_pI, isL_pI, isD_pI, isI_pL, isL_pL, isD_pL, isI_pD, isL_pD, isD_pD, vkk_n, vkk_i, vkk_r, vkk_l, vkk_d, catS_nil, catS_i, catS_r, catS_l, catS_d, Nat.reduceAdd, Nat.reduceLeDiff, Nat.zero_le, Nat.le_refl, Option.bind_some, Option.toList_some, Option.toList_none, List.cons_append, List.nil_append, or_true, true_or, if_true, if_false, Int32.reduceLT, Int32.reduceLE, not_true, not_false_iff, true_and, and_true, false_and, and_false, Nat.add_assoc, Nat.reduceAdd, Nat.add_left_cancel_iff, Nat.reduceEqDiff, Nat.add_eq_left, Nat.left_eq_add]
      exact u1
    · by_cases ik : i = k
      · subst ik
        have a := u4 (i) (by omega)
        rw [a]
        exact y2
      · exact u3 i (by omega) i2
    · have a := u4 j (by omega)
      rw [a]
      exact y1 j (by omega)
theorem l_rest2 (g : Nat) (σ : Nat) (hσ : σ < 2) (V0 : Nat → Int32) (V1 : Nat → Int32) (V2 : Nat → Int64) : ∀ (d k : Nat) (h : VG), k + d = 8 → Sh h g → (∀ i, i < 8 → aI h (g + 301) (8 * σ + i) = V0 i) → (∀ i, i < 8 → aI h (g + 302) (8 * σ + i) = V1 i) → (∀ i, i < 8 → aL h (g + 306) (8 * σ + i) = V2 i) → ∃ h1, ev 230 55 [some (.ref (g + 266)), some (.int (nI σ)), some (.int (nI k))] [] h = ev 230 118 [some (.ref (g + 266)), some (.int (nI σ)), some (.int (nI 8))] [] h1 ∧ Fr (fun a => a = g + 285 ∨ a = g + 286 ∨ a = g + 298) NF h h1 ∧ (∀ i, k ≤ i → i < 8 → aI h1 (g + 285) (i) = V0 i ∧ aI h1 (g + 286) (i) = V1 i ∧ aL h1 (g + 298) (i) = V2 i) ∧ ∀ j, ¬ (k ≤ j ∧ j < 8) → aI h1 (g + 285) j = aI h (g + 285) j ∧ aI h1 (g + 286) j = aI h (g + 286) j ∧ aL h1 (g + 298) j = aL h (g + 298) j := by
  have m1 : (8 : Int32) * nI σ = nI (8 * σ) := by rw [show (8 : Int32) = nI 8 from rfl, pk_mul]
  intro d
  induction d with
  | zero =>
    intro k h hk hs _ _ _
    obtain rfl : k = 8 := by omega
    have q : ¬ nI 8 < nI 8 := by rw [nI_ltI (by omega) (by omega)]; omega
    refine ⟨h, ?_, Fr.rfl _, fun i h1 h2 => by omega, fun j _ => ⟨rfl, rfl, rfl⟩⟩
    have q' : ¬ (8 : Int32) < 8 := q
    rw [show nI 8 = (8 : Int32) from rfl]
    simp +decide only [e230_55, e230_56, e230_58, q', vkk_n, vkk_n, vkk_i, vkk_r, vkk_l, vkk_d, catS_nil, catS_i, catS_r, catS_l, catS_d, Nat.reduceAdd, Nat.reduceLeDiff, Nat.zero_le, Nat.le_refl, Option.bind_some, Option.toList_some, Option.toList_none, List.cons_append, List.nil_append, or_true, true_or, if_true, if_false, Int32.reduceLT, Int32.reduceLE, not_true, not_false_iff, true_and, and_true, false_and, and_false]
  | succ d ih =>
    intro k h hk hs r0 r1 r2
    have q : nI k < nI 8 := nI_lt (by omega) (by omega)
    have q' : nI k < 8 := q
    have e0 := r0 k (by omega)
    have t0 : arI h (g + 285) 0 := Mod_56 hs.2.1
    have e1 := r1 k (by omega)
    have t1 : arI h (g + 286) 0 := Mod_59 hs.2.1
    have e2 := r2 k (by omega)
    have t2 : arL h (g + 298) := Mod_95 hs.2.1
    have iv1 : vp_in (nI (k)) 8 := vp_in_nI (by omega) (by decide)
    have ic1 : (nI (k)).toNatClampNeg = k := nI_clamp (by omega)
    have iv2 : vp_in (nI (8 * σ + k)) 16 := vp_in_nI (by omega) (by decide)
    have ic2 : (nI (8 * σ + k)).toNatClampNeg = 8 * σ + k := nI_clamp (by omega)
    have x1 : Fr (fun a => a = g + 285 ∨ a = g + 286 ∨ a = g + 298) NF h (wL (wI (wI h (g + 285) (k) (V0 k)) (g + 286) (k) (V1 k)) (g + 298) (k) (V2 k)) := (((Fr.rfl h).tr (Fr_wI _ _ _ _ (Or.inl rfl))).tr (Fr_wI _ _ _ _ (Or.inr (Or.inl rfl)))).tr (Fr_wL _ _ _ _ (Or.inr (Or.inr rfl)))
    have y1 : ∀ j, ¬ j = k → aI (wL (wI (wI h (g + 285) (k) (V0 k)) (g + 286) (k) (V1 k)) (g + 298) (k) (V2 k)) (g + 285) j = aI h (g + 285) j ∧ aI (wL (wI (wI h (g + 285) (k) (V0 k)) (g + 286) (k) (V1 k)) (g + 298) (k) (V2 k)) (g + 286) j = aI h (g + 286) j ∧ aL (wL (wI (wI h (g + 285) (k) (V0 k)) (g + 286) (k) (V1 k)) (g + 298) (k) (V2 k)) (g + 298) j = aL h (g + 298) j := by
      intro j hj
      refine ⟨?_, ?_, ?_⟩
      · rw [aI_wL, aI_wI_ne _ _ _ _ _ _ (by omega), aI_wI_j _ _ _ _ _ _ hj]
      · rw [aI_wL, aI_wI_j _ _ _ _ _ _ hj, aI_wI_ne _ _ _ _ _ _ (by omega)]
      · rw [aL_wL_j _ _ _ _ _ _ hj, aL_wI, aL_wI]
    have y2 : aI (wL (wI (wI h (g + 285) (k) (V0 k)) (g + 286) (k) (V1 k)) (g + 298) (k) (V2 k)) (g + 285) (k) = V0 k ∧ aI (wL (wI (wI h (g + 285) (k) (V0 k)) (g + 286) (k) (V1 k)) (g + 298) (k) (V2 k)) (g + 286) (k) = V1 k ∧ aL (wL (wI (wI h (g + 285) (k) (V0 k)) (g + 286) (k) (V1 k)) (g + 298) (k) (V2 k)) (g + 298) (k) = V2 k := by
      refine ⟨?_, ?_, ?_⟩
      · rw [aI_wL, aI_wI_ne _ _ _ _ _ _ (by omega), aI_wI0 _ _ _ _ _ _ t0, if_pos ⟨rfl, rfl⟩]
      · rw [aI_wL, aI_wI0 _ _ _ _ _ _ (by simp only [arI_wI, arI_wL, arI_wD]; exact t1), if_pos ⟨rfl, rfl⟩]
      · rw [aL_wL _ _ _ _ _ _ (by simp only [arL_wI, arL_wL, arL_wD]; exact t2), if_pos ⟨rfl, rfl⟩]
    have s1 : Sh (wL (wI (wI h (g + 285) (k) (V0 k)) (g + 286) (k) (V1 k)) (g + 298) (k) (V2 k)) g := Sh_fr x1 (fun a z => by omega) hs
    obtain ⟨h1, u1, u2, u3, u4⟩ := ih (k + 1) _ (by omega) s1 (fun i hi => by rw [x1.I (a := g + 301) (fun z => by omega)]; exact r0 i hi) (fun i hi => by rw [x1.I (a := g + 302) (fun z => by omega)]; exact r1 i hi) (fun i hi => by rw [x1.L (a := g + 306) (fun z => by omega)]; exact r2 i hi)
    refine ⟨h1, ?_, x1.tr u2, fun i i1 i2 => ?_, fun j hj => ?_⟩
    · simp +decide only [e230_55, e230_56, e230_58, q', vkk_n, if_true]
      simp +decide only [e230_61, e230_62, e230_65, e230_66, e230_67, e230_70, e230_72, e230_73, e230_74, e230_75, e230_76, e230_77, e230_78, e230_79, e230_82, e230_83, e230_84, e230_87, e230_89, e230_90, e230_91, e230_92, e230_93, e230_94, e230_95, e230_96, e230_99, e230_100, e230_101, e230_104, e230_106, e230_107, e230_108, e230_109, e230_110, e230_111, e230_112, e230_115, nI_add, m1, iv1, ic1, iv2, ic2, e0, e1, e2, (Mod_0 hs.2.1 : ob h (g + 266) 11), (rf_g (Mod_55 hs.2.1 : rf h (g + 266) 42 (g + 285)) : gR h (g + 266) 42 = (g + 285)), (rf_is (Mod_55 hs.2.1 : rf h (g + 266) 42 (g + 285)) : isR h (g + 266) 42), (Mod_56 hs.2.1 : arI h (g + 285) 0), (rdI_0 (Mod_56 hs.2.1 : arI h (g + 285) 0) : rdI h (g + 285)), (Mod_57 hs.2.1 : aln h (g + 285) = 8), (rf_g (Mod_58 hs.2.1 : rf h (g + 266) 43 (g + 286)) : gR h (g + 266) 43 = (g + 286)), (rf_is (Mod_58 hs.2.1 : rf h (g + 266) 43 (g + 286)) : isR h (g + 266) 43), (Mod_59 hs.2.1 : arI h (g + 286) 0), (rdI_0 (Mod_59 hs.2.1 : arI h (g + 286) 0) : rdI h (g + 286)), (Mod_60 hs.2.1 : aln h (g + 286) = 8), (rf_g (Mod_94 hs.2.1 : rf h (g + 266) 56 (g + 298)) : gR h (g + 266) 56 = (g + 298)), (rf_is (Mod_94 hs.2.1 : rf h (g + 266) 56 (g + 298)) : isR h (g + 266) 56), (Mod_95 hs.2.1 : arL h (g + 298)), (Mod_96 hs.2.1 : aln h (g + 298) = 8), (rf_g (Mod_103 hs.2.1 : rf h (g + 266) 60 (g + 301)) : gR h (g + 266) 60 = (g + 301)), (rf_is (Mod_103 hs.2.1 : rf h (g + 266) 60 (g + 301)) : isR h (g + 266) 60), (Mod_104 hs.2.1 : arI h (g + 301) 0), (rdI_0 (Mod_104 hs.2.1 : arI h (g + 301) 0) : rdI h (g + 301)), (Mod_105 hs.2.1 : aln h (g + 301) = 16), (rf_g (Mod_106 hs.2.1 : rf h (g + 266) 61 (g + 302)) : gR h (g + 266) 61 = (g + 302)), (rf_is (Mod_106 hs.2.1 : rf h (g + 266) 61 (g + 302)) : isR h (g + 266) 61), (Mod_107 hs.2.1 : arI h (g + 302) 0), (rdI_0 (Mod_107 hs.2.1 : arI h (g + 302) 0) : rdI h (g + 302)), (Mod_108 hs.2.1 : aln h (g + 302) = 16), (rf_g (Mod_118 hs.2.1 : rf h (g + 266) 65 (g + 306)) : gR h (g + 266) 65 = (g + 306)), (rf_is (Mod_118 hs.2.1 : rf h (g + 266) 65 (g + 306)) : isR h (g + 266) 65), (Mod_119 hs.2.1 : arL h (g + 306)), (Mod_120 hs.2.1 : aln h (g + 306) = 16), nI_1, ob_pI, rf_pI, isR_pI, isI_pI, isL_pI, arI_pI, arL_pI, arR_pI, arD_pI, aln_pI, rdI_pI, rdB_pI, rdR_pI, aR_pI, pI_2, gI_pI, gL_pI, gD_pI, gR_pI, aI_pI, aL_pI, aD_pI, ob_pL, rf_pL, isR_pL, isI_pL, isL_pL, arI_pL, arL_pL, arR_pL, arD_pL, aln_pL, rdI_pL, rdB_pL, rdR_pL, aR_pL, pL_2, gI_pL, gL_pL, gD_pL, gR_pL, aI_pL, aL_pL, aD_pL, ob_pD, rf_pD, isR_pD, isI_pD, isL_pD, arI_pD, arL_pD, arR_pD, arD_pD, aln_pD, rdI_pD, rdB_pD, rdR_pD, aR_pD, pD_2, gI_pD, gL_pD, gD_pD, gR_pD, aI_pD, aL_pD, aD_pD, ob_wI, rf_wI, isR_wI, isI_wI, isL_wI, arI_wI, arL_wI, arR_wI, arD_wI, aln_wI, rdI_wI, rdB_wI, rdR_wI, aR_wI, wI_2, gI_wI, gL_wI, gD_wI, gR_wI, aL_wI, aD_wI, aI_wI_ne, ob_wL, rf_wL, isR_wL, isI_wL, isL_wL, arI_wL, arL_wL, arR_wL, arD_wL, aln_wL, rdI_wL, rdB_wL, rdR_wL, aR_wL, wL_2, gI_wL, gL_wL, gD_wL, gR_wL, aI_wL, aD_wL, aL_wL_ne, ob_wD, rf_wD, isR_wD, isI_wD, isL_wD, arI_wD, arL_wD, arR_wD, arD_wD, aln_wD, rdI_wD, rdB_wD, rdR_wD, aR_wD, wD_2, gI_wD, gL_wD, gD_wD, gR_wD, aI_wD, aL_wD, aD_wD_ne, ob_bI, rf_bI, isR_bI, isI_bI, isL_bI, arI_bI, arL_bI, arR_bI, arD_bI, aln_bI, rdI_bI, rdB_bI, rdR_bI, aR_bI, bI_2, gI_bI, gL_bI, gD_bI, gR_bI, aL_bI, aD_bI, aI_bI_ne, ob_bL, rf_bL, isR_bL, isI_bL, isL_bL, arI_bL, arL_bL, arR_bL, arD_bL, aln_bL, rdI_bL, rdB_bL, rdR_bL, aR_bL, bL_2, gI_bL, gL_bL, gD_bL, gR_bL, aI_bL, aD_bL, aL_bL_ne, gI_pI, gL_pL, gD_pD, isI_pI, isL_pI, isD_pI, isI_pL, isL_pL, isD_pL, isI_pD, isL_pD, isD_pD, vkk_n, vkk_i, vkk_r, vkk_l, vkk_d, catS_nil, catS_i, catS_r, catS_l, catS_d, Nat.reduceAdd, Nat.reduceLeDiff, Nat.zero_le, Nat.le_refl, Option.bind_some, Option.toList_some, Option.toList_none, List.cons_append, List.nil_append, or_true, true_or, if_true, if_false, Int32.reduceLT, Int32.reduceLE, not_true, not_false_iff, true_and, and_true, false_and, and_false, Nat.add_assoc, Nat.reduceAdd, Nat.add_left_cancel_iff, Nat.reduceEqDiff, Nat.add_eq_left, Nat.left_eq_add]
      exact u1
    · by_cases ik : i = k
      · subst ik
        have a := u4 (i) (by omega)
        rw [a.1, a.2.1, a.2.2]
        exact y2
      · exact u3 i (by omega) i2
    · have a := u4 j (by omega)
      rw [a.1, a.2.1, a.2.2]
      exact y1 j (by omega)
theorem l_rest3 (g : Nat) (σ : Nat) (hσ : σ < 2) (V0 : Nat → Int32) (V1 : Nat → Int64) (V2 : Nat → UInt64) : ∀ (d k : Nat) (h : VG), k + d = 320 → Sh h g → (∀ i, i < 320 → aI h (g + 303) (320 * σ + i) = V0 i) → (∀ i, i < 320 → aL h (g + 304) (320 * σ + i) = V1 i) → (∀ i, i < 320 → aD h (g + 305) (320 * σ + i) = V2 i) → ∃ h1, ev 230 120 [some (.ref (g + 266)), some (.int (nI σ)), some (.int (nI k))] [] h = ev 230 187 [some (.ref (g + 266)), some (.int (nI σ)), some (.int (nI 320))] [] h1 ∧ Fr (fun a => a = g + 287 ∨ a = g + 288 ∨ a = g + 289) NF h h1 ∧ (∀ i, k ≤ i → i < 320 → aI h1 (g + 287) (i) = V0 i ∧ aL h1 (g + 288) (i) = V1 i ∧ aD h1 (g + 289) (i) = V2 i) ∧ ∀ j, ¬ (k ≤ j ∧ j < 320) → aI h1 (g + 287) j = aI h (g + 287) j ∧ aL h1 (g + 288) j = aL h (g + 288) j ∧ aD h1 (g + 289) j = aD h (g + 289) j := by
  have m1 : (320 : Int32) * nI σ = nI (320 * σ) := by rw [show (320 : Int32) = nI 320 from rfl, pk_mul]
  intro d
  induction d with
  | zero =>
    intro k h hk hs _ _ _
    obtain rfl : k = 320 := by omega
    have q : ¬ nI 320 < nI 320 := by rw [nI_ltI (by omega) (by omega)]; omega
    refine ⟨h, ?_, Fr.rfl _, fun i h1 h2 => by omega, fun j _ => ⟨rfl, rfl, rfl⟩⟩
    have q' : ¬ (320 : Int32) < 320 := q
    rw [show nI 320 = (320 : Int32) from rfl]
    simp +decide only [e230_120, e230_121, e230_124, q', vkk_n, vkk_n, vkk_i, vkk_r, vkk_l, vkk_d, catS_nil, catS_i, catS_r, catS_l, catS_d, Nat.reduceAdd, Nat.reduceLeDiff, Nat.zero_le, Nat.le_refl, Option.bind_some, Option.toList_some, Option.toList_none, List.cons_append, List.nil_append, or_true, true_or, if_true, if_false, Int32.reduceLT, Int32.reduceLE, not_true, not_false_iff, true_and, and_true, false_and, and_false]
  | succ d ih =>
    intro k h hk hs r0 r1 r2
    have q : nI k < nI 320 := nI_lt (by omega) (by omega)
    have q' : nI k < 320 := q
    have e0 := r0 k (by omega)
    have t0 : arI h (g + 287) 0 := Mod_62 hs.2.1
    have e1 := r1 k (by omega)
    have t1 : arL h (g + 288) := Mod_65 hs.2.1
    have e2 := r2 k (by omega)
    have t2 : arD h (g + 289) := Mod_68 hs.2.1
    have iv1 : vp_in (nI (k)) 320 := vp_in_nI (by omega) (by decide)
    have ic1 : (nI (k)).toNatClampNeg = k := nI_clamp (by omega)
    have iv2 : vp_in (nI (320 * σ + k)) 640 := vp_in_nI (by omega) (by decide)
    have ic2 : (nI (320 * σ + k)).toNatClampNeg = 320 * σ + k := nI_clamp (by omega)
    have x1 : Fr (fun a => a = g + 287 ∨ a = g + 288 ∨ a = g + 289) NF h (wD (wL (wI h (g + 287) (k) (V0 k)) (g + 288) (k) (V1 k)) (g + 289) (k) (V2 k)) := (((Fr.rfl h).tr (Fr_wI _ _ _ _ (Or.inl rfl))).tr (Fr_wL _ _ _ _ (Or.inr (Or.inl rfl)))).tr (Fr_wD _ _ _ _ (Or.inr (Or.inr rfl)))
    have y1 : ∀ j, ¬ j = k → aI (wD (wL (wI h (g + 287) (k) (V0 k)) (g + 288) (k) (V1 k)) (g + 289) (k) (V2 k)) (g + 287) j = aI h (g + 287) j ∧ aL (wD (wL (wI h (g + 287) (k) (V0 k)) (g + 288) (k) (V1 k)) (g + 289) (k) (V2 k)) (g + 288) j = aL h (g + 288) j ∧ aD (wD (wL (wI h (g + 287) (k) (V0 k)) (g + 288) (k) (V1 k)) (g + 289) (k) (V2 k)) (g + 289) j = aD h (g + 289) j := by
      intro j hj
      refine ⟨?_, ?_, ?_⟩
      · rw [aI_wD, aI_wL, aI_wI_j _ _ _ _ _ _ hj]
      · rw [aL_wD, aL_wL_j _ _ _ _ _ _ hj, aL_wI]
      · rw [aD_wD_j _ _ _ _ _ _ hj, aD_wL, aD_wI]
    have y2 : aI (wD (wL (wI h (g + 287) (k) (V0 k)) (g + 288) (k) (V1 k)) (g + 289) (k) (V2 k)) (g + 287) (k) = V0 k ∧ aL (wD (wL (wI h (g + 287) (k) (V0 k)) (g + 288) (k) (V1 k)) (g + 289) (k) (V2 k)) (g + 288) (k) = V1 k ∧ aD (wD (wL (wI h (g + 287) (k) (V0 k)) (g + 288) (k) (V1 k)) (g + 289) (k) (V2 k)) (g + 289) (k) = V2 k := by
      refine ⟨?_, ?_, ?_⟩
      · rw [aI_wD, aI_wL, aI_wI0 _ _ _ _ _ _ t0, if_pos ⟨rfl, rfl⟩]
      · rw [aL_wD, aL_wL _ _ _ _ _ _ (by simp only [arL_wI, arL_wL, arL_wD]; exact t1), if_pos ⟨rfl, rfl⟩]
      · rw [aD_wD _ _ _ _ _ _ (by simp only [arD_wI, arD_wL, arD_wD]; exact t2), if_pos ⟨rfl, rfl⟩]
    have s1 : Sh (wD (wL (wI h (g + 287) (k) (V0 k)) (g + 288) (k) (V1 k)) (g + 289) (k) (V2 k)) g := Sh_fr x1 (fun a z => by omega) hs
    obtain ⟨h1, u1, u2, u3, u4⟩ := ih (k + 1) _ (by omega) s1 (fun i hi => by rw [x1.I (a := g + 303) (fun z => by omega)]; exact r0 i hi) (fun i hi => by rw [x1.L (a := g + 304) (fun z => by omega)]; exact r1 i hi) (fun i hi => by rw [x1.D (a := g + 305) (fun z => by omega)]; exact r2 i hi)
    refine ⟨h1, ?_, x1.tr u2, fun i i1 i2 => ?_, fun j hj => ?_⟩
    · simp +decide only [e230_120, e230_121, e230_124, q', vkk_n, if_true]
      simp +decide only [e230_127, e230_128, e230_131, e230_132, e230_133, e230_136, e230_139, e230_140, e230_141, e230_142, e230_143, e230_144, e230_145, e230_146, e230_149, e230_150, e230_151, e230_154, e230_157, e230_158, e230_159, e230_160, e230_161, e230_162, e230_163, e230_164, e230_167, e230_168, e230_169, e230_172, e230_175, e230_176, e230_177, e230_178, e230_179, e230_180, e230_181, e230_184, nI_add, m1, iv1, ic1, iv2, ic2, e0, e1, e2, (Mod_0 hs.2.1 : ob h (g + 266) 11), (rf_g (Mod_61 hs.2.1 : rf h (g + 266) 44 (g + 287)) : gR h (g + 266) 44 = (g + 287)), (rf_is (Mod_61 hs.2.1 : rf h (g + 266) 44 (g + 287)) : isR h (g + 266) 44), (Mod_62 hs.2.1 : arI h (g + 287) 0), (rdI_0 (Mod_62 hs.2.1 : arI h (g + 287) 0) : rdI h (g + 287)), (Mod_63 hs.2.1 : aln h (g + 287) = 320), (rf_g (Mod_64 hs.2.1 : rf h (g + 266) 45 (g + 288)) : gR h (g + 266) 45 = (g + 288)), (rf_is (Mod_64 hs.2.1 : rf h (g + 266) 45 (g + 288)) : isR h (g + 266) 45), (Mod_65 hs.2.1 : arL h (g + 288)), (Mod_66 hs.2.1 : aln h (g + 288) = 320), (rf_g (Mod_67 hs.2.1 : rf h (g + 266) 46 (g + 289)) : gR h (g + 266) 46 = (g + 289)), (rf_is (Mod_67 hs.2.1 : rf h (g + 266) 46 (g + 289)) : isR h (g + 266) 46), (Mod_68 hs.2.1 : arD h (g + 289)), (Mod_69 hs.2.1 : aln h (g + 289) = 320), (rf_g (Mod_109 hs.2.1 : rf h (g + 266) 62 (g + 303)) : gR h (g + 266) 62 = (g + 303)), (rf_is (Mod_109 hs.2.1 : rf h (g + 266) 62 (g + 303)) : isR h (g + 266) 62), (Mod_110 hs.2.1 : arI h (g + 303) 0), (rdI_0 (Mod_110 hs.2.1 : arI h (g + 303) 0) : rdI h (g + 303)), (Mod_111 hs.2.1 : aln h (g + 303) = 640), (rf_g (Mod_112 hs.2.1 : rf h (g + 266) 63 (g + 304)) : gR h (g + 266) 63 = (g + 304)), (rf_is (Mod_112 hs.2.1 : rf h (g + 266) 63 (g + 304)) : isR h (g + 266) 63), (Mod_113 hs.2.1 : arL h (g + 304)), (Mod_114 hs.2.1 : aln h (g + 304) = 640), (rf_g (Mod_115 hs.2.1 : rf h (g + 266) 64 (g + 305)) : gR h (g + 266) 64 = (g + 305)), (rf_is (Mod_115 hs.2.1 : rf h (g + 266) 64 (g + 305)) : isR h (g + 266) 64), (Mod_116 hs.2.1 : arD h (g + 305)), (Mod_117 hs.2.1 : aln h (g + 305) = 640), nI_1, ob_pI, rf_pI, isR_pI, isI_pI, isL_pI, arI_pI, arL_pI, arR_pI, arD_pI, aln_pI, rdI_pI, rdB_pI, rdR_pI, aR_pI, pI_2, gI_pI, gL_pI, gD_pI, gR_pI, aI_pI, aL_pI, aD_pI, ob_pL, rf_pL, isR_pL, isI_pL, isL_pL, arI_pL, arL_pL, arR_pL, arD_pL, aln_pL, rdI_pL, rdB_pL, rdR_pL, aR_pL, pL_2, gI_pL, gL_pL, gD_pL, gR_pL, aI_pL, aL_pL, aD_pL, ob_pD, rf_pD, isR_pD, isI_pD, isL_pD, arI_pD, arL_pD, arR_pD, arD_pD, aln_pD, rdI_pD, rdB_pD, rdR_pD, aR_pD, pD_2, gI_pD, gL_pD, gD_pD, gR_pD, aI_pD, aL_pD, aD_pD, ob_wI, rf_wI, isR_wI, isI_wI, isL_wI, arI_wI, arL_wI, arR_wI, arD_wI, aln_wI, rdI_wI, rdB_wI, rdR_wI, aR_wI, wI_2, gI_wI, gL_wI, gD_wI, gR_wI, aL_wI, aD_wI, aI_wI_ne, ob_wL, rf_wL, isR_wL, isI_wL, isL_wL, arI_wL, arL_wL, arR_wL, arD_wL, aln_wL, rdI_wL, rdB_wL, rdR_wL, aR_wL, wL_2, gI_wL, gL_wL, gD_wL, gR_wL, aI_wL, aD_wL, aL_wL_ne, ob_wD, rf_wD, isR_wD, isI_wD, isL_wD, arI_wD, arL_wD, arR_wD, arD_wD, aln_wD, rdI_wD, rdB_wD, rdR_wD, aR_wD, wD_2, gI_wD, gL_wD, gD_wD, gR_wD, aI_wD, aL_wD, aD_wD_ne, ob_bI, rf_bI, isR_bI, isI_bI, isL_bI, arI_bI, arL_bI, arR_bI, arD_bI, aln_bI, rdI_bI, rdB_bI, rdR_bI, aR_bI, bI_2, gI_bI, gL_bI, gD_bI, gR_bI, aL_bI, aD_bI, aI_bI_ne, ob_bL, rf_bL, isR_bL, isI_bL, isL_bL, arI_bL, arL_bL, arR_bL, arD_bL, aln_bL, rdI_bL, rdB_bL, rdR_bL, aR_bL, bL_2, gI_bL, gL_bL, gD_bL, gR_bL, aI_bL, aD_bL, aL_bL_ne, gI_pI, gL_pL, gD_pD, isI_pI, isL_pI, isD_pI, isI_pL, isL_pL, isD_pL, isI_pD, isL_pD, isD_pD, vkk_n, vkk_i, vkk_r, vkk_l, vkk_d, catS_nil, catS_i, catS_r, catS_l, catS_d, Nat.reduceAdd, Nat.reduceLeDiff, Nat.zero_le, Nat.le_refl, Option.bind_some, Option.toList_some, Option.toList_none, List.cons_append, List.nil_append, or_true, true_or, if_true, if_false, Int32.reduceLT, Int32.reduceLE, not_true, not_false_iff, true_and, and_true, false_and, and_false, Nat.add_assoc, Nat.reduceAdd, Nat.add_left_cancel_iff, Nat.reduceEqDiff, Nat.add_eq_left, Nat.left_eq_add]
      exact u1
    · by_cases ik : i = k
      · subst ik
        have a := u4 (i) (by omega)
        rw [a.1, a.2.1, a.2.2]
        exact y2
      · exact u3 i (by omega) i2
    · have a := u4 j (by omega)
      rw [a.1, a.2.1, a.2.2]
      exact y1 j (by omega)
