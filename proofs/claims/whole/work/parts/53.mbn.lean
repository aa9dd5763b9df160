/-! bin -/
theorem c_begin (h : VG) (B : Nat) (s n : Int32) (c : Int32) (hc : c = if s ≤ 7 then s else -2) (hB : ShBin h B) : ∃ h1, ev 3 0 [some (.ref B), some (.int s), some (.int n)] [] h = some (none, h1) ∧ Fr (fun a => a = B + 1 ∨ a = B + 2) (fun a k => a = B ∧ (k = 0 ∨ k = 1)) h h1 ∧ gI h1 B 0 = s ∧ gI h1 B 1 = n ∧ ∀ j, j < 40 → aI h1 (B + 1) j = c ∧ aL h1 (B + 2) j = 0 := by
  have oB : ob h B 1 := Bin_0 hB
  have a1 : arI (pI (pI h B 0 s) B 1 n) (B + 1) 0 := by simp only [arI_pI]; exact Bin_3 hB
  have n1 : aln (pI (pI h B 0 s) B 1 n) (B + 1) = 40 := by simp only [aln_pI]; exact Bin_4 hB
  have f1 := c_fillI (pI (pI h B 0 s) B 1 n) (B + 1) c 40 (by decide) a1 n1
  have x1 : Fr (fun a => a = B + 1 ∨ a = B + 2) (fun a k => a = B ∧ (k = 0 ∨ k = 1)) h (pI (pI h B 0 s) B 1 n) := (Fr_pI _ _ _ _ ⟨rfl, Or.inl rfl⟩).tr (Fr_pI _ _ _ _ ⟨rfl, Or.inr rfl⟩)
  have e0 : gI (pI (pI h B 0 s) B 1 n) B 0 = s := by simp +decide only [gI_pI, isI_pI, (eq_true (isI_ob oB rfl : isI h B 0)), true_and, and_true, false_and, and_false, if_true, if_false]
  have e1 : gI (pI (pI h B 0 s) B 1 n) B 1 = n := by simp +decide only [gI_pI, isI_pI, (eq_true (isI_ob oB rfl : isI h B 1)), true_and, and_true, if_true]
  have s1 : ShBin (pI (pI h B 0 s) B 1 n) B := (ShBin_kp x1.1 B).mpr hB
  have x2 : Fr (fun a => a = B + 1 ∨ a = B + 2) (fun a k => a = B ∧ (k = 0 ∨ k = 1)) (pI (pI h B 0 s) B 1 n) (bI (pI (pI h B 0 s) B 1 n) (B + 1) (fun j => if j < 40 then c else aI (pI (pI h B 0 s) B 1 n) (B + 1) j)) := Fr_bI _ _ _ (Or.inl rfl)
  have c1 : ∀ j, j < 40 → aI (bI (pI (pI h B 0 s) B 1 n) (B + 1) (fun j => if j < 40 then c else aI (pI (pI h B 0 s) B 1 n) (B + 1) j)) (B + 1) j = c := by
    intro j hj
    rw [aI_bI _ _ _ _ a1, if_pos hj]
  generalize hH : bI (pI (pI h B 0 s) B 1 n) (B + 1) (fun j => if j < 40 then c else aI (pI (pI h B 0 s) B 1 n) (B + 1) j) = H at f1 x2 c1
  have s2 : ShBin H B := (ShBin_kp x2.1 B).mpr s1
  have a2 : arL H (B + 2) := Bin_5 s2
  have f2 := c_fillJ H (B + 2) 0 40 (by decide) a2 (Bin_6 s2)
  have x3 : Fr (fun a => a = B + 1 ∨ a = B + 2) (fun a k => a = B ∧ (k = 0 ∨ k = 1)) H (bL H (B + 2) (fun j => if j < 40 then 0 else aL H (B + 2) j)) := Fr_bL _ _ _ (Or.inr rfl)
  refine ⟨bL H (B + 2) (fun j => if j < 40 then 0 else aL H (B + 2) j), ?_, (x1.tr x2).tr x3, ?_, ?_, fun j hj => ⟨?_, ?_⟩⟩
  · have o2 : ob H B 1 := Bin_0 s2
    by_cases q : s ≤ 7
    · rw [if_pos q] at hc
      subst hc
      simp +decide only [e3_0, e3_1, e3_2, e3_5, e3_6, e3_7, e3_10, e3_11, e3_14, e3_15, e3_17, e3_20, e3_21, e3_24, e3_26, e3_29, e3_30, e3_33, e3_34, e3_37, q, f1, f2, o2, (Bin_0 hB : ob h B 1), (eq_true (isI_ob (Bin_0 hB : ob h B 1) rfl : isI h B 0)), (eq_true (isI_ob (Bin_0 hB : ob h B 1) rfl : isI h B 1)), (rf_g (Bin_1 hB : rf h B 2 (B + 1)) : gR h B 2 = (B + 1)), (rf_is (Bin_1 hB : rf h B 2 (B + 1)) : isR h B 2), (rf_g (Bin_2 hB : rf h B 3 (B + 2)) : gR h B 3 = (B + 2)), (rf_is (Bin_2 hB : rf h B 3 (B + 2)) : isR h B 3), (Bin_3 hB : arI h (B + 1) 0), (rdI_0 (Bin_3 hB : arI h (B + 1) 0) : rdI h (B + 1)), (Bin_4 hB : aln h (B + 1) = 40), (Bin_5 hB : arL h (B + 2)), (Bin_6 hB : aln h (B + 2) = 40), (Bin_0 s2 : ob H B 1), (eq_true (isI_ob (Bin_0 s2 : ob H B 1) rfl : isI H B 0)), (eq_true (isI_ob (Bin_0 s2 : ob H B 1) rfl : isI H B 1)), (rf_g (Bin_1 s2 : rf H B 2 (B + 1)) : gR H B 2 = (B + 1)), (rf_is (Bin_1 s2 : rf H B 2 (B + 1)) : isR H B 2), (rf_g (Bin_2 s2 : rf H B 3 (B + 2)) : gR H B 3 = (B + 2)), (rf_is (Bin_2 s2 : rf H B 3 (B + 2)) : isR H B 3), (Bin_3 s2 : arI H (B + 1) 0), (rdI_0 (Bin_3 s2 : arI H (B + 1) 0) : rdI H (B + 1)), (Bin_4 s2 : aln H (B + 1) = 40), (Bin_5 s2 : arL H (B + 2)), (Bin_6 s2 : aln H (B + 2) = 40), ob_pI, rf_pI, isR_pI, isI_pI, isL_pI, arI_pI, arL_pI, arR_pI, arD_pI, aln_pI, rdI_pI, rdB_pI, rdR_pI, aR_pI, pI_2, gI_pI, gL_pI, gD_pI, gR_pI, aI_pI, aL_pI, aD_pI, ob_pL, rf_pL, isR_pL, isI_pL, isL_pL, arI_pL, arL_pL, arR_pL, arD_pL, aln_pL, rdI_pL, rdB_pL, rdR_pL, aR_pL, pL_2, gI_pL, gL_pL, gD_pL, gR_pL, aI_pL, aL_pL, aD_pL, ob_wI, rf_wI, isR_wI, isI_wI, isL_wI, arI_wI, arL_wI, arR_wI, arD_wI, aln_wI, rdI_wI, rdB_wI, rdR_wI, aR_wI, wI_2, gI_wI, gL_wI, gD_wI, gR_wI, aL_wI, aD_wI, aI_wI_ne, ob_wL, rf_wL, isR_wL, isI_wL, isL_wL, arI_wL, arL_wL, arR_wL, arD_wL, aln_wL, rdI_wL, rdB_wL, rdR_wL, aR_wL, wL_2, gI_wL, gL_wL, gD_wL, gR_wL, aI_wL, aD_wL, aL_wL_ne, ob_bI, rf_bI, isR_bI, isI_bI, isL_bI, arI_bI, arL_bI, arR_bI, arD_bI, aln_bI, rdI_bI, rdB_bI, rdR_bI, aR_bI, bI_2, gI_bI, gL_bI, gD_bI, gR_bI, aL_bI, aD_bI, aI_bI_ne, ob_bL, rf_bL, isR_bL, isI_bL, isL_bL, arI_bL, arL_bL, arR_bL, arD_bL, aln_bL, rdI_bL, rdB_bL, rdR_bL, aR_bL, bL_2, gI_bL, gL_bL, gD_bL, gR_bL, aI_bL, aD_bL, aL_bL_ne, vkk_n, vkk_i, vkk_r, vkk_l, vkk_d, catS_nil, catS_i, catS_r, catS_l, catS_d, Nat.reduceAdd, Nat.reduceLeDiff, Nat.zero_le, Nat.le_refl, Option.bind_some, Option.toList_some, Option.toList_none, List.cons_append, List.nil_append, or_true, true_or, if_true, if_false, Int32.reduceLT, Int32.reduceLE, not_true, not_false_iff, true_and, and_true, false_and, and_false]
    · rw [if_neg q] at hc
      subst hc
      simp +decide only [e3_0, e3_1, e3_2, e3_5, e3_6, e3_7, e3_10, e3_11, e3_14, e3_15, e3_17, e3_20, e3_21, e3_24, e3_26, e3_29, e3_30, e3_33, e3_34, e3_37, q, f1, f2, o2, (Bin_0 hB : ob h B 1), (eq_true (isI_ob (Bin_0 hB : ob h B 1) rfl : isI h B 0)), (eq_true (isI_ob (Bin_0 hB : ob h B 1) rfl : isI h B 1)), (rf_g (Bin_1 hB : rf h B 2 (B + 1)) : gR h B 2 = (B + 1)), (rf_is (Bin_1 hB : rf h B 2 (B + 1)) : isR h B 2), (rf_g (Bin_2 hB : rf h B 3 (B + 2)) : gR h B 3 = (B + 2)), (rf_is (Bin_2 hB : rf h B 3 (B + 2)) : isR h B 3), (Bin_3 hB : arI h (B + 1) 0), (rdI_0 (Bin_3 hB : arI h (B + 1) 0) : rdI h (B + 1)), (Bin_4 hB : aln h (B + 1) = 40), (Bin_5 hB : arL h (B + 2)), (Bin_6 hB : aln h (B + 2) = 40), (Bin_0 s2 : ob H B 1), (eq_true (isI_ob (Bin_0 s2 : ob H B 1) rfl : isI H B 0)), (eq_true (isI_ob (Bin_0 s2 : ob H B 1) rfl : isI H B 1)), (rf_g (Bin_1 s2 : rf H B 2 (B + 1)) : gR H B 2 = (B + 1)), (rf_is (Bin_1 s2 : rf H B 2 (B + 1)) : isR H B 2), (rf_g (Bin_2 s2 : rf H B 3 (B + 2)) : gR H B 3 = (B + 2)), (rf_is (Bin_2 s2 : rf H B 3 (B + 2)) : isR H B 3), (Bin_3 s2 : arI H (B + 1) 0), (rdI_0 (Bin_3 s2 : arI H (B + 1) 0) : rdI H (B + 1)), (Bin_4 s2 : aln H (B + 1) = 40), (Bin_5 s2 : arL H (B + 2)), (Bin_6 s2 : aln H (B + 2) = 40), ob_pI, rf_pI, isR_pI, isI_pI, isL_pI, arI_pI, arL_pI, arR_pI, arD_pI, aln_pI, rdI_pI, rdB_pI, rdR_pI, aR_pI, pI_2, gI_pI, gL_pI, gD_pI, gR_pI, aI_pI, aL_pI, aD_pI, ob_pL, rf_pL, isR_pL, isI_pL, isL_pL, arI_pL, arL_pL, arR_pL, arD_pL, aln_pL, rdI_pL, rdB_pL, rdR_pL, aR_pL, pL_2, gI_pL, gL_pL, gD_pL, gR_pL, aI_pL, aL_pL, aD_pL, ob_wI, rf_wI, isR_wI, isI_wI, isL_wI, arI_wI, arL_wI, arR_wI, arD_wI, aln_wI, rdI_wI, rdB_wI, rdR_wI, aR_wI, wI_2, gI_wI, gL_wI, gD_wI, gR_wI, aL_wI, aD_wI, aI_wI_ne, ob_wL, rf_wL, isR_wL, isI_wL, isL_wL, arI_wL, arL_wL, arR_wL, arD_wL, aln_wL, rdI_wL, rdB_wL, rdR_wL, aR_wL, wL_2, gI_wL, gL_wL, gD_wL, gR_wL, aI_wL, aD_wL, aL_wL_ne, ob_bI, rf_bI, isR_bI, isI_bI, isL_bI, arI_bI, arL_bI, arR_bI, arD_bI, aln_bI, rdI_bI, rdB_bI, rdR_bI, aR_bI, bI_2, gI_bI, gL_bI, gD_bI, gR_bI, aL_bI, aD_bI, aI_bI_ne, ob_bL, rf_bL, isR_bL, isI_bL, isL_bL, arI_bL, arL_bL, arR_bL, arD_bL, aln_bL, rdI_bL, rdB_bL, rdR_bL, aR_bL, bL_2, gI_bL, gL_bL, gD_bL, gR_bL, aI_bL, aD_bL, aL_bL_ne, vkk_n, vkk_i, vkk_r, vkk_l, vkk_d, catS_nil, catS_i, catS_r, catS_l, catS_d, Nat.reduceAdd, Nat.reduceLeDiff, Nat.zero_le, Nat.le_refl, Option.bind_some, Option.toList_some, Option.toList_none, List.cons_append, List.nil_append, or_true, true_or, if_true, if_false, Int32.reduceLT, Int32.reduceLE, not_true, not_false_iff, true_and, and_true, false_and, and_false]
  · rw [gI_bL, ← hH, gI_bI, e0]
  · rw [gI_bL, ← hH, gI_bI, e1]
  · rw [aI_bL]
    exact c1 j hj
  · rw [aL_bL _ _ _ _ a2, if_pos hj]
theorem l_mbin (g b s n : Nat) (l3 : Int32) (c : Int32) (hb : b < 8) (hn : n ≤ 40) (hs0 : s < 12) (hc : c = if s < 8 then nI s else -2) : ∀ (d k : Nat) (h : VG), k + d = 40 * b + n → 40 * b ≤ k → Sh h g → aI h (g + 286) b = nI n → ∃ h1, ev 183 65 [some (.ref (g + 266)), some (.int (nI b)), some (.int (nI s)), some (.int l3), some (.int (nI k))] [] h = some (some (.int 1), h1) ∧ Fr (LR g) NF h h1 ∧ (∀ j, k ≤ j → j < 40 * b + n → aI h1 (g + 287) j = c ∧ aL h1 (g + 288) j = 0 ∧ aD h1 (g + 289) j = 0) ∧ ∀ j, ¬ (k ≤ j ∧ j < 40 * b + n) → aI h1 (g + 287) j = aI h (g + 287) j ∧ aL h1 (g + 288) j = aL h (g + 288) j ∧ aD h1 (g + 289) j = aD h (g + 289) j := by
  have hv : vp_in (nI b) 8 := vp_in_nI hb (by decide)
  have hcl : (nI b).toNatClampNeg = b := nI_clamp (by omega)
  have m40 : (40 : Int32) * nI b = nI (40 * b) := by rw [show (40 : Int32) = nI 40 from rfl, pk_mul]
  have z0 : FP.dconst0 = 0 := rfl
  intro d
  induction d with
  | zero =>
    intro k h hk hk2 hs en
    have q : ¬ nI k < nI (40 * b + n) := by rw [nI_ltI (by omega) (by omega)]; omega
    refine ⟨h, ?_, Fr.rfl _, fun j h1 h2 => by omega, fun j _ => ⟨rfl, rfl, rfl⟩⟩
    simp +decide only [e183_65, e183_67, e183_69, e183_70, e183_71, e183_72, e183_75, e183_76, e183_77, e183_78, e183_122, e183_123, hv, hcl, m40, en, nI_add, q, (Mod_0 hs.2.1 : ob h (g + 266) 11), (rf_g (Mod_55 hs.2.1 : rf h (g + 266) 42 (g + 285)) : gR h (g + 266) 42 = (g + 285)), (rf_is (Mod_55 hs.2.1 : rf h (g + 266) 42 (g + 285)) : isR h (g + 266) 42), (Mod_56 hs.2.1 : arI h (g + 285) 0), (rdI_0 (Mod_56 hs.2.1 : arI h (g + 285) 0) : rdI h (g + 285)), (Mod_57 hs.2.1 : aln h (g + 285) = 8), (rf_g (Mod_58 hs.2.1 : rf h (g + 266) 43 (g + 286)) : gR h (g + 266) 43 = (g + 286)), (rf_is (Mod_58 hs.2.1 : rf h (g + 266) 43 (g + 286)) : isR h (g + 266) 43), (Mod_59 hs.2.1 : arI h (g + 286) 0), (rdI_0 (Mod_59 hs.2.1 : arI h (g + 286) 0) : rdI h (g + 286)), (Mod_60 hs.2.1 : aln h (g + 286) = 8), (rf_g (Mod_61 hs.2.1 : rf h (g + 266) 44 (g + 287)) : gR h (g + 266) 44 = (g + 287)), (rf_is (Mod_61 hs.2.1 : rf h (g + 266) 44 (g + 287)) : isR h (g + 266) 44), (Mod_62 hs.2.1 : arI h (g + 287) 0), (rdI_0 (Mod_62 hs.2.1 : arI h (g + 287) 0) : rdI h (g + 287)), (Mod_63 hs.2.1 : aln h (g + 287) = 320), (rf_g (Mod_64 hs.2.1 : rf h (g + 266) 45 (g + 288)) : gR h (g + 266) 45 = (g + 288)), (rf_is (Mod_64 hs.2.1 : rf h (g + 266) 45 (g + 288)) : isR h (g + 266) 45), (Mod_65 hs.2.1 : arL h (g + 288)), (Mod_66 hs.2.1 : aln h (g + 288) = 320), (rf_g (Mod_67 hs.2.1 : rf h (g + 266) 46 (g + 289)) : gR h (g + 266) 46 = (g + 289)), (rf_is (Mod_67 hs.2.1 : rf h (g + 266) 46 (g + 289)) : isR h (g + 266) 46), (Mod_68 hs.2.1 : arD h (g + 289)), (Mod_69 hs.2.1 : aln h (g + 289) = 320), vkk_n, vkk_i, vkk_r, vkk_l, vkk_d, catS_nil, catS_i, catS_r, catS_l, catS_d, Nat.reduceAdd, Nat.reduceLeDiff, Nat.zero_le, Nat.le_refl, Option.bind_some, Option.toList_some, Option.toList_none, List.cons_append, List.nil_append, or_true, true_or, if_true, if_false, Int32.reduceLT, Int32.reduceLE, not_true, not_false_iff, true_and, and_true, false_and, and_false, Nat.add_assoc, Nat.reduceAdd, Nat.add_left_cancel_iff, Nat.reduceEqDiff, Nat.add_eq_left, Nat.left_eq_add]
  | succ d ih =>
    intro k h hk hk2 hs en
    have q : nI k < nI (40 * b + n) := nI_lt (by omega) (by omega)
    have hvk : vp_in (nI k) 320 := vp_in_nI (by omega) (by decide)
    have hck : (nI k).toNatClampNeg = k := nI_clamp (by omega)
    have t1 : arI h (g + 287) 0 := Mod_62 hs.2.1
    have t2 : arL h (g + 288) := Mod_65 hs.2.1
    have t3 : arD h (g + 289) := Mod_68 hs.2.1
    have x1 : Fr (LR g) NF h (wD (wL (wI h (g + 287) k c) (g + 288) k 0) (g + 289) k 0) := ((Fr_wI _ _ _ _ (Or.inl rfl)).tr (Fr_wL _ _ _ _ (Or.inr (Or.inl rfl)))).tr (Fr_wD _ _ _ _ (Or.inr (Or.inr rfl)))
    have y1 : ∀ j, ¬ j = k → aI (wD (wL (wI h (g + 287) k c) (g + 288) k 0) (g + 289) k 0) (g + 287) j = aI h (g + 287) j ∧ aL (wD (wL (wI h (g + 287) k c) (g + 288) k 0) (g + 289) k 0) (g + 288) j = aL h (g + 288) j ∧ aD (wD (wL (wI h (g + 287) k c) (g + 288) k 0) (g + 289) k 0) (g + 289) j = aD h (g + 289) j := by
      intro j hj
      refine ⟨?_, ?_, ?_⟩
      · rw [aI_wD, aI_wL, aI_wI_j _ _ _ _ _ _ hj]
      · rw [aL_wD, aL_wL_j _ _ _ _ _ _ hj, aL_wI]
      · rw [aD_wD_j _ _ _ _ _ _ hj, aD_wL, aD_wI]
    have y2 : aI (wD (wL (wI h (g + 287) k c) (g + 288) k 0) (g + 289) k 0) (g + 287) k = c ∧ aL (wD (wL (wI h (g + 287) k c) (g + 288) k 0) (g + 289) k 0) (g + 288) k = 0 ∧ aD (wD (wL (wI h (g + 287) k c) (g + 288) k 0) (g + 289) k 0) (g + 289) k = 0 := by
      refine ⟨?_, ?_, ?_⟩
      · rw [aI_wD, aI_wL, aI_wI _ _ _ _ _ _ t1, if_pos ⟨rfl, rfl⟩]
      · rw [aL_wD, aL_wL _ _ _ _ _ _ ((arL_wI ..).mpr t2), if_pos ⟨rfl, rfl⟩]
      · rw [aD_wD _ _ _ _ _ _ ((arD_wL ..).mpr ((arD_wI ..).mpr t3)), if_pos ⟨rfl, rfl⟩]
    have s1 : Sh (wD (wL (wI h (g + 287) k c) (g + 288) k 0) (g + 289) k 0) g := Sh_fr x1 (fun a z => by unfold LR at z; omega) hs
    obtain ⟨h1, u1, u2, u3, u4⟩ := ih (k + 1) _ (by omega) (by omega) s1 ((x1.I (fun z => by unfold LR at z; omega) _).trans en)
    refine ⟨h1, ?_, x1.tr u2, fun j j1 j2 => ?_, fun j hj => ?_⟩
    · simp +decide only [e183_65, e183_67, e183_69, e183_70, e183_71, e183_72, e183_75, e183_76, e183_77, e183_78, (Mod_0 hs.2.1 : ob h (g + 266) 11), (rf_g (Mod_55 hs.2.1 : rf h (g + 266) 42 (g + 285)) : gR h (g + 266) 42 = (g + 285)), (rf_is (Mod_55 hs.2.1 : rf h (g + 266) 42 (g + 285)) : isR h (g + 266) 42), (Mod_56 hs.2.1 : arI h (g + 285) 0), (rdI_0 (Mod_56 hs.2.1 : arI h (g + 285) 0) : rdI h (g + 285)), (Mod_57 hs.2.1 : aln h (g + 285) = 8), (rf_g (Mod_58 hs.2.1 : rf h (g + 266) 43 (g + 286)) : gR h (g + 266) 43 = (g + 286)), (rf_is (Mod_58 hs.2.1 : rf h (g + 266) 43 (g + 286)) : isR h (g + 266) 43), (Mod_59 hs.2.1 : arI h (g + 286) 0), (rdI_0 (Mod_59 hs.2.1 : arI h (g + 286) 0) : rdI h (g + 286)), (Mod_60 hs.2.1 : aln h (g + 286) = 8), (rf_g (Mod_61 hs.2.1 : rf h (g + 266) 44 (g + 287)) : gR h (g + 266) 44 = (g + 287)), (rf_is (Mod_61 hs.2.1 : rf h (g + 266) 44 (g + 287)) : isR h (g + 266) 44), (Mod_62 hs.2.1 : arI h (g + 287) 0), (rdI_0 (Mod_62 hs.2.1 : arI h (g + 287) 0) : rdI h (g + 287)), (Mod_63 hs.2.1 : aln h (g + 287) = 320), (rf_g (Mod_64 hs.2.1 : rf h (g + 266) 45 (g + 288)) : gR h (g + 266) 45 = (g + 288)), (rf_is (Mod_64 hs.2.1 : rf h (g + 266) 45 (g + 288)) : isR h (g + 266) 45), (Mod_65 hs.2.1 : arL h (g + 288)), (Mod_66 hs.2.1 : aln h (g + 288) = 320), (rf_g (Mod_67 hs.2.1 : rf h (g + 266) 46 (g + 289)) : gR h (g + 266) 46 = (g + 289)), (rf_is (Mod_67 hs.2.1 : rf h (g + 266) 46 (g + 289)) : isR h (g + 266) 46), (Mod_68 hs.2.1 : arD h (g + 289)), (Mod_69 hs.2.1 : aln h (g + 289) = 320), hv, hcl, m40, en, nI_add, q, vkk_n, vkk_i, vkk_r, vkk_l, vkk_d, catS_nil, catS_i, catS_r, catS_l, catS_d, Nat.reduceAdd, Nat.reduceLeDiff, Nat.zero_le, Nat.le_refl, Option.bind_some, Option.toList_some, Option.toList_none, List.cons_append, List.nil_append, or_true, true_or, if_true, if_false, Int32.reduceLT, Int32.reduceLE, not_true, not_false_iff, true_and, and_true, false_and, and_false, Nat.add_assoc, Nat.reduceAdd, Nat.add_left_cancel_iff, Nat.reduceEqDiff, Nat.add_eq_left, Nat.left_eq_add]
      by_cases s8 : s < 8
      · have a4 : nI s < 8 := nI_lt (b := 8) s8 (by decide)
        rw [if_pos s8] at hc
        subst hc
        simp +decide only [e183_81, e183_82, e183_85, e183_87, e183_88, e183_90, e183_93, e183_94, e183_97, e183_99, e183_100, e183_101, e183_104, e183_106, e183_107, e183_108, e183_109, e183_112, e183_114, e183_115, e183_116, e183_119, (Mod_0 hs.2.1 : ob h (g + 266) 11), (rf_g (Mod_55 hs.2.1 : rf h (g + 266) 42 (g + 285)) : gR h (g + 266) 42 = (g + 285)), (rf_is (Mod_55 hs.2.1 : rf h (g + 266) 42 (g + 285)) : isR h (g + 266) 42), (Mod_56 hs.2.1 : arI h (g + 285) 0), (rdI_0 (Mod_56 hs.2.1 : arI h (g + 285) 0) : rdI h (g + 285)), (Mod_57 hs.2.1 : aln h (g + 285) = 8), (rf_g (Mod_58 hs.2.1 : rf h (g + 266) 43 (g + 286)) : gR h (g + 266) 43 = (g + 286)), (rf_is (Mod_58 hs.2.1 : rf h (g + 266) 43 (g + 286)) : isR h (g + 266) 43), (Mod_59 hs.2.1 : arI h (g + 286) 0), (rdI_0 (Mod_59 hs.2.1 : arI h (g + 286) 0) : rdI h (g + 286)), (Mod_60 hs.2.1 : aln h (g + 286) = 8), (rf_g (Mod_61 hs.2.1 : rf h (g + 266) 44 (g + 287)) : gR h (g + 266) 44 = (g + 287)), (rf_is (Mod_61 hs.2.1 : rf h (g + 266) 44 (g + 287)) : isR h (g + 266) 44), (Mod_62 hs.2.1 : arI h (g + 287) 0), (rdI_0 (Mod_62 hs.2.1 : arI h (g + 287) 0) : rdI h (g + 287)), (Mod_63 hs.2.1 : aln h (g + 287) = 320), (rf_g (Mod_64 hs.2.1 : rf h (g + 266) 45 (g + 288)) : gR h (g + 266) 45 = (g + 288)), (rf_is (Mod_64 hs.2.1 : rf h (g + 266) 45 (g + 288)) : isR h (g + 266) 45), (Mod_65 hs.2.1 : arL h (g + 288)), (Mod_66 hs.2.1 : aln h (g + 288) = 320), (rf_g (Mod_67 hs.2.1 : rf h (g + 266) 46 (g + 289)) : gR h (g + 266) 46 = (g + 289)), (rf_is (Mod_67 hs.2.1 : rf h (g + 266) 46 (g + 289)) : isR h (g + 266) 46), (Mod_68 hs.2.1 : arD h (g + 289)), (Mod_69 hs.2.1 : aln h (g + 289) = 320), a4, hvk, hck, z0, nI_1, ob_pI, rf_pI, isR_pI, isI_pI, isL_pI, arI_pI, arL_pI, arR_pI, arD_pI, aln_pI, rdI_pI, rdB_pI, rdR_pI, aR_pI, pI_2, gI_pI, gL_pI, gD_pI, gR_pI, aI_pI, aL_pI, aD_pI, ob_pL, rf_pL, isR_pL, isI_pL, isL_pL, arI_pL, arL_pL, arR_pL, arD_pL, aln_pL, rdI_pL, rdB_pL, rdR_pL, aR_pL, pL_2, gI_pL, gL_pL, gD_pL, gR_pL, aI_pL, aL_pL, aD_pL, ob_pD, rf_pD, isR_pD, isI_pD, isL_pD, arI_pD, arL_pD, arR_pD, arD_pD, aln_pD, rdI_pD, rdB_pD, rdR_pD, aR_pD, pD_2, gI_pD, gL_pD, gD_pD, gR_pD, aI_pD, aL_pD, aD_pD, ob_wI, rf_wI, isR_wI, isI_wI, isL_wI, arI_wI, arL_wI, arR_wI, arD_wI, aln_wI, rdI_wI, rdB_wI, rdR_wI, aR_wI, wI_2, gI_wI, gL_wI, gD_wI, gR_wI, aL_wI, aD_wI, aI_wI_ne, ob_wL, rf_wL, isR_wL, isI_wL, isL_wL, arI_wL, arL_wL, arR_wL, arD_wL, aln_wL, rdI_wL, rdB_wL, rdR_wL, aR_wL, wL_2, gI_wL, gL_wL, gD_wL, gR_wL, aI_wL, aD_wL, aL_wL_ne, ob_wD, rf_wD, isR_wD, isI_wD, isL_wD, arI_wD, arL_wD, arR_wD, arD_wD, aln_wD, rdI_wD, rdB_wD, rdR_wD, aR_wD, wD_2, gI_wD, gL_wD, gD_wD, gR_wD, aI_wD, aL_wD, aD_wD_ne, ob_bI, rf_bI, isR_bI, isI_bI, isL_bI, arI_bI, arL_bI, arR_bI, arD_bI, aln_bI, rdI_bI, rdB_bI, rdR_bI, aR_bI, bI_2, gI_bI, gL_bI, gD_bI, gR_bI, aL_bI, aD_bI, aI_bI_ne, ob_bL, rf_bL, isR_bL, isI_bL, isL_bL, arI_bL, arL_bL, arR_bL, arD_bL, aln_bL, rdI_bL, rdB_bL, rdR_bL, aR_bL, bL_2, gI_bL, gL_bL, gD_bL, gR_bL, aI_bL, aD_bL, aL_bL_ne, gI_pI, gL_pL, gD_pD, isI_pI, isL_pI, isD_pI, isI_pL, isL_pL, isD_pL, isI_pD, isL_pD, isD_pD, vkk_n, vkk_i, vkk_r, vkk_l, vkk_d, catS_nil, catS_i, catS_r, catS_l, catS_d, Nat.reduceAdd, Nat.reduceLeDiff, Nat.zero_le, Nat.le_refl, Option.bind_some, Option.toList_some, Option.toList_none, List.cons_append, List.nil_append, or_true, true_or, if_true, if_false, Int32.reduceLT, Int32.reduceLE, not_true, not_false_iff, true_and, and_true, false_and, and_false, Nat.add_assoc, Nat.reduceAdd, Nat.add_left_cancel_iff, Nat.reduceEqDiff, Nat.add_eq_left, Nat.left_eq_add]
        exact u1
      · have a4 : ¬ nI s < 8 := nI_nlt (b := 8) (by omega) (by omega)
        rw [if_neg s8] at hc
        subst hc
        simp +decide only [e183_81, e183_82, e183_85, e183_87, e183_88, e183_90, e183_93, e183_94, e183_97, e183_99, e183_100, e183_101, e183_104, e183_106, e183_107, e183_108, e183_109, e183_112, e183_114, e183_115, e183_116, e183_119, (Mod_0 hs.2.1 : ob h (g + 266) 11), (rf_g (Mod_55 hs.2.1 : rf h (g + 266) 42 (g + 285)) : gR h (g + 266) 42 = (g + 285)), (rf_is (Mod_55 hs.2.1 : rf h (g + 266) 42 (g + 285)) : isR h (g + 266) 42), (Mod_56 hs.2.1 : arI h (g + 285) 0), (rdI_0 (Mod_56 hs.2.1 : arI h (g + 285) 0) : rdI h (g + 285)), (Mod_57 hs.2.1 : aln h (g + 285) = 8), (rf_g (Mod_58 hs.2.1 : rf h (g + 266) 43 (g + 286)) : gR h (g + 266) 43 = (g + 286)), (rf_is (Mod_58 hs.2.1 : rf h (g + 266) 43 (g + 286)) : isR h (g + 266) 43), (Mod_59 hs.2.1 : arI h (g + 286) 0), (rdI_0 (Mod_59 hs.2.1 : arI h (g + 286) 0) : rdI h (g + 286)), (Mod_60 hs.2.1 : aln h (g + 286) = 8), (rf_g (Mod_61 hs.2.1 : rf h (g + 266) 44 (g + 287)) : gR h (g + 266) 44 = (g + 287)), (rf_is (Mod_61 hs.2.1 : rf h (g + 266) 44 (g + 287)) : isR h (g + 266) 44), (Mod_62 hs.2.1 : arI h (g + 287) 0), (rdI_0 (Mod_62 hs.2.1 : arI h (g + 287) 0) : rdI h (g + 287)), (Mod_63 hs.2.1 : aln h (g + 287) = 320), (rf_g (Mod_64 hs.2.1 : rf h (g + 266) 45 (g + 288)) : gR h (g + 266) 45 = (g + 288)), (rf_is (Mod_64 hs.2.1 : rf h (g + 266) 45 (g + 288)) : isR h (g + 266) 45), (Mod_65 hs.2.1 : arL h (g + 288)), (Mod_66 hs.2.1 : aln h (g + 288) = 320), (rf_g (Mod_67 hs.2.1 : rf h (g + 266) 46 (g + 289)) : gR h (g + 266) 46 = (g + 289)), (rf_is (Mod_67 hs.2.1 : rf h (g + 266) 46 (g + 289)) : isR h (g + 266) 46), (Mod_68 hs.2.1 : arD h (g + 289)), (Mod_69 hs.2.1 : aln h (g + 289) = 320), a4, hvk, hck, z0, nI_1, ob_pI, rf_pI, isR_pI, isI_pI, isL_pI, arI_pI, arL_pI, arR_pI, arD_pI, aln_pI, rdI_pI, rdB_pI, rdR_pI, aR_pI, pI_2, gI_pI, gL_pI, gD_pI, gR_pI, aI_pI, aL_pI, aD_pI, ob_pL, rf_pL, isR_pL, isI_pL, isL_pL, arI_pL, arL_pL, arR_pL, arD_pL, aln_pL, rdI_pL, rdB_pL, rdR_pL, aR_pL, pL_2, gI_pL, gL_pL, gD_pL, gR_pL, aI_pL, aL_pL, aD_pL, ob_pD, rf_pD, isR_pD, isI_pD, isL_pD, arI_pD, arL_pD, arR_pD, arD_pD, aln_pD, rdI_pD, rdB_pD, rdR_pD, aR_pD, pD_2, gI_pD, gL_pD, gD_pD, gR_pD, aI_pD, aL_pD, aD_pD, ob_wI, rf_wI, isR_wI, isI_wI, isL_wI, arI_wI, arL_wI, arR_wI, arD_wI, aln_wI, rdI_wI, rdB_wI, rdR_wI, aR_wI, wI_2, gI_wI, gL_wI, gD_wI, gR_wI, aL_wI, aD_wI, aI_wI_ne, ob_wL, rf_wL, isR_wL, isI_wL, isL_wL, arI_wL, arL_wL, arR_wL, arD_wL, aln_wL, rdI_wL, rdB_wL, rdR_wL, aR_wL, wL_2, gI_wL, gL_wL, gD_wL, gR_wL, aI_wL, aD_wL, aL_wL_ne, ob_wD, rf_wD, isR_wD, isI_wD, isL_wD, arI_wD, arL_wD, arR_wD, arD_wD, aln_wD, rdI_wD, rdB_wD, rdR_wD, aR_wD, wD_2, gI_wD, gL_wD, gD_wD, gR_wD, aI_wD, aL_wD, aD_wD_ne, ob_bI, rf_bI, isR_bI, isI_bI, isL_bI, arI_bI, arL_bI, arR_bI, arD_bI, aln_bI, rdI_bI, rdB_bI, rdR_bI, aR_bI, bI_2, gI_bI, gL_bI, gD_bI, gR_bI, aL_bI, aD_bI, aI_bI_ne, ob_bL, rf_bL, isR_bL, isI_bL, isL_bL, arI_bL, arL_bL, arR_bL, arD_bL, aln_bL, rdI_bL, rdB_bL, rdR_bL, aR_bL, bL_2, gI_bL, gL_bL, gD_bL, gR_bL, aI_bL, aD_bL, aL_bL_ne, gI_pI, gL_pL, gD_pD, isI_pI, isL_pI, isD_pI, isI_pL, isL_pL, isD_pL, isI_pD, isL_pD, isD_pD, vkk_n, vkk_i, vkk_r, vkk_l, vkk_d, catS_nil, catS_i, catS_r, catS_l, catS_d, Nat.reduceAdd, Nat.reduceLeDiff, Nat.zero_le, Nat.le_refl, Option.bind_some, Option.toList_some, Option.toList_none, List.cons_append, List.nil_append, or_true, true_or, if_true, if_false, Int32.reduceLT, Int32.reduceLE, not_true, not_false_iff, true_and, and_true, false_and, and_false, Nat.add_assoc, Nat.reduceAdd, Nat.add_left_cancel_iff, Nat.reduceEqDiff, Nat.add_eq_left, Nat.left_eq_add]
        exact u1
    · by_cases jk : j = k
      · subst jk
        have a := u4 j (by omega)
        rw [a.1, a.2.1, a.2.2]
        exact y2
      · exact u3 j (by omega) j2
    · have a := u4 j (by omega)
      rw [a.1, a.2.1, a.2.2]
      exact y1 j (by omega)
theorem RBins2_bin {h h1 m m1 : VG} {g b s n : Nat} {c : Int32} {R : Nat → Prop} (hb : b < 8) (hs : s < 12) (hn : n ≤ 40) (h10 : 10 ≤ s → n = 0) (hc : c = if s < 8 then nI s else -2) (x : Fr (fun a => a = g + (177 + 3 * b) + 1 ∨ a = g + (177 + 3 * b) + 2) (fun a k => a = g + (177 + 3 * b) ∧ (k = 0 ∨ k = 1)) h h1) (x1 : gI h1 (g + (177 + 3 * b)) 0 = nI s) (x2 : gI h1 (g + (177 + 3 * b)) 1 = nI n) (x3 : ∀ j, j < 40 → aI h1 (g + (177 + 3 * b) + 1) j = c ∧ aL h1 (g + (177 + 3 * b) + 2) j = 0) (y1 : ∀ j, aI m1 (g + 285) j = if j = b then nI s else aI m (g + 285) j) (y2 : ∀ j, aI m1 (g + 286) j = if j = b then nI n else aI m (g + 286) j) (y3 : ∀ j, 40 * b ≤ j → j < 40 * b + n → aI m1 (g + 287) j = c ∧ aL m1 (g + 288) j = 0 ∧ aD m1 (g + 289) j = 0) (y4 : ∀ j, ¬ (40 * b ≤ j ∧ j < 40 * b + n) → aI m1 (g + 287) j = aI m (g + 287) j ∧ aL m1 (g + 288) j = aL m (g + 288) j ∧ aD m1 (g + 289) j = aD m (g + 289) j) (hh : RBins2 h m g) : RBins2 h1 m1 g := by
  intro b' hb'
  by_cases q : b' = b
  · subst q
    refine ⟨s, n, hs, hn, h10, x1, ?_, x2, ?_, fun i hi => ?_⟩
    · rw [y1, if_pos (by omega)]
    · rw [y2, if_pos (by omega)]
    · have a := x3 i (by omega)
      have e := y3 (0 + 40 * b' + i) (by omega) (by omega)
      rw [a.1, a.2, e.1, e.2.1, e.2.2]
      refine ⟨?_, rfl, ?_⟩
      · refine ⟨fun z => by rw [hc, if_pos z], fun z => Or.inl (by rw [hc, if_neg (by omega)]), fun z => Or.inl (by rw [hc, if_neg (by omega)])⟩
      · by_cases s8 : s < 8
        · rw [if_pos s8] at hc
          rw [hc]
          rcases (show s < 6 ∨ s = 6 ∨ s = 7 by omega) with z | rfl | rfl
          · exact RNm_lo (Or.inl z) rfl
          · exact RNm_f ⟨by decide, by decide, by decide⟩ (by decide)
          · exact RNm_d (by unfold dOk; decide) (by decide)
        · rw [if_neg s8] at hc
          rw [hc]
          exact ⟨fun z => absurd z (by decide), fun z => absurd z (by decide), fun _ _ _ z => absurd rfl z, fun _ => rfl, fun _ => rfl⟩
  · obtain ⟨s', n', e1, e2, e3, e4, e5, e6, e7, e8⟩ := hh b' hb'
    refine ⟨s', n', e1, e2, e3, (x.gI (fun z => by omega)).trans e4, ?_, (x.gI (fun z => by omega)).trans e6, ?_, fun i hi => ?_⟩
    · rw [y1, if_neg (by omega)]
      exact e5
    · rw [y2, if_neg (by omega)]
      exact e7
    · have e := y4 (0 + 40 * b' + i) (by omega)
      rw [e.1, e.2.1, e.2.2, x.I (a := g + (177 + 3 * b') + 1) (fun z => by omega), x.L (a := g + (177 + 3 * b') + 2) (fun z => by omega)]
      exact e8 i hi
theorem bin_s {s : Int32} : (∃ j, j < 12 ∧ s = nI j) ∨ ((s < 0 ∨ (¬ s < 0 ∧ ¬ s ≤ 11)) ∧ mIn s 0 11 = 0) := by
  by_cases h0 : s < 0
  · exact Or.inr ⟨Or.inl h0, mIn_0 h0⟩
  · by_cases h1 : s ≤ 11
    · exact Or.inl (vnat (n := 12) (by decide) h0 ((nI_lti (n := 11) (by decide)).mp h1))
    · exact Or.inr ⟨Or.inr ⟨h0, h1⟩, mIn_2 h1⟩
theorem bin_n {s : Int32} : (∃ j, j < 41 ∧ s = nI j) ∨ ((s < 0 ∨ (¬ s < 0 ∧ ¬ s ≤ 40)) ∧ mIn s 0 40 = 0) := by
  by_cases h0 : s < 0
  · exact Or.inr ⟨Or.inl h0, mIn_0 h0⟩
  · by_cases h1 : s ≤ 40
    · exact Or.inl (vnat (n := 41) (by decide) h0 ((nI_lti (n := 40) (by decide)).mp h1))
    · exact Or.inr ⟨Or.inr ⟨h0, h1⟩, mIn_2 h1⟩
theorem k_bin (h : VG) (g : Nat) (R : Inv h g) (b s n : Int32) : CalI h g 110 [some (.ref g), some (.int b), some (.int s), some (.int n), none] 183 [some (.ref (g + 266)), some (.int b), some (.int s), some (.int n), none] := by
  have ho : ob h g 10 := Cls_0 R.cls
  have hm : ob h (g + 266) 11 := Mod_0 R.mod
  rcases c_bn (b := b) with ⟨b, hb, rfl⟩ | ⟨q1, q2⟩
  · have b1 := fun h => isBin_c (h := h) (c_bn1 hb).1
    have b2 := fun h => mBin_c (h := h) (c_bn1 hb).2
    rcases bin_s (s := s) with ⟨s, hs, rfl⟩ | ⟨p1, p2⟩
    · have i1 : mIn (nI s) 0 11 = 1 := by
        have : ∀ j : Fin 12, mIn (nI j.val) 0 11 = 1 := by decide
        exact this ⟨s, hs⟩
      have b3 := fun h => mIn_c (h := h) i1
      have s0 : ¬ nI s < 0 := nI_pos (by omega)
      have s11 : nI s ≤ 11 := nI_le (b := 11) (by omega) (by decide)
      have l7 : nI s ≤ 7 ↔ s < 8 := (nI_leI (b := 7) (by omega) (by decide)).trans (by omega)
      obtain ⟨hB, eR⟩ := bin_sh R.sh hb
      have hv : vp_in (nI b) 8 := vp_in_nI hb (by decide)
      have hc : (nI b).toNatClampNeg = b := nI_clamp (by omega)
      have m40 : (40 : Int32) * nI b = nI (40 * b) := by rw [show (40 : Int32) = nI 40 from rfl, pk_mul]
      have oB : ob h (g + (177 + 3 * b)) 1 := Bin_0 hB
      have main : ∀ (n' : Nat), n' ≤ 40 → (10 ≤ s → n' = 0) → (s < 10 → n = nI n') → CalI h g 110 [some (.ref g), some (.int (nI b)), some (.int (nI s)), some (.int n), none] 183 [some (.ref (g + 266)), some (.int (nI b)), some (.int (nI s)), some (.int n), none] := by
        intro n' hn' h10 hn10
        obtain ⟨h1, u1, u2, u3, u4, u5⟩ := c_begin h (g + (177 + 3 * b)) (nI s) (nI n') (if s < 8 then nI s else -2) (by
          by_cases z : s < 8
          · rw [if_pos z, if_pos (l7.mpr z)]
          · rw [if_neg z, if_neg (fun q => z (l7.mp q))]) hB
        have s1 : Sh h1 g := Sh_fr u2 (fun a z => by omega) R.sh
        have y1 : Fr (fun a => a = g + 285 ∨ a = g + 286) NF h1 (wI (wI h1 (g + 285) b (nI s)) (g + 286) b (nI n')) := (Fr_wI _ _ _ _ (Or.inl rfl)).tr (Fr_wI _ _ _ _ (Or.inr rfl))
        have s2 : Sh (wI (wI h1 (g + 285) b (nI s)) (g + 286) b (nI n')) g := Sh_fr y1 (fun a z => by omega) s1
        have w1 : ∀ j, aI (wI (wI h1 (g + 285) b (nI s)) (g + 286) b (nI n')) (g + 285) j = if j = b then nI s else aI h1 (g + 285) j := by
          intro j
          rw [aI_wI_ne _ _ _ _ _ _ (by omega), aI_wI0 _ _ _ _ _ _ (Mod_56 s1.2.1)]
          simp only [true_and]
        have w2 : ∀ j, aI (wI (wI h1 (g + 285) b (nI s)) (g + 286) b (nI n')) (g + 286) j = if j = b then nI n' else aI h1 (g + 286) j := by
          intro j
          rw [aI_wI0 _ _ _ _ _ _ ((arI_wI ..).mpr (Mod_59 s1.2.1)), aI_wI_ne _ _ _ _ _ _ (by omega)]
          simp only [true_and]
        obtain ⟨h2, v1, v2, v3, v4⟩ := l_mbin g b s n' n (if s < 8 then nI s else -2) hb hn' hs rfl n' (40 * b) _ rfl (Nat.le_refl _) s2 (by rw [w2, if_pos rfl])
        generalize hH : wI (wI h1 (g + 285) b (nI s)) (g + 286) b (nI n') = H at y1 s2 w1 w2 v1 v2 v4
        have mo : ob h1 (g + 266) 11 := Mod_0 s1.2.1
        refine ⟨1, h1, h2, ?_, ?_, ?_, v2.two.trans (y1.two.trans u2.two)⟩
        · by_cases z : s < 10
          · have z1 : nI s < 10 := nI_lt (b := 10) z (by decide)
            have z2 := hn10 z
            subst z2
            have z3 : ¬ nI n' < 0 := nI_pos (by omega)
            have z4 : nI n' ≤ 40 := nI_le (b := 40) (by omega) (by decide)
            simp +decide only [e110_0, e110_1, e110_4, e110_7, e110_8, e110_11, e110_12, e110_14, e110_17, e110_18, e110_19, e110_20, e110_22, e110_25, e110_26, e110_29, e110_30, e110_32, e110_34, e110_37, e110_38, e110_41, e110_42, e110_44, e110_47, e110_48, e110_49, e110_50, e110_53, e110_56, e110_57, e110_58, e110_59, e110_61, e110_64, e110_65, e110_68, e110_69, e110_72, e110_73, b1, s0, s11, z1, z3, z4, hv, hc, eR, oB, vrf_some, u1, (Cls_0 R.cls : ob h g 10), (rf_g (Cls_3 R.cls : rf h g 6 (g + 172)) : gR h g 6 = (g + 172)), (rf_is (Cls_3 R.cls : rf h g 6 (g + 172)) : isR h g 6), (State_0 (Cls_17 R.cls) : ob h (g + 172) 8), (eq_true (isI_ob (State_0 (Cls_17 R.cls) : ob h (g + 172) 8) rfl : isI h (g + 172) 3)), (rf_g (State_2 (Cls_17 R.cls) : rf h (g + 172) 1 (g + 175)) : gR h (g + 172) 1 = (g + 175)), (rf_is (State_2 (Cls_17 R.cls) : rf h (g + 172) 1 (g + 175)) : isR h (g + 172) 1), (State_5 (Cls_17 R.cls) : arR h (g + 175) 5), (rdR_5 (State_5 (Cls_17 R.cls) : arR h (g + 175) 5) : rdR h (g + 175)), (State_6 (Cls_17 R.cls) : aln h (g + 175) = 8), Nat.add_assoc, Nat.reduceAdd, Nat.add_left_cancel_iff, Nat.reduceEqDiff, Nat.add_eq_left, Nat.left_eq_add, vkk_n, vkk_i, vkk_r, vkk_l, vkk_d, catS_nil, catS_i, catS_r, catS_l, catS_d, Nat.reduceAdd, Nat.reduceLeDiff, Nat.zero_le, Nat.le_refl, Option.bind_some, Option.toList_some, Option.toList_none, List.cons_append, List.nil_append, or_true, true_or, if_true, if_false, Int32.reduceLT, Int32.reduceLE, not_true, not_false_iff, true_and, and_true, false_and, and_false]
          · have z1 : ¬ nI s < 10 := nI_nlt (b := 10) (by omega) (by omega)
            have z2 := h10 (by omega)
            subst z2
            rw [show nI 0 = (0 : Int32) from rfl] at u1
            simp +decide only [e110_0, e110_1, e110_4, e110_7, e110_8, e110_11, e110_12, e110_14, e110_17, e110_18, e110_19, e110_20, e110_22, e110_25, e110_26, e110_29, e110_30, e110_32, e110_34, e110_37, e110_38, e110_41, e110_42, e110_44, e110_47, e110_48, e110_49, e110_50, e110_53, e110_56, e110_57, e110_58, e110_59, e110_61, e110_64, e110_65, e110_68, e110_69, e110_72, e110_73, b1, s0, s11, z1, hv, hc, eR, oB, vrf_some, u1, (Cls_0 R.cls : ob h g 10), (rf_g (Cls_3 R.cls : rf h g 6 (g + 172)) : gR h g 6 = (g + 172)), (rf_is (Cls_3 R.cls : rf h g 6 (g + 172)) : isR h g 6), (State_0 (Cls_17 R.cls) : ob h (g + 172) 8), (eq_true (isI_ob (State_0 (Cls_17 R.cls) : ob h (g + 172) 8) rfl : isI h (g + 172) 3)), (rf_g (State_2 (Cls_17 R.cls) : rf h (g + 172) 1 (g + 175)) : gR h (g + 172) 1 = (g + 175)), (rf_is (State_2 (Cls_17 R.cls) : rf h (g + 172) 1 (g + 175)) : isR h (g + 172) 1), (State_5 (Cls_17 R.cls) : arR h (g + 175) 5), (rdR_5 (State_5 (Cls_17 R.cls) : arR h (g + 175) 5) : rdR h (g + 175)), (State_6 (Cls_17 R.cls) : aln h (g + 175) = 8), Nat.add_assoc, Nat.reduceAdd, Nat.add_left_cancel_iff, Nat.reduceEqDiff, Nat.add_eq_left, Nat.left_eq_add, vkk_n, vkk_i, vkk_r, vkk_l, vkk_d, catS_nil, catS_i, catS_r, catS_l, catS_d, Nat.reduceAdd, Nat.reduceLeDiff, Nat.zero_le, Nat.le_refl, Option.bind_some, Option.toList_some, Option.toList_none, List.cons_append, List.nil_append, or_true, true_or, if_true, if_false, Int32.reduceLT, Int32.reduceLE, not_true, not_false_iff, true_and, and_true, false_and, and_false]
        · by_cases z : s < 10
          · have z1 : nI s < 10 := nI_lt (b := 10) z (by decide)
            have z2 := hn10 z
            subst z2
            have z3 : mIn (nI n') 0 40 = 1 := mIn_t (nI_pos (by omega)) (nI_le (b := 40) (by omega) (by decide))
            have b4 := fun h => mIn_c (h := h) z3
            simp +decide only [e183_0, e183_1, e183_4, e183_7, e183_8, e183_9, e183_11, e183_14, e183_17, e183_18, e183_20, e183_23, e183_24, e183_25, e183_27, e183_30, e183_33, e183_34, e183_35, e183_36, e183_39, e183_40, e183_41, e183_42, e183_43, e183_46, e183_47, e183_48, e183_50, e183_53, e183_54, e183_57, e183_58, e183_59, e183_61, e183_62, e183_63, b2, b3, b4, z1, hv, hc, m40, hH, (Mod_0 s1.2.1 : ob h1 (g + 266) 11), (rf_g (Mod_55 s1.2.1 : rf h1 (g + 266) 42 (g + 285)) : gR h1 (g + 266) 42 = (g + 285)), (rf_is (Mod_55 s1.2.1 : rf h1 (g + 266) 42 (g + 285)) : isR h1 (g + 266) 42), (Mod_56 s1.2.1 : arI h1 (g + 285) 0), (rdI_0 (Mod_56 s1.2.1 : arI h1 (g + 285) 0) : rdI h1 (g + 285)), (Mod_57 s1.2.1 : aln h1 (g + 285) = 8), (rf_g (Mod_58 s1.2.1 : rf h1 (g + 266) 43 (g + 286)) : gR h1 (g + 266) 43 = (g + 286)), (rf_is (Mod_58 s1.2.1 : rf h1 (g + 266) 43 (g + 286)) : isR h1 (g + 266) 43), (Mod_59 s1.2.1 : arI h1 (g + 286) 0), (rdI_0 (Mod_59 s1.2.1 : arI h1 (g + 286) 0) : rdI h1 (g + 286)), (Mod_60 s1.2.1 : aln h1 (g + 286) = 8), ob_pI, rf_pI, isR_pI, isI_pI, isL_pI, arI_pI, arL_pI, arR_pI, arD_pI, aln_pI, rdI_pI, rdB_pI, rdR_pI, aR_pI, pI_2, gI_pI, gL_pI, gD_pI, gR_pI, aI_pI, aL_pI, aD_pI, ob_pL, rf_pL, isR_pL, isI_pL, isL_pL, arI_pL, arL_pL, arR_pL, arD_pL, aln_pL, rdI_pL, rdB_pL, rdR_pL, aR_pL, pL_2, gI_pL, gL_pL, gD_pL, gR_pL, aI_pL, aL_pL, aD_pL, ob_wI, rf_wI, isR_wI, isI_wI, isL_wI, arI_wI, arL_wI, arR_wI, arD_wI, aln_wI, rdI_wI, rdB_wI, rdR_wI, aR_wI, wI_2, gI_wI, gL_wI, gD_wI, gR_wI, aL_wI, aD_wI, aI_wI_ne, ob_wL, rf_wL, isR_wL, isI_wL, isL_wL, arI_wL, arL_wL, arR_wL, arD_wL, aln_wL, rdI_wL, rdB_wL, rdR_wL, aR_wL, wL_2, gI_wL, gL_wL, gD_wL, gR_wL, aI_wL, aD_wL, aL_wL_ne, ob_bI, rf_bI, isR_bI, isI_bI, isL_bI, arI_bI, arL_bI, arR_bI, arD_bI, aln_bI, rdI_bI, rdB_bI, rdR_bI, aR_bI, bI_2, gI_bI, gL_bI, gD_bI, gR_bI, aL_bI, aD_bI, aI_bI_ne, ob_bL, rf_bL, isR_bL, isI_bL, isL_bL, arI_bL, arL_bL, arR_bL, arD_bL, aln_bL, rdI_bL, rdB_bL, rdR_bL, aR_bL, bL_2, gI_bL, gL_bL, gD_bL, gR_bL, aI_bL, aD_bL, aL_bL_ne, Nat.add_assoc, Nat.reduceAdd, Nat.add_left_cancel_iff, Nat.reduceEqDiff, Nat.add_eq_left, Nat.left_eq_add, vkk_n, vkk_i, vkk_r, vkk_l, vkk_d, catS_nil, catS_i, catS_r, catS_l, catS_d, Nat.reduceAdd, Nat.reduceLeDiff, Nat.zero_le, Nat.le_refl, Option.bind_some, Option.toList_some, Option.toList_none, List.cons_append, List.nil_append, or_true, true_or, if_true, if_false, Int32.reduceLT, Int32.reduceLE, not_true, not_false_iff, true_and, and_true, false_and, and_false]
            exact v1
          · have z1 : ¬ nI s < 10 := nI_nlt (b := 10) (by omega) (by omega)
            have z2 := h10 (by omega)
            subst z2
            rw [show nI 0 = (0 : Int32) from rfl] at hH
            simp +decide only [e183_0, e183_1, e183_4, e183_7, e183_8, e183_9, e183_11, e183_14, e183_17, e183_18, e183_20, e183_23, e183_24, e183_25, e183_27, e183_30, e183_33, e183_34, e183_35, e183_36, e183_39, e183_40, e183_41, e183_42, e183_43, e183_46, e183_47, e183_48, e183_50, e183_53, e183_54, e183_57, e183_58, e183_59, e183_61, e183_62, e183_63, b2, b3, z1, hv, hc, m40, hH, (Mod_0 s1.2.1 : ob h1 (g + 266) 11), (rf_g (Mod_55 s1.2.1 : rf h1 (g + 266) 42 (g + 285)) : gR h1 (g + 266) 42 = (g + 285)), (rf_is (Mod_55 s1.2.1 : rf h1 (g + 266) 42 (g + 285)) : isR h1 (g + 266) 42), (Mod_56 s1.2.1 : arI h1 (g + 285) 0), (rdI_0 (Mod_56 s1.2.1 : arI h1 (g + 285) 0) : rdI h1 (g + 285)), (Mod_57 s1.2.1 : aln h1 (g + 285) = 8), (rf_g (Mod_58 s1.2.1 : rf h1 (g + 266) 43 (g + 286)) : gR h1 (g + 266) 43 = (g + 286)), (rf_is (Mod_58 s1.2.1 : rf h1 (g + 266) 43 (g + 286)) : isR h1 (g + 266) 43), (Mod_59 s1.2.1 : arI h1 (g + 286) 0), (rdI_0 (Mod_59 s1.2.1 : arI h1 (g + 286) 0) : rdI h1 (g + 286)), (Mod_60 s1.2.1 : aln h1 (g + 286) = 8), ob_pI, rf_pI, isR_pI, isI_pI, isL_pI, arI_pI, arL_pI, arR_pI, arD_pI, aln_pI, rdI_pI, rdB_pI, rdR_pI, aR_pI, pI_2, gI_pI, gL_pI, gD_pI, gR_pI, aI_pI, aL_pI, aD_pI, ob_pL, rf_pL, isR_pL, isI_pL, isL_pL, arI_pL, arL_pL, arR_pL, arD_pL, aln_pL, rdI_pL, rdB_pL, rdR_pL, aR_pL, pL_2, gI_pL, gL_pL, gD_pL, gR_pL, aI_pL, aL_pL, aD_pL, ob_wI, rf_wI, isR_wI, isI_wI, isL_wI, arI_wI, arL_wI, arR_wI, arD_wI, aln_wI, rdI_wI, rdB_wI, rdR_wI, aR_wI, wI_2, gI_wI, gL_wI, gD_wI, gR_wI, aL_wI, aD_wI, aI_wI_ne, ob_wL, rf_wL, isR_wL, isI_wL, isL_wL, arI_wL, arL_wL, arR_wL, arD_wL, aln_wL, rdI_wL, rdB_wL, rdR_wL, aR_wL, wL_2, gI_wL, gL_wL, gD_wL, gR_wL, aI_wL, aD_wL, aL_wL_ne, ob_bI, rf_bI, isR_bI, isI_bI, isL_bI, arI_bI, arL_bI, arR_bI, arD_bI, aln_bI, rdI_bI, rdB_bI, rdR_bI, aR_bI, bI_2, gI_bI, gL_bI, gD_bI, gR_bI, aL_bI, aD_bI, aI_bI_ne, ob_bL, rf_bL, isR_bL, isI_bL, isL_bL, arI_bL, arL_bL, arR_bL, arD_bL, aln_bL, rdI_bL, rdB_bL, rdR_bL, aR_bL, bL_2, gI_bL, gL_bL, gD_bL, gR_bL, aI_bL, aD_bL, aL_bL_ne, Nat.add_assoc, Nat.reduceAdd, Nat.add_left_cancel_iff, Nat.reduceEqDiff, Nat.add_eq_left, Nat.left_eq_add, vkk_n, vkk_i, vkk_r, vkk_l, vkk_d, catS_nil, catS_i, catS_r, catS_l, catS_d, Nat.reduceAdd, Nat.reduceLeDiff, Nat.zero_le, Nat.le_refl, Option.bind_some, Option.toList_some, Option.toList_none, List.cons_append, List.nil_append, or_true, true_or, if_true, if_false, Int32.reduceLT, Int32.reduceLE, not_true, not_false_iff, true_and, and_true, false_and, and_false]
            exact v1
        · have zz := (u2.un y1).un v2
          have q0 : RBins2 h h1 g := RBins2_fr (Fr.rfl (R := NR) (F := NF) _) u2 (fun _ z => z.elim) (fun _ _ z => z.elim) (fun a z => by omega) R.bins
          have rb1 : RBins2 h1 h2 g := by
            refine RBins2_bin (R := NR) hb hs hn' h10 rfl u2 u3 u4 u5 (fun j => ?_) (fun j => ?_) v3 (fun j hj => ?_) q0
            · rw [v2.I (fun z => by unfold LR at z; omega), w1]
            · rw [v2.I (fun z => by unfold LR at z; omega), w2]
            · have a := v4 j hj
              rw [a.1, a.2.1, a.2.2, y1.I (a := g + 287) (fun z => by omega), y1.L (a := g + 288) (fun z => by omega), y1.D (a := g + 289) (fun z => by omega)]
              exact ⟨rfl, rfl, rfl⟩
          have rb : RBins h2 g := RBins2_fr (y1.un v2) (Fr.rfl (R := NR) (F := NF) _) (fun a z => by rcases z with z | z; omega; (unfold LR at z; omega)) (fun a k z => z.elim (fun q => q.elim) (fun q => q.elim)) (fun _ z => z.elim) rb1
          have cR : ∀ a, (((a = g + (177 + 3 * b) + 1 ∨ a = g + (177 + 3 * b) + 2) ∨ (a = g + 285 ∨ a = g + 286)) ∨ LR g a) → (g + 178 ≤ a ∧ a ≤ g + 200) ∨ (g + 285 ≤ a ∧ a ≤ g + 289) := by
            intro a z
            unfold LR at z
            omega
          have dF : ∀ a k, (((a = g + (177 + 3 * b) ∧ (k = 0 ∨ k = 1)) ∨ NF a k) ∨ NF a k) → g + 177 ≤ a ∧ a ≤ g + 200 := by
            intro a k z
            rcases z with (z | z) | z
            · omega
            · exact z.elim
            · exact z.elim
          refine ⟨⟨Sh_fr zz ?_ R.sh, RTape_fr zz ?_ ?_ R.tape, RAns_fr zz ?_ R.ans, RHd_fr zz ?_ R.hd, RMem_fr zz ?_ R.mem, RReg_fr zz ?_ R.reg, rb, RSl_fr (by decide) zz ?_ ?_ R.sl0, RSl_fr (by decide) zz ?_ ?_ R.sl1, RPl_fr zz ?_ ?_ R.pl⟩, RCn_fr zz ?_ ?_ R.cn⟩
          all_goals first | (intro a q; have := cR a q; omega) | (intro a k q; have := dF a k q; omega) | (intro q; have := dF _ _ q; omega) | (intro q; have := cR _ q; omega)
      by_cases z : s < 10
      · rcases bin_n (s := n) with ⟨n, hn, rfl⟩ | ⟨n1, n2⟩
        · exact main n (by omega) (fun q => by omega) (fun _ => rfl)
        · have z1 : nI s < 10 := nI_lt (b := 10) z (by decide)
          have b4 := fun h => mIn_c (h := h) n2
          refine ⟨0, h, h, ?_, ?_, R, rfl⟩
          · rcases n1 with n1 | ⟨n0, n1⟩
            · simp +decide only [e110_0, e110_1, e110_4, e110_7, e110_8, e110_11, e110_12, e110_14, e110_17, e110_18, e110_19, e110_20, e110_22, e110_25, e110_26, e110_29, e110_30, e110_32, e110_34, e110_37, e110_38, e110_41, e110_42, e110_44, e110_47, e110_48, e110_49, e110_50, e110_53, e110_56, e110_57, e110_58, e110_59, e110_61, e110_64, e110_65, e110_68, e110_69, e110_72, e110_73, b1, s0, s11, z1, n1, vkk_n, vkk_i, vkk_r, vkk_l, vkk_d, catS_nil, catS_i, catS_r, catS_l, catS_d, Nat.reduceAdd, Nat.reduceLeDiff, Nat.zero_le, Nat.le_refl, Option.bind_some, Option.toList_some, Option.toList_none, List.cons_append, List.nil_append, or_true, true_or, if_true, if_false, Int32.reduceLT, Int32.reduceLE, not_true, not_false_iff, true_and, and_true, false_and, and_false]
            · simp +decide only [e110_0, e110_1, e110_4, e110_7, e110_8, e110_11, e110_12, e110_14, e110_17, e110_18, e110_19, e110_20, e110_22, e110_25, e110_26, e110_29, e110_30, e110_32, e110_34, e110_37, e110_38, e110_41, e110_42, e110_44, e110_47, e110_48, e110_49, e110_50, e110_53, e110_56, e110_57, e110_58, e110_59, e110_61, e110_64, e110_65, e110_68, e110_69, e110_72, e110_73, b1, s0, s11, z1, n0, n1, vkk_n, vkk_i, vkk_r, vkk_l, vkk_d, catS_nil, catS_i, catS_r, catS_l, catS_d, Nat.reduceAdd, Nat.reduceLeDiff, Nat.zero_le, Nat.le_refl, Option.bind_some, Option.toList_some, Option.toList_none, List.cons_append, List.nil_append, or_true, true_or, if_true, if_false, Int32.reduceLT, Int32.reduceLE, not_true, not_false_iff, true_and, and_true, false_and, and_false]
          · simp +decide only [e183_0, e183_1, e183_4, e183_7, e183_8, e183_9, e183_11, e183_14, e183_17, e183_18, e183_20, e183_23, e183_24, e183_25, e183_27, e183_30, e183_33, e183_34, e183_35, e183_36, e183_39, e183_40, e183_41, e183_42, e183_43, e183_46, e183_47, e183_48, e183_50, e183_53, e183_54, e183_57, e183_58, e183_59, e183_61, e183_62, e183_63, e183_65, e183_67, e183_69, e183_70, e183_71, e183_72, e183_75, e183_76, e183_77, e183_78, e183_81, e183_82, e183_85, e183_87, e183_88, e183_90, e183_93, e183_94, e183_97, e183_99, e183_100, e183_101, e183_104, e183_106, e183_107, e183_108, e183_109, e183_112, e183_114, e183_115, e183_116, e183_119, e183_122, e183_123, b2, b3, b4, z1, vkk_n, vkk_i, vkk_r, vkk_l, vkk_d, catS_nil, catS_i, catS_r, catS_l, catS_d, Nat.reduceAdd, Nat.reduceLeDiff, Nat.zero_le, Nat.le_refl, Option.bind_some, Option.toList_some, Option.toList_none, List.cons_append, List.nil_append, or_true, true_or, if_true, if_false, Int32.reduceLT, Int32.reduceLE, not_true, not_false_iff, true_and, and_true, false_and, and_false]
      · exact main 0 (by decide) (fun _ => rfl) (fun q => absurd q z)
    · have b3 := fun h => mIn_c (h := h) p2
      refine ⟨0, h, h, ?_, ?_, R, rfl⟩
      · rcases p1 with p1 | ⟨p0, p1⟩
        · simp +decide only [e110_0, e110_1, e110_4, e110_7, e110_8, e110_11, e110_12, e110_14, e110_17, e110_18, e110_19, e110_20, e110_22, e110_25, e110_26, e110_29, e110_30, e110_32, e110_34, e110_37, e110_38, e110_41, e110_42, e110_44, e110_47, e110_48, e110_49, e110_50, e110_53, e110_56, e110_57, e110_58, e110_59, e110_61, e110_64, e110_65, e110_68, e110_69, e110_72, e110_73, b1, p1, vkk_n, vkk_i, vkk_r, vkk_l, vkk_d, catS_nil, catS_i, catS_r, catS_l, catS_d, Nat.reduceAdd, Nat.reduceLeDiff, Nat.zero_le, Nat.le_refl, Option.bind_some, Option.toList_some, Option.toList_none, List.cons_append, List.nil_append, or_true, true_or, if_true, if_false, Int32.reduceLT, Int32.reduceLE, not_true, not_false_iff, true_and, and_true, false_and, and_false]
        · simp +decide only [e110_0, e110_1, e110_4, e110_7, e110_8, e110_11, e110_12, e110_14, e110_17, e110_18, e110_19, e110_20, e110_22, e110_25, e110_26, e110_29, e110_30, e110_32, e110_34, e110_37, e110_38, e110_41, e110_42, e110_44, e110_47, e110_48, e110_49, e110_50, e110_53, e110_56, e110_57, e110_58, e110_59, e110_61, e110_64, e110_65, e110_68, e110_69, e110_72, e110_73, b1, p0, p1, vkk_n, vkk_i, vkk_r, vkk_l, vkk_d, catS_nil, catS_i, catS_r, catS_l, catS_d, Nat.reduceAdd, Nat.reduceLeDiff, Nat.zero_le, Nat.le_refl, Option.bind_some, Option.toList_some, Option.toList_none, List.cons_append, List.nil_append, or_true, true_or, if_true, if_false, Int32.reduceLT, Int32.reduceLE, not_true, not_false_iff, true_and, and_true, false_and, and_false]
      · simp +decide only [e183_0, e183_1, e183_4, e183_7, e183_8, e183_9, e183_11, e183_14, e183_17, e183_18, e183_20, e183_23, e183_24, e183_25, e183_27, e183_30, e183_33, e183_34, e183_35, e183_36, e183_39, e183_40, e183_41, e183_42, e183_43, e183_46, e183_47, e183_48, e183_50, e183_53, e183_54, e183_57, e183_58, e183_59, e183_61, e183_62, e183_63, e183_65, e183_67, e183_69, e183_70, e183_71, e183_72, e183_75, e183_76, e183_77, e183_78, e183_81, e183_82, e183_85, e183_87, e183_88, e183_90, e183_93, e183_94, e183_97, e183_99, e183_100, e183_101, e183_104, e183_106, e183_107, e183_108, e183_109, e183_112, e183_114, e183_115, e183_116, e183_119, e183_122, e183_123, b2, b3, vkk_n, vkk_i, vkk_r, vkk_l, vkk_d, catS_nil, catS_i, catS_r, catS_l, catS_d, Nat.reduceAdd, Nat.reduceLeDiff, Nat.zero_le, Nat.le_refl, Option.bind_some, Option.toList_some, Option.toList_none, List.cons_append, List.nil_append, or_true, true_or, if_true, if_false, Int32.reduceLT, Int32.reduceLE, not_true, not_false_iff, true_and, and_true, false_and, and_false]
  · have b1 := fun h => isBin_c (h := h) q1
    have b2 := fun h => mBin_c (h := h) q2
    refine ⟨0, h, h, ?_, ?_, R, rfl⟩
    · simp +decide only [e110_0, e110_1, e110_4, e110_7, e110_8, e110_11, e110_12, e110_14, e110_17, e110_18, e110_19, e110_20, e110_22, e110_25, e110_26, e110_29, e110_30, e110_32, e110_34, e110_37, e110_38, e110_41, e110_42, e110_44, e110_47, e110_48, e110_49, e110_50, e110_53, e110_56, e110_57, e110_58, e110_59, e110_61, e110_64, e110_65, e110_68, e110_69, e110_72, e110_73, b1, vkk_n, vkk_i, vkk_r, vkk_l, vkk_d, catS_nil, catS_i, catS_r, catS_l, catS_d, Nat.reduceAdd, Nat.reduceLeDiff, Nat.zero_le, Nat.le_refl, Option.bind_some, Option.toList_some, Option.toList_none, List.cons_append, List.nil_append, or_true, true_or, if_true, if_false, Int32.reduceLT, Int32.reduceLE, not_true, not_false_iff, true_and, and_true, false_and, and_false]
    · simp +decide only [e183_0, e183_1, e183_4, e183_7, e183_8, e183_9, e183_11, e183_14, e183_17, e183_18, e183_20, e183_23, e183_24, e183_25, e183_27, e183_30, e183_33, e183_34, e183_35, e183_36, e183_39, e183_40, e183_41, e183_42, e183_43, e183_46, e183_47, e183_48, e183_50, e183_53, e183_54, e183_57, e183_58, e183_59, e183_61, e183_62, e183_63, e183_65, e183_67, e183_69, e183_70, e183_71, e183_72, e183_75, e183_76, e183_77, e183_78, e183_81, e183_82, e183_85, e183_87, e183_88, e183_90, e183_93, e183_94, e183_97, e183_99, e183_100, e183_101, e183_104, e183_106, e183_107, e183_108, e183_109, e183_112, e183_114, e183_115, e183_116, e183_119, e183_122, e183_123, b2, vkk_n, vkk_i, vkk_r, vkk_l, vkk_d, catS_nil, catS_i, catS_r, catS_l, catS_d, Nat.reduceAdd, Nat.reduceLeDiff, Nat.zero_le, Nat.le_refl, Option.bind_some, Option.toList_some, Option.toList_none, List.cons_append, List.nil_append, or_true, true_or, if_true, if_false, Int32.reduceLT, Int32.reduceLE, not_true, not_false_iff, true_and, and_true, false_and, and_false]
