/-! hold, restore: the class -/
theorem vcopyI {h : VG} {s d t a b n : Nat} (hs : arI h s t) (hd : arI h d t) (ht : t = 0 ∨ t = 2) (h1 : a + n ≤ aln h s) (h2 : b + n ≤ aln h d) (la : a < 1073741824) (lb : b < 1073741824) (ln : n < 1073741824) (hf : t = 2 → ∀ i, i < n → fits .byte (.int (aI h s (a + i))) = true) : vcopy h s d (nI a) (nI b) (nI n) = some (bI h d (va_cpy (aI h s) (aI h d) a b n)) := by
  obtain ⟨n0, f, e1⟩ := hs
  obtain ⟨n1, f1, e2⟩ := hd
  have l1 : aln h s = n0 := by unfold aln; rw [e1]
  have l2 : aln h d = n1 := by unfold aln; rw [e2]
  have g1 : aI h s = f := by funext i; unfold aI; rw [e1]
  have g2 : aI h d = f1 := by funext i; unfold aI; rw [e2]
  rw [l1] at h1
  rw [l2] at h2
  rw [g1] at hf
  have ca : (nI a).toNatClampNeg = a := nI_clamp (by omega)
  have cb : (nI b).toNatClampNeg = b := nI_clamp (by omega)
  have cn : (nI n).toNatClampNeg = n := nI_clamp (by omega)
  have hfit : ∀ i, i < n → fits (vTyT t) (.int (f (a + i))) = true := by
    intro i hi
    unfold vTyT
    rcases ht with rfl | rfl
    · rfl
    · exact hf rfl i hi
  unfold vcopy
  rw [e1]
  dsimp only
  rw [e2]
  dsimp only
  rw [ca, cb, cn, if_pos ⟨rfl, ht, nI_pos (by omega), nI_pos (by omega), nI_pos (by omega), h1, h2, hfit⟩]
  unfold bI
  rw [e2, g1, g2]
theorem vcopyL {h : VG} {s d a b n : Nat} (hs : arL h s) (hd : arL h d) (h1 : a + n ≤ aln h s) (h2 : b + n ≤ aln h d) (la : a < 1073741824) (lb : b < 1073741824) (ln : n < 1073741824) : vcopy h s d (nI a) (nI b) (nI n) = some (bL h d (va_cpy (aL h s) (aL h d) a b n)) := by
  obtain ⟨n0, f, e1⟩ := hs
  obtain ⟨n1, f1, e2⟩ := hd
  have l1 : aln h s = n0 := by unfold aln; rw [e1]
  have l2 : aln h d = n1 := by unfold aln; rw [e2]
  have g1 : aL h s = f := by funext i; unfold aL; rw [e1]
  have g2 : aL h d = f1 := by funext i; unfold aL; rw [e2]
  rw [l1] at h1
  rw [l2] at h2
  have ca : (nI a).toNatClampNeg = a := nI_clamp (by omega)
  have cb : (nI b).toNatClampNeg = b := nI_clamp (by omega)
  have cn : (nI n).toNatClampNeg = n := nI_clamp (by omega)
  unfold vcopy
  rw [e1]
  dsimp only
  rw [e2]
  dsimp only
  rw [ca, cb, cn, if_pos ⟨rfl, rfl, nI_pos (by omega), nI_pos (by omega), nI_pos (by omega), h1, h2⟩]
  unfold bL
  rw [e2, g1, g2]
theorem cpy_in {α : Type} {f f1 : Nat → α} {n j : Nat} (h : j < n) : va_cpy f f1 0 0 n j = f j := by
  rw [pk_cpy_in (by omega) (by omega)]
  congr 1
  omega
theorem c0_le : catS [] ≤ 8 := by rw [catS_nil]; decide
def bOk (h : VG) (a : Nat) : Prop := ∀ i, i < 256 → ∃ v, aI h a i = vp_nar .byte v
theorem c_memBecome (h : VG) (A B : Nat) (hA : ShMem h A) (hB : ShMem h B) (ne : A + 1 < B ∨ B + 1 < A) (hb : bOk h (B + 1)) (hz : gI h B 2 = 0 ∨ gI h B 2 = 1) : ∃ h1, ev 53 0 [some (.ref A), some (.ref B)] [] h = some (none, h1) ∧ Fr (fun a => a = A + 1) (fun a k => a = A ∧ (k = 1 ∨ k = 2)) h h1 ∧ gI h1 A 1 = gI h B 1 ∧ gI h1 A 2 = gI h B 2 ∧ ∀ i, i < 256 → aI h1 (A + 1) i = aI h (B + 1) i := by
  have cp : vcopy h (B + 1) (A + 1) 0 0 256 = some (bI h (A + 1) (va_cpy (aI h (B + 1)) (aI h (A + 1)) 0 0 256)) := vcopyI (a := 0) (b := 0) (n := 256) (Mem_2 hB) (Mem_2 hA) (Or.inr rfl) (by rw [Mem_3 hB]; decide) (by rw [Mem_3 hA]; decide) (by decide) (by decide) (by decide) (fun _ i hi => by
    obtain ⟨v, hv⟩ := hb (0 + i) (by omega)
    rw [hv, vp_nar_byte]
    exact pk_fb v)
  have x1 : Fr (fun a => a = A + 1) (fun a k => a = A ∧ (k = 1 ∨ k = 2)) h (bI h (A + 1) (va_cpy (aI h (B + 1)) (aI h (A + 1)) 0 0 256)) := Fr_bI _ _ _ rfl
  have c1 : ∀ i, i < 256 → aI (bI h (A + 1) (va_cpy (aI h (B + 1)) (aI h (A + 1)) 0 0 256)) (A + 1) i = aI h (B + 1) i := fun i hi => by rw [aI_bI _ _ _ _ (Mem_2 hA), cpy_in hi]
  generalize bI h (A + 1) (va_cpy (aI h (B + 1)) (aI h (A + 1)) 0 0 256) = H at cp x1 c1
  have e := e53_13 [some (.ref A), some (.ref B)] [] h (B + 1) (A + 1) 0 0 256 H c0_le cp
  have oA : ob H A 5 := (ob_kp x1.1 ..).mpr (Mem_0 hA)
  have oB : ob H B 5 := (ob_kp x1.1 ..).mpr (Mem_0 hB)
  have g1 : gI H B 1 = gI h B 1 := x1.gI (fun z => by omega)
  have g2 : gI H B 2 = gI h B 2 := x1.gI (fun z => by omega)
  have nAB : ¬ B = A := by omega
  have k2 : Fr (fun a => a = A + 1) (fun a k => a = A ∧ (k = 1 ∨ k = 2)) H (pI (pI H A 1 (gI h B 1)) A 2 (gI h B 2)) := (Fr_pI _ _ _ _ ⟨rfl, Or.inl rfl⟩).tr (Fr_pI _ _ _ _ ⟨rfl, Or.inr rfl⟩)
  refine ⟨pI (pI H A 1 (gI h B 1)) A 2 (gI h B 2), ?_, x1.tr k2, ?_, ?_, fun i hi => ?_⟩
  · simp +decide only [e53_0, e53_1, e53_4, e53_5, e53_6, e53_9, e53_10, e53_13, e53_16, e53_17, e53_18, e53_21, e53_24, e53_25, e53_26, e53_29, e53_32, e, hz, oA, oB, g1, g2, nAB, gI_pI, ob_pI, (Mem_0 hA : ob h A 5), (eq_true (isI_ob (Mem_0 hA : ob h A 5) rfl : isI h A 1)), (eq_true (isI_ob (Mem_0 hA : ob h A 5) rfl : isI h A 2)), (rf_g (Mem_1 hA : rf h A 0 (A + 1)) : gR h A 0 = (A + 1)), (rf_is (Mem_1 hA : rf h A 0 (A + 1)) : isR h A 0), (Mem_2 hA : arI h (A + 1) 2), (rdB_2 (Mem_2 hA : arI h (A + 1) 2) : rdB h (A + 1)), (Mem_3 hA : aln h (A + 1) = 256), (Mem_0 hB : ob h B 5), (eq_true (isI_ob (Mem_0 hB : ob h B 5) rfl : isI h B 1)), (eq_true (isI_ob (Mem_0 hB : ob h B 5) rfl : isI h B 2)), (rf_g (Mem_1 hB : rf h B 0 (B + 1)) : gR h B 0 = (B + 1)), (rf_is (Mem_1 hB : rf h B 0 (B + 1)) : isR h B 0), (Mem_2 hB : arI h (B + 1) 2), (rdB_2 (Mem_2 hB : arI h (B + 1) 2) : rdB h (B + 1)), (Mem_3 hB : aln h (B + 1) = 256), vkk_n, vkk_i, vkk_r, vkk_l, vkk_d, catS_nil, catS_i, catS_r, catS_l, catS_d, Nat.reduceAdd, Nat.reduceLeDiff, Nat.zero_le, Nat.le_refl, Option.bind_some, Option.toList_some, Option.toList_none, List.cons_append, List.nil_append, or_true, true_or, if_true, if_false, Int32.reduceLT, Int32.reduceLE, not_true, not_false_iff, true_and, and_true, false_and, and_false]
  · simp +decide only [gI_pI, isI_pI, (eq_true (isI_ob oA rfl : isI H A 1)), true_and, and_true, false_and, and_false, if_true, if_false]
  · simp +decide only [gI_pI, isI_pI, (eq_true (isI_ob oA rfl : isI H A 2)), true_and, and_true, if_true]
  · rw [aI_pI, aI_pI]
    exact c1 i hi
def BinEq (h1 : VG) (A : Nat) (h : VG) (B : Nat) : Prop := gI h1 A 0 = gI h B 0 ∧ gI h1 A 1 = gI h B 1 ∧ ∀ j, j < 40 → aI h1 (A + 1) j = aI h (B + 1) j ∧ aL h1 (A + 2) j = aL h (B + 2) j
theorem c_binBecome (h : VG) (A B : Nat) (hA : ShBin h A) (hB : ShBin h B) (ne : A + 2 < B ∨ B + 2 < A) : ∃ h1, ev 4 0 [some (.ref A), some (.ref B)] [] h = some (none, h1) ∧ Fr (fun a => a = A + 1 ∨ a = A + 2) (fun a k => a = A ∧ (k = 0 ∨ k = 1)) h h1 ∧ BinEq h1 A h B := by
  have oA : ob h A 1 := Bin_0 hA
  have oB : ob h B 1 := Bin_0 hB
  have nAB : ¬ B = A := by omega
  have x1 : Fr NR (fun a k => a = A ∧ (k = 0 ∨ k = 1)) h (pI (pI h A 0 (gI h B 0)) A 1 (gI h B 1)) := (Fr_pI _ _ _ _ ⟨rfl, Or.inl rfl⟩).tr (Fr_pI _ _ _ _ ⟨rfl, Or.inr rfl⟩)
  have v0 : gI (pI (pI h A 0 (gI h B 0)) A 1 (gI h B 1)) A 0 = gI h B 0 := by simp +decide only [gI_pI, isI_pI, (eq_true (isI_ob oA rfl : isI h A 0)), true_and, and_true, false_and, and_false, if_true, if_false]
  have v1 : gI (pI (pI h A 0 (gI h B 0)) A 1 (gI h B 1)) A 1 = gI h B 1 := by simp +decide only [gI_pI, isI_pI, (eq_true (isI_ob oA rfl : isI h A 1)), true_and, and_true, if_true]
  generalize hH : pI (pI h A 0 (gI h B 0)) A 1 (gI h B 1) = H at x1 v0 v1
  have a1 : ShBin H A := (ShBin_kp x1.1 A).mpr hA
  have b1 : ShBin H B := (ShBin_kp x1.1 B).mpr hB
  have cp : vcopy H (B + 1) (A + 1) 0 0 40 = some (bI H (A + 1) (va_cpy (aI H (B + 1)) (aI H (A + 1)) 0 0 40)) := vcopyI (a := 0) (b := 0) (n := 40) (Bin_3 b1) (Bin_3 a1) (Or.inl rfl) (by rw [Bin_4 b1]; decide) (by rw [Bin_4 a1]; decide) (by decide) (by decide) (by decide) (fun z => by cases z)
  have x2 : Fr (fun a => a = A + 1) NF H (bI H (A + 1) (va_cpy (aI H (B + 1)) (aI H (A + 1)) 0 0 40)) := Fr_bI _ _ _ rfl
  have c1 : ∀ i, i < 40 → aI (bI H (A + 1) (va_cpy (aI H (B + 1)) (aI H (A + 1)) 0 0 40)) (A + 1) i = aI H (B + 1) i := fun i hi => by rw [aI_bI _ _ _ _ (Bin_3 a1), cpy_in hi]
  generalize bI H (A + 1) (va_cpy (aI H (B + 1)) (aI H (A + 1)) 0 0 40) = H2 at cp x2 c1
  have a2 : ShBin H2 A := (ShBin_kp x2.1 A).mpr a1
  have b2 : ShBin H2 B := (ShBin_kp x2.1 B).mpr b1
  have cq : vcopy H2 (B + 2) (A + 2) 0 0 40 = some (bL H2 (A + 2) (va_cpy (aL H2 (B + 2)) (aL H2 (A + 2)) 0 0 40)) := vcopyL (a := 0) (b := 0) (n := 40) (Bin_5 b2) (Bin_5 a2) (by rw [Bin_6 b2]; decide) (by rw [Bin_6 a2]; decide) (by decide) (by decide) (by decide)
  have x3 : Fr (fun a => a = A + 2) NF H2 (bL H2 (A + 2) (va_cpy (aL H2 (B + 2)) (aL H2 (A + 2)) 0 0 40)) := Fr_bL _ _ _ rfl
  have c2 : ∀ i, i < 40 → aL (bL H2 (A + 2) (va_cpy (aL H2 (B + 2)) (aL H2 (A + 2)) 0 0 40)) (A + 2) i = aL H2 (B + 2) i := fun i hi => by rw [aL_bL _ _ _ _ (Bin_5 a2), cpy_in hi]
  generalize bL H2 (A + 2) (va_cpy (aL H2 (B + 2)) (aL H2 (A + 2)) 0 0 40) = H3 at cq x3 c2
  have e1 := e4_28 [some (.ref A), some (.ref B)] [] H (B + 1) (A + 1) 0 0 40 H2 c0_le cp
  have e2 := e4_43 [some (.ref A), some (.ref B)] [] H2 (B + 2) (A + 2) 0 0 40 H3 c0_le cq
  refine ⟨H3, ?_, (((x1.mo (fun _ z => z.elim) (fun _ _ z => z)).tr (x2.mo (fun _ z => Or.inl z) (fun _ _ z => z.elim))).tr (x3.mo (fun _ z => Or.inr z) (fun _ _ z => z.elim))), ?_, ?_, fun j hj => ⟨?_, ?_⟩⟩
  · simp +decide only [e4_0, e4_1, e4_2, e4_5, e4_8, e4_9, e4_10, e4_13, e4_16, e4_17, e4_20, e4_21, e4_22, e4_25, e4_26, e4_28, e4_31, e4_32, e4_35, e4_36, e4_37, e4_40, e4_41, e4_43, e4_46, e1, e2, nAB, gI_pI, ob_pI, isR_pI, gR_pI, hH, (Bin_0 hA : ob h A 1), (eq_true (isI_ob (Bin_0 hA : ob h A 1) rfl : isI h A 0)), (eq_true (isI_ob (Bin_0 hA : ob h A 1) rfl : isI h A 1)), (rf_g (Bin_1 hA : rf h A 2 (A + 1)) : gR h A 2 = (A + 1)), (rf_is (Bin_1 hA : rf h A 2 (A + 1)) : isR h A 2), (rf_g (Bin_2 hA : rf h A 3 (A + 2)) : gR h A 3 = (A + 2)), (rf_is (Bin_2 hA : rf h A 3 (A + 2)) : isR h A 3), (Bin_3 hA : arI h (A + 1) 0), (rdI_0 (Bin_3 hA : arI h (A + 1) 0) : rdI h (A + 1)), (Bin_4 hA : aln h (A + 1) = 40), (Bin_5 hA : arL h (A + 2)), (Bin_6 hA : aln h (A + 2) = 40), (Bin_0 hB : ob h B 1), (eq_true (isI_ob (Bin_0 hB : ob h B 1) rfl : isI h B 0)), (eq_true (isI_ob (Bin_0 hB : ob h B 1) rfl : isI h B 1)), (rf_g (Bin_1 hB : rf h B 2 (B + 1)) : gR h B 2 = (B + 1)), (rf_is (Bin_1 hB : rf h B 2 (B + 1)) : isR h B 2), (rf_g (Bin_2 hB : rf h B 3 (B + 2)) : gR h B 3 = (B + 2)), (rf_is (Bin_2 hB : rf h B 3 (B + 2)) : isR h B 3), (Bin_3 hB : arI h (B + 1) 0), (rdI_0 (Bin_3 hB : arI h (B + 1) 0) : rdI h (B + 1)), (Bin_4 hB : aln h (B + 1) = 40), (Bin_5 hB : arL h (B + 2)), (Bin_6 hB : aln h (B + 2) = 40), (Bin_0 a1 : ob H A 1), (eq_true (isI_ob (Bin_0 a1 : ob H A 1) rfl : isI H A 0)), (eq_true (isI_ob (Bin_0 a1 : ob H A 1) rfl : isI H A 1)), (rf_g (Bin_1 a1 : rf H A 2 (A + 1)) : gR H A 2 = (A + 1)), (rf_is (Bin_1 a1 : rf H A 2 (A + 1)) : isR H A 2), (rf_g (Bin_2 a1 : rf H A 3 (A + 2)) : gR H A 3 = (A + 2)), (rf_is (Bin_2 a1 : rf H A 3 (A + 2)) : isR H A 3), (Bin_3 a1 : arI H (A + 1) 0), (rdI_0 (Bin_3 a1 : arI H (A + 1) 0) : rdI H (A + 1)), (Bin_4 a1 : aln H (A + 1) = 40), (Bin_5 a1 : arL H (A + 2)), (Bin_6 a1 : aln H (A + 2) = 40), (Bin_0 b1 : ob H B 1), (eq_true (isI_ob (Bin_0 b1 : ob H B 1) rfl : isI H B 0)), (eq_true (isI_ob (Bin_0 b1 : ob H B 1) rfl : isI H B 1)), (rf_g (Bin_1 b1 : rf H B 2 (B + 1)) : gR H B 2 = (B + 1)), (rf_is (Bin_1 b1 : rf H B 2 (B + 1)) : isR H B 2), (rf_g (Bin_2 b1 : rf H B 3 (B + 2)) : gR H B 3 = (B + 2)), (rf_is (Bin_2 b1 : rf H B 3 (B + 2)) : isR H B 3), (Bin_3 b1 : arI H (B + 1) 0), (rdI_0 (Bin_3 b1 : arI H (B + 1) 0) : rdI H (B + 1)), (Bin_4 b1 : aln H (B + 1) = 40), (Bin_5 b1 : arL H (B + 2)), (Bin_6 b1 : aln H (B + 2) = 40), (Bin_0 a2 : ob H2 A 1), (eq_true (isI_ob (Bin_0 a2 : ob H2 A 1) rfl : isI H2 A 0)), (eq_true (isI_ob (Bin_0 a2 : ob H2 A 1) rfl : isI H2 A 1)), (rf_g (Bin_1 a2 : rf H2 A 2 (A + 1)) : gR H2 A 2 = (A + 1)), (rf_is (Bin_1 a2 : rf H2 A 2 (A + 1)) : isR H2 A 2), (rf_g (Bin_2 a2 : rf H2 A 3 (A + 2)) : gR H2 A 3 = (A + 2)), (rf_is (Bin_2 a2 : rf H2 A 3 (A + 2)) : isR H2 A 3), (Bin_3 a2 : arI H2 (A + 1) 0), (rdI_0 (Bin_3 a2 : arI H2 (A + 1) 0) : rdI H2 (A + 1)), (Bin_4 a2 : aln H2 (A + 1) = 40), (Bin_5 a2 : arL H2 (A + 2)), (Bin_6 a2 : aln H2 (A + 2) = 40), (Bin_0 b2 : ob H2 B 1), (eq_true (isI_ob (Bin_0 b2 : ob H2 B 1) rfl : isI H2 B 0)), (eq_true (isI_ob (Bin_0 b2 : ob H2 B 1) rfl : isI H2 B 1)), (rf_g (Bin_1 b2 : rf H2 B 2 (B + 1)) : gR H2 B 2 = (B + 1)), (rf_is (Bin_1 b2 : rf H2 B 2 (B + 1)) : isR H2 B 2), (rf_g (Bin_2 b2 : rf H2 B 3 (B + 2)) : gR H2 B 3 = (B + 2)), (rf_is (Bin_2 b2 : rf H2 B 3 (B + 2)) : isR H2 B 3), (Bin_3 b2 : arI H2 (B + 1) 0), (rdI_0 (Bin_3 b2 : arI H2 (B + 1) 0) : rdI H2 (B + 1)), (Bin_4 b2 : aln H2 (B + 1) = 40), (Bin_5 b2 : arL H2 (B + 2)), (Bin_6 b2 : aln H2 (B + 2) = 40), vkk_n, vkk_i, vkk_r, vkk_l, vkk_d, catS_nil, catS_i, catS_r, catS_l, catS_d, Nat.reduceAdd, Nat.reduceLeDiff, Nat.zero_le, Nat.le_refl, Option.bind_some, Option.toList_some, Option.toList_none, List.cons_append, List.nil_append, or_true, true_or, if_true, if_false, Int32.reduceLT, Int32.reduceLE, not_true, not_false_iff, true_and, and_true, false_and, and_false]
  · exact (x3.gI (fun z => z)).trans ((x2.gI (fun z => z)).trans v0)
  · exact (x3.gI (fun z => z)).trans ((x2.gI (fun z => z)).trans v1)
  · rw [x3.I (fun z => by omega), c1 j hj, x1.I (fun z => z)]
  · rw [c2 j hj, x2.L (fun z => by omega), x1.L (fun z => z)]
theorem st_bin {h : VG} {S b : Nat} (hs : ShState h S) (hb : b < 8) : ShBin h (S + (5 + 3 * b)) ∧ aR h (S + 3) b = some (S + (5 + 3 * b)) := by
  have a := State_7 hs b hb
  have c := State_10 hs b hb
  rw [show S + (5 + 3 * b) = S + 5 + 3 * b by omega]
  exact ⟨c, a⟩
theorem l_stBins (S T : Nat) (ne : S + 28 < T ∨ T + 28 < S) : ∀ (d b : Nat) (h : VG), b + d = 8 → ShState h S → ShState h T → ∃ h1, ev 81 13 [some (.ref S), some (.ref T), some (.int (nI b))] [] h = ev 81 40 [some (.ref S), some (.ref T), some (.int (nI 8))] [] h1 ∧ Fr (fun a => S + 5 + 3 * b ≤ a ∧ a ≤ S + 28) (fun a k => S + 5 + 3 * b ≤ a ∧ a ≤ S + 28 ∧ (k = 0 ∨ k = 1)) h h1 ∧ ∀ b', b ≤ b' → b' < 8 → BinEq h1 (S + (5 + 3 * b')) h (T + (5 + 3 * b')) := by
  intro d
  induction d with
  | zero =>
    intro b h hb hS hT
    obtain rfl : b = 8 := by omega
    have q : ¬ (8 : Int32) < 8 := by decide
    refine ⟨h, ?_, Fr.rfl _, fun b' h1 h2 => by omega⟩
    rw [show nI 8 = (8 : Int32) from rfl]
    simp +decide only [e81_13, e81_14, e81_16, q, vkk_n, vkk_i, vkk_r, vkk_l, vkk_d, catS_nil, catS_i, catS_r, catS_l, catS_d, Nat.reduceAdd, Nat.reduceLeDiff, Nat.zero_le, Nat.le_refl, Option.bind_some, Option.toList_some, Option.toList_none, List.cons_append, List.nil_append, or_true, true_or, if_true, if_false, Int32.reduceLT, Int32.reduceLE, not_true, not_false_iff, true_and, and_true, false_and, and_false]
  | succ d ih =>
    intro b h hb hS hT
    have q : nI b < 8 := nI_lt (b := 8) (by omega) (by decide)
    have hv : vp_in (nI b) 8 := vp_in_nI (by omega) (by decide)
    have hc : (nI b).toNatClampNeg = b := nI_clamp (by omega)
    obtain ⟨sA, rA⟩ := st_bin hS (show b < 8 by omega)
    obtain ⟨sB, rB⟩ := st_bin hT (show b < 8 by omega)
    obtain ⟨h1, u1, u2, u3⟩ := c_binBecome h (S + (5 + 3 * b)) (T + (5 + 3 * b)) sA sB (by omega)
    have oA : ob h (S + (5 + 3 * b)) 1 := Bin_0 sA
    obtain ⟨h2, v1, v2, v3⟩ := ih (b + 1) h1 (by omega) ((ShState_kp u2.1 S).mpr hS) ((ShState_kp u2.1 T).mpr hT)
    refine ⟨h2, ?_, (u2.mo (fun a z => by omega) (fun a k z => by omega)).tr (v2.mo (fun a z => by omega) (fun a k z => by omega)), fun b' b1 b2 => ?_⟩
    · simp +decide only [e81_13, e81_14, e81_16, q, if_true]
      simp +decide only [e81_19, e81_20, e81_23, e81_24, e81_25, e81_26, e81_29, e81_30, e81_31, e81_34, e81_37, hv, hc, rA, rB, oA, vrf_some, u1, nI_1, (State_0 hS : ob h S 8), (eq_true (isI_ob (State_0 hS : ob h S 8) rfl : isI h S 3)), (rf_g (State_1 hS : rf h S 0 (S + 1)) : gR h S 0 = (S + 1)), (rf_is (State_1 hS : rf h S 0 (S + 1)) : isR h S 0), (rf_g (State_2 hS : rf h S 1 (S + 3)) : gR h S 1 = (S + 3)), (rf_is (State_2 hS : rf h S 1 (S + 3)) : isR h S 1), (rf_g (State_3 hS : rf h S 2 (S + 4)) : gR h S 2 = (S + 4)), (rf_is (State_3 hS : rf h S 2 (S + 4)) : isR h S 2), (State_5 hS : arR h (S + 3) 5), (rdR_5 (State_5 hS : arR h (S + 3) 5) : rdR h (S + 3)), (State_6 hS : aln h (S + 3) = 8), (State_8 hS : arL h (S + 4)), (State_9 hS : aln h (S + 4) = 8), (State_0 hT : ob h T 8), (eq_true (isI_ob (State_0 hT : ob h T 8) rfl : isI h T 3)), (rf_g (State_1 hT : rf h T 0 (T + 1)) : gR h T 0 = (T + 1)), (rf_is (State_1 hT : rf h T 0 (T + 1)) : isR h T 0), (rf_g (State_2 hT : rf h T 1 (T + 3)) : gR h T 1 = (T + 3)), (rf_is (State_2 hT : rf h T 1 (T + 3)) : isR h T 1), (rf_g (State_3 hT : rf h T 2 (T + 4)) : gR h T 2 = (T + 4)), (rf_is (State_3 hT : rf h T 2 (T + 4)) : isR h T 2), (State_5 hT : arR h (T + 3) 5), (rdR_5 (State_5 hT : arR h (T + 3) 5) : rdR h (T + 3)), (State_6 hT : aln h (T + 3) = 8), (State_8 hT : arL h (T + 4)), (State_9 hT : aln h (T + 4) = 8), vkk_n, vkk_i, vkk_r, vkk_l, vkk_d, catS_nil, catS_i, catS_r, catS_l, catS_d, Nat.reduceAdd, Nat.reduceLeDiff, Nat.zero_le, Nat.le_refl, Option.bind_some, Option.toList_some, Option.toList_none, List.cons_append, List.nil_append, or_true, true_or, if_true, if_false, Int32.reduceLT, Int32.reduceLE, not_true, not_false_iff, true_and, and_true, false_and, and_false, Nat.add_assoc, Nat.reduceAdd, Nat.add_left_cancel_iff, Nat.reduceEqDiff, Nat.add_eq_left, Nat.left_eq_add]
      exact v1
    · by_cases e : b' = b
      · subst e
        obtain ⟨w1, w2, w3⟩ := u3
        refine ⟨(v2.gI (fun z => by omega)).trans w1, (v2.gI (fun z => by omega)).trans w2, fun j hj => ?_⟩
        rw [v2.I (fun z => by omega), v2.L (fun z => by omega)]
        exact w3 j hj
      · obtain ⟨w1, w2, w3⟩ := v3 b' (by omega) b2
        refine ⟨w1.trans (u2.gI (fun z => by omega)), w2.trans (u2.gI (fun z => by omega)), fun j hj => ?_⟩
        have w4 := w3 j hj
        rw [w4.1, w4.2, u2.I (a := T + (5 + 3 * b') + 1) (fun z => by omega), u2.L (a := T + (5 + 3 * b') + 2) (fun z => by omega)]
        exact ⟨rfl, rfl⟩
def StEq (h1 : VG) (S : Nat) (h : VG) (T : Nat) : Prop := gI h1 (S + 1) 1 = gI h (T + 1) 1 ∧ gI h1 (S + 1) 2 = gI h (T + 1) 2 ∧ (∀ i, i < 256 → aI h1 (S + 2) i = aI h (T + 2) i) ∧ (∀ r, r < 8 → aL h1 (S + 4) r = aL h (T + 4) r) ∧ gI h1 S 3 = gI h T 3 ∧ ∀ b, b < 8 → BinEq h1 (S + (5 + 3 * b)) h (T + (5 + 3 * b))
theorem c_stBecome (h : VG) (S T : Nat) (ne : S + 28 < T ∨ T + 28 < S) (hS : ShState h S) (hT : ShState h T) (hb : bOk h (T + 2)) (hz : gI h (T + 1) 2 = 0 ∨ gI h (T + 1) 2 = 1) : ∃ h1, ev 81 0 [some (.ref S), some (.ref T), none] [] h = some (none, h1) ∧ Fr (fun a => S + 2 ≤ a ∧ a ≤ S + 28) (fun a k => S ≤ a ∧ a ≤ S + 28) h h1 ∧ StEq h1 S h T := by
  obtain ⟨h1, u1, u2, u3, u4, u5⟩ := c_memBecome h (S + 1) (T + 1) (State_4 hS) (State_4 hT) (by omega) hb hz
  have S1 := (ShState_kp u2.1 S).mpr hS
  have T1 := (ShState_kp u2.1 T).mpr hT
  obtain ⟨h2, v1, v2, v3⟩ := l_stBins S T ne 8 0 h1 rfl S1 T1
  have S2 := (ShState_kp v2.1 S).mpr S1
  have T2 := (ShState_kp v2.1 T).mpr T1
  have cq : vcopy h2 (T + 4) (S + 4) 0 0 8 = some (bL h2 (S + 4) (va_cpy (aL h2 (T + 4)) (aL h2 (S + 4)) 0 0 8)) := vcopyL (a := 0) (b := 0) (n := 8) (State_8 T2) (State_8 S2) (by rw [State_9 T2]; decide) (by rw [State_9 S2]; decide) (by decide) (by decide) (by decide)
  have x3 : Fr (fun a => a = S + 4) NF h2 (bL h2 (S + 4) (va_cpy (aL h2 (T + 4)) (aL h2 (S + 4)) 0 0 8)) := Fr_bL _ _ _ rfl
  have c2 : ∀ i, i < 8 → aL (bL h2 (S + 4) (va_cpy (aL h2 (T + 4)) (aL h2 (S + 4)) 0 0 8)) (S + 4) i = aL h2 (T + 4) i := fun i hi => by rw [aL_bL _ _ _ _ (State_8 S2), cpy_in hi]
  generalize bL h2 (S + 4) (va_cpy (aL h2 (T + 4)) (aL h2 (S + 4)) 0 0 8) = h3 at cq x3 c2
  have S3 := (ShState_kp x3.1 S).mpr S2
  have T3 := (ShState_kp x3.1 T).mpr T2
  have e1 := e81_52 [some (.ref S), some (.ref T), some (.int 8)] [] h2 (T + 4) (S + 4) 0 0 8 h3 c0_le cq
  have nST : ¬ T = S := by omega
  have x4 : Fr NR (fun a k => a = S ∧ k = 3) h3 (pI h3 S 3 (gI h3 T 3)) := Fr_pI _ _ _ _ ⟨rfl, rfl⟩
  have o1 : ob h (S + 1) 5 := Mem_0 (State_4 hS)
  refine ⟨pI h3 S 3 (gI h3 T 3), ?_, (((u2.mo (fun a z => by omega) (fun a k z => by omega)).tr (v2.mo (fun a z => by omega) (fun a k z => by omega))).tr ((x3.mo (fun a z => by omega) (fun _ _ z => z.elim)).tr (x4.mo (fun _ z => z.elim) (fun a k z => by omega)))), ?_, ?_, fun i hi => ?_, fun r hr => ?_, ?_, fun b hb' => ?_⟩
  · have v1' : ev 81 13 [some (.ref S), some (.ref T), some (.int 0)] [] h1 = _ := v1
    simp +decide only [e81_0, e81_1, e81_4, e81_5, e81_8, e81_11, e81_12, u1, o1, v1', (State_0 hS : ob h S 8), (eq_true (isI_ob (State_0 hS : ob h S 8) rfl : isI h S 3)), (rf_g (State_1 hS : rf h S 0 (S + 1)) : gR h S 0 = (S + 1)), (rf_is (State_1 hS : rf h S 0 (S + 1)) : isR h S 0), (rf_g (State_2 hS : rf h S 1 (S + 3)) : gR h S 1 = (S + 3)), (rf_is (State_2 hS : rf h S 1 (S + 3)) : isR h S 1), (rf_g (State_3 hS : rf h S 2 (S + 4)) : gR h S 2 = (S + 4)), (rf_is (State_3 hS : rf h S 2 (S + 4)) : isR h S 2), (State_5 hS : arR h (S + 3) 5), (rdR_5 (State_5 hS : arR h (S + 3) 5) : rdR h (S + 3)), (State_6 hS : aln h (S + 3) = 8), (State_8 hS : arL h (S + 4)), (State_9 hS : aln h (S + 4) = 8), (State_0 hT : ob h T 8), (eq_true (isI_ob (State_0 hT : ob h T 8) rfl : isI h T 3)), (rf_g (State_1 hT : rf h T 0 (T + 1)) : gR h T 0 = (T + 1)), (rf_is (State_1 hT : rf h T 0 (T + 1)) : isR h T 0), (rf_g (State_2 hT : rf h T 1 (T + 3)) : gR h T 1 = (T + 3)), (rf_is (State_2 hT : rf h T 1 (T + 3)) : isR h T 1), (rf_g (State_3 hT : rf h T 2 (T + 4)) : gR h T 2 = (T + 4)), (rf_is (State_3 hT : rf h T 2 (T + 4)) : isR h T 2), (State_5 hT : arR h (T + 3) 5), (rdR_5 (State_5 hT : arR h (T + 3) 5) : rdR h (T + 3)), (State_6 hT : aln h (T + 3) = 8), (State_8 hT : arL h (T + 4)), (State_9 hT : aln h (T + 4) = 8), (State_0 S1 : ob h1 S 8), (eq_true (isI_ob (State_0 S1 : ob h1 S 8) rfl : isI h1 S 3)), (rf_g (State_1 S1 : rf h1 S 0 (S + 1)) : gR h1 S 0 = (S + 1)), (rf_is (State_1 S1 : rf h1 S 0 (S + 1)) : isR h1 S 0), (rf_g (State_2 S1 : rf h1 S 1 (S + 3)) : gR h1 S 1 = (S + 3)), (rf_is (State_2 S1 : rf h1 S 1 (S + 3)) : isR h1 S 1), (rf_g (State_3 S1 : rf h1 S 2 (S + 4)) : gR h1 S 2 = (S + 4)), (rf_is (State_3 S1 : rf h1 S 2 (S + 4)) : isR h1 S 2), (State_5 S1 : arR h1 (S + 3) 5), (rdR_5 (State_5 S1 : arR h1 (S + 3) 5) : rdR h1 (S + 3)), (State_6 S1 : aln h1 (S + 3) = 8), (State_8 S1 : arL h1 (S + 4)), (State_9 S1 : aln h1 (S + 4) = 8), vkk_n, vkk_i, vkk_r, vkk_l, vkk_d, catS_nil, catS_i, catS_r, catS_l, catS_d, Nat.reduceAdd, Nat.reduceLeDiff, Nat.zero_le, Nat.le_refl, Option.bind_some, Option.toList_some, Option.toList_none, List.cons_append, List.nil_append, or_true, true_or, if_true, if_false, Int32.reduceLT, Int32.reduceLE, not_true, not_false_iff, true_and, and_true, false_and, and_false, Nat.add_assoc, Nat.reduceAdd, Nat.add_left_cancel_iff, Nat.reduceEqDiff, Nat.add_eq_left, Nat.left_eq_add]
    rw [show nI 8 = (8 : Int32) from rfl]
    simp +decide only [e81_40, e81_41, e81_44, e81_45, e81_46, e81_49, e81_50, e81_52, e81_55, e81_56, e81_57, e81_60, e81_63, e1, (State_0 S2 : ob h2 S 8), (eq_true (isI_ob (State_0 S2 : ob h2 S 8) rfl : isI h2 S 3)), (rf_g (State_1 S2 : rf h2 S 0 (S + 1)) : gR h2 S 0 = (S + 1)), (rf_is (State_1 S2 : rf h2 S 0 (S + 1)) : isR h2 S 0), (rf_g (State_2 S2 : rf h2 S 1 (S + 3)) : gR h2 S 1 = (S + 3)), (rf_is (State_2 S2 : rf h2 S 1 (S + 3)) : isR h2 S 1), (rf_g (State_3 S2 : rf h2 S 2 (S + 4)) : gR h2 S 2 = (S + 4)), (rf_is (State_3 S2 : rf h2 S 2 (S + 4)) : isR h2 S 2), (State_5 S2 : arR h2 (S + 3) 5), (rdR_5 (State_5 S2 : arR h2 (S + 3) 5) : rdR h2 (S + 3)), (State_6 S2 : aln h2 (S + 3) = 8), (State_8 S2 : arL h2 (S + 4)), (State_9 S2 : aln h2 (S + 4) = 8), (State_0 T2 : ob h2 T 8), (eq_true (isI_ob (State_0 T2 : ob h2 T 8) rfl : isI h2 T 3)), (rf_g (State_1 T2 : rf h2 T 0 (T + 1)) : gR h2 T 0 = (T + 1)), (rf_is (State_1 T2 : rf h2 T 0 (T + 1)) : isR h2 T 0), (rf_g (State_2 T2 : rf h2 T 1 (T + 3)) : gR h2 T 1 = (T + 3)), (rf_is (State_2 T2 : rf h2 T 1 (T + 3)) : isR h2 T 1), (rf_g (State_3 T2 : rf h2 T 2 (T + 4)) : gR h2 T 2 = (T + 4)), (rf_is (State_3 T2 : rf h2 T 2 (T + 4)) : isR h2 T 2), (State_5 T2 : arR h2 (T + 3) 5), (rdR_5 (State_5 T2 : arR h2 (T + 3) 5) : rdR h2 (T + 3)), (State_6 T2 : aln h2 (T + 3) = 8), (State_8 T2 : arL h2 (T + 4)), (State_9 T2 : aln h2 (T + 4) = 8), (State_0 S3 : ob h3 S 8), (eq_true (isI_ob (State_0 S3 : ob h3 S 8) rfl : isI h3 S 3)), (rf_g (State_1 S3 : rf h3 S 0 (S + 1)) : gR h3 S 0 = (S + 1)), (rf_is (State_1 S3 : rf h3 S 0 (S + 1)) : isR h3 S 0), (rf_g (State_2 S3 : rf h3 S 1 (S + 3)) : gR h3 S 1 = (S + 3)), (rf_is (State_2 S3 : rf h3 S 1 (S + 3)) : isR h3 S 1), (rf_g (State_3 S3 : rf h3 S 2 (S + 4)) : gR h3 S 2 = (S + 4)), (rf_is (State_3 S3 : rf h3 S 2 (S + 4)) : isR h3 S 2), (State_5 S3 : arR h3 (S + 3) 5), (rdR_5 (State_5 S3 : arR h3 (S + 3) 5) : rdR h3 (S + 3)), (State_6 S3 : aln h3 (S + 3) = 8), (State_8 S3 : arL h3 (S + 4)), (State_9 S3 : aln h3 (S + 4) = 8), (State_0 T3 : ob h3 T 8), (eq_true (isI_ob (State_0 T3 : ob h3 T 8) rfl : isI h3 T 3)), (rf_g (State_1 T3 : rf h3 T 0 (T + 1)) : gR h3 T 0 = (T + 1)), (rf_is (State_1 T3 : rf h3 T 0 (T + 1)) : isR h3 T 0), (rf_g (State_2 T3 : rf h3 T 1 (T + 3)) : gR h3 T 1 = (T + 3)), (rf_is (State_2 T3 : rf h3 T 1 (T + 3)) : isR h3 T 1), (rf_g (State_3 T3 : rf h3 T 2 (T + 4)) : gR h3 T 2 = (T + 4)), (rf_is (State_3 T3 : rf h3 T 2 (T + 4)) : isR h3 T 2), (State_5 T3 : arR h3 (T + 3) 5), (rdR_5 (State_5 T3 : arR h3 (T + 3) 5) : rdR h3 (T + 3)), (State_6 T3 : aln h3 (T + 3) = 8), (State_8 T3 : arL h3 (T + 4)), (State_9 T3 : aln h3 (T + 4) = 8), vkk_n, vkk_i, vkk_r, vkk_l, vkk_d, catS_nil, catS_i, catS_r, catS_l, catS_d, Nat.reduceAdd, Nat.reduceLeDiff, Nat.zero_le, Nat.le_refl, Option.bind_some, Option.toList_some, Option.toList_none, List.cons_append, List.nil_append, or_true, true_or, if_true, if_false, Int32.reduceLT, Int32.reduceLE, not_true, not_false_iff, true_and, and_true, false_and, and_false, Nat.add_assoc, Nat.reduceAdd, Nat.add_left_cancel_iff, Nat.reduceEqDiff, Nat.add_eq_left, Nat.left_eq_add]
  · exact (x4.gI (fun z => by omega)).trans ((x3.gI (fun z => z)).trans ((v2.gI (fun z => by omega)).trans u3))
  · exact (x4.gI (fun z => by omega)).trans ((x3.gI (fun z => z)).trans ((v2.gI (fun z => by omega)).trans u4))
  · rw [x4.I (fun z => z), x3.I (fun z => by omega), v2.I (fun z => by omega)]
    exact u5 i hi
  · rw [x4.L (fun z => z), c2 r hr, v2.L (fun z => by omega), u2.L (fun z => by omega)]
  · have oS : ob h3 S 8 := State_0 S3
    have := isI_ob oS (k := 3) rfl
    rw [gI_pI, if_pos ⟨rfl, rfl, this⟩, x3.gI (fun z => z), v2.gI (fun z => by omega), u2.gI (fun z => by omega)]
  · obtain ⟨w1, w2, w3⟩ := v3 b (Nat.zero_le _) hb'
    refine ⟨(x4.gI (fun z => by omega)).trans ((x3.gI (fun z => z)).trans (w1.trans (u2.gI (fun z => by omega)))), (x4.gI (fun z => by omega)).trans ((x3.gI (fun z => z)).trans (w2.trans (u2.gI (fun z => by omega)))), fun j hj => ?_⟩
    have w4 := w3 j hj
    rw [x4.I (fun z => z), x4.L (fun z => z), x3.I (fun z => by omega), x3.L (fun z => by omega), w4.1, w4.2, u2.I (a := T + (5 + 3 * b) + 1) (fun z => by omega), u2.L (a := T + (5 + 3 * b) + 2) (fun z => by omega)]
    exact ⟨rfl, rfl⟩
