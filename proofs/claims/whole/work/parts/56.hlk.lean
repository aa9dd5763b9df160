/-! hold, restore: both sides -/
theorem slot_s {s : Int32} : (∃ j, j < 2 ∧ s = nI j) ∨ ((s < 0 ∨ (¬ s < 0 ∧ ¬ s < 2)) ∧ mIn s 0 1 = 0) := by
  by_cases h0 : s < 0
  · exact Or.inr ⟨Or.inl h0, mIn_0 h0⟩
  · by_cases h1 : s < 2
    · exact Or.inl (vnat (n := 2) (by decide) h0 h1)
    · exact Or.inr ⟨Or.inr ⟨h0, h1⟩, mIn_2 (fun z => h1 ((nI_lti (n := 1) (by decide)).mp z))⟩
theorem slot_sh {h : VG} {g σ : Nat} (hs : Sh h g) (hσ : σ < 2) : ShState h (g + (202 + 29 * σ)) ∧ aR h (g + 201) σ = some (g + (202 + 29 * σ)) := by
  rcases (show σ = 0 ∨ σ = 1 by omega) with rfl | rfl
  · exact ⟨Cls_22 hs.1, Cls_20 hs.1⟩
  · exact ⟨Cls_23 hs.1, Cls_21 hs.1⟩
theorem RMm_bOk {h : VG} {A M o : Nat} (hr : RMm h A M o) : bOk h A := fun i hi => by
  obtain ⟨v, _, _, e⟩ := hr i hi
  exact ⟨_, e⟩
/-- what a slot's group hangs on, cell by cell -/
theorem RSl_pt {h h2 : VG} {g σ : Nat} (e1 : aI h2 (g + 260) σ = aI h (g + 260) σ) (e2 : aI h2 (g + 299) σ = aI h (g + 299) σ) (e3 : aI h2 (g + 307) σ = aI h (g + 307) σ) (e4 : gI h2 (g + 173) 1 = gI h (g + 173) 1) (e5 : gI h2 (g + 173) 2 = gI h (g + 173) 2) (e6 : ∀ a k, g + (202 + 29 * σ) ≤ a → a ≤ g + (230 + 29 * σ) → gI h2 a k = gI h a k) (e7 : ∀ a j, g + (202 + 29 * σ) ≤ a → a ≤ g + (230 + 29 * σ) → aI h2 a j = aI h a j ∧ aL h2 a j = aL h a j) (e8 : ∀ i, i < 256 → aI h2 (g + 300) (256 * σ + i) = aI h (g + 300) (256 * σ + i)) (e9 : ∀ i, i < 8 → aI h2 (g + 301) (8 * σ + i) = aI h (g + 301) (8 * σ + i) ∧ aI h2 (g + 302) (8 * σ + i) = aI h (g + 302) (8 * σ + i) ∧ aL h2 (g + 306) (8 * σ + i) = aL h (g + 306) (8 * σ + i)) (e10 : ∀ i, i < 320 → aI h2 (g + 303) (320 * σ + i) = aI h (g + 303) (320 * σ + i) ∧ aL h2 (g + 304) (320 * σ + i) = aL h (g + 304) (320 * σ + i) ∧ aD h2 (g + 305) (320 * σ + i) = aD h (g + 305) (320 * σ + i)) (hh : RSl h g σ) : RSl h2 g σ := by
  obtain ⟨q1, q2, q3⟩ := hh
  unfold RSl
  rw [e1, e2]
  refine ⟨q1, q2, fun z => ?_⟩
  obtain ⟨⟨l, fr, t1, t2, t3, t4, t5, t6⟩, s2, s3, s4⟩ := q3 z
  refine ⟨⟨l, fr, e4.trans t1, t2, (e6 _ _ (by omega) (by omega)).trans t3, ?_, (e6 _ _ (by omega) (by omega)).trans t5, e3.trans t6⟩, fun i hi => ?_, fun r hr => ?_, fun b hb => ?_⟩
  · rw [e6 _ _ (by omega) (by omega), e5]
    exact t4
  · rw [e8 i hi, (e7 _ _ (by omega) (by omega)).1]
    exact s2 i hi
  · rw [(e9 r hr).2.2, (e7 _ _ (by omega) (by omega)).2]
    exact s3 r hr
  · obtain ⟨s, n, a1, a2, a3, a4, a5, a6, a7, a8⟩ := s4 b hb
    refine ⟨s, n, a1, a2, a3, (e6 _ _ (by omega) (by omega)).trans a4, (e9 b hb).1.trans a5, (e6 _ _ (by omega) (by omega)).trans a6, (e9 b hb).2.1.trans a7, fun i hi => ?_⟩
    have f1 := e10 (40 * b + i) (by omega)
    rw [← Nat.add_assoc] at f1
    rw [(e7 _ _ (by omega) (by omega)).1, (e7 (g + (207 + 29 * σ + 3 * b) + 2) _ (by omega) (by omega)).2, f1.1, f1.2.1, f1.2.2]
    exact a8 i hi
theorem BinEq_RBn {h h2 : VG} {A B SR so MR CK CW CR co b SR2 so2 MR2 CK2 CW2 CR2 co2 : Nat} (hb : b < 8) (e : BinEq h2 A h B) (y1 : aI h2 SR2 (so2 + b) = aI h SR (so + b)) (y2 : aI h2 MR2 (so2 + b) = aI h MR (so + b)) (y3 : ∀ i, i < 40 → aI h2 CK2 (co2 + 40 * b + i) = aI h CK (co + 40 * b + i) ∧ aL h2 CW2 (co2 + 40 * b + i) = aL h CW (co + 40 * b + i) ∧ aD h2 CR2 (co2 + 40 * b + i) = aD h CR (co + 40 * b + i)) (hh : RBn h B SR so MR CK CW CR co b) : RBn h2 A SR2 so2 MR2 CK2 CW2 CR2 co2 b := by
  obtain ⟨s, n, a1, a2, a3, a4, a5, a6, a7, a8⟩ := hh
  obtain ⟨w1, w2, w3⟩ := e
  refine ⟨s, n, a1, a2, a3, w1.trans a4, y1.trans a5, w2.trans a6, y2.trans a7, fun i hi => ?_⟩
  have f1 := y3 i (by omega)
  have f2 := w3 i (by omega)
  rw [f2.1, f2.2, f1.1, f1.2.1, f1.2.2]
  exact a8 i hi
def HR (g : Nat) : Nat → Prop := fun a => g + 300 ≤ a ∧ a ≤ g + 306
theorem k_hold (h : VG) (g : Nat) (R : Inv h g) (s : Int32) : CalI h g 132 [some (.ref g), some (.int s)] 229 [some (.ref (g + 266)), some (.int s), none] := by
  rcases slot_s (s := s) with ⟨σ, hσ, rfl⟩ | ⟨q1, q2⟩
  · have n0 : ¬ nI σ < 0 := nI_pos (by omega)
    have n1 : nI σ < 2 := nI_lt (b := 2) hσ (by decide)
    have hv : vp_in (nI σ) 2 := vp_in_nI hσ (by decide)
    have hc : (nI σ).toNatClampNeg = σ := nI_clamp (by omega)
    have i1 : mIn (nI σ) 0 1 = 1 := by
      have : ∀ j : Fin 2, mIn (nI j.val) 0 1 = 1 := by decide
      exact this ⟨σ, hσ⟩
    have b3 := fun h => mIn_c (h := h) i1
    obtain ⟨sS, rS⟩ := slot_sh R.sh hσ
    have sT : ShState h (g + 172) := Cls_17 R.cls
    obtain ⟨l, fr, l1, l2, l3, d1, d2, d3, d4, d5, d6⟩ := R.hd
    obtain ⟨h1, u1, u2, u3⟩ := c_stBecome h (g + (202 + 29 * σ)) (g + 172) (by omega) sS sT (RMm_bOk R.mem) (by rw [show g + 172 + 1 = g + 173 from rfl, d5]; exact d6)
    have s1 : Sh h1 g := Sh_fr u2 (fun a z => by omega) R.sh
    have x1 : Fr (fun a => a = g + 260) NF h1 (wI h1 (g + 260) σ 1) := Fr_wI _ _ _ _ rfl
    have c260 : ∀ j, aI (wI h1 (g + 260) σ 1) (g + 260) j = if j = σ then 1 else aI h1 (g + 260) j := by
      intro j
      rw [aI_wI3 _ _ _ _ _ _ (Cls_24 s1.1)]
      simp only [true_and]
    have s2 : Sh (wI h1 (g + 260) σ 1) g := Sh_fr x1 (fun a z => by omega) s1
    have oS : ob h (g + (202 + 29 * σ)) 8 := State_0 sS
    have bz : vp_nar .boolean 1 = 1 := by decide
    have e1 : ev 132 0 [some (.ref g), some (.int (nI σ))] [] h = some (some (.int 1), wI h1 (g + 260) σ 1) := by
      simp +decide only [e132_0, e132_1, e132_4, e132_5, e132_6, e132_9, e132_10, e132_11, e132_12, e132_15, e132_16, e132_17, e132_18, e132_21, e132_24, e132_25, e132_28, e132_29, e132_30, e132_30z, e132_31, e132_32, n0, n1, hv, hc, rS, oS, vrf_some, u1, bz, (Cls_0 R.cls : ob h g 10), (rf_g (Cls_3 R.cls : rf h g 6 (g + 172)) : gR h g 6 = (g + 172)), (rf_is (Cls_3 R.cls : rf h g 6 (g + 172)) : isR h g 6), (rf_g (Cls_4 R.cls : rf h g 7 (g + 201)) : gR h g 7 = (g + 201)), (rf_is (Cls_4 R.cls : rf h g 7 (g + 201)) : isR h g 7), (rf_g (Cls_5 R.cls : rf h g 8 (g + 260)) : gR h g 8 = (g + 260)), (rf_is (Cls_5 R.cls : rf h g 8 (g + 260)) : isR h g 8), (Cls_18 R.cls : arR h (g + 201) 7), (rdR_7 (Cls_18 R.cls : arR h (g + 201) 7) : rdR h (g + 201)), (Cls_19 R.cls : aln h (g + 201) = 2), (Cls_20 R.cls : aR h (g + 201) 0 = some (g + 202)), (Cls_21 R.cls : aR h (g + 201) 1 = some (g + 231)), (Cls_24 R.cls : arI h (g + 260) 3), (rdB_3 (Cls_24 R.cls : arI h (g + 260) 3) : rdB h (g + 260)), (Cls_25 R.cls : aln h (g + 260) = 2), (Cls_0 s1.1 : ob h1 g 10), (rf_g (Cls_5 s1.1 : rf h1 g 8 (g + 260)) : gR h1 g 8 = (g + 260)), (rf_is (Cls_5 s1.1 : rf h1 g 8 (g + 260)) : isR h1 g 8), (Cls_24 s1.1 : arI h1 (g + 260) 3), (rdB_3 (Cls_24 s1.1 : arI h1 (g + 260) 3) : rdB h1 (g + 260)), (Cls_25 s1.1 : aln h1 (g + 260) = 2), Nat.add_assoc, Nat.reduceAdd, Nat.add_left_cancel_iff, Nat.reduceEqDiff, Nat.add_eq_left, Nat.left_eq_add, vkk_n, vkk_i, vkk_r, vkk_l, vkk_d, catS_nil, catS_i, catS_r, catS_l, catS_d, Nat.reduceAdd, Nat.reduceLeDiff, Nat.zero_le, Nat.le_refl, Option.bind_some, Option.toList_some, Option.toList_none, List.cons_append, List.nil_append, or_true, true_or, if_true, if_false, Int32.reduceLT, Int32.reduceLE, not_true, not_false_iff, true_and, and_true, false_and, and_false]
    generalize wI h1 (g + 260) σ 1 = h2 at x1 c260 s2 e1
    have F := u2.un x1
    -- the model
    have M := fun a (ha : g + 266 ≤ a) => (show ¬ ((g + (202 + 29 * σ) + 2 ≤ a ∧ a ≤ g + (202 + 29 * σ) + 28) ∨ a = g + 260) by omega)
    obtain ⟨m1, v1, v2, v3, v4⟩ := l_hold1 g σ hσ (aI h (g + 277)) 256 0 h2 rfl s2 (fun i _ => F.I (M _ (by omega)) i)
    have y1 : Sh m1 g := Sh_fr v2 (fun a z => by omega) s2
    have F1 := F.un v2
    obtain ⟨m2, p1, p2, p3, p4⟩ := l_hold2 g σ hσ (aI h (g + 285)) (aI h (g + 286)) (aL h (g + 298)) 8 0 m1 rfl y1 (fun i _ => F1.I (by omega) i) (fun i _ => F1.I (by omega) i) (fun i _ => F1.L (by omega) i)
    have y2 : Sh m2 g := Sh_fr p2 (fun a z => by omega) y1
    have F2 := F1.un p2
    obtain ⟨m3, r1, r2, r3, r4⟩ := l_hold3 g σ hσ (aI h (g + 287)) (aL h (g + 288)) (aD h (g + 289)) 320 0 m2 rfl y2 (fun i _ => F2.I (by omega) i) (fun i _ => F2.L (by omega) i) (fun i _ => F2.D (by omega) i)
    have y3 : Sh m3 g := Sh_fr r2 (fun a z => by omega) y2
    have F3 := F2.un r2
    have g57 : gI m3 (g + 266) 57 = nI fr := (F3.gI (fun z => by rcases z with (((z | z) | z) | z) | z; omega; exact z; exact z; exact z; exact z)).trans d4
    have x4 : Fr (fun a => a = g + 307 ∨ a = g + 299) NF m3 (wI (wI m3 (g + 307) σ (nI fr)) (g + 299) σ 1) := (Fr_wI _ _ _ _ (Or.inl rfl)).tr (Fr_wI _ _ _ _ (Or.inr rfl))
    have a307 : arI m3 (g + 307) 0 := Mod_122 y3.2.1
    have a299 : arI m3 (g + 299) 3 := Mod_98 y3.2.1
    have c299 : ∀ j, aI (wI (wI m3 (g + 307) σ (nI fr)) (g + 299) σ 1) (g + 299) j = if j = σ then 1 else aI m3 (g + 299) j := by
      intro j
      rw [aI_wI3 _ _ _ _ _ _ ((arI_wI ..).mpr a299), aI_wI_ne _ _ _ _ _ _ (by omega)]
      simp only [true_and]
    have c307 : ∀ j, aI (wI (wI m3 (g + 307) σ (nI fr)) (g + 299) σ 1) (g + 307) j = if j = σ then nI fr else aI m3 (g + 307) j := by
      intro j
      rw [aI_wI_ne _ _ _ _ _ _ (by omega), aI_wI0 _ _ _ _ _ _ a307]
      simp only [true_and]
    have e2 : ev 229 0 [some (.ref (g + 266)), some (.int (nI σ)), none] [] h2 = some (some (.int 1), wI (wI m3 (g + 307) σ (nI fr)) (g + 299) σ 1) := by
      simp +decide only [e229_0, e229_1, e229_2, e229_3, e229_6, e229_9, e229_10, e229_11, e229_12, b3, vkk_n, vkk_i, vkk_r, vkk_l, vkk_d, catS_nil, catS_i, catS_r, catS_l, catS_d, Nat.reduceAdd, Nat.reduceLeDiff, Nat.zero_le, Nat.le_refl, Option.bind_some, Option.toList_some, Option.toList_none, List.cons_append, List.nil_append, or_true, true_or, if_true, if_false, Int32.reduceLT, Int32.reduceLE, not_true, not_false_iff, true_and, and_true, false_and, and_false, Nat.add_assoc, Nat.reduceAdd, Nat.add_left_cancel_iff, Nat.reduceEqDiff, Nat.add_eq_left, Nat.left_eq_add]
      refine v1.trans ?_
      rw [show nI 256 = (256 : Int32) from rfl]
      simp +decide only [e229_44, e229_45, vkk_n, vkk_i, vkk_r, vkk_l, vkk_d, catS_nil, catS_i, catS_r, catS_l, catS_d, Nat.reduceAdd, Nat.reduceLeDiff, Nat.zero_le, Nat.le_refl, Option.bind_some, Option.toList_some, Option.toList_none, List.cons_append, List.nil_append, or_true, true_or, if_true, if_false, Int32.reduceLT, Int32.reduceLE, not_true, not_false_iff, true_and, and_true, false_and, and_false]
      refine p1.trans ?_
      rw [show nI 8 = (8 : Int32) from rfl]
      simp +decide only [e229_109, e229_110, vkk_n, vkk_i, vkk_r, vkk_l, vkk_d, catS_nil, catS_i, catS_r, catS_l, catS_d, Nat.reduceAdd, Nat.reduceLeDiff, Nat.zero_le, Nat.le_refl, Option.bind_some, Option.toList_some, Option.toList_none, List.cons_append, List.nil_append, or_true, true_or, if_true, if_false, Int32.reduceLT, Int32.reduceLE, not_true, not_false_iff, true_and, and_true, false_and, and_false]
      refine r1.trans ?_
      rw [show nI 320 = (320 : Int32) from rfl]
      simp +decide only [e229_178, e229_179, e229_182, e229_183, e229_184, e229_187, e229_188, e229_189, e229_192, e229_193, e229_194, e229_194z, e229_195, e229_196, g57, hv, hc, bz, (Mod_0 y3.2.1 : ob m3 (g + 266) 11), (rf_g (Mod_97 y3.2.1 : rf m3 (g + 266) 58 (g + 299)) : gR m3 (g + 266) 58 = (g + 299)), (rf_is (Mod_97 y3.2.1 : rf m3 (g + 266) 58 (g + 299)) : isR m3 (g + 266) 58), (Mod_98 y3.2.1 : arI m3 (g + 299) 3), (rdB_3 (Mod_98 y3.2.1 : arI m3 (g + 299) 3) : rdB m3 (g + 299)), (Mod_99 y3.2.1 : aln m3 (g + 299) = 2), (rf_g (Mod_121 y3.2.1 : rf m3 (g + 266) 66 (g + 307)) : gR m3 (g + 266) 66 = (g + 307)), (rf_is (Mod_121 y3.2.1 : rf m3 (g + 266) 66 (g + 307)) : isR m3 (g + 266) 66), (Mod_122 y3.2.1 : arI m3 (g + 307) 0), (rdI_0 (Mod_122 y3.2.1 : arI m3 (g + 307) 0) : rdI m3 (g + 307)), (Mod_123 y3.2.1 : aln m3 (g + 307) = 2), ob_pI, rf_pI, isR_pI, isI_pI, isL_pI, arI_pI, arL_pI, arR_pI, arD_pI, aln_pI, rdI_pI, rdB_pI, rdR_pI, aR_pI, pI_2, gI_pI, gL_pI, gD_pI, gR_pI, aI_pI, aL_pI, aD_pI, ob_pL, rf_pL, isR_pL, isI_pL, isL_pL, arI_pL, arL_pL, arR_pL, arD_pL, aln_pL, rdI_pL, rdB_pL, rdR_pL, aR_pL, pL_2, gI_pL, gL_pL, gD_pL, gR_pL, aI_pL, aL_pL, aD_pL, ob_wI, rf_wI, isR_wI, isI_wI, isL_wI, arI_wI, arL_wI, arR_wI, arD_wI, aln_wI, rdI_wI, rdB_wI, rdR_wI, aR_wI, wI_2, gI_wI, gL_wI, gD_wI, gR_wI, aL_wI, aD_wI, aI_wI_ne, ob_wL, rf_wL, isR_wL, isI_wL, isL_wL, arI_wL, arL_wL, arR_wL, arD_wL, aln_wL, rdI_wL, rdB_wL, rdR_wL, aR_wL, wL_2, gI_wL, gL_wL, gD_wL, gR_wL, aI_wL, aD_wL, aL_wL_ne, ob_bI, rf_bI, isR_bI, isI_bI, isL_bI, arI_bI, arL_bI, arR_bI, arD_bI, aln_bI, rdI_bI, rdB_bI, rdR_bI, aR_bI, bI_2, gI_bI, gL_bI, gD_bI, gR_bI, aL_bI, aD_bI, aI_bI_ne, ob_bL, rf_bL, isR_bL, isI_bL, isL_bL, arI_bL, arL_bL, arR_bL, arD_bL, aln_bL, rdI_bL, rdB_bL, rdR_bL, aR_bL, bL_2, gI_bL, gL_bL, gD_bL, gR_bL, aI_bL, aD_bL, aL_bL_ne, vkk_n, vkk_i, vkk_r, vkk_l, vkk_d, catS_nil, catS_i, catS_r, catS_l, catS_d, Nat.reduceAdd, Nat.reduceLeDiff, Nat.zero_le, Nat.le_refl, Option.bind_some, Option.toList_some, Option.toList_none, List.cons_append, List.nil_append, or_true, true_or, if_true, if_false, Int32.reduceLT, Int32.reduceLE, not_true, not_false_iff, true_and, and_true, false_and, and_false, Nat.add_assoc, Nat.reduceAdd, Nat.add_left_cancel_iff, Nat.reduceEqDiff, Nat.add_eq_left, Nat.left_eq_add]
    generalize wI (wI m3 (g + 307) σ (nI fr)) (g + 299) σ 1 = m4 at x4 c299 c307 e2
    have zz := F3.un x4
    have cR : ∀ a, (((((g + (202 + 29 * σ) + 2 ≤ a ∧ a ≤ g + (202 + 29 * σ) + 28) ∨ a = g + 260) ∨ a = g + 300) ∨ (a = g + 301 ∨ a = g + 302 ∨ a = g + 306)) ∨ (a = g + 303 ∨ a = g + 304 ∨ a = g + 305)) ∨ (a = g + 307 ∨ a = g + 299) → (g + (202 + 29 * σ) + 2 ≤ a ∧ a ≤ g + (202 + 29 * σ) + 28) ∨ a = g + 260 ∨ (g + 299 ≤ a ∧ a ≤ g + 307) := by
      intro a z
      omega
    have dF : ∀ a k, (((((g + (202 + 29 * σ) ≤ a ∧ a ≤ g + (202 + 29 * σ) + 28) ∨ NF a k) ∨ NF a k) ∨ NF a k) ∨ NF a k) ∨ NF a k → g + (202 + 29 * σ) ≤ a ∧ a ≤ g + (202 + 29 * σ) + 28 := by
      intro a k z
      rcases z with ((((z | z) | z) | z) | z) | z
      · exact z
      all_goals exact z.elim
    refine ⟨1, h2, m4, e1, e2, ?_, zz.two⟩
    have K : ∀ τ, τ < 2 → ¬ τ = σ → RSl h g τ → RSl m4 g τ := by
      intro τ hτ ne rr
      have e299 : aI m4 (g + 299) τ = aI h (g + 299) τ := by rw [c299, if_neg ne]; exact F3.I (by omega) _
      have e260 : aI m4 (g + 260) τ = aI h (g + 260) τ := by
        rw [x4.I (by omega), r2.I (by omega), p2.I (by omega), v2.I (by omega), c260, if_neg ne]
        exact u2.I (by omega) _
      have e307 : aI m4 (g + 307) τ = aI h (g + 307) τ := by rw [c307, if_neg ne]; exact F3.I (by omega) _
      refine RSl_pt e260 e299 e307 (zz.gI (fun z => by have := dF _ _ z; omega)) (zz.gI (fun z => by have := dF _ _ z; omega)) (fun a k a1 a2 => zz.gI (fun z => by have := dF _ _ z; omega)) (fun a j a1 a2 => ⟨zz.I (fun z => by have := cR _ z; omega) _, zz.L (fun z => by have := cR _ z; omega) _⟩) (fun i hi => ?_) (fun i hi => ?_) (fun i hi => ?_) rr
      · rw [x4.I (by omega), r2.I (by omega), p2.I (by omega), v4 _ (by omega), F.I (by omega)]
      · have a := p4 (8 * τ + i) (by omega)
        refine ⟨?_, ?_, ?_⟩
        · rw [x4.I (by omega), r2.I (by omega), a.1, F1.I (by omega)]
        · rw [x4.I (by omega), r2.I (by omega), a.2.1, F1.I (by omega)]
        · rw [x4.L (by omega), r2.L (by omega), a.2.2, F1.L (by omega)]
      · have a := r4 (320 * τ + i) (by omega)
        refine ⟨?_, ?_, ?_⟩
        · rw [x4.I (by omega), a.1, F2.I (by omega)]
        · rw [x4.L (by omega), a.2.1, F2.L (by omega)]
        · rw [x4.D (by omega), a.2.2, F2.D (by omega)]
    have W : RSl m4 g σ := by
      obtain ⟨w1, w2, w3, w4, w5, w6⟩ := u3
      have cls : ∀ a, a < g + 260 → (∀ j, aI m4 a j = aI h1 a j) ∧ (∀ j, aL m4 a j = aL h1 a j) ∧ ∀ k, gI m4 a k = gI h1 a k := by
        intro a ha
        refine ⟨fun j => ?_, fun j => ?_, fun k => ?_⟩
        · rw [x4.I (by omega), r2.I (by omega), p2.I (by omega), v2.I (by omega), x1.I (by omega)]
        · rw [x4.L (by omega), r2.L (by omega), p2.L (by omega), v2.L (by omega), x1.L (by omega)]
        · rw [x4.gI (fun z => z), r2.gI (fun z => z), p2.gI (fun z => z), v2.gI (fun z => z), x1.gI (fun z => z)]
      have e299 : aI m4 (g + 299) σ = 1 := by rw [c299, if_pos rfl]
      have e260 : aI m4 (g + 260) σ = 1 := by
        rw [x4.I (by omega), r2.I (by omega), p2.I (by omega), v2.I (by omega), c260, if_pos rfl]
      unfold RSl
      rw [e299, e260]
      refine ⟨rfl, Or.inr rfl, fun _ => ⟨⟨l, fr, ?_, ⟨l2, l3⟩, ?_, ?_, ?_, ?_⟩, fun i hi => ?_, fun r hr => ?_, fun b hb => ?_⟩⟩
      · exact (zz.gI (fun z => by have := dF _ _ z; omega)).trans d1
      · rw [show g + (203 + 29 * σ) = g + (202 + 29 * σ) + 1 by omega, (cls _ (by omega)).2.2, w1]
        exact d1
      · rw [show g + (203 + 29 * σ) = g + (202 + 29 * σ) + 1 by omega, (cls _ (by omega)).2.2, w2]
        exact (zz.gI (fun z => by have := dF _ _ z; omega)).symm
      · rw [(cls _ (by omega)).2.2, w5]
        exact d3
      · rw [c307, if_pos rfl]
      · rw [show g + (204 + 29 * σ) = g + (202 + 29 * σ) + 2 by omega, (cls (g + (202 + 29 * σ) + 2) (by omega)).1, w3 i hi, x4.I (by omega), r2.I (by omega), p2.I (by omega), v3 i (Nat.zero_le _) hi]
        have := R.mem i hi
        rw [Nat.zero_add] at this
        exact this
      · rw [show g + (206 + 29 * σ) = g + (202 + 29 * σ) + 4 by omega, (cls _ (by omega)).2.1, w4 r hr, x4.L (by omega), r2.L (by omega), (p3 r (Nat.zero_le _) hr).2.2]
        have := R.reg r hr
        rw [Nat.zero_add] at this
        exact this
      · have be := w6 b hb
        have p5 := p3 b (Nat.zero_le _) hb
        refine BinEq_RBn (h := h) (B := g + (177 + 3 * b)) hb ?_ ?_ ?_ (fun i hi => ?_) (R.bins b hb)
        · obtain ⟨b1, b2, b3⟩ := be
          rw [show g + (202 + 29 * σ) + (5 + 3 * b) = g + (207 + 29 * σ + 3 * b) by omega, show g + 172 + (5 + 3 * b) = g + (177 + 3 * b) by omega] at b1 b2 b3
          refine ⟨((cls _ (by omega)).2.2 _).trans b1, ((cls _ (by omega)).2.2 _).trans b2, fun j hj => ?_⟩
          rw [(cls _ (by omega)).1, (cls _ (by omega)).2.1]
          exact b3 j hj
        · rw [x4.I (by omega), r2.I (by omega), p5.1, Nat.zero_add]
        · rw [x4.I (by omega), r2.I (by omega), p5.2.1, Nat.zero_add]
        · have r5 := r3 (40 * b + i) (Nat.zero_le _) (by omega)
          rw [← Nat.add_assoc] at r5
          rw [x4.I (by omega), x4.L (by omega), x4.D (by omega), r5.1, r5.2.1, r5.2.2, Nat.zero_add]
          exact ⟨rfl, rfl, rfl⟩
    have rs0 : RSl m4 g 0 := by
      by_cases e : 0 = σ
      · rw [e]
        exact W
      · exact K 0 (by decide) e R.sl0
    have rs1 : RSl m4 g 1 := by
      by_cases e : 1 = σ
      · rw [e]
        exact W
      · exact K 1 (by decide) e R.sl1
    refine ⟨⟨Sh_fr zz ?_ R.sh, RTape_fr zz ?_ ?_ R.tape, RAns_fr zz ?_ R.ans, RHd_fr zz ?_ R.hd, RMem_fr zz ?_ R.mem, RReg_fr zz ?_ R.reg, RBins_fr zz ?_ ?_ R.bins, rs0, rs1, RPl_fr zz ?_ ?_ R.pl⟩, RCn_fr zz ?_ ?_ R.cn⟩
    all_goals first | (intro a q; have := cR a q; omega) | (intro a k q; have := dF a k q; omega) | (intro q; have := dF _ _ q; omega) | (intro q; have := cR _ q; omega)
  · have b3 := fun h => mIn_c (h := h) q2
    refine ⟨0, h, h, ?_, ?_, R, rfl⟩
    · rcases q1 with p1 | ⟨p0, p1⟩
      · simp +decide only [e132_0, e132_1, e132_4, e132_5, e132_6, e132_9, e132_10, e132_11, e132_12, e132_15, e132_16, e132_17, e132_18, e132_21, e132_24, e132_25, e132_28, e132_29, e132_30, e132_30z, e132_31, e132_32, p1, vkk_n, vkk_i, vkk_r, vkk_l, vkk_d, catS_nil, catS_i, catS_r, catS_l, catS_d, Nat.reduceAdd, Nat.reduceLeDiff, Nat.zero_le, Nat.le_refl, Option.bind_some, Option.toList_some, Option.toList_none, List.cons_append, List.nil_append, or_true, true_or, if_true, if_false, Int32.reduceLT, Int32.reduceLE, not_true, not_false_iff, true_and, and_true, false_and, and_false]
      · simp +decide only [e132_0, e132_1, e132_4, e132_5, e132_6, e132_9, e132_10, e132_11, e132_12, e132_15, e132_16, e132_17, e132_18, e132_21, e132_24, e132_25, e132_28, e132_29, e132_30, e132_30z, e132_31, e132_32, p0, p1, vkk_n, vkk_i, vkk_r, vkk_l, vkk_d, catS_nil, catS_i, catS_r, catS_l, catS_d, Nat.reduceAdd, Nat.reduceLeDiff, Nat.zero_le, Nat.le_refl, Option.bind_some, Option.toList_some, Option.toList_none, List.cons_append, List.nil_append, or_true, true_or, if_true, if_false, Int32.reduceLT, Int32.reduceLE, not_true, not_false_iff, true_and, and_true, false_and, and_false]
    · simp +decide only [e229_0, e229_1, e229_2, e229_3, e229_6, e229_9, e229_10, e229_11, e229_12, e229_13, e229_14, e229_17, e229_20, e229_21, e229_24, e229_27, e229_28, e229_29, e229_30, e229_31, e229_32, e229_35, e229_36, e229_37, e229_38, e229_41, e229_44, e229_45, e229_46, e229_47, e229_49, e229_52, e229_53, e229_56, e229_58, e229_59, e229_60, e229_61, e229_62, e229_63, e229_66, e229_67, e229_68, e229_69, e229_70, e229_73, e229_75, e229_76, e229_77, e229_78, e229_79, e229_80, e229_83, e229_84, e229_85, e229_86, e229_87, e229_90, e229_92, e229_93, e229_94, e229_95, e229_96, e229_97, e229_100, e229_101, e229_102, e229_103, e229_106, e229_109, e229_110, e229_111, e229_112, e229_115, e229_118, e229_119, e229_122, e229_125, e229_126, e229_127, e229_128, e229_129, e229_130, e229_133, e229_134, e229_135, e229_136, e229_137, e229_140, e229_143, e229_144, e229_145, e229_146, e229_147, e229_148, e229_151, e229_152, e229_153, e229_154, e229_155, e229_158, e229_161, e229_162, e229_163, e229_164, e229_165, e229_166, e229_169, e229_170, e229_171, e229_172, e229_175, e229_178, e229_179, e229_182, e229_183, e229_184, e229_187, e229_188, e229_189, e229_192, e229_193, e229_194, e229_194z, e229_195, e229_196, b3, vkk_n, vkk_i, vkk_r, vkk_l, vkk_d, catS_nil, catS_i, catS_r, catS_l, catS_d, Nat.reduceAdd, Nat.reduceLeDiff, Nat.zero_le, Nat.le_refl, Option.bind_some, Option.toList_some, Option.toList_none, List.cons_append, List.nil_append, or_true, true_or, if_true, if_false, Int32.reduceLT, Int32.reduceLE, not_true, not_false_iff, true_and, and_true, false_and, and_false]
theorem k_restore (h : VG) (g : Nat) (R : Inv h g) (s : Int32) : CalI h g 133 [some (.ref g), some (.int s)] 230 [some (.ref (g + 266)), some (.int s), none] := by
  rcases slot_s (s := s) with ⟨σ, hσ, rfl⟩ | ⟨q1, q2⟩
  · have n0 : ¬ nI σ < 0 := nI_pos (by omega)
    have n1 : nI σ < 2 := nI_lt (b := 2) hσ (by decide)
    have hv : vp_in (nI σ) 2 := vp_in_nI hσ (by decide)
    have hc : (nI σ).toNatClampNeg = σ := nI_clamp (by omega)
    have i1 : mIn (nI σ) 0 1 = 1 := by
      have : ∀ j : Fin 2, mIn (nI j.val) 0 1 = 1 := by decide
      exact this ⟨σ, hσ⟩
    have b3 := fun h => mIn_c (h := h) i1
    obtain ⟨sT, rS⟩ := slot_sh R.sh hσ
    have sS : ShState h (g + 172) := Cls_17 R.cls
    have rr : RSl h g σ := by
      rcases (show σ = 0 ∨ σ = 1 by omega) with rfl | rfl
      · exact R.sl0
      · exact R.sl1
    obtain ⟨k1, k2, k3⟩ := rr
    by_cases hz : aI h (g + 299) σ = 0
    · rw [hz] at k1
      refine ⟨0, h, h, ?_, ?_, R, rfl⟩
      · simp +decide only [e133_0, e133_1, e133_4, e133_5, e133_6, e133_9, e133_10, e133_13, e133_14, e133_15, e133_18, e133_19, e133_20, e133_21, e133_24, e133_25, e133_28, e133_29, e133_30, e133_33, e133_34, n0, n1, hv, hc, k1, (Cls_0 R.cls : ob h g 10), (rf_g (Cls_3 R.cls : rf h g 6 (g + 172)) : gR h g 6 = (g + 172)), (rf_is (Cls_3 R.cls : rf h g 6 (g + 172)) : isR h g 6), (rf_g (Cls_4 R.cls : rf h g 7 (g + 201)) : gR h g 7 = (g + 201)), (rf_is (Cls_4 R.cls : rf h g 7 (g + 201)) : isR h g 7), (rf_g (Cls_5 R.cls : rf h g 8 (g + 260)) : gR h g 8 = (g + 260)), (rf_is (Cls_5 R.cls : rf h g 8 (g + 260)) : isR h g 8), (Cls_18 R.cls : arR h (g + 201) 7), (rdR_7 (Cls_18 R.cls : arR h (g + 201) 7) : rdR h (g + 201)), (Cls_19 R.cls : aln h (g + 201) = 2), (Cls_20 R.cls : aR h (g + 201) 0 = some (g + 202)), (Cls_21 R.cls : aR h (g + 201) 1 = some (g + 231)), (Cls_24 R.cls : arI h (g + 260) 3), (rdB_3 (Cls_24 R.cls : arI h (g + 260) 3) : rdB h (g + 260)), (Cls_25 R.cls : aln h (g + 260) = 2), Nat.add_assoc, Nat.reduceAdd, Nat.add_left_cancel_iff, Nat.reduceEqDiff, Nat.add_eq_left, Nat.left_eq_add, vkk_n, vkk_i, vkk_r, vkk_l, vkk_d, catS_nil, catS_i, catS_r, catS_l, catS_d, Nat.reduceAdd, Nat.reduceLeDiff, Nat.zero_le, Nat.le_refl, Option.bind_some, Option.toList_some, Option.toList_none, List.cons_append, List.nil_append, or_true, true_or, if_true, if_false, Int32.reduceLT, Int32.reduceLE, not_true, not_false_iff, true_and, and_true, false_and, and_false]
      · simp +decide only [e230_0, e230_1, e230_2, e230_3, e230_6, e230_9, e230_10, e230_13, e230_14, e230_15, e230_18, e230_19, e230_20, e230_21, e230_22, e230_23, e230_26, e230_29, e230_30, e230_33, e230_34, e230_35, e230_38, e230_41, e230_42, e230_43, e230_44, e230_45, e230_46, e230_47, e230_50, e230_53, e230_54, e230_55, e230_56, e230_58, e230_61, e230_62, e230_65, e230_66, e230_67, e230_70, e230_72, e230_73, e230_74, e230_75, e230_76, e230_77, e230_78, e230_79, e230_82, e230_83, e230_84, e230_87, e230_89, e230_90, e230_91, e230_92, e230_93, e230_94, e230_95, e230_96, e230_99, e230_100, e230_101, e230_104, e230_106, e230_107, e230_108, e230_109, e230_110, e230_111, e230_112, e230_115, e230_118, e230_119, e230_120, e230_121, e230_124, e230_127, e230_128, e230_131, e230_132, e230_133, e230_136, e230_139, e230_140, e230_141, e230_142, e230_143, e230_144, e230_145, e230_146, e230_149, e230_150, e230_151, e230_154, e230_157, e230_158, e230_159, e230_160, e230_161, e230_162, e230_163, e230_164, e230_167, e230_168, e230_169, e230_172, e230_175, e230_176, e230_177, e230_178, e230_179, e230_180, e230_181, e230_184, e230_187, e230_188, e230_189, e230_192, e230_193, e230_194, e230_197, e230_198, b3, hv, hc, hz, (Mod_0 R.mod : ob h (g + 266) 11), (rf_g (Mod_97 R.mod : rf h (g + 266) 58 (g + 299)) : gR h (g + 266) 58 = (g + 299)), (rf_is (Mod_97 R.mod : rf h (g + 266) 58 (g + 299)) : isR h (g + 266) 58), (Mod_98 R.mod : arI h (g + 299) 3), (rdB_3 (Mod_98 R.mod : arI h (g + 299) 3) : rdB h (g + 299)), (Mod_99 R.mod : aln h (g + 299) = 2), Nat.add_assoc, Nat.reduceAdd, Nat.add_left_cancel_iff, Nat.reduceEqDiff, Nat.add_eq_left, Nat.left_eq_add, vkk_n, vkk_i, vkk_r, vkk_l, vkk_d, catS_nil, catS_i, catS_r, catS_l, catS_d, Nat.reduceAdd, Nat.reduceLeDiff, Nat.zero_le, Nat.le_refl, Option.bind_some, Option.toList_some, Option.toList_none, List.cons_append, List.nil_append, or_true, true_or, if_true, if_false, Int32.reduceLT, Int32.reduceLE, not_true, not_false_iff, true_and, and_true, false_and, and_false]
    · have k4 := k2.resolve_left hz
      rw [k4] at k1
      obtain ⟨⟨l, fr, t1, t2, t3, t4, t5, t6⟩, g2, g3, g4⟩ := k3 hz
      obtain ⟨l', fr', l1, l2, l3, d1, d2, d3, d4, d5, d6⟩ := R.hd
      have ll : l' = l := (nI_eq (by omega) (by omega)).mp (d1.symm.trans t1)
      subst ll
      have gT : g + (203 + 29 * σ) = g + (202 + 29 * σ) + 1 := by omega
      rw [gT] at t3 t4
      obtain ⟨h1, u1, u2, u3⟩ := c_stBecome h (g + 172) (g + (202 + 29 * σ)) (by omega) sS sT (by rw [show g + (202 + 29 * σ) + 2 = g + (204 + 29 * σ) by omega]; exact RMm_bOk g2) (by rw [t4, d5]; exact d6)
      have s1 : Sh h1 g := Sh_fr u2 (fun a z => by omega) R.sh
      have oS : ob h (g + 172) 8 := State_0 sS
      have e1 : ev 133 0 [some (.ref g), some (.int (nI σ))] [] h = some (some (.int 1), h1) := by
        simp +decide only [e133_0, e133_1, e133_4, e133_5, e133_6, e133_9, e133_10, e133_13, e133_14, e133_15, e133_18, e133_19, e133_20, e133_21, e133_24, e133_25, e133_28, e133_29, e133_30, e133_33, e133_34, n0, n1, hv, hc, k1, rS, oS, vrf_some, u1, (Cls_0 R.cls : ob h g 10), (rf_g (Cls_3 R.cls : rf h g 6 (g + 172)) : gR h g 6 = (g + 172)), (rf_is (Cls_3 R.cls : rf h g 6 (g + 172)) : isR h g 6), (rf_g (Cls_4 R.cls : rf h g 7 (g + 201)) : gR h g 7 = (g + 201)), (rf_is (Cls_4 R.cls : rf h g 7 (g + 201)) : isR h g 7), (rf_g (Cls_5 R.cls : rf h g 8 (g + 260)) : gR h g 8 = (g + 260)), (rf_is (Cls_5 R.cls : rf h g 8 (g + 260)) : isR h g 8), (Cls_18 R.cls : arR h (g + 201) 7), (rdR_7 (Cls_18 R.cls : arR h (g + 201) 7) : rdR h (g + 201)), (Cls_19 R.cls : aln h (g + 201) = 2), (Cls_20 R.cls : aR h (g + 201) 0 = some (g + 202)), (Cls_21 R.cls : aR h (g + 201) 1 = some (g + 231)), (Cls_24 R.cls : arI h (g + 260) 3), (rdB_3 (Cls_24 R.cls : arI h (g + 260) 3) : rdB h (g + 260)), (Cls_25 R.cls : aln h (g + 260) = 2), Nat.add_assoc, Nat.reduceAdd, Nat.add_left_cancel_iff, Nat.reduceEqDiff, Nat.add_eq_left, Nat.left_eq_add, vkk_n, vkk_i, vkk_r, vkk_l, vkk_d, catS_nil, catS_i, catS_r, catS_l, catS_d, Nat.reduceAdd, Nat.reduceLeDiff, Nat.zero_le, Nat.le_refl, Option.bind_some, Option.toList_some, Option.toList_none, List.cons_append, List.nil_append, or_true, true_or, if_true, if_false, Int32.reduceLT, Int32.reduceLE, not_true, not_false_iff, true_and, and_true, false_and, and_false]
      have M := fun a (ha : g + 266 ≤ a) => (show ¬ (g + 172 + 2 ≤ a ∧ a ≤ g + 172 + 28) by omega)
      obtain ⟨m1, v1, v2, v3, v4⟩ := l_rest1 g σ hσ (fun i => aI h (g + 300) (256 * σ + i)) 256 0 h1 rfl s1 (fun i _ => u2.I (M _ (by omega)) _)
      have y1 : Sh m1 g := Sh_fr v2 (fun a z => by omega) s1
      have F1 := u2.un v2
      obtain ⟨m2, p1, p2, p3, p4⟩ := l_rest2 g σ hσ (fun i => aI h (g + 301) (8 * σ + i)) (fun i => aI h (g + 302) (8 * σ + i)) (fun i => aL h (g + 306) (8 * σ + i)) 8 0 m1 rfl y1 (fun i _ => F1.I (by omega) _) (fun i _ => F1.I (by omega) _) (fun i _ => F1.L (by omega) _)
      have y2 : Sh m2 g := Sh_fr p2 (fun a z => by omega) y1
      have F2 := F1.un p2
      obtain ⟨m3, r1, r2, r3, r4⟩ := l_rest3 g σ hσ (fun i => aI h (g + 303) (320 * σ + i)) (fun i => aL h (g + 304) (320 * σ + i)) (fun i => aD h (g + 305) (320 * σ + i)) 320 0 m2 rfl y2 (fun i _ => F2.I (by omega) _) (fun i _ => F2.L (by omega) _) (fun i _ => F2.D (by omega) _)
      have y3 : Sh m3 g := Sh_fr r2 (fun a z => by omega) y2
      have F3 := F2.un r2
      have g307 : aI m3 (g + 307) σ = nI fr := (F3.I (by omega) _).trans t6
      have x4 : Fr NR (fun a k => a = g + 266 ∧ k = 57) m3 (pI m3 (g + 266) 57 (nI fr)) := Fr_pI _ _ _ _ ⟨rfl, rfl⟩
      have o3 : ob m3 (g + 266) 11 := Mod_0 y3.2.1
      have f57 : gI (pI m3 (g + 266) 57 (nI fr)) (g + 266) 57 = nI fr := by
        rw [gI_pI, if_pos ⟨rfl, rfl, isI_ob o3 rfl⟩]
      have hz1 : aI h1 (g + 299) σ = 1 := (u2.I (by omega) _).trans k4
      have e2 : ev 230 0 [some (.ref (g + 266)), some (.int (nI σ)), none] [] h1 = some (some (.int 1), pI m3 (g + 266) 57 (nI fr)) := by
        simp +decide only [e230_0, e230_1, e230_2, e230_3, e230_6, e230_9, e230_10, e230_13, e230_14, e230_15, e230_18, e230_19, e230_20, e230_21, b3, hv, hc, hz1, (Mod_0 s1.2.1 : ob h1 (g + 266) 11), (rf_g (Mod_97 s1.2.1 : rf h1 (g + 266) 58 (g + 299)) : gR h1 (g + 266) 58 = (g + 299)), (rf_is (Mod_97 s1.2.1 : rf h1 (g + 266) 58 (g + 299)) : isR h1 (g + 266) 58), (Mod_98 s1.2.1 : arI h1 (g + 299) 3), (rdB_3 (Mod_98 s1.2.1 : arI h1 (g + 299) 3) : rdB h1 (g + 299)), (Mod_99 s1.2.1 : aln h1 (g + 299) = 2), vkk_n, vkk_i, vkk_r, vkk_l, vkk_d, catS_nil, catS_i, catS_r, catS_l, catS_d, Nat.reduceAdd, Nat.reduceLeDiff, Nat.zero_le, Nat.le_refl, Option.bind_some, Option.toList_some, Option.toList_none, List.cons_append, List.nil_append, or_true, true_or, if_true, if_false, Int32.reduceLT, Int32.reduceLE, not_true, not_false_iff, true_and, and_true, false_and, and_false, Nat.add_assoc, Nat.reduceAdd, Nat.add_left_cancel_iff, Nat.reduceEqDiff, Nat.add_eq_left, Nat.left_eq_add]
        refine v1.trans ?_
        rw [show nI 256 = (256 : Int32) from rfl]
        simp +decide only [e230_53, e230_54, vkk_n, vkk_i, vkk_r, vkk_l, vkk_d, catS_nil, catS_i, catS_r, catS_l, catS_d, Nat.reduceAdd, Nat.reduceLeDiff, Nat.zero_le, Nat.le_refl, Option.bind_some, Option.toList_some, Option.toList_none, List.cons_append, List.nil_append, or_true, true_or, if_true, if_false, Int32.reduceLT, Int32.reduceLE, not_true, not_false_iff, true_and, and_true, false_and, and_false]
        refine p1.trans ?_
        rw [show nI 8 = (8 : Int32) from rfl]
        simp +decide only [e230_118, e230_119, vkk_n, vkk_i, vkk_r, vkk_l, vkk_d, catS_nil, catS_i, catS_r, catS_l, catS_d, Nat.reduceAdd, Nat.reduceLeDiff, Nat.zero_le, Nat.le_refl, Option.bind_some, Option.toList_some, Option.toList_none, List.cons_append, List.nil_append, or_true, true_or, if_true, if_false, Int32.reduceLT, Int32.reduceLE, not_true, not_false_iff, true_and, and_true, false_and, and_false]
        refine r1.trans ?_
        rw [show nI 320 = (320 : Int32) from rfl]
        simp +decide only [e230_187, e230_188, e230_189, e230_192, e230_193, e230_194, e230_197, e230_198, g307, hv, hc, (Mod_0 y3.2.1 : ob m3 (g + 266) 11), (rf_g (Mod_121 y3.2.1 : rf m3 (g + 266) 66 (g + 307)) : gR m3 (g + 266) 66 = (g + 307)), (rf_is (Mod_121 y3.2.1 : rf m3 (g + 266) 66 (g + 307)) : isR m3 (g + 266) 66), (Mod_122 y3.2.1 : arI m3 (g + 307) 0), (rdI_0 (Mod_122 y3.2.1 : arI m3 (g + 307) 0) : rdI m3 (g + 307)), (Mod_123 y3.2.1 : aln m3 (g + 307) = 2), ob_pI, rf_pI, isR_pI, isI_pI, isL_pI, arI_pI, arL_pI, arR_pI, arD_pI, aln_pI, rdI_pI, rdB_pI, rdR_pI, aR_pI, pI_2, gI_pI, gL_pI, gD_pI, gR_pI, aI_pI, aL_pI, aD_pI, ob_pL, rf_pL, isR_pL, isI_pL, isL_pL, arI_pL, arL_pL, arR_pL, arD_pL, aln_pL, rdI_pL, rdB_pL, rdR_pL, aR_pL, pL_2, gI_pL, gL_pL, gD_pL, gR_pL, aI_pL, aL_pL, aD_pL, ob_wI, rf_wI, isR_wI, isI_wI, isL_wI, arI_wI, arL_wI, arR_wI, arD_wI, aln_wI, rdI_wI, rdB_wI, rdR_wI, aR_wI, wI_2, gI_wI, gL_wI, gD_wI, gR_wI, aL_wI, aD_wI, aI_wI_ne, ob_wL, rf_wL, isR_wL, isI_wL, isL_wL, arI_wL, arL_wL, arR_wL, arD_wL, aln_wL, rdI_wL, rdB_wL, rdR_wL, aR_wL, wL_2, gI_wL, gL_wL, gD_wL, gR_wL, aI_wL, aD_wL, aL_wL_ne, ob_bI, rf_bI, isR_bI, isI_bI, isL_bI, arI_bI, arL_bI, arR_bI, arD_bI, aln_bI, rdI_bI, rdB_bI, rdR_bI, aR_bI, bI_2, gI_bI, gL_bI, gD_bI, gR_bI, aL_bI, aD_bI, aI_bI_ne, ob_bL, rf_bL, isR_bL, isI_bL, isL_bL, arI_bL, arL_bL, arR_bL, arD_bL, aln_bL, rdI_bL, rdB_bL, rdR_bL, aR_bL, bL_2, gI_bL, gL_bL, gD_bL, gR_bL, aI_bL, aD_bL, aL_bL_ne, vkk_n, vkk_i, vkk_r, vkk_l, vkk_d, catS_nil, catS_i, catS_r, catS_l, catS_d, Nat.reduceAdd, Nat.reduceLeDiff, Nat.zero_le, Nat.le_refl, Option.bind_some, Option.toList_some, Option.toList_none, List.cons_append, List.nil_append, or_true, true_or, if_true, if_false, Int32.reduceLT, Int32.reduceLE, not_true, not_false_iff, true_and, and_true, false_and, and_false, Nat.add_assoc, Nat.reduceAdd, Nat.add_left_cancel_iff, Nat.reduceEqDiff, Nat.add_eq_left, Nat.left_eq_add]
      generalize pI m3 (g + 266) 57 (nI fr) = m4 at x4 f57 e2
      have zz := F3.un x4
      have cR : ∀ a, (((((g + 172 + 2 ≤ a ∧ a ≤ g + 172 + 28)) ∨ a = g + 277) ∨ (a = g + 285 ∨ a = g + 286 ∨ a = g + 298)) ∨ (a = g + 287 ∨ a = g + 288 ∨ a = g + 289)) ∨ NR a → (g + 174 ≤ a ∧ a ≤ g + 200) ∨ a = g + 277 ∨ (g + 285 ≤ a ∧ a ≤ g + 289) ∨ a = g + 298 := by
        intro a z
        rcases z with z | z
        · omega
        · exact z.elim
      have dF : ∀ a k, (((((g + 172 ≤ a ∧ a ≤ g + 172 + 28)) ∨ NF a k) ∨ NF a k) ∨ NF a k) ∨ (a = g + 266 ∧ k = 57) → (g + 172 ≤ a ∧ a ≤ g + 200) ∨ (a = g + 266 ∧ k = 57) := by
        intro a k z
        rcases z with (((z | z) | z) | z) | z
        · exact Or.inl z
        · exact z.elim
        · exact z.elim
        · exact z.elim
        · exact Or.inr z
      obtain ⟨w1, w2, w3, w4, w5, w6⟩ := u3
      have cls : ∀ a, a < g + 266 → (∀ j, aI m4 a j = aI h1 a j) ∧ (∀ j, aL m4 a j = aL h1 a j) ∧ ∀ k, gI m4 a k = gI h1 a k := by
        intro a ha
        refine ⟨fun j => ?_, fun j => ?_, fun k => ?_⟩
        · rw [x4.I (fun z => z), r2.I (by omega), p2.I (by omega), v2.I (by omega)]
        · rw [x4.L (fun z => z), r2.L (by omega), p2.L (by omega), v2.L (by omega)]
        · rw [x4.gI (by omega), r2.gI (fun z => z), p2.gI (fun z => z), v2.gI (fun z => z)]
      have line : ∀ k, k = 1 ∨ k = 2 → gI m4 (g + 173) k = gI h (g + 173) k := by
        intro k hk
        rw [(cls _ (by omega)).2.2]
        rcases hk with rfl | rfl
        · exact w1.trans (t3.trans d1.symm)
        · exact w2.trans t4
      have m18 : ∀ k, ¬ k = 57 → gI m4 (g + 266) k = gI h (g + 266) k := fun k hk => zz.gI (fun z => by have := dF _ _ z; omega)
      have rh : RHd m4 g := by
        refine ⟨l', fr, l1, l2, t2.2, (line 1 (Or.inl rfl)).trans d1, (m18 18 (by decide)).trans d2, ?_, f57, ?_, ?_⟩
        · rw [(cls _ (by omega)).2.2]
          exact w5.trans t5
        · rw [line 2 (Or.inr rfl), m18 17 (by decide)]
          exact d5
        · rw [m18 17 (by decide)]
          exact d6
      have rm : RMem m4 g := by
        intro i hi
        rw [Nat.zero_add, (cls (g + 174) (by omega)).1, w3 i hi, x4.I (fun z => z), r2.I (by omega), p2.I (by omega)]
        have a := v3 i (Nat.zero_le _) hi
        try dsimp only at a
        rw [a, show g + (202 + 29 * σ) + 2 = g + (204 + 29 * σ) by omega]
        exact g2 i hi
      have rg : RReg m4 g := by
        intro r hr
        have a := (p3 r (Nat.zero_le _) hr).2.2
        try dsimp only at a
        rw [Nat.zero_add, (cls (g + 176) (by omega)).2.1, w4 r hr, x4.L (fun z => z), r2.L (by omega), a, show g + (202 + 29 * σ) + 4 = g + (206 + 29 * σ) by omega]
        exact g3 r hr
      have rb : RBins m4 g := by
        intro b hb
        have be := w6 b hb
        have p5 := p3 b (Nat.zero_le _) hb
        try dsimp only at p5
        have bo := g4 b hb
        rw [show g + (207 + 29 * σ + 3 * b) = g + (202 + 29 * σ) + (5 + 3 * b) by omega] at bo
        refine BinEq_RBn hb ?_ ?_ ?_ (fun i hi => ?_) bo
        · obtain ⟨b1, b2, b3⟩ := be
          rw [show g + 172 + (5 + 3 * b) = g + (177 + 3 * b) by omega] at b1 b2 b3
          refine ⟨((cls _ (by omega)).2.2 _).trans b1, ((cls _ (by omega)).2.2 _).trans b2, fun j hj => ?_⟩
          rw [(cls (g + (177 + 3 * b) + 1) (by omega)).1, (cls (g + (177 + 3 * b) + 2) (by omega)).2.1]
          exact b3 j hj
        · rw [x4.I (fun z => z), r2.I (by omega), Nat.zero_add]
          exact p5.1
        · rw [x4.I (fun z => z), r2.I (by omega), Nat.zero_add]
          exact p5.2.1
        · have r5 := r3 (40 * b + i) (Nat.zero_le _) (by omega)
          try dsimp only at r5
          rw [← Nat.add_assoc] at r5
          rw [x4.I (fun z => z), x4.L (fun z => z), x4.D (fun z => z), Nat.zero_add]
          exact r5
      have rs : ∀ τ, τ < 2 → RSl h g τ → RSl m4 g τ := by
        intro τ hτ q
        refine RSl_pt (zz.I (fun z => by have := cR _ z; omega) _) (zz.I (fun z => by have := cR _ z; omega) _) (zz.I (fun z => by have := cR _ z; omega) _) (line 1 (Or.inl rfl)) (line 2 (Or.inr rfl)) (fun a k a1 a2 => zz.gI (fun z => by have := dF _ _ z; omega)) (fun a j a1 a2 => ⟨zz.I (fun z => by have := cR _ z; omega) _, zz.L (fun z => by have := cR _ z; omega) _⟩) (fun i hi => zz.I (fun z => by have := cR _ z; omega) _) (fun i hi => ⟨zz.I (fun z => by have := cR _ z; omega) _, zz.I (fun z => by have := cR _ z; omega) _, zz.L (fun z => by have := cR _ z; omega) _⟩) (fun i hi => ⟨zz.I (fun z => by have := cR _ z; omega) _, zz.L (fun z => by have := cR _ z; omega) _, zz.D (fun z => by have := cR _ z; omega) _⟩) q
      refine ⟨1, h1, m4, e1, e2, ?_, zz.two⟩
      refine ⟨⟨Sh_fr zz ?_ R.sh, RTape_fr zz ?_ ?_ R.tape, RAns_fr zz ?_ R.ans, rh, rm, rg, rb, rs 0 (by decide) R.sl0, rs 1 (by decide) R.sl1, RPl_fr zz ?_ ?_ R.pl⟩, RCn_fr zz ?_ ?_ R.cn⟩
      all_goals first | (intro a q; have := cR a q; omega) | (intro a k q; have := dF a k q; omega) | (intro q; have := dF _ _ q; omega) | (intro q; have := cR _ q; omega)
  · have b3 := fun h => mIn_c (h := h) q2
    refine ⟨0, h, h, ?_, ?_, R, rfl⟩
    · rcases q1 with p1 | ⟨p0, p1⟩
      · simp +decide only [e133_0, e133_1, e133_4, e133_5, e133_6, e133_9, e133_10, e133_13, e133_14, e133_15, e133_18, e133_19, e133_20, e133_21, e133_24, e133_25, e133_28, e133_29, e133_30, e133_33, e133_34, p1, vkk_n, vkk_i, vkk_r, vkk_l, vkk_d, catS_nil, catS_i, catS_r, catS_l, catS_d, Nat.reduceAdd, Nat.reduceLeDiff, Nat.zero_le, Nat.le_refl, Option.bind_some, Option.toList_some, Option.toList_none, List.cons_append, List.nil_append, or_true, true_or, if_true, if_false, Int32.reduceLT, Int32.reduceLE, not_true, not_false_iff, true_and, and_true, false_and, and_false]
      · simp +decide only [e133_0, e133_1, e133_4, e133_5, e133_6, e133_9, e133_10, e133_13, e133_14, e133_15, e133_18, e133_19, e133_20, e133_21, e133_24, e133_25, e133_28, e133_29, e133_30, e133_33, e133_34, p0, p1, vkk_n, vkk_i, vkk_r, vkk_l, vkk_d, catS_nil, catS_i, catS_r, catS_l, catS_d, Nat.reduceAdd, Nat.reduceLeDiff, Nat.zero_le, Nat.le_refl, Option.bind_some, Option.toList_some, Option.toList_none, List.cons_append, List.nil_append, or_true, true_or, if_true, if_false, Int32.reduceLT, Int32.reduceLE, not_true, not_false_iff, true_and, and_true, false_and, and_false]
    · simp +decide only [e230_0, e230_1, e230_2, e230_3, e230_6, e230_9, e230_10, e230_13, e230_14, e230_15, e230_18, e230_19, e230_20, e230_21, e230_22, e230_23, e230_26, e230_29, e230_30, e230_33, e230_34, e230_35, e230_38, e230_41, e230_42, e230_43, e230_44, e230_45, e230_46, e230_47, e230_50, e230_53, e230_54, e230_55, e230_56, e230_58, e230_61, e230_62, e230_65, e230_66, e230_67, e230_70, e230_72, e230_73, e230_74, e230_75, e230_76, e230_77, e230_78, e230_79, e230_82, e230_83, e230_84, e230_87, e230_89, e230_90, e230_91, e230_92, e230_93, e230_94, e230_95, e230_96, e230_99, e230_100, e230_101, e230_104, e230_106, e230_107, e230_108, e230_109, e230_110, e230_111, e230_112, e230_115, e230_118, e230_119, e230_120, e230_121, e230_124, e230_127, e230_128, e230_131, e230_132, e230_133, e230_136, e230_139, e230_140, e230_141, e230_142, e230_143, e230_144, e230_145, e230_146, e230_149, e230_150, e230_151, e230_154, e230_157, e230_158, e230_159, e230_160, e230_161, e230_162, e230_163, e230_164, e230_167, e230_168, e230_169, e230_172, e230_175, e230_176, e230_177, e230_178, e230_179, e230_180, e230_181, e230_184, e230_187, e230_188, e230_189, e230_192, e230_193, e230_194, e230_197, e230_198, b3, vkk_n, vkk_i, vkk_r, vkk_l, vkk_d, catS_nil, catS_i, catS_r, catS_l, catS_d, Nat.reduceAdd, Nat.reduceLeDiff, Nat.zero_le, Nat.le_refl, Option.bind_some, Option.toList_some, Option.toList_none, List.cons_append, List.nil_append, or_true, true_or, if_true, if_false, Int32.reduceLT, Int32.reduceLE, not_true, not_false_iff, true_and, and_true, false_and, and_false]
