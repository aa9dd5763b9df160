/-! read: tokens, by the model -/
def TXm (h : VG) (g : Nat) (b : Nat → Nat) (L : Nat) : Prop := L ≤ 2000 ∧ gI h (g + 266) 4 = nI L ∧ ∀ i, i < L → b i < 256 ∧ aI h (g + 268) i = sB (b i)
theorem TXm_fr {R : Nat → Prop} {F : Nat → Nat → Prop} {h h1 : VG} {g L : Nat} {b : Nat → Nat} (x : Fr R F h h1) (c : ¬ R (g + 268)) (d : ¬ F (g + 266) 4) (q : TXm h g b L) : TXm h1 g b L := ⟨q.1, (x.gI d).trans q.2.1, fun i hi => ⟨(q.2.2 i hi).1, (x.I c i).trans (q.2.2 i hi).2⟩⟩
def bx (b : Nat → Nat) (L i : Nat) : Nat := if i < L then b i else 0
theorem bx_lt {b : Nat → Nat} {L : Nat} {h : VG} {g : Nat} (tx : TXm h g b L) (i : Nat) : bx b L i < 256 := by
  unfold bx
  split
  · rename_i z
    exact (tx.2.2 i z).1
  · decide
theorem c_textAt (h : VG) (g L i : Nat) (b : Nat → Nat) (hs : Sh h g) (tx : TXm h g b L) (hi : i ≤ L) : ev 140 0 [some (.ref (g + 266)), some (.int (nI i))] [] h = some (some (.int (nI (bx b L i))), h) := by
  have hL := tx.1
  have om : ob h (g + 266) 11 := Mod_0 hs.2.1
  have e4 := tx.2.1
  unfold bx
  by_cases q : i < L
  · have q' : nI i < nI L := nI_lt q (by omega)
    obtain ⟨b1, b2⟩ := tx.2.2 i q
    have v1 : vp_in (nI i) 2000 := vp_in_nI (by omega) (by decide)
    have v2 : (nI i).toNatClampNeg = i := nI_clamp (by omega)
    have m : sB (b i) &&& 255 = nI (b i) := sB_255 ⟨b i, b1⟩
    rw [if_pos q]
    simp +decide only [e140_0, e140_1, e140_2, e140_5, e140_8, e140_9, e140_12, e140_13, e140_14, e140_17, e140_18, e140_21, e140_22, om, e4, q', v1, v2, b2, m, (Mod_0 hs.2.1 : ob h (g + 266) 11), (rf_g (Mod_4 hs.2.1 : rf h (g + 266) 3 (g + 268)) : gR h (g + 266) 3 = (g + 268)), (rf_is (Mod_4 hs.2.1 : rf h (g + 266) 3 (g + 268)) : isR h (g + 266) 3), (Mod_5 hs.2.1 : arI h (g + 268) 2), (rdB_2 (Mod_5 hs.2.1 : arI h (g + 268) 2) : rdB h (g + 268)), (Mod_6 hs.2.1 : aln h (g + 268) = 2000), vkk_n, vkk_i, vkk_r, vkk_l, vkk_d, catS_nil, catS_i, catS_r, catS_l, catS_d, Nat.reduceAdd, Nat.reduceLeDiff, Nat.zero_le, Nat.le_refl, Option.bind_some, Option.toList_some, Option.toList_none, List.cons_append, List.nil_append, or_true, true_or, if_true, if_false, Int32.reduceLT, Int32.reduceLE, not_true, not_false_iff, true_and, and_true, false_and, and_false]
  · have q' : ¬ nI i < nI L := nI_nlt (by omega) (by omega)
    rw [if_neg q]
    simp +decide only [e140_0, e140_1, e140_2, e140_5, e140_8, e140_9, e140_12, e140_13, e140_14, e140_17, e140_18, e140_21, e140_22, om, e4, q', vkk_n, vkk_i, vkk_r, vkk_l, vkk_d, catS_nil, catS_i, catS_r, catS_l, catS_d, Nat.reduceAdd, Nat.reduceLeDiff, Nat.zero_le, Nat.le_refl, Option.bind_some, Option.toList_some, Option.toList_none, List.cons_append, List.nil_append, or_true, true_or, if_true, if_false, Int32.reduceLT, Int32.reduceLE, not_true, not_false_iff, true_and, and_true, false_and, and_false]
    rfl
theorem c_appends (h : VG) (x : Int64) (c : Int32) : ev 143 0 [some (.long x), none, some (.int c)] [] h = some (some (.long (if c = 0 then x else 27 * x + (c - 97 + 1).toInt64)), h) := by
  by_cases q : c = 0
  · simp +decide only [e143_0, e143_1, e143_4, e143_5, e143_8, e143_11, e143_12, e143_13, e143_14, e143_16, e143_17, e143_18, e143_19, e143_20, e143_21, q, vkk_n, vkk_i, vkk_r, vkk_l, vkk_d, catS_nil, catS_i, catS_r, catS_l, catS_d, Nat.reduceAdd, Nat.reduceLeDiff, Nat.zero_le, Nat.le_refl, Option.bind_some, Option.toList_some, Option.toList_none, List.cons_append, List.nil_append, or_true, true_or, if_true, if_false, Int32.reduceLT, Int32.reduceLE, not_true, not_false_iff, true_and, and_true, false_and, and_false]
  · simp +decide only [e143_0, e143_1, e143_4, e143_5, e143_8, e143_11, e143_12, e143_13, e143_14, e143_16, e143_17, e143_18, e143_19, e143_20, e143_21, q, vkk_n, vkk_i, vkk_r, vkk_l, vkk_d, catS_nil, catS_i, catS_r, catS_l, catS_d, Nat.reduceAdd, Nat.reduceLeDiff, Nat.zero_le, Nat.le_refl, Option.bind_some, Option.toList_some, Option.toList_none, List.cons_append, List.nil_append, or_true, true_or, if_true, if_false, Int32.reduceLT, Int32.reduceLE, not_true, not_false_iff, true_and, and_true, false_and, and_false]
theorem c_token (h : VG) (g t : Nat) (k p v : Int32) (n : Int64) (hs : Sh h g) (ht : t < 403) (e10 : gI h (g + 266) 10 = nI t) : ∃ h1, ev 145 0 [some (.ref (g + 266)), some (.int k), some (.int p), some (.int v), some (.long n), none] [] h = some (none, h1) ∧ Fr (fun a => g + 268 < a ∧ a < g + 273) (fun a k => a = g + 266 ∧ k = 10) h h1 ∧ gI h1 (g + 266) 10 = nI (t + 1) ∧ (aI h1 (g + 269) t = k ∧ aI h1 (g + 270) t = p ∧ aI h1 (g + 271) t = v ∧ aL h1 (g + 272) t = n) ∧ ∀ j, ¬ j = t → aI h1 (g + 269) j = aI h (g + 269) j ∧ aI h1 (g + 270) j = aI h (g + 270) j ∧ aI h1 (g + 271) j = aI h (g + 271) j ∧ aL h1 (g + 272) j = aL h (g + 272) j := by
  have om : ob h (g + 266) 11 := Mod_0 hs.2.1
  have v1 : vp_in (nI t) 403 := vp_in_nI (by omega) (by decide)
  have v2 : (nI t).toNatClampNeg = t := nI_clamp (by omega)
  have i10 : isI h (g + 266) 10 := isI_ob om rfl
  have t0 : arI h (g + 269) 0 := Mod_8 hs.2.1
  have t1 : arI h (g + 270) 0 := Mod_11 hs.2.1
  have t2 : arI h (g + 271) 0 := Mod_14 hs.2.1
  have t3 : arL h (g + 272) := Mod_17 hs.2.1
  refine ⟨pI (wL (wI (wI (wI h (g + 269) t k) (g + 270) t p) (g + 271) t v) (g + 272) t n) (g + 266) 10 (nI (t + 1)), ?_, ?_, ?_, ⟨?_, ?_, ?_, ?_⟩, fun j hj => ⟨?_, ?_, ?_, ?_⟩⟩
  · simp +decide only [e145_0, e145_1, e145_4, e145_5, e145_8, e145_9, e145_10, e145_11, e145_14, e145_15, e145_18, e145_19, e145_20, e145_21, e145_24, e145_25, e145_28, e145_29, e145_30, e145_31, e145_34, e145_35, e145_38, e145_40, e145_41, e145_42b, e145_42, e145_43, e145_46, e145_47, e145_48, e145_51, om, e10, v1, v2, nI_1, nI_add, gI_pI, gI_wI, gI_wL, (Mod_0 hs.2.1 : ob h (g + 266) 11), (rf_g (Mod_7 hs.2.1 : rf h (g + 266) 5 (g + 269)) : gR h (g + 266) 5 = (g + 269)), (rf_is (Mod_7 hs.2.1 : rf h (g + 266) 5 (g + 269)) : isR h (g + 266) 5), (Mod_8 hs.2.1 : arI h (g + 269) 0), (rdI_0 (Mod_8 hs.2.1 : arI h (g + 269) 0) : rdI h (g + 269)), (Mod_9 hs.2.1 : aln h (g + 269) = 403), (rf_g (Mod_10 hs.2.1 : rf h (g + 266) 6 (g + 270)) : gR h (g + 266) 6 = (g + 270)), (rf_is (Mod_10 hs.2.1 : rf h (g + 266) 6 (g + 270)) : isR h (g + 266) 6), (Mod_11 hs.2.1 : arI h (g + 270) 0), (rdI_0 (Mod_11 hs.2.1 : arI h (g + 270) 0) : rdI h (g + 270)), (Mod_12 hs.2.1 : aln h (g + 270) = 403), (rf_g (Mod_13 hs.2.1 : rf h (g + 266) 7 (g + 271)) : gR h (g + 266) 7 = (g + 271)), (rf_is (Mod_13 hs.2.1 : rf h (g + 266) 7 (g + 271)) : isR h (g + 266) 7), (Mod_14 hs.2.1 : arI h (g + 271) 0), (rdI_0 (Mod_14 hs.2.1 : arI h (g + 271) 0) : rdI h (g + 271)), (Mod_15 hs.2.1 : aln h (g + 271) = 403), (rf_g (Mod_16 hs.2.1 : rf h (g + 266) 8 (g + 272)) : gR h (g + 266) 8 = (g + 272)), (rf_is (Mod_16 hs.2.1 : rf h (g + 266) 8 (g + 272)) : isR h (g + 266) 8), (Mod_17 hs.2.1 : arL h (g + 272)), (Mod_18 hs.2.1 : aln h (g + 272) = 403), ob_pI, rf_pI, isR_pI, isI_pI, isL_pI, arI_pI, arL_pI, arR_pI, arD_pI, aln_pI, rdI_pI, rdB_pI, rdR_pI, aR_pI, pI_2, gI_pI, gL_pI, gD_pI, gR_pI, aI_pI, aL_pI, aD_pI, ob_pL, rf_pL, isR_pL, isI_pL, isL_pL, arI_pL, arL_pL, arR_pL, arD_pL, aln_pL, rdI_pL, rdB_pL, rdR_pL, aR_pL, pL_2, gI_pL, gL_pL, gD_pL, gR_pL, aI_pL, aL_pL, aD_pL, ob_wI, rf_wI, isR_wI, isI_wI, isL_wI, arI_wI, arL_wI, arR_wI, arD_wI, aln_wI, rdI_wI, rdB_wI, rdR_wI, aR_wI, wI_2, gI_wI, gL_wI, gD_wI, gR_wI, aL_wI, aD_wI, aI_wI_ne, ob_wL, rf_wL, isR_wL, isI_wL, isL_wL, arI_wL, arL_wL, arR_wL, arD_wL, aln_wL, rdI_wL, rdB_wL, rdR_wL, aR_wL, wL_2, gI_wL, gL_wL, gD_wL, gR_wL, aI_wL, aD_wL, aL_wL_ne, ob_bI, rf_bI, isR_bI, isI_bI, isL_bI, arI_bI, arL_bI, arR_bI, arD_bI, aln_bI, rdI_bI, rdB_bI, rdR_bI, aR_bI, bI_2, gI_bI, gL_bI, gD_bI, gR_bI, aL_bI, aD_bI, aI_bI_ne, ob_bL, rf_bL, isR_bL, isI_bL, isL_bL, arI_bL, arL_bL, arR_bL, arD_bL, aln_bL, rdI_bL, rdB_bL, rdR_bL, aR_bL, bL_2, gI_bL, gL_bL, gD_bL, gR_bL, aI_bL, aD_bL, aL_bL_ne, vkk_n, vkk_i, vkk_r, vkk_l, vkk_d, catS_nil, catS_i, catS_r, catS_l, catS_d, Nat.reduceAdd, Nat.reduceLeDiff, Nat.zero_le, Nat.le_refl, Option.bind_some, Option.toList_some, Option.toList_none, List.cons_append, List.nil_append, or_true, true_or, if_true, if_false, Int32.reduceLT, Int32.reduceLE, not_true, not_false_iff, true_and, and_true, false_and, and_false, Nat.add_assoc, Nat.reduceAdd, Nat.add_left_cancel_iff, Nat.reduceEqDiff, Nat.add_eq_left, Nat.left_eq_add]
  · exact ((((Fr_wI _ _ _ _ (by omega)).tr (Fr_wI _ _ _ _ (by omega))).tr (Fr_wI _ _ _ _ (by omega))).tr (Fr_wL _ _ _ _ (by omega))).tr (Fr_pI _ _ _ _ ⟨rfl, rfl⟩)
  · simp +decide only [gI_pI, gI_wI, gI_wL, isI_wI, isI_wL, (eq_true i10), true_and, and_true, if_true]
  · rw [aI_pI, aI_wL, aI_wI_ne _ _ _ _ _ _ (fun z => by omega), aI_wI_ne _ _ _ _ _ _ (fun z => by omega), aI_wI0 _ _ _ _ _ _ t0, if_pos ⟨rfl, rfl⟩]
  · rw [aI_pI, aI_wL, aI_wI_ne _ _ _ _ _ _ (fun z => by omega), aI_wI0 _ _ _ _ _ _ ((arI_wI ..).mpr t1), if_pos ⟨rfl, rfl⟩]
  · rw [aI_pI, aI_wL, aI_wI0 _ _ _ _ _ _ ((arI_wI ..).mpr ((arI_wI ..).mpr t2)), if_pos ⟨rfl, rfl⟩]
  · rw [aL_pI, aL_wL _ _ _ _ _ _ ((arL_wI ..).mpr ((arL_wI ..).mpr ((arL_wI ..).mpr t3))), if_pos ⟨rfl, rfl⟩]
  · rw [aI_pI, aI_wL, aI_wI_ne _ _ _ _ _ _ (fun z => by omega), aI_wI_ne _ _ _ _ _ _ (fun z => by omega), aI_wI0 _ _ _ _ _ _ t0, if_neg (fun z => hj z.2)]
  · rw [aI_pI, aI_wL, aI_wI_ne _ _ _ _ _ _ (fun z => by omega), aI_wI0 _ _ _ _ _ _ ((arI_wI ..).mpr t1), if_neg (fun z => hj z.2), aI_wI_ne _ _ _ _ _ _ (fun z => by omega)]
  · rw [aI_pI, aI_wL, aI_wI0 _ _ _ _ _ _ ((arI_wI ..).mpr ((arI_wI ..).mpr t2)), if_neg (fun z => hj z.2), aI_wI_ne _ _ _ _ _ _ (fun z => by omega), aI_wI_ne _ _ _ _ _ _ (fun z => by omega)]
  · rw [aL_pI, aL_wL _ _ _ _ _ _ ((arL_wI ..).mpr ((arL_wI ..).mpr ((arL_wI ..).mpr t3))), if_neg (fun z => hj z.2), aL_wI, aL_wI, aL_wI]
def TM (h : VG) (g : Nat) (b : Nat → Nat) (L n : Nat) : Prop := ∀ t, t < n → aI h (g + 269) t = nI (kd b L t) ∧ aI h (g + 270) t = nI (tPl b L t) ∧ (kd b L t = 2 → aI h (g + 271) t = nI (tIv b L (tPl b L t))) ∧ (kd b L t = 1 → aL h (g + 272) t = Int64.ofNat (tN7 b L (tPl b L t)))
theorem tok_tm {h : VG} {g t : Nat} {b : Nat → Nat} {L : Nat} {k p v : Int32} {n : Int64} (hs : Sh h g) (ht : t < 403) (e10 : gI h (g + 266) 10 = nI t) (tm : TM h g b L t) (hk : k = nI (kd b L t)) (hp : p = nI (tPl b L t)) (hv : kd b L t = 2 → v = nI (tIv b L (tPl b L t))) (hn : kd b L t = 1 → n = Int64.ofNat (tN7 b L (tPl b L t))) : ∃ h1, ev 145 0 [some (.ref (g + 266)), some (.int k), some (.int p), some (.int v), some (.long n), none] [] h = some (none, h1) ∧ Fr (fun a => g + 268 < a ∧ a < g + 273) (fun a k => a = g + 266 ∧ k = 10) h h1 ∧ gI h1 (g + 266) 10 = nI (t + 1) ∧ TM h1 g b L (t + 1) := by
  obtain ⟨h1, u1, u2, u3, ⟨a1, a2, a3, a4⟩, u5⟩ := c_token h g t k p v n hs ht e10
  refine ⟨h1, u1, u2, u3, fun x hx => ?_⟩
  by_cases e : x = t
  · subst e
    exact ⟨a1.trans hk, a2.trans hp, fun z => a3.trans (hv z), fun z => a4.trans (hn z)⟩
  · obtain ⟨y1, y2, y3, y4⟩ := u5 x e
    obtain ⟨z1, z2, z3, z4⟩ := tm x (by omega)
    exact ⟨y1.trans z1, y2.trans z2, fun z => y3.trans (z3 z), fun z => y4.trans (z4 z)⟩
def vMm (b : Nat → Nat) (p n : Nat) : Int64 := Int64.ofNat (vl 27 (dgL b p) (if n < 8 then n else 8))
theorem nle_dig : ∀ n : Fin 256, isLe n.val = true → uN (nI n.val - 97 + 1).toInt64 = n.val - 96 ∧ ¬ nI n.val = 0 := by decide +kernel
theorem l_mL (g L p : Nat) (b : Nat → Nat) (c : Int32) (h : VG) (hs : Sh h g) (tx : TXm h g b L) (l6 l7 : Option Value) : ∀ d n, p + n + d = L → (∀ i, i < n → isLe (b (p + i)) = true) → ev 146 85 [some (.ref (g + 266)), some (.int (nI p)), some (.int c), some (.int (nI n)), some (.long (vMm b p n)), none, l6, l7] [] h = ev 146 124 [some (.ref (g + 266)), some (.int (nI p)), some (.int c), some (.int (nI (spn isLe b d (p + n) - p))), some (.long (vMm b p (spn isLe b d (p + n) - p))), none, l6, l7] [] h := by
  have hL := tx.1
  have om : ob h (g + 266) 11 := Mod_0 hs.2.1
  intro d
  induction d with
  | zero =>
    intro n hd hp
    have e : spn isLe b 0 (p + n) = p + n := rfl
    have ta := c_textAt h g L (p + n) b hs tx (by omega)
    have lz := c_m_le h (bx_lt tx (p + n))
    have bz : bx b L (p + n) = 0 := if_neg (by omega)
    rw [bz] at ta lz
    have lz : ev 142 0 [some (.int (nI 0))] [] h = some (some (.int 0), h) := lz
    rw [e, Nat.add_sub_cancel_left]
    simp +decide only [e146_85, e146_86, e146_87, e146_88, e146_89, e146_92, e146_95, e146_98, e146_99, e146_101, e146_104, e146_106, e146_107, e146_108, e146_109, e146_110, e146_113, e146_116, e146_118, e146_121, om, nI_add, ta, lz, vkk_n, vkk_i, vkk_r, vkk_l, vkk_d, catS_nil, catS_i, catS_r, catS_l, catS_d, Nat.reduceAdd, Nat.reduceLeDiff, Nat.zero_le, Nat.le_refl, Option.bind_some, Option.toList_some, Option.toList_none, List.cons_append, List.nil_append, or_true, true_or, if_true, if_false, Int32.reduceLT, Int32.reduceLE, not_true, not_false_iff, true_and, and_true, false_and, and_false]
  | succ d ih =>
    intro n hd hp
    have ta := c_textAt h g L (p + n) b hs tx (by omega)
    have lz := c_m_le h (bx_lt tx (p + n))
    have bz : bx b L (p + n) = b (p + n) := if_pos (by omega)
    have bl : b (p + n) < 256 := (tx.2.2 _ (by omega)).1
    rw [bz] at ta lz
    have e : spn isLe b (d + 1) (p + n) = if isLe (b (p + n)) then spn isLe b d (p + n + 1) else p + n := rfl
    rw [e]
    cases z : isLe (b (p + n)) with
    | false =>
      simp only [Bool.false_eq_true, if_false]
      rw [z] at lz
      have lz : ev 142 0 [some (.int (nI (b (p + n))))] [] h = some (some (.int 0), h) := lz
      rw [Nat.add_sub_cancel_left]
      simp +decide only [e146_85, e146_86, e146_87, e146_88, e146_89, e146_92, e146_95, e146_98, e146_99, e146_101, e146_104, e146_106, e146_107, e146_108, e146_109, e146_110, e146_113, e146_116, e146_118, e146_121, om, nI_add, ta, lz, vkk_n, vkk_i, vkk_r, vkk_l, vkk_d, catS_nil, catS_i, catS_r, catS_l, catS_d, Nat.reduceAdd, Nat.reduceLeDiff, Nat.zero_le, Nat.le_refl, Option.bind_some, Option.toList_some, Option.toList_none, List.cons_append, List.nil_append, or_true, true_or, if_true, if_false, Int32.reduceLT, Int32.reduceLE, not_true, not_false_iff, true_and, and_true, false_and, and_false]
    | true =>
      simp only [if_true]
      rw [z] at lz
      have lz : ev 142 0 [some (.int (nI (b (p + n))))] [] h = some (some (.int 1), h) := lz
      have y := ih (n + 1) (by omega) (fun i hi => by
        by_cases q : i = n
        · rw [q]
          exact z
        · exact hp i (by omega))
      rw [show p + (n + 1) = p + n + 1 from rfl] at y
      obtain ⟨d1, d2⟩ := nle_dig ⟨b (p + n), bl⟩ z
      have d1 : uN (nI (b (p + n)) - 97 + 1).toInt64 = b (p + n) - 96 := d1
      have d2 : ¬ nI (b (p + n)) = 0 := d2
      by_cases q : n < 8
      · have q' : nI n < 8 := (nI_ltI (b := 8) (by omega) (by decide)).mpr q
        have ap := c_appends h (vMm b p n) (nI (b (p + n)))
        rw [if_neg d2] at ap
        have lt := vl_lt (B := 27) (by decide) n (dgL b p) (fun i hi => by have := isLe_b (hp i hi); unfold dgL; omega)
        have pw : 27 ^ n ≤ 27 ^ 7 := Nat.pow_le_pow_right (by decide) (by omega)
        have bb := isLe_b z
        have e1 : vMm b p n = Int64.ofNat (vl 27 (dgL b p) n) := by
          unfold vMm
          rw [if_pos q]
        have e2 : vMm b p (n + 1) = Int64.ofNat (27 * vl 27 (dgL b p) n + (b (p + n) - 96)) := by
          unfold vMm
          have : (if n + 1 < 8 then n + 1 else 8) = n + 1 := by split <;> omega
          rw [this]
          rfl
        have es : 27 * vMm b p n + (nI (b (p + n)) - 97 + 1).toInt64 = vMm b p (n + 1) := by
          apply uN_inj
          rw [uN_add, d1, e1, e2, lN_u (by omega)]
          have m27 : uN (27 * Int64.ofNat (vl 27 (dgL b p) n)) = 27 * vl 27 (dgL b p) n % 18446744073709551616 := by
            show ((27 : Int64).toBitVec * (Int64.ofNat (vl 27 (dgL b p) n)).toBitVec).toNat = _
            rw [BitVec.toNat_mul]
            have : (Int64.ofNat (vl 27 (dgL b p) n)).toBitVec.toNat = vl 27 (dgL b p) n := lN_u (by omega)
            rw [this]
            rfl
          rw [m27]
          omega
        rw [es] at ap
        simp +decide only [e146_85, e146_86, e146_87, e146_88, e146_89, e146_92, e146_95, om, nI_add, ta, lz, vkk_n, vkk_i, vkk_r, vkk_l, vkk_d, catS_nil, catS_i, catS_r, catS_l, catS_d, Nat.reduceAdd, Nat.reduceLeDiff, Nat.zero_le, Nat.le_refl, Option.bind_some, Option.toList_some, Option.toList_none, List.cons_append, List.nil_append, or_true, true_or, if_true, if_false, Int32.reduceLT, Int32.reduceLE, not_true, not_false_iff, true_and, and_true, false_and, and_false]
        simp +decide only [e146_98, e146_99, e146_101, e146_104, e146_106, e146_107, e146_108, e146_109, e146_110, e146_113, e146_116, e146_118, e146_121, om, nI_add, ta, q', ap, nI_1, vkk_n, vkk_i, vkk_r, vkk_l, vkk_d, catS_nil, catS_i, catS_r, catS_l, catS_d, Nat.reduceAdd, Nat.reduceLeDiff, Nat.zero_le, Nat.le_refl, Option.bind_some, Option.toList_some, Option.toList_none, List.cons_append, List.nil_append, or_true, true_or, if_true, if_false, Int32.reduceLT, Int32.reduceLE, not_true, not_false_iff, true_and, and_true, false_and, and_false]
        exact y
      · have q' : ¬ nI n < 8 := fun z => q ((nI_ltI (b := 8) (by omega) (by decide)).mp z)
        have e1 : vMm b p (n + 1) = vMm b p n := by
          unfold vMm
          rw [if_neg q, if_neg (show ¬ n + 1 < 8 by omega)]
        rw [e1] at y
        simp +decide only [e146_85, e146_86, e146_87, e146_88, e146_89, e146_92, e146_95, om, nI_add, ta, lz, vkk_n, vkk_i, vkk_r, vkk_l, vkk_d, catS_nil, catS_i, catS_r, catS_l, catS_d, Nat.reduceAdd, Nat.reduceLeDiff, Nat.zero_le, Nat.le_refl, Option.bind_some, Option.toList_some, Option.toList_none, List.cons_append, List.nil_append, or_true, true_or, if_true, if_false, Int32.reduceLT, Int32.reduceLE, not_true, not_false_iff, true_and, and_true, false_and, and_false]
        simp +decide only [e146_98, e146_99, e146_101, e146_104, e146_106, e146_107, e146_108, e146_109, e146_110, e146_113, e146_116, e146_118, e146_121, om, nI_add, ta, q', nI_1, vkk_n, vkk_i, vkk_r, vkk_l, vkk_d, catS_nil, catS_i, catS_r, catS_l, catS_d, Nat.reduceAdd, Nat.reduceLeDiff, Nat.zero_le, Nat.le_refl, Option.bind_some, Option.toList_some, Option.toList_none, List.cons_append, List.nil_append, or_true, true_or, if_true, if_false, Int32.reduceLT, Int32.reduceLE, not_true, not_false_iff, true_and, and_true, false_and, and_false]
        exact y
theorem l_mK (g p : Nat) (b : Nat → Nat) (c n : Int32) (u : Nat) (hu : u < 18446744073709551616) (h : VG) (hs : Sh h g) (hk : ∀ j, j < 14 → aL h (g + 273) j = mKey j) : ∀ d k cu, k + d = 14 → cu < 64 → ev 146 146 [some (.ref (g + 266)), some (.int (nI p)), some (.int c), some (.int n), some (.long (Int64.ofNat u)), none, some (.int (nI cu)), some (.int (nI k))] [] h = ev 146 179 [some (.ref (g + 266)), some (.int (nI p)), some (.int c), some (.int n), some (.long (Int64.ofNat u)), none, some (.int (nI (kF u d k cu))), some (.int 14)] [] h := by
  intro d
  induction d with
  | zero =>
    intro k cu hd hc
    obtain rfl : k = 14 := by omega
    have q : ¬ nI 14 < 14 := by decide
    show _ = ev 146 179 [some (.ref (g + 266)), some (.int (nI p)), some (.int c), some (.int n), some (.long (Int64.ofNat u)), none, some (.int (nI cu)), some (.int 14)] [] h
    simp +decide only [e146_146, e146_148, e146_150, q, vkk_n, vkk_i, vkk_r, vkk_l, vkk_d, catS_nil, catS_i, catS_r, catS_l, catS_d, Nat.reduceAdd, Nat.reduceLeDiff, Nat.zero_le, Nat.le_refl, Option.bind_some, Option.toList_some, Option.toList_none, List.cons_append, List.nil_append, or_true, true_or, if_true, if_false, Int32.reduceLT, Int32.reduceLE, not_true, not_false_iff, true_and, and_true, false_and, and_false]
    rfl
  | succ d ih =>
    intro k cu hd hc
    have q : nI k < 14 := (nI_ltI (b := 14) (by omega) (by decide)).mpr (by omega)
    have v3 : vp_in (nI k) 14 := vp_in_nI (by omega) (by decide)
    have v4 : (nI k).toNatClampNeg = k := nI_clamp (by omega)
    have ck := hk k (by omega)
    rw [(cWord_n ⟨k, by omega⟩).2] at ck
    have c40 : mkN k < 18446744073709551616 := by
      have : ∀ w : Fin 14, mkN w.val < 18446744073709551616 := by decide +kernel
      exact this ⟨k, by omega⟩
    have e : kF u (d + 1) k cu = kF u d (k + 1) (if mkN k = u then 20 + k else cu) := rfl
    rw [e]
    have y := ih (k + 1) (if mkN k = u then 20 + k else cu) (by omega) (by split <;> omega)
    by_cases z : mkN k = u
    · have z' : lg_cmp (Int64.ofNat (mkN k)) (Int64.ofNat u) = 0 := (lcmp_eq _ _).mpr (by rw [z])
      rw [if_pos z] at y ⊢
      have e20 : 20 + nI k = nI (20 + k) := by rw [show (20 : Int32) = nI 20 from rfl, nI_add]
      simp +decide only [e146_146, e146_148, e146_150, q, if_true]
      simp +decide only [e146_153, e146_154, e146_157, e146_159, e146_160, e146_162, e146_163, e146_166, e146_168, e146_170, e146_171, e146_173, e146_176, v3, v4, ck, z', e20, nI_1, nI_add, (Mod_0 hs.2.1 : ob h (g + 266) 11), (rf_g (Mod_19 hs.2.1 : rf h (g + 266) 9 (g + 273)) : gR h (g + 266) 9 = (g + 273)), (rf_is (Mod_19 hs.2.1 : rf h (g + 266) 9 (g + 273)) : isR h (g + 266) 9), (Mod_20 hs.2.1 : arL h (g + 273)), (Mod_21 hs.2.1 : aln h (g + 273) = 14), vkk_n, vkk_i, vkk_r, vkk_l, vkk_d, catS_nil, catS_i, catS_r, catS_l, catS_d, Nat.reduceAdd, Nat.reduceLeDiff, Nat.zero_le, Nat.le_refl, Option.bind_some, Option.toList_some, Option.toList_none, List.cons_append, List.nil_append, or_true, true_or, if_true, if_false, Int32.reduceLT, Int32.reduceLE, not_true, not_false_iff, true_and, and_true, false_and, and_false]
      exact y
    · have z' : ¬ lg_cmp (Int64.ofNat (mkN k)) (Int64.ofNat u) = 0 := fun y => z ((fN_eq c40 hu).mp ((lcmp_eq _ _).mp y))
      rw [if_neg z] at y ⊢
      simp +decide only [e146_146, e146_148, e146_150, q, if_true]
      simp +decide only [e146_153, e146_154, e146_157, e146_159, e146_160, e146_162, e146_163, e146_166, e146_168, e146_170, e146_171, e146_173, e146_176, v3, v4, ck, z', nI_1, nI_add, (Mod_0 hs.2.1 : ob h (g + 266) 11), (rf_g (Mod_19 hs.2.1 : rf h (g + 266) 9 (g + 273)) : gR h (g + 266) 9 = (g + 273)), (rf_is (Mod_19 hs.2.1 : rf h (g + 266) 9 (g + 273)) : isR h (g + 266) 9), (Mod_20 hs.2.1 : arL h (g + 273)), (Mod_21 hs.2.1 : aln h (g + 273) = 14), vkk_n, vkk_i, vkk_r, vkk_l, vkk_d, catS_nil, catS_i, catS_r, catS_l, catS_d, Nat.reduceAdd, Nat.reduceLeDiff, Nat.zero_le, Nat.le_refl, Option.bind_some, Option.toList_some, Option.toList_none, List.cons_append, List.nil_append, or_true, true_or, if_true, if_false, Int32.reduceLT, Int32.reduceLE, not_true, not_false_iff, true_and, and_true, false_and, and_false]
      exact y
def vN (b : Nat → Nat) (p n : Nat) : Nat := vl 10 (dgD b p) (if n < 4 then n else 4)
theorem l_mD (g L p : Nat) (b : Nat → Nat) (c : Int32) (h : VG) (hs : Sh h g) (tx : TXm h g b L) (l5 l6 l7 : Option Value) : ∀ d n, p + n + d = L → (∀ i, i < n → isDi (b (p + i)) = true) → ev 146 208 [some (.ref (g + 266)), some (.int (nI p)), some (.int c), some (.int (nI n)), some (.int (nI (vN b p n))), l5, l6, l7] [] h = ev 146 250 [some (.ref (g + 266)), some (.int (nI p)), some (.int c), some (.int (nI (spn isDi b d (p + n) - p))), some (.int (nI (vN b p (spn isDi b d (p + n) - p)))), l5, l6, l7] [] h := by
  have hL := tx.1
  have om : ob h (g + 266) 11 := Mod_0 hs.2.1
  intro d
  induction d with
  | zero =>
    intro n hd hp
    have e : spn isDi b 0 (p + n) = p + n := rfl
    have ta := c_textAt h g L (p + n) b hs tx (by omega)
    have lz := c_m_di h (bx_lt tx (p + n))
    have bz : bx b L (p + n) = 0 := if_neg (by omega)
    rw [bz] at ta lz
    have lz : ev 141 0 [some (.int (nI 0))] [] h = some (some (.int 0), h) := lz
    rw [e, Nat.add_sub_cancel_left]
    simp +decide only [e146_208, e146_209, e146_210, e146_211, e146_212, e146_215, e146_218, e146_221, e146_222, e146_223, e146_226, e146_228, e146_230, e146_231, e146_232, e146_233, e146_234, e146_235, e146_238, e146_239, e146_241, e146_242, e146_244, e146_247, om, nI_add, ta, lz, vkk_n, vkk_i, vkk_r, vkk_l, vkk_d, catS_nil, catS_i, catS_r, catS_l, catS_d, Nat.reduceAdd, Nat.reduceLeDiff, Nat.zero_le, Nat.le_refl, Option.bind_some, Option.toList_some, Option.toList_none, List.cons_append, List.nil_append, or_true, true_or, if_true, if_false, Int32.reduceLT, Int32.reduceLE, not_true, not_false_iff, true_and, and_true, false_and, and_false]
  | succ d ih =>
    intro n hd hp
    have ta := c_textAt h g L (p + n) b hs tx (by omega)
    have lz := c_m_di h (bx_lt tx (p + n))
    have bz : bx b L (p + n) = b (p + n) := if_pos (by omega)
    have bl : b (p + n) < 256 := (tx.2.2 _ (by omega)).1
    rw [bz] at ta lz
    have e : spn isDi b (d + 1) (p + n) = if isDi (b (p + n)) then spn isDi b d (p + n + 1) else p + n := rfl
    rw [e]
    cases z : isDi (b (p + n)) with
    | false =>
      simp only [Bool.false_eq_true, if_false]
      rw [z] at lz
      have lz : ev 141 0 [some (.int (nI (b (p + n))))] [] h = some (some (.int 0), h) := lz
      rw [Nat.add_sub_cancel_left]
      simp +decide only [e146_208, e146_209, e146_210, e146_211, e146_212, e146_215, e146_218, e146_221, e146_222, e146_223, e146_226, e146_228, e146_230, e146_231, e146_232, e146_233, e146_234, e146_235, e146_238, e146_239, e146_241, e146_242, e146_244, e146_247, om, nI_add, ta, lz, vkk_n, vkk_i, vkk_r, vkk_l, vkk_d, catS_nil, catS_i, catS_r, catS_l, catS_d, Nat.reduceAdd, Nat.reduceLeDiff, Nat.zero_le, Nat.le_refl, Option.bind_some, Option.toList_some, Option.toList_none, List.cons_append, List.nil_append, or_true, true_or, if_true, if_false, Int32.reduceLT, Int32.reduceLE, not_true, not_false_iff, true_and, and_true, false_and, and_false]
    | true =>
      simp only [if_true]
      rw [z] at lz
      have lz : ev 141 0 [some (.int (nI (b (p + n))))] [] h = some (some (.int 1), h) := lz
      have y := ih (n + 1) (by omega) (fun i hi => by
        by_cases q : i = n
        · rw [q]
          exact z
        · exact hp i (by omega))
      rw [show p + (n + 1) = p + n + 1 from rfl] at y
      have bb := isDi_b z
      by_cases q : n < 4
      · have q' : nI n < 4 := (nI_ltI (b := 4) (by omega) (by decide)).mpr q
        have lt := (vT_n b p n (by omega) hp).2
        have pw : 10 ^ n ≤ 10 ^ 3 := Nat.pow_le_pow_right (by decide) (by omega)
        have e1 : vN b p n = vl 10 (dgD b p) n := by
          unfold vN
          rw [if_pos q]
        have e2 : vN b p (n + 1) = 10 * vl 10 (dgD b p) n + (b (p + n) - 48) := by
          unfold vN
          have : (if n + 1 < 4 then n + 1 else 4) = n + 1 := by split <;> omega
          rw [this]
          rfl
        have es : (10 : Int32) * nI (vN b p n) + nI (b (p + n)) - 48 = nI (vN b p (n + 1)) := by
          rw [show (10 : Int32) = nI 10 from rfl, pk_mul, nI_add, show (48 : Int32) = nI 48 from rfl, pk_sub (by omega), e1, e2]
          congr 1
          omega
        simp +decide only [e146_208, e146_209, e146_210, e146_211, e146_212, e146_215, e146_218, om, nI_add, ta, lz, vkk_n, vkk_i, vkk_r, vkk_l, vkk_d, catS_nil, catS_i, catS_r, catS_l, catS_d, Nat.reduceAdd, Nat.reduceLeDiff, Nat.zero_le, Nat.le_refl, Option.bind_some, Option.toList_some, Option.toList_none, List.cons_append, List.nil_append, or_true, true_or, if_true, if_false, Int32.reduceLT, Int32.reduceLE, not_true, not_false_iff, true_and, and_true, false_and, and_false]
        simp +decide only [e146_221, e146_222, e146_223, e146_226, e146_228, e146_230, e146_231, e146_232, e146_233, e146_234, e146_235, e146_238, e146_239, e146_241, e146_242, e146_244, e146_247, om, nI_add, ta, q', es, nI_1, vkk_n, vkk_i, vkk_r, vkk_l, vkk_d, catS_nil, catS_i, catS_r, catS_l, catS_d, Nat.reduceAdd, Nat.reduceLeDiff, Nat.zero_le, Nat.le_refl, Option.bind_some, Option.toList_some, Option.toList_none, List.cons_append, List.nil_append, or_true, true_or, if_true, if_false, Int32.reduceLT, Int32.reduceLE, not_true, not_false_iff, true_and, and_true, false_and, and_false]
        exact y
      · have q' : ¬ nI n < 4 := fun z => q ((nI_ltI (b := 4) (by omega) (by decide)).mp z)
        have e1 : vN b p (n + 1) = vN b p n := by
          unfold vN
          rw [if_neg q, if_neg (show ¬ n + 1 < 4 by omega)]
        rw [e1] at y
        simp +decide only [e146_208, e146_209, e146_210, e146_211, e146_212, e146_215, e146_218, om, nI_add, ta, lz, vkk_n, vkk_i, vkk_r, vkk_l, vkk_d, catS_nil, catS_i, catS_r, catS_l, catS_d, Nat.reduceAdd, Nat.reduceLeDiff, Nat.zero_le, Nat.le_refl, Option.bind_some, Option.toList_some, Option.toList_none, List.cons_append, List.nil_append, or_true, true_or, if_true, if_false, Int32.reduceLT, Int32.reduceLE, not_true, not_false_iff, true_and, and_true, false_and, and_false]
        simp +decide only [e146_221, e146_222, e146_223, e146_226, e146_228, e146_230, e146_231, e146_232, e146_233, e146_234, e146_235, e146_238, e146_239, e146_241, e146_242, e146_244, e146_247, om, nI_add, ta, q', nI_1, vkk_n, vkk_i, vkk_r, vkk_l, vkk_d, catS_nil, catS_i, catS_r, catS_l, catS_d, Nat.reduceAdd, Nat.reduceLeDiff, Nat.zero_le, Nat.le_refl, Option.bind_some, Option.toList_some, Option.toList_none, List.cons_append, List.nil_append, or_true, true_or, if_true, if_false, Int32.reduceLT, Int32.reduceLE, not_true, not_false_iff, true_and, and_true, false_and, and_false]
        exact y
