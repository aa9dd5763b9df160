/-! paste, the call -/
theorem Inv_ref {h : VG} {g : Nat} (f : Int32) (R : Inv h g) : Inv (mRf (cRf h g f) (g + 266) f) g := Inv_ans (cRf_fr h g f) (mRf_fr _ _ f) (fun _ z => z.elim) (fun a k z => Or.inr z) (fun _ z => z.elim) (fun a k z => Or.inr z) (cRf_CA f (Cls_0 R.cls)) (mRf_MA f (cRf_ob.mpr (Mod_0 R.mod))) R
theorem rfs_cRf (h : VG) (g : Nat) (f : Int32) (ho : ob h g 10) : rfs (cRf h g 0) g f = cRf h g f := by
  rw [cRf_rfs h g 0 f ho, if_pos rfl]
/-- bins behind a paste: cells of bin t from J on, F of them, are those of bin b from I on -/
theorem RBins_paste {h h1 h2 : VG} {g b t s1 n1 s2 n2 I J F : Nat} {R1 R2 : Nat → Prop} {F1 F2 : Nat → Nat → Prop} (hb : b < 8) (ht : t < 8) (hh : RBins h g) (d1 : gI h (g + (177 + 3 * b)) 0 = nI s1) (d2 : gI h (g + (177 + 3 * t)) 0 = nI s2) (dn1 : gI h (g + (177 + 3 * b)) 1 = nI n1) (dn2 : gI h (g + (177 + 3 * t)) 1 = nI n2) (l1 : s1 < 12) (l2 : s2 < 12) (k1 : n1 ≤ 40) (k2 : n2 ≤ 40) (hI : I + F ≤ n1) (hJ : J + F ≤ n2) (ok : ∀ x, x < F → cOk s1 (aI h (g + (177 + 3 * b) + 1) (I + x)) → cOk s2 (aI h (g + (177 + 3 * b) + 1) (I + x))) (x : Fr R1 F1 h h1) (y : Fr R2 F2 h1 h2) (cx : ∀ a, R1 a → a = g + (177 + 3 * t) + 1 ∨ a = g + (177 + 3 * t) + 2) (cy : ∀ a, R2 a → (g + 286 < a ∧ a < g + 293)) (dx : ∀ a k, F1 a k → a = g) (dy : ∀ a k, F2 a k → a = g + 266) (e1 : ∀ z, (aI h1 (g + (177 + 3 * t) + 1) z = if J ≤ z ∧ z < J + F then aI h (g + (177 + 3 * b) + 1) (I + (z - J)) else aI h (g + (177 + 3 * t) + 1) z) ∧ (aL h1 (g + (177 + 3 * t) + 2) z = if J ≤ z ∧ z < J + F then aL h (g + (177 + 3 * b) + 2) (I + (z - J)) else aL h (g + (177 + 3 * t) + 2) z)) (e2 : ∀ z, (aI h2 (g + 287) z = if 40 * t + J ≤ z ∧ z < 40 * t + J + F then aI h (g + 287) (40 * b + I + (z - (40 * t + J))) else aI h (g + 287) z) ∧ (aL h2 (g + 288) z = if 40 * t + J ≤ z ∧ z < 40 * t + J + F then aL h (g + 288) (40 * b + I + (z - (40 * t + J))) else aL h (g + 288) z) ∧ (aD h2 (g + 289) z = if 40 * t + J ≤ z ∧ z < 40 * t + J + F then aD h (g + 289) (40 * b + I + (z - (40 * t + J))) else aD h (g + 289) z)) : RBins h2 g := by
  intro b' hb'
  obtain ⟨s', n', a1, a2, a3, a4, a5, a6, a7, a8⟩ := hh b' hb'
  have nf : ∀ a k, ¬ a = g → ¬ a = g + 266 → gI h2 a k = gI h a k := fun a k z1 z2 => (y.gI (fun z => z2 (dy _ _ z))).trans (x.gI (fun z => z1 (dx _ _ z)))
  have nr : ∀ a, ¬ (g + 286 < a ∧ a < g + 293) → ¬ (a = g + (177 + 3 * t) + 1 ∨ a = g + (177 + 3 * t) + 2) → ∀ z, aI h2 a z = aI h a z := fun a z1 z2 z => (y.I (fun q => z1 (cy _ q)) z).trans (x.I (fun q => z2 (cx _ q)) z)
  have nl : ∀ a, ¬ (g + 286 < a ∧ a < g + 293) → ¬ (a = g + (177 + 3 * t) + 1 ∨ a = g + (177 + 3 * t) + 2) → ∀ z, aL h2 a z = aL h a z := fun a z1 z2 z => (y.L (fun q => z1 (cy _ q)) z).trans (x.L (fun q => z2 (cx _ q)) z)
  have m1 : ∀ z, aI h2 (g + (177 + 3 * t) + 1) z = aI h1 (g + (177 + 3 * t) + 1) z := fun z => y.I (fun q => by have := cy _ q; omega) z
  have m2 : ∀ z, aL h2 (g + (177 + 3 * t) + 2) z = aL h1 (g + (177 + 3 * t) + 2) z := fun z => y.L (fun q => by have := cy _ q; omega) z
  refine ⟨s', n', a1, a2, a3, (nf _ _ (by omega) (by omega)).trans a4, (nr _ (by omega) (by omega) _).trans a5, (nf _ _ (by omega) (by omega)).trans a6, (nr _ (by omega) (by omega) _).trans a7, fun z hz => ?_⟩
  obtain ⟨p1, p2, p3⟩ := e2 (0 + 40 * b' + z)
  by_cases q : b' = t
  · subst q
    have q1 : s' = s2 := (nI_eq (by omega) (by omega)).mp (a4.symm.trans d2)
    have q2 : n' = n2 := (nI_eq (by omega) (by omega)).mp (a6.symm.trans dn2)
    subst q1 q2
    rw [m1, m2, (e1 z).1, (e1 z).2, p1, p2, p3]
    by_cases c : J ≤ z ∧ z < J + F
    · rw [if_pos c, if_pos c, if_pos (by omega), if_pos (by omega), if_pos (by omega), show 40 * b + I + (0 + 40 * b' + z - (40 * b' + J)) = 0 + 40 * b + (I + (z - J)) by omega]
      obtain ⟨s3, n3, f1, f2, f3, f4, f5, f6, f7, f8⟩ := hh b hb
      have q3 : s3 = s1 := (nI_eq (by omega) (by omega)).mp (f4.symm.trans d1)
      have q4 : n3 = n1 := (nI_eq (by omega) (by omega)).mp (f6.symm.trans dn1)
      subst q3 q4
      obtain ⟨f9, f10, f11⟩ := f8 (I + (z - J)) (by omega)
      exact ⟨ok _ (by omega) f9, f10, f11⟩
    · rw [if_neg c, if_neg c, if_neg (by omega), if_neg (by omega), if_neg (by omega)]
      exact a8 z hz
  · rw [nr _ (by omega) (by omega), nl _ (by omega) (by omega), p1, p2, p3, if_neg (by omega), if_neg (by omega), if_neg (by omega)]
    exact a8 z hz
set_option maxHeartbeats 4000000 in
theorem k_paste (h : VG) (g : Nat) (R : Inv h g) (b i t j n : Int32) : CalI h g 118 [some (.ref g), some (.int b), some (.int i), some (.int t), some (.int j), some (.int n), none, none, none] 198 [some (.ref (g + 266)), some (.int b), some (.int i), some (.int t), some (.int j), some (.int n)] := by
  have ho : ob h g 10 := Cls_0 R.cls
  have hm : ob h (g + 266) 11 := Mod_0 R.mod
  have F0 := cRf_fr h g 0
  have om0 : ob (cRf h g 0) (g + 266) 11 := cRf_ob.mpr hm
  rcases c_bn (b := b) with ⟨b, hb, rfl⟩ | ⟨q1, q2⟩
  case inr =>
    have i1 := fun h => isBin_c (h := h) q1
    have j1 := fun h => mBin_c (h := h) q2
    refine ⟨0, cRf h g 0, mRf (cRf h g 0) (g + 266) 0, ?_, ?_, Inv_bad R, ((mRf_fr ..).two.trans F0.two)⟩
    · rw [cRf_0]
      simp +decide only [e118_0, e118_1, e118_2, e118_5, e118_6, e118_9, e118_12, e118_13, e118_16, e118_19, e118_20, ho, i1, vkk_n, vkk_i, vkk_r, vkk_l, vkk_d, catS_nil, catS_i, catS_r, catS_l, catS_d, Nat.reduceAdd, Nat.reduceLeDiff, Nat.zero_le, Nat.le_refl, Option.bind_some, Option.toList_some, Option.toList_none, List.cons_append, List.nil_append, or_true, true_or, if_true, if_false, Int32.reduceLT, Int32.reduceLE, not_true, not_false_iff, true_and, and_true, false_and, and_false]
    · rw [mRf_0]
      simp +decide only [e198_0, e198_1, e198_2, e198_5, e198_6, e198_9, e198_12, e198_13, e198_16, e198_19, e198_20, e198_21, e198_22, e198_23, e198_24, e198_26, e198_28, e198_31, e198_34, e198_37, e198_38, e198_41, e198_42, om0, j1, vkk_n, vkk_i, vkk_r, vkk_l, vkk_d, catS_nil, catS_i, catS_r, catS_l, catS_d, Nat.reduceAdd, Nat.reduceLeDiff, Nat.zero_le, Nat.le_refl, Option.bind_some, Option.toList_some, Option.toList_none, List.cons_append, List.nil_append, or_true, true_or, if_true, if_false, Int32.reduceLT, Int32.reduceLE, not_true, not_false_iff, true_and, and_true, false_and, and_false]
  have i1 := fun h => isBin_c (h := h) (c_bn1 hb).1
  have j1 := fun h => mBin_c (h := h) (c_bn1 hb).2
  rcases c_bn (b := t) with ⟨t, ht, rfl⟩ | ⟨q1, q2⟩
  case inr =>
    have i2 := fun h => isBin_c (h := h) q1
    have j2 := fun h => mBin_c (h := h) q2
    refine ⟨0, cRf h g 0, mRf (cRf h g 0) (g + 266) 0, ?_, ?_, Inv_bad R, ((mRf_fr ..).two.trans F0.two)⟩
    · rw [cRf_0]
      simp +decide only [e118_0, e118_1, e118_2, e118_5, e118_6, e118_9, e118_12, e118_13, e118_16, e118_19, e118_20, ho, i1, i2, vkk_n, vkk_i, vkk_r, vkk_l, vkk_d, catS_nil, catS_i, catS_r, catS_l, catS_d, Nat.reduceAdd, Nat.reduceLeDiff, Nat.zero_le, Nat.le_refl, Option.bind_some, Option.toList_some, Option.toList_none, List.cons_append, List.nil_append, or_true, true_or, if_true, if_false, Int32.reduceLT, Int32.reduceLE, not_true, not_false_iff, true_and, and_true, false_and, and_false]
    · rw [mRf_0]
      simp +decide only [e198_0, e198_1, e198_2, e198_5, e198_6, e198_9, e198_12, e198_13, e198_16, e198_19, e198_20, e198_21, e198_22, e198_23, e198_24, e198_26, e198_28, e198_31, e198_34, e198_37, e198_38, e198_41, e198_42, om0, j1, j2, vkk_n, vkk_i, vkk_r, vkk_l, vkk_d, catS_nil, catS_i, catS_r, catS_l, catS_d, Nat.reduceAdd, Nat.reduceLeDiff, Nat.zero_le, Nat.le_refl, Option.bind_some, Option.toList_some, Option.toList_none, List.cons_append, List.nil_append, or_true, true_or, if_true, if_false, Int32.reduceLT, Int32.reduceLE, not_true, not_false_iff, true_and, and_true, false_and, and_false]
  have i2 := fun h => isBin_c (h := h) (c_bn1 ht).1
  have j2 := fun h => mBin_c (h := h) (c_bn1 ht).2
  have v1 : vp_in (nI b) 8 := vp_in_nI hb (by decide)
  have c1 : (nI b).toNatClampNeg = b := nI_clamp (by omega)
  have v2 : vp_in (nI t) 8 := vp_in_nI ht (by decide)
  have c2 : (nI t).toNatClampNeg = t := nI_clamp (by omega)
  have sH : Sh (cRf h g 0) g := cRf_sh R.sh
  obtain ⟨hA, eA⟩ := bin_sh sH hb
  obtain ⟨hB, eB⟩ := bin_sh sH ht
  obtain ⟨s1, n1, e1, e2, e3, e4, e5, e6, e7, e8⟩ := R.bins b hb
  obtain ⟨s2, n2, f1, f2, f3, f4, f5, f6, f7, f8⟩ := R.bins t ht
  rw [Nat.zero_add] at e5 e7 f5 f7
  have gg : ∀ a k, a = g + (177 + 3 * b) ∨ a = g + (177 + 3 * t) → gI (cRf h g 0) a k = gI h a k := fun a k ha => F0.gI (fun z => by unfold AC at z; omega)
  have cX := c_pasteRefusal (cRf h g 0) (g + (177 + 3 * t)) (g + (177 + 3 * b)) (Bin_0 hB) (Bin_0 hA)
  rw [gg _ _ (Or.inr rfl), gg _ _ (Or.inl rfl), e4, f4] at cX
  have cY := c_spanRefusal (cRf h g 0) (g + (177 + 3 * b)) i n (Bin_0 hA)
  rw [gg _ _ (Or.inl rfl), e6] at cY
  have cZ := c_spanRefusal (cRf h g 0) (g + (177 + 3 * t)) j n (Bin_0 hB)
  rw [gg _ _ (Or.inr rfl), f6] at cZ
  have cr := fun f => c_refuses (cRf h g 0) g f (Cls_0 sH.1)
  have cr0 : ev 100 0 [some (.ref g), some (.int 0)] [] (cRf h g 0) = some (some (.int 0), cRf h g 0) := by
    have := cr 0
    rw [rfs_cRf h g 0 ho] at this
    exact this
  have ent : ev 118 0 [some (.ref g), some (.int (nI b)), some (.int i), some (.int (nI t)), some (.int j), some (.int n), none, none, none] [] h = ev 118 43 [some (.ref g), some (.int (nI b)), some (.int i), some (.int (nI t)), some (.int j), some (.int n), some (.ref (g + (177 + 3 * b))), some (.ref (g + (177 + 3 * t))), none] [] (cRf h g 0) := by
    have rH : pI h g 9 0 = cRf h g 0 := rfl
    simp +decide only [e118_0, e118_1, e118_2, e118_5, e118_6, e118_9, e118_12, e118_13, e118_16, ho, i1, i2, rH, vkk_n, vkk_i, vkk_r, vkk_l, vkk_d, catS_nil, catS_i, catS_r, catS_l, catS_d, Nat.reduceAdd, Nat.reduceLeDiff, Nat.zero_le, Nat.le_refl, Option.bind_some, Option.toList_some, Option.toList_none, List.cons_append, List.nil_append, or_true, true_or, if_true, if_false, Int32.reduceLT, Int32.reduceLE, not_true, not_false_iff, true_and, and_true, false_and, and_false]
    generalize cRf h g 0 = H at sH eA eB
    simp +decide only [e118_21, e118_22, e118_25, e118_28, e118_29, e118_30, e118_32, e118_33, e118_36, e118_39, e118_40, e118_41, v1, c1, v2, c2, eA, eB, vrf_some, (Cls_0 sH.1 : ob H g 10), (rf_g (Cls_3 sH.1 : rf H g 6 (g + 172)) : gR H g 6 = (g + 172)), (rf_is (Cls_3 sH.1 : rf H g 6 (g + 172)) : isR H g 6), (State_0 (Cls_17 sH.1) : ob H (g + 172) 8), (eq_true (isI_ob (State_0 (Cls_17 sH.1) : ob H (g + 172) 8) rfl : isI H (g + 172) 3)), (rf_g (State_1 (Cls_17 sH.1) : rf H (g + 172) 0 (g + 173)) : gR H (g + 172) 0 = (g + 173)), (rf_is (State_1 (Cls_17 sH.1) : rf H (g + 172) 0 (g + 173)) : isR H (g + 172) 0), (rf_g (State_2 (Cls_17 sH.1) : rf H (g + 172) 1 (g + 175)) : gR H (g + 172) 1 = (g + 175)), (rf_is (State_2 (Cls_17 sH.1) : rf H (g + 172) 1 (g + 175)) : isR H (g + 172) 1), (rf_g (State_3 (Cls_17 sH.1) : rf H (g + 172) 2 (g + 176)) : gR H (g + 172) 2 = (g + 176)), (rf_is (State_3 (Cls_17 sH.1) : rf H (g + 172) 2 (g + 176)) : isR H (g + 172) 2), (State_5 (Cls_17 sH.1) : arR H (g + 175) 5), (rdR_5 (State_5 (Cls_17 sH.1) : arR H (g + 175) 5) : rdR H (g + 175)), (State_6 (Cls_17 sH.1) : aln H (g + 175) = 8), (State_8 (Cls_17 sH.1) : arL H (g + 176)), (State_9 (Cls_17 sH.1) : aln H (g + 176) = 8), vkk_n, vkk_i, vkk_r, vkk_l, vkk_d, catS_nil, catS_i, catS_r, catS_l, catS_d, Nat.reduceAdd, Nat.reduceLeDiff, Nat.zero_le, Nat.le_refl, Option.bind_some, Option.toList_some, Option.toList_none, List.cons_append, List.nil_append, or_true, true_or, if_true, if_false, Int32.reduceLT, Int32.reduceLE, not_true, not_false_iff, true_and, and_true, false_and, and_false]
  -- a refused call
  have no : ∀ f, f = 1 ∨ f = 2 ∨ f = 3 → ev 118 43 [some (.ref g), some (.int (nI b)), some (.int i), some (.int (nI t)), some (.int j), some (.int n), some (.ref (g + (177 + 3 * b))), some (.ref (g + (177 + 3 * t))), none] [] (cRf h g 0) = some (some (.int 0), cRf h g f) → (∀ m, Sh m g → aI m (g + 285) b = nI s1 → aI m (g + 285) t = nI s2 → aI m (g + 286) b = nI n1 → aI m (g + 286) t = nI n2 → ev 197 0 [some (.ref (g + 266)), some (.int (nI b)), some (.int i), some (.int (nI t)), some (.int j), some (.int n), none, none, none] [] m = some (some (.int f), m)) → CalI h g 118 [some (.ref g), some (.int (nI b)), some (.int i), some (.int (nI t)), some (.int j), some (.int n), none, none, none] 198 [some (.ref (g + 266)), some (.int (nI b)), some (.int i), some (.int (nI t)), some (.int j), some (.int n)] := by
    intro f hf a1 a2
    have f0 : ¬ f = 0 := by rcases hf with rfl | rfl | rfl <;> decide
    have fn : ¬ f < 0 := by rcases hf with rfl | rfl | rfl <;> decide
    have om : ob (cRf h g f) (g + 266) 11 := cRf_ob.mpr hm
    have m2 := (msy_0 (cRf h g f) (g + 266) f fn om).1
    have sm : Sh (pI (cRf h g f) (g + 266) 31 0) g := m0_sh (cRf_sh R.sh)
    have X := (cRf_fr h g f).un (m0_fr (cRf h g f) (g + 266))
    have xr : ∀ a k, aI (pI (cRf h g f) (g + 266) 31 0) a k = aI h a k := fun a k => X.I (fun z => by simp only [NR, or_false] at z) k
    have a3 := a2 (pI (cRf h g f) (g + 266) 31 0) sm ((xr _ _).trans e5) ((xr _ _).trans f5) ((xr _ _).trans e7) ((xr _ _).trans f7)
    refine ⟨0, cRf h g f, mRf (cRf h g f) (g + 266) f, ent.trans a1, ?_, Inv_ref f R, (mRf_fr ..).two.trans (cRf_fr ..).two⟩
    have om2 : ob (pI (cRf h g f) (g + 266) 31 0) (g + 266) 11 := Mod_0 sm.2.1
    simp +decide only [e198_0, e198_1, e198_2, e198_5, e198_6, e198_9, e198_12, e198_13, e198_16, e198_19, e198_20, e198_21, e198_22, e198_23, e198_24, e198_26, e198_28, e198_31, e198_34, e198_37, e198_38, e198_41, e198_42, om, om2, j1, j2, a3, c_m_says, m2, f0, vkk_n, vkk_i, vkk_r, vkk_l, vkk_d, catS_nil, catS_i, catS_r, catS_l, catS_d, Nat.reduceAdd, Nat.reduceLeDiff, Nat.zero_le, Nat.le_refl, Option.bind_some, Option.toList_some, Option.toList_none, List.cons_append, List.nil_append, or_true, true_or, if_true, if_false, Int32.reduceLT, Int32.reduceLE, not_true, not_false_iff, true_and, and_true, false_and, and_false]
  rcases c_m_pasSort h g b t s1 s2 i j n R.sh hb ht e5 f5 e1 f1 with ⟨p1, p2, -⟩ | ⟨p1, p2, p3, p4, -⟩
  · refine no _ (p2.elim (fun z => Or.inr (Or.inl z)) (fun z => Or.inr (Or.inr z))) ?_ (fun m sm q1 q2 _ _ => ?_)
    · have cq := cr (pasRef (nI s2) (nI s1))
      rw [if_neg p1, rfs_cRf h g _ ho] at cq
      generalize pasRef (nI s2) (nI s1) = X at cX cq
      generalize cRf h g X = HX at cq
      have oH := Cls_0 sH.1
      have oA := Bin_0 hA
      have oB := Bin_0 hB
      generalize cRf h g 0 = H at cX cq oH oA oB
      simp +decide only [e118_43, e118_44, e118_46, e118_48, e118_51, e118_54, e118_57, e118_58, e118_60, e118_61, e118_63, e118_66, e118_69, e118_72, e118_73, e118_75, e118_77, e118_79, e118_82, e118_85, e118_88, e118_89, oH, oA, oB, cX, cq, vkk_n, vkk_i, vkk_r, vkk_l, vkk_d, catS_nil, catS_i, catS_r, catS_l, catS_d, Nat.reduceAdd, Nat.reduceLeDiff, Nat.zero_le, Nat.le_refl, Option.bind_some, Option.toList_some, Option.toList_none, List.cons_append, List.nil_append, or_true, true_or, if_true, if_false, Int32.reduceLT, Int32.reduceLE, not_true, not_false_iff, true_and, and_true, false_and, and_false]
    · rcases c_m_pasSort m g b t s1 s2 i j n sm hb ht q1 q2 e1 f1 with ⟨z1, z2, z3⟩ | ⟨z1, -⟩
      · exact z3
      · exact absurd z1 p1
  have msrt : ∀ m, Sh m g → aI m (g + 285) b = nI s1 → aI m (g + 285) t = nI s2 → ∃ wd, ev 197 0 [some (.ref (g + 266)), some (.int (nI b)), some (.int i), some (.int (nI t)), some (.int j), some (.int n), none, none, none] [] m = ev 197 120 [some (.ref (g + 266)), some (.int (nI b)), some (.int i), some (.int (nI t)), some (.int j), some (.int n), some (.int (picks s1 s2)), some (.int wd), none] [] m := by
    intro m sm q1 q2
    rcases c_m_pasSort m g b t s1 s2 i j n sm hb ht q1 q2 e1 f1 with ⟨z1, z2, z3⟩ | ⟨z1, -, -, -, z2⟩
    · exact absurd p1 z1
    · exact z2
  have spno : (n < 0 ∨ i < 0 ∨ j < 0 ∨ ¬ i ≤ nI n1 - n ∨ ¬ j ≤ nI n2 - n) → ∀ m, Sh m g → aI m (g + 285) b = nI s1 → aI m (g + 285) t = nI s2 → aI m (g + 286) b = nI n1 → aI m (g + 286) t = nI n2 → ev 197 0 [some (.ref (g + 266)), some (.int (nI b)), some (.int i), some (.int (nI t)), some (.int j), some (.int n), none, none, none] [] m = some (some (.int 1), m) := by
    intro q m sm q1 q2 q3 q4
    obtain ⟨wd, z⟩ := msrt m sm q1 q2
    exact z.trans ((c_m_pasSpan m g b t n1 n2 i j n (picks s1 s2) wd sm hb ht q3 q4).1 q)
  rw [p1] at cX
  rcases span_ok (show n1 ≤ 40 by omega) i n with ⟨y1, I, N, rfl, rfl, y2, y3⟩ | ⟨y1, y2⟩
  case inr =>
    refine no 1 (Or.inl rfl) ?_ (spno (by rcases y2 with z | z | z; exact Or.inl z; exact Or.inr (Or.inl z.2); exact Or.inr (Or.inr (Or.inr (Or.inl z.2.2)))))
    have cq := cr 1
    rw [if_neg (by decide), rfs_cRf h g _ ho] at cq
    rw [y1] at cY
    generalize cRf h g 1 = HX at cq
    have oH := Cls_0 sH.1
    have oA := Bin_0 hA
    have oB := Bin_0 hB
    generalize cRf h g 0 = H at cX cY cq cr0 oH oA oB
    simp +decide only [e118_43, e118_44, e118_46, e118_48, e118_51, e118_54, e118_57, e118_58, e118_60, e118_61, e118_63, e118_66, e118_69, e118_72, e118_73, e118_75, e118_77, e118_79, e118_82, e118_85, e118_88, e118_89, oH, oA, oB, cX, cY, cr0, cq, vkk_n, vkk_i, vkk_r, vkk_l, vkk_d, catS_nil, catS_i, catS_r, catS_l, catS_d, Nat.reduceAdd, Nat.reduceLeDiff, Nat.zero_le, Nat.le_refl, Option.bind_some, Option.toList_some, Option.toList_none, List.cons_append, List.nil_append, or_true, true_or, if_true, if_false, Int32.reduceLT, Int32.reduceLE, not_true, not_false_iff, true_and, and_true, false_and, and_false]
  rw [y1] at cY
  rcases span_ok (show n2 ≤ 40 by omega) j (nI N) with ⟨w1, J, N', rfl, w0, w2, w3⟩ | ⟨w1, w2⟩
  case inr =>
    refine no 1 (Or.inl rfl) ?_ (spno (by rcases w2 with z | z | z; exact Or.inl z; exact Or.inr (Or.inr (Or.inl z.2)); exact Or.inr (Or.inr (Or.inr (Or.inr z.2.2)))))
    have cq := cr 1
    rw [if_neg (by decide), rfs_cRf h g _ ho] at cq
    rw [w1] at cZ
    generalize cRf h g 1 = HX at cq
    have oH := Cls_0 sH.1
    have oA := Bin_0 hA
    have oB := Bin_0 hB
    generalize cRf h g 0 = H at cX cY cZ cq cr0 oH oA oB
    simp +decide only [e118_43, e118_44, e118_46, e118_48, e118_51, e118_54, e118_57, e118_58, e118_60, e118_61, e118_63, e118_66, e118_69, e118_72, e118_73, e118_75, e118_77, e118_79, e118_82, e118_85, e118_88, e118_89, oH, oA, oB, cX, cY, cZ, cr0, cq, vkk_n, vkk_i, vkk_r, vkk_l, vkk_d, catS_nil, catS_i, catS_r, catS_l, catS_d, Nat.reduceAdd, Nat.reduceLeDiff, Nat.zero_le, Nat.le_refl, Option.bind_some, Option.toList_some, Option.toList_none, List.cons_append, List.nil_append, or_true, true_or, if_true, if_false, Int32.reduceLT, Int32.reduceLE, not_true, not_false_iff, true_and, and_true, false_and, and_false]
  rw [w1] at cZ
  obtain rfl : N' = N := ((nI_eq (by omega) (by omega)).mp w0).symm
  -- how many cells fit
  have hF : ∃ F, F = pS (picks s1 s2) (fun x => aI h (g + (177 + 3 * b) + 1) (I + x)) 0 N' := ⟨_, rfl⟩
  obtain ⟨F, hF⟩ := hF
  obtain ⟨F1, F2, F3⟩ := pS_le (picks s1 s2) (fun x => aI h (g + (177 + 3 * b) + 1) (I + x)) N' 0
  rw [← hF] at F1 F2 F3
  have rI : ∀ a k, aI (cRf h g 0) a k = aI h a k := fun a k => F0.I (fun z => z) k
  have rL : ∀ a k, aL (cRf h g 0) a k = aL h a k := fun a k => F0.L (fun z => z) k
  have fit : ev 118 90 [some (.ref g), some (.int (nI b)), some (.int (nI I)), some (.int (nI t)), some (.int (nI J)), some (.int (nI N')), some (.ref (g + (177 + 3 * b))), some (.ref (g + (177 + 3 * t))), none] [] (cRf h g 0) = ev 118 115 [some (.ref g), some (.int (nI b)), some (.int (nI I)), some (.int (nI t)), some (.int (nI J)), some (.int (nI N')), some (.ref (g + (177 + 3 * b))), some (.ref (g + (177 + 3 * t))), some (.int (nI F))] [] (cRf h g 0) := by
    have oA := Bin_0 hA
    have oB := Bin_0 hB
    have t1 : gI (cRf h g 0) (g + (177 + 3 * t)) 0 = nI s2 := (gg _ _ (Or.inr rfl)).trans f4
    by_cases q9 : s2 = 9
    · have u1 : ev 15 2 [some (.ref (g + (177 + 3 * b))), some (.int (nI I)), some (.int (nI N')), some (.int 0)] [] (cRf h g 0) = _ := l_words (g + (177 + 3 * b)) I N' (cRf h g 0) hA (by omega) N' 0 (by omega)
      have e : wFn (fun x => aI (cRf h g 0) (g + (177 + 3 * b) + 1) (I + x)) 0 N' = F := by
        simp only [rI]
        rw [hF]
        unfold picks
        by_cases q8 : s1 = 8
        · rw [if_pos ⟨q8, q9⟩, pS_1]
        · rw [if_neg (fun z => q8 z.1), pS_0]
          refine wFn_all _ _ _ (fun x _ hx => ?_)
          have := (e8 (I + x) (by omega)).1.2.2 (by omega)
          exact this.symm
      rw [e] at u1
      subst q9
      generalize cRf h g 0 = H at u1 t1 oA oB
      simp +decide only [e118_90, e118_92, e118_95, e118_97, e118_100, e118_102, e118_103, e118_105, e118_108, e118_111, e118_113, e15_0, e15_1, oA, oB, t1, u1, vkk_n, vkk_i, vkk_r, vkk_l, vkk_d, catS_nil, catS_i, catS_r, catS_l, catS_d, Nat.reduceAdd, Nat.reduceLeDiff, Nat.zero_le, Nat.le_refl, Option.bind_some, Option.toList_some, Option.toList_none, List.cons_append, List.nil_append, or_true, true_or, if_true, if_false, Int32.reduceLT, Int32.reduceLE, not_true, not_false_iff, true_and, and_true, false_and, and_false]
    · have e : F = N' := by
        rw [hF]
        unfold picks
        rw [if_neg (fun z => q9 z.2), pS_0, Nat.zero_add]
      have q9' : ¬ nI s2 = 9 := fun z => q9 ((nI_eq (b := 9) (by omega) (by decide)).mp z)
      rw [e]
      generalize cRf h g 0 = H at t1 oA oB
      simp +decide only [e118_90, e118_92, e118_95, e118_97, e118_100, e118_102, e118_103, e118_105, e118_108, e118_111, e118_113, oA, oB, t1, q9', vkk_n, vkk_i, vkk_r, vkk_l, vkk_d, catS_nil, catS_i, catS_r, catS_l, catS_d, Nat.reduceAdd, Nat.reduceLeDiff, Nat.zero_le, Nat.le_refl, Option.bind_some, Option.toList_some, Option.toList_none, List.cons_append, List.nil_append, or_true, true_or, if_true, if_false, Int32.reduceLT, Int32.reduceLE, not_true, not_false_iff, true_and, and_true, false_and, and_false]
  obtain ⟨h1, d1, d2, d3⟩ := c_pasteCells (cRf h g 0) (g + (177 + 3 * b)) (g + (177 + 3 * t)) I J F hA hB (by omega) (by omega) (by omega)
  have s1' : Sh h1 g := Sh_fr d2 (fun a z => by omega) sH
  have oA := Bin_0 hA
  have oB := Bin_0 hB
  have oH := Cls_0 sH.1
  have ca1 : CA h h1 g 0 := by
    have := cRf_CA (h := h) 0 ho
    unfold CA at this ⊢
    rw [d2.gI (fun z => z), d2.gI (fun z => z)]
    exact this
  have hf2 : ∃ f, f = (if F = N' then (0 : Int32) else 2) ∧ (f = 0 ∨ f = 2) := ⟨_, rfl, by split; exact Or.inl rfl; exact Or.inr rfl⟩
  obtain ⟨f, hf, hf'⟩ := hf2
  have fn : ¬ f < 0 := by rcases hf' with rfl | rfl <;> decide
  obtain ⟨ca2, F2'⟩ := CA_rfs (h0 := h) (hc := h1) (g := g) (f := 0) f (Cls_0 s1'.1) ca1
  rw [if_pos rfl] at ca2
  have X := (F0.un d2).un F2'
  have s2' : Sh (rfs h1 g f) g := Sh_fr F2' (fun a z => z.elim) s1'
  have E1 : ev 118 0 [some (.ref g), some (.int (nI b)), some (.int (nI I)), some (.int (nI t)), some (.int (nI J)), some (.int (nI N')), none, none, none] [] h = some (some (.int (if f = 0 then 1 else 0)), rfs h1 g f) := by
    have o1 := Cls_0 s1'.1
    have cf := c_refuses h1 g 2 o1
    rw [if_neg (by decide)] at cf
    rw [ent]
    have go : ev 118 43 [some (.ref g), some (.int (nI b)), some (.int (nI I)), some (.int (nI t)), some (.int (nI J)), some (.int (nI N')), some (.ref (g + (177 + 3 * b))), some (.ref (g + (177 + 3 * t))), none] [] (cRf h g 0) = ev 118 90 [some (.ref g), some (.int (nI b)), some (.int (nI I)), some (.int (nI t)), some (.int (nI J)), some (.int (nI N')), some (.ref (g + (177 + 3 * b))), some (.ref (g + (177 + 3 * t))), none] [] (cRf h g 0) := by
      clear fit d1 d3 rI rL
      generalize cRf h g 0 = H at cX cY cZ cr0 oH oA oB
      simp +decide only [e118_43, e118_44, e118_46, e118_48, e118_51, e118_54, e118_57, e118_58, e118_60, e118_61, e118_63, e118_66, e118_69, e118_72, e118_73, e118_75, e118_77, e118_79, e118_82, e118_85, oH, oA, oB, cX, cY, cZ, cr0, vkk_n, vkk_i, vkk_r, vkk_l, vkk_d, catS_nil, catS_i, catS_r, catS_l, catS_d, Nat.reduceAdd, Nat.reduceLeDiff, Nat.zero_le, Nat.le_refl, Option.bind_some, Option.toList_some, Option.toList_none, List.cons_append, List.nil_append, or_true, true_or, if_true, if_false, Int32.reduceLT, Int32.reduceLE, not_true, not_false_iff, true_and, and_true, false_and, and_false]
    rw [go, fit]
    have r0 : rfs h1 g 0 = h1 := if_pos rfl
    by_cases q : F = N'
    · rw [if_pos q] at hf
      subst hf
      have q' : nI F = nI N' := by rw [q]
      rw [r0]
      rw [q'] at d1
      simp +decide only [e118_115, e118_117, e118_119, e118_120, e118_122, e118_124, e118_127, e118_129, e118_131, e118_134, e118_135, e118_136, e118_139, e118_142, e118_143, e118_146, e118_147, oA, oB, d1, q', vkk_n, vkk_i, vkk_r, vkk_l, vkk_d, catS_nil, catS_i, catS_r, catS_l, catS_d, Nat.reduceAdd, Nat.reduceLeDiff, Nat.zero_le, Nat.le_refl, Option.bind_some, Option.toList_some, Option.toList_none, List.cons_append, List.nil_append, or_true, true_or, if_true, if_false, Int32.reduceLT, Int32.reduceLE, not_true, not_false_iff, true_and, and_true, false_and, and_false]
    · rw [if_neg q] at hf
      subst hf
      have q' : ¬ nI F = nI N' := fun z => q ((nI_eq (by omega) (by omega)).mp z)
      simp +decide only [e118_115, e118_117, e118_119, e118_120, e118_122, e118_124, e118_127, e118_129, e118_131, e118_134, e118_135, e118_136, e118_139, e118_142, e118_143, e118_146, e118_147, oA, oB, o1, d1, q', cf, vkk_n, vkk_i, vkk_r, vkk_l, vkk_d, catS_nil, catS_i, catS_r, catS_l, catS_d, Nat.reduceAdd, Nat.reduceLeDiff, Nat.zero_le, Nat.le_refl, Option.bind_some, Option.toList_some, Option.toList_none, List.cons_append, List.nil_append, or_true, true_or, if_true, if_false, Int32.reduceLT, Int32.reduceLE, not_true, not_false_iff, true_and, and_true, false_and, and_false]
  -- the model
  have m0f := m0_fr (rfs h1 g f) (g + 266)
  have sm : Sh (pI (rfs h1 g f) (g + 266) 31 0) g := Sh_fr m0f (fun a z => z.elim) s2'
  have XX := X.un m0f
  have xr : ∀ a, ¬ (a = g + (177 + 3 * t) + 1 ∨ a = g + (177 + 3 * t) + 2) → ∀ k, aI (pI (rfs h1 g f) (g + 266) 31 0) a k = aI h a k := fun a z k => XX.I (fun y => by simp only [NR, false_or, or_false] at y; omega) k
  have xl : ∀ a, ¬ (a = g + (177 + 3 * t) + 1 ∨ a = g + (177 + 3 * t) + 2) → ∀ k, aL (pI (rfs h1 g f) (g + 266) 31 0) a k = aL h a k := fun a z k => XX.L (fun y => by simp only [NR, false_or, or_false] at y; omega) k
  have xd : ∀ a, ¬ (a = g + (177 + 3 * t) + 1 ∨ a = g + (177 + 3 * t) + 2) → ∀ k, aD (pI (rfs h1 g f) (g + 266) 31 0) a k = aD h a k := fun a z k => XX.D (fun y => by simp only [NR, false_or, or_false] at y; omega) k
  obtain ⟨wd, k0⟩ := msrt (pI (rfs h1 g f) (g + 266) 31 0) sm ((xr _ (by omega) _).trans e5) ((xr _ (by omega) _).trans f5)
  have k1 := (c_m_pasSpan (pI (rfs h1 g f) (g + 266) 31 0) g b t n1 n2 (nI I) (nI J) (nI N') (picks s1 s2) wd sm hb ht ((xr _ (by omega) _).trans e7) ((xr _ (by omega) _).trans f7)).2 ⟨nI_pos (by omega), nI_pos (by omega), nI_pos (by omega), y3, w3⟩
  have hP : (40 : Int32) * nI b + nI I = nI (40 * b + I) := nI_40 b I
  have hQ : (40 : Int32) * nI t + nI J = nI (40 * t + J) := nI_40 t J
  obtain ⟨ma, g1, g2, g3, -⟩ := l_pst1 g (40 * b + I) N' (nI b) (nI I) (nI t) (nI J) (picks s1 s2) wd hP (by omega) (by omega) (fun x => aI h (g + 287) (40 * b + I + x)) (fun x => aL h (g + 288) (40 * b + I + x)) (fun x => aD h (g + 289) (40 * b + I + x)) N' 0 (pI (rfs h1 g f) (g + 266) 31 0) (by omega) sm (fun x _ => xr _ (by omega) _) (fun x _ => xl _ (by omega) _) (fun x _ => xd _ (by omega) _)
  have sa : Sh ma g := Sh_fr g2 (fun a z => by omega) sm
  obtain ⟨mb, q1, q2, q3⟩ := l_pst2 g (40 * t + J) N' (nI b) (nI I) (nI t) (nI J) (picks s1 s2) wd (fun x => aI h (g + 287) (40 * b + I + x)) (fun x => aL h (g + 288) (40 * b + I + x)) (fun x => aD h (g + 289) (40 * b + I + x)) hQ (by omega) (by omega) N' 0 ma (by omega) sa (fun x hx => g3 x (Nat.zero_le _) hx)
  have pSe : pS (picks s1 s2) (fun x => aI h (g + 287) (40 * b + I + x)) 0 N' = F := by
    rw [hF]
    have : ∀ d k, k + d ≤ N' → pS (picks s1 s2) (fun x => aI h (g + 287) (40 * b + I + x)) k d = pS (picks s1 s2) (fun x => aI h (g + (177 + 3 * b) + 1) (I + x)) k d := by
      intro d
      induction d with
      | zero =>
        intro k _
        rfl
      | succ d ih =>
        intro k hk
        have y := (e8 (I + k) (by omega)).2.1
        rw [Nat.zero_add, ← Nat.add_assoc] at y
        show (if _ ∨ aI h (g + 287) (40 * b + I + k) = 8 ∨ aI h (g + 287) (40 * b + I + k) = -2 then _ else _) = (if _ ∨ aI h (g + (177 + 3 * b) + 1) (I + k) = 8 ∨ aI h (g + (177 + 3 * b) + 1) (I + k) = -2 then _ else _)
        rw [ih (k + 1) (by omega)]
        simp only [y]
    exact this N' 0 (by omega)
  rw [pSe] at q1 q3
  have fe : (if F = N' then (0 : Int32) else 2) = f := hf.symm
  rw [fe] at q1
  have sb : Sh mb g := Sh_fr q2 (fun a z => by omega) sa
  have om2 : ob mb (g + 266) 11 := Mod_0 sb.2.1
  have omr : ob (rfs h1 g f) (g + 266) 11 := Mod_0 s2'.2.1
  have omp : ob (pI (rfs h1 g f) (g + 266) 31 0) (g + 266) 11 := Mod_0 sm.2.1
  have m2 := (msy_0 mb (g + 266) f fn om2).2
  have mf := mRf_fr mb (g + 266) f
  have gq := g2.un q2
  have Y := (m0f.un gq).un mf
  have zz := X.un Y
  have pas : ev 197 0 [some (.ref (g + 266)), some (.int (nI b)), some (.int (nI I)), some (.int (nI t)), some (.int (nI J)), some (.int (nI N')), none, none, none] [] (pI (rfs h1 g f) (g + 266) 31 0) = some (some (.int f), mb) := by
    have g1' : ev 197 166 [some (.ref (g + 266)), some (.int (nI b)), some (.int (nI I)), some (.int (nI t)), some (.int (nI J)), some (.int (nI N')), some (.int (picks s1 s2)), some (.int wd), some (.int 0)] [] (pI (rfs h1 g f) (g + 266) 31 0) = _ := g1
    have q1' : ev 197 245 [some (.ref (g + 266)), some (.int (nI b)), some (.int (nI I)), some (.int (nI t)), some (.int (nI J)), some (.int (nI N')), some (.int (picks s1 s2)), some (.int wd), some (.int 0)] [] ma = _ := q1
    rw [k0, k1, g1']
    simp +decide only [e197_242, e197_243, q1', vkk_n, vkk_i, vkk_r, vkk_l, vkk_d, catS_nil, catS_i, catS_r, catS_l, catS_d, Nat.reduceAdd, Nat.reduceLeDiff, Nat.zero_le, Nat.le_refl, Option.bind_some, Option.toList_some, Option.toList_none, List.cons_append, List.nil_append, or_true, true_or, if_true, if_false, Int32.reduceLT, Int32.reduceLE, not_true, not_false_iff, true_and, and_true, false_and, and_false]
  have E2 : ev 198 0 [some (.ref (g + 266)), some (.int (nI b)), some (.int (nI I)), some (.int (nI t)), some (.int (nI J)), some (.int (nI N'))] [] (rfs h1 g f) = some (some (.int (if f = 0 then 1 else 0)), mRf mb (g + 266) f) := by
    rcases hf' with hf' | hf' <;> subst hf' <;> simp +decide only [e198_0, e198_1, e198_2, e198_5, e198_6, e198_9, e198_12, e198_13, e198_16, e198_19, e198_20, e198_21, e198_22, e198_23, e198_24, e198_26, e198_28, e198_31, e198_34, e198_37, e198_38, e198_41, e198_42, omr, omp, om2, j1, j2, pas, c_m_says, m2, vkk_n, vkk_i, vkk_r, vkk_l, vkk_d, catS_nil, catS_i, catS_r, catS_l, catS_d, Nat.reduceAdd, Nat.reduceLeDiff, Nat.zero_le, Nat.le_refl, Option.bind_some, Option.toList_some, Option.toList_none, List.cons_append, List.nil_append, or_true, true_or, if_true, if_false, Int32.reduceLT, Int32.reduceLE, not_true, not_false_iff, true_and, and_true, false_and, and_false]
  have ma2 : MA (rfs h1 g f) (mRf mb (g + 266) f) (g + 266) f := fr_ma (R1 := NR) (F1 := NF) f gq (fun z => z.elim id id) om2
  have rb : RBins (mRf mb (g + 266) f) g := by
    refine RBins_paste (h := h) (h1 := rfs h1 g f) (b := b) (t := t) (s1 := s1) (s2 := s2) (n1 := n1) (n2 := n2) (I := I) (J := J) (F := F) hb ht R.bins e4 f4 e6 f6 e1 f1 e2 f2 (by omega) (by omega) ?_ X Y ?_ ?_ ?_ ?_ ?_ ?_
    · intro x hx hc
      rcases p4 with z | ⟨z1, z2⟩
      · rw [← z]
        exact hc
      · refine ⟨fun y => by omega, fun y => ?_, fun y => ?_⟩
        · by_cases z3 : s1 = 8
          · exact hc.2.1 z3
          · rcases hc.2.2 (by omega) with w | w
            · exact Or.inl w
            · exact Or.inr ⟨8, by decide, w⟩
        · by_cases z3 : s1 = 8
          · have := F3 x (Nat.zero_le _) hx
            unfold picks at this
            rw [if_pos ⟨z3, y⟩] at this
            rcases this with w | w | w
            · exact absurd w (by decide)
            · exact Or.inr w
            · exact Or.inl w
          · exact hc.2.2 (by omega)
    · intro a z
      simp only [NR, false_or, or_false] at z
      exact z
    · intro a z
      simp only [NR, false_or, or_false] at z
      omega
    · intro a k z
      unfold AC at z
      simp only [NF, or_false] at z
      omega
    · intro a k z
      unfold AM at z
      simp only [NF, or_false] at z
      omega
    · intro z
      obtain ⟨z1, z2⟩ := d3 z
      rw [F2'.I (fun q => q), F2'.L (fun q => q), z1, z2, rI, rI, rL, rL]
      exact ⟨rfl, rfl⟩
    · intro z
      obtain ⟨z1, z2, z3⟩ := q3 z
      rw [mf.I (fun q => q), mf.L (fun q => q), mf.D (fun q => q), z1, z2, z3, g2.I (a := g + 287) (fun q => by omega), g2.L (a := g + 288) (fun q => by omega), g2.D (a := g + 289) (fun q => by omega), xr (g + 287) (by omega), xl (g + 288) (by omega), xd (g + 289) (by omega)]
      exact ⟨rfl, rfl, rfl⟩
  have I' : Inv (mRf mb (g + 266) f) g := by
    refine Inv_now X Y ?_ ?_ ?_ ?_ ca2 ma2 (RHd_fr zz ?_ R.hd) (RMem_fr zz ?_ R.mem) (RReg_fr zz ?_ R.reg) rb R
    · intro a z
      unfold NwR SR
      simp only [NR, false_or, or_false] at z
      omega
    · intro a y z
      unfold NwF SF
      unfold AC at z
      simp only [NF, or_false] at z
      omega
    · intro a z
      unfold NwR SR
      simp only [NR, false_or, or_false] at z
      omega
    · intro a y z
      unfold NwF SF
      unfold AM at z
      simp only [NF, or_false, false_or] at z
      omega
    · intro a k z
      unfold AC AM at z
      simp only [NF, or_false, false_or] at z
      omega
    · intro a z
      simp only [NR, false_or, or_false] at z
      omega
    · intro a z
      simp only [NR, false_or, or_false] at z
      omega
  exact ⟨_, _, _, E1, E2, I', zz.two⟩
