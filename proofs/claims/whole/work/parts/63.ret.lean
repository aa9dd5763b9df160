/-! numbers read back; returns -/
def mdv (F : Nat → Int32) (big : Int32) (a n : Nat) : Nat → Int64
  | 0 => 0
  | i + 1 => (mdv F big a n i <<< ((8 : Int32).toInt64 &&& 63)) ||| (F (if big = 0 then a + n - 1 - i else a + i)).toInt64
theorem rdv_mdv {F G : Nat → Int32} {big : Int32} {a n : Nat} (ha : a + n ≤ 256) (he : ∀ j, j < 256 → F j &&& 255 = G j) : ∀ i, i ≤ n → rdv F big a n i = mdv G big a n i
  | 0, _ => rfl
  | i + 1, hi => by
    show (_ <<< _) ||| _ = (_ <<< _) ||| _
    rw [rdv_mdv ha he i (by omega), he]
    split <;> omega
theorem l_numberAt (h : VG) (g a n : Nat) (hs : Sh h g) (hn : n ≤ 8) (ha : a + n ≤ 256) : ∀ (d i : Nat), i + d = n → ev 203 5 [some (.ref (g + 266)), some (.int (nI a)), some (.int (nI n)), some (.long (mdv (aI h (g + 277)) (gI h (g + 266) 17) a n i)), none, some (.int (nI i))] [] h = some (some (.long (mdv (aI h (g + 277)) (gI h (g + 266) 17) a n n)), h) := by
  intro d
  induction d with
  | zero =>
    intro i hi
    obtain rfl : i = n := by omega
    have q : ¬ nI i < nI i := nI_nlt (Nat.le_refl _) (by omega)
    simp only [e203_5, e203_7, e203_8, q, if_false]
    simp +decide only [e203_51, e203_52, vkk_n, vkk_i, vkk_r, vkk_l, vkk_d, catS_nil, catS_i, catS_r, catS_l, catS_d, Nat.reduceAdd, Nat.reduceLeDiff, Nat.zero_le, Nat.le_refl, Option.bind_some, Option.toList_some, Option.toList_none, List.cons_append, List.nil_append, or_true, true_or, if_true, if_false, Int32.reduceLT, Int32.reduceLE, not_true, not_false_iff, true_and, and_true, false_and, and_false]
  | succ d ih =>
    intro i hi
    have q : nI i < nI n := nI_lt (by omega) (by omega)
    simp only [e203_5, e203_7, e203_8, q, if_true]
    by_cases hb : gI h (g + 266) 17 = 0
    · have hj : vp_in (nI (a + n - 1 - i)) 256 := vp_in_nI (by omega) (by decide)
      have hcl : (nI (a + n - 1 - i)).toNatClampNeg = a + n - 1 - i := nI_clamp (by omega)
      have hx : mdv (aI h (g + 277)) (gI h (g + 266) 17) a n (i + 1) = (mdv (aI h (g + 277)) (gI h (g + 266) 17) a n i <<< ((8 : Int32).toInt64 &&& 63)) ||| (aI h (g + 277) (a + n - 1 - i)).toInt64 := by
        show (_ <<< _) ||| (aI h (g + 277) (if gI h (g + 266) 17 = 0 then _ else _)).toInt64 = _
        rw [if_pos hb]
      have hy := ih (i + 1) (by omega)
      rw [hx] at hy
      have h1 : nI (a + n) - 1 - nI i = nI (a + n - 1 - i) := nI_m1 (by omega)
      simp only [e203_11, e203_12, e203_14, e203_15, e203_16, e203_19, e203_20, e203_23, e203_26, e203_27, e203_29, e203_30, e203_33, e203_34, e203_35, e203_36, e203_37, e203_38, e203_40, e203_41, e203_42, e203_43, e203_44, e203_45, e203_48, (Mod_0 hs.2.1 : ob h (g + 266) 11), (rf_g (Mod_31 hs.2.1 : rf h (g + 266) 23 (g + 277)) : gR h (g + 266) 23 = (g + 277)), (rf_is (Mod_31 hs.2.1 : rf h (g + 266) 23 (g + 277)) : isR h (g + 266) 23), (Mod_32 hs.2.1 : arI h (g + 277) 0), (rdI_0 (Mod_32 hs.2.1 : arI h (g + 277) 0) : rdI h (g + 277)), (Mod_33 hs.2.1 : aln h (g + 277) = 256), hb, if_true, if_false, hj, hcl, nI_add, h1, nI_1, vkk_n, vkk_i, vkk_r, vkk_l, vkk_d, Nat.add_assoc, Nat.reduceAdd, Nat.add_left_cancel_iff, Nat.reduceEqDiff, Nat.add_eq_left, Nat.left_eq_add]
      rw [hb] at hy
      exact hy
    · have hj : vp_in (nI (a + i)) 256 := vp_in_nI (by omega) (by decide)
      have hcl : (nI (a + i)).toNatClampNeg = a + i := nI_clamp (by omega)
      have hx : mdv (aI h (g + 277)) (gI h (g + 266) 17) a n (i + 1) = (mdv (aI h (g + 277)) (gI h (g + 266) 17) a n i <<< ((8 : Int32).toInt64 &&& 63)) ||| (aI h (g + 277) (a + i)).toInt64 := by
        show (_ <<< _) ||| (aI h (g + 277) (if gI h (g + 266) 17 = 0 then _ else _)).toInt64 = _
        rw [if_neg hb]
      have hy := ih (i + 1) (by omega)
      rw [hx] at hy
      simp only [e203_11, e203_12, e203_14, e203_15, e203_16, e203_19, e203_20, e203_23, e203_26, e203_27, e203_29, e203_30, e203_33, e203_34, e203_35, e203_36, e203_37, e203_38, e203_40, e203_41, e203_42, e203_43, e203_44, e203_45, e203_48, (Mod_0 hs.2.1 : ob h (g + 266) 11), (rf_g (Mod_31 hs.2.1 : rf h (g + 266) 23 (g + 277)) : gR h (g + 266) 23 = (g + 277)), (rf_is (Mod_31 hs.2.1 : rf h (g + 266) 23 (g + 277)) : isR h (g + 266) 23), (Mod_32 hs.2.1 : arI h (g + 277) 0), (rdI_0 (Mod_32 hs.2.1 : arI h (g + 277) 0) : rdI h (g + 277)), (Mod_33 hs.2.1 : aln h (g + 277) = 256), hb, if_true, if_false, hj, hcl, nI_add, nI_1, vkk_n, vkk_i, vkk_r, vkk_l, vkk_d, Nat.add_assoc, Nat.reduceAdd, Nat.add_left_cancel_iff, Nat.reduceEqDiff, Nat.add_eq_left, Nat.left_eq_add]
      exact hy
theorem c_m_numberAt (h : VG) (g a n : Nat) (hs : Sh h g) (hn : n ≤ 8) (ha : a + n ≤ 256) : ev 203 0 [some (.ref (g + 266)), some (.int (nI a)), some (.int (nI n)), none, none, none] [] h = some (some (.long (mdv (aI h (g + 277)) (gI h (g + 266) 17) a n n)), h) := by
  have u : ev 203 5 [some (.ref (g + 266)), some (.int (nI a)), some (.int (nI n)), some (.long 0), none, some (.int 0)] [] h = _ := l_numberAt h g a n hs hn ha n 0 (by omega)
  simp +decide only [e203_0, e203_1, e203_2, e203_3, vkk_n, vkk_i, vkk_r, vkk_l, vkk_d, catS_nil, catS_i, catS_r, catS_l, catS_d, Nat.reduceAdd, Nat.reduceLeDiff, Nat.zero_le, Nat.le_refl, Option.bind_some, Option.toList_some, Option.toList_none, List.cons_append, List.nil_append, or_true, true_or, if_true, if_false, Int32.reduceLT, Int32.reduceLE, not_true, not_false_iff, true_and, and_true, false_and, and_false]
  exact u
def rW (F : Nat → Int32) (big : Int32) (a : Nat) : Int64 := kExt 4 (rdv F big a 4 4) 4
theorem c_rdC (h : VG) (g a : Nat) (F : Nat → Int32) (big : Int32) (hs : Sh h g) (ha : a + 4 ≤ 256) (hF : ∀ j, aI h (g + 174) j = F j) (hB : gI h (g + 173) 2 = big) : ev 56 0 [some (.ref (g + 173)), some (.int (nI a)), some (.int 4), some (.int 0), none, none, none, none, none] [] h = some (some (.long (rW F big a)), h) := by
  obtain rfl : aI h (g + 174) = F := funext hF
  subst hB
  exact c_cellAt h g (g + 173) a 4 0 hs.2.2 (State_4 (Cls_17 hs.1)) (by decide) ha
theorem c_rdM (h : VG) (g a : Nat) (F : Nat → Int32) (big : Int32) (hs : Sh h g) (ha : a + 4 ≤ 256) (hF : ∀ j, j < 256 → F j &&& 255 = aI h (g + 277) j) (hB : gI h (g + 266) 17 = big) : ∃ x, ev 203 0 [some (.ref (g + 266)), some (.int (nI a)), some (.int 4), none, none, none] [] h = some (some (.long x), h) ∧ ev 204 0 [some (.long x), none, some (.int 4), none] [] h = some (some (.long (rW F big a)), h) := by
  subst hB
  refine ⟨_, c_m_numberAt h g a 4 hs (by decide) ha, ?_⟩
  rw [c_m_signed]
  unfold rW kExt
  rw [if_pos (Or.inr (Or.inr (Or.inl rfl))), rdv_mdv ha hF 4 (Nat.le_refl _)]
theorem l_retC (g S : Nat) (F : Nat → Int32) (big : Int32) (v : Int64) (hS : S + 36 ≤ 256) : ∀ d i (h : VG), i + d = 8 → Sh h g → (∀ j, aI h (g + 174) j = F j) → gI h (g + 173) 2 = big → ∃ h1, ev 131 84 [some (.ref g), some (.int (nI S)), some (.long v), none, some (.int (nI i))] [] h = ev 131 125 [some (.ref g), some (.int (nI S)), some (.long v), none, some (.int 8)] [] h1 ∧ Fr (fun a => a = g + 176) NF h h1 ∧ ∀ j, aL h1 (g + 176) j = if i ≤ j ∧ j < 8 then rW F big (S + 4 * j) else aL h (g + 176) j := by
  intro d
  induction d with
  | zero =>
    intro i h hi hs hF hB
    obtain rfl : i = 8 := by omega
    refine ⟨h, ?_, Fr.rfl _, fun j => (if_neg (by omega)).symm⟩
    have q : ¬ (8 : Int32) < 8 := by decide
    rw [show nI 8 = (8 : Int32) from rfl]
    simp +decide only [e131_84, e131_86, e131_88, q, vkk_n, vkk_i, vkk_r, vkk_l, vkk_d, catS_nil, catS_i, catS_r, catS_l, catS_d, Nat.reduceAdd, Nat.reduceLeDiff, Nat.zero_le, Nat.le_refl, Option.bind_some, Option.toList_some, Option.toList_none, List.cons_append, List.nil_append, or_true, true_or, if_true, if_false, Int32.reduceLT, Int32.reduceLE, not_true, not_false_iff, true_and, and_true, false_and, and_false]
  | succ d ih =>
    intro i h hi hs hF hB
    have q : nI i < nI 8 := nI_lt (by omega) (by omega)
    have q' : nI i < 8 := q
    have hv : vp_in (nI i) 8 := vp_in_nI (by omega) (by decide)
    have hc : (nI i).toNatClampNeg = i := nI_clamp (by omega)
    have u := c_rdC h g (S + 4 * i) F big hs (by omega) hF hB
    have x1 : Fr (fun a => a = g + 176) NF h (wL h (g + 176) i (rW F big (S + 4 * i))) := Fr_wL _ _ _ _ rfl
    obtain ⟨h1, v1, v2, v3⟩ := ih (i + 1) _ (by omega) (Sh_fr x1 (fun a z => by omega) hs) (fun j => (x1.I (a := g + 174) (fun z => by omega) j).trans (hF j)) ((x1.gI (fun z => z)).trans hB)
    refine ⟨h1, ?_, x1.tr v2, fun j => ?_⟩
    · simp +decide only [e131_84, e131_86, e131_88, q', if_true]
      simp +decide only [e131_91, e131_92, e131_95, e131_98, e131_100, e131_101, e131_104, e131_107, e131_108, e131_109, e131_111, e131_112, e131_113, e131_114, e131_115, e131_118, e131_119, e131_122, (State_0 (Cls_17 hs.1) : ob h (g + 172) 8), (eq_true (isI_ob (State_0 (Cls_17 hs.1) : ob h (g + 172) 8) rfl : isI h (g + 172) 3)), (rf_g (State_1 (Cls_17 hs.1) : rf h (g + 172) 0 (g + 173)) : gR h (g + 172) 0 = (g + 173)), (rf_is (State_1 (Cls_17 hs.1) : rf h (g + 172) 0 (g + 173)) : isR h (g + 172) 0), (rf_g (State_2 (Cls_17 hs.1) : rf h (g + 172) 1 (g + 175)) : gR h (g + 172) 1 = (g + 175)), (rf_is (State_2 (Cls_17 hs.1) : rf h (g + 172) 1 (g + 175)) : isR h (g + 172) 1), (rf_g (State_3 (Cls_17 hs.1) : rf h (g + 172) 2 (g + 176)) : gR h (g + 172) 2 = (g + 176)), (rf_is (State_3 (Cls_17 hs.1) : rf h (g + 172) 2 (g + 176)) : isR h (g + 172) 2), (State_5 (Cls_17 hs.1) : arR h (g + 175) 5), (rdR_5 (State_5 (Cls_17 hs.1) : arR h (g + 175) 5) : rdR h (g + 175)), (State_6 (Cls_17 hs.1) : aln h (g + 175) = 8), (State_8 (Cls_17 hs.1) : arL h (g + 176)), (State_9 (Cls_17 hs.1) : aln h (g + 176) = 8), (Mem_0 (State_4 (Cls_17 hs.1)) : ob h (g + 173) 5), (eq_true (isI_ob (Mem_0 (State_4 (Cls_17 hs.1)) : ob h (g + 173) 5) rfl : isI h (g + 173) 1)), (eq_true (isI_ob (Mem_0 (State_4 (Cls_17 hs.1)) : ob h (g + 173) 5) rfl : isI h (g + 173) 2)), (rf_g (Mem_1 (State_4 (Cls_17 hs.1)) : rf h (g + 173) 0 (g + 174)) : gR h (g + 173) 0 = (g + 174)), (rf_is (Mem_1 (State_4 (Cls_17 hs.1)) : rf h (g + 173) 0 (g + 174)) : isR h (g + 173) 0), (Mem_2 (State_4 (Cls_17 hs.1)) : arI h (g + 174) 2), (rdB_2 (Mem_2 (State_4 (Cls_17 hs.1)) : arI h (g + 174) 2) : rdB h (g + 174)), (Mem_3 (State_4 (Cls_17 hs.1)) : aln h (g + 174) = 256), (Cls_0 hs.1 : ob h g 10), (rf_g (Cls_3 hs.1 : rf h g 6 (g + 172)) : gR h g 6 = (g + 172)), (rf_is (Cls_3 hs.1 : rf h g 6 (g + 172)) : isR h g 6), m4, nI_add, u, hv, hc, nI_1, Nat.add_assoc, Nat.reduceAdd, Nat.add_left_cancel_iff, Nat.reduceEqDiff, Nat.add_eq_left, Nat.left_eq_add, vkk_n, vkk_i, vkk_r, vkk_l, vkk_d, catS_nil, catS_i, catS_r, catS_l, catS_d, Nat.reduceAdd, Nat.reduceLeDiff, Nat.zero_le, Nat.le_refl, Option.bind_some, Option.toList_some, Option.toList_none, List.cons_append, List.nil_append, or_true, true_or, if_true, if_false, Int32.reduceLT, Int32.reduceLE, not_true, not_false_iff, true_and, and_true, false_and, and_false]
      exact v1
    · rw [v3 j, aL_wL _ _ _ _ _ _ (State_8 (Cls_17 hs.1))]
      by_cases e : j = i
      · subst e
        rw [if_neg (by omega), if_pos ⟨rfl, rfl⟩, if_pos (by omega)]
      · rw [if_neg (c := g + 176 = g + 176 ∧ j = i) (fun z => e z.2)]
        by_cases z : i ≤ j ∧ j < 8
        · rw [if_pos z, if_pos (by omega)]
        · rw [if_neg z, if_neg (by omega)]
theorem l_retM (g S : Nat) (F : Nat → Int32) (big w : Int32) (hS : S + 36 ≤ 256) : ∀ d i (h : VG), i + d = 8 → Sh h g → (∀ j, j < 256 → F j &&& 255 = aI h (g + 277) j) → gI h (g + 266) 17 = big → (∀ h1, gI h1 (g + 266) 18 = gI h (g + 266) 18 → gI h1 (g + 266) 57 = gI h (g + 266) 57 → Sh h1 g → ev 226 0 [some (.ref (g + 266))] [] h1 = some (some (.int (nI S)), h1)) → ∃ h1, ev 228 57 [some (.ref (g + 266)), some (.int w), some (.int (nI i))] [] h = ev 228 92 [some (.ref (g + 266)), some (.int w), some (.int 8)] [] h1 ∧ Fr (fun a => a = g + 298) NF h h1 ∧ ∀ j, aL h1 (g + 298) j = if i ≤ j ∧ j < 8 then rW F big (S + 4 * j) else aL h (g + 298) j := by
  intro d
  induction d with
  | zero =>
    intro i h hi hs hF hB hT
    obtain rfl : i = 8 := by omega
    refine ⟨h, ?_, Fr.rfl _, fun j => (if_neg (by omega)).symm⟩
    have q : ¬ (8 : Int32) < 8 := by decide
    rw [show nI 8 = (8 : Int32) from rfl]
    simp +decide only [e228_57, e228_58, e228_60, q, vkk_n, vkk_i, vkk_r, vkk_l, vkk_d, catS_nil, catS_i, catS_r, catS_l, catS_d, Nat.reduceAdd, Nat.reduceLeDiff, Nat.zero_le, Nat.le_refl, Option.bind_some, Option.toList_some, Option.toList_none, List.cons_append, List.nil_append, or_true, true_or, if_true, if_false, Int32.reduceLT, Int32.reduceLE, not_true, not_false_iff, true_and, and_true, false_and, and_false]
  | succ d ih =>
    intro i h hi hs hF hB hT
    have q : nI i < nI 8 := nI_lt (by omega) (by omega)
    have q' : nI i < 8 := q
    have hv : vp_in (nI i) 8 := vp_in_nI (by omega) (by decide)
    have hc : (nI i).toNatClampNeg = i := nI_clamp (by omega)
    obtain ⟨x, u1, u2⟩ := c_rdM h g (S + 4 * i) F big hs (by omega) hF hB
    have ts := hT h rfl rfl hs
    have x1 : Fr (fun a => a = g + 298) NF h (wL h (g + 298) i (rW F big (S + 4 * i))) := Fr_wL _ _ _ _ rfl
    obtain ⟨h1, v1, v2, v3⟩ := ih (i + 1) _ (by omega) (Sh_fr x1 (fun a z => by omega) hs) (fun j hj => (hF j hj).trans (x1.I (a := g + 277) (fun z => by omega) j).symm) ((x1.gI (fun z => z)).trans hB) (fun h1 z1 z2 z3 => hT h1 (z1.trans (x1.gI (fun z => z))) (z2.trans (x1.gI (fun z => z))) z3)
    refine ⟨h1, ?_, x1.tr v2, fun j => ?_⟩
    · simp +decide only [e228_57, e228_58, e228_60, q', if_true]
      simp +decide only [e228_63, e228_64, e228_67, e228_68, e228_69, e228_70, e228_73, e228_74, e228_75, e228_76, e228_77, e228_78, e228_81, e228_82, e228_85, e228_86, e228_89, (Mod_0 hs.2.1 : ob h (g + 266) 11), (rf_g (Mod_94 hs.2.1 : rf h (g + 266) 56 (g + 298)) : gR h (g + 266) 56 = (g + 298)), (rf_is (Mod_94 hs.2.1 : rf h (g + 266) 56 (g + 298)) : isR h (g + 266) 56), (Mod_95 hs.2.1 : arL h (g + 298)), (Mod_96 hs.2.1 : aln h (g + 298) = 8), m4, nI_add, ts, u1, u2, hv, hc, nI_1, Nat.add_assoc, Nat.reduceAdd, Nat.add_left_cancel_iff, Nat.reduceEqDiff, Nat.add_eq_left, Nat.left_eq_add, vkk_n, vkk_i, vkk_r, vkk_l, vkk_d, catS_nil, catS_i, catS_r, catS_l, catS_d, Nat.reduceAdd, Nat.reduceLeDiff, Nat.zero_le, Nat.le_refl, Option.bind_some, Option.toList_some, Option.toList_none, List.cons_append, List.nil_append, or_true, true_or, if_true, if_false, Int32.reduceLT, Int32.reduceLE, not_true, not_false_iff, true_and, and_true, false_and, and_false]
      exact v1
    · rw [v3 j, aL_wL _ _ _ _ _ _ (Mod_95 hs.2.1)]
      by_cases e : j = i
      · subst e
        rw [if_neg (by omega), if_pos ⟨rfl, rfl⟩, if_pos (by omega)]
      · rw [if_neg (c := g + 298 = g + 298 ∧ j = i) (fun z => e z.2)]
        by_cases z : i ≤ j ∧ j < 8
        · rw [if_pos z, if_pos (by omega)]
        · rw [if_neg z, if_neg (by omega)]
theorem nI_fr0 {a : Nat} (ha : a ≤ 256) (h : ¬ a = 0) : ¬ nI a = 0 := by
  intro z
  exact h ((nI_eq (a := a) (b := 0) (by omega) (by omega)).mp z)
theorem retC (h : VG) (g l fr S : Nat) (F : Nat → Int32) (big : Int32) (hs : Sh h g) (e1 : gI h (g + 173) 1 = nI l) (e3 : gI h (g + 172) 3 = nI fr) (f0 : ¬ fr = 0) (l2 : l ≤ 256) (l3 : 36 * fr ≤ l) (hS : l - 36 * fr = S) (hF : ∀ j, aI h (g + 174) j = F j) (hB : gI h (g + 173) 2 = big) (q : rW F big (S + 32) = (nI (fr - 1)).toInt64) : ∃ h1, ev 131 0 [some (.ref g), none, none, none, none] [] h = some (some (.int (nI (fr - 1))), h1) ∧ Fr (fun a => a = g + 176) (fun a j => AC g a j ∨ (a = g + 172 ∧ j = 3)) h h1 ∧ gI h1 (g + 172) 3 = nI (fr - 1) ∧ CA h h1 g 0 ∧ ∀ j, j < 8 → aL h1 (g + 176) j = rW F big (S + 4 * j) := by
  have ho : ob h g 10 := Cls_0 hs.1
  have s0 : Sh (cRf h g 0) g := cRf_sh hs
  have F0 := cRf_fr h g 0
  have CA0 := cRf_CA (h := h) 0 ho
  have t36 : (36 : Int32) * nI fr = nI (36 * fr) := by rw [show (36 : Int32) = nI 36 from rfl, pk_mul]
  have tst : nI l - nI (36 * fr) = nI S := by rw [pk_sub l3, hS]
  have fn : ¬ nI fr = 0 := nI_fr0 (by omega) f0
  have tf : nI fr - 1 = nI (fr - 1) := by
    rw [show (1 : Int32) = nI 1 from rfl, pk_sub (by omega)]
  have t32 : nI S + 32 = nI (S + 32) := nI_add (a := S) (b := 32)
  have m0 : ∀ j, aI (cRf h g 0) (g + 174) j = F j := fun j => (F0.I (fun z => z) j).trans (hF j)
  have gl : ∀ j, gI (cRf h g 0) (g + 173) j = gI h (g + 173) j := fun j => F0.gI (fun z => by unfold AC at z; omega)
  have gf : gI (cRf h g 0) (g + 172) 3 = nI fr := (F0.gI (fun z => by unfold AC at z; omega)).trans e3
  have rc := c_rdC (cRf h g 0) g (S + 32) F big s0 (by omega) m0 ((gl 2).trans hB)
  obtain ⟨hA, a1, a2, a3⟩ := l_retC g S F big (rW F big (S + 32)) (by omega) 8 0 (cRf h g 0) rfl s0 m0 ((gl 2).trans hB)
  have a1' : ev 131 84 [some (.ref g), some (.int (nI S)), some (.long (rW F big (S + 32))), none, some (.int 0)] [] (cRf h g 0) = ev 131 125 [some (.ref g), some (.int (nI S)), some (.long (rW F big (S + 32))), none, some (.int 8)] [] hA := a1
  rw [q] at rc a1'
  have sA : Sh hA g := Sh_fr a2 (fun a z => by omega) s0
  have gA : gI hA (g + 172) 3 = nI fr := (a2.gI (fun z => z)).trans gf
  have oA : ob hA (g + 172) 8 := State_0 (Cls_17 sA.1)
  have f9 : Fr (fun a => a = g + 176) (fun a j => AC g a j ∨ (a = g + 172 ∧ j = 3)) hA (pI hA (g + 172) 3 (nI (fr - 1))) := Fr_pI _ _ _ _ (Or.inr ⟨rfl, rfl⟩)
  have fD : Fr NR (fun a j => (a = g + 172 ∧ j = 3)) hA (pI hA (g + 172) 3 (nI (fr - 1))) := Fr_pI _ _ _ _ ⟨rfl, rfl⟩
  have sD : Sh (pI hA (g + 172) 3 (nI (fr - 1))) g := Sh_fr fD (fun a z => z.elim) sA
  have gD : gI (pI hA (g + 172) 3 (nI (fr - 1))) (g + 172) 3 = nI (fr - 1) := by rw [gI_pI, if_pos ⟨rfl, rfl, isI_ob oA rfl⟩]
  have gne : ∀ y, gI (pI hA (g + 172) 3 (nI (fr - 1))) g y = gI (cRf h g 0) g y := fun y => (gI_pI_ne _ _ _ _ _ _ (fun z => by omega)).trans (a2.gI (fun z => z))
  refine ⟨pI hA (g + 172) 3 (nI (fr - 1)), ?_, ((F0.mo (fun _ z => z.elim) (fun _ _ z => Or.inl z)).tr (a2.mo (fun _ z => z) (fun _ _ z => z.elim))).tr f9, gD, ?_, fun j hj => ?_⟩
  · simp +decide only [e131_0, e131_1, e131_2, ho, vkk_n, vkk_i, vkk_r, vkk_l, vkk_d, catS_nil, catS_i, catS_r, catS_l, catS_d, Nat.reduceAdd, Nat.reduceLeDiff, Nat.zero_le, Nat.le_refl, Option.bind_some, Option.toList_some, Option.toList_none, List.cons_append, List.nil_append, or_true, true_or, if_true, if_false, Int32.reduceLT, Int32.reduceLE, not_true, not_false_iff, true_and, and_true, false_and, and_false]
    have r0 : rfs (pI h g 9 0) g 0 = pI h g 9 0 := rfl
    rw [cRf_0] at gl gf s0 a1' rc
    generalize pI h g 9 0 = hp at gl gf s0 a1' r0 rc ⊢
    simp +decide only [e131_5, e131_6, e131_7, e131_10, e131_13, e131_16, e131_18, e131_21, e131_22, e131_25, e131_28, e131_29, e131_30, e131_31, e131_34, e131_35, e131_36, e131_39, e131_42, e131_43, e131_45, e131_46, e131_47, e131_48, e131_51, e131_52, e131_53, e131_54, e131_55, e131_58, e131_61, e131_62, e131_63, e131_64, e131_65, e131_68, e131_69, e131_72, e131_73, e131_76, e131_79, e131_80, e131_81, e131_82, (State_0 (Cls_17 s0.1) : ob hp (g + 172) 8), (eq_true (isI_ob (State_0 (Cls_17 s0.1) : ob hp (g + 172) 8) rfl : isI hp (g + 172) 3)), (rf_g (State_1 (Cls_17 s0.1) : rf hp (g + 172) 0 (g + 173)) : gR hp (g + 172) 0 = (g + 173)), (rf_is (State_1 (Cls_17 s0.1) : rf hp (g + 172) 0 (g + 173)) : isR hp (g + 172) 0), (rf_g (State_2 (Cls_17 s0.1) : rf hp (g + 172) 1 (g + 175)) : gR hp (g + 172) 1 = (g + 175)), (rf_is (State_2 (Cls_17 s0.1) : rf hp (g + 172) 1 (g + 175)) : isR hp (g + 172) 1), (rf_g (State_3 (Cls_17 s0.1) : rf hp (g + 172) 2 (g + 176)) : gR hp (g + 172) 2 = (g + 176)), (rf_is (State_3 (Cls_17 s0.1) : rf hp (g + 172) 2 (g + 176)) : isR hp (g + 172) 2), (State_5 (Cls_17 s0.1) : arR hp (g + 175) 5), (rdR_5 (State_5 (Cls_17 s0.1) : arR hp (g + 175) 5) : rdR hp (g + 175)), (State_6 (Cls_17 s0.1) : aln hp (g + 175) = 8), (State_8 (Cls_17 s0.1) : arL hp (g + 176)), (State_9 (Cls_17 s0.1) : aln hp (g + 176) = 8), (Mem_0 (State_4 (Cls_17 s0.1)) : ob hp (g + 173) 5), (eq_true (isI_ob (Mem_0 (State_4 (Cls_17 s0.1)) : ob hp (g + 173) 5) rfl : isI hp (g + 173) 1)), (eq_true (isI_ob (Mem_0 (State_4 (Cls_17 s0.1)) : ob hp (g + 173) 5) rfl : isI hp (g + 173) 2)), (rf_g (Mem_1 (State_4 (Cls_17 s0.1)) : rf hp (g + 173) 0 (g + 174)) : gR hp (g + 173) 0 = (g + 174)), (rf_is (Mem_1 (State_4 (Cls_17 s0.1)) : rf hp (g + 173) 0 (g + 174)) : isR hp (g + 173) 0), (Mem_2 (State_4 (Cls_17 s0.1)) : arI hp (g + 174) 2), (rdB_2 (Mem_2 (State_4 (Cls_17 s0.1)) : arI hp (g + 174) 2) : rdB hp (g + 174)), (Mem_3 (State_4 (Cls_17 s0.1)) : aln hp (g + 174) = 256), (Cls_0 s0.1 : ob hp g 10), (rf_g (Cls_3 s0.1 : rf hp g 6 (g + 172)) : gR hp g 6 = (g + 172)), (rf_is (Cls_3 s0.1 : rf hp g 6 (g + 172)) : isR hp g 6), gf, fn, c_refuses, r0, c_stackAddress _ _ s0, gl, e1, t36, tst, t32, rc, tf, lcmp_eq, a1', if_true, if_false, vkk_n, vkk_i, vkk_r, vkk_l, vkk_d, catS_nil, catS_i, catS_r, catS_l, catS_d, Nat.reduceAdd, Nat.reduceLeDiff, Nat.zero_le, Nat.le_refl, Option.bind_some, Option.toList_some, Option.toList_none, List.cons_append, List.nil_append, or_true, true_or, if_true, if_false, Int32.reduceLT, Int32.reduceLE, not_true, not_false_iff, true_and, and_true, false_and, and_false]
    simp +decide only [e131_125, e131_126, e131_129b, e131_129, e131_130, e131_133, e131_134, e131_135, (State_0 (Cls_17 sA.1) : ob hA (g + 172) 8), (eq_true (isI_ob (State_0 (Cls_17 sA.1) : ob hA (g + 172) 8) rfl : isI hA (g + 172) 3)), (rf_g (State_1 (Cls_17 sA.1) : rf hA (g + 172) 0 (g + 173)) : gR hA (g + 172) 0 = (g + 173)), (rf_is (State_1 (Cls_17 sA.1) : rf hA (g + 172) 0 (g + 173)) : isR hA (g + 172) 0), (rf_g (State_2 (Cls_17 sA.1) : rf hA (g + 172) 1 (g + 175)) : gR hA (g + 172) 1 = (g + 175)), (rf_is (State_2 (Cls_17 sA.1) : rf hA (g + 172) 1 (g + 175)) : isR hA (g + 172) 1), (rf_g (State_3 (Cls_17 sA.1) : rf hA (g + 172) 2 (g + 176)) : gR hA (g + 172) 2 = (g + 176)), (rf_is (State_3 (Cls_17 sA.1) : rf hA (g + 172) 2 (g + 176)) : isR hA (g + 172) 2), (State_5 (Cls_17 sA.1) : arR hA (g + 175) 5), (rdR_5 (State_5 (Cls_17 sA.1) : arR hA (g + 175) 5) : rdR hA (g + 175)), (State_6 (Cls_17 sA.1) : aln hA (g + 175) = 8), (State_8 (Cls_17 sA.1) : arL hA (g + 176)), (State_9 (Cls_17 sA.1) : aln hA (g + 176) = 8), (Mem_0 (State_4 (Cls_17 sA.1)) : ob hA (g + 173) 5), (eq_true (isI_ob (Mem_0 (State_4 (Cls_17 sA.1)) : ob hA (g + 173) 5) rfl : isI hA (g + 173) 1)), (eq_true (isI_ob (Mem_0 (State_4 (Cls_17 sA.1)) : ob hA (g + 173) 5) rfl : isI hA (g + 173) 2)), (rf_g (Mem_1 (State_4 (Cls_17 sA.1)) : rf hA (g + 173) 0 (g + 174)) : gR hA (g + 173) 0 = (g + 174)), (rf_is (Mem_1 (State_4 (Cls_17 sA.1)) : rf hA (g + 173) 0 (g + 174)) : isR hA (g + 173) 0), (Mem_2 (State_4 (Cls_17 sA.1)) : arI hA (g + 174) 2), (rdB_2 (Mem_2 (State_4 (Cls_17 sA.1)) : arI hA (g + 174) 2) : rdB hA (g + 174)), (Mem_3 (State_4 (Cls_17 sA.1)) : aln hA (g + 174) = 256), (Cls_0 sA.1 : ob hA g 10), (rf_g (Cls_3 sA.1 : rf hA g 6 (g + 172)) : gR hA g 6 = (g + 172)), (rf_is (Cls_3 sA.1 : rf hA g 6 (g + 172)) : isR hA g 6), gA, tf, if_true, if_false, vkk_n, vkk_i, vkk_r, vkk_l, vkk_d, catS_nil, catS_i, catS_r, catS_l, catS_d, Nat.reduceAdd, Nat.reduceLeDiff, Nat.zero_le, Nat.le_refl, Option.bind_some, Option.toList_some, Option.toList_none, List.cons_append, List.nil_append, or_true, true_or, if_true, if_false, Int32.reduceLT, Int32.reduceLE, not_true, not_false_iff, true_and, and_true, false_and, and_false]
    generalize pI hA (g + 172) 3 (nI (fr - 1)) = hz at sD gD ⊢
    simp +decide only [e131_138, e131_139, e131_142, e131_145, (State_0 (Cls_17 sD.1) : ob hz (g + 172) 8), (eq_true (isI_ob (State_0 (Cls_17 sD.1) : ob hz (g + 172) 8) rfl : isI hz (g + 172) 3)), (rf_g (State_1 (Cls_17 sD.1) : rf hz (g + 172) 0 (g + 173)) : gR hz (g + 172) 0 = (g + 173)), (rf_is (State_1 (Cls_17 sD.1) : rf hz (g + 172) 0 (g + 173)) : isR hz (g + 172) 0), (rf_g (State_2 (Cls_17 sD.1) : rf hz (g + 172) 1 (g + 175)) : gR hz (g + 172) 1 = (g + 175)), (rf_is (State_2 (Cls_17 sD.1) : rf hz (g + 172) 1 (g + 175)) : isR hz (g + 172) 1), (rf_g (State_3 (Cls_17 sD.1) : rf hz (g + 172) 2 (g + 176)) : gR hz (g + 172) 2 = (g + 176)), (rf_is (State_3 (Cls_17 sD.1) : rf hz (g + 172) 2 (g + 176)) : isR hz (g + 172) 2), (State_5 (Cls_17 sD.1) : arR hz (g + 175) 5), (rdR_5 (State_5 (Cls_17 sD.1) : arR hz (g + 175) 5) : rdR hz (g + 175)), (State_6 (Cls_17 sD.1) : aln hz (g + 175) = 8), (State_8 (Cls_17 sD.1) : arL hz (g + 176)), (State_9 (Cls_17 sD.1) : aln hz (g + 176) = 8), (Mem_0 (State_4 (Cls_17 sD.1)) : ob hz (g + 173) 5), (eq_true (isI_ob (Mem_0 (State_4 (Cls_17 sD.1)) : ob hz (g + 173) 5) rfl : isI hz (g + 173) 1)), (eq_true (isI_ob (Mem_0 (State_4 (Cls_17 sD.1)) : ob hz (g + 173) 5) rfl : isI hz (g + 173) 2)), (rf_g (Mem_1 (State_4 (Cls_17 sD.1)) : rf hz (g + 173) 0 (g + 174)) : gR hz (g + 173) 0 = (g + 174)), (rf_is (Mem_1 (State_4 (Cls_17 sD.1)) : rf hz (g + 173) 0 (g + 174)) : isR hz (g + 173) 0), (Mem_2 (State_4 (Cls_17 sD.1)) : arI hz (g + 174) 2), (rdB_2 (Mem_2 (State_4 (Cls_17 sD.1)) : arI hz (g + 174) 2) : rdB hz (g + 174)), (Mem_3 (State_4 (Cls_17 sD.1)) : aln hz (g + 174) = 256), (Cls_0 sD.1 : ob hz g 10), (rf_g (Cls_3 sD.1 : rf hz g 6 (g + 172)) : gR hz g 6 = (g + 172)), (rf_is (Cls_3 sD.1 : rf hz g 6 (g + 172)) : isR hz g 6), gD, if_true, if_false, vkk_n, vkk_i, vkk_r, vkk_l, vkk_d, catS_nil, catS_i, catS_r, catS_l, catS_d, Nat.reduceAdd, Nat.reduceLeDiff, Nat.zero_le, Nat.le_refl, Option.bind_some, Option.toList_some, Option.toList_none, List.cons_append, List.nil_append, or_true, true_or, if_true, if_false, Int32.reduceLT, Int32.reduceLE, not_true, not_false_iff, true_and, and_true, false_and, and_false]
  · unfold CA at CA0 ⊢
    rw [gne, gne]
    exact CA0
  · rw [aL_pI, a3 j, if_pos ⟨Nat.zero_le _, hj⟩]
theorem retM (h : VG) (g l fr S : Nat) (F : Nat → Int32) (big : Int32) (hs : Sh h g) (e1 : gI h (g + 266) 18 = nI l) (e3 : gI h (g + 266) 57 = nI fr) (f0 : ¬ fr = 0) (l2 : l ≤ 256) (l3 : 36 * fr ≤ l) (hS : l - 36 * fr = S) (hF : ∀ j, j < 256 → F j &&& 255 = aI h (g + 277) j) (hB : gI h (g + 266) 17 = big) (q : rW F big (S + 32) = (nI (fr - 1)).toInt64) : ∃ h1, ev 228 0 [some (.ref (g + 266)), none, none] [] h = some (some (.int (nI (fr - 1))), h1) ∧ Fr (fun a => a = g + 298) (fun a j => AM (g + 266) a j ∨ (a = g + 266 ∧ j = 57)) h h1 ∧ gI h1 (g + 266) 57 = nI (fr - 1) ∧ MA h h1 (g + 266) 0 ∧ ∀ j, j < 8 → aL h1 (g + 298) j = rW F big (S + 4 * j) := by
  have om : ob h (g + 266) 11 := Mod_0 hs.2.1
  have F0 := mRf_fr h (g + 266) 0
  have s0 : Sh (mRf h (g + 266) 0) g := Sh_fr F0 (fun _ z => z.elim) hs
  have MA0 := mRf_MA (h := h) 0 om
  have m2 := (msy_0 h (g + 266) 0 (by decide) om).2
  have t36 : (36 : Int32) * nI fr = nI (36 * fr) := by rw [show (36 : Int32) = nI 36 from rfl, pk_mul]
  have tst : nI l - nI (36 * fr) = nI S := by rw [pk_sub l3, hS]
  have fn : ¬ nI fr = 0 := nI_fr0 (by omega) f0
  have tf : nI fr - 1 = nI (fr - 1) := by
    rw [show (1 : Int32) = nI 1 from rfl, pk_sub (by omega)]
  have t32 : nI S + 32 = nI (S + 32) := nI_add (a := S) (b := 32)
  have g18 : gI (mRf h (g + 266) 0) (g + 266) 18 = nI l := (F0.gI (fun z => by unfold AM at z; omega)).trans e1
  have g57 : gI (mRf h (g + 266) 0) (g + 266) 57 = nI fr := (F0.gI (fun z => by unfold AM at z; omega)).trans e3
  have g17 : gI (mRf h (g + 266) 0) (g + 266) 17 = big := (F0.gI (fun z => by unfold AM at z; omega)).trans hB
  have hT : ∀ h1, gI h1 (g + 266) 18 = gI (mRf h (g + 266) 0) (g + 266) 18 → gI h1 (g + 266) 57 = gI (mRf h (g + 266) 0) (g + 266) 57 → Sh h1 g → ev 226 0 [some (.ref (g + 266))] [] h1 = some (some (.int (nI S)), h1) := by
    intro h1 z1 z2 z3
    rw [g18] at z1
    rw [g57] at z2
    simp +decide only [e226_0, e226_1, e226_4, e226_6, e226_7, e226_10, e226_11, e226_12, (Mod_0 z3.2.1 : ob h1 (g + 266) 11), (rf_g (Mod_94 z3.2.1 : rf h1 (g + 266) 56 (g + 298)) : gR h1 (g + 266) 56 = (g + 298)), (rf_is (Mod_94 z3.2.1 : rf h1 (g + 266) 56 (g + 298)) : isR h1 (g + 266) 56), (Mod_95 z3.2.1 : arL h1 (g + 298)), (Mod_96 z3.2.1 : aln h1 (g + 298) = 8), z1, z2, t36, tst, vkk_n, vkk_i, vkk_r, vkk_l, vkk_d, catS_nil, catS_i, catS_r, catS_l, catS_d, Nat.reduceAdd, Nat.reduceLeDiff, Nat.zero_le, Nat.le_refl, Option.bind_some, Option.toList_some, Option.toList_none, List.cons_append, List.nil_append, or_true, true_or, if_true, if_false, Int32.reduceLT, Int32.reduceLE, not_true, not_false_iff, true_and, and_true, false_and, and_false]
  obtain ⟨v, u1, u2⟩ := c_rdM h g (S + 32) F big hs (by omega) hF hB
  obtain ⟨hA, a1, a2, a3⟩ := l_retM g S F big 0 (by omega) 8 0 (mRf h (g + 266) 0) rfl s0 (fun j hj => (hF j hj).trans (F0.I (a := g + 277) (fun z => z) j).symm) g17 hT
  have a1' : ev 228 57 [some (.ref (g + 266)), some (.int 0), some (.int 0)] [] (mRf h (g + 266) 0) = ev 228 92 [some (.ref (g + 266)), some (.int 0), some (.int 8)] [] hA := a1
  have sA : Sh hA g := Sh_fr a2 (fun a z => by omega) s0
  have gA : gI hA (g + 266) 57 = nI fr := (a2.gI (fun z => z)).trans g57
  have oA : ob hA (g + 266) 11 := Mod_0 sA.2.1
  have fD : Fr NR (fun a j => (a = g + 266 ∧ j = 57)) hA (pI hA (g + 266) 57 (nI (fr - 1))) := Fr_pI _ _ _ _ ⟨rfl, rfl⟩
  have sD : Sh (pI hA (g + 266) 57 (nI (fr - 1))) g := Sh_fr fD (fun a z => z.elim) sA
  have gD : gI (pI hA (g + 266) 57 (nI (fr - 1))) (g + 266) 57 = nI (fr - 1) := by rw [gI_pI, if_pos ⟨rfl, rfl, isI_ob oA rfl⟩]
  have gne : ∀ y, ¬ y = 57 → gI (pI hA (g + 266) 57 (nI (fr - 1))) (g + 266) y = gI (mRf h (g + 266) 0) (g + 266) y := fun y hy => (gI_pI_ne _ _ _ _ _ _ (fun z => hy z.2)).trans (a2.gI (fun z => z))
  refine ⟨pI hA (g + 266) 57 (nI (fr - 1)), ?_, ((F0.mo (fun _ z => z.elim) (fun _ _ z => Or.inl z)).tr (a2.mo (fun _ z => z) (fun _ _ z => z.elim))).tr (fD.mo (fun _ z => z.elim) (fun _ _ z => Or.inr z)), gD, ?_, fun j hj => ?_⟩
  · have st := hT
    have sT : ev 226 0 [some (.ref (g + 266))] [] h = some (some (.int (nI S)), h) := by
      simp +decide only [e226_0, e226_1, e226_4, e226_6, e226_7, e226_10, e226_11, e226_12, (Mod_0 hs.2.1 : ob h (g + 266) 11), (rf_g (Mod_94 hs.2.1 : rf h (g + 266) 56 (g + 298)) : gR h (g + 266) 56 = (g + 298)), (rf_is (Mod_94 hs.2.1 : rf h (g + 266) 56 (g + 298)) : isR h (g + 266) 56), (Mod_95 hs.2.1 : arL h (g + 298)), (Mod_96 hs.2.1 : aln h (g + 298) = 8), e1, e3, t36, tst, vkk_n, vkk_i, vkk_r, vkk_l, vkk_d, catS_nil, catS_i, catS_r, catS_l, catS_d, Nat.reduceAdd, Nat.reduceLeDiff, Nat.zero_le, Nat.le_refl, Option.bind_some, Option.toList_some, Option.toList_none, List.cons_append, List.nil_append, or_true, true_or, if_true, if_false, Int32.reduceLT, Int32.reduceLE, not_true, not_false_iff, true_and, and_true, false_and, and_false]
    simp +decide only [e228_0, e228_1, e228_4, e228_7, e228_9, e228_12, e228_13, e228_14, e228_17, e228_19, e228_20, e228_21, e228_24, e228_25, e228_28, e228_29, e228_32, e228_33, e228_34, e228_35, e228_36, e228_39, e228_40, e228_43, e228_44, e228_45, e228_46, e228_47, e228_50, e228_53, e228_54, e228_55, e228_56, (Mod_0 hs.2.1 : ob h (g + 266) 11), (rf_g (Mod_94 hs.2.1 : rf h (g + 266) 56 (g + 298)) : gR h (g + 266) 56 = (g + 298)), (rf_is (Mod_94 hs.2.1 : rf h (g + 266) 56 (g + 298)) : isR h (g + 266) 56), (Mod_95 hs.2.1 : arL h (g + 298)), (Mod_96 hs.2.1 : aln h (g + 298) = 8), sT, e3, fn, t32, u1, u2, q, tf, lcmp_eq, c_m_says, m2, a1', if_true, if_false, vkk_n, vkk_i, vkk_r, vkk_l, vkk_d, catS_nil, catS_i, catS_r, catS_l, catS_d, Nat.reduceAdd, Nat.reduceLeDiff, Nat.zero_le, Nat.le_refl, Option.bind_some, Option.toList_some, Option.toList_none, List.cons_append, List.nil_append, or_true, true_or, if_true, if_false, Int32.reduceLT, Int32.reduceLE, not_true, not_false_iff, true_and, and_true, false_and, and_false]
    simp +decide only [e228_92, e228_93b, e228_93, e228_94, e228_97, e228_98, e228_99, (Mod_0 sA.2.1 : ob hA (g + 266) 11), (rf_g (Mod_94 sA.2.1 : rf hA (g + 266) 56 (g + 298)) : gR hA (g + 266) 56 = (g + 298)), (rf_is (Mod_94 sA.2.1 : rf hA (g + 266) 56 (g + 298)) : isR hA (g + 266) 56), (Mod_95 sA.2.1 : arL hA (g + 298)), (Mod_96 sA.2.1 : aln hA (g + 298) = 8), gA, tf, if_true, if_false, vkk_n, vkk_i, vkk_r, vkk_l, vkk_d, catS_nil, catS_i, catS_r, catS_l, catS_d, Nat.reduceAdd, Nat.reduceLeDiff, Nat.zero_le, Nat.le_refl, Option.bind_some, Option.toList_some, Option.toList_none, List.cons_append, List.nil_append, or_true, true_or, if_true, if_false, Int32.reduceLT, Int32.reduceLE, not_true, not_false_iff, true_and, and_true, false_and, and_false]
    generalize pI hA (g + 266) 57 (nI (fr - 1)) = hz at sD gD ⊢
    simp +decide only [e228_102, e228_103, e228_106, (Mod_0 sD.2.1 : ob hz (g + 266) 11), (rf_g (Mod_94 sD.2.1 : rf hz (g + 266) 56 (g + 298)) : gR hz (g + 266) 56 = (g + 298)), (rf_is (Mod_94 sD.2.1 : rf hz (g + 266) 56 (g + 298)) : isR hz (g + 266) 56), (Mod_95 sD.2.1 : arL hz (g + 298)), (Mod_96 sD.2.1 : aln hz (g + 298) = 8), gD, if_true, if_false, vkk_n, vkk_i, vkk_r, vkk_l, vkk_d, catS_nil, catS_i, catS_r, catS_l, catS_d, Nat.reduceAdd, Nat.reduceLeDiff, Nat.zero_le, Nat.le_refl, Option.bind_some, Option.toList_some, Option.toList_none, List.cons_append, List.nil_append, or_true, true_or, if_true, if_false, Int32.reduceLT, Int32.reduceLE, not_true, not_false_iff, true_and, and_true, false_and, and_false]
  · unfold MA at MA0 ⊢
    rw [gne 31 (by decide), gne 32 (by decide)]
    exact MA0
  · rw [aL_pI, a3 j, if_pos ⟨Nat.zero_le _, hj⟩]
theorem k_returns (h : VG) (g : Nat) (R : Inv h g) : CalI h g 131 [some (.ref g), none, none, none, none] 228 [some (.ref (g + 266)), none, none] := by
  obtain ⟨l, fr, l1, l2, l3, e1, e2, e3, e4, e5, e6⟩ := R.hd
  have ho : ob h g 10 := Cls_0 R.cls
  have hm : ob h (g + 266) 11 := Mod_0 R.mod
  have hs := R.sh
  have t36 : (36 : Int32) * nI fr = nI (36 * fr) := by rw [show (36 : Int32) = nI 36 from rfl, pk_mul]
  have tst : nI l - nI (36 * fr) = nI (l - 36 * fr) := pk_sub l3
  have bad : ∀ f : Int32, ¬ f < 0 → ¬ f = 0 → ev 131 0 [some (.ref g), none, none, none, none] [] h = some (some (.int (-1)), cRf h g f) → (∀ h1, Fr NR (AC g) h h1 → ev 228 0 [some (.ref (g + 266)), none, none] [] h1 = some (some (.int (-1)), mRf h1 (g + 266) f)) → CalI h g 131 [some (.ref g), none, none, none, none] 228 [some (.ref (g + 266)), none, none] := by
    intro f f0 f1 a1 a2
    have o3 : ob (cRf h g f) (g + 266) 11 := cRf_ob.mpr hm
    exact ⟨_, _, _, a1, a2 _ (cRf_fr h g f), Inv_ans (cRf_fr h g f) (mRf_fr _ _ f) (fun _ z => z.elim) (fun a k z => Or.inr z) (fun _ z => z.elim) (fun a k z => Or.inr z) (cRf_CA f ho) (mRf_MA f o3) R, (mRf_fr ..).two.trans (cRf_fr ..).two⟩
  have gk : ∀ h1, Fr NR (AC g) h h1 → gI h1 (g + 266) 18 = nI l ∧ gI h1 (g + 266) 57 = nI fr ∧ gI h1 (g + 266) 17 = gI h (g + 266) 17 ∧ Sh h1 g ∧ ∀ j, j < 256 → aI h (g + 174) j &&& 255 = aI h1 (g + 277) j := fun h1 x => ⟨(x.gI (fun z => by unfold AC at z; omega)).trans e2, (x.gI (fun z => by unfold AC at z; omega)).trans e4, x.gI (fun z => by unfold AC at z; omega), Sh_fr x (fun _ z => z.elim) hs, fun j hj => (RMm_all R.mem hj).trans (x.I (a := g + 277) (fun z => z) j).symm⟩
  have gc : ∀ j, gI (pI h g 9 0) (g + 173) j = gI h (g + 173) j := fun k => gI_pI_ne _ _ _ _ _ _ (fun z => by omega)
  have gf : gI (pI h g 9 0) (g + 172) 3 = nI fr := (gI_pI_ne _ _ _ _ _ _ (fun z => by omega)).trans e3
  have sp : Sh (pI h g 9 0) g := by rw [← cRf_0]; exact cRf_sh hs
  have mp : ∀ j, aI (pI h g 9 0) (g + 174) j = aI h (g + 174) j := fun j => aI_pI _ _ _ _ _ _
  have rr : ∀ f, rfs (pI h g 9 0) g f = cRf h g f := fun f => rfs_0 h g f ho
  by_cases f0 : fr = 0
  · subst f0
    refine bad 7 (by decide) (by decide) ?_ fun h1 x => ?_
    · have gf' : gI (pI h g 9 0) (g + 172) 3 = 0 := gf
      have rr7 := rr 7
      simp +decide only [e131_0, e131_1, e131_2, ho, vkk_n, vkk_i, vkk_r, vkk_l, vkk_d, catS_nil, catS_i, catS_r, catS_l, catS_d, Nat.reduceAdd, Nat.reduceLeDiff, Nat.zero_le, Nat.le_refl, Option.bind_some, Option.toList_some, Option.toList_none, List.cons_append, List.nil_append, or_true, true_or, if_true, if_false, Int32.reduceLT, Int32.reduceLE, not_true, not_false_iff, true_and, and_true, false_and, and_false]
      generalize pI h g 9 0 = hp at gf' sp rr7 ⊢
      simp +decide only [e131_5, e131_6, e131_7, e131_10, e131_13, e131_16, e131_18, e131_21, e131_22, e131_25, e131_28, e131_29, (State_0 (Cls_17 sp.1) : ob hp (g + 172) 8), (eq_true (isI_ob (State_0 (Cls_17 sp.1) : ob hp (g + 172) 8) rfl : isI hp (g + 172) 3)), (rf_g (State_1 (Cls_17 sp.1) : rf hp (g + 172) 0 (g + 173)) : gR hp (g + 172) 0 = (g + 173)), (rf_is (State_1 (Cls_17 sp.1) : rf hp (g + 172) 0 (g + 173)) : isR hp (g + 172) 0), (rf_g (State_2 (Cls_17 sp.1) : rf hp (g + 172) 1 (g + 175)) : gR hp (g + 172) 1 = (g + 175)), (rf_is (State_2 (Cls_17 sp.1) : rf hp (g + 172) 1 (g + 175)) : isR hp (g + 172) 1), (rf_g (State_3 (Cls_17 sp.1) : rf hp (g + 172) 2 (g + 176)) : gR hp (g + 172) 2 = (g + 176)), (rf_is (State_3 (Cls_17 sp.1) : rf hp (g + 172) 2 (g + 176)) : isR hp (g + 172) 2), (State_5 (Cls_17 sp.1) : arR hp (g + 175) 5), (rdR_5 (State_5 (Cls_17 sp.1) : arR hp (g + 175) 5) : rdR hp (g + 175)), (State_6 (Cls_17 sp.1) : aln hp (g + 175) = 8), (State_8 (Cls_17 sp.1) : arL hp (g + 176)), (State_9 (Cls_17 sp.1) : aln hp (g + 176) = 8), (Mem_0 (State_4 (Cls_17 sp.1)) : ob hp (g + 173) 5), (eq_true (isI_ob (Mem_0 (State_4 (Cls_17 sp.1)) : ob hp (g + 173) 5) rfl : isI hp (g + 173) 1)), (eq_true (isI_ob (Mem_0 (State_4 (Cls_17 sp.1)) : ob hp (g + 173) 5) rfl : isI hp (g + 173) 2)), (rf_g (Mem_1 (State_4 (Cls_17 sp.1)) : rf hp (g + 173) 0 (g + 174)) : gR hp (g + 173) 0 = (g + 174)), (rf_is (Mem_1 (State_4 (Cls_17 sp.1)) : rf hp (g + 173) 0 (g + 174)) : isR hp (g + 173) 0), (Mem_2 (State_4 (Cls_17 sp.1)) : arI hp (g + 174) 2), (rdB_2 (Mem_2 (State_4 (Cls_17 sp.1)) : arI hp (g + 174) 2) : rdB hp (g + 174)), (Mem_3 (State_4 (Cls_17 sp.1)) : aln hp (g + 174) = 256), (Cls_0 sp.1 : ob hp g 10), (rf_g (Cls_3 sp.1 : rf hp g 6 (g + 172)) : gR hp g 6 = (g + 172)), (rf_is (Cls_3 sp.1 : rf hp g 6 (g + 172)) : isR hp g 6), gf', c_refuses, rr7, vkk_n, vkk_i, vkk_r, vkk_l, vkk_d, catS_nil, catS_i, catS_r, catS_l, catS_d, Nat.reduceAdd, Nat.reduceLeDiff, Nat.zero_le, Nat.le_refl, Option.bind_some, Option.toList_some, Option.toList_none, List.cons_append, List.nil_append, or_true, true_or, if_true, if_false, Int32.reduceLT, Int32.reduceLE, not_true, not_false_iff, true_and, and_true, false_and, and_false]
    · obtain ⟨y1, y2, y3, y4, y5⟩ := gk h1 x
      have y2' : gI h1 (g + 266) 57 = 0 := y2
      have om : ob h1 (g + 266) 11 := Mod_0 y4.2.1
      have m2 := (msy_0 h1 (g + 266) 7 (by decide) om).2
      simp +decide only [e228_0, e228_1, e228_4, e228_7, e228_9, e228_12, e228_13, e228_14, e228_17, e228_19, e228_20, e228_21, e228_24, e228_25, e228_28, e228_29, e228_32, e228_33, e228_34, e228_35, e228_36, e228_39, e228_40, e228_43, e228_44, e228_45, e228_46, e228_47, e228_50, e228_53, e228_54, (Mod_0 y4.2.1 : ob h1 (g + 266) 11), (rf_g (Mod_94 y4.2.1 : rf h1 (g + 266) 56 (g + 298)) : gR h1 (g + 266) 56 = (g + 298)), (rf_is (Mod_94 y4.2.1 : rf h1 (g + 266) 56 (g + 298)) : isR h1 (g + 266) 56), (Mod_95 y4.2.1 : arL h1 (g + 298)), (Mod_96 y4.2.1 : aln h1 (g + 298) = 8), y2', c_m_says, m2, if_true, if_false, vkk_n, vkk_i, vkk_r, vkk_l, vkk_d, catS_nil, catS_i, catS_r, catS_l, catS_d, Nat.reduceAdd, Nat.reduceLeDiff, Nat.zero_le, Nat.le_refl, Option.bind_some, Option.toList_some, Option.toList_none, List.cons_append, List.nil_append, or_true, true_or, if_true, if_false, Int32.reduceLT, Int32.reduceLE, not_true, not_false_iff, true_and, and_true, false_and, and_false]
  · have fn : ¬ nI fr = 0 := nI_fr0 (by omega) f0
    have tf : nI fr - 1 = nI (fr - 1) := by
      rw [show (1 : Int32) = nI 1 from rfl, pk_sub (by omega)]
    have t32 : nI (l - 36 * fr) + 32 = nI (l - 36 * fr + 32) := nI_add (a := l - 36 * fr) (b := 32)
    have rc := c_rdC (pI h g 9 0) g (l - 36 * fr + 32) (aI h (g + 174)) (gI h (g + 173) 2) sp (by omega) mp (gc 2)
    by_cases q : rW (aI h (g + 174)) (gI h (g + 173) 2) (l - 36 * fr + 32) = (nI (fr - 1)).toInt64
    · obtain ⟨h1, a1, a2, a3, a4, a5⟩ := retC h g l fr (l - 36 * fr) (aI h (g + 174)) (gI h (g + 173) 2) hs e1 e3 f0 l2 l3 rfl (fun _ => rfl) rfl q
      have s1 : Sh h1 g := Sh_fr a2 (fun a z => by omega) hs
      obtain ⟨h2, b1, b2, b3, b4, b5⟩ := retM h1 g l fr (l - 36 * fr) (aI h (g + 174)) (gI h (g + 173) 2) s1 ((a2.gI (fun z => by unfold AC at z; omega)).trans e2) ((a2.gI (fun z => by unfold AC at z; omega)).trans e4) f0 l2 l3 rfl (fun j hj => (RMm_all R.mem hj).trans (a2.I (a := g + 277) (fun z => by omega) j).symm) ((a2.gI (fun z => by unfold AC at z; omega)).trans e5.symm) q
      have zz := a2.un b2
      have dF : ∀ a j, ((AC g a j ∨ (a = g + 172 ∧ j = 3)) ∨ (AM (g + 266) a j ∨ (a = g + 266 ∧ j = 57))) → (a = g ∧ (j = 9 ∨ j = 10)) ∨ (a = g + 172 ∧ j = 3) ∨ (a = g + 266 ∧ (j = 31 ∨ j = 32 ∨ j = 57)) := by
        intro a j z
        unfold AC AM at z
        omega
      have gz : ∀ a y, ¬ (a = g ∧ (y = 9 ∨ y = 10)) → ¬ (a = g + 172 ∧ y = 3) → ¬ (a = g + 266 ∧ (y = 31 ∨ y = 32 ∨ y = 57)) → gI h2 a y = gI h a y := fun a y z1 z2 z3 => zz.gI (fun z => by have := dF a y z; omega)
      refine ⟨_, h1, h2, a1, b1, Inv_now a2 b2 ?_ ?_ ?_ ?_ a4 b4 ?_ (RMem_fr zz (fun a z => by omega) R.mem) ?_ (RBins_fr zz ?_ ?_ R.bins) R, zz.two⟩
      · intro a z
        unfold NwR
        omega
      · intro a y z
        unfold NwF
        unfold AC at z
        omega
      · intro a z
        unfold NwR SR
        omega
      · intro a y z
        unfold NwF
        unfold AM at z
        omega
      · refine ⟨l, fr - 1, l1, l2, by omega, ?_, ?_, ?_, b3, ?_, ?_⟩
        · rw [gz _ _ (by omega) (by omega) (by omega)]; exact e1
        · rw [gz _ _ (by omega) (by omega) (by omega)]; exact e2
        · rw [b2.gI (fun z => by unfold AM at z; omega)]; exact a3
        · rw [gz _ _ (by omega) (by omega) (by omega), gz _ _ (by omega) (by omega) (by omega)]; exact e5
        · rw [gz _ _ (by omega) (by omega) (by omega)]; exact e6
      · intro r hr
        rw [Nat.zero_add, b5 r hr, b2.L (a := g + 176) (fun z => by omega), a5 r hr]
      · intro a z
        omega
      · intro a y z
        have := dF a y z
        omega
    · refine bad 2 (by decide) (by decide) ?_ fun h1 x => ?_
      · have rr2 := rr 2
        have rr0 : rfs (pI h g 9 0) g 0 = pI h g 9 0 := rfl
        simp +decide only [e131_0, e131_1, e131_2, ho, vkk_n, vkk_i, vkk_r, vkk_l, vkk_d, catS_nil, catS_i, catS_r, catS_l, catS_d, Nat.reduceAdd, Nat.reduceLeDiff, Nat.zero_le, Nat.le_refl, Option.bind_some, Option.toList_some, Option.toList_none, List.cons_append, List.nil_append, or_true, true_or, if_true, if_false, Int32.reduceLT, Int32.reduceLE, not_true, not_false_iff, true_and, and_true, false_and, and_false]
        generalize pI h g 9 0 = hp at gc gf sp rr2 rr0 rc ⊢
        simp +decide only [e131_5, e131_6, e131_7, e131_10, e131_13, e131_16, e131_18, e131_21, e131_22, e131_25, e131_28, e131_29, e131_30, e131_31, e131_34, e131_35, e131_36, e131_39, e131_42, e131_43, e131_45, e131_46, e131_47, e131_48, e131_51, e131_52, e131_53, e131_54, e131_55, e131_58, e131_61, e131_62, e131_63, e131_64, e131_65, e131_68, e131_69, e131_72, e131_73, e131_76, e131_79, e131_80, (State_0 (Cls_17 sp.1) : ob hp (g + 172) 8), (eq_true (isI_ob (State_0 (Cls_17 sp.1) : ob hp (g + 172) 8) rfl : isI hp (g + 172) 3)), (rf_g (State_1 (Cls_17 sp.1) : rf hp (g + 172) 0 (g + 173)) : gR hp (g + 172) 0 = (g + 173)), (rf_is (State_1 (Cls_17 sp.1) : rf hp (g + 172) 0 (g + 173)) : isR hp (g + 172) 0), (rf_g (State_2 (Cls_17 sp.1) : rf hp (g + 172) 1 (g + 175)) : gR hp (g + 172) 1 = (g + 175)), (rf_is (State_2 (Cls_17 sp.1) : rf hp (g + 172) 1 (g + 175)) : isR hp (g + 172) 1), (rf_g (State_3 (Cls_17 sp.1) : rf hp (g + 172) 2 (g + 176)) : gR hp (g + 172) 2 = (g + 176)), (rf_is (State_3 (Cls_17 sp.1) : rf hp (g + 172) 2 (g + 176)) : isR hp (g + 172) 2), (State_5 (Cls_17 sp.1) : arR hp (g + 175) 5), (rdR_5 (State_5 (Cls_17 sp.1) : arR hp (g + 175) 5) : rdR hp (g + 175)), (State_6 (Cls_17 sp.1) : aln hp (g + 175) = 8), (State_8 (Cls_17 sp.1) : arL hp (g + 176)), (State_9 (Cls_17 sp.1) : aln hp (g + 176) = 8), (Mem_0 (State_4 (Cls_17 sp.1)) : ob hp (g + 173) 5), (eq_true (isI_ob (Mem_0 (State_4 (Cls_17 sp.1)) : ob hp (g + 173) 5) rfl : isI hp (g + 173) 1)), (eq_true (isI_ob (Mem_0 (State_4 (Cls_17 sp.1)) : ob hp (g + 173) 5) rfl : isI hp (g + 173) 2)), (rf_g (Mem_1 (State_4 (Cls_17 sp.1)) : rf hp (g + 173) 0 (g + 174)) : gR hp (g + 173) 0 = (g + 174)), (rf_is (Mem_1 (State_4 (Cls_17 sp.1)) : rf hp (g + 173) 0 (g + 174)) : isR hp (g + 173) 0), (Mem_2 (State_4 (Cls_17 sp.1)) : arI hp (g + 174) 2), (rdB_2 (Mem_2 (State_4 (Cls_17 sp.1)) : arI hp (g + 174) 2) : rdB hp (g + 174)), (Mem_3 (State_4 (Cls_17 sp.1)) : aln hp (g + 174) = 256), (Cls_0 sp.1 : ob hp g 10), (rf_g (Cls_3 sp.1 : rf hp g 6 (g + 172)) : gR hp g 6 = (g + 172)), (rf_is (Cls_3 sp.1 : rf hp g 6 (g + 172)) : isR hp g 6), gf, fn, c_refuses, rr2, rr0, c_stackAddress _ _ sp, gc, e1, t36, tst, t32, rc, tf, lcmp_eq, q, if_true, if_false, vkk_n, vkk_i, vkk_r, vkk_l, vkk_d, catS_nil, catS_i, catS_r, catS_l, catS_d, Nat.reduceAdd, Nat.reduceLeDiff, Nat.zero_le, Nat.le_refl, Option.bind_some, Option.toList_some, Option.toList_none, List.cons_append, List.nil_append, or_true, true_or, if_true, if_false, Int32.reduceLT, Int32.reduceLE, not_true, not_false_iff, true_and, and_true, false_and, and_false]
      · obtain ⟨y1, y2, y3, y4, y5⟩ := gk h1 x
        obtain ⟨v, u1, u2⟩ := c_rdM h1 g (l - 36 * fr + 32) (aI h (g + 174)) (gI h (g + 173) 2) y4 (by omega) y5 (y3.trans e5.symm)
        have om : ob h1 (g + 266) 11 := Mod_0 y4.2.1
        have m2 := (msy_0 h1 (g + 266) 2 (by decide) om).2
        simp +decide only [e228_0, e228_1, e228_4, e228_7, e228_9, e228_12, e228_13, e228_14, e228_17, e228_19, e228_20, e228_21, e228_24, e228_25, e228_28, e228_29, e228_32, e228_33, e228_34, e228_35, e228_36, e228_39, e228_40, e228_43, e228_44, e228_45, e228_46, e228_47, e228_50, e228_53, e228_54, e226_0, e226_1, e226_4, e226_6, e226_7, e226_10, e226_11, e226_12, (Mod_0 y4.2.1 : ob h1 (g + 266) 11), (rf_g (Mod_94 y4.2.1 : rf h1 (g + 266) 56 (g + 298)) : gR h1 (g + 266) 56 = (g + 298)), (rf_is (Mod_94 y4.2.1 : rf h1 (g + 266) 56 (g + 298)) : isR h1 (g + 266) 56), (Mod_95 y4.2.1 : arL h1 (g + 298)), (Mod_96 y4.2.1 : aln h1 (g + 298) = 8), y1, y2, fn, t36, tst, t32, u1, u2, tf, lcmp_eq, q, c_m_says, m2, if_true, if_false, vkk_n, vkk_i, vkk_r, vkk_l, vkk_d, catS_nil, catS_i, catS_r, catS_l, catS_d, Nat.reduceAdd, Nat.reduceLeDiff, Nat.zero_le, Nat.le_refl, Option.bind_some, Option.toList_some, Option.toList_none, List.cons_append, List.nil_append, or_true, true_or, if_true, if_false, Int32.reduceLT, Int32.reduceLE, not_true, not_false_iff, true_and, and_true, false_and, and_false]
