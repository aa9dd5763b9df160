/-! turn: loops of both sides -/
def tuD (F : Nat → Int32) (big : Int32) (w : Int32) (C : Nat → Nat) (a c : Nat) : Int64 := rdv F big (a + lOff w C c) (nBy (C c) w) (nBy (C c) w)
/-- the class's numbers; the model's -/
def tuW (F : Nat → Int32) (big : Int32) (w : Int32) (C : Nat → Nat) (a c : Nat) : Int64 := kExt (nI (C c)) (tuD F big w C a c) (nI (nBy (C c) w))
def tuU (F : Nat → Int32) (big : Int32) (w : Int32) (C : Nat → Nat) (a c : Nat) : Int64 := if C c = 5 then tuW F big w C a c else tuD F big w C a c
def tuE (gw : Int32) (l : Nat) (W : Nat → Int64) (C : Nat → Nat) (c : Nat) : Int32 := if gw = 0 then fitRef (nI l) (nI (C c)) (W c) else 0
theorem wb_mod {x y : Int64} {k s : Nat} (hs : s < k) (hk : k ≤ 4) (h : uN x % 2 ^ (8 * k) = uN y % 2 ^ (8 * k)) : wB x s = wB y s := by
  unfold wB
  rcases (show k = 1 ∨ k = 2 ∨ k = 3 ∨ k = 4 by omega) with rfl | rfl | rfl | rfl <;> rcases (show s = 0 ∨ s = 1 ∨ s = 2 ∨ s = 3 by omega) with rfl | rfl | rfl | rfl <;> omega
theorem sx_mod (D : Int64) : uN ((D <<< ((64 - 8 * (1 : Int32)).toInt64 &&& 63)) >>> ((64 - 8 * (1 : Int32)).toInt64 &&& 63)) % 2 ^ (8 * 1) = uN D % 2 ^ (8 * 1) ∧ uN ((D <<< ((64 - 8 * (2 : Int32)).toInt64 &&& 63)) >>> ((64 - 8 * (2 : Int32)).toInt64 &&& 63)) % 2 ^ (8 * 2) = uN D % 2 ^ (8 * 2) ∧ uN ((D <<< ((64 - 8 * (4 : Int32)).toInt64 &&& 63)) >>> ((64 - 8 * (4 : Int32)).toInt64 &&& 63)) % 2 ^ (8 * 4) = uN D % 2 ^ (8 * 4) := by
  refine ⟨?_, ?_, ?_⟩
  · have e := sr_mask (D <<< ((64 - 8 * (1 : Int32)).toInt64 &&& 63)) 255 (64 - 8 * (1 : Int32)) (k := 56) (j := 8) (by decide) (by decide) (by decide)
    have e2 : uN (sl D (64 - 8 * (1 : Int32))) = _ := sl_g D (64 - 8 * (1 : Int32)) 56 (by decide)
    unfold sl at e2
    rw [e2, uN_mask _ _ (k := 8) (by decide)] at e
    omega
  · have e := sr_mask (D <<< ((64 - 8 * (2 : Int32)).toInt64 &&& 63)) 65535 (64 - 8 * (2 : Int32)) (k := 48) (j := 16) (by decide) (by decide) (by decide)
    have e2 : uN (sl D (64 - 8 * (2 : Int32))) = _ := sl_g D (64 - 8 * (2 : Int32)) 48 (by decide)
    unfold sl at e2
    rw [e2, uN_mask _ _ (k := 16) (by decide)] at e
    omega
  · have e := sr_mask (D <<< ((64 - 8 * (4 : Int32)).toInt64 &&& 63)) 4294967295 (64 - 8 * (4 : Int32)) (k := 32) (j := 32) (by decide) (by decide) (by decide)
    have e2 : uN (sl D (64 - 8 * (4 : Int32))) = _ := sl_g D (64 - 8 * (4 : Int32)) 32 (by decide)
    unfold sl at e2
    rw [e2, uN_mask _ _ (k := 32) (by decide)] at e
    omega
theorem nBy_same : ∀ k, k < 10 → (k = 1 ∨ k = 3 ∨ k = 4) → nSm k = nWi k := by decide
theorem wb_ext (F : Nat → Int32) (big w1 w2 : Int32) (C : Nat → Nat) (a c s : Nat) (hk : C c < 10) (hs : s < nBy (C c) w2) : wB (tuW F big w1 C a c) s = wB (tuU F big w1 C a c) s := by
  unfold tuU
  by_cases k5 : C c = 5
  · rw [if_pos k5]
  rw [if_neg k5]
  unfold tuW
  generalize tuD F big w1 C a c = D
  by_cases k1 : C c = 1 ∨ C c = 3 ∨ C c = 4
  · have sm := nBy_same _ hk k1
    have n1 : nBy (C c) w1 = nSm (C c) := by
      unfold nBy
      split
      · rfl
      · exact sm.symm
    have n2 : nBy (C c) w2 = nSm (C c) := by
      unfold nBy
      split
      · rfl
      · exact sm.symm
    rw [n1]
    rw [n2] at hs
    obtain ⟨m1, m2, m3⟩ := sx_mod D
    rcases k1 with e | e | e <;> rw [e] at hs ⊢
    · exact wb_mod (k := 1) hs (by decide) m1
    · exact wb_mod (k := 2) hs (by decide) m2
    · exact wb_mod (k := 4) hs (by decide) m3
  · have e : kExt (nI (C c)) D (nI (nBy (C c) w1)) = D := by
      unfold kExt
      refine if_neg (fun z => ?_)
      have e1 : nI (C c) = 1 ↔ C c = 1 := nI_eq (b := 1) (by omega) (by decide)
      have e3 : nI (C c) = 3 ↔ C c = 3 := nI_eq (b := 3) (by omega) (by decide)
      have e4 : nI (C c) = 4 ↔ C c = 4 := nI_eq (b := 4) (by omega) (by decide)
      have e5 : nI (C c) = 5 ↔ C c = 5 := nI_eq (b := 5) (by omega) (by decide)
      rw [e1, e3, e4, e5] at z
      omega
    rw [e]
theorem fit_U (l : Nat) (F : Nat → Int32) (big w : Int32) (C : Nat → Nat) (a c : Nat) (hk : C c < 10) : fitRef (nI l) (nI (C c)) (tuU F big w C a c) = fitRef (nI l) (nI (C c)) (tuW F big w C a c) := by
  unfold tuU
  by_cases k5 : C c = 5
  · rw [if_pos k5]
  rw [if_neg k5]
  by_cases k9 : C c = 9
  · have e : tuW F big w C a c = tuD F big w C a c := by
      unfold tuW
      rw [k9]
      rfl
    rw [e]
  · have n5 : ¬ nI (C c) = 5 := fun z => k5 ((nI_eq (b := 5) (by omega) (by decide)).mp z)
    have n9 : ¬ nI (C c) = 9 := fun z => k9 ((nI_eq (b := 9) (by omega) (by decide)).mp z)
    unfold fitRef
    rw [if_neg (fun z => n5 z.1), if_neg n9, if_neg (fun z => n5 z.1), if_neg n9]
theorem tuE_or (gw : Int32) (l : Nat) (W : Nat → Int64) (C : Nat → Nat) (c : Nat) : tuE gw l W C c = 0 ∨ tuE gw l W C c = 6 := by
  unfold tuE
  split
  · exact fit_or _ _ _
  · exact Or.inl rfl
theorem tuE_06 (gw : Int32) (l : Nat) (W : Nat → Int64) (C : Nat → Nat) (c : Nat) : f06 (tuE gw l W C c) := by
  rcases tuE_or gw l W C c with z | z
  · exact Or.inl z
  · exact Or.inr (Or.inr (Or.inr (Or.inr z)))
theorem l_clr (g T S : Nat) (hS : T + S ≤ 256) : ∀ d k h, k + d = S → Sh h g → ∃ h1, ev 59 2 [some (.ref (g + 173)), some (.int (nI T)), some (.int (nI S)), some (.int (nI k))] [] h = some (none, h1) ∧ Fr (fun a => a = g + 174) NF h h1 ∧ ∀ j, aI h1 (g + 174) j = if T + k ≤ j ∧ j < T + S then 0 else aI h (g + 174) j := by
  intro d
  induction d with
  | zero =>
    intro k h hk hs
    obtain rfl : S = k := by omega
    have q : ¬ nI S < nI S := nI_nlt (Nat.le_refl _) (by omega)
    refine ⟨h, ?_, Fr.rfl _, fun j => (if_neg (by omega)).symm⟩
    simp +decide only [e59_2, e59_3, e59_4, e59_22, q, vkk_n, vkk_i, vkk_r, vkk_l, vkk_d, catS_nil, catS_i, catS_r, catS_l, catS_d, Nat.reduceAdd, Nat.reduceLeDiff, Nat.zero_le, Nat.le_refl, Option.bind_some, Option.toList_some, Option.toList_none, List.cons_append, List.nil_append, or_true, true_or, if_true, if_false, Int32.reduceLT, Int32.reduceLE, not_true, not_false_iff, true_and, and_true, false_and, and_false]
  | succ d ih =>
    intro k h hk hs
    have q : nI k < nI S := nI_lt (by omega) (by omega)
    have v1 : vp_in (nI (T + k)) 256 := vp_in_nI (by omega) (by decide)
    have v2 : (nI (T + k)).toNatClampNeg = T + k := nI_clamp (by omega)
    have n0 : vp_nar .byte 0 = 0 := by decide
    have x1 : Fr (fun a => a = g + 174) NF h (wI h (g + 174) (T + k) 0) := Fr_wI _ _ _ _ rfl
    have y1 : ∀ j, aI (wI h (g + 174) (T + k) 0) (g + 174) j = if j = T + k then 0 else aI h (g + 174) j := by
      intro j
      rw [aI_wI2 _ _ _ _ _ _ (Mem_2 (Mem_of hs))]
      simp only [true_and]
    obtain ⟨h1, u1, u2, u3⟩ := ih (k + 1) _ (by omega) (Sh_fr x1 (fun a z => by omega) hs)
    refine ⟨h1, ?_, x1.tr u2, fun j => ?_⟩
    · simp +decide only [e59_2, e59_3, e59_4, e59_22, q, if_true]
      simp +decide only [e59_7, e59_8, e59_11, e59_12, e59_13, e59_14, e59_15, e59_15z, e59_16, e59_19, nI_add, v1, v2, n0, nar_i8, nI_1, (Mem_0 (State_4 (Cls_17 hs.1)) : ob h (g + 173) 5), (eq_true (isI_ob (Mem_0 (State_4 (Cls_17 hs.1)) : ob h (g + 173) 5) rfl : isI h (g + 173) 1)), (eq_true (isI_ob (Mem_0 (State_4 (Cls_17 hs.1)) : ob h (g + 173) 5) rfl : isI h (g + 173) 2)), (rf_g (Mem_1 (State_4 (Cls_17 hs.1)) : rf h (g + 173) 0 (g + 174)) : gR h (g + 173) 0 = (g + 174)), (rf_is (Mem_1 (State_4 (Cls_17 hs.1)) : rf h (g + 173) 0 (g + 174)) : isR h (g + 173) 0), (Mem_2 (State_4 (Cls_17 hs.1)) : arI h (g + 174) 2), (rdB_2 (Mem_2 (State_4 (Cls_17 hs.1)) : arI h (g + 174) 2) : rdB h (g + 174)), (Mem_3 (State_4 (Cls_17 hs.1)) : aln h (g + 174) = 256), vkk_n, vkk_i, vkk_r, vkk_l, vkk_d, catS_nil, catS_i, catS_r, catS_l, catS_d, Nat.reduceAdd, Nat.reduceLeDiff, Nat.zero_le, Nat.le_refl, Option.bind_some, Option.toList_some, Option.toList_none, List.cons_append, List.nil_append, or_true, true_or, if_true, if_false, Int32.reduceLT, Int32.reduceLE, not_true, not_false_iff, true_and, and_true, false_and, and_false]
      exact u1
    · rw [u3 j, y1 j]
      by_cases y : T + (k + 1) ≤ j ∧ j < T + S
      · rw [if_pos y, if_pos (by omega)]
      · rw [if_neg y]
        by_cases y2 : j = T + k
        · rw [if_pos y2, if_pos (by omega)]
        · rw [if_neg y2, if_neg (by omega)]
set_option maxHeartbeats 4000000 in
theorem l_tuC0 (g f Q N a l : Nat) (t : Int32) (C : Nat → Nat) (F : Nat → Int32) (big : Int32) (hN : N ≤ 32) (hC : ∀ i, i < N → C i < 10) (hQ1 : g + 8 ≤ Q) (hQ2 : Q + 12 < g + 172) (ha : a + lSiz 1 C N ≤ 256) : ∀ d c h, c + d = N → Sh h g → FQ h Q N C → (∀ j, aI h (g + 174) j = F j) → gI h (g + 173) 2 = big → gI h (g + 173) 1 = nI l → (∀ j, j < c → aL h (g + 261) j = tuW F big 1 C a j) → ∃ (h1 : VG), Fr (fun a => a = g + 261) NF h h1 ∧ (fst_ (tuE 0 l (tuW F big 1 C a) C) c d = 0 → ev 123 119 [some (.ref g), some (.int (nI f)), some (.int (nI a)), some (.int t), some (.int 0), some (.ref Q), some (.ref (Q + 7)), some (.ref (Q + 5)), some (.int (nI c))] [] h = ev 123 214 [some (.ref g), some (.int (nI f)), some (.int (nI a)), some (.int t), some (.int 0), some (.ref Q), some (.ref (Q + 7)), some (.ref (Q + 5)), some (.int (nI N))] [] h1 ∧ ∀ j, j < N → aL h1 (g + 261) j = tuW F big 1 C a j) ∧ (¬ fst_ (tuE 0 l (tuW F big 1 C a) C) c d = 0 → ev 123 119 [some (.ref g), some (.int (nI f)), some (.int (nI a)), some (.int t), some (.int 0), some (.ref Q), some (.ref (Q + 7)), some (.ref (Q + 5)), some (.int (nI c))] [] h = some (some (.int (-1)), rfs h1 g (fst_ (tuE 0 l (tuW F big 1 C a) C) c d))) := by
  intro d
  induction d with
  | zero =>
    intro c h hcd hs fq hF hB hl hr
    obtain rfl : N = c := by omega
    have q : ¬ nI N < nI N := nI_nlt (Nat.le_refl _) (by omega)
    refine ⟨h, Fr.rfl _, fun _ => ⟨?_, hr⟩, fun z => absurd rfl z⟩
    simp +decide only [e123_119, e123_121, e123_123, e123_126, q, fq.2.1, fq.2.2.1, fq.2.2.2.1, fq.2.2.2.2.1, fq.2.2.2.2.2.1, (Form_0 fq.1 : ob h Q 3), (eq_true (isL_ob (Form_0 fq.1 : ob h Q 3) rfl : isL h Q 0)), (eq_true (isI_ob (Form_0 fq.1 : ob h Q 3) rfl : isI h Q 1)), (eq_true (isI_ob (Form_0 fq.1 : ob h Q 3) rfl : isI h Q 2)), (rf_g (Form_1 fq.1 : rf h Q 3 (Q + 1)) : gR h Q 3 = (Q + 1)), (rf_is (Form_1 fq.1 : rf h Q 3 (Q + 1)) : isR h Q 3), (rf_g (Form_2 fq.1 : rf h Q 4 (Q + 2)) : gR h Q 4 = (Q + 2)), (rf_is (Form_2 fq.1 : rf h Q 4 (Q + 2)) : isR h Q 4), (rf_g (Form_3 fq.1 : rf h Q 5 (Q + 3)) : gR h Q 5 = (Q + 3)), (rf_is (Form_3 fq.1 : rf h Q 5 (Q + 3)) : isR h Q 5), (rf_g (Form_4 fq.1 : rf h Q 6 (Q + 4)) : gR h Q 6 = (Q + 4)), (rf_is (Form_4 fq.1 : rf h Q 6 (Q + 4)) : isR h Q 6), (rf_g (Form_5 fq.1 : rf h Q 7 (Q + 5)) : gR h Q 7 = (Q + 5)), (rf_is (Form_5 fq.1 : rf h Q 7 (Q + 5)) : isR h Q 7), (rf_g (Form_6 fq.1 : rf h Q 8 (Q + 7)) : gR h Q 8 = (Q + 7)), (rf_is (Form_6 fq.1 : rf h Q 8 (Q + 7)) : isR h Q 8), (rf_g (Form_7 fq.1 : rf h Q 9 (Q + 9)) : gR h Q 9 = (Q + 9)), (rf_is (Form_7 fq.1 : rf h Q 9 (Q + 9)) : isR h Q 9), (Form_8 fq.1 : arI h (Q + 1) 0), (rdI_0 (Form_8 fq.1 : arI h (Q + 1) 0) : rdI h (Q + 1)), (Form_9 fq.1 : aln h (Q + 1) = 8), (Form_10 fq.1 : arI h (Q + 2) 0), (rdI_0 (Form_10 fq.1 : arI h (Q + 2) 0) : rdI h (Q + 2)), (Form_11 fq.1 : aln h (Q + 2) = 8), (Form_12 fq.1 : arI h (Q + 3) 0), (rdI_0 (Form_12 fq.1 : arI h (Q + 3) 0) : rdI h (Q + 3)), (Form_13 fq.1 : aln h (Q + 3) = 8), (Form_14 fq.1 : arI h (Q + 4) 0), (rdI_0 (Form_14 fq.1 : arI h (Q + 4) 0) : rdI h (Q + 4)), (Form_15 fq.1 : aln h (Q + 4) = 32), (Form_16 fq.1 : ob h (Q + 5) 4), (eq_true (isI_ob (Form_16 fq.1 : ob h (Q + 5) 4) rfl : isI h (Q + 5) 0)), (eq_true (isI_ob (Form_16 fq.1 : ob h (Q + 5) 4) rfl : isI h (Q + 5) 2)), (eq_true (isI_ob (Form_16 fq.1 : ob h (Q + 5) 4) rfl : isI h (Q + 5) 3)), (rf_g (Form_17 fq.1 : rf h (Q + 5) 1 (Q + 6)) : gR h (Q + 5) 1 = (Q + 6)), (rf_is (Form_17 fq.1 : rf h (Q + 5) 1 (Q + 6)) : isR h (Q + 5) 1), (Form_18 fq.1 : arI h (Q + 6) 0), (rdI_0 (Form_18 fq.1 : arI h (Q + 6) 0) : rdI h (Q + 6)), (Form_19 fq.1 : aln h (Q + 6) = 32), (Form_20 fq.1 : ob h (Q + 7) 4), (eq_true (isI_ob (Form_20 fq.1 : ob h (Q + 7) 4) rfl : isI h (Q + 7) 0)), (eq_true (isI_ob (Form_20 fq.1 : ob h (Q + 7) 4) rfl : isI h (Q + 7) 2)), (eq_true (isI_ob (Form_20 fq.1 : ob h (Q + 7) 4) rfl : isI h (Q + 7) 3)), (rf_g (Form_21 fq.1 : rf h (Q + 7) 1 (Q + 8)) : gR h (Q + 7) 1 = (Q + 8)), (rf_is (Form_21 fq.1 : rf h (Q + 7) 1 (Q + 8)) : isR h (Q + 7) 1), (Form_22 fq.1 : arI h (Q + 8) 0), (rdI_0 (Form_22 fq.1 : arI h (Q + 8) 0) : rdI h (Q + 8)), (Form_23 fq.1 : aln h (Q + 8) = 32), (Form_24 fq.1 : ob h (Q + 9) 0), (rf_g (Form_25 fq.1 : rf h (Q + 9) 0 (Q + 10)) : gR h (Q + 9) 0 = (Q + 10)), (rf_is (Form_25 fq.1 : rf h (Q + 9) 0 (Q + 10)) : isR h (Q + 9) 0), (rf_g (Form_26 fq.1 : rf h (Q + 9) 1 (Q + 11)) : gR h (Q + 9) 1 = (Q + 11)), (rf_is (Form_26 fq.1 : rf h (Q + 9) 1 (Q + 11)) : isR h (Q + 9) 1), (rf_g (Form_27 fq.1 : rf h (Q + 9) 2 (Q + 12)) : gR h (Q + 9) 2 = (Q + 12)), (rf_is (Form_27 fq.1 : rf h (Q + 9) 2 (Q + 12)) : isR h (Q + 9) 2), (Form_28 fq.1 : arI h (Q + 10) 0), (rdI_0 (Form_28 fq.1 : arI h (Q + 10) 0) : rdI h (Q + 10)), (Form_29 fq.1 : aln h (Q + 10) = 32), (Form_30 fq.1 : arI h (Q + 11) 0), (rdI_0 (Form_30 fq.1 : arI h (Q + 11) 0) : rdI h (Q + 11)), (Form_31 fq.1 : aln h (Q + 11) = 32), (Form_32 fq.1 : arI h (Q + 12) 0), (rdI_0 (Form_32 fq.1 : arI h (Q + 12) 0) : rdI h (Q + 12)), (Form_33 fq.1 : aln h (Q + 12) = 32), vkk_n, vkk_i, vkk_r, vkk_l, vkk_d, catS_nil, catS_i, catS_r, catS_l, catS_d, Nat.reduceAdd, Nat.reduceLeDiff, Nat.zero_le, Nat.le_refl, Option.bind_some, Option.toList_some, Option.toList_none, List.cons_append, List.nil_append, or_true, true_or, if_true, if_false, Int32.reduceLT, Int32.reduceLE, not_true, not_false_iff, true_and, and_true, false_and, and_false]
  | succ d ih =>
    intro c h hcd hs fq hF hB hl hr
    have q : nI c < nI N := nI_lt (by omega) (by omega)
    have e : fst_ (tuE 0 l (tuW F big 1 C a) C) c (d + 1) = if tuE 0 l (tuW F big 1 C a) C c = 0 then fst_ (tuE 0 l (tuW F big 1 C a) C) (c + 1) d else tuE 0 l (tuW F big 1 C a) C c := rfl
    rw [e]
    have ho : ob h g 10 := Cls_0 hs.1
    obtain ⟨k1, k2, k3⟩ := fq.2.2.2.2.2.2 c (by omega)
    have ck := hC c (by omega)
    have le := lCell_le 1 C N c hC (by omega)
    have v1 : vp_in (nI c) 32 := vp_in_nI (by omega) (by decide)
    have v2 : (nI c).toNatClampNeg = c := nI_clamp (by omega)
    have cA := c_cellAt h g (g + 173) (a + lOff 1 C c) (C c) 1 hs.2.2 (Mem_of hs) ck (by omega)
    rw [show aI h (g + 173 + 1) = F from funext hF, hB] at cA
    have cA : ev 56 0 [some (.ref (g + 173)), some (.int (nI (a + lOff 1 C c))), some (.int (nI (C c))), some (.int 1), none, none, none, none, none] [] h = some (some (.long (tuW F big 1 C a c)), h) := cA
    have x1 : Fr (fun a => a = g + 261) NF h (wL h (g + 261) c (tuW F big 1 C a c)) := Fr_wL _ _ _ _ rfl
    have y1 : ∀ j, aL (wL h (g + 261) c (tuW F big 1 C a c)) (g + 261) j = if j = c then tuW F big 1 C a c else aL h (g + 261) j := by
      intro j
      rw [aL_wL _ _ _ _ _ _ (Cls_26 hs.1)]
      simp only [true_and]
    have sW : Sh (wL h (g + 261) c (tuW F big 1 C a c)) g := Sh_fr x1 (fun a z => by omega) hs
    have fW : FQ (wL h (g + 261) c (tuW F big 1 C a c)) Q N C := FQ_fr x1 (fun a z => by omega) (fun _ _ z => z.elim) fq
    have lW : gI (wL h (g + 261) c (tuW F big 1 C a c)) (g + 173) 1 = nI l := (x1.gI (fun z => z)).trans hl
    have kW : aI (wL h (g + 261) c (tuW F big 1 C a c)) (Q + 4) c = nI (C c) := (x1.I (fun z => by omega) c).trans k1
    have y2 := y1 c
    rw [if_pos rfl] at y2
    have st1 : ev 123 119 [some (.ref g), some (.int (nI f)), some (.int (nI a)), some (.int t), some (.int 0), some (.ref Q), some (.ref (Q + 7)), some (.ref (Q + 5)), some (.int (nI c))] [] h = ev 123 169 [some (.ref g), some (.int (nI f)), some (.int (nI a)), some (.int t), some (.int 0), some (.ref Q), some (.ref (Q + 7)), some (.ref (Q + 5)), some (.int (nI c))] [] (wL h (g + 261) c (tuW F big 1 C a c)) := by
      simp +decide only [e123_119, e123_121, e123_123, e123_126, q, fq.2.1, fq.2.2.1, fq.2.2.2.1, fq.2.2.2.2.1, fq.2.2.2.2.2.1, (Form_0 fq.1 : ob h Q 3), (eq_true (isL_ob (Form_0 fq.1 : ob h Q 3) rfl : isL h Q 0)), (eq_true (isI_ob (Form_0 fq.1 : ob h Q 3) rfl : isI h Q 1)), (eq_true (isI_ob (Form_0 fq.1 : ob h Q 3) rfl : isI h Q 2)), (rf_g (Form_1 fq.1 : rf h Q 3 (Q + 1)) : gR h Q 3 = (Q + 1)), (rf_is (Form_1 fq.1 : rf h Q 3 (Q + 1)) : isR h Q 3), (rf_g (Form_2 fq.1 : rf h Q 4 (Q + 2)) : gR h Q 4 = (Q + 2)), (rf_is (Form_2 fq.1 : rf h Q 4 (Q + 2)) : isR h Q 4), (rf_g (Form_3 fq.1 : rf h Q 5 (Q + 3)) : gR h Q 5 = (Q + 3)), (rf_is (Form_3 fq.1 : rf h Q 5 (Q + 3)) : isR h Q 5), (rf_g (Form_4 fq.1 : rf h Q 6 (Q + 4)) : gR h Q 6 = (Q + 4)), (rf_is (Form_4 fq.1 : rf h Q 6 (Q + 4)) : isR h Q 6), (rf_g (Form_5 fq.1 : rf h Q 7 (Q + 5)) : gR h Q 7 = (Q + 5)), (rf_is (Form_5 fq.1 : rf h Q 7 (Q + 5)) : isR h Q 7), (rf_g (Form_6 fq.1 : rf h Q 8 (Q + 7)) : gR h Q 8 = (Q + 7)), (rf_is (Form_6 fq.1 : rf h Q 8 (Q + 7)) : isR h Q 8), (rf_g (Form_7 fq.1 : rf h Q 9 (Q + 9)) : gR h Q 9 = (Q + 9)), (rf_is (Form_7 fq.1 : rf h Q 9 (Q + 9)) : isR h Q 9), (Form_8 fq.1 : arI h (Q + 1) 0), (rdI_0 (Form_8 fq.1 : arI h (Q + 1) 0) : rdI h (Q + 1)), (Form_9 fq.1 : aln h (Q + 1) = 8), (Form_10 fq.1 : arI h (Q + 2) 0), (rdI_0 (Form_10 fq.1 : arI h (Q + 2) 0) : rdI h (Q + 2)), (Form_11 fq.1 : aln h (Q + 2) = 8), (Form_12 fq.1 : arI h (Q + 3) 0), (rdI_0 (Form_12 fq.1 : arI h (Q + 3) 0) : rdI h (Q + 3)), (Form_13 fq.1 : aln h (Q + 3) = 8), (Form_14 fq.1 : arI h (Q + 4) 0), (rdI_0 (Form_14 fq.1 : arI h (Q + 4) 0) : rdI h (Q + 4)), (Form_15 fq.1 : aln h (Q + 4) = 32), (Form_16 fq.1 : ob h (Q + 5) 4), (eq_true (isI_ob (Form_16 fq.1 : ob h (Q + 5) 4) rfl : isI h (Q + 5) 0)), (eq_true (isI_ob (Form_16 fq.1 : ob h (Q + 5) 4) rfl : isI h (Q + 5) 2)), (eq_true (isI_ob (Form_16 fq.1 : ob h (Q + 5) 4) rfl : isI h (Q + 5) 3)), (rf_g (Form_17 fq.1 : rf h (Q + 5) 1 (Q + 6)) : gR h (Q + 5) 1 = (Q + 6)), (rf_is (Form_17 fq.1 : rf h (Q + 5) 1 (Q + 6)) : isR h (Q + 5) 1), (Form_18 fq.1 : arI h (Q + 6) 0), (rdI_0 (Form_18 fq.1 : arI h (Q + 6) 0) : rdI h (Q + 6)), (Form_19 fq.1 : aln h (Q + 6) = 32), (Form_20 fq.1 : ob h (Q + 7) 4), (eq_true (isI_ob (Form_20 fq.1 : ob h (Q + 7) 4) rfl : isI h (Q + 7) 0)), (eq_true (isI_ob (Form_20 fq.1 : ob h (Q + 7) 4) rfl : isI h (Q + 7) 2)), (eq_true (isI_ob (Form_20 fq.1 : ob h (Q + 7) 4) rfl : isI h (Q + 7) 3)), (rf_g (Form_21 fq.1 : rf h (Q + 7) 1 (Q + 8)) : gR h (Q + 7) 1 = (Q + 8)), (rf_is (Form_21 fq.1 : rf h (Q + 7) 1 (Q + 8)) : isR h (Q + 7) 1), (Form_22 fq.1 : arI h (Q + 8) 0), (rdI_0 (Form_22 fq.1 : arI h (Q + 8) 0) : rdI h (Q + 8)), (Form_23 fq.1 : aln h (Q + 8) = 32), (Form_24 fq.1 : ob h (Q + 9) 0), (rf_g (Form_25 fq.1 : rf h (Q + 9) 0 (Q + 10)) : gR h (Q + 9) 0 = (Q + 10)), (rf_is (Form_25 fq.1 : rf h (Q + 9) 0 (Q + 10)) : isR h (Q + 9) 0), (rf_g (Form_26 fq.1 : rf h (Q + 9) 1 (Q + 11)) : gR h (Q + 9) 1 = (Q + 11)), (rf_is (Form_26 fq.1 : rf h (Q + 9) 1 (Q + 11)) : isR h (Q + 9) 1), (rf_g (Form_27 fq.1 : rf h (Q + 9) 2 (Q + 12)) : gR h (Q + 9) 2 = (Q + 12)), (rf_is (Form_27 fq.1 : rf h (Q + 9) 2 (Q + 12)) : isR h (Q + 9) 2), (Form_28 fq.1 : arI h (Q + 10) 0), (rdI_0 (Form_28 fq.1 : arI h (Q + 10) 0) : rdI h (Q + 10)), (Form_29 fq.1 : aln h (Q + 10) = 32), (Form_30 fq.1 : arI h (Q + 11) 0), (rdI_0 (Form_30 fq.1 : arI h (Q + 11) 0) : rdI h (Q + 11)), (Form_31 fq.1 : aln h (Q + 11) = 32), (Form_32 fq.1 : arI h (Q + 12) 0), (rdI_0 (Form_32 fq.1 : arI h (Q + 12) 0) : rdI h (Q + 12)), (Form_33 fq.1 : aln h (Q + 12) = 32), if_true]
      simp +decide only [e123_129, e123_130, e123_133, e123_135, e123_136, e123_139, e123_142, e123_143, e123_145, e123_148, e123_150, e123_151, e123_152, e123_154, e123_157, e123_159, e123_160, e123_162, e123_165, e123_168, k1, k3, v1, v2, nI_add, cA, (Cls_0 hs.1 : ob h g 10), (rf_g (Cls_3 hs.1 : rf h g 6 (g + 172)) : gR h g 6 = (g + 172)), (rf_is (Cls_3 hs.1 : rf h g 6 (g + 172)) : isR h g 6), (rf_g (Cls_6 hs.1 : rf h g 11 (g + 261)) : gR h g 11 = (g + 261)), (rf_is (Cls_6 hs.1 : rf h g 11 (g + 261)) : isR h g 11), (Cls_26 hs.1 : arL h (g + 261)), (Cls_27 hs.1 : aln h (g + 261) = 32), (State_0 (Cls_17 hs.1) : ob h (g + 172) 8), (eq_true (isI_ob (State_0 (Cls_17 hs.1) : ob h (g + 172) 8) rfl : isI h (g + 172) 3)), (rf_g (State_1 (Cls_17 hs.1) : rf h (g + 172) 0 (g + 173)) : gR h (g + 172) 0 = (g + 173)), (rf_is (State_1 (Cls_17 hs.1) : rf h (g + 172) 0 (g + 173)) : isR h (g + 172) 0), (rf_g (State_2 (Cls_17 hs.1) : rf h (g + 172) 1 (g + 175)) : gR h (g + 172) 1 = (g + 175)), (rf_is (State_2 (Cls_17 hs.1) : rf h (g + 172) 1 (g + 175)) : isR h (g + 172) 1), (rf_g (State_3 (Cls_17 hs.1) : rf h (g + 172) 2 (g + 176)) : gR h (g + 172) 2 = (g + 176)), (rf_is (State_3 (Cls_17 hs.1) : rf h (g + 172) 2 (g + 176)) : isR h (g + 172) 2), (State_5 (Cls_17 hs.1) : arR h (g + 175) 5), (rdR_5 (State_5 (Cls_17 hs.1) : arR h (g + 175) 5) : rdR h (g + 175)), (State_6 (Cls_17 hs.1) : aln h (g + 175) = 8), (State_8 (Cls_17 hs.1) : arL h (g + 176)), (State_9 (Cls_17 hs.1) : aln h (g + 176) = 8), (Mem_0 (State_4 (Cls_17 hs.1)) : ob h (g + 173) 5), (eq_true (isI_ob (Mem_0 (State_4 (Cls_17 hs.1)) : ob h (g + 173) 5) rfl : isI h (g + 173) 1)), (eq_true (isI_ob (Mem_0 (State_4 (Cls_17 hs.1)) : ob h (g + 173) 5) rfl : isI h (g + 173) 2)), (rf_g (Mem_1 (State_4 (Cls_17 hs.1)) : rf h (g + 173) 0 (g + 174)) : gR h (g + 173) 0 = (g + 174)), (rf_is (Mem_1 (State_4 (Cls_17 hs.1)) : rf h (g + 173) 0 (g + 174)) : isR h (g + 173) 0), (Mem_2 (State_4 (Cls_17 hs.1)) : arI h (g + 174) 2), (rdB_2 (Mem_2 (State_4 (Cls_17 hs.1)) : arI h (g + 174) 2) : rdB h (g + 174)), (Mem_3 (State_4 (Cls_17 hs.1)) : aln h (g + 174) = 256), fq.2.1, fq.2.2.1, fq.2.2.2.1, fq.2.2.2.2.1, fq.2.2.2.2.2.1, (Form_0 fq.1 : ob h Q 3), (eq_true (isL_ob (Form_0 fq.1 : ob h Q 3) rfl : isL h Q 0)), (eq_true (isI_ob (Form_0 fq.1 : ob h Q 3) rfl : isI h Q 1)), (eq_true (isI_ob (Form_0 fq.1 : ob h Q 3) rfl : isI h Q 2)), (rf_g (Form_1 fq.1 : rf h Q 3 (Q + 1)) : gR h Q 3 = (Q + 1)), (rf_is (Form_1 fq.1 : rf h Q 3 (Q + 1)) : isR h Q 3), (rf_g (Form_2 fq.1 : rf h Q 4 (Q + 2)) : gR h Q 4 = (Q + 2)), (rf_is (Form_2 fq.1 : rf h Q 4 (Q + 2)) : isR h Q 4), (rf_g (Form_3 fq.1 : rf h Q 5 (Q + 3)) : gR h Q 5 = (Q + 3)), (rf_is (Form_3 fq.1 : rf h Q 5 (Q + 3)) : isR h Q 5), (rf_g (Form_4 fq.1 : rf h Q 6 (Q + 4)) : gR h Q 6 = (Q + 4)), (rf_is (Form_4 fq.1 : rf h Q 6 (Q + 4)) : isR h Q 6), (rf_g (Form_5 fq.1 : rf h Q 7 (Q + 5)) : gR h Q 7 = (Q + 5)), (rf_is (Form_5 fq.1 : rf h Q 7 (Q + 5)) : isR h Q 7), (rf_g (Form_6 fq.1 : rf h Q 8 (Q + 7)) : gR h Q 8 = (Q + 7)), (rf_is (Form_6 fq.1 : rf h Q 8 (Q + 7)) : isR h Q 8), (rf_g (Form_7 fq.1 : rf h Q 9 (Q + 9)) : gR h Q 9 = (Q + 9)), (rf_is (Form_7 fq.1 : rf h Q 9 (Q + 9)) : isR h Q 9), (Form_8 fq.1 : arI h (Q + 1) 0), (rdI_0 (Form_8 fq.1 : arI h (Q + 1) 0) : rdI h (Q + 1)), (Form_9 fq.1 : aln h (Q + 1) = 8), (Form_10 fq.1 : arI h (Q + 2) 0), (rdI_0 (Form_10 fq.1 : arI h (Q + 2) 0) : rdI h (Q + 2)), (Form_11 fq.1 : aln h (Q + 2) = 8), (Form_12 fq.1 : arI h (Q + 3) 0), (rdI_0 (Form_12 fq.1 : arI h (Q + 3) 0) : rdI h (Q + 3)), (Form_13 fq.1 : aln h (Q + 3) = 8), (Form_14 fq.1 : arI h (Q + 4) 0), (rdI_0 (Form_14 fq.1 : arI h (Q + 4) 0) : rdI h (Q + 4)), (Form_15 fq.1 : aln h (Q + 4) = 32), (Form_16 fq.1 : ob h (Q + 5) 4), (eq_true (isI_ob (Form_16 fq.1 : ob h (Q + 5) 4) rfl : isI h (Q + 5) 0)), (eq_true (isI_ob (Form_16 fq.1 : ob h (Q + 5) 4) rfl : isI h (Q + 5) 2)), (eq_true (isI_ob (Form_16 fq.1 : ob h (Q + 5) 4) rfl : isI h (Q + 5) 3)), (rf_g (Form_17 fq.1 : rf h (Q + 5) 1 (Q + 6)) : gR h (Q + 5) 1 = (Q + 6)), (rf_is (Form_17 fq.1 : rf h (Q + 5) 1 (Q + 6)) : isR h (Q + 5) 1), (Form_18 fq.1 : arI h (Q + 6) 0), (rdI_0 (Form_18 fq.1 : arI h (Q + 6) 0) : rdI h (Q + 6)), (Form_19 fq.1 : aln h (Q + 6) = 32), (Form_20 fq.1 : ob h (Q + 7) 4), (eq_true (isI_ob (Form_20 fq.1 : ob h (Q + 7) 4) rfl : isI h (Q + 7) 0)), (eq_true (isI_ob (Form_20 fq.1 : ob h (Q + 7) 4) rfl : isI h (Q + 7) 2)), (eq_true (isI_ob (Form_20 fq.1 : ob h (Q + 7) 4) rfl : isI h (Q + 7) 3)), (rf_g (Form_21 fq.1 : rf h (Q + 7) 1 (Q + 8)) : gR h (Q + 7) 1 = (Q + 8)), (rf_is (Form_21 fq.1 : rf h (Q + 7) 1 (Q + 8)) : isR h (Q + 7) 1), (Form_22 fq.1 : arI h (Q + 8) 0), (rdI_0 (Form_22 fq.1 : arI h (Q + 8) 0) : rdI h (Q + 8)), (Form_23 fq.1 : aln h (Q + 8) = 32), (Form_24 fq.1 : ob h (Q + 9) 0), (rf_g (Form_25 fq.1 : rf h (Q + 9) 0 (Q + 10)) : gR h (Q + 9) 0 = (Q + 10)), (rf_is (Form_25 fq.1 : rf h (Q + 9) 0 (Q + 10)) : isR h (Q + 9) 0), (rf_g (Form_26 fq.1 : rf h (Q + 9) 1 (Q + 11)) : gR h (Q + 9) 1 = (Q + 11)), (rf_is (Form_26 fq.1 : rf h (Q + 9) 1 (Q + 11)) : isR h (Q + 9) 1), (rf_g (Form_27 fq.1 : rf h (Q + 9) 2 (Q + 12)) : gR h (Q + 9) 2 = (Q + 12)), (rf_is (Form_27 fq.1 : rf h (Q + 9) 2 (Q + 12)) : isR h (Q + 9) 2), (Form_28 fq.1 : arI h (Q + 10) 0), (rdI_0 (Form_28 fq.1 : arI h (Q + 10) 0) : rdI h (Q + 10)), (Form_29 fq.1 : aln h (Q + 10) = 32), (Form_30 fq.1 : arI h (Q + 11) 0), (rdI_0 (Form_30 fq.1 : arI h (Q + 11) 0) : rdI h (Q + 11)), (Form_31 fq.1 : aln h (Q + 11) = 32), (Form_32 fq.1 : arI h (Q + 12) 0), (rdI_0 (Form_32 fq.1 : arI h (Q + 12) 0) : rdI h (Q + 12)), (Form_33 fq.1 : aln h (Q + 12) = 32), vkk_n, vkk_i, vkk_r, vkk_l, vkk_d, catS_nil, catS_i, catS_r, catS_l, catS_d, Nat.reduceAdd, Nat.reduceLeDiff, Nat.zero_le, Nat.le_refl, Option.bind_some, Option.toList_some, Option.toList_none, List.cons_append, List.nil_append, or_true, true_or, if_true, if_false, Int32.reduceLT, Int32.reduceLE, not_true, not_false_iff, true_and, and_true, false_and, and_false]
    rw [st1]
    have fr := c_fitRefusal (wL h (g + 261) c (tuW F big 1 C a c)) (g + 173) (nI (C c)) (tuW F big 1 C a c) (Mem_0 (Mem_of sW))
    rw [lW] at fr
    have oW : ob (wL h (g + 261) c (tuW F big 1 C a c)) g 10 := Cls_0 sW.1
    have crW := fun f => c_refuses (wL h (g + 261) c (tuW F big 1 C a c)) g f oW
    have nxt := ih (c + 1) (wL h (g + 261) c (tuW F big 1 C a c)) (by omega) sW fW (fun j => (x1.I (fun z => by omega) j).trans (hF j)) ((x1.gI (fun z => z)).trans hB) lW (fun j hj => by
      rw [y1 j]
      by_cases e : j = c
      · rw [if_pos e, e]
      · rw [if_neg e]
        exact hr j (by omega))
    generalize wL h (g + 261) c (tuW F big 1 C a c) = W at x1 y1 y2 sW fW lW kW fr oW crW nxt ⊢
    have cW := crW 0
    rw [if_pos rfl, show rfs W g 0 = W from if_pos rfl] at cW
    obtain ⟨h1, u1, u2, u3⟩ := nxt
    by_cases y : tuE 0 l (tuW F big 1 C a) C c = 0
    · rw [if_pos y]
      have y' : fitRef (nI l) (nI (C c)) (tuW F big 1 C a c) = 0 := (if_pos rfl).symm.trans y
      rw [y'] at fr
      refine ⟨h1, x1.tr u1, fun z => ⟨?_, (u2 z).2⟩, fun z => ?_⟩
      · simp +decide only [e123_169, e123_171, e123_174, e123_175, e123_176, e123_179, e123_182, e123_184, e123_187, e123_189, e123_190, e123_191, e123_194, e123_196, e123_197, e123_200, e123_203, e123_206, e123_207, e123_208, e123_211, kW, y2, v1, v2, fr, cW, nI_1, nI_add, (Cls_0 sW.1 : ob W g 10), (rf_g (Cls_3 sW.1 : rf W g 6 (g + 172)) : gR W g 6 = (g + 172)), (rf_is (Cls_3 sW.1 : rf W g 6 (g + 172)) : isR W g 6), (rf_g (Cls_6 sW.1 : rf W g 11 (g + 261)) : gR W g 11 = (g + 261)), (rf_is (Cls_6 sW.1 : rf W g 11 (g + 261)) : isR W g 11), (Cls_26 sW.1 : arL W (g + 261)), (Cls_27 sW.1 : aln W (g + 261) = 32), (State_0 (Cls_17 sW.1) : ob W (g + 172) 8), (eq_true (isI_ob (State_0 (Cls_17 sW.1) : ob W (g + 172) 8) rfl : isI W (g + 172) 3)), (rf_g (State_1 (Cls_17 sW.1) : rf W (g + 172) 0 (g + 173)) : gR W (g + 172) 0 = (g + 173)), (rf_is (State_1 (Cls_17 sW.1) : rf W (g + 172) 0 (g + 173)) : isR W (g + 172) 0), (rf_g (State_2 (Cls_17 sW.1) : rf W (g + 172) 1 (g + 175)) : gR W (g + 172) 1 = (g + 175)), (rf_is (State_2 (Cls_17 sW.1) : rf W (g + 172) 1 (g + 175)) : isR W (g + 172) 1), (rf_g (State_3 (Cls_17 sW.1) : rf W (g + 172) 2 (g + 176)) : gR W (g + 172) 2 = (g + 176)), (rf_is (State_3 (Cls_17 sW.1) : rf W (g + 172) 2 (g + 176)) : isR W (g + 172) 2), (State_5 (Cls_17 sW.1) : arR W (g + 175) 5), (rdR_5 (State_5 (Cls_17 sW.1) : arR W (g + 175) 5) : rdR W (g + 175)), (State_6 (Cls_17 sW.1) : aln W (g + 175) = 8), (State_8 (Cls_17 sW.1) : arL W (g + 176)), (State_9 (Cls_17 sW.1) : aln W (g + 176) = 8), (Mem_0 (State_4 (Cls_17 sW.1)) : ob W (g + 173) 5), (eq_true (isI_ob (Mem_0 (State_4 (Cls_17 sW.1)) : ob W (g + 173) 5) rfl : isI W (g + 173) 1)), (eq_true (isI_ob (Mem_0 (State_4 (Cls_17 sW.1)) : ob W (g + 173) 5) rfl : isI W (g + 173) 2)), (rf_g (Mem_1 (State_4 (Cls_17 sW.1)) : rf W (g + 173) 0 (g + 174)) : gR W (g + 173) 0 = (g + 174)), (rf_is (Mem_1 (State_4 (Cls_17 sW.1)) : rf W (g + 173) 0 (g + 174)) : isR W (g + 173) 0), (Mem_2 (State_4 (Cls_17 sW.1)) : arI W (g + 174) 2), (rdB_2 (Mem_2 (State_4 (Cls_17 sW.1)) : arI W (g + 174) 2) : rdB W (g + 174)), (Mem_3 (State_4 (Cls_17 sW.1)) : aln W (g + 174) = 256), fW.2.1, fW.2.2.1, fW.2.2.2.1, fW.2.2.2.2.1, fW.2.2.2.2.2.1, (Form_0 fW.1 : ob W Q 3), (eq_true (isL_ob (Form_0 fW.1 : ob W Q 3) rfl : isL W Q 0)), (eq_true (isI_ob (Form_0 fW.1 : ob W Q 3) rfl : isI W Q 1)), (eq_true (isI_ob (Form_0 fW.1 : ob W Q 3) rfl : isI W Q 2)), (rf_g (Form_1 fW.1 : rf W Q 3 (Q + 1)) : gR W Q 3 = (Q + 1)), (rf_is (Form_1 fW.1 : rf W Q 3 (Q + 1)) : isR W Q 3), (rf_g (Form_2 fW.1 : rf W Q 4 (Q + 2)) : gR W Q 4 = (Q + 2)), (rf_is (Form_2 fW.1 : rf W Q 4 (Q + 2)) : isR W Q 4), (rf_g (Form_3 fW.1 : rf W Q 5 (Q + 3)) : gR W Q 5 = (Q + 3)), (rf_is (Form_3 fW.1 : rf W Q 5 (Q + 3)) : isR W Q 5), (rf_g (Form_4 fW.1 : rf W Q 6 (Q + 4)) : gR W Q 6 = (Q + 4)), (rf_is (Form_4 fW.1 : rf W Q 6 (Q + 4)) : isR W Q 6), (rf_g (Form_5 fW.1 : rf W Q 7 (Q + 5)) : gR W Q 7 = (Q + 5)), (rf_is (Form_5 fW.1 : rf W Q 7 (Q + 5)) : isR W Q 7), (rf_g (Form_6 fW.1 : rf W Q 8 (Q + 7)) : gR W Q 8 = (Q + 7)), (rf_is (Form_6 fW.1 : rf W Q 8 (Q + 7)) : isR W Q 8), (rf_g (Form_7 fW.1 : rf W Q 9 (Q + 9)) : gR W Q 9 = (Q + 9)), (rf_is (Form_7 fW.1 : rf W Q 9 (Q + 9)) : isR W Q 9), (Form_8 fW.1 : arI W (Q + 1) 0), (rdI_0 (Form_8 fW.1 : arI W (Q + 1) 0) : rdI W (Q + 1)), (Form_9 fW.1 : aln W (Q + 1) = 8), (Form_10 fW.1 : arI W (Q + 2) 0), (rdI_0 (Form_10 fW.1 : arI W (Q + 2) 0) : rdI W (Q + 2)), (Form_11 fW.1 : aln W (Q + 2) = 8), (Form_12 fW.1 : arI W (Q + 3) 0), (rdI_0 (Form_12 fW.1 : arI W (Q + 3) 0) : rdI W (Q + 3)), (Form_13 fW.1 : aln W (Q + 3) = 8), (Form_14 fW.1 : arI W (Q + 4) 0), (rdI_0 (Form_14 fW.1 : arI W (Q + 4) 0) : rdI W (Q + 4)), (Form_15 fW.1 : aln W (Q + 4) = 32), (Form_16 fW.1 : ob W (Q + 5) 4), (eq_true (isI_ob (Form_16 fW.1 : ob W (Q + 5) 4) rfl : isI W (Q + 5) 0)), (eq_true (isI_ob (Form_16 fW.1 : ob W (Q + 5) 4) rfl : isI W (Q + 5) 2)), (eq_true (isI_ob (Form_16 fW.1 : ob W (Q + 5) 4) rfl : isI W (Q + 5) 3)), (rf_g (Form_17 fW.1 : rf W (Q + 5) 1 (Q + 6)) : gR W (Q + 5) 1 = (Q + 6)), (rf_is (Form_17 fW.1 : rf W (Q + 5) 1 (Q + 6)) : isR W (Q + 5) 1), (Form_18 fW.1 : arI W (Q + 6) 0), (rdI_0 (Form_18 fW.1 : arI W (Q + 6) 0) : rdI W (Q + 6)), (Form_19 fW.1 : aln W (Q + 6) = 32), (Form_20 fW.1 : ob W (Q + 7) 4), (eq_true (isI_ob (Form_20 fW.1 : ob W (Q + 7) 4) rfl : isI W (Q + 7) 0)), (eq_true (isI_ob (Form_20 fW.1 : ob W (Q + 7) 4) rfl : isI W (Q + 7) 2)), (eq_true (isI_ob (Form_20 fW.1 : ob W (Q + 7) 4) rfl : isI W (Q + 7) 3)), (rf_g (Form_21 fW.1 : rf W (Q + 7) 1 (Q + 8)) : gR W (Q + 7) 1 = (Q + 8)), (rf_is (Form_21 fW.1 : rf W (Q + 7) 1 (Q + 8)) : isR W (Q + 7) 1), (Form_22 fW.1 : arI W (Q + 8) 0), (rdI_0 (Form_22 fW.1 : arI W (Q + 8) 0) : rdI W (Q + 8)), (Form_23 fW.1 : aln W (Q + 8) = 32), (Form_24 fW.1 : ob W (Q + 9) 0), (rf_g (Form_25 fW.1 : rf W (Q + 9) 0 (Q + 10)) : gR W (Q + 9) 0 = (Q + 10)), (rf_is (Form_25 fW.1 : rf W (Q + 9) 0 (Q + 10)) : isR W (Q + 9) 0), (rf_g (Form_26 fW.1 : rf W (Q + 9) 1 (Q + 11)) : gR W (Q + 9) 1 = (Q + 11)), (rf_is (Form_26 fW.1 : rf W (Q + 9) 1 (Q + 11)) : isR W (Q + 9) 1), (rf_g (Form_27 fW.1 : rf W (Q + 9) 2 (Q + 12)) : gR W (Q + 9) 2 = (Q + 12)), (rf_is (Form_27 fW.1 : rf W (Q + 9) 2 (Q + 12)) : isR W (Q + 9) 2), (Form_28 fW.1 : arI W (Q + 10) 0), (rdI_0 (Form_28 fW.1 : arI W (Q + 10) 0) : rdI W (Q + 10)), (Form_29 fW.1 : aln W (Q + 10) = 32), (Form_30 fW.1 : arI W (Q + 11) 0), (rdI_0 (Form_30 fW.1 : arI W (Q + 11) 0) : rdI W (Q + 11)), (Form_31 fW.1 : aln W (Q + 11) = 32), (Form_32 fW.1 : arI W (Q + 12) 0), (rdI_0 (Form_32 fW.1 : arI W (Q + 12) 0) : rdI W (Q + 12)), (Form_33 fW.1 : aln W (Q + 12) = 32), vkk_n, vkk_i, vkk_r, vkk_l, vkk_d, catS_nil, catS_i, catS_r, catS_l, catS_d, Nat.reduceAdd, Nat.reduceLeDiff, Nat.zero_le, Nat.le_refl, Option.bind_some, Option.toList_some, Option.toList_none, List.cons_append, List.nil_append, or_true, true_or, if_true, if_false, Int32.reduceLT, Int32.reduceLE, not_true, not_false_iff, true_and, and_true, false_and, and_false]
        exact (u2 z).1
      · simp +decide only [e123_169, e123_171, e123_174, e123_175, e123_176, e123_179, e123_182, e123_184, e123_187, e123_189, e123_190, e123_191, e123_194, e123_196, e123_197, e123_200, e123_203, e123_206, e123_207, e123_208, e123_211, kW, y2, v1, v2, fr, cW, nI_1, nI_add, (Cls_0 sW.1 : ob W g 10), (rf_g (Cls_3 sW.1 : rf W g 6 (g + 172)) : gR W g 6 = (g + 172)), (rf_is (Cls_3 sW.1 : rf W g 6 (g + 172)) : isR W g 6), (rf_g (Cls_6 sW.1 : rf W g 11 (g + 261)) : gR W g 11 = (g + 261)), (rf_is (Cls_6 sW.1 : rf W g 11 (g + 261)) : isR W g 11), (Cls_26 sW.1 : arL W (g + 261)), (Cls_27 sW.1 : aln W (g + 261) = 32), (State_0 (Cls_17 sW.1) : ob W (g + 172) 8), (eq_true (isI_ob (State_0 (Cls_17 sW.1) : ob W (g + 172) 8) rfl : isI W (g + 172) 3)), (rf_g (State_1 (Cls_17 sW.1) : rf W (g + 172) 0 (g + 173)) : gR W (g + 172) 0 = (g + 173)), (rf_is (State_1 (Cls_17 sW.1) : rf W (g + 172) 0 (g + 173)) : isR W (g + 172) 0), (rf_g (State_2 (Cls_17 sW.1) : rf W (g + 172) 1 (g + 175)) : gR W (g + 172) 1 = (g + 175)), (rf_is (State_2 (Cls_17 sW.1) : rf W (g + 172) 1 (g + 175)) : isR W (g + 172) 1), (rf_g (State_3 (Cls_17 sW.1) : rf W (g + 172) 2 (g + 176)) : gR W (g + 172) 2 = (g + 176)), (rf_is (State_3 (Cls_17 sW.1) : rf W (g + 172) 2 (g + 176)) : isR W (g + 172) 2), (State_5 (Cls_17 sW.1) : arR W (g + 175) 5), (rdR_5 (State_5 (Cls_17 sW.1) : arR W (g + 175) 5) : rdR W (g + 175)), (State_6 (Cls_17 sW.1) : aln W (g + 175) = 8), (State_8 (Cls_17 sW.1) : arL W (g + 176)), (State_9 (Cls_17 sW.1) : aln W (g + 176) = 8), (Mem_0 (State_4 (Cls_17 sW.1)) : ob W (g + 173) 5), (eq_true (isI_ob (Mem_0 (State_4 (Cls_17 sW.1)) : ob W (g + 173) 5) rfl : isI W (g + 173) 1)), (eq_true (isI_ob (Mem_0 (State_4 (Cls_17 sW.1)) : ob W (g + 173) 5) rfl : isI W (g + 173) 2)), (rf_g (Mem_1 (State_4 (Cls_17 sW.1)) : rf W (g + 173) 0 (g + 174)) : gR W (g + 173) 0 = (g + 174)), (rf_is (Mem_1 (State_4 (Cls_17 sW.1)) : rf W (g + 173) 0 (g + 174)) : isR W (g + 173) 0), (Mem_2 (State_4 (Cls_17 sW.1)) : arI W (g + 174) 2), (rdB_2 (Mem_2 (State_4 (Cls_17 sW.1)) : arI W (g + 174) 2) : rdB W (g + 174)), (Mem_3 (State_4 (Cls_17 sW.1)) : aln W (g + 174) = 256), fW.2.1, fW.2.2.1, fW.2.2.2.1, fW.2.2.2.2.1, fW.2.2.2.2.2.1, (Form_0 fW.1 : ob W Q 3), (eq_true (isL_ob (Form_0 fW.1 : ob W Q 3) rfl : isL W Q 0)), (eq_true (isI_ob (Form_0 fW.1 : ob W Q 3) rfl : isI W Q 1)), (eq_true (isI_ob (Form_0 fW.1 : ob W Q 3) rfl : isI W Q 2)), (rf_g (Form_1 fW.1 : rf W Q 3 (Q + 1)) : gR W Q 3 = (Q + 1)), (rf_is (Form_1 fW.1 : rf W Q 3 (Q + 1)) : isR W Q 3), (rf_g (Form_2 fW.1 : rf W Q 4 (Q + 2)) : gR W Q 4 = (Q + 2)), (rf_is (Form_2 fW.1 : rf W Q 4 (Q + 2)) : isR W Q 4), (rf_g (Form_3 fW.1 : rf W Q 5 (Q + 3)) : gR W Q 5 = (Q + 3)), (rf_is (Form_3 fW.1 : rf W Q 5 (Q + 3)) : isR W Q 5), (rf_g (Form_4 fW.1 : rf W Q 6 (Q + 4)) : gR W Q 6 = (Q + 4)), (rf_is (Form_4 fW.1 : rf W Q 6 (Q + 4)) : isR W Q 6), (rf_g (Form_5 fW.1 : rf W Q 7 (Q + 5)) : gR W Q 7 = (Q + 5)), (rf_is (Form_5 fW.1 : rf W Q 7 (Q + 5)) : isR W Q 7), (rf_g (Form_6 fW.1 : rf W Q 8 (Q + 7)) : gR W Q 8 = (Q + 7)), (rf_is (Form_6 fW.1 : rf W Q 8 (Q + 7)) : isR W Q 8), (rf_g (Form_7 fW.1 : rf W Q 9 (Q + 9)) : gR W Q 9 = (Q + 9)), (rf_is (Form_7 fW.1 : rf W Q 9 (Q + 9)) : isR W Q 9), (Form_8 fW.1 : arI W (Q + 1) 0), (rdI_0 (Form_8 fW.1 : arI W (Q + 1) 0) : rdI W (Q + 1)), (Form_9 fW.1 : aln W (Q + 1) = 8), (Form_10 fW.1 : arI W (Q + 2) 0), (rdI_0 (Form_10 fW.1 : arI W (Q + 2) 0) : rdI W (Q + 2)), (Form_11 fW.1 : aln W (Q + 2) = 8), (Form_12 fW.1 : arI W (Q + 3) 0), (rdI_0 (Form_12 fW.1 : arI W (Q + 3) 0) : rdI W (Q + 3)), (Form_13 fW.1 : aln W (Q + 3) = 8), (Form_14 fW.1 : arI W (Q + 4) 0), (rdI_0 (Form_14 fW.1 : arI W (Q + 4) 0) : rdI W (Q + 4)), (Form_15 fW.1 : aln W (Q + 4) = 32), (Form_16 fW.1 : ob W (Q + 5) 4), (eq_true (isI_ob (Form_16 fW.1 : ob W (Q + 5) 4) rfl : isI W (Q + 5) 0)), (eq_true (isI_ob (Form_16 fW.1 : ob W (Q + 5) 4) rfl : isI W (Q + 5) 2)), (eq_true (isI_ob (Form_16 fW.1 : ob W (Q + 5) 4) rfl : isI W (Q + 5) 3)), (rf_g (Form_17 fW.1 : rf W (Q + 5) 1 (Q + 6)) : gR W (Q + 5) 1 = (Q + 6)), (rf_is (Form_17 fW.1 : rf W (Q + 5) 1 (Q + 6)) : isR W (Q + 5) 1), (Form_18 fW.1 : arI W (Q + 6) 0), (rdI_0 (Form_18 fW.1 : arI W (Q + 6) 0) : rdI W (Q + 6)), (Form_19 fW.1 : aln W (Q + 6) = 32), (Form_20 fW.1 : ob W (Q + 7) 4), (eq_true (isI_ob (Form_20 fW.1 : ob W (Q + 7) 4) rfl : isI W (Q + 7) 0)), (eq_true (isI_ob (Form_20 fW.1 : ob W (Q + 7) 4) rfl : isI W (Q + 7) 2)), (eq_true (isI_ob (Form_20 fW.1 : ob W (Q + 7) 4) rfl : isI W (Q + 7) 3)), (rf_g (Form_21 fW.1 : rf W (Q + 7) 1 (Q + 8)) : gR W (Q + 7) 1 = (Q + 8)), (rf_is (Form_21 fW.1 : rf W (Q + 7) 1 (Q + 8)) : isR W (Q + 7) 1), (Form_22 fW.1 : arI W (Q + 8) 0), (rdI_0 (Form_22 fW.1 : arI W (Q + 8) 0) : rdI W (Q + 8)), (Form_23 fW.1 : aln W (Q + 8) = 32), (Form_24 fW.1 : ob W (Q + 9) 0), (rf_g (Form_25 fW.1 : rf W (Q + 9) 0 (Q + 10)) : gR W (Q + 9) 0 = (Q + 10)), (rf_is (Form_25 fW.1 : rf W (Q + 9) 0 (Q + 10)) : isR W (Q + 9) 0), (rf_g (Form_26 fW.1 : rf W (Q + 9) 1 (Q + 11)) : gR W (Q + 9) 1 = (Q + 11)), (rf_is (Form_26 fW.1 : rf W (Q + 9) 1 (Q + 11)) : isR W (Q + 9) 1), (rf_g (Form_27 fW.1 : rf W (Q + 9) 2 (Q + 12)) : gR W (Q + 9) 2 = (Q + 12)), (rf_is (Form_27 fW.1 : rf W (Q + 9) 2 (Q + 12)) : isR W (Q + 9) 2), (Form_28 fW.1 : arI W (Q + 10) 0), (rdI_0 (Form_28 fW.1 : arI W (Q + 10) 0) : rdI W (Q + 10)), (Form_29 fW.1 : aln W (Q + 10) = 32), (Form_30 fW.1 : arI W (Q + 11) 0), (rdI_0 (Form_30 fW.1 : arI W (Q + 11) 0) : rdI W (Q + 11)), (Form_31 fW.1 : aln W (Q + 11) = 32), (Form_32 fW.1 : arI W (Q + 12) 0), (rdI_0 (Form_32 fW.1 : arI W (Q + 12) 0) : rdI W (Q + 12)), (Form_33 fW.1 : aln W (Q + 12) = 32), vkk_n, vkk_i, vkk_r, vkk_l, vkk_d, catS_nil, catS_i, catS_r, catS_l, catS_d, Nat.reduceAdd, Nat.reduceLeDiff, Nat.zero_le, Nat.le_refl, Option.bind_some, Option.toList_some, Option.toList_none, List.cons_append, List.nil_append, or_true, true_or, if_true, if_false, Int32.reduceLT, Int32.reduceLE, not_true, not_false_iff, true_and, and_true, false_and, and_false]
        exact u3 z
    · rw [if_neg y]
      have ey : tuE 0 l (tuW F big 1 C a) C c = fitRef (nI l) (nI (C c)) (tuW F big 1 C a c) := if_pos rfl
      rw [ey] at y ⊢
      have cq := crW (fitRef (nI l) (nI (C c)) (tuW F big 1 C a c))
      rw [if_neg y] at cq
      refine ⟨W, x1, fun z => absurd z y, fun _ => ?_⟩
      simp +decide only [e123_169, e123_171, e123_174, e123_175, e123_176, e123_179, e123_182, e123_184, e123_187, e123_189, e123_190, e123_191, e123_194, e123_196, e123_197, e123_200, e123_203, e123_206, e123_207, e123_208, e123_211, kW, y2, v1, v2, fr, cq, nI_1, nI_add, (Cls_0 sW.1 : ob W g 10), (rf_g (Cls_3 sW.1 : rf W g 6 (g + 172)) : gR W g 6 = (g + 172)), (rf_is (Cls_3 sW.1 : rf W g 6 (g + 172)) : isR W g 6), (rf_g (Cls_6 sW.1 : rf W g 11 (g + 261)) : gR W g 11 = (g + 261)), (rf_is (Cls_6 sW.1 : rf W g 11 (g + 261)) : isR W g 11), (Cls_26 sW.1 : arL W (g + 261)), (Cls_27 sW.1 : aln W (g + 261) = 32), (State_0 (Cls_17 sW.1) : ob W (g + 172) 8), (eq_true (isI_ob (State_0 (Cls_17 sW.1) : ob W (g + 172) 8) rfl : isI W (g + 172) 3)), (rf_g (State_1 (Cls_17 sW.1) : rf W (g + 172) 0 (g + 173)) : gR W (g + 172) 0 = (g + 173)), (rf_is (State_1 (Cls_17 sW.1) : rf W (g + 172) 0 (g + 173)) : isR W (g + 172) 0), (rf_g (State_2 (Cls_17 sW.1) : rf W (g + 172) 1 (g + 175)) : gR W (g + 172) 1 = (g + 175)), (rf_is (State_2 (Cls_17 sW.1) : rf W (g + 172) 1 (g + 175)) : isR W (g + 172) 1), (rf_g (State_3 (Cls_17 sW.1) : rf W (g + 172) 2 (g + 176)) : gR W (g + 172) 2 = (g + 176)), (rf_is (State_3 (Cls_17 sW.1) : rf W (g + 172) 2 (g + 176)) : isR W (g + 172) 2), (State_5 (Cls_17 sW.1) : arR W (g + 175) 5), (rdR_5 (State_5 (Cls_17 sW.1) : arR W (g + 175) 5) : rdR W (g + 175)), (State_6 (Cls_17 sW.1) : aln W (g + 175) = 8), (State_8 (Cls_17 sW.1) : arL W (g + 176)), (State_9 (Cls_17 sW.1) : aln W (g + 176) = 8), (Mem_0 (State_4 (Cls_17 sW.1)) : ob W (g + 173) 5), (eq_true (isI_ob (Mem_0 (State_4 (Cls_17 sW.1)) : ob W (g + 173) 5) rfl : isI W (g + 173) 1)), (eq_true (isI_ob (Mem_0 (State_4 (Cls_17 sW.1)) : ob W (g + 173) 5) rfl : isI W (g + 173) 2)), (rf_g (Mem_1 (State_4 (Cls_17 sW.1)) : rf W (g + 173) 0 (g + 174)) : gR W (g + 173) 0 = (g + 174)), (rf_is (Mem_1 (State_4 (Cls_17 sW.1)) : rf W (g + 173) 0 (g + 174)) : isR W (g + 173) 0), (Mem_2 (State_4 (Cls_17 sW.1)) : arI W (g + 174) 2), (rdB_2 (Mem_2 (State_4 (Cls_17 sW.1)) : arI W (g + 174) 2) : rdB W (g + 174)), (Mem_3 (State_4 (Cls_17 sW.1)) : aln W (g + 174) = 256), fW.2.1, fW.2.2.1, fW.2.2.2.1, fW.2.2.2.2.1, fW.2.2.2.2.2.1, (Form_0 fW.1 : ob W Q 3), (eq_true (isL_ob (Form_0 fW.1 : ob W Q 3) rfl : isL W Q 0)), (eq_true (isI_ob (Form_0 fW.1 : ob W Q 3) rfl : isI W Q 1)), (eq_true (isI_ob (Form_0 fW.1 : ob W Q 3) rfl : isI W Q 2)), (rf_g (Form_1 fW.1 : rf W Q 3 (Q + 1)) : gR W Q 3 = (Q + 1)), (rf_is (Form_1 fW.1 : rf W Q 3 (Q + 1)) : isR W Q 3), (rf_g (Form_2 fW.1 : rf W Q 4 (Q + 2)) : gR W Q 4 = (Q + 2)), (rf_is (Form_2 fW.1 : rf W Q 4 (Q + 2)) : isR W Q 4), (rf_g (Form_3 fW.1 : rf W Q 5 (Q + 3)) : gR W Q 5 = (Q + 3)), (rf_is (Form_3 fW.1 : rf W Q 5 (Q + 3)) : isR W Q 5), (rf_g (Form_4 fW.1 : rf W Q 6 (Q + 4)) : gR W Q 6 = (Q + 4)), (rf_is (Form_4 fW.1 : rf W Q 6 (Q + 4)) : isR W Q 6), (rf_g (Form_5 fW.1 : rf W Q 7 (Q + 5)) : gR W Q 7 = (Q + 5)), (rf_is (Form_5 fW.1 : rf W Q 7 (Q + 5)) : isR W Q 7), (rf_g (Form_6 fW.1 : rf W Q 8 (Q + 7)) : gR W Q 8 = (Q + 7)), (rf_is (Form_6 fW.1 : rf W Q 8 (Q + 7)) : isR W Q 8), (rf_g (Form_7 fW.1 : rf W Q 9 (Q + 9)) : gR W Q 9 = (Q + 9)), (rf_is (Form_7 fW.1 : rf W Q 9 (Q + 9)) : isR W Q 9), (Form_8 fW.1 : arI W (Q + 1) 0), (rdI_0 (Form_8 fW.1 : arI W (Q + 1) 0) : rdI W (Q + 1)), (Form_9 fW.1 : aln W (Q + 1) = 8), (Form_10 fW.1 : arI W (Q + 2) 0), (rdI_0 (Form_10 fW.1 : arI W (Q + 2) 0) : rdI W (Q + 2)), (Form_11 fW.1 : aln W (Q + 2) = 8), (Form_12 fW.1 : arI W (Q + 3) 0), (rdI_0 (Form_12 fW.1 : arI W (Q + 3) 0) : rdI W (Q + 3)), (Form_13 fW.1 : aln W (Q + 3) = 8), (Form_14 fW.1 : arI W (Q + 4) 0), (rdI_0 (Form_14 fW.1 : arI W (Q + 4) 0) : rdI W (Q + 4)), (Form_15 fW.1 : aln W (Q + 4) = 32), (Form_16 fW.1 : ob W (Q + 5) 4), (eq_true (isI_ob (Form_16 fW.1 : ob W (Q + 5) 4) rfl : isI W (Q + 5) 0)), (eq_true (isI_ob (Form_16 fW.1 : ob W (Q + 5) 4) rfl : isI W (Q + 5) 2)), (eq_true (isI_ob (Form_16 fW.1 : ob W (Q + 5) 4) rfl : isI W (Q + 5) 3)), (rf_g (Form_17 fW.1 : rf W (Q + 5) 1 (Q + 6)) : gR W (Q + 5) 1 = (Q + 6)), (rf_is (Form_17 fW.1 : rf W (Q + 5) 1 (Q + 6)) : isR W (Q + 5) 1), (Form_18 fW.1 : arI W (Q + 6) 0), (rdI_0 (Form_18 fW.1 : arI W (Q + 6) 0) : rdI W (Q + 6)), (Form_19 fW.1 : aln W (Q + 6) = 32), (Form_20 fW.1 : ob W (Q + 7) 4), (eq_true (isI_ob (Form_20 fW.1 : ob W (Q + 7) 4) rfl : isI W (Q + 7) 0)), (eq_true (isI_ob (Form_20 fW.1 : ob W (Q + 7) 4) rfl : isI W (Q + 7) 2)), (eq_true (isI_ob (Form_20 fW.1 : ob W (Q + 7) 4) rfl : isI W (Q + 7) 3)), (rf_g (Form_21 fW.1 : rf W (Q + 7) 1 (Q + 8)) : gR W (Q + 7) 1 = (Q + 8)), (rf_is (Form_21 fW.1 : rf W (Q + 7) 1 (Q + 8)) : isR W (Q + 7) 1), (Form_22 fW.1 : arI W (Q + 8) 0), (rdI_0 (Form_22 fW.1 : arI W (Q + 8) 0) : rdI W (Q + 8)), (Form_23 fW.1 : aln W (Q + 8) = 32), (Form_24 fW.1 : ob W (Q + 9) 0), (rf_g (Form_25 fW.1 : rf W (Q + 9) 0 (Q + 10)) : gR W (Q + 9) 0 = (Q + 10)), (rf_is (Form_25 fW.1 : rf W (Q + 9) 0 (Q + 10)) : isR W (Q + 9) 0), (rf_g (Form_26 fW.1 : rf W (Q + 9) 1 (Q + 11)) : gR W (Q + 9) 1 = (Q + 11)), (rf_is (Form_26 fW.1 : rf W (Q + 9) 1 (Q + 11)) : isR W (Q + 9) 1), (rf_g (Form_27 fW.1 : rf W (Q + 9) 2 (Q + 12)) : gR W (Q + 9) 2 = (Q + 12)), (rf_is (Form_27 fW.1 : rf W (Q + 9) 2 (Q + 12)) : isR W (Q + 9) 2), (Form_28 fW.1 : arI W (Q + 10) 0), (rdI_0 (Form_28 fW.1 : arI W (Q + 10) 0) : rdI W (Q + 10)), (Form_29 fW.1 : aln W (Q + 10) = 32), (Form_30 fW.1 : arI W (Q + 11) 0), (rdI_0 (Form_30 fW.1 : arI W (Q + 11) 0) : rdI W (Q + 11)), (Form_31 fW.1 : aln W (Q + 11) = 32), (Form_32 fW.1 : arI W (Q + 12) 0), (rdI_0 (Form_32 fW.1 : arI W (Q + 12) 0) : rdI W (Q + 12)), (Form_33 fW.1 : aln W (Q + 12) = 32), vkk_n, vkk_i, vkk_r, vkk_l, vkk_d, catS_nil, catS_i, catS_r, catS_l, catS_d, Nat.reduceAdd, Nat.reduceLeDiff, Nat.zero_le, Nat.le_refl, Option.bind_some, Option.toList_some, Option.toList_none, List.cons_append, List.nil_append, or_true, true_or, if_true, if_false, Int32.reduceLT, Int32.reduceLE, not_true, not_false_iff, true_and, and_true, false_and, and_false]
set_option maxHeartbeats 4000000 in
theorem c_tuM0 (h : VG) (g f N a c l : Nat) (C : Nat → Nat) (F : Nat → Int32) (big : Int32) (hN : N ≤ 32) (hC : ∀ i, i < N → C i < 10) (hc : c < N) (ha : a + lSiz 1 C N ≤ 256) (mq : MQf h g f N C) (hF : ∀ j, j < 256 → F j &&& 255 = aI h (g + 277) j) (hB : gI h (g + 266) 17 = big) (hl : gI h (g + 266) 18 = nI l) (hr : ∀ j, j < 512 → aI h (g + 293) j = lyO 0 C (tuU F big 1 C a) big c j ∧ aI h (g + 294) j = lyI 0 C c j) (hS : lSiz 0 C N ≤ 512) : ∃ h1, ev 218 0 [some (.ref (g + 266)), some (.int (nI f)), some (.int (nI c)), some (.int (nI a)), some (.int 0), none, none, none, none] [] h = some (some (.int (tuE 0 l (tuW F big 1 C a) C c)), h1) ∧ Fr (fun a => a = g + 284 ∨ a = g + 293 ∨ a = g + 294) (fun a k => a = g + 266 ∧ (k = 36 ∨ k = 37)) h h1 ∧ (tuE 0 l (tuW F big 1 C a) C c = 0 → ∀ j, j < 512 → aI h1 (g + 293) j = lyO 0 C (tuU F big 1 C a) big (c + 1) j ∧ aI h1 (g + 294) j = lyI 0 C (c + 1) j) := by
  have ck := hC c hc
  have le1 := lCell_le 1 C N c hC hc
  have le2 := lCell_le 0 C N c hC hc
  have om : ob h (g + 266) 11 := Mod_0 mq.1.2.1
  have nk := mq_kind mq hc
  obtain ⟨m1, a1, a2, a3, a4⟩ := mq_lays 1 mq
  have om1 := ml_sm a4
  have b1 := c_m_bytes m1 g (C c) 1 a4.1 a4.2.1 ck
  have of1 := ml_off a4 hc
  have na := c_m_numberAt m1 g (a + lOff 1 C c) (nBy (C c) 1) a4.1 (nBy_le (C c) ck 1).2 (by omega)
  have eD : mdv (aI m1 (g + 277)) (gI m1 (g + 266) 17) (a + lOff 1 C c) (nBy (C c) 1) (nBy (C c) 1) = tuD F big 1 C a c := by
    rw [show gI m1 (g + 266) 17 = big from (a2.gI (fun z => by omega)).trans hB]
    exact (rdv_mdv (by omega) (fun j hj => (hF j hj).trans (a2.I (a := g + 277) (fun z => by omega) j).symm) _ (Nat.le_refl _)).symm
  rw [eD] at na
  obtain ⟨m2, d1, d2, d3, d4⟩ := mq_lays 0 a4.mq
  have om2 := ml_sm d4
  have b2 := c_m_bytes m2 g (C c) 0 d4.1 d4.2.1 ck
  have of2 := ml_off d4 hc
  have g2 : gI m2 (g + 266) 17 = big := (d2.gI (fun z => by omega)).trans ((a2.gI (fun z => by omega)).trans hB)
  obtain ⟨m3, p1, p2, p3⟩ := ly_puts m2 g (lOff 0 C c) (nBy (C c) 0) (tuU F big 1 C a c) 0 big C (tuU F big 1 C a) c d4.1 rfl rfl rfl ck (by omega) g2 (fun j hj => by
    rw [d2.I (a := g + 293) (fun z => by omega), a2.I (a := g + 293) (fun z => by omega), d2.I (a := g + 294) (fun z => by omega), a2.I (a := g + 294) (fun z => by omega)]
    exact hr j hj)
  have FF : Fr (fun a => a = g + 284 ∨ a = g + 293 ∨ a = g + 294) (fun a k => a = g + 266 ∧ (k = 36 ∨ k = 37)) h m3 := ((a2.mo (fun _ z => Or.inl z) (fun _ _ z => z)).tr (d2.mo (fun _ z => Or.inl z) (fun _ _ z => z))).tr (p2.mo (fun _ z => Or.inr z) (fun _ _ z => z.elim))
  have F1 : Fr (fun a => a = g + 284 ∨ a = g + 293 ∨ a = g + 294) (fun a k => a = g + 266 ∧ (k = 36 ∨ k = 37)) h m1 := a2.mo (fun _ z => Or.inl z) (fun _ _ z => z)
  have e5 : nI (C c) = 5 ↔ C c = 5 := nI_eq (b := 5) (by omega) (by decide)
  have e9 : nI (C c) = 9 ↔ C c = 9 := nI_eq (b := 9) (by omega) (by decide)
  have l18 : gI m1 (g + 266) 18 = nI l := (a2.gI (fun z => by omega)).trans hl
  by_cases k5 : C c = 5
  · have k5' := e5.mpr k5
    have sg := c_m_signed m1 (tuD F big 1 C a c) (nI (nBy (C c) 1))
    have eU : tuU F big 1 C a c = tuW F big 1 C a c := if_pos k5
    have eW : (tuD F big 1 C a c <<< ((64 - 8 * nI (nBy (C c) 1)).toInt64 &&& 63)) >>> ((64 - 8 * nI (nBy (C c) 1)).toInt64 &&& 63) = tuW F big 1 C a c := by
      unfold tuW kExt
      rw [if_pos (Or.inr (Or.inr (Or.inr k5')))]
    rw [eW] at sg
    rw [eU] at p1
    rw [k5'] at nk b1 b2
    have eE : tuE 0 l (tuW F big 1 C a) C c = if kFit (tuW F big 1 C a c) = 0 then 6 else 0 := by
      show fitRef (nI l) (nI (C c)) (tuW F big 1 C a c) = _
      unfold fitRef
      by_cases z : kFit (tuW F big 1 C a c) = 0
      · rw [if_pos ⟨k5', z⟩, if_pos z]
      · rw [if_neg (fun y => z y.2), if_neg z, if_neg (by rw [k5']; decide)]
    have ii := c_m_isInt m1 (tuW F big 1 C a c)
    rw [eE]
    rcases kFit_or (tuW F big 1 C a c) with z | z
    · rw [if_neg (by rw [z]; decide)]
      rw [z] at ii
      refine ⟨m3, ?_, FF, fun _ => p3⟩
      simp +decide only [e218_0, e218_1, e218_2, e218_3, e218_6, e218_8, e218_9, e218_10, e218_12, e218_15, e218_16, e218_19, e218_20, e218_23, e218_24, e218_26, e218_28, e218_31, e218_32, e218_35, e218_36, e218_39, e218_41, e218_42, e218_43, e218_44, e218_45, e218_46, e218_48, e218_51, e218_52, e218_55, e218_56, e218_59, e218_60, e218_62, e218_65, e218_67, e218_69, e218_70, e218_73, e218_75, e218_77, e218_80, e218_82, e218_84, e218_87, e218_89, e218_90, e218_93, e218_95, e218_98, e218_101, e218_103, e218_105, e218_108, e218_109, e218_111, e218_114, e218_117, e218_119, e218_120, e218_121, e218_122, e218_124, e218_127, e218_128, e218_129, e218_130, e218_131, e218_133, e218_136, e218_137, e218_139, e218_141, e218_144, e218_146, e218_149, e218_150, nk, om, om1, om2, a1, b1, of1, nI_add, na, sg, ii, d1, of2, b2, p1, vkk_n, vkk_i, vkk_r, vkk_l, vkk_d, catS_nil, catS_i, catS_r, catS_l, catS_d, Nat.reduceAdd, Nat.reduceLeDiff, Nat.zero_le, Nat.le_refl, Option.bind_some, Option.toList_some, Option.toList_none, List.cons_append, List.nil_append, or_true, true_or, if_true, if_false, Int32.reduceLT, Int32.reduceLE, not_true, not_false_iff, true_and, and_true, false_and, and_false]
    · rw [if_pos z]
      rw [z] at ii
      refine ⟨m1, ?_, F1, fun y => absurd y (by decide)⟩
      simp +decide only [e218_0, e218_1, e218_2, e218_3, e218_6, e218_8, e218_9, e218_10, e218_12, e218_15, e218_16, e218_19, e218_20, e218_23, e218_24, e218_26, e218_28, e218_31, e218_32, e218_35, e218_36, e218_39, e218_41, e218_42, e218_43, e218_44, e218_45, e218_46, e218_48, e218_51, e218_52, e218_55, e218_56, e218_59, e218_60, e218_62, e218_65, e218_67, e218_69, e218_70, e218_73, e218_75, e218_77, e218_80, e218_82, e218_84, e218_87, e218_89, e218_90, e218_93, e218_95, e218_98, e218_101, e218_103, e218_105, e218_108, e218_109, e218_111, e218_114, e218_117, e218_119, e218_120, e218_121, e218_122, e218_124, e218_127, e218_128, e218_129, e218_130, e218_131, e218_133, e218_136, e218_137, e218_139, e218_141, e218_144, e218_146, e218_149, e218_150, nk, om, om1, om2, a1, b1, of1, nI_add, na, sg, ii, d1, of2, b2, p1, vkk_n, vkk_i, vkk_r, vkk_l, vkk_d, catS_nil, catS_i, catS_r, catS_l, catS_d, Nat.reduceAdd, Nat.reduceLeDiff, Nat.zero_le, Nat.le_refl, Option.bind_some, Option.toList_some, Option.toList_none, List.cons_append, List.nil_append, or_true, true_or, if_true, if_false, Int32.reduceLT, Int32.reduceLE, not_true, not_false_iff, true_and, and_true, false_and, and_false]
  · have k5' : ¬ nI (C c) = 5 := fun z => k5 (e5.mp z)
    have eU : tuU F big 1 C a c = tuD F big 1 C a c := if_neg k5
    rw [eU] at p1
    by_cases k9 : C c = 9
    · have k9' := e9.mpr k9
      have eW : tuW F big 1 C a c = tuD F big 1 C a c := by
        unfold tuW
        rw [k9]
        rfl
      have eE : tuE 0 l (tuW F big 1 C a) C c = fitRef (nI l) 9 (tuD F big 1 C a c) := by
        show fitRef (nI l) (nI (C c)) (tuW F big 1 C a c) = _
        rw [k9', eW]
      rw [k9'] at nk b1 b2
      have il := c_m_isLow m1 (g + 266) (tuD F big 1 C a c) om1
      rw [l18] at il
      rw [eE]
      rcases fit_or (nI l) 9 (tuD F big 1 C a c) with z | z
      · rw [if_pos z] at il
        rw [z]
        refine ⟨m3, ?_, FF, fun _ => p3⟩
        simp +decide only [e218_0, e218_1, e218_2, e218_3, e218_6, e218_8, e218_9, e218_10, e218_12, e218_15, e218_16, e218_19, e218_20, e218_23, e218_24, e218_26, e218_28, e218_31, e218_32, e218_35, e218_36, e218_39, e218_41, e218_42, e218_43, e218_44, e218_45, e218_46, e218_48, e218_51, e218_52, e218_55, e218_56, e218_59, e218_60, e218_62, e218_65, e218_67, e218_69, e218_70, e218_73, e218_75, e218_77, e218_80, e218_82, e218_84, e218_87, e218_89, e218_90, e218_93, e218_95, e218_98, e218_101, e218_103, e218_105, e218_108, e218_109, e218_111, e218_114, e218_117, e218_119, e218_120, e218_121, e218_122, e218_124, e218_127, e218_128, e218_129, e218_130, e218_131, e218_133, e218_136, e218_137, e218_139, e218_141, e218_144, e218_146, e218_149, e218_150, nk, om, om1, om2, a1, b1, of1, nI_add, na, il, d1, of2, b2, p1, vkk_n, vkk_i, vkk_r, vkk_l, vkk_d, catS_nil, catS_i, catS_r, catS_l, catS_d, Nat.reduceAdd, Nat.reduceLeDiff, Nat.zero_le, Nat.le_refl, Option.bind_some, Option.toList_some, Option.toList_none, List.cons_append, List.nil_append, or_true, true_or, if_true, if_false, Int32.reduceLT, Int32.reduceLE, not_true, not_false_iff, true_and, and_true, false_and, and_false]
      · rw [if_neg (by rw [z]; decide)] at il
        rw [z]
        refine ⟨m1, ?_, F1, fun y => absurd y (by decide)⟩
        simp +decide only [e218_0, e218_1, e218_2, e218_3, e218_6, e218_8, e218_9, e218_10, e218_12, e218_15, e218_16, e218_19, e218_20, e218_23, e218_24, e218_26, e218_28, e218_31, e218_32, e218_35, e218_36, e218_39, e218_41, e218_42, e218_43, e218_44, e218_45, e218_46, e218_48, e218_51, e218_52, e218_55, e218_56, e218_59, e218_60, e218_62, e218_65, e218_67, e218_69, e218_70, e218_73, e218_75, e218_77, e218_80, e218_82, e218_84, e218_87, e218_89, e218_90, e218_93, e218_95, e218_98, e218_101, e218_103, e218_105, e218_108, e218_109, e218_111, e218_114, e218_117, e218_119, e218_120, e218_121, e218_122, e218_124, e218_127, e218_128, e218_129, e218_130, e218_131, e218_133, e218_136, e218_137, e218_139, e218_141, e218_144, e218_146, e218_149, e218_150, nk, om, om1, om2, a1, b1, of1, nI_add, na, il, d1, of2, b2, p1, vkk_n, vkk_i, vkk_r, vkk_l, vkk_d, catS_nil, catS_i, catS_r, catS_l, catS_d, Nat.reduceAdd, Nat.reduceLeDiff, Nat.zero_le, Nat.le_refl, Option.bind_some, Option.toList_some, Option.toList_none, List.cons_append, List.nil_append, or_true, true_or, if_true, if_false, Int32.reduceLT, Int32.reduceLE, not_true, not_false_iff, true_and, and_true, false_and, and_false]
    · have k9' : ¬ nI (C c) = 9 := fun z => k9 (e9.mp z)
      have eE : tuE 0 l (tuW F big 1 C a) C c = 0 := by
        show fitRef (nI l) (nI (C c)) (tuW F big 1 C a c) = _
        unfold fitRef
        rw [if_neg (fun z => k5' z.1), if_neg k9']
      rw [eE]
      refine ⟨m3, ?_, FF, fun _ => p3⟩
      simp +decide only [e218_0, e218_1, e218_2, e218_3, e218_6, e218_8, e218_9, e218_10, e218_12, e218_15, e218_16, e218_19, e218_20, e218_23, e218_24, e218_26, e218_28, e218_31, e218_32, e218_35, e218_36, e218_39, e218_41, e218_42, e218_43, e218_44, e218_45, e218_46, e218_48, e218_51, e218_52, e218_55, e218_56, e218_59, e218_60, e218_62, e218_65, e218_67, e218_69, e218_70, e218_73, e218_75, e218_77, e218_80, e218_82, e218_84, e218_87, e218_89, e218_90, e218_93, e218_95, e218_98, e218_101, e218_103, e218_105, e218_108, e218_109, e218_111, e218_114, e218_117, e218_119, e218_120, e218_121, e218_122, e218_124, e218_127, e218_128, e218_129, e218_130, e218_131, e218_133, e218_136, e218_137, e218_139, e218_141, e218_144, e218_146, e218_149, e218_150, nk, om, om1, om2, a1, b1, of1, nI_add, na, k5', k9', d1, of2, b2, p1, vkk_n, vkk_i, vkk_r, vkk_l, vkk_d, catS_nil, catS_i, catS_r, catS_l, catS_d, Nat.reduceAdd, Nat.reduceLeDiff, Nat.zero_le, Nat.le_refl, Option.bind_some, Option.toList_some, Option.toList_none, List.cons_append, List.nil_append, or_true, true_or, if_true, if_false, Int32.reduceLT, Int32.reduceLE, not_true, not_false_iff, true_and, and_true, false_and, and_false]
set_option maxHeartbeats 4000000 in
theorem l_tuM0 (g f N a l : Nat) (t had many : Int32) (C : Nat → Nat) (F : Nat → Int32) (big : Int32) (hN : N ≤ 32) (hC : ∀ i, i < N → C i < 10) (ha : a + lSiz 1 C N ≤ 256) (hS : lSiz 0 C N ≤ 512) : ∀ d c h, c + d = N → MQf h g f N C → (∀ j, j < 256 → F j &&& 255 = aI h (g + 277) j) → gI h (g + 266) 17 = big → gI h (g + 266) 18 = nI l → (∀ j, j < 512 → aI h (g + 293) j = lyO 0 C (tuU F big 1 C a) big c j ∧ aI h (g + 294) j = lyI 0 C c j) → ∃ (h1 : VG) (c1 : Nat), ev 217 91 [some (.ref (g + 266)), some (.int (nI f)), some (.int (nI a)), some (.int t), some (.int 0), some (.int had), some (.int 0), some (.int many), some (.int (nI c))] [] h = ev 217 124 [some (.ref (g + 266)), some (.int (nI f)), some (.int (nI a)), some (.int t), some (.int 0), some (.int had), some (.int (fst_ (tuE 0 l (tuW F big 1 C a) C) c d)), some (.int many), some (.int (nI c1))] [] h1 ∧ Fr (fun a => a = g + 284 ∨ a = g + 293 ∨ a = g + 294) (fun a k => a = g + 266 ∧ (k = 36 ∨ k = 37)) h h1 ∧ (fst_ (tuE 0 l (tuW F big 1 C a) C) c d = 0 → ∀ j, j < 512 → aI h1 (g + 293) j = lyO 0 C (tuU F big 1 C a) big N j ∧ aI h1 (g + 294) j = lyI 0 C N j) := by
  intro d
  induction d with
  | zero =>
    intro c h hcd mq hF hB hl ho
    obtain rfl : N = c := by omega
    have q : ¬ nI N < nI N := nI_nlt (Nat.le_refl _) (by omega)
    refine ⟨h, N, ?_, Fr.rfl _, fun _ => ho⟩
    have nc := mq_cells mq
    have om : ob h (g + 266) 11 := Mod_0 mq.1.2.1
    have e : fst_ (tuE 0 l (tuW F big 1 C a) C) N 0 = 0 := rfl
    rw [e]
    simp +decide only [e217_91, e217_93, e217_94, e217_95, e217_98, q, nc, om, vkk_n, vkk_i, vkk_r, vkk_l, vkk_d, catS_nil, catS_i, catS_r, catS_l, catS_d, Nat.reduceAdd, Nat.reduceLeDiff, Nat.zero_le, Nat.le_refl, Option.bind_some, Option.toList_some, Option.toList_none, List.cons_append, List.nil_append, or_true, true_or, if_true, if_false, Int32.reduceLT, Int32.reduceLE, not_true, not_false_iff, true_and, and_true, false_and, and_false]
  | succ d ih =>
    intro c h hcd mq hF hB hl ho
    have q : nI c < nI N := nI_lt (by omega) (by omega)
    have e : fst_ (tuE 0 l (tuW F big 1 C a) C) c (d + 1) = if tuE 0 l (tuW F big 1 C a) C c = 0 then fst_ (tuE 0 l (tuW F big 1 C a) C) (c + 1) d else tuE 0 l (tuW F big 1 C a) C c := rfl
    rw [e]
    have om : ob h (g + 266) 11 := Mod_0 mq.1.2.1
    have nc := mq_cells mq
    obtain ⟨ma, t1, t2, t3⟩ := c_tuM0 h g f N a c l C F big hN hC (by omega) ha mq hF hB hl ho hS
    have mqa := MQf_fr t2 (fun a z => by omega) mq
    have oa : ob ma (g + 266) 11 := Mod_0 mqa.1.2.1
    have nca := mq_cells mqa
    have st1 : ev 217 91 [some (.ref (g + 266)), some (.int (nI f)), some (.int (nI a)), some (.int t), some (.int 0), some (.int had), some (.int 0), some (.int many), some (.int (nI c))] [] h = ev 217 91 [some (.ref (g + 266)), some (.int (nI f)), some (.int (nI a)), some (.int t), some (.int 0), some (.int had), some (.int (tuE 0 l (tuW F big 1 C a) C c)), some (.int many), some (.int (nI (c + 1)))] [] ma := by
      generalize hZ : ev 217 91 [some (.ref (g + 266)), some (.int (nI f)), some (.int (nI a)), some (.int t), some (.int 0), some (.int had), some (.int (tuE 0 l (tuW F big 1 C a) C c)), some (.int many), some (.int (nI (c + 1)))] [] ma = Z
      simp +decide only [e217_91, e217_93, e217_94, e217_95, e217_98, e217_101, e217_103, q, nc, om, vkk_n, vkk_i, vkk_r, vkk_l, vkk_d, catS_nil, catS_i, catS_r, catS_l, catS_d, Nat.reduceAdd, Nat.reduceLeDiff, Nat.zero_le, Nat.le_refl, Option.bind_some, Option.toList_some, Option.toList_none, List.cons_append, List.nil_append, or_true, true_or, if_true, if_false, Int32.reduceLT, Int32.reduceLE, not_true, not_false_iff, true_and, and_true, false_and, and_false]
      simp +decide only [e217_106, e217_107, e217_108, e217_110, e217_111, e217_113, e217_116, e217_118, e217_121, om, t1, nI_1, nI_add, vkk_n, vkk_i, vkk_r, vkk_l, vkk_d, catS_nil, catS_i, catS_r, catS_l, catS_d, Nat.reduceAdd, Nat.reduceLeDiff, Nat.zero_le, Nat.le_refl, Option.bind_some, Option.toList_some, Option.toList_none, List.cons_append, List.nil_append, or_true, true_or, if_true, if_false, Int32.reduceLT, Int32.reduceLE, not_true, not_false_iff, true_and, and_true, false_and, and_false]
      exact hZ
    rw [st1]
    by_cases y : tuE 0 l (tuW F big 1 C a) C c = 0
    · rw [if_pos y, y]
      obtain ⟨h1, c1, u1, u2, u3⟩ := ih (c + 1) ma (by omega) mqa (fun j hj => (hF j hj).trans (t2.I (a := g + 277) (fun z => by omega) j).symm) ((t2.gI (fun z => by omega)).trans hB) ((t2.gI (fun z => by omega)).trans hl) (t3 y)
      exact ⟨h1, c1, u1, t2.tr u2, u3⟩
    · rw [if_neg y]
      refine ⟨ma, c + 1, ?_, t2, fun z => absurd z y⟩
      by_cases y2 : nI (c + 1) < nI N
      · simp +decide only [e217_91, e217_93, e217_94, e217_95, e217_98, e217_101, e217_103, oa, nca, y2, y, vkk_n, vkk_i, vkk_r, vkk_l, vkk_d, catS_nil, catS_i, catS_r, catS_l, catS_d, Nat.reduceAdd, Nat.reduceLeDiff, Nat.zero_le, Nat.le_refl, Option.bind_some, Option.toList_some, Option.toList_none, List.cons_append, List.nil_append, or_true, true_or, if_true, if_false, Int32.reduceLT, Int32.reduceLE, not_true, not_false_iff, true_and, and_true, false_and, and_false]
      · simp +decide only [e217_91, e217_93, e217_94, e217_95, e217_98, e217_101, e217_103, oa, nca, y2, y, vkk_n, vkk_i, vkk_r, vkk_l, vkk_d, catS_nil, catS_i, catS_r, catS_l, catS_d, Nat.reduceAdd, Nat.reduceLeDiff, Nat.zero_le, Nat.le_refl, Option.bind_some, Option.toList_some, Option.toList_none, List.cons_append, List.nil_append, or_true, true_or, if_true, if_false, Int32.reduceLT, Int32.reduceLE, not_true, not_false_iff, true_and, and_true, false_and, and_false]
set_option maxHeartbeats 4000000 in
theorem l_tuC1 (g f Q N a l : Nat) (t : Int32) (C : Nat → Nat) (F : Nat → Int32) (big : Int32) (hN : N ≤ 32) (hC : ∀ i, i < N → C i < 10) (hQ1 : g + 8 ≤ Q) (hQ2 : Q + 12 < g + 172) (ha : a + lSiz 0 C N ≤ 256) : ∀ d c h, c + d = N → Sh h g → FQ h Q N C → (∀ j, aI h (g + 174) j = F j) → gI h (g + 173) 2 = big → gI h (g + 173) 1 = nI l → (∀ j, j < c → aL h (g + 261) j = tuW F big 0 C a j) → ∃ (h1 : VG), Fr (fun a => a = g + 261) NF h h1 ∧ (fst_ (tuE 1 l (tuW F big 0 C a) C) c d = 0 → ev 123 119 [some (.ref g), some (.int (nI f)), some (.int (nI a)), some (.int t), some (.int 1), some (.ref Q), some (.ref (Q + 5)), some (.ref (Q + 7)), some (.int (nI c))] [] h = ev 123 214 [some (.ref g), some (.int (nI f)), some (.int (nI a)), some (.int t), some (.int 1), some (.ref Q), some (.ref (Q + 5)), some (.ref (Q + 7)), some (.int (nI N))] [] h1 ∧ ∀ j, j < N → aL h1 (g + 261) j = tuW F big 0 C a j) ∧ (¬ fst_ (tuE 1 l (tuW F big 0 C a) C) c d = 0 → ev 123 119 [some (.ref g), some (.int (nI f)), some (.int (nI a)), some (.int t), some (.int 1), some (.ref Q), some (.ref (Q + 5)), some (.ref (Q + 7)), some (.int (nI c))] [] h = some (some (.int (-1)), rfs h1 g (fst_ (tuE 1 l (tuW F big 0 C a) C) c d))) := by
  intro d
  induction d with
  | zero =>
    intro c h hcd hs fq hF hB hl hr
    obtain rfl : N = c := by omega
    have q : ¬ nI N < nI N := nI_nlt (Nat.le_refl _) (by omega)
    refine ⟨h, Fr.rfl _, fun _ => ⟨?_, hr⟩, fun z => absurd rfl z⟩
    simp +decide only [e123_119, e123_121, e123_123, e123_126, q, fq.2.1, fq.2.2.1, fq.2.2.2.1, fq.2.2.2.2.1, fq.2.2.2.2.2.1, (Form_0 fq.1 : ob h Q 3), (eq_true (isL_ob (Form_0 fq.1 : ob h Q 3) rfl : isL h Q 0)), (eq_true (isI_ob (Form_0 fq.1 : ob h Q 3) rfl : isI h Q 1)), (eq_true (isI_ob (Form_0 fq.1 : ob h Q 3) rfl : isI h Q 2)), (rf_g (Form_1 fq.1 : rf h Q 3 (Q + 1)) : gR h Q 3 = (Q + 1)), (rf_is (Form_1 fq.1 : rf h Q 3 (Q + 1)) : isR h Q 3), (rf_g (Form_2 fq.1 : rf h Q 4 (Q + 2)) : gR h Q 4 = (Q + 2)), (rf_is (Form_2 fq.1 : rf h Q 4 (Q + 2)) : isR h Q 4), (rf_g (Form_3 fq.1 : rf h Q 5 (Q + 3)) : gR h Q 5 = (Q + 3)), (rf_is (Form_3 fq.1 : rf h Q 5 (Q + 3)) : isR h Q 5), (rf_g (Form_4 fq.1 : rf h Q 6 (Q + 4)) : gR h Q 6 = (Q + 4)), (rf_is (Form_4 fq.1 : rf h Q 6 (Q + 4)) : isR h Q 6), (rf_g (Form_5 fq.1 : rf h Q 7 (Q + 5)) : gR h Q 7 = (Q + 5)), (rf_is (Form_5 fq.1 : rf h Q 7 (Q + 5)) : isR h Q 7), (rf_g (Form_6 fq.1 : rf h Q 8 (Q + 7)) : gR h Q 8 = (Q + 7)), (rf_is (Form_6 fq.1 : rf h Q 8 (Q + 7)) : isR h Q 8), (rf_g (Form_7 fq.1 : rf h Q 9 (Q + 9)) : gR h Q 9 = (Q + 9)), (rf_is (Form_7 fq.1 : rf h Q 9 (Q + 9)) : isR h Q 9), (Form_8 fq.1 : arI h (Q + 1) 0), (rdI_0 (Form_8 fq.1 : arI h (Q + 1) 0) : rdI h (Q + 1)), (Form_9 fq.1 : aln h (Q + 1) = 8), (Form_10 fq.1 : arI h (Q + 2) 0), (rdI_0 (Form_10 fq.1 : arI h (Q + 2) 0) : rdI h (Q + 2)), (Form_11 fq.1 : aln h (Q + 2) = 8), (Form_12 fq.1 : arI h (Q + 3) 0), (rdI_0 (Form_12 fq.1 : arI h (Q + 3) 0) : rdI h (Q + 3)), (Form_13 fq.1 : aln h (Q + 3) = 8), (Form_14 fq.1 : arI h (Q + 4) 0), (rdI_0 (Form_14 fq.1 : arI h (Q + 4) 0) : rdI h (Q + 4)), (Form_15 fq.1 : aln h (Q + 4) = 32), (Form_16 fq.1 : ob h (Q + 5) 4), (eq_true (isI_ob (Form_16 fq.1 : ob h (Q + 5) 4) rfl : isI h (Q + 5) 0)), (eq_true (isI_ob (Form_16 fq.1 : ob h (Q + 5) 4) rfl : isI h (Q + 5) 2)), (eq_true (isI_ob (Form_16 fq.1 : ob h (Q + 5) 4) rfl : isI h (Q + 5) 3)), (rf_g (Form_17 fq.1 : rf h (Q + 5) 1 (Q + 6)) : gR h (Q + 5) 1 = (Q + 6)), (rf_is (Form_17 fq.1 : rf h (Q + 5) 1 (Q + 6)) : isR h (Q + 5) 1), (Form_18 fq.1 : arI h (Q + 6) 0), (rdI_0 (Form_18 fq.1 : arI h (Q + 6) 0) : rdI h (Q + 6)), (Form_19 fq.1 : aln h (Q + 6) = 32), (Form_20 fq.1 : ob h (Q + 7) 4), (eq_true (isI_ob (Form_20 fq.1 : ob h (Q + 7) 4) rfl : isI h (Q + 7) 0)), (eq_true (isI_ob (Form_20 fq.1 : ob h (Q + 7) 4) rfl : isI h (Q + 7) 2)), (eq_true (isI_ob (Form_20 fq.1 : ob h (Q + 7) 4) rfl : isI h (Q + 7) 3)), (rf_g (Form_21 fq.1 : rf h (Q + 7) 1 (Q + 8)) : gR h (Q + 7) 1 = (Q + 8)), (rf_is (Form_21 fq.1 : rf h (Q + 7) 1 (Q + 8)) : isR h (Q + 7) 1), (Form_22 fq.1 : arI h (Q + 8) 0), (rdI_0 (Form_22 fq.1 : arI h (Q + 8) 0) : rdI h (Q + 8)), (Form_23 fq.1 : aln h (Q + 8) = 32), (Form_24 fq.1 : ob h (Q + 9) 0), (rf_g (Form_25 fq.1 : rf h (Q + 9) 0 (Q + 10)) : gR h (Q + 9) 0 = (Q + 10)), (rf_is (Form_25 fq.1 : rf h (Q + 9) 0 (Q + 10)) : isR h (Q + 9) 0), (rf_g (Form_26 fq.1 : rf h (Q + 9) 1 (Q + 11)) : gR h (Q + 9) 1 = (Q + 11)), (rf_is (Form_26 fq.1 : rf h (Q + 9) 1 (Q + 11)) : isR h (Q + 9) 1), (rf_g (Form_27 fq.1 : rf h (Q + 9) 2 (Q + 12)) : gR h (Q + 9) 2 = (Q + 12)), (rf_is (Form_27 fq.1 : rf h (Q + 9) 2 (Q + 12)) : isR h (Q + 9) 2), (Form_28 fq.1 : arI h (Q + 10) 0), (rdI_0 (Form_28 fq.1 : arI h (Q + 10) 0) : rdI h (Q + 10)), (Form_29 fq.1 : aln h (Q + 10) = 32), (Form_30 fq.1 : arI h (Q + 11) 0), (rdI_0 (Form_30 fq.1 : arI h (Q + 11) 0) : rdI h (Q + 11)), (Form_31 fq.1 : aln h (Q + 11) = 32), (Form_32 fq.1 : arI h (Q + 12) 0), (rdI_0 (Form_32 fq.1 : arI h (Q + 12) 0) : rdI h (Q + 12)), (Form_33 fq.1 : aln h (Q + 12) = 32), vkk_n, vkk_i, vkk_r, vkk_l, vkk_d, catS_nil, catS_i, catS_r, catS_l, catS_d, Nat.reduceAdd, Nat.reduceLeDiff, Nat.zero_le, Nat.le_refl, Option.bind_some, Option.toList_some, Option.toList_none, List.cons_append, List.nil_append, or_true, true_or, if_true, if_false, Int32.reduceLT, Int32.reduceLE, not_true, not_false_iff, true_and, and_true, false_and, and_false]
  | succ d ih =>
    intro c h hcd hs fq hF hB hl hr
    have q : nI c < nI N := nI_lt (by omega) (by omega)
    have e : fst_ (tuE 1 l (tuW F big 0 C a) C) c (d + 1) = if tuE 1 l (tuW F big 0 C a) C c = 0 then fst_ (tuE 1 l (tuW F big 0 C a) C) (c + 1) d else tuE 1 l (tuW F big 0 C a) C c := rfl
    rw [e]
    have ho : ob h g 10 := Cls_0 hs.1
    obtain ⟨k1, k2, k3⟩ := fq.2.2.2.2.2.2 c (by omega)
    have ck := hC c (by omega)
    have le := lCell_le 0 C N c hC (by omega)
    have v1 : vp_in (nI c) 32 := vp_in_nI (by omega) (by decide)
    have v2 : (nI c).toNatClampNeg = c := nI_clamp (by omega)
    have cA := c_cellAt h g (g + 173) (a + lOff 0 C c) (C c) 0 hs.2.2 (Mem_of hs) ck (by omega)
    rw [show aI h (g + 173 + 1) = F from funext hF, hB] at cA
    have cA : ev 56 0 [some (.ref (g + 173)), some (.int (nI (a + lOff 0 C c))), some (.int (nI (C c))), some (.int 0), none, none, none, none, none] [] h = some (some (.long (tuW F big 0 C a c)), h) := cA
    have x1 : Fr (fun a => a = g + 261) NF h (wL h (g + 261) c (tuW F big 0 C a c)) := Fr_wL _ _ _ _ rfl
    have y1 : ∀ j, aL (wL h (g + 261) c (tuW F big 0 C a c)) (g + 261) j = if j = c then tuW F big 0 C a c else aL h (g + 261) j := by
      intro j
      rw [aL_wL _ _ _ _ _ _ (Cls_26 hs.1)]
      simp only [true_and]
    have sW : Sh (wL h (g + 261) c (tuW F big 0 C a c)) g := Sh_fr x1 (fun a z => by omega) hs
    have fW : FQ (wL h (g + 261) c (tuW F big 0 C a c)) Q N C := FQ_fr x1 (fun a z => by omega) (fun _ _ z => z.elim) fq
    have lW : gI (wL h (g + 261) c (tuW F big 0 C a c)) (g + 173) 1 = nI l := (x1.gI (fun z => z)).trans hl
    have kW : aI (wL h (g + 261) c (tuW F big 0 C a c)) (Q + 4) c = nI (C c) := (x1.I (fun z => by omega) c).trans k1
    have y2 := y1 c
    rw [if_pos rfl] at y2
    have st1 : ev 123 119 [some (.ref g), some (.int (nI f)), some (.int (nI a)), some (.int t), some (.int 1), some (.ref Q), some (.ref (Q + 5)), some (.ref (Q + 7)), some (.int (nI c))] [] h = ev 123 169 [some (.ref g), some (.int (nI f)), some (.int (nI a)), some (.int t), some (.int 1), some (.ref Q), some (.ref (Q + 5)), some (.ref (Q + 7)), some (.int (nI c))] [] (wL h (g + 261) c (tuW F big 0 C a c)) := by
      simp +decide only [e123_119, e123_121, e123_123, e123_126, q, fq.2.1, fq.2.2.1, fq.2.2.2.1, fq.2.2.2.2.1, fq.2.2.2.2.2.1, (Form_0 fq.1 : ob h Q 3), (eq_true (isL_ob (Form_0 fq.1 : ob h Q 3) rfl : isL h Q 0)), (eq_true (isI_ob (Form_0 fq.1 : ob h Q 3) rfl : isI h Q 1)), (eq_true (isI_ob (Form_0 fq.1 : ob h Q 3) rfl : isI h Q 2)), (rf_g (Form_1 fq.1 : rf h Q 3 (Q + 1)) : gR h Q 3 = (Q + 1)), (rf_is (Form_1 fq.1 : rf h Q 3 (Q + 1)) : isR h Q 3), (rf_g (Form_2 fq.1 : rf h Q 4 (Q + 2)) : gR h Q 4 = (Q + 2)), (rf_is (Form_2 fq.1 : rf h Q 4 (Q + 2)) : isR h Q 4), (rf_g (Form_3 fq.1 : rf h Q 5 (Q + 3)) : gR h Q 5 = (Q + 3)), (rf_is (Form_3 fq.1 : rf h Q 5 (Q + 3)) : isR h Q 5), (rf_g (Form_4 fq.1 : rf h Q 6 (Q + 4)) : gR h Q 6 = (Q + 4)), (rf_is (Form_4 fq.1 : rf h Q 6 (Q + 4)) : isR h Q 6), (rf_g (Form_5 fq.1 : rf h Q 7 (Q + 5)) : gR h Q 7 = (Q + 5)), (rf_is (Form_5 fq.1 : rf h Q 7 (Q + 5)) : isR h Q 7), (rf_g (Form_6 fq.1 : rf h Q 8 (Q + 7)) : gR h Q 8 = (Q + 7)), (rf_is (Form_6 fq.1 : rf h Q 8 (Q + 7)) : isR h Q 8), (rf_g (Form_7 fq.1 : rf h Q 9 (Q + 9)) : gR h Q 9 = (Q + 9)), (rf_is (Form_7 fq.1 : rf h Q 9 (Q + 9)) : isR h Q 9), (Form_8 fq.1 : arI h (Q + 1) 0), (rdI_0 (Form_8 fq.1 : arI h (Q + 1) 0) : rdI h (Q + 1)), (Form_9 fq.1 : aln h (Q + 1) = 8), (Form_10 fq.1 : arI h (Q + 2) 0), (rdI_0 (Form_10 fq.1 : arI h (Q + 2) 0) : rdI h (Q + 2)), (Form_11 fq.1 : aln h (Q + 2) = 8), (Form_12 fq.1 : arI h (Q + 3) 0), (rdI_0 (Form_12 fq.1 : arI h (Q + 3) 0) : rdI h (Q + 3)), (Form_13 fq.1 : aln h (Q + 3) = 8), (Form_14 fq.1 : arI h (Q + 4) 0), (rdI_0 (Form_14 fq.1 : arI h (Q + 4) 0) : rdI h (Q + 4)), (Form_15 fq.1 : aln h (Q + 4) = 32), (Form_16 fq.1 : ob h (Q + 5) 4), (eq_true (isI_ob (Form_16 fq.1 : ob h (Q + 5) 4) rfl : isI h (Q + 5) 0)), (eq_true (isI_ob (Form_16 fq.1 : ob h (Q + 5) 4) rfl : isI h (Q + 5) 2)), (eq_true (isI_ob (Form_16 fq.1 : ob h (Q + 5) 4) rfl : isI h (Q + 5) 3)), (rf_g (Form_17 fq.1 : rf h (Q + 5) 1 (Q + 6)) : gR h (Q + 5) 1 = (Q + 6)), (rf_is (Form_17 fq.1 : rf h (Q + 5) 1 (Q + 6)) : isR h (Q + 5) 1), (Form_18 fq.1 : arI h (Q + 6) 0), (rdI_0 (Form_18 fq.1 : arI h (Q + 6) 0) : rdI h (Q + 6)), (Form_19 fq.1 : aln h (Q + 6) = 32), (Form_20 fq.1 : ob h (Q + 7) 4), (eq_true (isI_ob (Form_20 fq.1 : ob h (Q + 7) 4) rfl : isI h (Q + 7) 0)), (eq_true (isI_ob (Form_20 fq.1 : ob h (Q + 7) 4) rfl : isI h (Q + 7) 2)), (eq_true (isI_ob (Form_20 fq.1 : ob h (Q + 7) 4) rfl : isI h (Q + 7) 3)), (rf_g (Form_21 fq.1 : rf h (Q + 7) 1 (Q + 8)) : gR h (Q + 7) 1 = (Q + 8)), (rf_is (Form_21 fq.1 : rf h (Q + 7) 1 (Q + 8)) : isR h (Q + 7) 1), (Form_22 fq.1 : arI h (Q + 8) 0), (rdI_0 (Form_22 fq.1 : arI h (Q + 8) 0) : rdI h (Q + 8)), (Form_23 fq.1 : aln h (Q + 8) = 32), (Form_24 fq.1 : ob h (Q + 9) 0), (rf_g (Form_25 fq.1 : rf h (Q + 9) 0 (Q + 10)) : gR h (Q + 9) 0 = (Q + 10)), (rf_is (Form_25 fq.1 : rf h (Q + 9) 0 (Q + 10)) : isR h (Q + 9) 0), (rf_g (Form_26 fq.1 : rf h (Q + 9) 1 (Q + 11)) : gR h (Q + 9) 1 = (Q + 11)), (rf_is (Form_26 fq.1 : rf h (Q + 9) 1 (Q + 11)) : isR h (Q + 9) 1), (rf_g (Form_27 fq.1 : rf h (Q + 9) 2 (Q + 12)) : gR h (Q + 9) 2 = (Q + 12)), (rf_is (Form_27 fq.1 : rf h (Q + 9) 2 (Q + 12)) : isR h (Q + 9) 2), (Form_28 fq.1 : arI h (Q + 10) 0), (rdI_0 (Form_28 fq.1 : arI h (Q + 10) 0) : rdI h (Q + 10)), (Form_29 fq.1 : aln h (Q + 10) = 32), (Form_30 fq.1 : arI h (Q + 11) 0), (rdI_0 (Form_30 fq.1 : arI h (Q + 11) 0) : rdI h (Q + 11)), (Form_31 fq.1 : aln h (Q + 11) = 32), (Form_32 fq.1 : arI h (Q + 12) 0), (rdI_0 (Form_32 fq.1 : arI h (Q + 12) 0) : rdI h (Q + 12)), (Form_33 fq.1 : aln h (Q + 12) = 32), if_true]
      simp +decide only [e123_129, e123_130, e123_133, e123_135, e123_136, e123_139, e123_142, e123_143, e123_145, e123_148, e123_150, e123_151, e123_152, e123_154, e123_157, e123_159, e123_160, e123_162, e123_165, e123_168, k1, k2, v1, v2, nI_add, cA, (Cls_0 hs.1 : ob h g 10), (rf_g (Cls_3 hs.1 : rf h g 6 (g + 172)) : gR h g 6 = (g + 172)), (rf_is (Cls_3 hs.1 : rf h g 6 (g + 172)) : isR h g 6), (rf_g (Cls_6 hs.1 : rf h g 11 (g + 261)) : gR h g 11 = (g + 261)), (rf_is (Cls_6 hs.1 : rf h g 11 (g + 261)) : isR h g 11), (Cls_26 hs.1 : arL h (g + 261)), (Cls_27 hs.1 : aln h (g + 261) = 32), (State_0 (Cls_17 hs.1) : ob h (g + 172) 8), (eq_true (isI_ob (State_0 (Cls_17 hs.1) : ob h (g + 172) 8) rfl : isI h (g + 172) 3)), (rf_g (State_1 (Cls_17 hs.1) : rf h (g + 172) 0 (g + 173)) : gR h (g + 172) 0 = (g + 173)), (rf_is (State_1 (Cls_17 hs.1) : rf h (g + 172) 0 (g + 173)) : isR h (g + 172) 0), (rf_g (State_2 (Cls_17 hs.1) : rf h (g + 172) 1 (g + 175)) : gR h (g + 172) 1 = (g + 175)), (rf_is (State_2 (Cls_17 hs.1) : rf h (g + 172) 1 (g + 175)) : isR h (g + 172) 1), (rf_g (State_3 (Cls_17 hs.1) : rf h (g + 172) 2 (g + 176)) : gR h (g + 172) 2 = (g + 176)), (rf_is (State_3 (Cls_17 hs.1) : rf h (g + 172) 2 (g + 176)) : isR h (g + 172) 2), (State_5 (Cls_17 hs.1) : arR h (g + 175) 5), (rdR_5 (State_5 (Cls_17 hs.1) : arR h (g + 175) 5) : rdR h (g + 175)), (State_6 (Cls_17 hs.1) : aln h (g + 175) = 8), (State_8 (Cls_17 hs.1) : arL h (g + 176)), (State_9 (Cls_17 hs.1) : aln h (g + 176) = 8), (Mem_0 (State_4 (Cls_17 hs.1)) : ob h (g + 173) 5), (eq_true (isI_ob (Mem_0 (State_4 (Cls_17 hs.1)) : ob h (g + 173) 5) rfl : isI h (g + 173) 1)), (eq_true (isI_ob (Mem_0 (State_4 (Cls_17 hs.1)) : ob h (g + 173) 5) rfl : isI h (g + 173) 2)), (rf_g (Mem_1 (State_4 (Cls_17 hs.1)) : rf h (g + 173) 0 (g + 174)) : gR h (g + 173) 0 = (g + 174)), (rf_is (Mem_1 (State_4 (Cls_17 hs.1)) : rf h (g + 173) 0 (g + 174)) : isR h (g + 173) 0), (Mem_2 (State_4 (Cls_17 hs.1)) : arI h (g + 174) 2), (rdB_2 (Mem_2 (State_4 (Cls_17 hs.1)) : arI h (g + 174) 2) : rdB h (g + 174)), (Mem_3 (State_4 (Cls_17 hs.1)) : aln h (g + 174) = 256), fq.2.1, fq.2.2.1, fq.2.2.2.1, fq.2.2.2.2.1, fq.2.2.2.2.2.1, (Form_0 fq.1 : ob h Q 3), (eq_true (isL_ob (Form_0 fq.1 : ob h Q 3) rfl : isL h Q 0)), (eq_true (isI_ob (Form_0 fq.1 : ob h Q 3) rfl : isI h Q 1)), (eq_true (isI_ob (Form_0 fq.1 : ob h Q 3) rfl : isI h Q 2)), (rf_g (Form_1 fq.1 : rf h Q 3 (Q + 1)) : gR h Q 3 = (Q + 1)), (rf_is (Form_1 fq.1 : rf h Q 3 (Q + 1)) : isR h Q 3), (rf_g (Form_2 fq.1 : rf h Q 4 (Q + 2)) : gR h Q 4 = (Q + 2)), (rf_is (Form_2 fq.1 : rf h Q 4 (Q + 2)) : isR h Q 4), (rf_g (Form_3 fq.1 : rf h Q 5 (Q + 3)) : gR h Q 5 = (Q + 3)), (rf_is (Form_3 fq.1 : rf h Q 5 (Q + 3)) : isR h Q 5), (rf_g (Form_4 fq.1 : rf h Q 6 (Q + 4)) : gR h Q 6 = (Q + 4)), (rf_is (Form_4 fq.1 : rf h Q 6 (Q + 4)) : isR h Q 6), (rf_g (Form_5 fq.1 : rf h Q 7 (Q + 5)) : gR h Q 7 = (Q + 5)), (rf_is (Form_5 fq.1 : rf h Q 7 (Q + 5)) : isR h Q 7), (rf_g (Form_6 fq.1 : rf h Q 8 (Q + 7)) : gR h Q 8 = (Q + 7)), (rf_is (Form_6 fq.1 : rf h Q 8 (Q + 7)) : isR h Q 8), (rf_g (Form_7 fq.1 : rf h Q 9 (Q + 9)) : gR h Q 9 = (Q + 9)), (rf_is (Form_7 fq.1 : rf h Q 9 (Q + 9)) : isR h Q 9), (Form_8 fq.1 : arI h (Q + 1) 0), (rdI_0 (Form_8 fq.1 : arI h (Q + 1) 0) : rdI h (Q + 1)), (Form_9 fq.1 : aln h (Q + 1) = 8), (Form_10 fq.1 : arI h (Q + 2) 0), (rdI_0 (Form_10 fq.1 : arI h (Q + 2) 0) : rdI h (Q + 2)), (Form_11 fq.1 : aln h (Q + 2) = 8), (Form_12 fq.1 : arI h (Q + 3) 0), (rdI_0 (Form_12 fq.1 : arI h (Q + 3) 0) : rdI h (Q + 3)), (Form_13 fq.1 : aln h (Q + 3) = 8), (Form_14 fq.1 : arI h (Q + 4) 0), (rdI_0 (Form_14 fq.1 : arI h (Q + 4) 0) : rdI h (Q + 4)), (Form_15 fq.1 : aln h (Q + 4) = 32), (Form_16 fq.1 : ob h (Q + 5) 4), (eq_true (isI_ob (Form_16 fq.1 : ob h (Q + 5) 4) rfl : isI h (Q + 5) 0)), (eq_true (isI_ob (Form_16 fq.1 : ob h (Q + 5) 4) rfl : isI h (Q + 5) 2)), (eq_true (isI_ob (Form_16 fq.1 : ob h (Q + 5) 4) rfl : isI h (Q + 5) 3)), (rf_g (Form_17 fq.1 : rf h (Q + 5) 1 (Q + 6)) : gR h (Q + 5) 1 = (Q + 6)), (rf_is (Form_17 fq.1 : rf h (Q + 5) 1 (Q + 6)) : isR h (Q + 5) 1), (Form_18 fq.1 : arI h (Q + 6) 0), (rdI_0 (Form_18 fq.1 : arI h (Q + 6) 0) : rdI h (Q + 6)), (Form_19 fq.1 : aln h (Q + 6) = 32), (Form_20 fq.1 : ob h (Q + 7) 4), (eq_true (isI_ob (Form_20 fq.1 : ob h (Q + 7) 4) rfl : isI h (Q + 7) 0)), (eq_true (isI_ob (Form_20 fq.1 : ob h (Q + 7) 4) rfl : isI h (Q + 7) 2)), (eq_true (isI_ob (Form_20 fq.1 : ob h (Q + 7) 4) rfl : isI h (Q + 7) 3)), (rf_g (Form_21 fq.1 : rf h (Q + 7) 1 (Q + 8)) : gR h (Q + 7) 1 = (Q + 8)), (rf_is (Form_21 fq.1 : rf h (Q + 7) 1 (Q + 8)) : isR h (Q + 7) 1), (Form_22 fq.1 : arI h (Q + 8) 0), (rdI_0 (Form_22 fq.1 : arI h (Q + 8) 0) : rdI h (Q + 8)), (Form_23 fq.1 : aln h (Q + 8) = 32), (Form_24 fq.1 : ob h (Q + 9) 0), (rf_g (Form_25 fq.1 : rf h (Q + 9) 0 (Q + 10)) : gR h (Q + 9) 0 = (Q + 10)), (rf_is (Form_25 fq.1 : rf h (Q + 9) 0 (Q + 10)) : isR h (Q + 9) 0), (rf_g (Form_26 fq.1 : rf h (Q + 9) 1 (Q + 11)) : gR h (Q + 9) 1 = (Q + 11)), (rf_is (Form_26 fq.1 : rf h (Q + 9) 1 (Q + 11)) : isR h (Q + 9) 1), (rf_g (Form_27 fq.1 : rf h (Q + 9) 2 (Q + 12)) : gR h (Q + 9) 2 = (Q + 12)), (rf_is (Form_27 fq.1 : rf h (Q + 9) 2 (Q + 12)) : isR h (Q + 9) 2), (Form_28 fq.1 : arI h (Q + 10) 0), (rdI_0 (Form_28 fq.1 : arI h (Q + 10) 0) : rdI h (Q + 10)), (Form_29 fq.1 : aln h (Q + 10) = 32), (Form_30 fq.1 : arI h (Q + 11) 0), (rdI_0 (Form_30 fq.1 : arI h (Q + 11) 0) : rdI h (Q + 11)), (Form_31 fq.1 : aln h (Q + 11) = 32), (Form_32 fq.1 : arI h (Q + 12) 0), (rdI_0 (Form_32 fq.1 : arI h (Q + 12) 0) : rdI h (Q + 12)), (Form_33 fq.1 : aln h (Q + 12) = 32), vkk_n, vkk_i, vkk_r, vkk_l, vkk_d, catS_nil, catS_i, catS_r, catS_l, catS_d, Nat.reduceAdd, Nat.reduceLeDiff, Nat.zero_le, Nat.le_refl, Option.bind_some, Option.toList_some, Option.toList_none, List.cons_append, List.nil_append, or_true, true_or, if_true, if_false, Int32.reduceLT, Int32.reduceLE, not_true, not_false_iff, true_and, and_true, false_and, and_false]
    rw [st1]
    have fr := c_fitRefusal (wL h (g + 261) c (tuW F big 0 C a c)) (g + 173) (nI (C c)) (tuW F big 0 C a c) (Mem_0 (Mem_of sW))
    rw [lW] at fr
    have oW : ob (wL h (g + 261) c (tuW F big 0 C a c)) g 10 := Cls_0 sW.1
    have crW := fun f => c_refuses (wL h (g + 261) c (tuW F big 0 C a c)) g f oW
    have nxt := ih (c + 1) (wL h (g + 261) c (tuW F big 0 C a c)) (by omega) sW fW (fun j => (x1.I (fun z => by omega) j).trans (hF j)) ((x1.gI (fun z => z)).trans hB) lW (fun j hj => by
      rw [y1 j]
      by_cases e : j = c
      · rw [if_pos e, e]
      · rw [if_neg e]
        exact hr j (by omega))
    generalize wL h (g + 261) c (tuW F big 0 C a c) = W at x1 y1 y2 sW fW lW kW fr oW crW nxt ⊢
    have cW := crW 0
    rw [if_pos rfl, show rfs W g 0 = W from if_pos rfl] at cW
    obtain ⟨h1, u1, u2, u3⟩ := nxt
    by_cases y : tuE 1 l (tuW F big 0 C a) C c = 0
    · rw [if_pos y]
      refine ⟨h1, x1.tr u1, fun z => ⟨?_, (u2 z).2⟩, fun z => ?_⟩
      · simp +decide only [e123_169, e123_171, e123_208, e123_211, nI_1, nI_add, vkk_n, vkk_i, vkk_r, vkk_l, vkk_d, catS_nil, catS_i, catS_r, catS_l, catS_d, Nat.reduceAdd, Nat.reduceLeDiff, Nat.zero_le, Nat.le_refl, Option.bind_some, Option.toList_some, Option.toList_none, List.cons_append, List.nil_append, or_true, true_or, if_true, if_false, Int32.reduceLT, Int32.reduceLE, not_true, not_false_iff, true_and, and_true, false_and, and_false]
        exact (u2 z).1
      · simp +decide only [e123_169, e123_171, e123_208, e123_211, nI_1, nI_add, vkk_n, vkk_i, vkk_r, vkk_l, vkk_d, catS_nil, catS_i, catS_r, catS_l, catS_d, Nat.reduceAdd, Nat.reduceLeDiff, Nat.zero_le, Nat.le_refl, Option.bind_some, Option.toList_some, Option.toList_none, List.cons_append, List.nil_append, or_true, true_or, if_true, if_false, Int32.reduceLT, Int32.reduceLE, not_true, not_false_iff, true_and, and_true, false_and, and_false]
        exact u3 z
    · rw [if_neg y]
      exact absurd rfl y
set_option maxHeartbeats 4000000 in
theorem c_tuM1 (h : VG) (g f N a c l : Nat) (C : Nat → Nat) (F : Nat → Int32) (big : Int32) (hN : N ≤ 32) (hC : ∀ i, i < N → C i < 10) (hc : c < N) (ha : a + lSiz 0 C N ≤ 256) (mq : MQf h g f N C) (hF : ∀ j, j < 256 → F j &&& 255 = aI h (g + 277) j) (hB : gI h (g + 266) 17 = big) (hl : gI h (g + 266) 18 = nI l) (hr : ∀ j, j < 512 → aI h (g + 293) j = lyO 1 C (tuU F big 0 C a) big c j ∧ aI h (g + 294) j = lyI 1 C c j) (hS : lSiz 1 C N ≤ 512) : ∃ h1, ev 218 0 [some (.ref (g + 266)), some (.int (nI f)), some (.int (nI c)), some (.int (nI a)), some (.int 1), none, none, none, none] [] h = some (some (.int (tuE 1 l (tuW F big 0 C a) C c)), h1) ∧ Fr (fun a => a = g + 284 ∨ a = g + 293 ∨ a = g + 294) (fun a k => a = g + 266 ∧ (k = 36 ∨ k = 37)) h h1 ∧ (tuE 1 l (tuW F big 0 C a) C c = 0 → ∀ j, j < 512 → aI h1 (g + 293) j = lyO 1 C (tuU F big 0 C a) big (c + 1) j ∧ aI h1 (g + 294) j = lyI 1 C (c + 1) j) := by
  have ck := hC c hc
  have le1 := lCell_le 0 C N c hC hc
  have le2 := lCell_le 1 C N c hC hc
  have om : ob h (g + 266) 11 := Mod_0 mq.1.2.1
  have nk := mq_kind mq hc
  obtain ⟨m1, a1, a2, a3, a4⟩ := mq_lays 0 mq
  have om1 := ml_sm a4
  have b1 := c_m_bytes m1 g (C c) 0 a4.1 a4.2.1 ck
  have of1 := ml_off a4 hc
  have na := c_m_numberAt m1 g (a + lOff 0 C c) (nBy (C c) 0) a4.1 (nBy_le (C c) ck 0).2 (by omega)
  have eD : mdv (aI m1 (g + 277)) (gI m1 (g + 266) 17) (a + lOff 0 C c) (nBy (C c) 0) (nBy (C c) 0) = tuD F big 0 C a c := by
    rw [show gI m1 (g + 266) 17 = big from (a2.gI (fun z => by omega)).trans hB]
    exact (rdv_mdv (by omega) (fun j hj => (hF j hj).trans (a2.I (a := g + 277) (fun z => by omega) j).symm) _ (Nat.le_refl _)).symm
  rw [eD] at na
  obtain ⟨m2, d1, d2, d3, d4⟩ := mq_lays 1 a4.mq
  have om2 := ml_sm d4
  have b2 := c_m_bytes m2 g (C c) 1 d4.1 d4.2.1 ck
  have of2 := ml_off d4 hc
  have g2 : gI m2 (g + 266) 17 = big := (d2.gI (fun z => by omega)).trans ((a2.gI (fun z => by omega)).trans hB)
  obtain ⟨m3, p1, p2, p3⟩ := ly_puts m2 g (lOff 1 C c) (nBy (C c) 1) (tuU F big 0 C a c) 1 big C (tuU F big 0 C a) c d4.1 rfl rfl rfl ck (by omega) g2 (fun j hj => by
    rw [d2.I (a := g + 293) (fun z => by omega), a2.I (a := g + 293) (fun z => by omega), d2.I (a := g + 294) (fun z => by omega), a2.I (a := g + 294) (fun z => by omega)]
    exact hr j hj)
  have FF : Fr (fun a => a = g + 284 ∨ a = g + 293 ∨ a = g + 294) (fun a k => a = g + 266 ∧ (k = 36 ∨ k = 37)) h m3 := ((a2.mo (fun _ z => Or.inl z) (fun _ _ z => z)).tr (d2.mo (fun _ z => Or.inl z) (fun _ _ z => z))).tr (p2.mo (fun _ z => Or.inr z) (fun _ _ z => z.elim))
  have F1 : Fr (fun a => a = g + 284 ∨ a = g + 293 ∨ a = g + 294) (fun a k => a = g + 266 ∧ (k = 36 ∨ k = 37)) h m1 := a2.mo (fun _ z => Or.inl z) (fun _ _ z => z)
  have e5 : nI (C c) = 5 ↔ C c = 5 := nI_eq (b := 5) (by omega) (by decide)
  have e9 : nI (C c) = 9 ↔ C c = 9 := nI_eq (b := 9) (by omega) (by decide)
  have l18 : gI m1 (g + 266) 18 = nI l := (a2.gI (fun z => by omega)).trans hl
  by_cases k5 : C c = 5
  · have k5' := e5.mpr k5
    have sg := c_m_signed m1 (tuD F big 0 C a c) (nI (nBy (C c) 0))
    have eU : tuU F big 0 C a c = tuW F big 0 C a c := if_pos k5
    have eW : (tuD F big 0 C a c <<< ((64 - 8 * nI (nBy (C c) 0)).toInt64 &&& 63)) >>> ((64 - 8 * nI (nBy (C c) 0)).toInt64 &&& 63) = tuW F big 0 C a c := by
      unfold tuW kExt
      rw [if_pos (Or.inr (Or.inr (Or.inr k5')))]
    rw [eW] at sg
    rw [eU] at p1
    rw [k5'] at nk b1 b2
    refine ⟨m3, ?_, FF, fun _ => p3⟩
    rw [show tuE 1 l (tuW F big 0 C a) C c = 0 from rfl]
    simp +decide only [e218_0, e218_1, e218_2, e218_3, e218_6, e218_8, e218_9, e218_10, e218_12, e218_15, e218_16, e218_19, e218_20, e218_23, e218_24, e218_26, e218_28, e218_31, e218_32, e218_35, e218_36, e218_39, e218_41, e218_42, e218_43, e218_44, e218_45, e218_46, e218_48, e218_51, e218_52, e218_55, e218_56, e218_59, e218_60, e218_62, e218_65, e218_67, e218_69, e218_70, e218_73, e218_75, e218_77, e218_80, e218_82, e218_84, e218_87, e218_89, e218_90, e218_93, e218_95, e218_98, e218_101, e218_103, e218_105, e218_108, e218_109, e218_111, e218_114, e218_117, e218_119, e218_120, e218_121, e218_122, e218_124, e218_127, e218_128, e218_129, e218_130, e218_131, e218_133, e218_136, e218_137, e218_139, e218_141, e218_144, e218_146, e218_149, e218_150, nk, om, om1, om2, a1, b1, of1, nI_add, na, sg, d1, of2, b2, p1, vkk_n, vkk_i, vkk_r, vkk_l, vkk_d, catS_nil, catS_i, catS_r, catS_l, catS_d, Nat.reduceAdd, Nat.reduceLeDiff, Nat.zero_le, Nat.le_refl, Option.bind_some, Option.toList_some, Option.toList_none, List.cons_append, List.nil_append, or_true, true_or, if_true, if_false, Int32.reduceLT, Int32.reduceLE, not_true, not_false_iff, true_and, and_true, false_and, and_false]
  · have k5' : ¬ nI (C c) = 5 := fun z => k5 (e5.mp z)
    have eU : tuU F big 0 C a c = tuD F big 0 C a c := if_neg k5
    rw [eU] at p1
    refine ⟨m3, ?_, FF, fun _ => p3⟩
    rw [show tuE 1 l (tuW F big 0 C a) C c = 0 from rfl]
    simp +decide only [e218_0, e218_1, e218_2, e218_3, e218_6, e218_8, e218_9, e218_10, e218_12, e218_15, e218_16, e218_19, e218_20, e218_23, e218_24, e218_26, e218_28, e218_31, e218_32, e218_35, e218_36, e218_39, e218_41, e218_42, e218_43, e218_44, e218_45, e218_46, e218_48, e218_51, e218_52, e218_55, e218_56, e218_59, e218_60, e218_62, e218_65, e218_67, e218_69, e218_70, e218_73, e218_75, e218_77, e218_80, e218_82, e218_84, e218_87, e218_89, e218_90, e218_93, e218_95, e218_98, e218_101, e218_103, e218_105, e218_108, e218_109, e218_111, e218_114, e218_117, e218_119, e218_120, e218_121, e218_122, e218_124, e218_127, e218_128, e218_129, e218_130, e218_131, e218_133, e218_136, e218_137, e218_139, e218_141, e218_144, e218_146, e218_149, e218_150, nk, om, om1, om2, a1, b1, of1, nI_add, na, k5', d1, of2, b2, p1, vkk_n, vkk_i, vkk_r, vkk_l, vkk_d, catS_nil, catS_i, catS_r, catS_l, catS_d, Nat.reduceAdd, Nat.reduceLeDiff, Nat.zero_le, Nat.le_refl, Option.bind_some, Option.toList_some, Option.toList_none, List.cons_append, List.nil_append, or_true, true_or, if_true, if_false, Int32.reduceLT, Int32.reduceLE, not_true, not_false_iff, true_and, and_true, false_and, and_false]
set_option maxHeartbeats 4000000 in
theorem l_tuM1 (g f N a l : Nat) (t had many : Int32) (C : Nat → Nat) (F : Nat → Int32) (big : Int32) (hN : N ≤ 32) (hC : ∀ i, i < N → C i < 10) (ha : a + lSiz 0 C N ≤ 256) (hS : lSiz 1 C N ≤ 512) : ∀ d c h, c + d = N → MQf h g f N C → (∀ j, j < 256 → F j &&& 255 = aI h (g + 277) j) → gI h (g + 266) 17 = big → gI h (g + 266) 18 = nI l → (∀ j, j < 512 → aI h (g + 293) j = lyO 1 C (tuU F big 0 C a) big c j ∧ aI h (g + 294) j = lyI 1 C c j) → ∃ (h1 : VG) (c1 : Nat), ev 217 91 [some (.ref (g + 266)), some (.int (nI f)), some (.int (nI a)), some (.int t), some (.int 1), some (.int had), some (.int 0), some (.int many), some (.int (nI c))] [] h = ev 217 124 [some (.ref (g + 266)), some (.int (nI f)), some (.int (nI a)), some (.int t), some (.int 1), some (.int had), some (.int (fst_ (tuE 1 l (tuW F big 0 C a) C) c d)), some (.int many), some (.int (nI c1))] [] h1 ∧ Fr (fun a => a = g + 284 ∨ a = g + 293 ∨ a = g + 294) (fun a k => a = g + 266 ∧ (k = 36 ∨ k = 37)) h h1 ∧ (fst_ (tuE 1 l (tuW F big 0 C a) C) c d = 0 → ∀ j, j < 512 → aI h1 (g + 293) j = lyO 1 C (tuU F big 0 C a) big N j ∧ aI h1 (g + 294) j = lyI 1 C N j) := by
  intro d
  induction d with
  | zero =>
    intro c h hcd mq hF hB hl ho
    obtain rfl : N = c := by omega
    have q : ¬ nI N < nI N := nI_nlt (Nat.le_refl _) (by omega)
    refine ⟨h, N, ?_, Fr.rfl _, fun _ => ho⟩
    have nc := mq_cells mq
    have om : ob h (g + 266) 11 := Mod_0 mq.1.2.1
    have e : fst_ (tuE 1 l (tuW F big 0 C a) C) N 0 = 0 := rfl
    rw [e]
    simp +decide only [e217_91, e217_93, e217_94, e217_95, e217_98, q, nc, om, vkk_n, vkk_i, vkk_r, vkk_l, vkk_d, catS_nil, catS_i, catS_r, catS_l, catS_d, Nat.reduceAdd, Nat.reduceLeDiff, Nat.zero_le, Nat.le_refl, Option.bind_some, Option.toList_some, Option.toList_none, List.cons_append, List.nil_append, or_true, true_or, if_true, if_false, Int32.reduceLT, Int32.reduceLE, not_true, not_false_iff, true_and, and_true, false_and, and_false]
  | succ d ih =>
    intro c h hcd mq hF hB hl ho
    have q : nI c < nI N := nI_lt (by omega) (by omega)
    have e : fst_ (tuE 1 l (tuW F big 0 C a) C) c (d + 1) = if tuE 1 l (tuW F big 0 C a) C c = 0 then fst_ (tuE 1 l (tuW F big 0 C a) C) (c + 1) d else tuE 1 l (tuW F big 0 C a) C c := rfl
    rw [e]
    have om : ob h (g + 266) 11 := Mod_0 mq.1.2.1
    have nc := mq_cells mq
    obtain ⟨ma, t1, t2, t3⟩ := c_tuM1 h g f N a c l C F big hN hC (by omega) ha mq hF hB hl ho hS
    have mqa := MQf_fr t2 (fun a z => by omega) mq
    have oa : ob ma (g + 266) 11 := Mod_0 mqa.1.2.1
    have nca := mq_cells mqa
    have st1 : ev 217 91 [some (.ref (g + 266)), some (.int (nI f)), some (.int (nI a)), some (.int t), some (.int 1), some (.int had), some (.int 0), some (.int many), some (.int (nI c))] [] h = ev 217 91 [some (.ref (g + 266)), some (.int (nI f)), some (.int (nI a)), some (.int t), some (.int 1), some (.int had), some (.int (tuE 1 l (tuW F big 0 C a) C c)), some (.int many), some (.int (nI (c + 1)))] [] ma := by
      generalize hZ : ev 217 91 [some (.ref (g + 266)), some (.int (nI f)), some (.int (nI a)), some (.int t), some (.int 1), some (.int had), some (.int (tuE 1 l (tuW F big 0 C a) C c)), some (.int many), some (.int (nI (c + 1)))] [] ma = Z
      simp +decide only [e217_91, e217_93, e217_94, e217_95, e217_98, e217_101, e217_103, q, nc, om, vkk_n, vkk_i, vkk_r, vkk_l, vkk_d, catS_nil, catS_i, catS_r, catS_l, catS_d, Nat.reduceAdd, Nat.reduceLeDiff, Nat.zero_le, Nat.le_refl, Option.bind_some, Option.toList_some, Option.toList_none, List.cons_append, List.nil_append, or_true, true_or, if_true, if_false, Int32.reduceLT, Int32.reduceLE, not_true, not_false_iff, true_and, and_true, false_and, and_false]
      simp +decide only [e217_106, e217_107, e217_108, e217_110, e217_111, e217_113, e217_116, e217_118, e217_121, om, t1, nI_1, nI_add, vkk_n, vkk_i, vkk_r, vkk_l, vkk_d, catS_nil, catS_i, catS_r, catS_l, catS_d, Nat.reduceAdd, Nat.reduceLeDiff, Nat.zero_le, Nat.le_refl, Option.bind_some, Option.toList_some, Option.toList_none, List.cons_append, List.nil_append, or_true, true_or, if_true, if_false, Int32.reduceLT, Int32.reduceLE, not_true, not_false_iff, true_and, and_true, false_and, and_false]
      exact hZ
    rw [st1]
    by_cases y : tuE 1 l (tuW F big 0 C a) C c = 0
    · rw [if_pos y, y]
      obtain ⟨h1, c1, u1, u2, u3⟩ := ih (c + 1) ma (by omega) mqa (fun j hj => (hF j hj).trans (t2.I (a := g + 277) (fun z => by omega) j).symm) ((t2.gI (fun z => by omega)).trans hB) ((t2.gI (fun z => by omega)).trans hl) (t3 y)
      exact ⟨h1, c1, u1, t2.tr u2, u3⟩
    · rw [if_neg y]
      refine ⟨ma, c + 1, ?_, t2, fun z => absurd z y⟩
      by_cases y2 : nI (c + 1) < nI N
      · simp +decide only [e217_91, e217_93, e217_94, e217_95, e217_98, e217_101, e217_103, oa, nca, y2, y, vkk_n, vkk_i, vkk_r, vkk_l, vkk_d, catS_nil, catS_i, catS_r, catS_l, catS_d, Nat.reduceAdd, Nat.reduceLeDiff, Nat.zero_le, Nat.le_refl, Option.bind_some, Option.toList_some, Option.toList_none, List.cons_append, List.nil_append, or_true, true_or, if_true, if_false, Int32.reduceLT, Int32.reduceLE, not_true, not_false_iff, true_and, and_true, false_and, and_false]
      · simp +decide only [e217_91, e217_93, e217_94, e217_95, e217_98, e217_101, e217_103, oa, nca, y2, y, vkk_n, vkk_i, vkk_r, vkk_l, vkk_d, catS_nil, catS_i, catS_r, catS_l, catS_d, Nat.reduceAdd, Nat.reduceLeDiff, Nat.zero_le, Nat.le_refl, Option.bind_some, Option.toList_some, Option.toList_none, List.cons_append, List.nil_append, or_true, true_or, if_true, if_false, Int32.reduceLT, Int32.reduceLE, not_true, not_false_iff, true_and, and_true, false_and, and_false]
theorem l_tuL (g f T S : Nat) (a gw had no : Int32) (hS : T + S ≤ 256) : ∀ d k h, k + d = S → Sh h g → ∃ h1, ev 217 138 [some (.ref (g + 266)), some (.int (nI f)), some (.int a), some (.int (nI T)), some (.int gw), some (.int had), some (.int no), some (.int (nI S)), some (.int (nI k))] [] h = some (some (.int (nI S)), h1) ∧ Fr (fun a => a = g + 277) NF h h1 ∧ ∀ j, aI h1 (g + 277) j = if T + k ≤ j ∧ j < T + S then aI h (g + 293) (j - T) else aI h (g + 277) j := by
  intro d
  induction d with
  | zero =>
    intro k h hk hs
    obtain rfl : S = k := by omega
    have q : ¬ nI S < nI S := nI_nlt (Nat.le_refl _) (by omega)
    refine ⟨h, ?_, Fr.rfl _, fun j => (if_neg (by omega)).symm⟩
    simp +decide only [e217_138, e217_140, e217_142, e217_167, e217_169, q, vkk_n, vkk_i, vkk_r, vkk_l, vkk_d, catS_nil, catS_i, catS_r, catS_l, catS_d, Nat.reduceAdd, Nat.reduceLeDiff, Nat.zero_le, Nat.le_refl, Option.bind_some, Option.toList_some, Option.toList_none, List.cons_append, List.nil_append, or_true, true_or, if_true, if_false, Int32.reduceLT, Int32.reduceLE, not_true, not_false_iff, true_and, and_true, false_and, and_false]
  | succ d ih =>
    intro k h hk hs
    have q : nI k < nI S := nI_lt (by omega) (by omega)
    have v1 : vp_in (nI (T + k)) 256 := vp_in_nI (by omega) (by decide)
    have v2 : (nI (T + k)).toNatClampNeg = T + k := nI_clamp (by omega)
    have v3 : vp_in (nI k) 512 := vp_in_nI (by omega) (by decide)
    have v4 : (nI k).toNatClampNeg = k := nI_clamp (by omega)
    have x1 : Fr (fun a => a = g + 277) NF h (wI h (g + 277) (T + k) (aI h (g + 293) k)) := Fr_wI _ _ _ _ rfl
    have y1 : ∀ j, aI (wI h (g + 277) (T + k) (aI h (g + 293) k)) (g + 277) j = if j = T + k then aI h (g + 293) k else aI h (g + 277) j := by
      intro j
      rw [aI_wI0 _ _ _ _ _ _ (Mod_32 hs.2.1)]
      simp only [true_and]
    obtain ⟨h1, u1, u2, u3⟩ := ih (k + 1) _ (by omega) (Sh_fr x1 (fun a z => by omega) hs)
    refine ⟨h1, ?_, x1.tr u2, fun j => ?_⟩
    · simp +decide only [e217_138, e217_140, e217_142, e217_167, e217_169, q, if_true]
      simp +decide only [e217_145, e217_146, e217_149, e217_150, e217_152, e217_153, e217_154, e217_157, e217_159, e217_160, e217_161, e217_164, nI_add, v1, v2, v3, v4, nI_1, (Mod_0 hs.2.1 : ob h (g + 266) 11), (rf_g (Mod_31 hs.2.1 : rf h (g + 266) 23 (g + 277)) : gR h (g + 266) 23 = (g + 277)), (rf_is (Mod_31 hs.2.1 : rf h (g + 266) 23 (g + 277)) : isR h (g + 266) 23), (Mod_32 hs.2.1 : arI h (g + 277) 0), (rdI_0 (Mod_32 hs.2.1 : arI h (g + 277) 0) : rdI h (g + 277)), (Mod_33 hs.2.1 : aln h (g + 277) = 256), (rf_g (Mod_79 hs.2.1 : rf h (g + 266) 50 (g + 293)) : gR h (g + 266) 50 = (g + 293)), (rf_is (Mod_79 hs.2.1 : rf h (g + 266) 50 (g + 293)) : isR h (g + 266) 50), (Mod_80 hs.2.1 : arI h (g + 293) 0), (rdI_0 (Mod_80 hs.2.1 : arI h (g + 293) 0) : rdI h (g + 293)), (Mod_81 hs.2.1 : aln h (g + 293) = 512), vkk_n, vkk_i, vkk_r, vkk_l, vkk_d, catS_nil, catS_i, catS_r, catS_l, catS_d, Nat.reduceAdd, Nat.reduceLeDiff, Nat.zero_le, Nat.le_refl, Option.bind_some, Option.toList_some, Option.toList_none, List.cons_append, List.nil_append, or_true, true_or, if_true, if_false, Int32.reduceLT, Int32.reduceLE, not_true, not_false_iff, true_and, and_true, false_and, and_false]
      exact u1
    · rw [u3 j, y1 j, x1.I (a := g + 293) (fun z => by omega)]
      by_cases y : T + (k + 1) ≤ j ∧ j < T + S
      · rw [if_pos y, if_pos (by omega)]
      · rw [if_neg y]
        by_cases y2 : j = T + k
        · rw [if_pos y2, if_pos (by omega), show j - T = k by omega]
        · rw [if_neg y2, if_neg (by omega)]
