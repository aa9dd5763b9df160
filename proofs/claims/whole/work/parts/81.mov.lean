/-! move: both sides, whole -/
def zN (F : Nat → Int32) (big : Int32) (A j : Nat) : Nat := (bZ F big A j).toInt.toNat
def bQ (F : Nat → Int32) (big : Int32) (A j : Nat) : Nat := (bB F big A j).toInt.toNat
theorem bN_all (l : Int32) (F : Nat → Int32) (big : Int32) (A : Nat) : ∀ d i, bN l F big A i d = 0 → ∀ j, i ≤ j → j < i + d → bR l F big A j = 0 := by
  intro d
  induction d with
  | zero =>
    intro i _ j h1 h2
    omega
  | succ d ih =>
    intro i h j h1 h2
    have e : bN l F big A i (d + 1) = if bR l F big A i = 0 then bN l F big A (i + 1) d else bR l F big A i := rfl
    rw [e] at h
    by_cases q : bR l F big A i = 0
    · rw [if_pos q] at h
      by_cases e : j = i
      · rw [e]
        exact q
      · exact ih (i + 1) h j (by omega) (by omega)
    · rw [if_neg q] at h
      exact absurd h q
theorem buf_ok {l : Nat} (hl : l ≤ 256) (F : Nat → Int32) (big : Int32) (A j : Nat) (h : bR (nI l) F big A j = 0) : bZ F big A j = nI (zN F big A j) ∧ zN F big A j ≤ 256 ∧ (zN F big A j = 0 ∨ ((bB F big A j).toInt32 = nI (bQ F big A j) ∧ bQ F big A j + zN F big A j ≤ l)) := by
  unfold zN bQ
  have hB : uN (bB F big A j) < 2 ^ 32 := uN_rdv F big _ 4 4 (by omega)
  unfold bR memRef at h
  generalize bZ F big A j = Z at h ⊢
  generalize bB F big A j = B at h hB ⊢
  by_cases z0 : Z < 0
  · rw [if_pos z0] at h
    exact absurd h (by decide)
  rw [if_neg z0] at h
  have z1 : 0 ≤ Z.toInt := by
    have := Int32.not_lt.mp z0
    rw [Int32.le_iff_toInt_le] at this
    exact this
  by_cases z2 : Z = 0
  · subst z2
    exact ⟨rfl, by decide, Or.inl rfl⟩
  rw [if_neg z2] at h
  have hBI : B.toInt = (uN B : Int) := by rw [uN_toInt, if_pos (by omega)]
  have b0 : ¬ B < 0 := fun q => by
    rw [Int64.lt_iff_toInt_lt, hBI] at q
    have : (0 : Int64).toInt = 0 := rfl
    omega
  rw [if_neg b0] at h
  by_cases q : B + Z.toInt64 ≤ (nI l).toInt64
  case neg =>
    rw [if_neg q] at h
    exact absurd h (by decide)
  have z3 := Z.toInt_lt
  have s1 : (B + Z.toInt64).toInt = B.toInt + Z.toInt := by
    rw [Int64.toInt_add, Int32.toInt_toInt64, Int.bmod_eq_of_le (by omega) (by omega)]
  rw [Int64.le_iff_toInt_le, s1, Int32.toInt_toInt64, nI_toInt (by omega)] at q
  have e1 : Z = nI Z.toInt.toNat := by
    apply Int32.toInt_inj.mp
    rw [nI_toInt (by omega)]
    omega
  refine ⟨e1, by omega, Or.inr ⟨?_, by omega⟩⟩
  apply Int32.toInt_inj.mp
  rw [nI_toInt (by omega), Int64.toInt_toInt32, Int.bmod_eq_of_le (by omega) (by omega)]
  omega
theorem tS_sN (Z : Nat → Int32) (z : Nat → Nat) : ∀ n, (∀ j, j < n → Z j = nI (z j)) → tS Z n = nI (sN z n)
  | 0, _ => rfl
  | n + 1, h => by
    show tS Z n + Z n = nI (sN z n + z n)
    rw [tS_sN Z z n (fun j hj => h j (by omega)), h n (by omega), nI_add]
theorem sN_le (z : Nat → Nat) (c : Nat) : ∀ n, (∀ j, j < n → z j ≤ c) → sN z n ≤ c * n
  | 0, _ => Nat.zero_le _
  | n + 1, h => by
    have := sN_le z c n (fun j hj => h j (by omega))
    have := h n (by omega)
    show sN z n + z n ≤ _
    rw [Nat.mul_succ]
    omega
theorem fl_lt (b z : Nat → Nat) : ∀ n p, (∀ j, j < n → z j = 0 ∨ b j + z j ≤ 256) → p < sN z n → fl b z n p < 256
  | 0, p, _, h => by
    exact absurd h (Nat.not_lt_zero _)
  | n + 1, p, hb, h => by
    have h' : p < sN z n + z n := h
    show (if p < sN z n then fl b z n p else b n + (p - sN z n)) < 256
    by_cases q : p < sN z n
    · rw [if_pos q]
      exact fl_lt b z n p (fun j hj => hb j (by omega)) q
    · rw [if_neg q]
      have := hb n (by omega)
      omega
theorem scM_0 (b z : Nat → Nat) (M G : Nat → Int32) (j : Nat) : ∀ n, sN z n = 0 → scM b z M G n j = G j
  | 0, _ => rfl
  | n + 1, h => by
    have h' : sN z n + z n = 0 := h
    show (if b n ≤ j ∧ j < b n + z n then _ else scM b z M G n j) = _
    rw [if_neg (by omega), scM_0 b z M G j n (by omega)]
/-- a byte on both sides -/
def ByR (x y : Int32) : Prop := ∃ v, v < 256 ∧ y = nI v ∧ x = vp_nar .byte (nI v)
theorem ByR_fits {x y : Int32} (h : ByR x y) : fits .byte (.int x) = true := by
  obtain ⟨v, -, -, h3⟩ := h
  rw [h3, vp_nar_byte]
  exact pk_fb _
theorem scM_rel (b z : Nat → Nat) (M M1 F G : Nat → Int32) (n j : Nat) (hM : ∀ i, i < sN z n → ByR (M i) (M1 i)) (hF : ByR (F j) (G j)) : ∀ k, k ≤ n → ByR (scM b z M F k j) (scM b z M1 G k j)
  | 0, _ => hF
  | k + 1, h => by
    have mo : sN z k + z k ≤ sN z n := sN_mono z (k + 1) n (by omega)
    show ByR (if b k ≤ j ∧ j < b k + z k then _ else scM b z M F k j) (if b k ≤ j ∧ j < b k + z k then _ else scM b z M1 G k j)
    by_cases q : b k ≤ j ∧ j < b k + z k
    · rw [if_pos q, if_pos q]
      exact hM _ (by omega)
    · rw [if_neg q, if_neg q]
      exact scM_rel b z M M1 F G n j hM hF k (by omega)
/-- the class's memory F behind a move; V: the row for bytes that move -/
def NC (ga : Int32) (AT : Nat) (b z : Nat → Nat) (n : Nat) (F V : Nat → Int32) (j : Nat) : Int32 := if sN z n = 0 then F j else if ga = 0 then scM b z (fun i => if i < sN z n then F (AT + i) else V i) F n j else if AT ≤ j ∧ j < AT + sN z n then F (fl b z n (j - AT)) else F j
theorem move_rel (ga : Int32) (AT : Nat) (b z : Nat → Nat) (n : Nat) (F V G W : Nat → Int32) (hbz : ∀ j, j < n → z j = 0 ∨ b j + z j ≤ 256) (hAT : sN z n = 0 ∨ AT + sN z n ≤ 256) (hFG : ∀ i, i < 256 → ByR (F i) (G i)) (j : Nat) (hj : j < 256) : ByR (NC ga AT b z n F V j) (NN ga AT b z (fun j => if j < sN z n then G (sA ga AT b z n j) else W j) G n j) := by
  unfold NC NN
  by_cases s0 : sN z n = 0
  · rw [if_pos s0]
    by_cases g0 : ga = 0
    · rw [if_pos g0, scM_0 _ _ _ _ _ _ s0]
      exact hFG j hj
    · rw [if_neg g0, if_neg (by omega)]
      exact hFG j hj
  · rw [if_neg s0]
    by_cases g0 : ga = 0
    · rw [if_pos g0, if_pos g0]
      refine scM_rel b z _ _ F G n j (fun i hi => ?_) (hFG j hj) n (Nat.le_refl _)
      simp only [if_pos hi]
      unfold sA
      rw [if_pos g0]
      exact hFG _ (by omega)
    · rw [if_neg g0, if_neg g0]
      by_cases q : AT ≤ j ∧ j < AT + sN z n
      · rw [if_pos q, if_pos q]
        simp only [if_pos (show j - AT < sN z n by omega)]
        unfold sA
        rw [if_neg g0]
        exact hFG _ (fl_lt b z n _ hbz (by omega))
      · rw [if_neg q, if_neg q]
        exact hFG j hj
set_option maxHeartbeats 4000000 in
theorem moveC (h : VG) (g n AT : Nat) (a at_ ga : Int32) (b z : Nat → Nat) (hs : Sh h g) (hn : n ≤ 8) (hz : sN z n ≤ 256) (hbz : ∀ j, j < n → z j = 0 ∨ b j + z j ≤ 256) (hAT : sN z n = 0 ∨ (at_ = nI AT ∧ AT + sN z n ≤ 256)) (e2 : gI h (g + 262) 2 = nI n) (e3 : gI h (g + 262) 3 = nI (sN z n)) (hr : ∀ j, j < n → aI h (g + 264) j = nI (z j) ∧ (z j = 0 ∨ aI h (g + 263) j = nI (b j))) (hf : ∀ i, i < 256 → fits .byte (.int (aI h (g + 174) i)) = true) : ∃ h1, ev 126 54 [some (.ref g), some (.int a), some (.int (nI n)), some (.int at_), some (.int ga)] [] h = some (some (.int (nI (sN z n))), h1) ∧ Fr (fun a => a = g + 265 ∨ a = g + 174) NF h h1 ∧ ∀ j, aI h1 (g + 174) j = NC ga AT b z n (aI h (g + 174)) (aI h (g + 265)) j := by
  by_cases s0 : sN z n = 0
  · refine ⟨h, ?_, Fr.rfl _, fun j => (if_pos s0).symm⟩
    rw [s0] at e3 ⊢
    have q0 : nI 0 ≤ 0 := by decide
    simp +decide only [e126_54, e126_55, e126_58, e126_61, e126_166, e126_167, e126_170, e126_173, (rf_g (Cls_7 hs.1 : rf h g 12 (g + 262)) : gR h g 12 = (g + 262)), (rf_is (Cls_7 hs.1 : rf h g 12 (g + 262)) : isR h g 12), (Cls_28 hs.1 : ob h (g + 262) 2), (eq_true (isI_ob (Cls_28 hs.1 : ob h (g + 262) 2) rfl : isI h (g + 262) 2)), (eq_true (isI_ob (Cls_28 hs.1 : ob h (g + 262) 2) rfl : isI h (g + 262) 3)), (eq_true (isI_ob (Cls_28 hs.1 : ob h (g + 262) 2) rfl : isI h (g + 262) 4)), (eq_true (isI_ob (Cls_28 hs.1 : ob h (g + 262) 2) rfl : isI h (g + 262) 5)), (rf_g (Cls_29 hs.1 : rf h (g + 262) 0 (g + 263)) : gR h (g + 262) 0 = (g + 263)), (rf_is (Cls_29 hs.1 : rf h (g + 262) 0 (g + 263)) : isR h (g + 262) 0), (rf_g (Cls_30 hs.1 : rf h (g + 262) 1 (g + 264)) : gR h (g + 262) 1 = (g + 264)), (rf_is (Cls_30 hs.1 : rf h (g + 262) 1 (g + 264)) : isR h (g + 262) 1), (Cls_31 hs.1 : arI h (g + 263) 0), (rdI_0 (Cls_31 hs.1 : arI h (g + 263) 0) : rdI h (g + 263)), (Cls_32 hs.1 : aln h (g + 263) = 8), (Cls_33 hs.1 : arI h (g + 264) 0), (rdI_0 (Cls_33 hs.1 : arI h (g + 264) 0) : rdI h (g + 264)), (Cls_34 hs.1 : aln h (g + 264) = 8), (Cls_0 hs.1 : ob h g 10), e3, q0, vkk_n, vkk_i, vkk_r, vkk_l, vkk_d, catS_nil, catS_i, catS_r, catS_l, catS_d, Nat.reduceAdd, Nat.reduceLeDiff, Nat.zero_le, Nat.le_refl, Option.bind_some, Option.toList_some, Option.toList_none, List.cons_append, List.nil_append, or_true, true_or, if_true, if_false, Int32.reduceLT, Int32.reduceLE, not_true, not_false_iff, true_and, and_true, false_and, and_false]
  have q0 : ¬ nI (sN z n) ≤ 0 := Int32.not_le.mpr (nI_lt (a := 0) (by omega) (by omega))
  obtain ⟨ea, le⟩ := hAT.resolve_left s0
  subst ea
  have m174 : arI h (g + 174) 2 := Mem_2 (State_4 (Cls_17 hs.1))
  have n174 : aln h (g + 174) = 256 := Mem_3 (State_4 (Cls_17 hs.1))
  have m265 : arI h (g + 265) 2 := Cls_35 hs.1
  have n265 : aln h (g + 265) = 256 := Cls_36 hs.1
  by_cases g0 : ga = 0
  · have cp : vcopy h (g + 174) (g + 265) (nI AT) 0 (nI (sN z n)) = some (bI h (g + 265) (va_cpy (aI h (g + 174)) (aI h (g + 265)) AT 0 (sN z n))) := vcopyI (a := AT) (b := 0) (n := sN z n) m174 m265 (Or.inr rfl) (by rw [n174]; omega) (by rw [n265]; omega) (by omega) (by omega) (by omega) (fun _ i hi => hf _ (by omega))
    have x1 : Fr (fun a => a = g + 265 ∨ a = g + 174) NF h (bI h (g + 265) (va_cpy (aI h (g + 174)) (aI h (g + 265)) AT 0 (sN z n))) := Fr_bI _ _ _ (Or.inl rfl)
    have x1' : Fr (fun a => a = g + 265) NF h (bI h (g + 265) (va_cpy (aI h (g + 174)) (aI h (g + 265)) AT 0 (sN z n))) := Fr_bI _ _ _ rfl
    have c1 : ∀ j, aI (bI h (g + 265) (va_cpy (aI h (g + 174)) (aI h (g + 265)) AT 0 (sN z n))) (g + 265) j = if j < sN z n then aI h (g + 174) (AT + j) else aI h (g + 265) j := by
      intro j
      rw [aI_bI2 _ _ _ _ m265]
      unfold va_cpy
      by_cases y : j < sN z n
      · rw [if_pos y, if_pos (by omega), Nat.sub_zero]
      · rw [if_neg y, if_neg (by omega)]
    have sW := Sh_fr x1 (fun a y => by omega) hs
    generalize bI h (g + 265) (va_cpy (aI h (g + 174)) (aI h (g + 265)) AT 0 (sN z n)) = W at cp x1 x1' c1 sW
    obtain ⟨h1, u1, u2, u3⟩ := l_sct g n b z (fun i => if i < sN z n then aI h (g + 174) (AT + i) else aI h (g + 265) i) (aI h (g + 174)) hn hz hbz (fun i hi => by rw [if_pos hi]; exact hf _ (by omega)) n 0 W (by omega) sW ((x1'.gI (fun y => y)).trans e2) (fun j hj => ⟨(x1'.I (a := g + 264) (fun y => by omega) j).trans (hr j hj).1, (hr j hj).2.imp id (fun y => (x1'.I (a := g + 263) (fun y => by omega) j).trans y)⟩) c1 (fun i => x1'.I (a := g + 174) (fun y => by omega) i)
    have u1 : ev 25 5 [some (.ref (g + 262)), some (.ref (g + 265)), some (.ref (g + 174)), some (.int 0), some (.int 0)] [] W = _ := u1
    have s1 : Sh h1 g := Sh_fr u2 (fun a y => by omega) sW
    have e3' : gI h1 (g + 262) 3 = nI (sN z n) := (u2.gI (fun y => y)).trans ((x1'.gI (fun y => y)).trans e3)
    refine ⟨h1, ?_, x1.tr (u2.mo (fun a y => Or.inr y) (fun _ _ y => y)), fun j => ?_⟩
    · simp +decide only [e126_54, e126_55, e126_58, e126_61, e126_64, e126_66, e126_69, e126_70, e126_73, e126_74, e126_77, e126_80, e126_83, e126_84, e126_87, e126_90, e126_91, e126_94, e126_95, e126_96, e126_99, e126_102, e126_105, e126_106, e126_107, e126_110, e126_113, e126_116, e126_119, e126_120, e126_123, e126_126, e126_129, e126_130, e126_131, e126_134, e126_135, e126_136, e126_139, (rf_g (Cls_7 hs.1 : rf h g 12 (g + 262)) : gR h g 12 = (g + 262)), (rf_is (Cls_7 hs.1 : rf h g 12 (g + 262)) : isR h g 12), (Cls_28 hs.1 : ob h (g + 262) 2), (eq_true (isI_ob (Cls_28 hs.1 : ob h (g + 262) 2) rfl : isI h (g + 262) 2)), (eq_true (isI_ob (Cls_28 hs.1 : ob h (g + 262) 2) rfl : isI h (g + 262) 3)), (eq_true (isI_ob (Cls_28 hs.1 : ob h (g + 262) 2) rfl : isI h (g + 262) 4)), (eq_true (isI_ob (Cls_28 hs.1 : ob h (g + 262) 2) rfl : isI h (g + 262) 5)), (rf_g (Cls_29 hs.1 : rf h (g + 262) 0 (g + 263)) : gR h (g + 262) 0 = (g + 263)), (rf_is (Cls_29 hs.1 : rf h (g + 262) 0 (g + 263)) : isR h (g + 262) 0), (rf_g (Cls_30 hs.1 : rf h (g + 262) 1 (g + 264)) : gR h (g + 262) 1 = (g + 264)), (rf_is (Cls_30 hs.1 : rf h (g + 262) 1 (g + 264)) : isR h (g + 262) 1), (Cls_31 hs.1 : arI h (g + 263) 0), (rdI_0 (Cls_31 hs.1 : arI h (g + 263) 0) : rdI h (g + 263)), (Cls_32 hs.1 : aln h (g + 263) = 8), (Cls_33 hs.1 : arI h (g + 264) 0), (rdI_0 (Cls_33 hs.1 : arI h (g + 264) 0) : rdI h (g + 264)), (Cls_34 hs.1 : aln h (g + 264) = 8), (Cls_0 hs.1 : ob h g 10), (rf_g (Cls_3 hs.1 : rf h g 6 (g + 172)) : gR h g 6 = (g + 172)), (rf_is (Cls_3 hs.1 : rf h g 6 (g + 172)) : isR h g 6), (rf_g (Cls_8 hs.1 : rf h g 13 (g + 265)) : gR h g 13 = (g + 265)), (rf_is (Cls_8 hs.1 : rf h g 13 (g + 265)) : isR h g 13), (Cls_35 hs.1 : arI h (g + 265) 2), (rdB_2 (Cls_35 hs.1 : arI h (g + 265) 2) : rdB h (g + 265)), (Cls_36 hs.1 : aln h (g + 265) = 256), (State_0 (Cls_17 hs.1) : ob h (g + 172) 8), (eq_true (isI_ob (State_0 (Cls_17 hs.1) : ob h (g + 172) 8) rfl : isI h (g + 172) 3)), (rf_g (State_1 (Cls_17 hs.1) : rf h (g + 172) 0 (g + 173)) : gR h (g + 172) 0 = (g + 173)), (rf_is (State_1 (Cls_17 hs.1) : rf h (g + 172) 0 (g + 173)) : isR h (g + 172) 0), (rf_g (State_2 (Cls_17 hs.1) : rf h (g + 172) 1 (g + 175)) : gR h (g + 172) 1 = (g + 175)), (rf_is (State_2 (Cls_17 hs.1) : rf h (g + 172) 1 (g + 175)) : isR h (g + 172) 1), (rf_g (State_3 (Cls_17 hs.1) : rf h (g + 172) 2 (g + 176)) : gR h (g + 172) 2 = (g + 176)), (rf_is (State_3 (Cls_17 hs.1) : rf h (g + 172) 2 (g + 176)) : isR h (g + 172) 2), (State_5 (Cls_17 hs.1) : arR h (g + 175) 5), (rdR_5 (State_5 (Cls_17 hs.1) : arR h (g + 175) 5) : rdR h (g + 175)), (State_6 (Cls_17 hs.1) : aln h (g + 175) = 8), (State_8 (Cls_17 hs.1) : arL h (g + 176)), (State_9 (Cls_17 hs.1) : aln h (g + 176) = 8), (Mem_0 (State_4 (Cls_17 hs.1)) : ob h (g + 173) 5), (eq_true (isI_ob (Mem_0 (State_4 (Cls_17 hs.1)) : ob h (g + 173) 5) rfl : isI h (g + 173) 1)), (eq_true (isI_ob (Mem_0 (State_4 (Cls_17 hs.1)) : ob h (g + 173) 5) rfl : isI h (g + 173) 2)), (rf_g (Mem_1 (State_4 (Cls_17 hs.1)) : rf h (g + 173) 0 (g + 174)) : gR h (g + 173) 0 = (g + 174)), (rf_is (Mem_1 (State_4 (Cls_17 hs.1)) : rf h (g + 173) 0 (g + 174)) : isR h (g + 173) 0), (Mem_2 (State_4 (Cls_17 hs.1)) : arI h (g + 174) 2), (rdB_2 (Mem_2 (State_4 (Cls_17 hs.1)) : arI h (g + 174) 2) : rdB h (g + 174)), (Mem_3 (State_4 (Cls_17 hs.1)) : aln h (g + 174) = 256), e3, q0, g0, if_true, if_false, vkk_n, vkk_i, vkk_r, vkk_l, vkk_d, catS_nil, catS_i, catS_r, catS_l, catS_d, Nat.reduceAdd, Nat.reduceLeDiff, Nat.zero_le, Nat.le_refl, Option.bind_some, Option.toList_some, Option.toList_none, List.cons_append, List.nil_append, or_true, true_or, if_true, if_false, Int32.reduceLT, Int32.reduceLE, not_true, not_false_iff, true_and, and_true, false_and, and_false]
      rw [e126_142 _ _ _ _ _ _ _ _ _ (by decide) cp]
      simp +decide only [e126_145, e126_146, e126_149, e126_150, e126_153, e126_154, e126_157, e126_160, e126_163, e25_0, e25_1, e25_2, e25_3, (rf_g (Cls_7 sW.1 : rf W g 12 (g + 262)) : gR W g 12 = (g + 262)), (rf_is (Cls_7 sW.1 : rf W g 12 (g + 262)) : isR W g 12), (Cls_28 sW.1 : ob W (g + 262) 2), (eq_true (isI_ob (Cls_28 sW.1 : ob W (g + 262) 2) rfl : isI W (g + 262) 2)), (eq_true (isI_ob (Cls_28 sW.1 : ob W (g + 262) 2) rfl : isI W (g + 262) 3)), (eq_true (isI_ob (Cls_28 sW.1 : ob W (g + 262) 2) rfl : isI W (g + 262) 4)), (eq_true (isI_ob (Cls_28 sW.1 : ob W (g + 262) 2) rfl : isI W (g + 262) 5)), (rf_g (Cls_29 sW.1 : rf W (g + 262) 0 (g + 263)) : gR W (g + 262) 0 = (g + 263)), (rf_is (Cls_29 sW.1 : rf W (g + 262) 0 (g + 263)) : isR W (g + 262) 0), (rf_g (Cls_30 sW.1 : rf W (g + 262) 1 (g + 264)) : gR W (g + 262) 1 = (g + 264)), (rf_is (Cls_30 sW.1 : rf W (g + 262) 1 (g + 264)) : isR W (g + 262) 1), (Cls_31 sW.1 : arI W (g + 263) 0), (rdI_0 (Cls_31 sW.1 : arI W (g + 263) 0) : rdI W (g + 263)), (Cls_32 sW.1 : aln W (g + 263) = 8), (Cls_33 sW.1 : arI W (g + 264) 0), (rdI_0 (Cls_33 sW.1 : arI W (g + 264) 0) : rdI W (g + 264)), (Cls_34 sW.1 : aln W (g + 264) = 8), (Cls_0 sW.1 : ob W g 10), (rf_g (Cls_3 sW.1 : rf W g 6 (g + 172)) : gR W g 6 = (g + 172)), (rf_is (Cls_3 sW.1 : rf W g 6 (g + 172)) : isR W g 6), (rf_g (Cls_8 sW.1 : rf W g 13 (g + 265)) : gR W g 13 = (g + 265)), (rf_is (Cls_8 sW.1 : rf W g 13 (g + 265)) : isR W g 13), (Cls_35 sW.1 : arI W (g + 265) 2), (rdB_2 (Cls_35 sW.1 : arI W (g + 265) 2) : rdB W (g + 265)), (Cls_36 sW.1 : aln W (g + 265) = 256), (State_0 (Cls_17 sW.1) : ob W (g + 172) 8), (eq_true (isI_ob (State_0 (Cls_17 sW.1) : ob W (g + 172) 8) rfl : isI W (g + 172) 3)), (rf_g (State_1 (Cls_17 sW.1) : rf W (g + 172) 0 (g + 173)) : gR W (g + 172) 0 = (g + 173)), (rf_is (State_1 (Cls_17 sW.1) : rf W (g + 172) 0 (g + 173)) : isR W (g + 172) 0), (rf_g (State_2 (Cls_17 sW.1) : rf W (g + 172) 1 (g + 175)) : gR W (g + 172) 1 = (g + 175)), (rf_is (State_2 (Cls_17 sW.1) : rf W (g + 172) 1 (g + 175)) : isR W (g + 172) 1), (rf_g (State_3 (Cls_17 sW.1) : rf W (g + 172) 2 (g + 176)) : gR W (g + 172) 2 = (g + 176)), (rf_is (State_3 (Cls_17 sW.1) : rf W (g + 172) 2 (g + 176)) : isR W (g + 172) 2), (State_5 (Cls_17 sW.1) : arR W (g + 175) 5), (rdR_5 (State_5 (Cls_17 sW.1) : arR W (g + 175) 5) : rdR W (g + 175)), (State_6 (Cls_17 sW.1) : aln W (g + 175) = 8), (State_8 (Cls_17 sW.1) : arL W (g + 176)), (State_9 (Cls_17 sW.1) : aln W (g + 176) = 8), (Mem_0 (State_4 (Cls_17 sW.1)) : ob W (g + 173) 5), (eq_true (isI_ob (Mem_0 (State_4 (Cls_17 sW.1)) : ob W (g + 173) 5) rfl : isI W (g + 173) 1)), (eq_true (isI_ob (Mem_0 (State_4 (Cls_17 sW.1)) : ob W (g + 173) 5) rfl : isI W (g + 173) 2)), (rf_g (Mem_1 (State_4 (Cls_17 sW.1)) : rf W (g + 173) 0 (g + 174)) : gR W (g + 173) 0 = (g + 174)), (rf_is (Mem_1 (State_4 (Cls_17 sW.1)) : rf W (g + 173) 0 (g + 174)) : isR W (g + 173) 0), (Mem_2 (State_4 (Cls_17 sW.1)) : arI W (g + 174) 2), (rdB_2 (Mem_2 (State_4 (Cls_17 sW.1)) : arI W (g + 174) 2) : rdB W (g + 174)), (Mem_3 (State_4 (Cls_17 sW.1)) : aln W (g + 174) = 256), u1, if_true, if_false, vkk_n, vkk_i, vkk_r, vkk_l, vkk_d, catS_nil, catS_i, catS_r, catS_l, catS_d, Nat.reduceAdd, Nat.reduceLeDiff, Nat.zero_le, Nat.le_refl, Option.bind_some, Option.toList_some, Option.toList_none, List.cons_append, List.nil_append, or_true, true_or, if_true, if_false, Int32.reduceLT, Int32.reduceLE, not_true, not_false_iff, true_and, and_true, false_and, and_false]
      simp +decide only [e126_166, e126_167, e126_170, e126_173, (rf_g (Cls_7 s1.1 : rf h1 g 12 (g + 262)) : gR h1 g 12 = (g + 262)), (rf_is (Cls_7 s1.1 : rf h1 g 12 (g + 262)) : isR h1 g 12), (Cls_28 s1.1 : ob h1 (g + 262) 2), (eq_true (isI_ob (Cls_28 s1.1 : ob h1 (g + 262) 2) rfl : isI h1 (g + 262) 2)), (eq_true (isI_ob (Cls_28 s1.1 : ob h1 (g + 262) 2) rfl : isI h1 (g + 262) 3)), (eq_true (isI_ob (Cls_28 s1.1 : ob h1 (g + 262) 2) rfl : isI h1 (g + 262) 4)), (eq_true (isI_ob (Cls_28 s1.1 : ob h1 (g + 262) 2) rfl : isI h1 (g + 262) 5)), (rf_g (Cls_29 s1.1 : rf h1 (g + 262) 0 (g + 263)) : gR h1 (g + 262) 0 = (g + 263)), (rf_is (Cls_29 s1.1 : rf h1 (g + 262) 0 (g + 263)) : isR h1 (g + 262) 0), (rf_g (Cls_30 s1.1 : rf h1 (g + 262) 1 (g + 264)) : gR h1 (g + 262) 1 = (g + 264)), (rf_is (Cls_30 s1.1 : rf h1 (g + 262) 1 (g + 264)) : isR h1 (g + 262) 1), (Cls_31 s1.1 : arI h1 (g + 263) 0), (rdI_0 (Cls_31 s1.1 : arI h1 (g + 263) 0) : rdI h1 (g + 263)), (Cls_32 s1.1 : aln h1 (g + 263) = 8), (Cls_33 s1.1 : arI h1 (g + 264) 0), (rdI_0 (Cls_33 s1.1 : arI h1 (g + 264) 0) : rdI h1 (g + 264)), (Cls_34 s1.1 : aln h1 (g + 264) = 8), (Cls_0 s1.1 : ob h1 g 10), e3', if_true, if_false, vkk_n, vkk_i, vkk_r, vkk_l, vkk_d, catS_nil, catS_i, catS_r, catS_l, catS_d, Nat.reduceAdd, Nat.reduceLeDiff, Nat.zero_le, Nat.le_refl, Option.bind_some, Option.toList_some, Option.toList_none, List.cons_append, List.nil_append, or_true, true_or, if_true, if_false, Int32.reduceLT, Int32.reduceLE, not_true, not_false_iff, true_and, and_true, false_and, and_false]
    · rw [u3 j]
      unfold NC
      rw [if_neg s0, if_pos g0]
  · obtain ⟨h1, u1, u2, u3⟩ := l_gat g n b z hn hz hbz n 0 h (by omega) hs e2 hr hf
    have u1 : ev 24 5 [some (.ref (g + 262)), some (.ref (g + 174)), some (.ref (g + 265)), some (.int 0), some (.int 0)] [] h = _ := u1
    have s1 : Sh h1 g := Sh_fr u2 (fun a y => by omega) hs
    have e3' : gI h1 (g + 262) 3 = nI (sN z n) := (u2.gI (fun y => y)).trans e3
    have k174 : arI h1 (g + 174) 2 := Mem_2 (State_4 (Cls_17 s1.1))
    have cp : vcopy h1 (g + 265) (g + 174) 0 (nI AT) (nI (sN z n)) = some (bI h1 (g + 174) (va_cpy (aI h1 (g + 265)) (aI h1 (g + 174)) 0 AT (sN z n))) := vcopyI (a := 0) (b := AT) (n := sN z n) (Cls_35 s1.1) k174 (Or.inr rfl) (by rw [Cls_36 s1.1]; omega) (by rw [show aln h1 (g + 174) = 256 from Mem_3 (State_4 (Cls_17 s1.1))]; omega) (by omega) (by omega) (by omega) (fun _ i hi => by
      rw [u3, if_pos ⟨Nat.zero_le _, by omega⟩]
      exact hf _ (fl_lt b z n _ hbz (by omega)))
    have x1 : Fr (fun a => a = g + 265 ∨ a = g + 174) NF h1 (bI h1 (g + 174) (va_cpy (aI h1 (g + 265)) (aI h1 (g + 174)) 0 AT (sN z n))) := Fr_bI _ _ _ (Or.inr rfl)
    have c1 : ∀ j, aI (bI h1 (g + 174) (va_cpy (aI h1 (g + 265)) (aI h1 (g + 174)) 0 AT (sN z n))) (g + 174) j = if AT ≤ j ∧ j < AT + sN z n then aI h1 (g + 265) (0 + (j - AT)) else aI h1 (g + 174) j := by
      intro j
      rw [aI_bI2 _ _ _ _ k174]
      rfl
    have sW := Sh_fr x1 (fun a y => by omega) s1
    have e3W := (x1.gI (a := g + 262) (k := 3) (fun y => y)).trans e3'
    generalize bI h1 (g + 174) (va_cpy (aI h1 (g + 265)) (aI h1 (g + 174)) 0 AT (sN z n)) = W at cp x1 c1 sW e3W
    refine ⟨W, ?_, (u2.mo (fun a y => Or.inl y) (fun _ _ y => y)).tr x1, fun j => ?_⟩
    · simp +decide only [e126_54, e126_55, e126_58, e126_61, e126_64, e126_66, e126_69, e126_70, e126_73, e126_74, e126_77, e126_80, e126_83, e126_84, e126_87, e24_0, e24_1, e24_2, e24_3, (rf_g (Cls_7 hs.1 : rf h g 12 (g + 262)) : gR h g 12 = (g + 262)), (rf_is (Cls_7 hs.1 : rf h g 12 (g + 262)) : isR h g 12), (Cls_28 hs.1 : ob h (g + 262) 2), (eq_true (isI_ob (Cls_28 hs.1 : ob h (g + 262) 2) rfl : isI h (g + 262) 2)), (eq_true (isI_ob (Cls_28 hs.1 : ob h (g + 262) 2) rfl : isI h (g + 262) 3)), (eq_true (isI_ob (Cls_28 hs.1 : ob h (g + 262) 2) rfl : isI h (g + 262) 4)), (eq_true (isI_ob (Cls_28 hs.1 : ob h (g + 262) 2) rfl : isI h (g + 262) 5)), (rf_g (Cls_29 hs.1 : rf h (g + 262) 0 (g + 263)) : gR h (g + 262) 0 = (g + 263)), (rf_is (Cls_29 hs.1 : rf h (g + 262) 0 (g + 263)) : isR h (g + 262) 0), (rf_g (Cls_30 hs.1 : rf h (g + 262) 1 (g + 264)) : gR h (g + 262) 1 = (g + 264)), (rf_is (Cls_30 hs.1 : rf h (g + 262) 1 (g + 264)) : isR h (g + 262) 1), (Cls_31 hs.1 : arI h (g + 263) 0), (rdI_0 (Cls_31 hs.1 : arI h (g + 263) 0) : rdI h (g + 263)), (Cls_32 hs.1 : aln h (g + 263) = 8), (Cls_33 hs.1 : arI h (g + 264) 0), (rdI_0 (Cls_33 hs.1 : arI h (g + 264) 0) : rdI h (g + 264)), (Cls_34 hs.1 : aln h (g + 264) = 8), (Cls_0 hs.1 : ob h g 10), (rf_g (Cls_3 hs.1 : rf h g 6 (g + 172)) : gR h g 6 = (g + 172)), (rf_is (Cls_3 hs.1 : rf h g 6 (g + 172)) : isR h g 6), (rf_g (Cls_8 hs.1 : rf h g 13 (g + 265)) : gR h g 13 = (g + 265)), (rf_is (Cls_8 hs.1 : rf h g 13 (g + 265)) : isR h g 13), (Cls_35 hs.1 : arI h (g + 265) 2), (rdB_2 (Cls_35 hs.1 : arI h (g + 265) 2) : rdB h (g + 265)), (Cls_36 hs.1 : aln h (g + 265) = 256), (State_0 (Cls_17 hs.1) : ob h (g + 172) 8), (eq_true (isI_ob (State_0 (Cls_17 hs.1) : ob h (g + 172) 8) rfl : isI h (g + 172) 3)), (rf_g (State_1 (Cls_17 hs.1) : rf h (g + 172) 0 (g + 173)) : gR h (g + 172) 0 = (g + 173)), (rf_is (State_1 (Cls_17 hs.1) : rf h (g + 172) 0 (g + 173)) : isR h (g + 172) 0), (rf_g (State_2 (Cls_17 hs.1) : rf h (g + 172) 1 (g + 175)) : gR h (g + 172) 1 = (g + 175)), (rf_is (State_2 (Cls_17 hs.1) : rf h (g + 172) 1 (g + 175)) : isR h (g + 172) 1), (rf_g (State_3 (Cls_17 hs.1) : rf h (g + 172) 2 (g + 176)) : gR h (g + 172) 2 = (g + 176)), (rf_is (State_3 (Cls_17 hs.1) : rf h (g + 172) 2 (g + 176)) : isR h (g + 172) 2), (State_5 (Cls_17 hs.1) : arR h (g + 175) 5), (rdR_5 (State_5 (Cls_17 hs.1) : arR h (g + 175) 5) : rdR h (g + 175)), (State_6 (Cls_17 hs.1) : aln h (g + 175) = 8), (State_8 (Cls_17 hs.1) : arL h (g + 176)), (State_9 (Cls_17 hs.1) : aln h (g + 176) = 8), (Mem_0 (State_4 (Cls_17 hs.1)) : ob h (g + 173) 5), (eq_true (isI_ob (Mem_0 (State_4 (Cls_17 hs.1)) : ob h (g + 173) 5) rfl : isI h (g + 173) 1)), (eq_true (isI_ob (Mem_0 (State_4 (Cls_17 hs.1)) : ob h (g + 173) 5) rfl : isI h (g + 173) 2)), (rf_g (Mem_1 (State_4 (Cls_17 hs.1)) : rf h (g + 173) 0 (g + 174)) : gR h (g + 173) 0 = (g + 174)), (rf_is (Mem_1 (State_4 (Cls_17 hs.1)) : rf h (g + 173) 0 (g + 174)) : isR h (g + 173) 0), (Mem_2 (State_4 (Cls_17 hs.1)) : arI h (g + 174) 2), (rdB_2 (Mem_2 (State_4 (Cls_17 hs.1)) : arI h (g + 174) 2) : rdB h (g + 174)), (Mem_3 (State_4 (Cls_17 hs.1)) : aln h (g + 174) = 256), e3, q0, g0, u1, if_true, if_false, vkk_n, vkk_i, vkk_r, vkk_l, vkk_d, catS_nil, catS_i, catS_r, catS_l, catS_d, Nat.reduceAdd, Nat.reduceLeDiff, Nat.zero_le, Nat.le_refl, Option.bind_some, Option.toList_some, Option.toList_none, List.cons_append, List.nil_append, or_true, true_or, if_true, if_false, Int32.reduceLT, Int32.reduceLE, not_true, not_false_iff, true_and, and_true, false_and, and_false]
      simp +decide only [e126_90, e126_91, e126_94, e126_95, e126_96, e126_99, e126_102, e126_105, e126_106, e126_107, e126_110, (rf_g (Cls_7 s1.1 : rf h1 g 12 (g + 262)) : gR h1 g 12 = (g + 262)), (rf_is (Cls_7 s1.1 : rf h1 g 12 (g + 262)) : isR h1 g 12), (Cls_28 s1.1 : ob h1 (g + 262) 2), (eq_true (isI_ob (Cls_28 s1.1 : ob h1 (g + 262) 2) rfl : isI h1 (g + 262) 2)), (eq_true (isI_ob (Cls_28 s1.1 : ob h1 (g + 262) 2) rfl : isI h1 (g + 262) 3)), (eq_true (isI_ob (Cls_28 s1.1 : ob h1 (g + 262) 2) rfl : isI h1 (g + 262) 4)), (eq_true (isI_ob (Cls_28 s1.1 : ob h1 (g + 262) 2) rfl : isI h1 (g + 262) 5)), (rf_g (Cls_29 s1.1 : rf h1 (g + 262) 0 (g + 263)) : gR h1 (g + 262) 0 = (g + 263)), (rf_is (Cls_29 s1.1 : rf h1 (g + 262) 0 (g + 263)) : isR h1 (g + 262) 0), (rf_g (Cls_30 s1.1 : rf h1 (g + 262) 1 (g + 264)) : gR h1 (g + 262) 1 = (g + 264)), (rf_is (Cls_30 s1.1 : rf h1 (g + 262) 1 (g + 264)) : isR h1 (g + 262) 1), (Cls_31 s1.1 : arI h1 (g + 263) 0), (rdI_0 (Cls_31 s1.1 : arI h1 (g + 263) 0) : rdI h1 (g + 263)), (Cls_32 s1.1 : aln h1 (g + 263) = 8), (Cls_33 s1.1 : arI h1 (g + 264) 0), (rdI_0 (Cls_33 s1.1 : arI h1 (g + 264) 0) : rdI h1 (g + 264)), (Cls_34 s1.1 : aln h1 (g + 264) = 8), (Cls_0 s1.1 : ob h1 g 10), (rf_g (Cls_3 s1.1 : rf h1 g 6 (g + 172)) : gR h1 g 6 = (g + 172)), (rf_is (Cls_3 s1.1 : rf h1 g 6 (g + 172)) : isR h1 g 6), (rf_g (Cls_8 s1.1 : rf h1 g 13 (g + 265)) : gR h1 g 13 = (g + 265)), (rf_is (Cls_8 s1.1 : rf h1 g 13 (g + 265)) : isR h1 g 13), (Cls_35 s1.1 : arI h1 (g + 265) 2), (rdB_2 (Cls_35 s1.1 : arI h1 (g + 265) 2) : rdB h1 (g + 265)), (Cls_36 s1.1 : aln h1 (g + 265) = 256), (State_0 (Cls_17 s1.1) : ob h1 (g + 172) 8), (eq_true (isI_ob (State_0 (Cls_17 s1.1) : ob h1 (g + 172) 8) rfl : isI h1 (g + 172) 3)), (rf_g (State_1 (Cls_17 s1.1) : rf h1 (g + 172) 0 (g + 173)) : gR h1 (g + 172) 0 = (g + 173)), (rf_is (State_1 (Cls_17 s1.1) : rf h1 (g + 172) 0 (g + 173)) : isR h1 (g + 172) 0), (rf_g (State_2 (Cls_17 s1.1) : rf h1 (g + 172) 1 (g + 175)) : gR h1 (g + 172) 1 = (g + 175)), (rf_is (State_2 (Cls_17 s1.1) : rf h1 (g + 172) 1 (g + 175)) : isR h1 (g + 172) 1), (rf_g (State_3 (Cls_17 s1.1) : rf h1 (g + 172) 2 (g + 176)) : gR h1 (g + 172) 2 = (g + 176)), (rf_is (State_3 (Cls_17 s1.1) : rf h1 (g + 172) 2 (g + 176)) : isR h1 (g + 172) 2), (State_5 (Cls_17 s1.1) : arR h1 (g + 175) 5), (rdR_5 (State_5 (Cls_17 s1.1) : arR h1 (g + 175) 5) : rdR h1 (g + 175)), (State_6 (Cls_17 s1.1) : aln h1 (g + 175) = 8), (State_8 (Cls_17 s1.1) : arL h1 (g + 176)), (State_9 (Cls_17 s1.1) : aln h1 (g + 176) = 8), (Mem_0 (State_4 (Cls_17 s1.1)) : ob h1 (g + 173) 5), (eq_true (isI_ob (Mem_0 (State_4 (Cls_17 s1.1)) : ob h1 (g + 173) 5) rfl : isI h1 (g + 173) 1)), (eq_true (isI_ob (Mem_0 (State_4 (Cls_17 s1.1)) : ob h1 (g + 173) 5) rfl : isI h1 (g + 173) 2)), (rf_g (Mem_1 (State_4 (Cls_17 s1.1)) : rf h1 (g + 173) 0 (g + 174)) : gR h1 (g + 173) 0 = (g + 174)), (rf_is (Mem_1 (State_4 (Cls_17 s1.1)) : rf h1 (g + 173) 0 (g + 174)) : isR h1 (g + 173) 0), (Mem_2 (State_4 (Cls_17 s1.1)) : arI h1 (g + 174) 2), (rdB_2 (Mem_2 (State_4 (Cls_17 s1.1)) : arI h1 (g + 174) 2) : rdB h1 (g + 174)), (Mem_3 (State_4 (Cls_17 s1.1)) : aln h1 (g + 174) = 256), e3', if_true, if_false, vkk_n, vkk_i, vkk_r, vkk_l, vkk_d, catS_nil, catS_i, catS_r, catS_l, catS_d, Nat.reduceAdd, Nat.reduceLeDiff, Nat.zero_le, Nat.le_refl, Option.bind_some, Option.toList_some, Option.toList_none, List.cons_append, List.nil_append, or_true, true_or, if_true, if_false, Int32.reduceLT, Int32.reduceLE, not_true, not_false_iff, true_and, and_true, false_and, and_false]
      rw [e126_113 _ _ _ _ _ _ _ _ _ (by decide) cp]
      simp +decide only [e126_116, e126_166, e126_167, e126_170, e126_173, (rf_g (Cls_7 sW.1 : rf W g 12 (g + 262)) : gR W g 12 = (g + 262)), (rf_is (Cls_7 sW.1 : rf W g 12 (g + 262)) : isR W g 12), (Cls_28 sW.1 : ob W (g + 262) 2), (eq_true (isI_ob (Cls_28 sW.1 : ob W (g + 262) 2) rfl : isI W (g + 262) 2)), (eq_true (isI_ob (Cls_28 sW.1 : ob W (g + 262) 2) rfl : isI W (g + 262) 3)), (eq_true (isI_ob (Cls_28 sW.1 : ob W (g + 262) 2) rfl : isI W (g + 262) 4)), (eq_true (isI_ob (Cls_28 sW.1 : ob W (g + 262) 2) rfl : isI W (g + 262) 5)), (rf_g (Cls_29 sW.1 : rf W (g + 262) 0 (g + 263)) : gR W (g + 262) 0 = (g + 263)), (rf_is (Cls_29 sW.1 : rf W (g + 262) 0 (g + 263)) : isR W (g + 262) 0), (rf_g (Cls_30 sW.1 : rf W (g + 262) 1 (g + 264)) : gR W (g + 262) 1 = (g + 264)), (rf_is (Cls_30 sW.1 : rf W (g + 262) 1 (g + 264)) : isR W (g + 262) 1), (Cls_31 sW.1 : arI W (g + 263) 0), (rdI_0 (Cls_31 sW.1 : arI W (g + 263) 0) : rdI W (g + 263)), (Cls_32 sW.1 : aln W (g + 263) = 8), (Cls_33 sW.1 : arI W (g + 264) 0), (rdI_0 (Cls_33 sW.1 : arI W (g + 264) 0) : rdI W (g + 264)), (Cls_34 sW.1 : aln W (g + 264) = 8), (Cls_0 sW.1 : ob W g 10), e3W, if_true, if_false, vkk_n, vkk_i, vkk_r, vkk_l, vkk_d, catS_nil, catS_i, catS_r, catS_l, catS_d, Nat.reduceAdd, Nat.reduceLeDiff, Nat.zero_le, Nat.le_refl, Option.bind_some, Option.toList_some, Option.toList_none, List.cons_append, List.nil_append, or_true, true_or, if_true, if_false, Int32.reduceLT, Int32.reduceLE, not_true, not_false_iff, true_and, and_true, false_and, and_false]
    · rw [c1 j]
      unfold NC
      rw [if_neg s0, if_neg g0]
      by_cases y : AT ≤ j ∧ j < AT + sN z n
      · rw [if_pos y, if_pos y, u3, Nat.zero_add, if_pos ⟨Nat.zero_le _, by omega⟩]
      · rw [if_neg y, if_neg y]
        exact u2.I (a := g + 174) (fun y => by omega) j
set_option maxHeartbeats 4000000 in
theorem moveM (h : VG) (g n AT : Nat) (a at_ ga no : Int32) (b z : Nat → Nat) (hs : Sh h g) (hn : n ≤ 8) (hz : sN z n ≤ 256) (hbz : ∀ j, j < n → z j = 0 ∨ b j + z j ≤ 256) (hAT : sN z n = 0 ∨ (at_ = nI AT ∧ AT + sN z n ≤ 256)) (e54 : gI h (g + 266) 54 = nI (sN z n)) (hr : ∀ j, j < n → aI h (g + 296) j = nI (z j) ∧ (z j = 0 ∨ aI h (g + 295) j = nI (b j))) : ∃ h1, ev 221 56 [some (.ref (g + 266)), some (.int a), some (.int (nI n)), some (.int at_), some (.int ga), some (.int no), none, none, none] [] h = some (some (.int (nI (sN z n))), h1) ∧ Fr (fun a => a = g + 297 ∨ a = g + 277) NF h h1 ∧ ∀ j, aI h1 (g + 277) j = NN ga AT b z (fun j => if j < sN z n then aI h (g + 277) (sA ga AT b z n j) else aI h (g + 297) j) (aI h (g + 277)) n j := by
  obtain ⟨h1, x8, u1, u2, u3⟩ := l_gall g n AT a at_ ga no b z hn hz hbz (fun _ => hAT) n 0 h none (by omega) hs hr
  have u1 : ev 221 62 [some (.ref (g + 266)), some (.int a), some (.int (nI n)), some (.int at_), some (.int ga), some (.int no), some (.int 0), some (.int 0), none] [] h = _ := u1
  have s1 : Sh h1 g := Sh_fr u2 (fun a y => by omega) hs
  have g1 : ∀ j, aI h1 (g + 277) j = aI h (g + 277) j := fun j => u2.I (a := g + 277) (fun y => by omega) j
  obtain ⟨h2, y8, v1, v2, v3⟩ := l_mall g n AT a at_ ga no b z (fun j => if j < sN z n then aI h (g + 277) (sA ga AT b z n j) else aI h (g + 297) j) (aI h (g + 277)) hn hz hbz (fun _ => hAT) n 0 h1 x8 (by omega) s1 (fun j hj => ⟨(u2.I (a := g + 296) (fun y => by omega) j).trans (hr j hj).1, (hr j hj).2.imp id (fun y => (u2.I (a := g + 295) (fun y => by omega) j).trans y)⟩) (fun j => by
    rw [u3 j]
    by_cases y : j < sN z n
    · rw [if_pos y, if_pos ⟨Nat.zero_le _, y⟩]
    · rw [if_neg y, if_neg (fun q => y q.2)]) (fun j => by
    rw [g1 j]
    unfold NN
    by_cases y : ga = 0
    · rw [if_pos y]
      rfl
    · rw [if_neg y, if_neg (fun q => by
        have : sN z 0 = 0 := rfl
        omega)])
  have v1 : ev 221 138 [some (.ref (g + 266)), some (.int a), some (.int (nI n)), some (.int at_), some (.int ga), some (.int no), some (.int 0), some (.int 0), x8] [] h1 = _ := v1
  have s2 : Sh h2 g := Sh_fr v2 (fun a y => by omega) s1
  have e2 : gI h2 (g + 266) 54 = nI (sN z n) := (v2.gI (fun y => y)).trans ((u2.gI (fun y => y)).trans e54)
  have om : ob h2 (g + 266) 11 := Mod_0 s2.2.1
  refine ⟨h2, ?_, (u2.mo (fun a y => Or.inl y) (fun _ _ y => y)).tr (v2.mo (fun a y => Or.inr y) (fun _ _ y => y)), v3⟩
  simp +decide only [e221_56, e221_57, e221_59, e221_60, vkk_n, vkk_i, vkk_r, vkk_l, vkk_d, catS_nil, catS_i, catS_r, catS_l, catS_d, Nat.reduceAdd, Nat.reduceLeDiff, Nat.zero_le, Nat.le_refl, Option.bind_some, Option.toList_some, Option.toList_none, List.cons_append, List.nil_append, or_true, true_or, if_true, if_false, Int32.reduceLT, Int32.reduceLE, not_true, not_false_iff, true_and, and_true, false_and, and_false]
  rw [u1]
  simp +decide only [e221_132, e221_133, e221_135, e221_136, vkk_n, vkk_i, vkk_r, vkk_l, vkk_d, catS_nil, catS_i, catS_r, catS_l, catS_d, Nat.reduceAdd, Nat.reduceLeDiff, Nat.zero_le, Nat.le_refl, Option.bind_some, Option.toList_some, Option.toList_none, List.cons_append, List.nil_append, or_true, true_or, if_true, if_false, Int32.reduceLT, Int32.reduceLE, not_true, not_false_iff, true_and, and_true, false_and, and_false]
  rw [v1]
  simp +decide only [e221_208, e221_209, e221_212, om, e2, vkk_n, vkk_i, vkk_r, vkk_l, vkk_d, catS_nil, catS_i, catS_r, catS_l, catS_d, Nat.reduceAdd, Nat.reduceLeDiff, Nat.zero_le, Nat.le_refl, Option.bind_some, Option.toList_some, Option.toList_none, List.cons_append, List.nil_append, or_true, true_or, if_true, if_false, Int32.reduceLT, Int32.reduceLE, not_true, not_false_iff, true_and, and_true, false_and, and_false]
