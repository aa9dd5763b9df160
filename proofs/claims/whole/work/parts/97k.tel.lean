/-! read: all lines, by the class -/
def mcF (T : Nat → Nat) (s0 : Nat) : Nat → Nat → Nat
  | 0, m => m
  | d + 1, m => if T (mt T s0 m) = 5 then mcF T s0 d (m + 1) else m
def fcF (T : Nat → Nat) (s2 : Nat) : Nat → Nat → Nat
  | 0, c => c
  | d + 1, c => if T (s2 + c) = 3 then fcF T s2 d (c + 1) else c
theorem mcF_is (T : Nat → Nat) (s0 M : Nat) (h1 : KINDS T s0 M) (h2 : ¬ T (mt T s0 M) = 5) : ∀ d m, m ≤ M → M < m + d → mcF T s0 d m = M := by
  intro d
  induction d with
  | zero =>
    intro m a c
    omega
  | succ d ih =>
    intro m a c
    show (if T (mt T s0 m) = 5 then mcF T s0 d (m + 1) else m) = M
    by_cases e : m = M
    · rw [e, if_neg h2]
    · rw [if_pos (h1 m (by omega))]
      exact ih (m + 1) (by omega) (by omega)
theorem fcF_is (T : Nat → Nat) (s2 M : Nat) (h1 : INTS T s2 M) (h2 : ¬ T (s2 + M) = 3) : ∀ d m, m ≤ M → M < m + d → fcF T s2 d m = M := by
  intro d
  induction d with
  | zero =>
    intro m a c
    omega
  | succ d ih =>
    intro m a c
    show (if T (s2 + m) = 3 then fcF T s2 d (m + 1) else m) = M
    by_cases e : m = M
    · rw [e, if_neg h2]
    · rw [if_pos (h1 m (by omega))]
      exact ih (m + 1) (by omega) (by omega)
/-- what lines tell: where the next begins; how many forms; big; line; memory; what is wrong; where forms begin, how many members they have -/
abbrev SG : Type := Nat × Nat × Nat × Nat × (Nat → Nat) × (Nat × Nat) × (Nat → Nat) × (Nat → Nat)
def sgS (σ : SG) : Nat := σ.1
def sgN (σ : SG) : Nat := σ.2.1
def sgB (σ : SG) : Nat := σ.2.2.1
def sgL (σ : SG) : Nat := σ.2.2.2.1
def sgM (σ : SG) : Nat → Nat := σ.2.2.2.2.1
def sgW (σ : SG) : Nat × Nat := σ.2.2.2.2.2.1
def sgF (σ : SG) : Nat → Nat := σ.2.2.2.2.2.2.1
def sgC (σ : SG) : Nat → Nat := σ.2.2.2.2.2.2.2
def fup (F : Nat → Nat) (n x : Nat) : Nat → Nat := fun f => if f = n then x else F f
def tnm (b : Nat → Nat) (L x : Nat) : Nat := tNm b L (tPl b L x)
def dup (b : Nat → Nat) (L : Nat) (F : Nat → Nat) (n s : Nat) : Prop := ∃ f, f < n ∧ tnm b L (F f + 1) = tnm b L (s + 1)
noncomputable def wDp (b : Nat → Nat) (L : Nat) (σ : SG) : Nat × Nat := @ite _ (dup b L (sgF σ) (sgN σ) (sgS σ)) (Classical.propDecidable _) (wN (sgW σ) 3 (sgS σ + 1)) (sgW σ)
noncomputable def stB (b : Nat → Nat) (L : Nat) (σ : SG) : SG := (sgS σ + 2, sgN σ, 1, sgL σ, sgM σ, sgW σ, sgF σ, sgC σ)
noncomputable def stL (b : Nat → Nat) (L : Nat) (σ : SG) : SG := (sgS σ + 3, sgN σ, sgB σ, if 1 ≤ vC b L (sgS σ + 1) ∧ vC b L (sgS σ + 1) ≤ 256 then vC b L (sgS σ + 1) else sgL σ, sgM σ, if 1 ≤ vC b L (sgS σ + 1) ∧ vC b L (sgS σ + 1) ≤ 256 then sgW σ else wN (sgW σ) 5 (sgS σ + 1), sgF σ, sgC σ)
def fmN (b : Nat → Nat) (L : Nat) (σ : SG) : Nat := mcF (tyC b L) (sgS σ + 2) 9 0
def flN (b : Nat → Nat) (L : Nat) (σ : SG) : Nat := fcF (tyC b L) (sgS σ + 2) 17 0
noncomputable def stF (b : Nat → Nat) (L : Nat) (σ : SG) : SG := (mt (tyC b L) (sgS σ + 2) (fmN b L σ) + 1, sgN σ + 1, sgB σ, sgL σ, sgM σ, wM b L (sgS σ + 2) (wDp b L σ) (fmN b L σ), fup (sgF σ) (sgN σ) (sgS σ), fup (sgC σ) (sgN σ) (fmN b L σ))
noncomputable def stI (b : Nat → Nat) (L : Nat) (σ : SG) : SG := (sgS σ + 2 + flN b L σ + 1, sgN σ, sgB σ, sgL σ, mFb (vC b L) (vC b L (sgS σ + 1)) (sgS σ + 2) (sgM σ) (flN b L σ), wFb (vC b L) (vC b L (sgS σ + 1)) (sgS σ + 2) (if 255 < vC b L (sgS σ + 1) then wN (sgW σ) 5 (sgS σ + 1) else sgW σ) (flN b L σ), sgF σ, sgC σ)
noncomputable def stp1 (b : Nat → Nat) (L : Nat) (σ : SG) : SG := if tyC b L (sgS σ) = 6 then stB b L σ else if tyC b L (sgS σ) = 7 then stL b L σ else if tyC b L (sgS σ) = 8 then stF b L σ else stI b L σ
noncomputable def LSt (b : Nat → Nat) (L : Nat) : Nat → SG
  | 0 => (0, 0, 0, 256, fun _ => 0, (0, 0), fun _ => 0, fun _ => 0)
  | i + 1 => stp1 b L (LSt b L i)
def rTel (T : Nat → Nat) (told s : Nat) : Nat × Nat := if T s = 6 then rBig T s else if T s = 7 then rLin T s else if T s = 8 then rFrm T told s else if T s = 9 then rFll T s else (1, s)
/-- a line that is right -/
def VAL (b : Nat → Nat) (L : Nat) (σ : SG) : Prop := rTel (tyC b L) (sgN σ) (sgS σ) = (0, sgS (stp1 b L σ)) ∧ ((tyC b L (sgS σ) = 6 ∧ tyC b L (sgS σ + 1) = 4) ∨ (tyC b L (sgS σ) = 7 ∧ tyC b L (sgS σ + 1) = 3 ∧ tyC b L (sgS σ + 2) = 4) ∨ (tyC b L (sgS σ) = 8 ∧ tyC b L (sgS σ + 1) = 2 ∧ sgN σ < 6 ∧ 1 ≤ fmN b L σ ∧ fmN b L σ ≤ 8 ∧ KINDS (tyC b L) (sgS σ + 2) (fmN b L σ) ∧ tyC b L (mt (tyC b L) (sgS σ + 2) (fmN b L σ)) = 4) ∨ (tyC b L (sgS σ) = 9 ∧ tyC b L (sgS σ + 1) = 3 ∧ 1 ≤ flN b L σ ∧ flN b L σ ≤ 16 ∧ INTS (tyC b L) (sgS σ + 2) (flN b L σ) ∧ tyC b L (sgS σ + 2 + flN b L σ) = 4))
def FOK (h : VG) (b : Nat → Nat) (L Q s m : Nat) : Prop := 1 ≤ m ∧ m ≤ 8 ∧ (KINDS (tyC b L) (s + 2) m ∧ kd b L (s + 1) = 1) ∧ gL h Q 0 = Int64.ofNat (tnm b L (s + 1)) ∧ CF h Q m (mKk b L (s + 2)) (mRr b L (s + 2)) ∧ CL h Q (pre (mRr b L (s + 2)) m) (cK (mKk b L (s + 2)) (mRr b L (s + 2)) m)
theorem FOK_fr {R : Nat → Prop} {F : Nat → Nat → Prop} {h h1 : VG} {b : Nat → Nat} {L Q s m : Nat} (x : Fr R F h h1) (c : ∀ a, R a → ¬ (Q < a ∧ a < Q + 13)) (d : ∀ a k, F a k → ¬ (Q ≤ a ∧ a < Q + 13)) (q : FOK h b L Q s m) : FOK h1 b L Q s m := by
  obtain ⟨q1, q2, q3, q4, q5, z1, z2, z3, z4, z5⟩ := q
  refine ⟨q1, q2, q3, (x.gL (fun z => d _ _ z (by omega))).trans q4, CF_fr x (fun a z y => c a z (by omega)) (fun k z => absurd (show Q ≤ Q ∧ Q < Q + 13 by omega) (d _ _ z)) q5, (x.gI (fun z => d _ _ z (by omega))).trans z1, (x.gI (fun z => d _ _ z (by omega))).trans z2, (x.gI (fun z => d _ _ z (by omega))).trans z3, (x.gI (fun z => d _ _ z (by omega))).trans z4, fun i hi => ?_⟩
  obtain ⟨a1, a2, a3, a4, a5⟩ := z5 i hi
  exact ⟨(x.I (fun z => c _ z (by omega)) i).trans a1, (x.I (fun z => c _ z (by omega)) i).trans a2, (x.I (fun z => c _ z (by omega)) i).trans a3, (x.I (fun z => c _ z (by omega)) i).trans a4, (x.I (fun z => c _ z (by omega)) i).trans a5⟩
def WID (h : VG) (P : Nat) : Prop := ∀ f, f < 6 → gI h (P + 4 + 13 * f + 5) 0 = 0 ∧ gI h (P + 4 + 13 * f + 7) 0 = 1
def CST (h : VG) (g P : Nat) (b : Nat → Nat) (L TT : Nat) (σ : SG) : Prop := RD h g P b L TT (sgS σ) ∧ WF h g b L (sgW σ) ∧ (gI h P 2 = nI (sgN σ) ∧ sgN σ ≤ 6) ∧ (gI h (P + 1) 1 = nI (sgL σ) ∧ 1 ≤ sgL σ ∧ sgL σ ≤ 256) ∧ (gI h (P + 1) 2 = nI (sgB σ) ∧ sgB σ ≤ 1) ∧ MB h P (sgM σ) ∧ WID h P ∧ ∀ f, f < sgN σ → FOK h b L (P + 4 + 13 * f) (sgF σ f) (sgC σ f)
theorem tNm_lt (b : Nat → Nat) (L x : Nat) (h : kd b L x = 1) : tnm b L x < 1099511627776 := by
  unfold tnm tNm
  unfold kd tKd at h
  generalize tPl b L x = p at h ⊢
  obtain ⟨i1, i2, i3, -⟩ := spn_b isLe b (L - p) p
  by_cases nL : L ≤ p
  · rw [if_pos nL] at h
    cases h
  rw [if_neg nL] at h
  cases q : isLe (b p) with
  | false =>
    rw [q] at h
    simp only [Bool.false_eq_true, if_false] at h
    exfalso
    revert h
    (repeat' split) <;> omega
  | true =>
    rw [q] at h
    simp only [if_true] at h
    by_cases y : 8 < spn isLe b (L - p) p - p
    · rw [if_pos y] at h
      cases h
    · have a := (vS_n b p (spn isLe b (L - p) p - p) (by omega) (fun i hi => i3 _ (by omega) (by omega))).2
      have pw : 32 ^ (spn isLe b (L - p) p - p) ≤ 32 ^ 8 := Nat.pow_le_pow_right (by decide) (by omega)
      omega
theorem WID_fr {R : Nat → Prop} {F : Nat → Nat → Prop} {h h1 : VG} {P : Nat} (x : Fr R F h h1) (d : ∀ a k f, f < 6 → F a k → ¬ (a = P + 4 + 13 * f + 5 ∧ k = 0) ∧ ¬ (a = P + 4 + 13 * f + 7 ∧ k = 0)) (q : WID h P) : WID h1 P := fun f hf => ⟨(x.gI (fun z => (d _ _ f hf z).1 ⟨rfl, rfl⟩)).trans (q f hf).1, (x.gI (fun z => (d _ _ f hf z).2 ⟨rfl, rfl⟩)).trans (q f hf).2⟩
set_option maxHeartbeats 4000000 in
theorem c_readTell {h : VG} {g P L TT : Nat} {b : Nat → Nat} {σ : SG} (hP : P = g + 8 ∨ P = g + 90) (q : CST h g P b L TT σ) : ((rTel (tyC b L) (sgN σ) (sgS σ)).1 = 0 → ∃ h1, ev 66 0 [some (.ref (g + 2))] [] h = some (none, h1) ∧ Fr (PR P) (PF g P) h h1 ∧ CST h1 g P b L TT (stp1 b L σ) ∧ VAL b L σ ∧ sgS σ < sgS (stp1 b L σ)) ∧ (¬ (rTel (tyC b L) (sgN σ) (sgS σ)).1 = 0 → ∃ h1, ev 66 0 [some (.ref (g + 2))] [] h = some (none, h1) ∧ Fr (PR P) (PF g P) h h1 ∧ ST h1 g (rTel (tyC b L) (sgN σ) (sgS σ)).1 (tPl b L (rTel (tyC b L) (sgN σ) (sgS σ)).2)) := by
  obtain ⟨q1, q2, ⟨q3, q4⟩, ⟨q5, q6, q7⟩, ⟨q8, q9⟩, q10, q11, q12⟩ := q
  have o7 : ob h (g + 2) 7 := Cls_11 q1.1.1
  have e4 := (rd_ty q1).1
  have q13 := q1.2.2.2.1
  have sT := q1.2.2.2.2.1
  have sT2 := q1.2.2.2.2.2.1
  have v1 : vp_in (nI (sgS σ)) 401 := vp_in_nI (by omega) (by decide)
  have v2 : (nI (sgS σ)).toNatClampNeg = sgS σ := nI_clamp (by omega)
  have tl := ty_lt b L (sgS σ)
  have n6 : nI (tyC b L (sgS σ)) = 6 ↔ tyC b L (sgS σ) = 6 := nI_eq (b := 6) (by omega) (by decide)
  have n7 : nI (tyC b L (sgS σ)) = 7 ↔ tyC b L (sgS σ) = 7 := nI_eq (b := 7) (by omega) (by decide)
  have n8 : nI (tyC b L (sgS σ)) = 8 ↔ tyC b L (sgS σ) = 8 := nI_eq (b := 8) (by omega) (by decide)
  have n9 : nI (tyC b L (sgS σ)) = 9 ↔ tyC b L (sgS σ) = 9 := nI_eq (b := 9) (by omega) (by decide)
  by_cases z6 : tyC b L (sgS σ) = 6
  · have er : rTel (tyC b L) (sgN σ) (sgS σ) = rBig (tyC b L) (sgS σ) := if_pos z6
    have es : stp1 b L σ = stB b L σ := if_pos z6
    have z6' := n6.mpr z6
    obtain ⟨r0, r1⟩ := c_readBig hP q1 q2
    rw [er, es]
    refine ⟨fun z => ?_, fun z => ?_⟩
    · obtain ⟨h1, u1, u2, u3, u4, u5, u6, u7, u8⟩ := r0 z
      refine ⟨h1, ?_, u5.mo (fun a z => z.elim) (fun a k z => by unfold GF at z; unfold PF; omega), ⟨u6, u7, ⟨(u5.gI (fun z => by unfold GF at z; omega)).trans q3, q4⟩, ⟨(u5.gI (fun z => by unfold GF at z; omega)).trans q5, q6, q7⟩, ⟨u8, Nat.le_refl _⟩, MB_fr u5 (fun z => z) q10, WID_fr u5 (fun a k f hf z => by unfold GF at z; omega) q11, fun f hf => FOK_fr u5 (fun a z => z.elim) (fun a k z => by unfold GF at z; omega) (q12 f hf)⟩, ⟨?_, Or.inl ⟨u3, u4⟩⟩, ?_⟩
      · simp +decide only [e66_0, e66_1, e66_4, e66_7, e66_8, e66_11, e66_12, e66_44, e66_45, e66_48, e66_51, e66_52, e66_55, e66_58, e66_59, e66_62, e66_65, e66_66, e66_69, e66_72, e66_73, e66_74, e66_77, e66_77b, e66_78, q13, v1, v2, e4, z6', u1, (Cls_11 q1.1.1 : ob h (g + 2) 7), (rf_g (Cls_12 q1.1.1 : rf h (g + 2) 1 (g + 3)) : gR h (g + 2) 1 = (g + 3)), (rf_is (Cls_12 q1.1.1 : rf h (g + 2) 1 (g + 3)) : isR h (g + 2) 1), (Tok_0 (Cls_13 q1.1.1) : ob h (g + 3) 9), (rf_g (Tok_1 (Cls_13 q1.1.1) : rf h (g + 3) 0 (g + 4)) : gR h (g + 3) 0 = (g + 4)), (rf_is (Tok_1 (Cls_13 q1.1.1) : rf h (g + 3) 0 (g + 4)) : isR h (g + 3) 0), (rf_g (Tok_2 (Cls_13 q1.1.1) : rf h (g + 3) 1 (g + 5)) : gR h (g + 3) 1 = (g + 5)), (rf_is (Tok_2 (Cls_13 q1.1.1) : rf h (g + 3) 1 (g + 5)) : isR h (g + 3) 1), (rf_g (Tok_3 (Cls_13 q1.1.1) : rf h (g + 3) 2 (g + 6)) : gR h (g + 3) 2 = (g + 6)), (rf_is (Tok_3 (Cls_13 q1.1.1) : rf h (g + 3) 2 (g + 6)) : isR h (g + 3) 2), (rf_g (Tok_4 (Cls_13 q1.1.1) : rf h (g + 3) 3 (g + 7)) : gR h (g + 3) 3 = (g + 7)), (rf_is (Tok_4 (Cls_13 q1.1.1) : rf h (g + 3) 3 (g + 7)) : isR h (g + 3) 3), (Tok_5 (Cls_13 q1.1.1) : arI h (g + 4) 0), (rdI_0 (Tok_5 (Cls_13 q1.1.1) : arI h (g + 4) 0) : rdI h (g + 4)), (Tok_6 (Cls_13 q1.1.1) : aln h (g + 4) = 401), (Tok_7 (Cls_13 q1.1.1) : arI h (g + 5) 0), (rdI_0 (Tok_7 (Cls_13 q1.1.1) : arI h (g + 5) 0) : rdI h (g + 5)), (Tok_8 (Cls_13 q1.1.1) : aln h (g + 5) = 401), (Tok_9 (Cls_13 q1.1.1) : arL h (g + 6)), (Tok_10 (Cls_13 q1.1.1) : aln h (g + 6) = 401), (Tok_11 (Cls_13 q1.1.1) : arL h (g + 7)), (Tok_12 (Cls_13 q1.1.1) : aln h (g + 7) = 14), vkk_n, vkk_i, vkk_r, vkk_l, vkk_d, catS_nil, catS_i, catS_r, catS_l, catS_d, Nat.reduceAdd, Nat.reduceLeDiff, Nat.zero_le, Nat.le_refl, Option.bind_some, Option.toList_some, Option.toList_none, List.cons_append, List.nil_append, or_true, true_or, if_true, if_false, Int32.reduceLT, Int32.reduceLE, not_true, not_false_iff, true_and, and_true, false_and, and_false]
      · rw [er, es]
        exact u2
      · show sgS σ < sgS σ + 2
        omega
    · obtain ⟨h1, u1, u2, u3⟩ := r1 z
      refine ⟨h1, ?_, u2.mo (fun a z => z.elim) (fun a k z => by unfold GF at z; unfold PF; omega), u3⟩
      simp +decide only [e66_0, e66_1, e66_4, e66_7, e66_8, e66_11, e66_12, e66_44, e66_45, e66_48, e66_51, e66_52, e66_55, e66_58, e66_59, e66_62, e66_65, e66_66, e66_69, e66_72, e66_73, e66_74, e66_77, e66_77b, e66_78, q13, v1, v2, e4, z6', u1, (Cls_11 q1.1.1 : ob h (g + 2) 7), (rf_g (Cls_12 q1.1.1 : rf h (g + 2) 1 (g + 3)) : gR h (g + 2) 1 = (g + 3)), (rf_is (Cls_12 q1.1.1 : rf h (g + 2) 1 (g + 3)) : isR h (g + 2) 1), (Tok_0 (Cls_13 q1.1.1) : ob h (g + 3) 9), (rf_g (Tok_1 (Cls_13 q1.1.1) : rf h (g + 3) 0 (g + 4)) : gR h (g + 3) 0 = (g + 4)), (rf_is (Tok_1 (Cls_13 q1.1.1) : rf h (g + 3) 0 (g + 4)) : isR h (g + 3) 0), (rf_g (Tok_2 (Cls_13 q1.1.1) : rf h (g + 3) 1 (g + 5)) : gR h (g + 3) 1 = (g + 5)), (rf_is (Tok_2 (Cls_13 q1.1.1) : rf h (g + 3) 1 (g + 5)) : isR h (g + 3) 1), (rf_g (Tok_3 (Cls_13 q1.1.1) : rf h (g + 3) 2 (g + 6)) : gR h (g + 3) 2 = (g + 6)), (rf_is (Tok_3 (Cls_13 q1.1.1) : rf h (g + 3) 2 (g + 6)) : isR h (g + 3) 2), (rf_g (Tok_4 (Cls_13 q1.1.1) : rf h (g + 3) 3 (g + 7)) : gR h (g + 3) 3 = (g + 7)), (rf_is (Tok_4 (Cls_13 q1.1.1) : rf h (g + 3) 3 (g + 7)) : isR h (g + 3) 3), (Tok_5 (Cls_13 q1.1.1) : arI h (g + 4) 0), (rdI_0 (Tok_5 (Cls_13 q1.1.1) : arI h (g + 4) 0) : rdI h (g + 4)), (Tok_6 (Cls_13 q1.1.1) : aln h (g + 4) = 401), (Tok_7 (Cls_13 q1.1.1) : arI h (g + 5) 0), (rdI_0 (Tok_7 (Cls_13 q1.1.1) : arI h (g + 5) 0) : rdI h (g + 5)), (Tok_8 (Cls_13 q1.1.1) : aln h (g + 5) = 401), (Tok_9 (Cls_13 q1.1.1) : arL h (g + 6)), (Tok_10 (Cls_13 q1.1.1) : aln h (g + 6) = 401), (Tok_11 (Cls_13 q1.1.1) : arL h (g + 7)), (Tok_12 (Cls_13 q1.1.1) : aln h (g + 7) = 14), vkk_n, vkk_i, vkk_r, vkk_l, vkk_d, catS_nil, catS_i, catS_r, catS_l, catS_d, Nat.reduceAdd, Nat.reduceLeDiff, Nat.zero_le, Nat.le_refl, Option.bind_some, Option.toList_some, Option.toList_none, List.cons_append, List.nil_append, or_true, true_or, if_true, if_false, Int32.reduceLT, Int32.reduceLE, not_true, not_false_iff, true_and, and_true, false_and, and_false]
  have z6' : ¬ nI (tyC b L (sgS σ)) = 6 := fun z => z6 (n6.mp z)
  by_cases z7 : tyC b L (sgS σ) = 7
  · have er : rTel (tyC b L) (sgN σ) (sgS σ) = rLin (tyC b L) (sgS σ) := by unfold rTel; rw [if_neg z6, if_pos z7]
    have es : stp1 b L σ = stL b L σ := by unfold stp1; rw [if_neg z6, if_pos z7]
    have z7' := n7.mpr z7
    obtain ⟨r0, r1⟩ := c_readLine hP q1 q2
    rw [er, es]
    refine ⟨fun z => ?_, fun z => ?_⟩
    · obtain ⟨h1, u1, u2, u3, u4, u5, u6, u7, u8⟩ := r0 z
      have fin : WF h1 g b L (sgW (stL b L σ)) ∧ gI h1 (P + 1) 1 = nI (sgL (stL b L σ)) ∧ 1 ≤ sgL (stL b L σ) ∧ sgL (stL b L σ) ≤ 256 := by
        show WF h1 g b L (if 1 ≤ vC b L (sgS σ + 1) ∧ vC b L (sgS σ + 1) ≤ 256 then sgW σ else wN (sgW σ) 5 (sgS σ + 1)) ∧ gI h1 (P + 1) 1 = nI (if 1 ≤ vC b L (sgS σ + 1) ∧ vC b L (sgS σ + 1) ≤ 256 then vC b L (sgS σ + 1) else sgL σ) ∧ 1 ≤ (if 1 ≤ vC b L (sgS σ + 1) ∧ vC b L (sgS σ + 1) ≤ 256 then vC b L (sgS σ + 1) else sgL σ) ∧ (if 1 ≤ vC b L (sgS σ + 1) ∧ vC b L (sgS σ + 1) ≤ 256 then vC b L (sgS σ + 1) else sgL σ) ≤ 256
        rcases u8 with ⟨y1, y2, y3, y4⟩ | ⟨y1, y2, y3⟩
        · rw [if_pos ⟨y1, y2⟩, if_pos ⟨y1, y2⟩]
          exact ⟨y3, y4, y1, y2⟩
        · rw [if_neg y1, if_neg y1]
          exact ⟨y2, y3.trans q5, q6, q7⟩
      refine ⟨h1, ?_, u6.mo (fun a z => z.elim) (fun a k z => by unfold GF at z; unfold PF; omega), ⟨u7, fin.1, ⟨(u6.gI (fun z => by unfold GF at z; omega)).trans q3, q4⟩, fin.2, ⟨(u6.gI (fun z => by unfold GF at z; omega)).trans q8, q9⟩, MB_fr u6 (fun z => z) q10, WID_fr u6 (fun a k f hf z => by unfold GF at z; omega) q11, fun f hf => FOK_fr u6 (fun a z => z.elim) (fun a k z => by unfold GF at z; omega) (q12 f hf)⟩, ⟨?_, Or.inr (Or.inl ⟨u3, u4, u5⟩)⟩, ?_⟩
      · simp +decide only [e66_0, e66_1, e66_4, e66_7, e66_8, e66_11, e66_12, e66_44, e66_45, e66_48, e66_51, e66_52, e66_55, e66_58, e66_59, e66_62, e66_65, e66_66, e66_69, e66_72, e66_73, e66_74, e66_77, e66_77b, e66_78, q13, v1, v2, e4, z6', z7', u1, (Cls_11 q1.1.1 : ob h (g + 2) 7), (rf_g (Cls_12 q1.1.1 : rf h (g + 2) 1 (g + 3)) : gR h (g + 2) 1 = (g + 3)), (rf_is (Cls_12 q1.1.1 : rf h (g + 2) 1 (g + 3)) : isR h (g + 2) 1), (Tok_0 (Cls_13 q1.1.1) : ob h (g + 3) 9), (rf_g (Tok_1 (Cls_13 q1.1.1) : rf h (g + 3) 0 (g + 4)) : gR h (g + 3) 0 = (g + 4)), (rf_is (Tok_1 (Cls_13 q1.1.1) : rf h (g + 3) 0 (g + 4)) : isR h (g + 3) 0), (rf_g (Tok_2 (Cls_13 q1.1.1) : rf h (g + 3) 1 (g + 5)) : gR h (g + 3) 1 = (g + 5)), (rf_is (Tok_2 (Cls_13 q1.1.1) : rf h (g + 3) 1 (g + 5)) : isR h (g + 3) 1), (rf_g (Tok_3 (Cls_13 q1.1.1) : rf h (g + 3) 2 (g + 6)) : gR h (g + 3) 2 = (g + 6)), (rf_is (Tok_3 (Cls_13 q1.1.1) : rf h (g + 3) 2 (g + 6)) : isR h (g + 3) 2), (rf_g (Tok_4 (Cls_13 q1.1.1) : rf h (g + 3) 3 (g + 7)) : gR h (g + 3) 3 = (g + 7)), (rf_is (Tok_4 (Cls_13 q1.1.1) : rf h (g + 3) 3 (g + 7)) : isR h (g + 3) 3), (Tok_5 (Cls_13 q1.1.1) : arI h (g + 4) 0), (rdI_0 (Tok_5 (Cls_13 q1.1.1) : arI h (g + 4) 0) : rdI h (g + 4)), (Tok_6 (Cls_13 q1.1.1) : aln h (g + 4) = 401), (Tok_7 (Cls_13 q1.1.1) : arI h (g + 5) 0), (rdI_0 (Tok_7 (Cls_13 q1.1.1) : arI h (g + 5) 0) : rdI h (g + 5)), (Tok_8 (Cls_13 q1.1.1) : aln h (g + 5) = 401), (Tok_9 (Cls_13 q1.1.1) : arL h (g + 6)), (Tok_10 (Cls_13 q1.1.1) : aln h (g + 6) = 401), (Tok_11 (Cls_13 q1.1.1) : arL h (g + 7)), (Tok_12 (Cls_13 q1.1.1) : aln h (g + 7) = 14), vkk_n, vkk_i, vkk_r, vkk_l, vkk_d, catS_nil, catS_i, catS_r, catS_l, catS_d, Nat.reduceAdd, Nat.reduceLeDiff, Nat.zero_le, Nat.le_refl, Option.bind_some, Option.toList_some, Option.toList_none, List.cons_append, List.nil_append, or_true, true_or, if_true, if_false, Int32.reduceLT, Int32.reduceLE, not_true, not_false_iff, true_and, and_true, false_and, and_false]
      · rw [er, es]
        exact u2
      · show sgS σ < sgS σ + 3
        omega
    · obtain ⟨h1, u1, u2, u3⟩ := r1 z
      refine ⟨h1, ?_, u2.mo (fun a z => z.elim) (fun a k z => by unfold GF at z; unfold PF; omega), u3⟩
      simp +decide only [e66_0, e66_1, e66_4, e66_7, e66_8, e66_11, e66_12, e66_44, e66_45, e66_48, e66_51, e66_52, e66_55, e66_58, e66_59, e66_62, e66_65, e66_66, e66_69, e66_72, e66_73, e66_74, e66_77, e66_77b, e66_78, q13, v1, v2, e4, z6', z7', u1, (Cls_11 q1.1.1 : ob h (g + 2) 7), (rf_g (Cls_12 q1.1.1 : rf h (g + 2) 1 (g + 3)) : gR h (g + 2) 1 = (g + 3)), (rf_is (Cls_12 q1.1.1 : rf h (g + 2) 1 (g + 3)) : isR h (g + 2) 1), (Tok_0 (Cls_13 q1.1.1) : ob h (g + 3) 9), (rf_g (Tok_1 (Cls_13 q1.1.1) : rf h (g + 3) 0 (g + 4)) : gR h (g + 3) 0 = (g + 4)), (rf_is (Tok_1 (Cls_13 q1.1.1) : rf h (g + 3) 0 (g + 4)) : isR h (g + 3) 0), (rf_g (Tok_2 (Cls_13 q1.1.1) : rf h (g + 3) 1 (g + 5)) : gR h (g + 3) 1 = (g + 5)), (rf_is (Tok_2 (Cls_13 q1.1.1) : rf h (g + 3) 1 (g + 5)) : isR h (g + 3) 1), (rf_g (Tok_3 (Cls_13 q1.1.1) : rf h (g + 3) 2 (g + 6)) : gR h (g + 3) 2 = (g + 6)), (rf_is (Tok_3 (Cls_13 q1.1.1) : rf h (g + 3) 2 (g + 6)) : isR h (g + 3) 2), (rf_g (Tok_4 (Cls_13 q1.1.1) : rf h (g + 3) 3 (g + 7)) : gR h (g + 3) 3 = (g + 7)), (rf_is (Tok_4 (Cls_13 q1.1.1) : rf h (g + 3) 3 (g + 7)) : isR h (g + 3) 3), (Tok_5 (Cls_13 q1.1.1) : arI h (g + 4) 0), (rdI_0 (Tok_5 (Cls_13 q1.1.1) : arI h (g + 4) 0) : rdI h (g + 4)), (Tok_6 (Cls_13 q1.1.1) : aln h (g + 4) = 401), (Tok_7 (Cls_13 q1.1.1) : arI h (g + 5) 0), (rdI_0 (Tok_7 (Cls_13 q1.1.1) : arI h (g + 5) 0) : rdI h (g + 5)), (Tok_8 (Cls_13 q1.1.1) : aln h (g + 5) = 401), (Tok_9 (Cls_13 q1.1.1) : arL h (g + 6)), (Tok_10 (Cls_13 q1.1.1) : aln h (g + 6) = 401), (Tok_11 (Cls_13 q1.1.1) : arL h (g + 7)), (Tok_12 (Cls_13 q1.1.1) : aln h (g + 7) = 14), vkk_n, vkk_i, vkk_r, vkk_l, vkk_d, catS_nil, catS_i, catS_r, catS_l, catS_d, Nat.reduceAdd, Nat.reduceLeDiff, Nat.zero_le, Nat.le_refl, Option.bind_some, Option.toList_some, Option.toList_none, List.cons_append, List.nil_append, or_true, true_or, if_true, if_false, Int32.reduceLT, Int32.reduceLE, not_true, not_false_iff, true_and, and_true, false_and, and_false]
  have z7' : ¬ nI (tyC b L (sgS σ)) = 7 := fun z => z7 (n7.mp z)
  by_cases z8 : tyC b L (sgS σ) = 8
  · have er : rTel (tyC b L) (sgN σ) (sgS σ) = rFrm (tyC b L) (sgN σ) (sgS σ) := by unfold rTel; rw [if_neg z6, if_neg z7, if_pos z8]
    have es : stp1 b L σ = stF b L σ := by unfold stp1; rw [if_neg z6, if_neg z7, if_pos z8]
    have z8' := n8.mpr z8
    obtain ⟨r0, r1⟩ := c_readForm (Q := P + 4 + 13 * sgN σ) hP rfl q4 q1 q2 q3 q11
    have toP : ∀ {h h1 : VG}, Fr (QR (P + 4 + 13 * sgN σ)) (LFF g P (P + 4 + 13 * sgN σ)) h h1 → sgN σ < 6 → Fr (PR P) (PF g P) h h1 := fun x hn => x.mo (fun a z => by unfold QR at z; unfold PR; omega) (fun a k z => by unfold LFF QF at z; unfold PF; omega)
    rw [er, es]
    refine ⟨fun z => ?_, fun z => ?_⟩
    · obtain ⟨h1, M, W1, u1, u2, u3, u4, u5, u6, u7, u8, u9, u10, u11, u12, u13, u14, u15, u16, u17⟩ := r0 z
      clear r0 r1
      have eM : fmN b L σ = M := mcF_is _ _ _ u9 (by rw [u8]; decide) 9 0 (Nat.zero_le _) (by omega)
      have k1 : kd b L (sgS σ + 1) = 1 := (cTy_0 (kd_or b L (sgS σ + 1))).2.2.2.1.mp u7
      have lt1 := tNm_lt b L (sgS σ + 1) k1
      have eW1 : W1 = wDp b L σ := by
        unfold wDp
        have kf : ∀ f, f < sgN σ → (gL h (P + 4 + 13 * f) 0 = Int64.ofNat (tNm b L (tPl b L (sgS σ + 1))) ↔ tnm b L (sgF σ f + 1) = tnm b L (sgS σ + 1)) := by
          intro f hf
          obtain ⟨-, -, ⟨-, y3⟩, y4, -⟩ := q12 f hf
          have lt2 := tNm_lt b L (sgF σ f + 1) y3
          rw [y4]
          exact fN_eq (by omega) (by unfold tnm at lt1; omega)
        rcases u12 with ⟨⟨f, f1, f2⟩, y2⟩ | ⟨y1, y2⟩
        · rw [y2, if_pos ⟨f, f1, (kf f f1).mp f2⟩]
        · rw [y2, if_neg (fun ⟨f, f1, f2⟩ => y1 f f1 ((kf f f1).mpr f2))]
      have F1 := toP u10 u2
      have s8 : sgS σ < mt (tyC b L) (sgS σ + 2) M + 1 := by
        have : ∀ m, sgS σ + 2 ≤ mt (tyC b L) (sgS σ + 2) m := by
          intro m
          induction m with
          | zero => exact Nat.le_refl _
          | succ m ih =>
            show _ ≤ (if tyC b L (mt (tyC b L) (sgS σ + 2) m + 1) = 3 then mt (tyC b L) (sgS σ + 2) m + 2 else mt (tyC b L) (sgS σ + 2) m + 1)
            split <;> omega
        have := this M
        omega
      refine ⟨h1, ?_, F1, ?_, ⟨?_, Or.inr (Or.inr (Or.inl ⟨u6, u7, u2, by rw [eM]; exact u3, by rw [eM]; exact u4, by rw [eM]; exact u9, by rw [eM]; exact u8⟩))⟩, ?_⟩
      · simp +decide only [e66_0, e66_1, e66_4, e66_7, e66_8, e66_11, e66_12, e66_44, e66_45, e66_48, e66_51, e66_52, e66_55, e66_58, e66_59, e66_62, e66_65, e66_66, e66_69, e66_72, e66_73, e66_74, e66_77, e66_77b, e66_78, q13, v1, v2, e4, z6', z7', z8', u1, (Cls_11 q1.1.1 : ob h (g + 2) 7), (rf_g (Cls_12 q1.1.1 : rf h (g + 2) 1 (g + 3)) : gR h (g + 2) 1 = (g + 3)), (rf_is (Cls_12 q1.1.1 : rf h (g + 2) 1 (g + 3)) : isR h (g + 2) 1), (Tok_0 (Cls_13 q1.1.1) : ob h (g + 3) 9), (rf_g (Tok_1 (Cls_13 q1.1.1) : rf h (g + 3) 0 (g + 4)) : gR h (g + 3) 0 = (g + 4)), (rf_is (Tok_1 (Cls_13 q1.1.1) : rf h (g + 3) 0 (g + 4)) : isR h (g + 3) 0), (rf_g (Tok_2 (Cls_13 q1.1.1) : rf h (g + 3) 1 (g + 5)) : gR h (g + 3) 1 = (g + 5)), (rf_is (Tok_2 (Cls_13 q1.1.1) : rf h (g + 3) 1 (g + 5)) : isR h (g + 3) 1), (rf_g (Tok_3 (Cls_13 q1.1.1) : rf h (g + 3) 2 (g + 6)) : gR h (g + 3) 2 = (g + 6)), (rf_is (Tok_3 (Cls_13 q1.1.1) : rf h (g + 3) 2 (g + 6)) : isR h (g + 3) 2), (rf_g (Tok_4 (Cls_13 q1.1.1) : rf h (g + 3) 3 (g + 7)) : gR h (g + 3) 3 = (g + 7)), (rf_is (Tok_4 (Cls_13 q1.1.1) : rf h (g + 3) 3 (g + 7)) : isR h (g + 3) 3), (Tok_5 (Cls_13 q1.1.1) : arI h (g + 4) 0), (rdI_0 (Tok_5 (Cls_13 q1.1.1) : arI h (g + 4) 0) : rdI h (g + 4)), (Tok_6 (Cls_13 q1.1.1) : aln h (g + 4) = 401), (Tok_7 (Cls_13 q1.1.1) : arI h (g + 5) 0), (rdI_0 (Tok_7 (Cls_13 q1.1.1) : arI h (g + 5) 0) : rdI h (g + 5)), (Tok_8 (Cls_13 q1.1.1) : aln h (g + 5) = 401), (Tok_9 (Cls_13 q1.1.1) : arL h (g + 6)), (Tok_10 (Cls_13 q1.1.1) : aln h (g + 6) = 401), (Tok_11 (Cls_13 q1.1.1) : arL h (g + 7)), (Tok_12 (Cls_13 q1.1.1) : aln h (g + 7) = 14), vkk_n, vkk_i, vkk_r, vkk_l, vkk_d, catS_nil, catS_i, catS_r, catS_l, catS_d, Nat.reduceAdd, Nat.reduceLeDiff, Nat.zero_le, Nat.le_refl, Option.bind_some, Option.toList_some, Option.toList_none, List.cons_append, List.nil_append, or_true, true_or, if_true, if_false, Int32.reduceLT, Int32.reduceLE, not_true, not_false_iff, true_and, and_true, false_and, and_false]
      · unfold stF CST sgS sgW sgN sgL sgB sgM sgF sgC
        simp only []
        have eM' : fmN b L σ = M := eM
        rw [eM', ← eW1]
        refine ⟨u11, u13, ⟨u14, by show σ.2.1 + 1 ≤ 6; exact u2⟩, ⟨(u10.gI (fun z => by unfold LFF QF at z; omega)).trans q5, q6, q7⟩, ⟨(u10.gI (fun z => by unfold LFF QF at z; omega)).trans q8, q9⟩, MB_fr u10 (fun z => by unfold QR at z; omega) q10, WID_fr F1 (fun a k f hf z => by unfold PF at z; omega) q11, fun f hf => ?_⟩
        have eN : sgN σ = σ.2.1 := rfl
        unfold fup
        by_cases ef : f = σ.2.1
        · rw [if_pos ef, if_pos ef, ef]
          exact ⟨u3, u4, ⟨u9, k1⟩, u15, u16, u17⟩
        · rw [if_neg ef, if_neg ef]
          refine FOK_fr u10 (fun a z => by unfold QR at z; omega) (fun a k z => by unfold LFF QF at z; omega) (q12 f (by show f < σ.2.1; omega))
      · rw [er, es]
        show _ = (0, mt (tyC b L) (sgS σ + 2) (fmN b L σ) + 1)
        rw [eM]
        exact u5
      · show sgS σ < mt (tyC b L) (sgS σ + 2) (fmN b L σ) + 1
        rw [eM]
        exact s8
    · obtain ⟨h1, u1, u2, u3⟩ := r1 z
      refine ⟨h1, ?_, u2, u3⟩
      simp +decide only [e66_0, e66_1, e66_4, e66_7, e66_8, e66_11, e66_12, e66_44, e66_45, e66_48, e66_51, e66_52, e66_55, e66_58, e66_59, e66_62, e66_65, e66_66, e66_69, e66_72, e66_73, e66_74, e66_77, e66_77b, e66_78, q13, v1, v2, e4, z6', z7', z8', u1, (Cls_11 q1.1.1 : ob h (g + 2) 7), (rf_g (Cls_12 q1.1.1 : rf h (g + 2) 1 (g + 3)) : gR h (g + 2) 1 = (g + 3)), (rf_is (Cls_12 q1.1.1 : rf h (g + 2) 1 (g + 3)) : isR h (g + 2) 1), (Tok_0 (Cls_13 q1.1.1) : ob h (g + 3) 9), (rf_g (Tok_1 (Cls_13 q1.1.1) : rf h (g + 3) 0 (g + 4)) : gR h (g + 3) 0 = (g + 4)), (rf_is (Tok_1 (Cls_13 q1.1.1) : rf h (g + 3) 0 (g + 4)) : isR h (g + 3) 0), (rf_g (Tok_2 (Cls_13 q1.1.1) : rf h (g + 3) 1 (g + 5)) : gR h (g + 3) 1 = (g + 5)), (rf_is (Tok_2 (Cls_13 q1.1.1) : rf h (g + 3) 1 (g + 5)) : isR h (g + 3) 1), (rf_g (Tok_3 (Cls_13 q1.1.1) : rf h (g + 3) 2 (g + 6)) : gR h (g + 3) 2 = (g + 6)), (rf_is (Tok_3 (Cls_13 q1.1.1) : rf h (g + 3) 2 (g + 6)) : isR h (g + 3) 2), (rf_g (Tok_4 (Cls_13 q1.1.1) : rf h (g + 3) 3 (g + 7)) : gR h (g + 3) 3 = (g + 7)), (rf_is (Tok_4 (Cls_13 q1.1.1) : rf h (g + 3) 3 (g + 7)) : isR h (g + 3) 3), (Tok_5 (Cls_13 q1.1.1) : arI h (g + 4) 0), (rdI_0 (Tok_5 (Cls_13 q1.1.1) : arI h (g + 4) 0) : rdI h (g + 4)), (Tok_6 (Cls_13 q1.1.1) : aln h (g + 4) = 401), (Tok_7 (Cls_13 q1.1.1) : arI h (g + 5) 0), (rdI_0 (Tok_7 (Cls_13 q1.1.1) : arI h (g + 5) 0) : rdI h (g + 5)), (Tok_8 (Cls_13 q1.1.1) : aln h (g + 5) = 401), (Tok_9 (Cls_13 q1.1.1) : arL h (g + 6)), (Tok_10 (Cls_13 q1.1.1) : aln h (g + 6) = 401), (Tok_11 (Cls_13 q1.1.1) : arL h (g + 7)), (Tok_12 (Cls_13 q1.1.1) : aln h (g + 7) = 14), vkk_n, vkk_i, vkk_r, vkk_l, vkk_d, catS_nil, catS_i, catS_r, catS_l, catS_d, Nat.reduceAdd, Nat.reduceLeDiff, Nat.zero_le, Nat.le_refl, Option.bind_some, Option.toList_some, Option.toList_none, List.cons_append, List.nil_append, or_true, true_or, if_true, if_false, Int32.reduceLT, Int32.reduceLE, not_true, not_false_iff, true_and, and_true, false_and, and_false]
  have z8' : ¬ nI (tyC b L (sgS σ)) = 8 := fun z => z8 (n8.mp z)
  by_cases z9 : tyC b L (sgS σ) = 9
  · have er : rTel (tyC b L) (sgN σ) (sgS σ) = rFll (tyC b L) (sgS σ) := by unfold rTel; rw [if_neg z6, if_neg z7, if_neg z8, if_pos z9]
    have es : stp1 b L σ = stI b L σ := by unfold stp1; rw [if_neg z6, if_neg z7, if_neg z8]
    have z9' := n9.mpr z9
    obtain ⟨r0, r1⟩ := c_readFill hP q1 q2 q10
    rw [er, es]
    refine ⟨fun z => ?_, fun z => ?_⟩
    · obtain ⟨h1, c, u1, u2, u3, u4, u5, u6, u7, u8, u9, u10, u11, u12⟩ := r0 z
      clear r0 r1
      have eM : flN b L σ = c := fcF_is _ _ _ u7 (by rw [u8]; decide) 17 0 (Nat.zero_le _) (by omega)
      refine ⟨h1, ?_, u9.mo (fun a z => by unfold PR; omega) (fun a k z => by unfold GF at z; unfold PF; omega), ?_, ⟨?_, Or.inr (Or.inr (Or.inr ⟨u5, u6, by rw [eM]; exact u2, by rw [eM]; exact u3, by rw [eM]; exact u7, by rw [eM]; exact u8⟩))⟩, ?_⟩
      · simp +decide only [e66_0, e66_1, e66_4, e66_7, e66_8, e66_11, e66_12, e66_44, e66_45, e66_48, e66_51, e66_52, e66_55, e66_58, e66_59, e66_62, e66_65, e66_66, e66_69, e66_72, e66_73, e66_74, e66_77, e66_77b, e66_78, q13, v1, v2, e4, z6', z7', z8', z9', u1, (Cls_11 q1.1.1 : ob h (g + 2) 7), (rf_g (Cls_12 q1.1.1 : rf h (g + 2) 1 (g + 3)) : gR h (g + 2) 1 = (g + 3)), (rf_is (Cls_12 q1.1.1 : rf h (g + 2) 1 (g + 3)) : isR h (g + 2) 1), (Tok_0 (Cls_13 q1.1.1) : ob h (g + 3) 9), (rf_g (Tok_1 (Cls_13 q1.1.1) : rf h (g + 3) 0 (g + 4)) : gR h (g + 3) 0 = (g + 4)), (rf_is (Tok_1 (Cls_13 q1.1.1) : rf h (g + 3) 0 (g + 4)) : isR h (g + 3) 0), (rf_g (Tok_2 (Cls_13 q1.1.1) : rf h (g + 3) 1 (g + 5)) : gR h (g + 3) 1 = (g + 5)), (rf_is (Tok_2 (Cls_13 q1.1.1) : rf h (g + 3) 1 (g + 5)) : isR h (g + 3) 1), (rf_g (Tok_3 (Cls_13 q1.1.1) : rf h (g + 3) 2 (g + 6)) : gR h (g + 3) 2 = (g + 6)), (rf_is (Tok_3 (Cls_13 q1.1.1) : rf h (g + 3) 2 (g + 6)) : isR h (g + 3) 2), (rf_g (Tok_4 (Cls_13 q1.1.1) : rf h (g + 3) 3 (g + 7)) : gR h (g + 3) 3 = (g + 7)), (rf_is (Tok_4 (Cls_13 q1.1.1) : rf h (g + 3) 3 (g + 7)) : isR h (g + 3) 3), (Tok_5 (Cls_13 q1.1.1) : arI h (g + 4) 0), (rdI_0 (Tok_5 (Cls_13 q1.1.1) : arI h (g + 4) 0) : rdI h (g + 4)), (Tok_6 (Cls_13 q1.1.1) : aln h (g + 4) = 401), (Tok_7 (Cls_13 q1.1.1) : arI h (g + 5) 0), (rdI_0 (Tok_7 (Cls_13 q1.1.1) : arI h (g + 5) 0) : rdI h (g + 5)), (Tok_8 (Cls_13 q1.1.1) : aln h (g + 5) = 401), (Tok_9 (Cls_13 q1.1.1) : arL h (g + 6)), (Tok_10 (Cls_13 q1.1.1) : aln h (g + 6) = 401), (Tok_11 (Cls_13 q1.1.1) : arL h (g + 7)), (Tok_12 (Cls_13 q1.1.1) : aln h (g + 7) = 14), vkk_n, vkk_i, vkk_r, vkk_l, vkk_d, catS_nil, catS_i, catS_r, catS_l, catS_d, Nat.reduceAdd, Nat.reduceLeDiff, Nat.zero_le, Nat.le_refl, Option.bind_some, Option.toList_some, Option.toList_none, List.cons_append, List.nil_append, or_true, true_or, if_true, if_false, Int32.reduceLT, Int32.reduceLE, not_true, not_false_iff, true_and, and_true, false_and, and_false]
      · unfold stI
        rw [eM]
        exact ⟨u10, u11, ⟨(u9.gI (fun z => by unfold GF at z; omega)).trans q3, q4⟩, ⟨(u9.gI (fun z => by unfold GF at z; omega)).trans q5, q6, q7⟩, ⟨(u9.gI (fun z => by unfold GF at z; omega)).trans q8, q9⟩, u12, WID_fr u9 (fun a k f hf z => by unfold GF at z; omega) q11, fun f hf => FOK_fr u9 (fun a z => by omega) (fun a k z => by unfold GF at z; omega) (q12 f hf)⟩
      · rw [er, es]
        show _ = (0, sgS σ + 2 + flN b L σ + 1)
        rw [eM]
        exact u4
      · show sgS σ < sgS σ + 2 + flN b L σ + 1
        omega
    · obtain ⟨h1, u1, u2, u3⟩ := r1 z
      refine ⟨h1, ?_, u2.mo (fun a z => by unfold PR; omega) (fun a k z => by unfold GF at z; unfold PF; omega), u3⟩
      simp +decide only [e66_0, e66_1, e66_4, e66_7, e66_8, e66_11, e66_12, e66_44, e66_45, e66_48, e66_51, e66_52, e66_55, e66_58, e66_59, e66_62, e66_65, e66_66, e66_69, e66_72, e66_73, e66_74, e66_77, e66_77b, e66_78, q13, v1, v2, e4, z6', z7', z8', z9', u1, (Cls_11 q1.1.1 : ob h (g + 2) 7), (rf_g (Cls_12 q1.1.1 : rf h (g + 2) 1 (g + 3)) : gR h (g + 2) 1 = (g + 3)), (rf_is (Cls_12 q1.1.1 : rf h (g + 2) 1 (g + 3)) : isR h (g + 2) 1), (Tok_0 (Cls_13 q1.1.1) : ob h (g + 3) 9), (rf_g (Tok_1 (Cls_13 q1.1.1) : rf h (g + 3) 0 (g + 4)) : gR h (g + 3) 0 = (g + 4)), (rf_is (Tok_1 (Cls_13 q1.1.1) : rf h (g + 3) 0 (g + 4)) : isR h (g + 3) 0), (rf_g (Tok_2 (Cls_13 q1.1.1) : rf h (g + 3) 1 (g + 5)) : gR h (g + 3) 1 = (g + 5)), (rf_is (Tok_2 (Cls_13 q1.1.1) : rf h (g + 3) 1 (g + 5)) : isR h (g + 3) 1), (rf_g (Tok_3 (Cls_13 q1.1.1) : rf h (g + 3) 2 (g + 6)) : gR h (g + 3) 2 = (g + 6)), (rf_is (Tok_3 (Cls_13 q1.1.1) : rf h (g + 3) 2 (g + 6)) : isR h (g + 3) 2), (rf_g (Tok_4 (Cls_13 q1.1.1) : rf h (g + 3) 3 (g + 7)) : gR h (g + 3) 3 = (g + 7)), (rf_is (Tok_4 (Cls_13 q1.1.1) : rf h (g + 3) 3 (g + 7)) : isR h (g + 3) 3), (Tok_5 (Cls_13 q1.1.1) : arI h (g + 4) 0), (rdI_0 (Tok_5 (Cls_13 q1.1.1) : arI h (g + 4) 0) : rdI h (g + 4)), (Tok_6 (Cls_13 q1.1.1) : aln h (g + 4) = 401), (Tok_7 (Cls_13 q1.1.1) : arI h (g + 5) 0), (rdI_0 (Tok_7 (Cls_13 q1.1.1) : arI h (g + 5) 0) : rdI h (g + 5)), (Tok_8 (Cls_13 q1.1.1) : aln h (g + 5) = 401), (Tok_9 (Cls_13 q1.1.1) : arL h (g + 6)), (Tok_10 (Cls_13 q1.1.1) : aln h (g + 6) = 401), (Tok_11 (Cls_13 q1.1.1) : arL h (g + 7)), (Tok_12 (Cls_13 q1.1.1) : aln h (g + 7) = 14), vkk_n, vkk_i, vkk_r, vkk_l, vkk_d, catS_nil, catS_i, catS_r, catS_l, catS_d, Nat.reduceAdd, Nat.reduceLeDiff, Nat.zero_le, Nat.le_refl, Option.bind_some, Option.toList_some, Option.toList_none, List.cons_append, List.nil_append, or_true, true_or, if_true, if_false, Int32.reduceLT, Int32.reduceLE, not_true, not_false_iff, true_and, and_true, false_and, and_false]
  have z9' : ¬ nI (tyC b L (sgS σ)) = 9 := fun z => z9 (n9.mp z)
  have er : rTel (tyC b L) (sgN σ) (sgS σ) = (1, sgS σ) := by unfold rTel; rw [if_neg z6, if_neg z7, if_neg z8, if_neg z9]
  rw [er]
  refine ⟨fun z => absurd z (by show ¬ (1 : Nat) = 0; decide), fun _ => ?_⟩
  obtain ⟨h1, u1, u2, u3⟩ := c_stop (f := 1) q1
  have u1 : ev 70 0 [some (.ref (g + 2)), some (.int 1)] [] h = _ := u1
  refine ⟨h1, ?_, u2.mo (fun a z => z.elim) (fun a k z => by unfold PF; omega), u3⟩
  simp +decide only [e66_0, e66_1, e66_4, e66_7, e66_8, e66_11, e66_12, e66_44, e66_45, e66_48, e66_51, e66_52, e66_55, e66_58, e66_59, e66_62, e66_65, e66_66, e66_69, e66_72, e66_73, e66_74, e66_77, e66_77b, e66_78, q13, v1, v2, e4, z6', z7', z8', z9', u1, (Cls_11 q1.1.1 : ob h (g + 2) 7), (rf_g (Cls_12 q1.1.1 : rf h (g + 2) 1 (g + 3)) : gR h (g + 2) 1 = (g + 3)), (rf_is (Cls_12 q1.1.1 : rf h (g + 2) 1 (g + 3)) : isR h (g + 2) 1), (Tok_0 (Cls_13 q1.1.1) : ob h (g + 3) 9), (rf_g (Tok_1 (Cls_13 q1.1.1) : rf h (g + 3) 0 (g + 4)) : gR h (g + 3) 0 = (g + 4)), (rf_is (Tok_1 (Cls_13 q1.1.1) : rf h (g + 3) 0 (g + 4)) : isR h (g + 3) 0), (rf_g (Tok_2 (Cls_13 q1.1.1) : rf h (g + 3) 1 (g + 5)) : gR h (g + 3) 1 = (g + 5)), (rf_is (Tok_2 (Cls_13 q1.1.1) : rf h (g + 3) 1 (g + 5)) : isR h (g + 3) 1), (rf_g (Tok_3 (Cls_13 q1.1.1) : rf h (g + 3) 2 (g + 6)) : gR h (g + 3) 2 = (g + 6)), (rf_is (Tok_3 (Cls_13 q1.1.1) : rf h (g + 3) 2 (g + 6)) : isR h (g + 3) 2), (rf_g (Tok_4 (Cls_13 q1.1.1) : rf h (g + 3) 3 (g + 7)) : gR h (g + 3) 3 = (g + 7)), (rf_is (Tok_4 (Cls_13 q1.1.1) : rf h (g + 3) 3 (g + 7)) : isR h (g + 3) 3), (Tok_5 (Cls_13 q1.1.1) : arI h (g + 4) 0), (rdI_0 (Tok_5 (Cls_13 q1.1.1) : arI h (g + 4) 0) : rdI h (g + 4)), (Tok_6 (Cls_13 q1.1.1) : aln h (g + 4) = 401), (Tok_7 (Cls_13 q1.1.1) : arI h (g + 5) 0), (rdI_0 (Tok_7 (Cls_13 q1.1.1) : arI h (g + 5) 0) : rdI h (g + 5)), (Tok_8 (Cls_13 q1.1.1) : aln h (g + 5) = 401), (Tok_9 (Cls_13 q1.1.1) : arL h (g + 6)), (Tok_10 (Cls_13 q1.1.1) : aln h (g + 6) = 401), (Tok_11 (Cls_13 q1.1.1) : arL h (g + 7)), (Tok_12 (Cls_13 q1.1.1) : aln h (g + 7) = 14), vkk_n, vkk_i, vkk_r, vkk_l, vkk_d, catS_nil, catS_i, catS_r, catS_l, catS_d, Nat.reduceAdd, Nat.reduceLeDiff, Nat.zero_le, Nat.le_refl, Option.bind_some, Option.toList_some, Option.toList_none, List.cons_append, List.nil_append, or_true, true_or, if_true, if_false, Int32.reduceLT, Int32.reduceLE, not_true, not_false_iff, true_and, and_true, false_and, and_false]
