set_option maxHeartbeats 4000000 in
/-! read: the call, whole -/
/-- a refused text: both, whole -/
theorem rd_bad {h ha h1 : VG} {g c p t n : Nat} {y : Int32} {pl : Nat} (R : Inv h g) (hcp : (c = 8 ∧ p = 90) ∨ (c = 90 ∧ p = 8)) (r3 : rf h g 3 (g + c)) (r4 : rf h g 4 (g + p)) (n6 : n ≤ 6) (e2 : gI h (g + c) 2 = nI n) (e19 : gI h (g + 266) 19 = nI n) (hf : ∀ f, f < n → RFm h g (c + 4 + 13 * f) f) (e1 : gI h g 1 = nI t) (u1 : ev 65 0 [some (.ref (g + 2)), some (.ref (g + 1)), some (.int (nI t)), some (.ref (g + p)), none] [] h = some (some (.int y), h1)) (x1 : Fr (TK3 g) NF h ha) (sa : Sh ha g) (x2 : Fr (PR (g + p)) (PF g (g + p)) (pR ha (g + 2) 2 (g + p)) h1) (s1 : Sh h1 g) (y0 : ¬ y = 0) (e0 : gI h1 (g + 2) 0 = nI pl)
  (mo : ∀ h2, Sh h2 g → gI h2 (g + 266) 2 = gI h (g + 266) 2 → (∀ j, aI h2 (g + 267) j = aI h (g + 267) j) → (∀ j, aL h2 (g + 273) j = aL h (g + 273) j) → ∃ h3, ev 153 0 [some (.ref (g + 266)), none] [] h2 = some (some (.int y), h3) ∧ Fr (RMR g) (FMR g) h2 h3 ∧ gI h3 (g + 266) 2 = 0 ∧ gI h3 (g + 266) 16 = nI pl) : CalI h g 96 [some (.ref g), none, none] 153 [some (.ref (g + 266)), none] := by
  obtain ⟨d1, rk3, rk4⟩ := rd_shape (show g + p = g + 8 ∨ g + p = g + 90 by omega) sa x1 x2
  have en := c_rdB (c := c) (ha := ha) R hcp r4 e1 u1 s1
  have og1 : ob h1 g 10 := Cls_0 s1.1
  have o7 : ob h1 (g + 2) 7 := Cls_11 s1.1
  have n2 : ¬ g + 2 = g := by omega
  have x3 : Fr NR (fun a k => a = g ∧ (k = 1 ∨ k = 5)) h1 (pI (pI h1 g 1 0) g 5 (nI pl)) := (Fr_pI _ _ _ _ ⟨rfl, Or.inl rfl⟩).tr (Fr_pI _ _ _ _ ⟨rfl, Or.inr rfl⟩)
  have f1 : gI (pI (pI h1 g 1 0) g 5 (nI pl)) g 1 = 0 := by simp +decide only [gI_pI, isI_pI, (eq_true (isI_ob og1 rfl : isI h1 g 1)), true_and, and_true, false_and, and_false, if_true, if_false]
  have f5 : gI (pI (pI h1 g 1 0) g 5 (nI pl)) g 5 = nI pl := by simp +decide only [gI_pI, isI_pI, (eq_true (isI_ob og1 rfl : isI h1 g 5)), true_and, and_true, false_and, and_false, if_true, if_false]
  have en2 : ev 96 25 [some (.ref g), some (.int y), none] [] (pI h1 g 1 0) = some (some (.int y), pI (pI h1 g 1 0) g 5 (nI pl)) := by
    have g0 : gI (pI h1 g 1 0) (g + 2) 0 = nI pl := by rw [gI_pI_ne _ _ _ _ _ _ (by omega)]; exact e0
    simp +decide only [e96_25, e96_26, e96_29, e96_30, e96_31, e96_34, e96_37, e96_40, e96_41, e96_42, e96_43, e96_46, e96_47, e96_48, e96_49, e96_52, e96_55, e96_56, e96_57, y0, og1, o7, ob_pI, isR_pI, gR_pI, rf_g (Cls_2 s1.1), rf_is (Cls_2 s1.1), g0, vkk_n, vkk_i, vkk_r, vkk_l, vkk_d, catS_nil, catS_i, catS_r, catS_l, catS_d, Nat.reduceAdd, Nat.reduceLeDiff, Nat.zero_le, Nat.le_refl, Option.bind_some, Option.toList_some, Option.toList_none, List.cons_append, List.nil_append, or_true, true_or, if_true, if_false, Int32.reduceLT, Int32.reduceLE, not_true, not_false_iff, true_and, and_true, false_and, and_false]
  generalize pI (pI h1 g 1 0) g 5 (nI pl) = h2 at x3 f1 f5 en2
  have s2 : Sh h2 g := Sh_fr x3 (fun a z => z.elim) s1
  have D2 := d1.tr x3.dt
  have nR : ∀ a, ((TK3 g a ∨ PR (g + p) a) ∨ NR a) → (g + 3 < a ∧ a < g + 172) := fun a z => by
    unfold TK3 PR at z
    rcases z with z | z
    · omega
    · exact z.elim
  have nF : ∀ a k, (PF g (g + p) a k ∨ (a = g ∧ (k = 1 ∨ k = 5))) → a < g + 172 := fun a k z => by
    unfold PF at z
    omega
  obtain ⟨h3, v1, v2, v3, v4⟩ := mo h2 s2 (D2.gI (fun z => by have := nF _ _ z; omega)) (fun j => D2.I (fun z => by have := nR _ z; omega) j) (fun j => D2.L (fun z => by have := nR _ z; omega) j)
  have s3 : Sh h3 g := Sh_fr v2 (fun a z => by unfold RMR at z; omega) s2
  have D3 : Dt (fun a => (TK3 g a ∨ PR (g + p) a) ∨ RMR g a) (fun a k => (PF g (g + p) a k ∨ (a = g ∧ (k = 1 ∨ k = 5))) ∨ FMR g a k) h h3 := by
    have d := D2.tr v2.dt
    refine ⟨fun a hn => d.1 a (fun z => hn ?_), fun a k hn => d.2.1 a k hn, d.2.2⟩
    rcases z with (z | z) | z
    · exact Or.inl z
    · exact z.elim
    · exact Or.inr z
  have rr3 : rf h3 g 3 (g + c) := (rf_kp v2.1 ..).mpr ((rf_kp x3.1 ..).mpr (rk3 _ r3))
  have f1' : gI h3 g 1 = 0 := (v2.gI (fun z => by unfold FMR at z; omega)).trans f1
  have f5' : gI h3 g 5 = gI h3 (g + 266) 16 := ((v2.gI (fun z => by unfold FMR at z; omega)).trans f5).trans v4.symm
  exact ⟨y, h2, h3, en.trans en2, v1, Inv_rdB R hcp s3 D3 rr3 n n6 e2 e19 hf f1' v3 f5', D3.two⟩
theorem bOk_of {h : VG} {P : Nat} {M : Nat → Nat} (q : MB h P M) : bOk h (P + 2) := fun i hi => ⟨nI (M i), (q i hi).2⟩
theorem k_read (h : VG) (g : Nat) (R : Inv h g) : CalI h g 96 [some (.ref g), none, none] 153 [some (.ref (g + 266)), none] := by
  obtain ⟨c, p, hcp, r3, r4, n, n6, e2, e19, hf⟩ := plans_of R
  obtain ⟨b, hb⟩ := tape_b R.tape
  obtain ⟨⟨t, ht, e1, et⟩, -⟩ := R.tape
  have hP : g + p = g + 8 ∨ g + p = g + 90 := by omega
  have tx : TXc h g b t := ⟨ht, fun i hi => ⟨(hb i (by omega)).1, (hb i (by omega)).2.1⟩⟩
  obtain ⟨ha, h1, TT, y, u1, x1, sa, x2, s1, re, sc1, sc2, sc3⟩ := c_faultOf hP R.sh tx (fun j hj => (R.cn.2.1 j hj).1) (wid_of R.cn (by omega))
  have mkb : ∀ h2 : VG, (∀ j, aI h2 (g + 267) j = aI h (g + 267) j) → ∀ x, x < t → b x < 256 ∧ aI h2 (g + 267) x = sB (b x) := fun h2 q x hx => ⟨(hb x (by omega)).1, (q x).trans (hb x (by omega)).2.2⟩
  have mkk : ∀ h2 : VG, (∀ j, aL h2 (g + 273) j = aL h (g + 273) j) → ∀ j, j < 14 → aL h2 (g + 273) j = mKey j := fun h2 q j hj => (q j).trans (R.cn.2.1 j hj).2
  rcases re with ⟨N, N4, yE, cs, ok, t0⟩ | ⟨N, N4, sT, ok, t0, f0, yE, st⟩
  case inr =>
    obtain ⟨z4, z0, z5⟩ := st
    have f2 : (rTel (tyC b t) (sgN (LSt b t N)) (sgS (LSt b t N))).1 ≤ 2 := by
      obtain ⟨h9, c9, a1, a2, q9, x9, a5, a6, a7, a8, a9⟩ := c_mread0 R.sh ht et (mkb h (fun _ => rfl)) (mkk h (fun _ => rfl))
      obtain ⟨h8, b1, b2, b3⟩ := c_mparseB (some (.int (nI t))) ok q9 x9 a8 t0 f0
      exact b3.1
    refine rd_bad R hcp r3 r4 n6 e2 e19 hf e1 u1 x1 sa x2 s1 ?_ z0 (fun h2 q1 q2 q3 q4 => ?_)
    · rw [yE]
      exact fun z => f0 ((nI_eq (b := 0) (by omega) (by decide)).mp z)
    · rw [yE]
      exact c_mreadB q1 ht (q2.trans et) (mkb h2 q3) (mkk h2 q4) ok t0 f0
  by_cases w0 : (sgW (LSt b t N)).1 = 0
  case neg =>
    have wf := cs.2.1
    have w6 := wf.1
    refine rd_bad R hcp r3 r4 n6 e2 e19 hf e1 u1 x1 sa x2 s1 ?_ (wf.2.2.1 w0) (fun h2 q1 q2 q3 q4 => ?_)
    · rw [yE]
      exact fun z => w0 ((nI_eq (b := 0) (by omega) (by decide)).mp z)
    · rw [yE]
      exact c_mreadW q1 ht (q2.trans et) (mkb h2 q3) (mkk h2 q4) ok t0 w0
  -- a text that is right
  rw [w0] at yE
  have yE : y = 0 := yE
  subst yE
  obtain ⟨d1, rk3, rk4⟩ := rd_shape hP sa x1 x2
  have en := c_rdB (c := c) (ha := ha) R hcp r4 e1 u1 s1
  have og1 : ob h1 g 10 := Cls_0 s1.1
  have cs' := cs
  obtain ⟨-, -, ⟨cv1, cv2⟩, ⟨cv3, cv4, cv5⟩, ⟨cv6, cv7⟩, cv8, cv9, cv10⟩ := cs'
  have x3 : Fr NR (fun a k => a = g ∧ k = 1) h1 (pI h1 g 1 0) := Fr_pI _ _ _ _ ⟨rfl, rfl⟩
  have f1 : gI (pI h1 g 1 0) g 1 = 0 := by simp +decide only [gI_pI, (eq_true (isI_ob og1 rfl : isI h1 g 1)), true_and, and_true, if_true]
  have ra3 : rf (pI h1 g 1 0) g 3 (g + c) := (rf_kp x3.1 ..).mpr (rk3 _ r3)
  have ra4 : rf (pI h1 g 1 0) g 4 (g + p) := (rf_kp x3.1 ..).mpr (rk4 _ r4)
  have sH : Sh (pI h1 g 1 0) g := Sh_fr x3 (fun a z => z.elim) s1
  have hz1 : gI h1 (g + p + 1) 2 = 0 ∨ gI h1 (g + p + 1) 2 = 1 := by
    rw [cv6]
    rcases (by omega : sgB (LSt b t N) = 0 ∨ sgB (LSt b t N) = 1) with z | z <;> rw [z]
    · exact Or.inl rfl
    · exact Or.inr rfl
  rw [show (pI h1 g 1 0) = pI h1 g 1 0 from rfl] at en
  generalize pI h1 g 1 0 = H at x3 f1 ra3 ra4 sH en
  have ogH : ob H g 10 := Cls_0 sH.1
  have A1 : Ag (fun a k => a = g ∧ (k = 3 ∨ k = 4)) H (pR H g 4 (g + c)) := pR_ag H g 4 (g + c) 10 ogH ⟨rfl, Or.inr rfl⟩
  have ogI : ob (pR H g 4 (g + c)) g 10 := A1.obe.mpr ogH
  have A2 : Ag (fun a k => a = g ∧ (k = 3 ∨ k = 4)) (pR H g 4 (g + c)) (pR (pR H g 4 (g + c)) g 3 (g + p)) := pR_ag _ g 3 (g + p) 10 ogI ⟨rfl, Or.inl rfl⟩
  have A23 : Ag (fun a k => a = g ∧ k = 3) (pR H g 4 (g + c)) (pR (pR H g 4 (g + c)) g 3 (g + p)) := pR_ag _ g 3 (g + p) 10 ogI ⟨rfl, rfl⟩
  have rn4 : rf (pR (pR H g 4 (g + c)) g 3 (g + p)) g 4 (g + c) := (A23.rfe (fun z => by omega)).mpr (pR_rf H g 4 (g + c) 10 ogH rfl)
  have rn3 : rf (pR (pR H g 4 (g + c)) g 3 (g + p)) g 3 (g + p) := pR_rf _ g 3 (g + p) 10 ogI rfl
  have sJ : Sh (pR (pR H g 4 (g + c)) g 3 (g + p)) g := Sh_ag (A1.tr A2) (fun b j z => Or.inl z) (by
    rcases hcp with ⟨z1, z2⟩ | ⟨z1, z2⟩
    · rw [z1, z2] at rn3 rn4 ⊢
      exact Or.inr ⟨rn3, rn4⟩
    · rw [z1, z2] at rn3 rn4 ⊢
      exact Or.inl ⟨rn3, rn4⟩) sH
  have dJ := (pR_dt H g 4 (g + c) 10 ogH rfl).tr (pR_dt _ g 3 (g + p) 10 ogI rfl)
  have en2 : ev 96 25 [some (.ref g), some (.int 0), none] [] H = ev 96 60 [some (.ref g), some (.int 0), some (.ref (g + p))] [] (pR (pR H g 4 (g + c)) g 3 (g + p)) := by
    simp +decide only [e96_25, e96_26, e96_29, e96_30, e96_31, e96_34, e96_37, e96_40, e96_41, e96_42, e96_43, e96_46, e96_47, e96_48, e96_49, e96_52, e96_55, e96_56, e96_57, ogH, ogI, rf_g ra3, rf_is ra3, rf_g ra4, rf_is ra4, vkk_n, vkk_i, vkk_r, vkk_l, vkk_d, catS_nil, catS_i, catS_r, catS_l, catS_d, Nat.reduceAdd, Nat.reduceLeDiff, Nat.zero_le, Nat.le_refl, Option.bind_some, Option.toList_some, Option.toList_none, List.cons_append, List.nil_append, or_true, true_or, if_true, if_false, Int32.reduceLT, Int32.reduceLE, not_true, not_false_iff, true_and, and_true, false_and, and_false]
  generalize pR (pR H g 4 (g + c)) g 3 (g + p) = J at A2 rn4 rn3 sJ dJ en2
  have ogJ : ob J g 10 := Cls_0 sJ.1
  have x5 : Fr NR (fun a k => a = g ∧ k = 5) J (pI J g 5 (-1)) := Fr_pI _ _ _ _ ⟨rfl, rfl⟩
  have f5 : gI (pI J g 5 (-1)) g 5 = -1 := by simp +decide only [gI_pI, (eq_true (isI_ob ogJ rfl : isI J g 5)), true_and, and_true, if_true]
  have en3 : ev 96 60 [some (.ref g), some (.int 0), some (.ref (g + p))] [] J = ev 96 66 [some (.ref g), some (.int 0), some (.ref (g + p))] [.ref g] (pI J g 5 (-1)) := by
    simp +decide only [e96_60, e96_61, e96_62, e96_65, ogJ, ob_pI, vkk_n, vkk_i, vkk_r, vkk_l, vkk_d, catS_nil, catS_i, catS_r, catS_l, catS_d, Nat.reduceAdd, Nat.reduceLeDiff, Nat.zero_le, Nat.le_refl, Option.bind_some, Option.toList_some, Option.toList_none, List.cons_append, List.nil_append, or_true, true_or, if_true, if_false, Int32.reduceLT, Int32.reduceLE, not_true, not_false_iff, true_and, and_true, false_and, and_false]
  have rK : rf (pI J g 5 (-1)) g 3 (g + p) := (rf_kp x5.1 ..).mpr rn3
  have sK : Sh (pI J g 5 (-1)) g := Sh_fr x5 (fun a z => z.elim) sJ
  generalize pI J g 5 (-1) = K at x5 f5 en3 rK sK
  have dK := (x3.dt.tr dJ).tr x5.dt
  have nRK : ∀ a, ((NR a ∨ (NR a ∨ NR a)) ∨ NR a) → False := fun a z => by
    rcases z with (z | (z | z)) | z
    · exact z
    · exact z
    · exact z
    · exact z
  have nFK : ∀ a k, (((a = g ∧ k = 1) ∨ (NF a k ∨ NF a k)) ∨ (a = g ∧ k = 5)) → a = g ∧ (k = 1 ∨ k = 5) := fun a k z => by
    rcases z with (z | (z | z)) | z
    · exact ⟨z.1, Or.inl z.2⟩
    · exact z.elim
    · exact z.elim
    · exact ⟨z.1, Or.inr z.2⟩
  have mbK : bOk K (g + p + 2) := fun i hi => ⟨nI (sgM (LSt b t N) i), (dK.I (fun z => nRK _ z) i).trans (cv8 i hi).2⟩
  obtain ⟨h2, w1, w2, w3, w4, w5, w6, w7, w8, w9, w10, w11, w12⟩ := c_anew K g (g + p) hP sK rK mbK (by rw [dK.gI (fun z => by have := nFK _ _ z; omega)]; exact hz1)
  have ogK : ob K g 10 := Cls_0 sK.1
  have en4 : ev 96 66 [some (.ref g), some (.int 0), some (.ref (g + p))] [.ref g] K = some (some (.int 0), h2) := by
    simp +decide only [e96_66, e96_69, e96_70, ogK, w1, vkk_n, vkk_i, vkk_r, vkk_l, vkk_d, catS_nil, catS_i, catS_r, catS_l, catS_d, Nat.reduceAdd, Nat.reduceLeDiff, Nat.zero_le, Nat.le_refl, Option.bind_some, Option.toList_some, Option.toList_none, List.cons_append, List.nil_append, or_true, true_or, if_true, if_false, Int32.reduceLT, Int32.reduceLE, not_true, not_false_iff, true_and, and_true, false_and, and_false]
  have s2 : Sh h2 g := Sh_fr w2 (fun a z => by omega) sK
  have d2 := d1.tr (dK.tr w2.dt)
  have nR2 : ∀ a, ((TK3 g a ∨ PR (g + p) a) ∨ (((NR a ∨ (NR a ∨ NR a)) ∨ NR a) ∨ ((g + 174 ≤ a ∧ a ≤ g + 200) ∨ a = g + 260))) → a < g + 266 := fun a z => by
    rcases z with z | z | z
    · unfold TK3 PR at z
      omega
    · exact (nRK _ z).elim
    · omega
  have nF2 : ∀ a k, (PF g (g + p) a k ∨ ((((a = g ∧ k = 1) ∨ (NF a k ∨ NF a k)) ∨ (a = g ∧ k = 5)) ∨ ((g + 172 ≤ a ∧ a ≤ g + 200) ∨ (a = g ∧ (k = 9 ∨ k = 10))))) → a < g + 266 := fun a k z => by
    rcases z with z | z | z
    · unfold PF at z
      omega
    · have := nFK _ _ z
      omega
    · omega
  obtain ⟨h3, m1, m2, m3, m4, m5, m6, m7, m8, m9, m10, m11, m12, m13, m14, m15⟩ := c_mreadA s2 ht ((d2.gI (fun z => by have := nF2 _ _ z; omega)).trans et) (mkb h2 (fun j => d2.I (fun z => by have := nR2 _ z; omega) j)) (mkk h2 (fun j => d2.L (fun z => by have := nR2 _ z; omega) j)) ok t0 w0 cv7
  have s3 : Sh h3 g := Sh_fr m2 (fun a z => by unfold RMA at z; omega) s2
  have d3 : Dt (fun a => ((g + 174 ≤ a ∧ a ≤ g + 200) ∨ a = g + 260) ∨ RMA g a) (fun a k => ((g + 172 ≤ a ∧ a ≤ g + 200) ∨ (a = g ∧ (k = 1 ∨ k = 5 ∨ k = 9 ∨ k = 10))) ∨ FMA g a k) h1 h3 := by
    have d := (dK.tr w2.dt).tr m2.dt
    refine ⟨fun a hn => d.1 a (fun z => hn ?_), fun a k hn => d.2.1 a k (fun z => hn ?_), d.2.2⟩
    · rcases z with (z | z) | z
      · exact (nRK _ z).elim
      · exact Or.inl z
      · exact Or.inr z
    · rcases z with (z | z) | z
      · have := nFK _ _ z
        omega
      · omega
      · exact Or.inr z
  have NA : ∀ a k, FMA g a k → a = g + 266 := fun a k z => z.1
  have NB : ∀ a, RMA g a → g + 267 < a := fun a z => by
    unfold RMA at z
    omega
  have inv : Inv h3 g := by
    refine Inv_rdA R hcp s3 d1 d3 ((rf_kp m2.1 ..).mpr ((rf_kp w2.1 ..).mpr rK)) cs (fun f hf => (FP_N ok N (Nat.le_refl _)).1 f hf |>.2.2.2) ?_ m3 ?_ m4 m5 m6 m7 m8 m9 m10 m11 m12 m13 m14 m15 ?_ ?_ (fun i hi => ?_) (fun r hr => ?_) ?_ (fun q hq => ⟨?_, ?_⟩) ?_ ?_ ?_ ?_
    · rw [m2.gI (fun z => by have := NA _ _ z; omega), w2.gI (fun z => by omega), x5.gI (fun z => by omega), dJ.gI (fun z => by rcases z with z | z <;> exact z)]
      exact f1
    · rw [m2.gI (fun z => by have := NA _ _ z; omega), w2.gI (fun z => by omega)]
      exact f5
    · rw [m2.gI (fun z => by have := NA _ _ z; omega), w3]
      exact dK.gI (fun z => by have := nFK _ _ z; omega)
    · rw [m2.gI (fun z => by have := NA _ _ z; omega), w4]
      exact dK.gI (fun z => by have := nFK _ _ z; omega)
    · rw [m2.I (fun z => by have := NB _ z; omega), w5 i hi]
      exact dK.I (fun z => nRK _ z) i
    · rw [m2.L (fun z => by have := NB _ z; omega)]
      exact w6 r hr
    · rw [m2.gI (fun z => by have := NA _ _ z; omega)]
      exact w7
    · rw [m2.gI (fun z => by have := NA _ _ z; omega)]
      exact (w8 q hq).1
    · rw [m2.gI (fun z => by have := NA _ _ z; omega)]
      exact (w8 q hq).2
    · rw [m2.I (fun z => by have := NB _ z; omega)]
      exact w9
    · rw [m2.I (fun z => by have := NB _ z; omega)]
      exact w10
    · rw [m2.gI (fun z => by have := NA _ _ z; omega)]
      exact w11
    · rw [m2.gI (fun z => by have := NA _ _ z; omega)]
      exact w12
  exact ⟨0, h2, h3, en.trans (en2.trans (en3.trans en4)), m1, inv, d3.two.trans d1.two⟩
