set_option maxHeartbeats 4000000 in
/-! read: the call -/
/-- the plan that stands, the spare one -/
theorem plans_of {h : VG} {g : Nat} (R : Inv h g) : ∃ c p, ((c = 8 ∧ p = 90) ∨ (c = 90 ∧ p = 8)) ∧ rf h g 3 (g + c) ∧ rf h g 4 (g + p) ∧ ∃ n, n ≤ 6 ∧ gI h (g + c) 2 = nI n ∧ gI h (g + 266) 19 = nI n ∧ ∀ f, f < n → RFm h g (c + 4 + 13 * f) f := by
  obtain ⟨c, c1, c2, c3⟩ := R.pl
  rcases Cls_16 R.cls with ⟨x, y⟩ | ⟨x, y⟩
  · have e := rf_u c2 x
    exact ⟨c, 90, Or.inl ⟨by omega, rfl⟩, c2, y, c3⟩
  · have e := rf_u c2 x
    exact ⟨c, 8, Or.inr ⟨by omega, rfl⟩, c2, y, c3⟩
theorem wid_of {h : VG} {g p : Nat} (R : RCn h g) (hp : p = 8 ∨ p = 90) : WID h (g + p) := by
  intro f hf
  obtain ⟨a1, a2⟩ := R.2.2 f p hf hp
  rw [show g + p + 4 + 13 * f + 5 = g + (p + 4 + 13 * f + 5) by omega, show g + p + 4 + 13 * f + 7 = g + (p + 4 + 13 * f + 7) by omega]
  exact ⟨a1, a2⟩
def TK3 (g a : Nat) : Prop := a = g + 4 ∨ a = g + 5 ∨ a = g + 6
theorem rd_shape {h ha h1 : VG} {g P : Nat} (hP : P = g + 8 ∨ P = g + 90) (s1 : Sh ha g) (x1 : Fr (TK3 g) NF h ha) (x2 : Fr (PR P) (PF g P) (pR ha (g + 2) 2 P) h1) : Dt (fun a => TK3 g a ∨ PR P a) (PF g P) h h1 ∧ (∀ x, rf h g 3 x → rf h1 g 3 x) ∧ (∀ x, rf h g 4 x → rf h1 g 4 x) := by
  have o7 : ob ha (g + 2) 7 := Cls_11 s1.1
  have A : Ag (fun a k => a = g + 2 ∧ k = 2) ha (pR ha (g + 2) 2 P) := pR_ag ha (g + 2) 2 P 7 o7 ⟨rfl, rfl⟩
  have d := (x1.dt.tr (pR_dt ha (g + 2) 2 P 7 o7 rfl)).tr x2.dt
  refine ⟨⟨fun a hn j => d.1 a (fun z => hn (by rcases z with (z | z) | z; exact Or.inl z; exact z.elim; exact Or.inr z)) j, fun a k hn => d.2.1 a k (fun z => hn (by rcases z with (z | z) | z; exact z.elim; exact z.elim; exact z)), d.2.2⟩, fun x hx => (rf_kp x2.1 ..).mpr ((A.rfe (fun z => by omega)).mpr ((rf_kp x1.1 ..).mpr hx)), fun x hx => (rf_kp x2.1 ..).mpr ((A.rfe (fun z => by omega)).mpr ((rf_kp x1.1 ..).mpr hx))⟩
/-- what the relation says behind a text that is refused -/
theorem Inv_rdB {h h3 : VG} {g c p : Nat} (R : Inv h g) (hcp : (c = 8 ∧ p = 90) ∨ (c = 90 ∧ p = 8)) (s3 : Sh h3 g) (d : Dt (fun a => (TK3 g a ∨ PR (g + p) a) ∨ RMR g a) (fun a k => (PF g (g + p) a k ∨ (a = g ∧ (k = 1 ∨ k = 5))) ∨ FMR g a k) h h3) (r3 : rf h3 g 3 (g + c)) (n : Nat) (n6 : n ≤ 6) (e2 : gI h (g + c) 2 = nI n) (e19 : gI h (g + 266) 19 = nI n) (hf : ∀ f, f < n → RFm h g (c + 4 + 13 * f) f) (t1 : gI h3 g 1 = 0) (t2 : gI h3 (g + 266) 2 = 0) (a5 : gI h3 g 5 = gI h3 (g + 266) 16) : Inv h3 g := by
  have nR : ∀ a, ((TK3 g a ∨ PR (g + p) a) ∨ RMR g a) → (g + 3 < a ∧ a < g + 7) ∨ (g + p ≤ a ∧ a ≤ g + p + 81) ∨ (g + 267 < a ∧ a < g + 273) ∨ (g + 277 < a ∧ a < g + 282) := fun a z => by
    unfold TK3 PR RMR at z
    omega
  have nF : ∀ a k, ((PF g (g + p) a k ∨ (a = g ∧ (k = 1 ∨ k = 5))) ∨ FMR g a k) → a = g + 2 ∨ (g + p ≤ a ∧ a ≤ g + p + 81 ∧ (1 ≤ k ∨ (a - (g + p)) % 13 = 4)) ∨ (a = g ∧ (k = 1 ∨ k = 5)) ∨ (a = g + 266 ∧ (k = 2 ∨ k = 4 ∨ (10 ≤ k ∧ k ≤ 16) ∨ (24 ≤ k ∧ k ≤ 26))) := fun a k z => by
    unfold PF FMR at z
    omega
  have tp := R.tape
  have an := R.ans
  refine ⟨⟨s3, ⟨⟨0, by omega, t1, t2⟩, fun i hi => ?_⟩, ⟨a5, ?_, ?_⟩, RHd_dt d (fun a k z => by have := nF a k z; omega) R.hd, RMem_dt d (fun a z => by have := nR a z; omega) R.mem, RReg_dt d (fun a z => by have := nR a z; omega) R.reg, RBins_dt d (fun a z => by have := nR a z; omega) (fun a k z => by have := nF a k z; omega) R.bins, RSl_dt (by decide) d (fun a z => by have := nR a z; omega) (fun a k z => by have := nF a k z; omega) R.sl0, RSl_dt (by decide) d (fun a z => by have := nR a z; omega) (fun a k z => by have := nF a k z; omega) R.sl1, ⟨c, by omega, r3, n, n6, (d.gI (fun z => by have := nF _ _ z; omega)).trans e2, (d.gI (fun z => by have := nF _ _ z; omega)).trans e19, fun f hn => RFm_dt d (fun e e1 e2 z => by have := nR _ z; omega) (fun k => ⟨fun z => by have := nF _ _ z; omega, fun z => by have := nF _ _ z; omega, fun z => by have := nF _ _ z; omega⟩) (fun z => by have := nR _ z; omega) (fun z => by have := nR _ z; omega) (fun z => by have := nR _ z; omega) (hf f hn)⟩⟩, RCn_dt d (fun a z => by have := nR a z; omega) (fun a k f c0 z hf hc => by have := nF a k z; omega) R.cn⟩
  · rw [d.I (fun z => by have := nR _ z; omega), d.I (fun z => by have := nR _ z; omega)]
    exact tp.2 i hi
  · rw [d.gI (fun z => by have := nF _ _ z; omega), d.gI (fun z => by have := nF _ _ z; omega)]
    exact an.2.1
  · rw [d.gI (fun z => by have := nF _ _ z; omega), d.gI (fun z => by have := nF _ _ z; omega)]
    exact an.2.2
theorem c_rdB {h ha h1 : VG} {g c p t : Nat} {y : Int32} (R : Inv h g) (hcp : (c = 8 ∧ p = 90) ∨ (c = 90 ∧ p = 8)) (r4 : rf h g 4 (g + p)) (e1 : gI h g 1 = nI t) (u1 : ev 65 0 [some (.ref (g + 2)), some (.ref (g + 1)), some (.int (nI t)), some (.ref (g + p)), none] [] h = some (some (.int y), h1)) (s1 : Sh h1 g) : ev 96 0 [some (.ref g), none, none] [] h = ev 96 25 [some (.ref g), some (.int y), none] [] (pI h1 g 1 0) := by
  have og : ob h g 10 := Cls_0 R.cls
  have og1 : ob h1 g 10 := Cls_0 s1.1
  have o7 : ob h (g + 2) 7 := Cls_11 R.cls
  simp +decide only [e96_0, e96_1, e96_4, e96_5, e96_8, e96_9, e96_12, e96_13, e96_16, e96_19, e96_20, e96_21, e96_22, og, og1, o7, rf_g (Cls_2 R.cls), rf_is (Cls_2 R.cls), rf_g (Cls_1 R.cls), rf_is (Cls_1 R.cls), rf_g r4, rf_is r4, e1, u1, vkk_n, vkk_i, vkk_r, vkk_l, vkk_d, catS_nil, catS_i, catS_r, catS_l, catS_d, Nat.reduceAdd, Nat.reduceLeDiff, Nat.zero_le, Nat.le_refl, Option.bind_some, Option.toList_some, Option.toList_none, List.cons_append, List.nil_append, or_true, true_or, if_true, if_false, Int32.reduceLT, Int32.reduceLE, not_true, not_false_iff, true_and, and_true, false_and, and_false]
/-- a text that is right: what the relation says -/
theorem Inv_rdA {h h1 h3 : VG} {g c p L TT : Nat} {b : Nat → Nat} {σ : SG} (R : Inv h g) (hcp : (c = 8 ∧ p = 90) ∨ (c = 90 ∧ p = 8)) (s3 : Sh h3 g) (d1 : Dt (fun a => TK3 g a ∨ PR (g + p) a) (PF g (g + p)) h h1) (d3 : Dt (fun a => ((g + 174 ≤ a ∧ a ≤ g + 200) ∨ a = g + 260) ∨ RMA g a) (fun a k => ((g + 172 ≤ a ∧ a ≤ g + 200) ∨ (a = g ∧ (k = 1 ∨ k = 5 ∨ k = 9 ∨ k = 10))) ∨ FMA g a k) h1 h3) (r3 : rf h3 g 3 (g + p)) (cs : CST h1 g (g + p) b L TT σ) (f8 : ∀ f, f < sgN σ → 1 ≤ sgC σ f ∧ sgC σ f ≤ 8)
  (t1 : gI h3 g 1 = 0) (t2 : gI h3 (g + 266) 2 = 0) (a5 : gI h3 g 5 = -1) (a16 : gI h3 (g + 266) 16 = -1) (k17 : gI h3 (g + 266) 17 = nI (sgB σ)) (k18 : gI h3 (g + 266) 18 = nI (sgL σ)) (k19 : gI h3 (g + 266) 19 = nI (sgN σ)) (km : ∀ j, j < 256 → aI h3 (g + 277) j = nI (sgM σ j)) (kf : ∀ f, f < sgN σ → aI h3 (g + 274) f = nI (sgC σ f) ∧ ∀ j, j < sgC σ f → aI h3 (g + 275) (8 * f + j) = nI (mKk b L (sgF σ f + 2) j) ∧ aI h3 (g + 276) (8 * f + j) = nI (mRr b L (sgF σ f + 2) j)) (kb : ∀ j, j < 8 → aI h3 (g + 285) j = 11 ∧ aI h3 (g + 286) j = 0 ∧ aL h3 (g + 298) j = 0) (kh0 : aI h3 (g + 299) 0 = 0) (kh1 : aI h3 (g + 299) 1 = 0) (k57 : gI h3 (g + 266) 57 = 0) (k31 : gI h3 (g + 266) 31 = 0) (k32 : gI h3 (g + 266) 32 = 0)
  (c1 : gI h3 (g + 173) 1 = gI h1 (g + p + 1) 1) (c2 : gI h3 (g + 173) 2 = gI h1 (g + p + 1) 2) (c3 : ∀ i, i < 256 → aI h3 (g + 174) i = aI h1 (g + p + 2) i) (c4 : ∀ r, r < 8 → aL h3 (g + 176) r = 0) (c5 : gI h3 (g + 172) 3 = 0) (c6 : ∀ b, b < 8 → gI h3 (g + (177 + 3 * b)) 0 = 11 ∧ gI h3 (g + (177 + 3 * b)) 1 = 0) (c7 : aI h3 (g + 260) 0 = 0) (c8 : aI h3 (g + 260) 1 = 0) (c9 : gI h3 g 9 = 0) (c10 : gI h3 g 10 = 0) : Inv h3 g := by
  obtain ⟨-, -, ⟨v1, v2⟩, ⟨v3, v4, v5⟩, ⟨v6, v7⟩, v8, v9, v10⟩ := cs
  have nR1 : ∀ a, (TK3 g a ∨ PR (g + p) a) → (g + 3 < a ∧ a < g + 7) ∨ (g + p ≤ a ∧ a ≤ g + p + 81) := fun a z => by
    unfold TK3 PR at z
    omega
  have nF1 : ∀ a k, PF g (g + p) a k → a = g + 2 ∨ (g + p ≤ a ∧ a ≤ g + p + 81 ∧ (1 ≤ k ∨ (a - (g + p)) % 13 = 4)) := fun a k z => by
    unfold PF at z
    omega
  have nR3 : ∀ a, (((g + 174 ≤ a ∧ a ≤ g + 200) ∨ a = g + 260) ∨ RMA g a) → (g + 174 ≤ a ∧ a ≤ g + 200) ∨ a = g + 260 ∨ (g + 267 < a ∧ a < g + 273) ∨ (g + 273 < a ∧ a < g + 282) ∨ a = g + 285 ∨ a = g + 286 ∨ a = g + 298 ∨ a = g + 299 := fun a z => by
    unfold RMA at z
    omega
  have nF3 : ∀ a k, (((g + 172 ≤ a ∧ a ≤ g + 200) ∨ (a = g ∧ (k = 1 ∨ k = 5 ∨ k = 9 ∨ k = 10))) ∨ FMA g a k) → (g + 172 ≤ a ∧ a ≤ g + 200) ∨ a = g ∨ a = g + 266 := fun a k z => by
    unfold FMA at z
    omega
  have tp := R.tape
  have d := d1.tr d3
  refine ⟨⟨s3, ⟨⟨0, by omega, t1, t2⟩, fun i hi => ?_⟩, ⟨a5.trans a16.symm, c9.trans k31.symm, c10.trans k32.symm⟩, ⟨sgL σ, 0, v4, v5, by omega, c1.trans v3, k18, c5, k57, (c2.trans v6).trans k17.symm, ?_⟩, fun i hi => ⟨sgM σ i, (v8 i hi).1, ?_, (c3 i hi).trans (v8 i hi).2⟩, fun r hr => ?_, fun q hq => ⟨11, 0, by omega, by omega, fun _ => rfl, (c6 q hq).1, ?_, (c6 q hq).2, ?_, fun i hi => absurd hi (Nat.not_lt_zero _)⟩, ⟨c7.trans kh0.symm, Or.inl kh0, fun z => absurd kh0 z⟩, ⟨c8.trans kh1.symm, Or.inl kh1, fun z => absurd kh1 z⟩, ⟨p, by omega, r3, sgN σ, v2, (d3.gI (fun z => by have := nF3 _ _ z; omega)).trans v1, k19, fun f hf => ?_⟩⟩, RCn_dt d (fun a z => ?_) (fun a k f c0 z hf hc => ?_) R.cn⟩
  · rw [d3.I (fun z => by have := nR3 _ z; omega), d3.I (fun z => by have := nR3 _ z; omega), d1.I (fun z => by have := nR1 _ z; omega), d1.I (fun z => by have := nR1 _ z; omega)]
    exact tp.2 i hi
  · rw [k17]
    rcases (by omega : sgB σ = 0 ∨ sgB σ = 1) with z | z <;> rw [z]
    · exact Or.inl rfl
    · exact Or.inr rfl
  · rw [Nat.zero_add]
    exact km i hi
  · rw [c4 r hr, Nat.zero_add]
    exact (kb r hr).2.2.symm
  · rw [Nat.zero_add]
    exact (kb q hq).1
  · rw [Nat.zero_add]
    exact (kb q hq).2.1
  · obtain ⟨w0, w1⟩ := v9 f (by omega)
    have fo := v10 f hf
    rw [show g + p + 4 + 13 * f + 5 = g + (p + 4 + 13 * f) + 5 by omega] at w0
    rw [show g + p + 4 + 13 * f + 7 = g + (p + 4 + 13 * f) + 7 by omega] at w1
    rw [show g + p + 4 + 13 * f = g + (p + 4 + 13 * f) by omega] at fo
    exact RFm_of d3 (fun a z => by have := nR3 _ z; omega) (fun a k z => by have := nF3 _ _ z; omega) (by omega) fo w0 w1 (kf f hf).1 (kf f hf).2
  · rcases z with z | z
    · have := nR1 _ z
      omega
    · have := nR3 _ z
      omega
  · rcases z with z | z
    · have := nF1 _ _ z
      omega
    · have := nF3 _ _ z
      omega
