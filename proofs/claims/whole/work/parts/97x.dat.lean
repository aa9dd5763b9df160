/-! read: frames of data alone -/
def Dt (R : Nat → Prop) (F : Nat → Nat → Prop) (h h1 : VG) : Prop := (∀ a, ¬ R a → ∀ j, aI h1 a j = aI h a j ∧ aL h1 a j = aL h a j ∧ aD h1 a j = aD h a j) ∧ (∀ a k, ¬ F a k → gI h1 a k = gI h a k ∧ gL h1 a k = gL h a k ∧ gD h1 a k = gD h a k) ∧ h1.2 = h.2
theorem Dt.I {R : Nat → Prop} {F : Nat → Nat → Prop} {h h1 : VG} (x : Dt R F h h1) {a : Nat} (ha : ¬ R a) (j : Nat) : aI h1 a j = aI h a j := (x.1 a ha j).1
theorem Dt.L {R : Nat → Prop} {F : Nat → Nat → Prop} {h h1 : VG} (x : Dt R F h h1) {a : Nat} (ha : ¬ R a) (j : Nat) : aL h1 a j = aL h a j := (x.1 a ha j).2.1
theorem Dt.D {R : Nat → Prop} {F : Nat → Nat → Prop} {h h1 : VG} (x : Dt R F h h1) {a : Nat} (ha : ¬ R a) (j : Nat) : aD h1 a j = aD h a j := (x.1 a ha j).2.2
theorem Dt.gI {R : Nat → Prop} {F : Nat → Nat → Prop} {h h1 : VG} (x : Dt R F h h1) {a k : Nat} (hk : ¬ F a k) : gI h1 a k = gI h a k := (x.2.1 a k hk).1
theorem Dt.gL {R : Nat → Prop} {F : Nat → Nat → Prop} {h h1 : VG} (x : Dt R F h h1) {a k : Nat} (hk : ¬ F a k) : gL h1 a k = gL h a k := (x.2.1 a k hk).2.1
theorem Dt.two {R : Nat → Prop} {F : Nat → Nat → Prop} {h h1 : VG} (x : Dt R F h h1) : h1.2 = h.2 := x.2.2
theorem Dt.tr {R R1 : Nat → Prop} {F F1 : Nat → Nat → Prop} {h h1 h2 : VG} (x : Dt R F h h1) (y : Dt R1 F1 h1 h2) : Dt (fun a => R a ∨ R1 a) (fun a k => F a k ∨ F1 a k) h h2 :=
  ⟨fun a ha j => ⟨(y.I (fun z => ha (Or.inr z)) j).trans (x.I (fun z => ha (Or.inl z)) j), (y.L (fun z => ha (Or.inr z)) j).trans (x.L (fun z => ha (Or.inl z)) j), (y.D (fun z => ha (Or.inr z)) j).trans (x.D (fun z => ha (Or.inl z)) j)⟩, fun a k hk => ⟨(y.2.1 a k (fun z => hk (Or.inr z))).1.trans (x.2.1 a k (fun z => hk (Or.inl z))).1, (y.2.1 a k (fun z => hk (Or.inr z))).2.1.trans (x.2.1 a k (fun z => hk (Or.inl z))).2.1, (y.2.1 a k (fun z => hk (Or.inr z))).2.2.trans (x.2.1 a k (fun z => hk (Or.inl z))).2.2⟩, y.two.trans x.two⟩
theorem Fr.dt {R : Nat → Prop} {F : Nat → Nat → Prop} {h h1 : VG} (x : Fr R F h h1) : Dt R F h h1 := ⟨fun a ha j => x.2.1 a ha j, fun a k hk => ⟨x.gI hk, x.gL hk, x.gD hk⟩, x.two⟩
theorem pR_dt (h : VG) (a k x ci : Nat) (ho : ob h a ci) (hs : (vShape ci)[k]? = some 3) : Dt NR NF h (pR h a k x) := by
  obtain ⟨e1, e2, e3, e4, e5, e6⟩ := pR_same h a k x ci ho hs
  refine ⟨fun b _ j => ?_, fun b j _ => ?_, rfl⟩
  · rw [e4, e5, e6]
    exact ⟨rfl, rfl, rfl⟩
  · rw [e1, e2, e3]
    exact ⟨rfl, rfl, rfl⟩
theorem RMm_dt {R : Nat → Prop} {F : Nat → Nat → Prop} {h h1 : VG} (x : Dt R F h h1) {A M o : Nat} (c1 : ¬ R A) (c2 : ¬ R M) (hh : RMm h A M o) : RMm h1 A M o := by
  intro i hi
  rw [x.I c1, x.I c2]
  exact hh i hi
theorem RRg_dt {R : Nat → Prop} {F : Nat → Nat → Prop} {h h1 : VG} (x : Dt R F h h1) {A M o : Nat} (c1 : ¬ R A) (c2 : ¬ R M) (hh : RRg h A M o) : RRg h1 A M o := by
  intro i hi
  rw [x.L c1, x.L c2]
  exact hh i hi
theorem RBn_dt {R : Nat → Prop} {F : Nat → Nat → Prop} {h h1 : VG} (x : Dt R F h h1) {B SR so MR CK CW CR co b : Nat} (c1 : ¬ R (B + 1)) (c2 : ¬ R (B + 2)) (c3 : ¬ R SR) (c4 : ¬ R MR) (c5 : ¬ R CK) (c6 : ¬ R CW) (c7 : ¬ R CR) (d1 : ¬ F B 0) (d2 : ¬ F B 1) (hh : RBn h B SR so MR CK CW CR co b) : RBn h1 B SR so MR CK CW CR co b := by
  obtain ⟨s, n, e1, e2, e3, e4, e5, e6, e7, e8⟩ := hh
  refine ⟨s, n, e1, e2, e3, (x.gI d1).trans e4, (x.I c3 _).trans e5, (x.gI d2).trans e6, (x.I c4 _).trans e7, fun i hi => ?_⟩
  rw [x.I c1, x.I c5, x.L c2, x.L c6, x.D c7]
  exact e8 i hi
theorem RHd_dt {R : Nat → Prop} {F : Nat → Nat → Prop} {h h1 : VG} {g : Nat} (x : Dt R F h h1) (d : ∀ a k, F a k → ¬ (a = g + 173 ∧ (k = 1 ∨ k = 2)) ∧ ¬ (a = g + 172 ∧ k = 3) ∧ ¬ (a = g + 266 ∧ (k = 17 ∨ k = 18 ∨ k = 57))) (hh : RHd h g) : RHd h1 g := by
  unfold RHd at hh ⊢
  rw [x.gI (a := g + 173) (k := 1) (fun z => by have := d _ _ z; omega), x.gI (a := g + 173) (k := 2) (fun z => by have := d _ _ z; omega), x.gI (a := g + 172) (k := 3) (fun z => by have := d _ _ z; omega), x.gI (a := g + 266) (k := 17) (fun z => by have := d _ _ z; omega), x.gI (a := g + 266) (k := 18) (fun z => by have := d _ _ z; omega), x.gI (a := g + 266) (k := 57) (fun z => by have := d _ _ z; omega)]
  exact hh
theorem RMem_dt {R : Nat → Prop} {F : Nat → Nat → Prop} {h h1 : VG} {g : Nat} (x : Dt R F h h1) (c : ∀ a, R a → a ≠ g + 174 ∧ a ≠ g + 277) (hh : RMem h g) : RMem h1 g := RMm_dt x (fun z => by have := c _ z; omega) (fun z => by have := c _ z; omega) hh
theorem RReg_dt {R : Nat → Prop} {F : Nat → Nat → Prop} {h h1 : VG} {g : Nat} (x : Dt R F h h1) (c : ∀ a, R a → a ≠ g + 176 ∧ a ≠ g + 298) (hh : RReg h g) : RReg h1 g := RRg_dt x (fun z => by have := c _ z; omega) (fun z => by have := c _ z; omega) hh
theorem RBins_dt {R : Nat → Prop} {F : Nat → Nat → Prop} {h h1 : VG} {g : Nat} (x : Dt R F h h1) (c : ∀ a, R a → (a < g + 177 ∨ g + 200 < a) ∧ (a < g + 285 ∨ g + 289 < a)) (d : ∀ a k, F a k → a < g + 177 ∨ g + 200 < a) (hh : RBins h g) : RBins h1 g := fun b hb => RBn_dt x (fun z => by have := c _ z; omega) (fun z => by have := c _ z; omega) (fun z => by have := c _ z; omega) (fun z => by have := c _ z; omega) (fun z => by have := c _ z; omega) (fun z => by have := c _ z; omega) (fun z => by have := c _ z; omega) (fun z => by have := d _ _ z; omega) (fun z => by have := d _ _ z; omega) (hh b hb)
theorem RSl_dt {R : Nat → Prop} {F : Nat → Nat → Prop} {h h1 : VG} {g σ : Nat} (hσ : σ < 2) (x : Dt R F h h1) (c : ∀ a, R a → (a < g + 202 ∨ g + 260 < a) ∧ (a < g + 299 ∨ g + 307 < a) ∧ ¬ a = g + 260) (d : ∀ a k, F a k → (a < g + 202 ∨ g + 260 < a) ∧ ¬ (a = g + 173 ∧ (k = 1 ∨ k = 2))) (hh : RSl h g σ) : RSl h1 g σ := by
  obtain ⟨q1, q2, q3⟩ := hh
  unfold RSl
  rw [x.I (a := g + 260) (fun z => by have := c _ z; omega), x.I (a := g + 299) (fun z => by have := c _ z; omega)]
  refine ⟨q1, q2, fun z => ?_⟩
  obtain ⟨⟨l, fr, t1, t2, t3, t4, t5, t6⟩, s2, s3, s4⟩ := q3 z
  refine ⟨⟨l, fr, (x.gI (fun z => by have := d _ _ z; omega)).trans t1, t2, (x.gI (fun z => by have := d _ _ z; omega)).trans t3, ?_, (x.gI (fun z => by have := d _ _ z; omega)).trans t5, (x.I (fun z => by have := c _ z; omega) _).trans t6⟩, RMm_dt x (fun z => by have := c _ z; omega) (fun z => by have := c _ z; omega) s2, RRg_dt x (fun z => by have := c _ z; omega) (fun z => by have := c _ z; omega) s3, fun b hb => RBn_dt x (fun z => by have := c _ z; omega) (fun z => by have := c _ z; omega) (fun z => by have := c _ z; omega) (fun z => by have := c _ z; omega) (fun z => by have := c _ z; omega) (fun z => by have := c _ z; omega) (fun z => by have := c _ z; omega) (fun z => by have := d _ _ z; omega) (fun z => by have := d _ _ z; omega) (s4 b hb)⟩
  rw [x.gI (a := g + (203 + 29 * σ)) (k := 2) (fun z => by have := d _ _ z; omega), x.gI (a := g + 173) (k := 2) (fun z => by have := d _ _ z; omega)]
  exact t4
theorem RFm_dt {R : Nat → Prop} {F : Nat → Nat → Prop} {h h1 : VG} {g : Nat} (x : Dt R F h h1) {c f : Nat} (hr : ∀ e, 1 ≤ e → e < 13 → ¬ R (g + (c + e))) (hf : ∀ k, ¬ F (g + c) k ∧ ¬ F (g + (c + 5)) k ∧ ¬ F (g + (c + 7)) k) (m1 : ¬ R (g + 274)) (m2 : ¬ R (g + 275)) (m3 : ¬ R (g + 276)) (hh : RFm h g c f) : RFm h1 g c f := by
  obtain ⟨m, K, Q, C, a1, a2, a3, a4, a5, a6, a7, a8, b1, b2, b3, b4, b5, b6, b7⟩ := hh
  refine ⟨m, K, Q, C, a1, a2, a3, a4, (x.gI (hf _).1).trans a5, (x.I m1 _).trans a6, (x.gI (hf _).1).trans a7, fun j hj => ?_, (x.gI (hf _).2.1).trans b1, (x.gI (hf _).2.2).trans b2, (x.gI (hf _).2.1).trans b3, (x.gI (hf _).2.1).trans b4, (x.gI (hf _).2.2).trans b5, (x.gI (hf _).2.2).trans b6, fun i hi => ?_⟩
  · rw [x.I (hr 1 (by decide) (by decide)), x.I (hr 2 (by decide) (by decide)), x.I (hr 3 (by decide) (by decide)), x.I m2, x.I m3]
    exact a8 j hj
  · rw [x.I (hr 4 (by decide) (by decide)), x.I (hr 6 (by decide) (by decide)), x.I (hr 8 (by decide) (by decide)), x.I (hr 10 (by decide) (by decide)), x.I (hr 11 (by decide) (by decide)), x.I (hr 12 (by decide) (by decide))]
    exact b7 i hi
theorem RCn_dt {R : Nat → Prop} {F : Nat → Nat → Prop} {h h1 : VG} {g : Nat} (x : Dt R F h h1) (c : ∀ a, R a → a ≠ g + 282 ∧ a ≠ g + 283 ∧ a ≠ g + 7 ∧ a ≠ g + 273) (d : ∀ a k f c0, F a k → f < 6 → c0 = 8 ∨ c0 = 90 → ¬ (a = g + (c0 + 4 + 13 * f + 5) ∧ k = 0) ∧ ¬ (a = g + (c0 + 4 + 13 * f + 7) ∧ k = 0)) (hh : RCn h g) : RCn h1 g := by
  obtain ⟨q1, q2, q3⟩ := hh
  refine ⟨fun j hj => ?_, fun j hj => ?_, fun f c0 hf hc => ?_⟩
  · rw [x.I (a := g + 282) (fun z => by have := c _ z; omega), x.I (a := g + 283) (fun z => by have := c _ z; omega)]
    exact q1 j hj
  · rw [x.L (a := g + 7) (fun z => by have := c _ z; omega), x.L (a := g + 273) (fun z => by have := c _ z; omega)]
    exact q2 j hj
  · rw [x.gI (a := g + (c0 + 4 + 13 * f + 5)) (k := 0) (fun z => (d _ _ f c0 z hf hc).1 ⟨rfl, rfl⟩), x.gI (a := g + (c0 + 4 + 13 * f + 7)) (k := 0) (fun z => (d _ _ f c0 z hf hc).2 ⟨rfl, rfl⟩)]
    exact q3 f c0 hf hc
theorem rf_u {h : VG} {a k x y : Nat} (h1 : rf h a k x) (h2 : rf h a k y) : x = y := by
  unfold rf at h1 h2
  rw [h1] at h2
  injection h2
theorem byte_n (x : Int8) : ∃ n, n < 256 ∧ (nI n).toInt8 = x := by
  have key : ∀ f : Fin 256, (nI f.val).toInt8.toBitVec = BitVec.ofFin f := by decide +kernel
  refine ⟨x.toBitVec.toNat, x.toBitVec.isLt, ?_⟩
  apply Int8.toBitVec_inj.mp
  exact key x.toBitVec.toFin
theorem tape_b {h : VG} {g : Nat} (q : RTape h g) : ∃ b : Nat → Nat, ∀ i, i < 2000 → b i < 256 ∧ aI h (g + 1) i = sB (b i) ∧ aI h (g + 267) i = sB (b i) := by
  have : ∀ i, ∃ n, i < 2000 → n < 256 ∧ aI h (g + 1) i = sB n ∧ aI h (g + 267) i = sB n := by
    intro i
    by_cases hi : i < 2000
    · obtain ⟨e, v, ev⟩ := q.2 i hi
      obtain ⟨n, n1, n2⟩ := byte_n v.toInt8
      have s : aI h (g + 1) i = sB n := by
        rw [ev]
        unfold sB
        rw [vp_nar_byte, vp_nar_byte, n2]
      exact ⟨n, fun _ => ⟨n1, s, e ▸ s⟩⟩
    · exact ⟨0, fun z => absurd z hi⟩
  exact ⟨fun i => Classical.choose (this i), fun i hi => Classical.choose_spec (this i) hi⟩
/-- a form that is told, as the plans' relation has it -/
theorem RFm_of {h h3 : VG} {g c f s m : Nat} {b : Nat → Nat} {L : Nat} {R : Nat → Prop} {F : Nat → Nat → Prop} (x : Dt R F h h3) (hr : ∀ a, R a → a < g + 8 ∨ g + 171 < a) (hF : ∀ a k, F a k → a < g + 8 ∨ g + 171 < a) (hc : 8 ≤ c ∧ c + 12 ≤ 171) (q : FOK h b L (g + c) s m) (w0 : gI h (g + c + 5) 0 = 0) (w1 : gI h (g + c + 7) 0 = 1) (m0 : aI h3 (g + 274) f = nI m) (mm : ∀ j, j < m → aI h3 (g + 275) (8 * f + j) = nI (mKk b L (s + 2) j) ∧ aI h3 (g + 276) (8 * f + j) = nI (mRr b L (s + 2) j)) : RFm h3 g c f := by
  obtain ⟨q1, q2, ⟨q3, -⟩, -, ⟨c1, c2, c3, c4⟩, d1, d2, d3, d4, d5⟩ := q
  refine ⟨m, mKk b L (s + 2), mRr b L (s + 2), cK (mKk b L (s + 2)) (mRr b L (s + 2)) m, q1, q2, fun j hj => ?_, fun j i hj hi => cK_at _ _ m j i hj hi, (x.gI (fun z => by have := hF _ _ z; omega)).trans c1, m0, (x.gI (fun z => by have := hF _ _ z; omega)).trans c2, fun j hj => ?_, (x.gI (fun z => by have := hF _ _ z; omega)).trans w0, (x.gI (fun z => by have := hF _ _ z; omega)).trans w1, (x.gI (fun z => by have := hF _ _ z; omega)).trans d1, (x.gI (fun z => by have := hF _ _ z; omega)).trans d2, (x.gI (fun z => by have := hF _ _ z; omega)).trans d3, (x.gI (fun z => by have := hF _ _ z; omega)).trans d4, fun i hi => ?_⟩
  · have t5 := q3 j hj
    have ko := kd_or b L (mt (tyC b L) (s + 2) j)
    have := (cTy_0 ko).2.2.2.2.2.2.1.mp t5
    exact ⟨by unfold mKk; omega, mR_b b L (s + 2) j⟩
  · obtain ⟨a1, a2, a3⟩ := c3 j hj
    obtain ⟨b1, b2⟩ := mm j hj
    exact ⟨(x.I (fun z => by have := hr _ z; omega) j).trans a1, b1, (x.I (fun z => by have := hr _ z; omega) j).trans a2, b2, (x.I (fun z => by have := hr _ z; omega) j).trans a3⟩
  · obtain ⟨a1, a2, a3, a4, a5⟩ := d5 i hi
    exact ⟨(x.I (fun z => by have := hr _ z; omega) i).trans (c4 i hi), (x.I (fun z => by have := hr _ z; omega) i).trans a1, (x.I (fun z => by have := hr _ z; omega) i).trans a2, (x.I (fun z => by have := hr _ z; omega) i).trans a3, (x.I (fun z => by have := hr _ z; omega) i).trans a4, (x.I (fun z => by have := hr _ z; omega) i).trans a5⟩
