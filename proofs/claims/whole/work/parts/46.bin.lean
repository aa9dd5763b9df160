/-! bins on both sides; calls: length, cell, write, box, put -/
theorem rdR_5 {h : VG} {a : Nat} (q : arR h a 5) : rdR h a := Or.inl q
theorem rdR_6 {h : VG} {a : Nat} (q : arR h a 6) : rdR h a := Or.inr (Or.inl q)
theorem rdR_7 {h : VG} {a : Nat} (q : arR h a 7) : rdR h a := Or.inr (Or.inr q)
def RBn2 (h m : VG) (B SR so MR CK CW CR co b : Nat) : Prop := ∃ s n, s < 12 ∧ n ≤ 40 ∧ (10 ≤ s → n = 0) ∧ gI h B 0 = nI s ∧ aI m SR (so + b) = nI s ∧ gI h B 1 = nI n ∧ aI m MR (so + b) = nI n ∧ ∀ i, i < n → cOk s (aI h (B + 1) i) ∧ aI m CK (co + 40 * b + i) = aI h (B + 1) i ∧ RNm (aI h (B + 1) i) (aL h (B + 2) i) (aL m CW (co + 40 * b + i)) (aD m CR (co + 40 * b + i))
def RBins2 (h m : VG) (g : Nat) : Prop := ∀ b, b < 8 → RBn2 h m (g + (177 + 3 * b)) (g + 285) 0 (g + 286) (g + 287) (g + 288) (g + 289) 0 b
theorem RBins_2 {h : VG} {g : Nat} : RBins h g ↔ RBins2 h h g := Iff.rfl
theorem RBins2_fr {R R1 : Nat → Prop} {F F1 : Nat → Nat → Prop} {h h1 m m1 : VG} {g : Nat} (x : Fr R F h h1) (y : Fr R1 F1 m m1) (c : ∀ a, R a → a < g + 177 ∨ g + 200 < a) (d : ∀ a k, F a k → a < g + 177 ∨ g + 200 < a) (c1 : ∀ a, R1 a → a < g + 285 ∨ g + 289 < a) (hh : RBins2 h m g) : RBins2 h1 m1 g := by
  intro b hb
  obtain ⟨s, n, e1, e2, e3, e4, e5, e6, e7, e8⟩ := hh b hb
  refine ⟨s, n, e1, e2, e3, (x.gI (fun z => by have := d _ _ z; omega)).trans e4, (y.I (fun z => by have := c1 _ z; omega) _).trans e5, (x.gI (fun z => by have := d _ _ z; omega)).trans e6, (y.I (fun z => by have := c1 _ z; omega) _).trans e7, fun i hi => ?_⟩
  rw [x.I (a := g + (177 + 3 * b) + 1) (fun z => by have := c _ z; omega), x.L (a := g + (177 + 3 * b) + 2) (fun z => by have := c _ z; omega), y.I (a := g + 287) (fun z => by have := c1 _ z; omega), y.L (a := g + 288) (fun z => by have := c1 _ z; omega), y.D (a := g + 289) (fun z => by have := c1 _ z; omega)]
  exact e8 i hi
/-- cell i of the class's bin at B holds number x of content k; nothing else has changed -/
def FilC (h h1 : VG) (B i : Nat) (k : Int32) (x : Int64) : Prop := Fr (fun a => a = B + 1 ∨ a = B + 2) NF h h1 ∧ (∀ j, ¬ j = i → aI h1 (B + 1) j = aI h (B + 1) j ∧ aL h1 (B + 2) j = aL h (B + 2) j) ∧ aI h1 (B + 1) i = k ∧ aL h1 (B + 2) i = x
theorem fil_lo {h : VG} {B i s : Nat} {c : Int32} {x : Int64} (hB : ShBin h B) (hs : gI h B 0 = nI s) (h8 : s < 8) (hk : aI h (B + 1) i = nI s) : FilC h (fil h B i c x) B i (nI s) (kWdn x c (nI s)) := by
  unfold fil
  rw [hs, if_pos (show nI s ≤ 7 from nI_le (b := 7) (by omega) (by decide))]
  refine ⟨Fr_wL _ _ _ _ (Or.inr rfl), fun j hj => ⟨aI_wL .., aL_wL_j _ _ _ _ _ _ hj⟩, (aI_wL ..).trans hk, ?_⟩
  rw [aL_wL _ _ _ _ _ _ (Bin_5 hB), if_pos ⟨rfl, rfl⟩]
theorem fil_hi {h : VG} {B i s : Nat} {c : Int32} {x : Int64} (hB : ShBin h B) (hs : gI h B 0 = nI s) (h8 : ¬ s < 8) (hs2 : s < 12) : FilC h (fil h B i c x) B i c x := by
  unfold fil
  rw [hs, if_neg (show ¬ nI s ≤ 7 from nI_ge (a := 7) (by omega) (by omega))]
  refine ⟨(Fr_wI _ _ _ _ (Or.inl rfl)).tr (Fr_wL _ _ _ _ (Or.inr rfl)), fun j hj => ⟨?_, ?_⟩, ?_, ?_⟩
  · rw [aI_wL, aI_wI_j _ _ _ _ _ _ hj]
  · rw [aL_wL_j _ _ _ _ _ _ hj, aL_wI]
  · rw [aI_wL, aI_wI _ _ _ _ _ _ (Bin_3 hB), if_pos ⟨rfl, rfl⟩]
  · rw [aL_wL _ _ _ _ _ _ ((arL_wI ..).mpr (Bin_5 hB)), if_pos ⟨rfl, rfl⟩]
theorem RBins2_lay {h h1 m m1 : VG} {g b s n i : Nat} {k : Int32} {x : Int64} (hb : b < 8) (hi : i < n) (hn : n ≤ 40) (hs : s < 12) (bs : gI h (g + (177 + 3 * b)) 0 = nI s) (bn : gI h (g + (177 + 3 * b)) 1 = nI n) (hk : cOk s k) (x1 : FilC h h1 (g + (177 + 3 * b)) i k x) (y : Lay m m1 g (40 * b + i) k x) (hh : RBins2 h m g) : RBins2 h1 m1 g := by
  intro b' hb'
  obtain ⟨s', n', e1, e2, e3, e4, e5, e6, e7, e8⟩ := hh b' hb'
  obtain ⟨f1, f2, f3, f4⟩ := x1
  obtain ⟨l1, l2, l3, l4⟩ := y
  refine ⟨s', n', e1, e2, e3, (f1.gI (fun z => z)).trans e4, (l1.I (fun z => by unfold LR at z; omega) _).trans e5, (f1.gI (fun z => z)).trans e6, (l1.I (fun z => by unfold LR at z; omega) _).trans e7, fun j hj => ?_⟩
  have e9 := e8 j hj
  by_cases q : b' = b
  · subst q
    have q1 : s' = s := (nI_eq (by omega) (by omega)).mp (e4.symm.trans bs)
    have q2 : n' = n := (nI_eq (by omega) (by omega)).mp (e6.symm.trans bn)
    subst q1 q2
    by_cases q3 : j = i
    · subst q3
      rw [Nat.zero_add, f3, f4, l3]
      exact ⟨hk, rfl, l4⟩
    · have l5 := l2 (0 + 40 * b' + j) (by omega)
      rw [(f2 j q3).1, (f2 j q3).2, l5.1, l5.2.1, l5.2.2]
      exact e9
  · have l5 := l2 (0 + 40 * b' + j) (by omega)
    rw [f1.I (a := g + (177 + 3 * b') + 1) (fun z => by omega), f1.L (a := g + (177 + 3 * b') + 2) (fun z => by omega), l5.1, l5.2.1, l5.2.2]
    exact e9
theorem bin_sh {h : VG} {g b : Nat} (hs : Sh h g) (hb : b < 8) : ShBin h (g + (177 + 3 * b)) ∧ aR h (g + 175) b = some (g + (177 + 3 * b)) := by
  have hn : ShState h (g + 172) := Cls_17 hs.1
  have a := State_7 hn b hb
  have c := State_10 hn b hb
  rw [show g + (177 + 3 * b) = g + 172 + 5 + 3 * b by omega]
  exact ⟨c, a⟩
/-- rows and fields of memory, registers, frames and bins that now stand -/
def NwR (g a : Nat) : Prop := SR g a ∨ (g + 172 ≤ a ∧ a ≤ g + 200) ∨ (g + 285 ≤ a ∧ a ≤ g + 289) ∨ a = g + 277 ∨ a = g + 298
def NwF (g a k : Nat) : Prop := SF g a k ∨ (a = g ∧ (k = 9 ∨ k = 10)) ∨ (a = g + 266 ∧ (k = 31 ∨ k = 32)) ∨ (g + 172 ≤ a ∧ a ≤ g + 200 ∧ ¬ (a = g + 173 ∧ (k = 1 ∨ k = 2))) ∨ (a = g + 266 ∧ k = 57)
theorem Inv_now {R R1 : Nat → Prop} {F F1 : Nat → Nat → Prop} {h h1 h2 : VG} {g : Nat} {f : Int32} (x : Fr R F h h1) (y : Fr R1 F1 h1 h2) (c1 : ∀ a, R a → NwR g a ∧ a < g + 266) (d1 : ∀ a k, F a k → NwF g a k ∧ a < g + 266) (c2 : ∀ a, R1 a → NwR g a ∧ g + 266 ≤ a) (d2 : ∀ a k, F1 a k → NwF g a k ∧ g + 266 ≤ a) (ca : CA h h1 g f) (ma : MA h1 h2 (g + 266) f) (r4 : RHd h2 g) (r5 : RMem h2 g) (r6 : RReg h2 g) (r7 : RBins h2 g) (hh : Inv h g) : Inv h2 g := by
  unfold NwR SR at c1 c2
  unfold NwF SF at d1 d2
  have z := x.un y
  obtain ⟨⟨r1, r2, r3, -, -, -, -, r8, r9, r10⟩, r11⟩ := hh
  refine ⟨⟨Sh_fr z ?_ r1, RTape_fr z ?_ ?_ r2, RAns_up r3 ca ma (y.gI ?_) (y.gI ?_) (x.gI ?_) (z.gI ?_) (z.gI ?_), r4, r5, r6, r7, RSl_fr (by decide) z ?_ ?_ r8, RSl_fr (by decide) z ?_ ?_ r9, RPl_fr z ?_ ?_ r10⟩, RCn_fr z ?_ ?_ r11⟩
  all_goals first | (intro a q; rcases q with q | q <;> first | (have := c1 _ q; omega) | (have := c2 _ q; omega)) | (intro a k q; rcases q with q | q <;> first | (have := d1 _ _ q; omega) | (have := d2 _ _ q; omega)) | (intro q; have := d1 _ _ q; omega) | (intro q; have := d2 _ _ q; omega) | (intro q; rcases q with q | q <;> first | (have := d1 _ _ q; omega) | (have := d2 _ _ q; omega))
theorem cRf_0 (h : VG) (g : Nat) : cRf h g 0 = pI h g 9 0 := rfl
theorem mRf_0 (h : VG) (m : Nat) : mRf h m 0 = pI h m 31 0 := rfl
theorem MA_of {R : Nat → Prop} {F : Nat → Nat → Prop} {h h1 : VG} {m : Nat} (f : Int32) (x : Fr R F h h1) (hF : ¬ F m 32) (ho : ob h1 m 11) : MA h (mRf h1 m f) m f := by
  have := mRf_MA f ho
  unfold MA at this ⊢
  rw [← x.gI hF]
  exact this
theorem SF_VF {g a k : Nat} (z : VF (g + 266) a k) : SF g a k := by
  unfold VF at z
  unfold SF
  omega
theorem cRf_ob {h : VG} {g m c : Nat} {f : Int32} : ob (cRf h g f) m c ↔ ob h m c := ob_kp (cRf_fr h g f).1 m c
theorem cRf_sh {h : VG} {g : Nat} {f : Int32} (hs : Sh h g) : Sh (cRf h g f) g := Sh_fr (cRf_fr h g f) (fun _ z => z.elim) hs
/-- a call that the arguments forbid -/
theorem Inv_bad {h : VG} {g : Nat} (R : Inv h g) : Inv (mRf (cRf h g 0) (g + 266) 0) g :=
  Inv_ans (cRf_fr h g 0) (mRf_fr _ _ 0) (fun _ z => z.elim) (fun a k z => Or.inr z) (fun _ z => z.elim) (fun a k z => Or.inr z) (cRf_CA 0 (Cls_0 R.cls)) (mRf_MA 0 (cRf_ob.mpr (Mod_0 R.mod))) R
