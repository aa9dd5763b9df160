/-! what never changes; the invariant of the calls; answers -/
def cWord (j : Nat) : Int64 := [208935, 91781, 106546, 20201044, 9684, 409031, 6700084, 150636933, 578596, 17042, 2343, 402885, 212557, 206220].getD j 0
def mKey (j : Nat) : Int64 := [1708, 243140, 129532, 124995, 126880, 58136, 64926, 10266284, 6959, 247516, 3435824, 65782373, 349951, 12222].getD j 0
def RCn (h : VG) (g : Nat) : Prop := (∀ j, j < 10 → aI h (g + 282) j = vSmall j ∧ aI h (g + 283) j = vWide j) ∧ (∀ j, j < 14 → aL h (g + 7) j = cWord j ∧ aL h (g + 273) j = mKey j) ∧ ∀ f c, f < 6 → c = 8 ∨ c = 90 → gI h (g + (c + 4 + 13 * f + 5)) 0 = 0 ∧ gI h (g + (c + 4 + 13 * f + 7)) 0 = 1
def Inv (h : VG) (g : Nat) : Prop := Rel h g ∧ RCn h g
theorem RCn_fr {R : Nat → Prop} {F : Nat → Nat → Prop} {h h1 : VG} {g : Nat} (x : Fr R F h h1) (c : ∀ a, R a → a ≠ g + 282 ∧ a ≠ g + 283 ∧ a ≠ g + 7 ∧ a ≠ g + 273) (d : ∀ a k, F a k → (a < g + 8 ∨ g + 171 < a) ∨ 1 ≤ k) (hh : RCn h g) : RCn h1 g := by
  obtain ⟨q1, q2, q3⟩ := hh
  refine ⟨fun j hj => ?_, fun j hj => ?_, fun f c0 hf hc => ?_⟩
  · rw [x.I (a := g + 282) (fun z => by have := c _ z; omega), x.I (a := g + 283) (fun z => by have := c _ z; omega)]
    exact q1 j hj
  · rw [x.L (a := g + 7) (fun z => by have := c _ z; omega), x.L (a := g + 273) (fun z => by have := c _ z; omega)]
    exact q2 j hj
  · rw [x.gI (a := g + (c0 + 4 + 13 * f + 5)) (k := 0) (fun z => by have := d _ _ z; omega), x.gI (a := g + (c0 + 4 + 13 * f + 7)) (k := 0) (fun z => by have := d _ _ z; omega)]
    exact q3 f c0 hf hc
theorem Fr.un {R R1 : Nat → Prop} {F F1 : Nat → Nat → Prop} {h h1 h2 : VG} (x : Fr R F h h1) (y : Fr R1 F1 h1 h2) : Fr (fun a => R a ∨ R1 a) (fun a k => F a k ∨ F1 a k) h h2 := (x.mo (fun _ z => Or.inl z) (fun _ _ z => Or.inl z)).tr (y.mo (fun _ z => Or.inr z) (fun _ _ z => Or.inr z))
/-- no row; fields of the value that the model carries; answers of the class, of the model -/
def NR : Nat → Prop := fun _ => False
def NF : Nat → Nat → Prop := fun _ _ => False
def VF (m : Nat) : Nat → Nat → Prop := fun a k => a = m ∧ 38 ≤ k ∧ k ≤ 41
def AC (g : Nat) : Nat → Nat → Prop := fun a k => a = g ∧ (k = 9 ∨ k = 10)
def AM (m : Nat) : Nat → Nat → Prop := fun a k => a = m ∧ (k = 31 ∨ k = 32)
def MF (m : Nat) : Nat → Nat → Prop := fun a k => a = m ∧ (k = 31 ∨ k = 32 ∨ k = 36 ∨ k = 37 ∨ (38 ≤ k ∧ k ≤ 41) ∨ k = 54)
/-- the class's answer, the model's: the refusal that is told, and counted -/
def CA (h h1 : VG) (g : Nat) (f : Int32) : Prop := gI h1 g 9 = f ∧ gI h1 g 10 = gI h g 10 + (if f = 0 then 0 else 1)
def MA (h h1 : VG) (m : Nat) (f : Int32) : Prop := gI h1 m 31 = f ∧ gI h1 m 32 = gI h m 32 + (if f = 0 then 0 else 1)
theorem RAns_up {h h1 h2 : VG} {g : Nat} {f : Int32} (ha : RAns h g) (ca : CA h h1 g f) (ma : MA h1 h2 (g + 266) f) (a1 : gI h2 g 9 = gI h1 g 9) (a2 : gI h2 g 10 = gI h1 g 10) (a3 : gI h1 (g + 266) 32 = gI h (g + 266) 32) (a5 : gI h2 g 5 = gI h g 5) (a6 : gI h2 (g + 266) 16 = gI h (g + 266) 16) : RAns h2 g := by
  obtain ⟨h5, h9, h10⟩ := ha
  refine ⟨?_, ?_, ?_⟩
  · rw [a5, a6]
    exact h5
  · rw [a1, ca.1, ma.1]
  · rw [a2, ca.2, ma.2, a3, h10]
/-- the class's heap at the end of a call that is refused by f (0: by none) -/
def cRf (h : VG) (g : Nat) (f : Int32) : VG := if f = 0 then pI h g 9 0 else pI (pI h g 9 f) g 10 (gI h g 10 + 1)
def mRf (h : VG) (m : Nat) (f : Int32) : VG := if f = 0 then pI h m 31 0 else pI (pI h m 31 f) m 32 (gI h m 32 + 1)
theorem rfs_0 (h : VG) (g : Nat) (f : Int32) (ho : ob h g 10) : rfs (pI h g 9 0) g f = cRf h g f := by
  unfold rfs cRf
  simp +decide only [gI_pI, (eq_true (isI_ob ho rfl : isI h g 9)), pI_same, true_and, and_true, false_and, and_false, if_true, if_false]
theorem cRf_rfs (h : VG) (g : Nat) (f e : Int32) (ho : ob h g 10) : rfs (cRf h g f) g e = if f = 0 then cRf h g e else cRf h g f := by
  by_cases hf : f = 0
  · subst hf
    rw [if_pos rfl, ← rfs_0 h g e ho]
    rfl
  · rw [if_neg hf]
    unfold rfs cRf
    rw [if_neg hf]
    by_cases he : e = 0
    · rw [if_pos he]
    · rw [if_neg he]
      have h1 : gI (pI (pI h g 9 f) g 10 (gI h g 10 + 1)) g 9 = f := by
        simp +decide only [gI_pI, (eq_true (isI_ob ho rfl : isI h g 9)), (eq_true (isI_ob ho rfl : isI h g 10)), isI_pI, true_and, and_true, false_and, and_false, if_true, if_false]
      rw [h1, if_neg hf]
theorem cRf_CA {h : VG} {g : Nat} (f : Int32) (ho : ob h g 10) : CA h (cRf h g f) g f := by
  unfold CA cRf
  by_cases hf : f = 0
  · subst hf
    simp +decide only [gI_pI, (eq_true (isI_ob ho rfl : isI h g 9)), true_and, and_true, false_and, and_false, if_true, if_false]
    exact (Int32.add_zero _).symm
  · simp +decide only [hf, gI_pI, (eq_true (isI_ob ho rfl : isI h g 9)), (eq_true (isI_ob ho rfl : isI h g 10)), isI_pI, true_and, and_true, false_and, and_false, if_true, if_false]
theorem mRf_MA {h : VG} {m : Nat} (f : Int32) (ho : ob h m 11) : MA h (mRf h m f) m f := by
  unfold MA mRf
  by_cases hf : f = 0
  · subst hf
    simp +decide only [gI_pI, (eq_true (isI_ob ho rfl : isI h m 31)), true_and, and_true, false_and, and_false, if_true, if_false]
    exact (Int32.add_zero _).symm
  · simp +decide only [hf, gI_pI, (eq_true (isI_ob ho rfl : isI h m 31)), (eq_true (isI_ob ho rfl : isI h m 32)), isI_pI, true_and, and_true, false_and, and_false, if_true, if_false]
theorem cRf_fr (h : VG) (g : Nat) (f : Int32) : Fr NR (AC g) h (cRf h g f) := by
  unfold cRf
  split
  · exact Fr_pI _ _ _ _ ⟨rfl, Or.inl rfl⟩
  · exact (Fr_pI _ _ _ _ ⟨rfl, Or.inl rfl⟩).tr (Fr_pI _ _ _ _ ⟨rfl, Or.inr rfl⟩)
theorem mRf_fr (h : VG) (m : Nat) (f : Int32) : Fr NR (AM m) h (mRf h m f) := by
  unfold mRf
  split
  · exact Fr_pI _ _ _ _ ⟨rfl, Or.inl rfl⟩
  · exact (Fr_pI _ _ _ _ ⟨rfl, Or.inl rfl⟩).tr (Fr_pI _ _ _ _ ⟨rfl, Or.inr rfl⟩)
theorem msy_0 (h : VG) (m : Nat) (f : Int32) (hf : ¬ f < 0) (ho : ob h m 11) : msy (pI h m 31 0) m f = mRf h m f ∧ msy h m f = mRf h m f := by
  have h2 : f ≤ 0 → f = 0 := fun z => (Int32.le_iff_lt_or_eq.mp z).elim (fun q => absurd q hf) id
  have e1 : msy (pI h m 31 0) m f = msy h m f := by
    unfold msy
    simp +decide only [gI_pI, (eq_true (isI_ob ho rfl : isI h m 31)), pI_same, true_and, and_true, false_and, and_false, if_true, if_false]
  have e2 : msy h m f = mRf h m f := by
    unfold msy mRf
    by_cases z : f = 0
    · rw [if_pos z, if_pos (by rw [z]; decide), z]
    · rw [if_neg z, if_neg (fun q => z (h2 q))]
  exact ⟨e1.trans e2, e2⟩
/-- rows and fields that no call's answer hangs on behind it -/
def SR (g a : Nat) : Prop := (g + 3 < a ∧ a < g + 7) ∨ a = g + 261 ∨ (g + 262 < a ∧ a < g + 266) ∨ (g + 267 < a ∧ a < g + 273) ∨ (g + 277 < a ∧ a < g + 282) ∨ a = g + 284 ∨ (g + 289 < a ∧ a < g + 298)
def SF (g a k : Nat) : Prop := (g < a ∧ a < g + 8) ∨ a = g + 262 ∨ (a = g + 266 ∧ (k = 4 ∨ (10 ≤ k ∧ k ≤ 15) ∨ k = 24 ∨ k = 25 ∨ k = 26 ∨ (36 ≤ k ∧ k ≤ 41) ∨ k = 54))
def SA (g a k : Nat) : Prop := SF g a k ∨ (a = g ∧ (k = 9 ∨ k = 10)) ∨ (a = g + 266 ∧ (k = 31 ∨ k = 32))
theorem Inv_fr {R : Nat → Prop} {F : Nat → Nat → Prop} {h h1 : VG} {g : Nat} (x : Fr R F h h1) (c : ∀ a, R a → SR g a) (d : ∀ a k, F a k → SF g a k) (hh : Inv h g) : Inv h1 g := by
  unfold SR at c
  unfold SF at d
  refine ⟨Rel_fr x ?_ ?_ ?_ hh.1, RCn_fr x ?_ ?_ hh.2⟩
  all_goals intros
  all_goals first | (have := c _ (by assumption); omega) | (have := d _ _ (by assumption); omega)
/-- a call that changes nothing but what it answers -/
theorem Inv_ans {R : Nat → Prop} {F : Nat → Nat → Prop} {h h1 h2 : VG} {g : Nat} {f : Int32} {R1 : Nat → Prop} {F1 : Nat → Nat → Prop} (x : Fr R F h h1) (y : Fr R1 F1 h1 h2) (c1 : ∀ a, R a → SR g a) (d1 : ∀ a k, F a k → SF g a k ∨ (a = g ∧ (k = 9 ∨ k = 10))) (c2 : ∀ a, R1 a → SR g a) (d2 : ∀ a k, F1 a k → SF g a k ∨ (a = g + 266 ∧ (k = 31 ∨ k = 32))) (ca : CA h h1 g f) (ma : MA h1 h2 (g + 266) f) (hh : Inv h g) : Inv h2 g := by
  unfold SR at c1 c2
  unfold SF at d1 d2
  have z := x.un y
  obtain ⟨⟨r1, r2, r3, r4, r5, r6, r7, r8, r9, r10⟩, r11⟩ := hh
  have cc : ∀ a, R a ∨ R1 a → (g + 3 < a ∧ a < g + 7) ∨ a = g + 261 ∨ (g + 262 < a ∧ a < g + 266) ∨ (g + 267 < a ∧ a < g + 273) ∨ (g + 277 < a ∧ a < g + 282) ∨ a = g + 284 ∨ (g + 289 < a ∧ a < g + 298) := fun a q => q.elim (c1 a) (c2 a)
  have dd : ∀ a k, F a k ∨ F1 a k → ((g < a ∧ a < g + 8) ∨ a = g + 262 ∨ (a = g + 266 ∧ (k = 4 ∨ (10 ≤ k ∧ k ≤ 15) ∨ k = 24 ∨ k = 25 ∨ k = 26 ∨ (36 ≤ k ∧ k ≤ 41) ∨ k = 54))) ∨ (a = g ∧ (k = 9 ∨ k = 10)) ∨ (a = g + 266 ∧ (k = 31 ∨ k = 32)) := fun a k q => q.elim (fun w => (d1 a k w).elim Or.inl (fun v => Or.inr (Or.inl v))) (fun w => (d2 a k w).elim Or.inl (fun v => Or.inr (Or.inr v)))
  refine ⟨⟨Sh_fr z ?_ r1, RTape_fr z ?_ ?_ r2, RAns_up r3 ca ma (y.gI ?_) (y.gI ?_) (x.gI ?_) (z.gI ?_) (z.gI ?_), RHd_fr z ?_ r4, RMem_fr z ?_ r5, RReg_fr z ?_ r6, RBins_fr z ?_ ?_ r7, RSl_fr (by decide) z ?_ ?_ r8, RSl_fr (by decide) z ?_ ?_ r9, RPl_fr z ?_ ?_ r10⟩, RCn_fr z ?_ ?_ r11⟩
  all_goals first | (intros; have := cc _ (by assumption); omega) | (intros; have := dd _ _ (by assumption); omega) | (intro q; have := d1 _ _ q; omega) | (intro q; have := d2 _ _ q; omega) | (intro q; have := dd _ _ q; omega)
def CalI (h : VG) (g mC : Nat) (aC : VL) (mM : Nat) (aM : VL) : Prop := ∃ (x : Int32) (h1 h2 : VG), ev mC 0 aC [] h = some (some (.int x), h1) ∧ ev mM 0 aM [] h1 = some (some (.int x), h2) ∧ Inv h2 g ∧ h2.2 = h.2
def CalL (h : VG) (g mC : Nat) (aC : VL) (mM : Nat) (aM : VL) : Prop := ∃ (x : Int64) (h1 h2 : VG), ev mC 0 aC [] h = some (some (.long x), h1) ∧ ev mM 0 aM [] h1 = some (some (.long x), h2) ∧ Inv h2 g ∧ h2.2 = h.2
theorem Inv.sh {h : VG} {g : Nat} (R : Inv h g) : Sh h g := R.1.1
theorem Inv.cls {h : VG} {g : Nat} (R : Inv h g) : ShCls h g := R.1.1.1
theorem Inv.mod {h : VG} {g : Nat} (R : Inv h g) : ShMod h (g + 266) := R.1.1.2.1
theorem Inv.st {h : VG} {g : Nat} (R : Inv h g) : St h g := R.1.1.2.2
theorem Inv.tape {h : VG} {g : Nat} (R : Inv h g) : RTape h g := R.1.2.1
theorem Inv.ans {h : VG} {g : Nat} (R : Inv h g) : RAns h g := R.1.2.2.1
theorem Inv.hd {h : VG} {g : Nat} (R : Inv h g) : RHd h g := R.1.2.2.2.1
theorem Inv.mem {h : VG} {g : Nat} (R : Inv h g) : RMem h g := R.1.2.2.2.2.1
theorem Inv.reg {h : VG} {g : Nat} (R : Inv h g) : RReg h g := R.1.2.2.2.2.2.1
theorem Inv.bins {h : VG} {g : Nat} (R : Inv h g) : RBins h g := R.1.2.2.2.2.2.2.1
theorem Inv.sl0 {h : VG} {g : Nat} (R : Inv h g) : RSl h g 0 := R.1.2.2.2.2.2.2.2.1
theorem Inv.sl1 {h : VG} {g : Nat} (R : Inv h g) : RSl h g 1 := R.1.2.2.2.2.2.2.2.2.1
theorem Inv.pl {h : VG} {g : Nat} (R : Inv h g) : RPl h g := R.1.2.2.2.2.2.2.2.2.2
theorem Inv.cn {h : VG} {g : Nat} (R : Inv h g) : RCn h g := R.2
