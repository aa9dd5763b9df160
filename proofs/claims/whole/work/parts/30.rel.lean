/-! REL: what holds between the class at g and the model at g + 266. -/
def sl (x : Int64) (y : Int32) : Int64 := x <<< (y.toInt64 &&& 63)
def ur (x : Int64) (y : Int32) : Int64 := (x.toUInt64 >>> (y.toInt64.toUInt64 &&& Int64.toUInt64 63)).toInt64
def vNlz (x : Int64) : Int32 := nI (if x.toUInt64.toNat = 0 then 64 else 63 - x.toUInt64.toNat.log2)
/-- a tiny float's bits as a double's -/
def kTin (f : Int64) : Int64 := sl ((63 - vNlz f - 23 + 1 - 127 + 1023).toInt64) 52 + sl f (52 - (63 - vNlz f)) - 4503599627370496
/-- a float's bits as a double's -/
def kDof (b : Int64) : Int64 := if (ur b 23).toInt32 &&& 255 = 255 then (sl (ur b 31 &&& 1) 63 ||| 9218868437227405312) ||| sl (b &&& 8388607) 29 else if (ur b 23).toInt32 &&& 255 ≤ 0 then (if b &&& 8388607 = 0 then sl (ur b 31 &&& 1) 63 else sl (ur b 31 &&& 1) 63 ||| kTin (b &&& 8388607)) else (sl (ur b 31 &&& 1) 63 ||| sl (((ur b 23).toInt32 &&& 255) - 127 + 1023).toInt64 52) ||| sl (b &&& 8388607) 29
/-! forms: members' kinds K and repeats R, cells' kinds C -/
def pre (R : Nat → Nat) : Nat → Nat
  | 0 => 0
  | j + 1 => pre R j + R j
def upN (v b : Nat) : Nat := (v + b - 1) / b * b
def mBy (k : Nat) (w : Int32) : Nat := if w = 0 then (if 4 < nSm k then 4 else nSm k) else nWi k
def lEnd (w : Int32) (C : Nat → Nat) : Nat → Nat
  | 0 => 0
  | c + 1 => upN (lEnd w C c) (mBy (C c) w) + nBy (C c) w
def lOff (w : Int32) (C : Nat → Nat) (c : Nat) : Nat := upN (lEnd w C c) (mBy (C c) w)
def lMul (w : Int32) (C : Nat → Nat) : Nat → Nat
  | 0 => 1
  | c + 1 => if lMul w C c < mBy (C c) w then mBy (C c) w else lMul w C c
def lSiz (w : Int32) (C : Nat → Nat) (n : Nat) : Nat := upN (lEnd w C n) (lMul w C n)
def aNd (k : Nat) : Nat := if nSm k = 8 then 2 else 1
/-- registers used, bytes stacked, whether full -/
def aSt (C : Nat → Nat) : Nat → Nat × Nat × Bool
  | 0 => (0, 0, false)
  | c + 1 => if (aSt C c).2.2 = true ∨ 6 < upN (aSt C c).1 (aNd (C c)) + aNd (C c) then ((aSt C c).1, upN (aSt C c).2.1 (4 * aNd (C c)) + 4 * aNd (C c), true) else (upN (aSt C c).1 (aNd (C c)) + aNd (C c), (aSt C c).2.1, false)
def aReg (C : Nat → Nat) (c : Nat) : Int32 := if (aSt C (c + 1)).2.2 = true then -2 else nI (upN (aSt C c).1 (aNd (C c)))
def aSta (C : Nat → Nat) (c : Nat) : Int32 := if (aSt C (c + 1)).2.2 = true then nI (upN (aSt C c).2.1 (4 * aNd (C c))) else -2
def aTak (C : Nat → Nat) (c : Nat) : Int32 := nI (aSt C (c + 1)).1
def RMm (h : VG) (A M o : Nat) : Prop := ∀ i, i < 256 → ∃ v, v < 256 ∧ aI h M (o + i) = nI v ∧ aI h A i = vp_nar .byte (nI v)
def RRg (h : VG) (A M o : Nat) : Prop := ∀ r, r < 8 → aL h A r = aL h M (o + r)
/-- contents that a cell may have -/
def cOk (s : Nat) (k : Int32) : Prop := (s < 8 → k = nI s) ∧ (s = 8 → k = -2 ∨ ∃ c, c < 10 ∧ k = nI c) ∧ (s = 9 → k = -2 ∨ k = 8)
/-- one number on both sides: x in the class, w and d in the model -/
def fOk (x : Int64) : Prop := 0 ≤ x ∧ x < 4294967296 ∧ ¬ 2139095040 < x &&& 2147483647
def dOk (x : Int64) : Prop := ¬ 9218868437227405312 < x &&& 9223372036854775807
def RNm (k : Int32) (x w : Int64) (d : UInt64) : Prop := (k = 6 → fOk x ∧ d = (kDof x).toUInt64) ∧ (k = 7 → dOk x ∧ d = x.toUInt64) ∧ (¬ k = 6 → ¬ k = 7 → ¬ k = 9 → ¬ k = -2 → x = w) ∧ (k = 9 → x = 0) ∧ (k = -2 → x = 0)
def RBn (h : VG) (B SR so MR CK CW CR co b : Nat) : Prop := ∃ s n, s < 12 ∧ n ≤ 40 ∧ (10 ≤ s → n = 0) ∧ gI h B 0 = nI s ∧ aI h SR (so + b) = nI s ∧ gI h B 1 = nI n ∧ aI h MR (so + b) = nI n ∧ ∀ i, i < n → cOk s (aI h (B + 1) i) ∧ aI h CK (co + 40 * b + i) = aI h (B + 1) i ∧ RNm (aI h (B + 1) i) (aL h (B + 2) i) (aL h CW (co + 40 * b + i)) (aD h CR (co + 40 * b + i))
def RTape (h : VG) (g : Nat) : Prop := (∃ t, t ≤ 2000 ∧ gI h g 1 = nI t ∧ gI h (g + 266) 2 = nI t) ∧ ∀ i, i < 2000 → aI h (g + 1) i = aI h (g + 267) i ∧ ∃ v, aI h (g + 1) i = vp_nar .byte v
def RAns (h : VG) (g : Nat) : Prop := gI h g 5 = gI h (g + 266) 16 ∧ gI h g 9 = gI h (g + 266) 31 ∧ gI h g 10 = gI h (g + 266) 32
def RHd (h : VG) (g : Nat) : Prop := ∃ l fr, 1 ≤ l ∧ l ≤ 256 ∧ 36 * fr ≤ l ∧ gI h (g + 173) 1 = nI l ∧ gI h (g + 266) 18 = nI l ∧ gI h (g + 172) 3 = nI fr ∧ gI h (g + 266) 57 = nI fr ∧ gI h (g + 173) 2 = gI h (g + 266) 17 ∧ (gI h (g + 266) 17 = 0 ∨ gI h (g + 266) 17 = 1)
def RMem (h : VG) (g : Nat) : Prop := RMm h (g + 174) (g + 277) 0
def RReg (h : VG) (g : Nat) : Prop := RRg h (g + 176) (g + 298) 0
def RBins (h : VG) (g : Nat) : Prop := ∀ b, b < 8 → RBn h (g + (177 + 3 * b)) (g + 285) 0 (g + 286) (g + 287) (g + 288) (g + 289) 0 b
def RSl (h : VG) (g : Nat) (σ : Nat) : Prop := aI h (g + 260) σ = aI h (g + 299) σ ∧ (aI h (g + 299) σ = 0 ∨ aI h (g + 299) σ = 1) ∧ (¬ aI h (g + 299) σ = 0 → (∃ l fr, gI h (g + 173) 1 = nI l ∧ (l ≤ 256 ∧ 36 * fr ≤ l) ∧ gI h (g + (203 + 29 * σ)) 1 = nI l ∧ gI h (g + (203 + 29 * σ)) 2 = gI h (g + 173) 2 ∧ gI h (g + (202 + 29 * σ)) 3 = nI fr ∧ aI h (g + 307) σ = nI fr) ∧ RMm h (g + (204 + 29 * σ)) (g + 300) (256 * σ) ∧ RRg h (g + (206 + 29 * σ)) (g + 306) (8 * σ) ∧ ∀ b, b < 8 → RBn h (g + (207 + 29 * σ + 3 * b)) (g + 301) (8 * σ) (g + 302) (g + 303) (g + 304) (g + 305) (320 * σ) b)
def RFm (h : VG) (g c f : Nat) : Prop := ∃ (m : Nat) (K R C : Nat → Nat), 1 ≤ m ∧ m ≤ 8 ∧ (∀ j, j < m → K j < 10 ∧ 1 ≤ R j ∧ R j ≤ 4) ∧ (∀ j i, j < m → i < R j → C (pre R j + i) = K j) ∧ gI h (g + c) 1 = nI m ∧ aI h (g + 274) f = nI m ∧ gI h (g + c) 2 = nI (pre R m) ∧ (∀ j, j < m → aI h (g + (c + 1)) j = nI (K j) ∧ aI h (g + 275) (8 * f + j) = nI (K j) ∧ aI h (g + (c + 2)) j = nI (R j) ∧ aI h (g + 276) (8 * f + j) = nI (R j) ∧ aI h (g + (c + 3)) j = nI (pre R j)) ∧ gI h (g + (c + 5)) 0 = 0 ∧ gI h (g + (c + 7)) 0 = 1 ∧ gI h (g + (c + 5)) 2 = nI (lMul 0 C (pre R m)) ∧ gI h (g + (c + 5)) 3 = nI (lSiz 0 C (pre R m)) ∧ gI h (g + (c + 7)) 2 = nI (lMul 1 C (pre R m)) ∧ gI h (g + (c + 7)) 3 = nI (lSiz 1 C (pre R m)) ∧ ∀ i, i < pre R m → aI h (g + (c + 4)) i = nI (C i) ∧ aI h (g + (c + 6)) i = nI (lOff 0 C i) ∧ aI h (g + (c + 8)) i = nI (lOff 1 C i) ∧ aI h (g + (c + 10)) i = aReg C i ∧ aI h (g + (c + 11)) i = aSta C i ∧ aI h (g + (c + 12)) i = aTak C i
def RPl (h : VG) (g : Nat) : Prop := ∃ c, (c = 8 ∨ c = 90) ∧ rf h g 3 (g + c) ∧ ∃ n, n ≤ 6 ∧ gI h (g + c) 2 = nI n ∧ gI h (g + 266) 19 = nI n ∧ ∀ f, f < n → RFm h g (c + 4 + 13 * f) f
def Rel (h : VG) (g : Nat) : Prop := Sh h g ∧ RTape h g ∧ RAns h g ∧ RHd h g ∧ RMem h g ∧ RReg h g ∧ RBins h g ∧ RSl h g 0 ∧ RSl h g 1 ∧ RPl h g
theorem ad_ne {g a b : Nat} (hn : ¬ a = b) : ¬ g + a = g + b := fun z => hn (Nat.add_left_cancel z)
theorem ad_n0 {g b : Nat} (hn : ¬ b = 0) : ¬ g = g + b := fun z => hn (by omega)
theorem gI_pI_ne (h : VG) (a k : Nat) (x : Int32) (b j : Nat) (hb : ¬ (b = a ∧ j = k)) : gI (pI h a k x) b j = gI h b j := by rw [gI_pI, if_neg (fun z => hb ⟨z.1, z.2.1⟩)]
theorem gL_pL_ne (h : VG) (a k : Nat) (x : Int64) (b j : Nat) (hb : ¬ (b = a ∧ j = k)) : gL (pL h a k x) b j = gL h b j := by rw [gL_pL, if_neg (fun z => hb ⟨z.1, z.2.1⟩)]
theorem gD_pD_ne (h : VG) (a k : Nat) (x : UInt64) (b j : Nat) (hb : ¬ (b = a ∧ j = k)) : gD (pD h a k x) b j = gD h b j := by rw [gD_pD, if_neg (fun z => hb ⟨z.1, z.2.1⟩)]
theorem RTape_pI (h : VG) (g : Nat) (c k : Nat) (x : Int32) (hc : ¬ (c = 0 ∧ k = 1) ∧ ¬ (c = 266 ∧ k = 2)) : RTape (pI h (g + c) k x) g ↔ RTape h g := by
  unfold RTape
  have q0 : gI (pI h (g + c) k x) (g) 1 = gI h (g) 1 := gI_pI_ne _ _ _ _ _ _ (fun z => by omega)
  have q1 : gI (pI h (g + c) k x) (g + 266) 2 = gI h (g + 266) 2 := gI_pI_ne _ _ _ _ _ _ (fun z => by omega)
  simp only [gL_pI, aI_pI, aL_pI, aD_pI, rf_pI, q0, q1]
theorem RTape_pL (h : VG) (g : Nat) (c k : Nat) (x : Int64) : RTape (pL h (g + c) k x) g ↔ RTape h g := by
  unfold RTape
  simp only [gI_pL, aI_pL, aL_pL, aD_pL, rf_pL]
theorem RTape_pD (h : VG) (g : Nat) (c k : Nat) (x : UInt64) : RTape (pD h (g + c) k x) g ↔ RTape h g := by
  unfold RTape
  simp only [gI_pD, gL_pD, aI_pD, aL_pD, aD_pD, rf_pD]
theorem RTape_wI (h : VG) (g : Nat) (c k : Nat) (x : Int32) (hc : ¬ c = 1 ∧ ¬ c = 267) : RTape (wI h (g + c) k x) g ↔ RTape h g := by
  unfold RTape
  have q0 : ∀ j, aI (wI h (g + c) k x) (g + 1) j = aI h (g + 1) j := fun j => aI_wI_ne _ _ _ _ _ _ (fun z => by omega)
  have q1 : ∀ j, aI (wI h (g + c) k x) (g + 267) j = aI h (g + 267) j := fun j => aI_wI_ne _ _ _ _ _ _ (fun z => by omega)
  simp only [gI_wI, gL_wI, aL_wI, aD_wI, rf_wI, q0, q1]
theorem RTape_wL (h : VG) (g : Nat) (c k : Nat) (x : Int64) (hc : ¬ c = 1 ∧ ¬ c = 267) : RTape (wL h (g + c) k x) g ↔ RTape h g := by
  unfold RTape
  simp only [gI_wL, gL_wL, aI_wL, aD_wL, rf_wL]
theorem RTape_wD (h : VG) (g : Nat) (c k : Nat) (x : UInt64) (hc : ¬ c = 1 ∧ ¬ c = 267) : RTape (wD h (g + c) k x) g ↔ RTape h g := by
  unfold RTape
  simp only [gI_wD, gL_wD, aI_wD, aL_wD, rf_wD]
theorem RTape_bI (h : VG) (g : Nat) (c : Nat) (F : Nat → Int32) (hc : ¬ c = 1 ∧ ¬ c = 267) : RTape (bI h (g + c) F) g ↔ RTape h g := by
  unfold RTape
  have q0 : ∀ j, aI (bI h (g + c) F) (g + 1) j = aI h (g + 1) j := fun j => aI_bI_ne _ _ _ _ _ (fun z => by omega)
  have q1 : ∀ j, aI (bI h (g + c) F) (g + 267) j = aI h (g + 267) j := fun j => aI_bI_ne _ _ _ _ _ (fun z => by omega)
  simp only [gI_bI, gL_bI, aL_bI, aD_bI, rf_bI, q0, q1]
theorem RTape_bL (h : VG) (g : Nat) (c : Nat) (F : Nat → Int64) (hc : ¬ c = 1 ∧ ¬ c = 267) : RTape (bL h (g + c) F) g ↔ RTape h g := by
  unfold RTape
  simp only [gI_bL, gL_bL, aI_bL, aD_bL, rf_bL]
theorem RTape_bD (h : VG) (g : Nat) (c : Nat) (F : Nat → UInt64) (hc : ¬ c = 1 ∧ ¬ c = 267) : RTape (bD h (g + c) F) g ↔ RTape h g := by
  unfold RTape
  simp only [gI_bD, gL_bD, aI_bD, aL_bD, rf_bD]
theorem RAns_pI (h : VG) (g : Nat) (c k : Nat) (x : Int32) (hc : ¬ (c = 0 ∧ (k = 5 ∨ k = 9 ∨ k = 10)) ∧ ¬ (c = 266 ∧ (k = 16 ∨ k = 31 ∨ k = 32))) : RAns (pI h (g + c) k x) g ↔ RAns h g := by
  unfold RAns
  have q0 : gI (pI h (g + c) k x) (g) 5 = gI h (g) 5 := gI_pI_ne _ _ _ _ _ _ (fun z => by omega)
  have q1 : gI (pI h (g + c) k x) (g) 9 = gI h (g) 9 := gI_pI_ne _ _ _ _ _ _ (fun z => by omega)
  have q2 : gI (pI h (g + c) k x) (g) 10 = gI h (g) 10 := gI_pI_ne _ _ _ _ _ _ (fun z => by omega)
  have q3 : gI (pI h (g + c) k x) (g + 266) 16 = gI h (g + 266) 16 := gI_pI_ne _ _ _ _ _ _ (fun z => by omega)
  have q4 : gI (pI h (g + c) k x) (g + 266) 31 = gI h (g + 266) 31 := gI_pI_ne _ _ _ _ _ _ (fun z => by omega)
  have q5 : gI (pI h (g + c) k x) (g + 266) 32 = gI h (g + 266) 32 := gI_pI_ne _ _ _ _ _ _ (fun z => by omega)
  simp only [gL_pI, aI_pI, aL_pI, aD_pI, rf_pI, q0, q1, q2, q3, q4, q5]
theorem RAns_pL (h : VG) (g : Nat) (c k : Nat) (x : Int64) : RAns (pL h (g + c) k x) g ↔ RAns h g := by
  unfold RAns
  simp only [gI_pL, aI_pL, aL_pL, aD_pL, rf_pL]
theorem RAns_pD (h : VG) (g : Nat) (c k : Nat) (x : UInt64) : RAns (pD h (g + c) k x) g ↔ RAns h g := by
  unfold RAns
  simp only [gI_pD, gL_pD, aI_pD, aL_pD, aD_pD, rf_pD]
theorem RAns_wI (h : VG) (g : Nat) (c k : Nat) (x : Int32) : RAns (wI h (g + c) k x) g ↔ RAns h g := by
  unfold RAns
  simp only [gI_wI, gL_wI, aL_wI, aD_wI, rf_wI]
theorem RAns_wL (h : VG) (g : Nat) (c k : Nat) (x : Int64) : RAns (wL h (g + c) k x) g ↔ RAns h g := by
  unfold RAns
  simp only [gI_wL, gL_wL, aI_wL, aD_wL, rf_wL]
theorem RAns_wD (h : VG) (g : Nat) (c k : Nat) (x : UInt64) : RAns (wD h (g + c) k x) g ↔ RAns h g := by
  unfold RAns
  simp only [gI_wD, gL_wD, aI_wD, aL_wD, rf_wD]
theorem RAns_bI (h : VG) (g : Nat) (c : Nat) (F : Nat → Int32) : RAns (bI h (g + c) F) g ↔ RAns h g := by
  unfold RAns
  simp only [gI_bI, gL_bI, aL_bI, aD_bI, rf_bI]
theorem RAns_bL (h : VG) (g : Nat) (c : Nat) (F : Nat → Int64) : RAns (bL h (g + c) F) g ↔ RAns h g := by
  unfold RAns
  simp only [gI_bL, gL_bL, aI_bL, aD_bL, rf_bL]
theorem RAns_bD (h : VG) (g : Nat) (c : Nat) (F : Nat → UInt64) : RAns (bD h (g + c) F) g ↔ RAns h g := by
  unfold RAns
  simp only [gI_bD, gL_bD, aI_bD, aL_bD, rf_bD]
theorem RHd_pI (h : VG) (g : Nat) (c k : Nat) (x : Int32) (hc : ¬ c = 173 ∧ ¬ (c = 172 ∧ k = 3) ∧ ¬ (c = 266 ∧ (k = 17 ∨ k = 18 ∨ k = 57))) : RHd (pI h (g + c) k x) g ↔ RHd h g := by
  unfold RHd
  have q0 : gI (pI h (g + c) k x) (g + 173) 1 = gI h (g + 173) 1 := gI_pI_ne _ _ _ _ _ _ (fun z => by omega)
  have q1 : gI (pI h (g + c) k x) (g + 173) 2 = gI h (g + 173) 2 := gI_pI_ne _ _ _ _ _ _ (fun z => by omega)
  have q2 : gI (pI h (g + c) k x) (g + 172) 3 = gI h (g + 172) 3 := gI_pI_ne _ _ _ _ _ _ (fun z => by omega)
  have q3 : gI (pI h (g + c) k x) (g + 266) 18 = gI h (g + 266) 18 := gI_pI_ne _ _ _ _ _ _ (fun z => by omega)
  have q4 : gI (pI h (g + c) k x) (g + 266) 57 = gI h (g + 266) 57 := gI_pI_ne _ _ _ _ _ _ (fun z => by omega)
  have q5 : gI (pI h (g + c) k x) (g + 266) 17 = gI h (g + 266) 17 := gI_pI_ne _ _ _ _ _ _ (fun z => by omega)
  simp only [gL_pI, aI_pI, aL_pI, aD_pI, rf_pI, q0, q1, q2, q3, q4, q5]
theorem RHd_pL (h : VG) (g : Nat) (c k : Nat) (x : Int64) : RHd (pL h (g + c) k x) g ↔ RHd h g := by
  unfold RHd
  simp only [gI_pL, aI_pL, aL_pL, aD_pL, rf_pL]
theorem RHd_pD (h : VG) (g : Nat) (c k : Nat) (x : UInt64) : RHd (pD h (g + c) k x) g ↔ RHd h g := by
  unfold RHd
  simp only [gI_pD, gL_pD, aI_pD, aL_pD, aD_pD, rf_pD]
theorem RHd_wI (h : VG) (g : Nat) (c k : Nat) (x : Int32) : RHd (wI h (g + c) k x) g ↔ RHd h g := by
  unfold RHd
  simp only [gI_wI, gL_wI, aL_wI, aD_wI, rf_wI]
theorem RHd_wL (h : VG) (g : Nat) (c k : Nat) (x : Int64) : RHd (wL h (g + c) k x) g ↔ RHd h g := by
  unfold RHd
  simp only [gI_wL, gL_wL, aI_wL, aD_wL, rf_wL]
theorem RHd_wD (h : VG) (g : Nat) (c k : Nat) (x : UInt64) : RHd (wD h (g + c) k x) g ↔ RHd h g := by
  unfold RHd
  simp only [gI_wD, gL_wD, aI_wD, aL_wD, rf_wD]
theorem RHd_bI (h : VG) (g : Nat) (c : Nat) (F : Nat → Int32) : RHd (bI h (g + c) F) g ↔ RHd h g := by
  unfold RHd
  simp only [gI_bI, gL_bI, aL_bI, aD_bI, rf_bI]
theorem RHd_bL (h : VG) (g : Nat) (c : Nat) (F : Nat → Int64) : RHd (bL h (g + c) F) g ↔ RHd h g := by
  unfold RHd
  simp only [gI_bL, gL_bL, aI_bL, aD_bL, rf_bL]
theorem RHd_bD (h : VG) (g : Nat) (c : Nat) (F : Nat → UInt64) : RHd (bD h (g + c) F) g ↔ RHd h g := by
  unfold RHd
  simp only [gI_bD, gL_bD, aI_bD, aL_bD, rf_bD]
theorem RMem_pI (h : VG) (g : Nat) (c k : Nat) (x : Int32) : RMem (pI h (g + c) k x) g ↔ RMem h g := by
  unfold RMem RMm
  simp only [gL_pI, aI_pI, aL_pI, aD_pI, rf_pI]
theorem RMem_pL (h : VG) (g : Nat) (c k : Nat) (x : Int64) : RMem (pL h (g + c) k x) g ↔ RMem h g := by
  unfold RMem RMm
  simp only [gI_pL, aI_pL, aL_pL, aD_pL, rf_pL]
theorem RMem_pD (h : VG) (g : Nat) (c k : Nat) (x : UInt64) : RMem (pD h (g + c) k x) g ↔ RMem h g := by
  unfold RMem RMm
  simp only [gI_pD, gL_pD, aI_pD, aL_pD, aD_pD, rf_pD]
theorem RMem_wI (h : VG) (g : Nat) (c k : Nat) (x : Int32) (hc : ¬ c = 174 ∧ ¬ c = 277) : RMem (wI h (g + c) k x) g ↔ RMem h g := by
  unfold RMem RMm
  have q0 : ∀ j, aI (wI h (g + c) k x) (g + 174) j = aI h (g + 174) j := fun j => aI_wI_ne _ _ _ _ _ _ (fun z => by omega)
  have q1 : ∀ j, aI (wI h (g + c) k x) (g + 277) j = aI h (g + 277) j := fun j => aI_wI_ne _ _ _ _ _ _ (fun z => by omega)
  simp only [gI_wI, gL_wI, aL_wI, aD_wI, rf_wI, q0, q1]
theorem RMem_wL (h : VG) (g : Nat) (c k : Nat) (x : Int64) (hc : ¬ c = 174 ∧ ¬ c = 277) : RMem (wL h (g + c) k x) g ↔ RMem h g := by
  unfold RMem RMm
  simp only [gI_wL, gL_wL, aI_wL, aD_wL, rf_wL]
theorem RMem_wD (h : VG) (g : Nat) (c k : Nat) (x : UInt64) (hc : ¬ c = 174 ∧ ¬ c = 277) : RMem (wD h (g + c) k x) g ↔ RMem h g := by
  unfold RMem RMm
  simp only [gI_wD, gL_wD, aI_wD, aL_wD, rf_wD]
theorem RMem_bI (h : VG) (g : Nat) (c : Nat) (F : Nat → Int32) (hc : ¬ c = 174 ∧ ¬ c = 277) : RMem (bI h (g + c) F) g ↔ RMem h g := by
  unfold RMem RMm
  have q0 : ∀ j, aI (bI h (g + c) F) (g + 174) j = aI h (g + 174) j := fun j => aI_bI_ne _ _ _ _ _ (fun z => by omega)
  have q1 : ∀ j, aI (bI h (g + c) F) (g + 277) j = aI h (g + 277) j := fun j => aI_bI_ne _ _ _ _ _ (fun z => by omega)
  simp only [gI_bI, gL_bI, aL_bI, aD_bI, rf_bI, q0, q1]
theorem RMem_bL (h : VG) (g : Nat) (c : Nat) (F : Nat → Int64) (hc : ¬ c = 174 ∧ ¬ c = 277) : RMem (bL h (g + c) F) g ↔ RMem h g := by
  unfold RMem RMm
  simp only [gI_bL, gL_bL, aI_bL, aD_bL, rf_bL]
theorem RMem_bD (h : VG) (g : Nat) (c : Nat) (F : Nat → UInt64) (hc : ¬ c = 174 ∧ ¬ c = 277) : RMem (bD h (g + c) F) g ↔ RMem h g := by
  unfold RMem RMm
  simp only [gI_bD, gL_bD, aI_bD, aL_bD, rf_bD]
theorem RReg_pI (h : VG) (g : Nat) (c k : Nat) (x : Int32) : RReg (pI h (g + c) k x) g ↔ RReg h g := by
  unfold RReg RRg
  simp only [gL_pI, aI_pI, aL_pI, aD_pI, rf_pI]
theorem RReg_pL (h : VG) (g : Nat) (c k : Nat) (x : Int64) : RReg (pL h (g + c) k x) g ↔ RReg h g := by
  unfold RReg RRg
  simp only [gI_pL, aI_pL, aL_pL, aD_pL, rf_pL]
theorem RReg_pD (h : VG) (g : Nat) (c k : Nat) (x : UInt64) : RReg (pD h (g + c) k x) g ↔ RReg h g := by
  unfold RReg RRg
  simp only [gI_pD, gL_pD, aI_pD, aL_pD, aD_pD, rf_pD]
theorem RReg_wI (h : VG) (g : Nat) (c k : Nat) (x : Int32) (hc : ¬ c = 176 ∧ ¬ c = 298) : RReg (wI h (g + c) k x) g ↔ RReg h g := by
  unfold RReg RRg
  simp only [gI_wI, gL_wI, aL_wI, aD_wI, rf_wI]
theorem RReg_wL (h : VG) (g : Nat) (c k : Nat) (x : Int64) (hc : ¬ c = 176 ∧ ¬ c = 298) : RReg (wL h (g + c) k x) g ↔ RReg h g := by
  unfold RReg RRg
  have q0 : ∀ j, aL (wL h (g + c) k x) (g + 176) j = aL h (g + 176) j := fun j => aL_wL_ne _ _ _ _ _ _ (fun z => by omega)
  have q1 : ∀ j, aL (wL h (g + c) k x) (g + 298) j = aL h (g + 298) j := fun j => aL_wL_ne _ _ _ _ _ _ (fun z => by omega)
  simp only [gI_wL, gL_wL, aI_wL, aD_wL, rf_wL, q0, q1]
theorem RReg_wD (h : VG) (g : Nat) (c k : Nat) (x : UInt64) (hc : ¬ c = 176 ∧ ¬ c = 298) : RReg (wD h (g + c) k x) g ↔ RReg h g := by
  unfold RReg RRg
  simp only [gI_wD, gL_wD, aI_wD, aL_wD, rf_wD]
theorem RReg_bI (h : VG) (g : Nat) (c : Nat) (F : Nat → Int32) (hc : ¬ c = 176 ∧ ¬ c = 298) : RReg (bI h (g + c) F) g ↔ RReg h g := by
  unfold RReg RRg
  simp only [gI_bI, gL_bI, aL_bI, aD_bI, rf_bI]
theorem RReg_bL (h : VG) (g : Nat) (c : Nat) (F : Nat → Int64) (hc : ¬ c = 176 ∧ ¬ c = 298) : RReg (bL h (g + c) F) g ↔ RReg h g := by
  unfold RReg RRg
  have q0 : ∀ j, aL (bL h (g + c) F) (g + 176) j = aL h (g + 176) j := fun j => aL_bL_ne _ _ _ _ _ (fun z => by omega)
  have q1 : ∀ j, aL (bL h (g + c) F) (g + 298) j = aL h (g + 298) j := fun j => aL_bL_ne _ _ _ _ _ (fun z => by omega)
  simp only [gI_bL, gL_bL, aI_bL, aD_bL, rf_bL, q0, q1]
theorem RReg_bD (h : VG) (g : Nat) (c : Nat) (F : Nat → UInt64) (hc : ¬ c = 176 ∧ ¬ c = 298) : RReg (bD h (g + c) F) g ↔ RReg h g := by
  unfold RReg RRg
  simp only [gI_bD, gL_bD, aI_bD, aL_bD, rf_bD]
theorem RBins_pI (h : VG) (g : Nat) (c k : Nat) (x : Int32) (hc : c < 177 ∨ 200 < c) : RBins (pI h (g + c) k x) g ↔ RBins h g := by
  unfold RBins RBn
  have q0 : ∀ b, b < 8 → gI (pI h (g + c) k x) (g + (177 + 3 * b)) 0 = gI h (g + (177 + 3 * b)) 0 := fun b hb => gI_pI_ne _ _ _ _ _ _ (fun z => by omega)
  have q1 : ∀ b, b < 8 → gI (pI h (g + c) k x) (g + (177 + 3 * b)) 1 = gI h (g + (177 + 3 * b)) 1 := fun b hb => gI_pI_ne _ _ _ _ _ _ (fun z => by omega)
  refine forall_congr' fun b => imp_congr_right fun hb => ?_
  simp only [gL_pI, aI_pI, aL_pI, aD_pI, rf_pI, q0 b hb, q1 b hb]
theorem RBins_pL (h : VG) (g : Nat) (c k : Nat) (x : Int64) : RBins (pL h (g + c) k x) g ↔ RBins h g := by
  unfold RBins RBn
  simp only [gI_pL, aI_pL, aL_pL, aD_pL, rf_pL]
theorem RBins_pD (h : VG) (g : Nat) (c k : Nat) (x : UInt64) : RBins (pD h (g + c) k x) g ↔ RBins h g := by
  unfold RBins RBn
  simp only [gI_pD, gL_pD, aI_pD, aL_pD, aD_pD, rf_pD]
theorem RBins_wI (h : VG) (g : Nat) (c k : Nat) (x : Int32) (hc : (c < 178 ∨ 200 < c) ∧ ¬ (285 ≤ c ∧ c ≤ 289)) : RBins (wI h (g + c) k x) g ↔ RBins h g := by
  unfold RBins RBn
  have q0 : ∀ j, aI (wI h (g + c) k x) (g + 285) j = aI h (g + 285) j := fun j => aI_wI_ne _ _ _ _ _ _ (fun z => by omega)
  have q1 : ∀ j, aI (wI h (g + c) k x) (g + 286) j = aI h (g + 286) j := fun j => aI_wI_ne _ _ _ _ _ _ (fun z => by omega)
  have q2 : ∀ j, aI (wI h (g + c) k x) (g + 287) j = aI h (g + 287) j := fun j => aI_wI_ne _ _ _ _ _ _ (fun z => by omega)
  have q3 : ∀ b, b < 8 → ∀ j, aI (wI h (g + c) k x) (g + (177 + 3 * b) + 1) j = aI h (g + (177 + 3 * b) + 1) j := fun b hb j => aI_wI_ne _ _ _ _ _ _ (fun z => by omega)
  refine forall_congr' fun b => imp_congr_right fun hb => ?_
  simp only [gI_wI, gL_wI, aL_wI, aD_wI, rf_wI, q0, q1, q2, q3 b hb]
theorem RBins_wL (h : VG) (g : Nat) (c k : Nat) (x : Int64) (hc : (c < 178 ∨ 200 < c) ∧ ¬ (285 ≤ c ∧ c ≤ 289)) : RBins (wL h (g + c) k x) g ↔ RBins h g := by
  unfold RBins RBn
  have q0 : ∀ j, aL (wL h (g + c) k x) (g + 288) j = aL h (g + 288) j := fun j => aL_wL_ne _ _ _ _ _ _ (fun z => by omega)
  have q1 : ∀ b, b < 8 → ∀ j, aL (wL h (g + c) k x) (g + (177 + 3 * b) + 2) j = aL h (g + (177 + 3 * b) + 2) j := fun b hb j => aL_wL_ne _ _ _ _ _ _ (fun z => by omega)
  refine forall_congr' fun b => imp_congr_right fun hb => ?_
  simp only [gI_wL, gL_wL, aI_wL, aD_wL, rf_wL, q0, q1 b hb]
theorem RBins_wD (h : VG) (g : Nat) (c k : Nat) (x : UInt64) (hc : (c < 178 ∨ 200 < c) ∧ ¬ (285 ≤ c ∧ c ≤ 289)) : RBins (wD h (g + c) k x) g ↔ RBins h g := by
  unfold RBins RBn
  have q0 : ∀ j, aD (wD h (g + c) k x) (g + 289) j = aD h (g + 289) j := fun j => aD_wD_ne _ _ _ _ _ _ (fun z => by omega)
  simp only [gI_wD, gL_wD, aI_wD, aL_wD, rf_wD, q0]
theorem RBins_bI (h : VG) (g : Nat) (c : Nat) (F : Nat → Int32) (hc : (c < 178 ∨ 200 < c) ∧ ¬ (285 ≤ c ∧ c ≤ 289)) : RBins (bI h (g + c) F) g ↔ RBins h g := by
  unfold RBins RBn
  have q0 : ∀ j, aI (bI h (g + c) F) (g + 285) j = aI h (g + 285) j := fun j => aI_bI_ne _ _ _ _ _ (fun z => by omega)
  have q1 : ∀ j, aI (bI h (g + c) F) (g + 286) j = aI h (g + 286) j := fun j => aI_bI_ne _ _ _ _ _ (fun z => by omega)
  have q2 : ∀ j, aI (bI h (g + c) F) (g + 287) j = aI h (g + 287) j := fun j => aI_bI_ne _ _ _ _ _ (fun z => by omega)
  have q3 : ∀ b, b < 8 → ∀ j, aI (bI h (g + c) F) (g + (177 + 3 * b) + 1) j = aI h (g + (177 + 3 * b) + 1) j := fun b hb j => aI_bI_ne _ _ _ _ _ (fun z => by omega)
  refine forall_congr' fun b => imp_congr_right fun hb => ?_
  simp only [gI_bI, gL_bI, aL_bI, aD_bI, rf_bI, q0, q1, q2, q3 b hb]
theorem RBins_bL (h : VG) (g : Nat) (c : Nat) (F : Nat → Int64) (hc : (c < 178 ∨ 200 < c) ∧ ¬ (285 ≤ c ∧ c ≤ 289)) : RBins (bL h (g + c) F) g ↔ RBins h g := by
  unfold RBins RBn
  have q0 : ∀ j, aL (bL h (g + c) F) (g + 288) j = aL h (g + 288) j := fun j => aL_bL_ne _ _ _ _ _ (fun z => by omega)
  have q1 : ∀ b, b < 8 → ∀ j, aL (bL h (g + c) F) (g + (177 + 3 * b) + 2) j = aL h (g + (177 + 3 * b) + 2) j := fun b hb j => aL_bL_ne _ _ _ _ _ (fun z => by omega)
  refine forall_congr' fun b => imp_congr_right fun hb => ?_
  simp only [gI_bL, gL_bL, aI_bL, aD_bL, rf_bL, q0, q1 b hb]
theorem RBins_bD (h : VG) (g : Nat) (c : Nat) (F : Nat → UInt64) (hc : (c < 178 ∨ 200 < c) ∧ ¬ (285 ≤ c ∧ c ≤ 289)) : RBins (bD h (g + c) F) g ↔ RBins h g := by
  unfold RBins RBn
  have q0 : ∀ j, aD (bD h (g + c) F) (g + 289) j = aD h (g + 289) j := fun j => aD_bD_ne _ _ _ _ _ (fun z => by omega)
  simp only [gI_bD, gL_bD, aI_bD, aL_bD, rf_bD, q0]
theorem RSl_pI (h : VG) (g : Nat) (σ : Nat) (hσ : σ < 2) (c k : Nat) (x : Int32) (hc : ¬ c = 173 ∧ (c < 202 ∨ 260 < c)) : RSl (pI h (g + c) k x) g σ ↔ RSl h g σ := by
  unfold RSl RMm RRg RBn
  have q0 : gI (pI h (g + c) k x) (g + 173) 1 = gI h (g + 173) 1 := gI_pI_ne _ _ _ _ _ _ (fun z => by omega)
  have q1 : gI (pI h (g + c) k x) (g + 173) 2 = gI h (g + 173) 2 := gI_pI_ne _ _ _ _ _ _ (fun z => by omega)
  have q2 : gI (pI h (g + c) k x) (g + (203 + 29 * σ)) 1 = gI h (g + (203 + 29 * σ)) 1 := gI_pI_ne _ _ _ _ _ _ (fun z => by omega)
  have q3 : gI (pI h (g + c) k x) (g + (203 + 29 * σ)) 2 = gI h (g + (203 + 29 * σ)) 2 := gI_pI_ne _ _ _ _ _ _ (fun z => by omega)
  have q4 : gI (pI h (g + c) k x) (g + (202 + 29 * σ)) 3 = gI h (g + (202 + 29 * σ)) 3 := gI_pI_ne _ _ _ _ _ _ (fun z => by omega)
  have q5 : ∀ b, b < 8 → gI (pI h (g + c) k x) (g + (207 + 29 * σ + 3 * b)) 0 = gI h (g + (207 + 29 * σ + 3 * b)) 0 := fun b hb => gI_pI_ne _ _ _ _ _ _ (fun z => by omega)
  have q6 : ∀ b, b < 8 → gI (pI h (g + c) k x) (g + (207 + 29 * σ + 3 * b)) 1 = gI h (g + (207 + 29 * σ + 3 * b)) 1 := fun b hb => gI_pI_ne _ _ _ _ _ _ (fun z => by omega)
  simp only [gL_pI, aI_pI, aL_pI, aD_pI, rf_pI, q0, q1, q2, q3, q4]
  refine and_congr_right fun _ => and_congr_right fun _ => imp_congr_right fun _ => and_congr_right fun _ => and_congr_right fun _ => and_congr_right fun _ => forall_congr' fun b => imp_congr_right fun hb => ?_
  simp only [q5 b hb, q6 b hb]
theorem RSl_pL (h : VG) (g : Nat) (σ : Nat) (hσ : σ < 2) (c k : Nat) (x : Int64) : RSl (pL h (g + c) k x) g σ ↔ RSl h g σ := by
  unfold RSl RMm RRg RBn
  simp only [gI_pL, aI_pL, aL_pL, aD_pL, rf_pL]
theorem RSl_pD (h : VG) (g : Nat) (σ : Nat) (hσ : σ < 2) (c k : Nat) (x : UInt64) : RSl (pD h (g + c) k x) g σ ↔ RSl h g σ := by
  unfold RSl RMm RRg RBn
  simp only [gI_pD, gL_pD, aI_pD, aL_pD, aD_pD, rf_pD]
theorem RSl_wI (h : VG) (g : Nat) (σ : Nat) (hσ : σ < 2) (c k : Nat) (x : Int32) (hc : (c < 202 ∨ 260 < c) ∧ ¬ (299 ≤ c ∧ c ≤ 307)) : RSl (wI h (g + c) k x) g σ ↔ RSl h g σ := by
  unfold RSl RMm RRg RBn
  have q0 : ∀ j, aI (wI h (g + c) k x) (g + 260) j = aI h (g + 260) j := fun j => aI_wI_ne _ _ _ _ _ _ (fun z => by omega)
  have q1 : ∀ j, aI (wI h (g + c) k x) (g + 299) j = aI h (g + 299) j := fun j => aI_wI_ne _ _ _ _ _ _ (fun z => by omega)
  have q2 : ∀ j, aI (wI h (g + c) k x) (g + 307) j = aI h (g + 307) j := fun j => aI_wI_ne _ _ _ _ _ _ (fun z => by omega)
  have q3 : ∀ j, aI (wI h (g + c) k x) (g + 300) j = aI h (g + 300) j := fun j => aI_wI_ne _ _ _ _ _ _ (fun z => by omega)
  have q4 : ∀ j, aI (wI h (g + c) k x) (g + 301) j = aI h (g + 301) j := fun j => aI_wI_ne _ _ _ _ _ _ (fun z => by omega)
  have q5 : ∀ j, aI (wI h (g + c) k x) (g + 302) j = aI h (g + 302) j := fun j => aI_wI_ne _ _ _ _ _ _ (fun z => by omega)
  have q6 : ∀ j, aI (wI h (g + c) k x) (g + 303) j = aI h (g + 303) j := fun j => aI_wI_ne _ _ _ _ _ _ (fun z => by omega)
  have q7 : ∀ j, aI (wI h (g + c) k x) (g + (204 + 29 * σ)) j = aI h (g + (204 + 29 * σ)) j := fun j => aI_wI_ne _ _ _ _ _ _ (fun z => by omega)
  have q8 : ∀ b, b < 8 → ∀ j, aI (wI h (g + c) k x) (g + (207 + 29 * σ + 3 * b) + 1) j = aI h (g + (207 + 29 * σ + 3 * b) + 1) j := fun b hb j => aI_wI_ne _ _ _ _ _ _ (fun z => by omega)
  simp only [gI_wI, gL_wI, aL_wI, aD_wI, rf_wI, q0, q1, q2, q3, q4, q5, q6, q7]
  refine and_congr_right fun _ => and_congr_right fun _ => imp_congr_right fun _ => and_congr_right fun _ => and_congr_right fun _ => and_congr_right fun _ => forall_congr' fun b => imp_congr_right fun hb => ?_
  simp only [q8 b hb]
theorem RSl_wL (h : VG) (g : Nat) (σ : Nat) (hσ : σ < 2) (c k : Nat) (x : Int64) (hc : (c < 202 ∨ 260 < c) ∧ ¬ (299 ≤ c ∧ c ≤ 307)) : RSl (wL h (g + c) k x) g σ ↔ RSl h g σ := by
  unfold RSl RMm RRg RBn
  have q0 : ∀ j, aL (wL h (g + c) k x) (g + 304) j = aL h (g + 304) j := fun j => aL_wL_ne _ _ _ _ _ _ (fun z => by omega)
  have q1 : ∀ j, aL (wL h (g + c) k x) (g + 306) j = aL h (g + 306) j := fun j => aL_wL_ne _ _ _ _ _ _ (fun z => by omega)
  have q2 : ∀ j, aL (wL h (g + c) k x) (g + (206 + 29 * σ)) j = aL h (g + (206 + 29 * σ)) j := fun j => aL_wL_ne _ _ _ _ _ _ (fun z => by omega)
  have q3 : ∀ b, b < 8 → ∀ j, aL (wL h (g + c) k x) (g + (207 + 29 * σ + 3 * b) + 2) j = aL h (g + (207 + 29 * σ + 3 * b) + 2) j := fun b hb j => aL_wL_ne _ _ _ _ _ _ (fun z => by omega)
  simp only [gI_wL, gL_wL, aI_wL, aD_wL, rf_wL, q0, q1, q2]
  refine and_congr_right fun _ => and_congr_right fun _ => imp_congr_right fun _ => and_congr_right fun _ => and_congr_right fun _ => and_congr_right fun _ => forall_congr' fun b => imp_congr_right fun hb => ?_
  simp only [q3 b hb]
theorem RSl_wD (h : VG) (g : Nat) (σ : Nat) (hσ : σ < 2) (c k : Nat) (x : UInt64) (hc : (c < 202 ∨ 260 < c) ∧ ¬ (299 ≤ c ∧ c ≤ 307)) : RSl (wD h (g + c) k x) g σ ↔ RSl h g σ := by
  unfold RSl RMm RRg RBn
  have q0 : ∀ j, aD (wD h (g + c) k x) (g + 305) j = aD h (g + 305) j := fun j => aD_wD_ne _ _ _ _ _ _ (fun z => by omega)
  simp only [gI_wD, gL_wD, aI_wD, aL_wD, rf_wD, q0]
theorem RSl_bI (h : VG) (g : Nat) (σ : Nat) (hσ : σ < 2) (c : Nat) (F : Nat → Int32) (hc : (c < 202 ∨ 260 < c) ∧ ¬ (299 ≤ c ∧ c ≤ 307)) : RSl (bI h (g + c) F) g σ ↔ RSl h g σ := by
  unfold RSl RMm RRg RBn
  have q0 : ∀ j, aI (bI h (g + c) F) (g + 260) j = aI h (g + 260) j := fun j => aI_bI_ne _ _ _ _ _ (fun z => by omega)
  have q1 : ∀ j, aI (bI h (g + c) F) (g + 299) j = aI h (g + 299) j := fun j => aI_bI_ne _ _ _ _ _ (fun z => by omega)
  have q2 : ∀ j, aI (bI h (g + c) F) (g + 307) j = aI h (g + 307) j := fun j => aI_bI_ne _ _ _ _ _ (fun z => by omega)
  have q3 : ∀ j, aI (bI h (g + c) F) (g + 300) j = aI h (g + 300) j := fun j => aI_bI_ne _ _ _ _ _ (fun z => by omega)
  have q4 : ∀ j, aI (bI h (g + c) F) (g + 301) j = aI h (g + 301) j := fun j => aI_bI_ne _ _ _ _ _ (fun z => by omega)
  have q5 : ∀ j, aI (bI h (g + c) F) (g + 302) j = aI h (g + 302) j := fun j => aI_bI_ne _ _ _ _ _ (fun z => by omega)
  have q6 : ∀ j, aI (bI h (g + c) F) (g + 303) j = aI h (g + 303) j := fun j => aI_bI_ne _ _ _ _ _ (fun z => by omega)
  have q7 : ∀ j, aI (bI h (g + c) F) (g + (204 + 29 * σ)) j = aI h (g + (204 + 29 * σ)) j := fun j => aI_bI_ne _ _ _ _ _ (fun z => by omega)
  have q8 : ∀ b, b < 8 → ∀ j, aI (bI h (g + c) F) (g + (207 + 29 * σ + 3 * b) + 1) j = aI h (g + (207 + 29 * σ + 3 * b) + 1) j := fun b hb j => aI_bI_ne _ _ _ _ _ (fun z => by omega)
  simp only [gI_bI, gL_bI, aL_bI, aD_bI, rf_bI, q0, q1, q2, q3, q4, q5, q6, q7]
  refine and_congr_right fun _ => and_congr_right fun _ => imp_congr_right fun _ => and_congr_right fun _ => and_congr_right fun _ => and_congr_right fun _ => forall_congr' fun b => imp_congr_right fun hb => ?_
  simp only [q8 b hb]
theorem RSl_bL (h : VG) (g : Nat) (σ : Nat) (hσ : σ < 2) (c : Nat) (F : Nat → Int64) (hc : (c < 202 ∨ 260 < c) ∧ ¬ (299 ≤ c ∧ c ≤ 307)) : RSl (bL h (g + c) F) g σ ↔ RSl h g σ := by
  unfold RSl RMm RRg RBn
  have q0 : ∀ j, aL (bL h (g + c) F) (g + 304) j = aL h (g + 304) j := fun j => aL_bL_ne _ _ _ _ _ (fun z => by omega)
  have q1 : ∀ j, aL (bL h (g + c) F) (g + 306) j = aL h (g + 306) j := fun j => aL_bL_ne _ _ _ _ _ (fun z => by omega)
  have q2 : ∀ j, aL (bL h (g + c) F) (g + (206 + 29 * σ)) j = aL h (g + (206 + 29 * σ)) j := fun j => aL_bL_ne _ _ _ _ _ (fun z => by omega)
  have q3 : ∀ b, b < 8 → ∀ j, aL (bL h (g + c) F) (g + (207 + 29 * σ + 3 * b) + 2) j = aL h (g + (207 + 29 * σ + 3 * b) + 2) j := fun b hb j => aL_bL_ne _ _ _ _ _ (fun z => by omega)
  simp only [gI_bL, gL_bL, aI_bL, aD_bL, rf_bL, q0, q1, q2]
  refine and_congr_right fun _ => and_congr_right fun _ => imp_congr_right fun _ => and_congr_right fun _ => and_congr_right fun _ => and_congr_right fun _ => forall_congr' fun b => imp_congr_right fun hb => ?_
  simp only [q3 b hb]
theorem RSl_bD (h : VG) (g : Nat) (σ : Nat) (hσ : σ < 2) (c : Nat) (F : Nat → UInt64) (hc : (c < 202 ∨ 260 < c) ∧ ¬ (299 ≤ c ∧ c ≤ 307)) : RSl (bD h (g + c) F) g σ ↔ RSl h g σ := by
  unfold RSl RMm RRg RBn
  have q0 : ∀ j, aD (bD h (g + c) F) (g + 305) j = aD h (g + 305) j := fun j => aD_bD_ne _ _ _ _ _ (fun z => by omega)
  simp only [gI_bD, gL_bD, aI_bD, aL_bD, rf_bD, q0]
theorem RPl_pI (h : VG) (g : Nat) (c k : Nat) (x : Int32) (hc : (c < 8 ∨ 171 < c) ∧ ¬ (c = 266 ∧ k = 19)) : RPl (pI h (g + c) k x) g ↔ RPl h g := by
  unfold RPl RFm
  have q0 : gI (pI h (g + c) k x) (g + 266) 19 = gI h (g + 266) 19 := gI_pI_ne _ _ _ _ _ _ (fun z => by omega)
  refine exists_congr fun d => and_congr_right fun hd => ?_
  have r0 : ∀ (k1 : Nat), gI (pI h (g + c) k x) (g + d) k1 = gI h (g + d) k1 := fun k1 => gI_pI_ne _ _ _ _ _ _ (fun z => by omega)
  have r1 : ∀ (f e k1 : Nat), f < 6 → e < 13 → gI (pI h (g + c) k x) (g + (d + 4 + 13 * f + e)) k1 = gI h (g + (d + 4 + 13 * f + e)) k1 := fun f e k1 hf he => gI_pI_ne _ _ _ _ _ _ (fun z => by omega)
  have r2 : ∀ (f k1 : Nat), f < 6 → gI (pI h (g + c) k x) (g + (d + 4 + 13 * f)) k1 = gI h (g + (d + 4 + 13 * f)) k1 := fun f k1 hf => gI_pI_ne _ _ _ _ _ _ (fun z => by omega)
  simp only [gL_pI, aI_pI, aL_pI, aD_pI, rf_pI, r0, q0]
  refine and_congr_right fun _ => exists_congr fun n => and_congr_right fun hn => and_congr_right fun _ => and_congr_right fun _ => forall_congr' fun f => imp_congr_right fun hf => ?_
  have hf6 : f < 6 := by omega
  simp only [r2 f _ hf6, r1 f _ _ hf6 (show 5 < 13 by decide), r1 f _ _ hf6 (show 7 < 13 by decide)]
theorem RPl_pL (h : VG) (g : Nat) (c k : Nat) (x : Int64) : RPl (pL h (g + c) k x) g ↔ RPl h g := by
  unfold RPl RFm
  simp only [gI_pL, aI_pL, aL_pL, aD_pL, rf_pL]
theorem RPl_pD (h : VG) (g : Nat) (c k : Nat) (x : UInt64) : RPl (pD h (g + c) k x) g ↔ RPl h g := by
  unfold RPl RFm
  simp only [gI_pD, gL_pD, aI_pD, aL_pD, aD_pD, rf_pD]
theorem RPl_wI (h : VG) (g : Nat) (c k : Nat) (x : Int32) (hc : (c < 12 ∨ 171 < c) ∧ ¬ (274 ≤ c ∧ c ≤ 276)) : RPl (wI h (g + c) k x) g ↔ RPl h g := by
  unfold RPl RFm
  have q0 : ∀ j, aI (wI h (g + c) k x) (g + 274) j = aI h (g + 274) j := fun j => aI_wI_ne _ _ _ _ _ _ (fun z => by omega)
  have q1 : ∀ j, aI (wI h (g + c) k x) (g + 275) j = aI h (g + 275) j := fun j => aI_wI_ne _ _ _ _ _ _ (fun z => by omega)
  have q2 : ∀ j, aI (wI h (g + c) k x) (g + 276) j = aI h (g + 276) j := fun j => aI_wI_ne _ _ _ _ _ _ (fun z => by omega)
  refine exists_congr fun d => and_congr_right fun hd => ?_
  have r1 : ∀ (f e j : Nat), f < 6 → e < 13 → 1 ≤ e → aI (wI h (g + c) k x) (g + (d + 4 + 13 * f + e)) j = aI h (g + (d + 4 + 13 * f + e)) j := fun f e j hf he h1 => aI_wI_ne _ _ _ _ _ _ (fun z => by omega)
  simp only [gI_wI, gL_wI, aL_wI, aD_wI, rf_wI, q0, q1, q2]
  refine and_congr_right fun _ => exists_congr fun n => and_congr_right fun hn => and_congr_right fun _ => and_congr_right fun _ => forall_congr' fun f => imp_congr_right fun hf => ?_
  have hf6 : f < 6 := by omega
  simp only [r1 f 1 _ hf6 (by decide) (by decide), r1 f 2 _ hf6 (by decide) (by decide), r1 f 3 _ hf6 (by decide) (by decide), r1 f 4 _ hf6 (by decide) (by decide), r1 f 6 _ hf6 (by decide) (by decide), r1 f 8 _ hf6 (by decide) (by decide), r1 f 10 _ hf6 (by decide) (by decide), r1 f 11 _ hf6 (by decide) (by decide), r1 f 12 _ hf6 (by decide) (by decide)]
theorem RPl_wL (h : VG) (g : Nat) (c k : Nat) (x : Int64) (hc : (c < 12 ∨ 171 < c) ∧ ¬ (274 ≤ c ∧ c ≤ 276)) : RPl (wL h (g + c) k x) g ↔ RPl h g := by
  unfold RPl RFm
  simp only [gI_wL, gL_wL, aI_wL, aD_wL, rf_wL]
theorem RPl_wD (h : VG) (g : Nat) (c k : Nat) (x : UInt64) (hc : (c < 12 ∨ 171 < c) ∧ ¬ (274 ≤ c ∧ c ≤ 276)) : RPl (wD h (g + c) k x) g ↔ RPl h g := by
  unfold RPl RFm
  simp only [gI_wD, gL_wD, aI_wD, aL_wD, rf_wD]
theorem RPl_bI (h : VG) (g : Nat) (c : Nat) (F : Nat → Int32) (hc : (c < 12 ∨ 171 < c) ∧ ¬ (274 ≤ c ∧ c ≤ 276)) : RPl (bI h (g + c) F) g ↔ RPl h g := by
  unfold RPl RFm
  have q0 : ∀ j, aI (bI h (g + c) F) (g + 274) j = aI h (g + 274) j := fun j => aI_bI_ne _ _ _ _ _ (fun z => by omega)
  have q1 : ∀ j, aI (bI h (g + c) F) (g + 275) j = aI h (g + 275) j := fun j => aI_bI_ne _ _ _ _ _ (fun z => by omega)
  have q2 : ∀ j, aI (bI h (g + c) F) (g + 276) j = aI h (g + 276) j := fun j => aI_bI_ne _ _ _ _ _ (fun z => by omega)
  refine exists_congr fun d => and_congr_right fun hd => ?_
  have r1 : ∀ (f e j : Nat), f < 6 → e < 13 → 1 ≤ e → aI (bI h (g + c) F) (g + (d + 4 + 13 * f + e)) j = aI h (g + (d + 4 + 13 * f + e)) j := fun f e j hf he h1 => aI_bI_ne _ _ _ _ _ (fun z => by omega)
  simp only [gI_bI, gL_bI, aL_bI, aD_bI, rf_bI, q0, q1, q2]
  refine and_congr_right fun _ => exists_congr fun n => and_congr_right fun hn => and_congr_right fun _ => and_congr_right fun _ => forall_congr' fun f => imp_congr_right fun hf => ?_
  have hf6 : f < 6 := by omega
  simp only [r1 f 1 _ hf6 (by decide) (by decide), r1 f 2 _ hf6 (by decide) (by decide), r1 f 3 _ hf6 (by decide) (by decide), r1 f 4 _ hf6 (by decide) (by decide), r1 f 6 _ hf6 (by decide) (by decide), r1 f 8 _ hf6 (by decide) (by decide), r1 f 10 _ hf6 (by decide) (by decide), r1 f 11 _ hf6 (by decide) (by decide), r1 f 12 _ hf6 (by decide) (by decide)]
theorem RPl_bL (h : VG) (g : Nat) (c : Nat) (F : Nat → Int64) (hc : (c < 12 ∨ 171 < c) ∧ ¬ (274 ≤ c ∧ c ≤ 276)) : RPl (bL h (g + c) F) g ↔ RPl h g := by
  unfold RPl RFm
  simp only [gI_bL, gL_bL, aI_bL, aD_bL, rf_bL]
theorem RPl_bD (h : VG) (g : Nat) (c : Nat) (F : Nat → UInt64) (hc : (c < 12 ∨ 171 < c) ∧ ¬ (274 ≤ c ∧ c ≤ 276)) : RPl (bD h (g + c) F) g ↔ RPl h g := by
  unfold RPl RFm
  simp only [gI_bD, gL_bD, aI_bD, aL_bD, rf_bD]
