/-! the groups at the object g itself; the shape as an equivalence; what a call shows -/
theorem RTape_pI0 (h : VG) (g : Nat) (k : Nat) (x : Int32) (hc : ¬ (0 = 0 ∧ k = 1) ∧ ¬ (0 = 266 ∧ k = 2)) : RTape (pI h g k x) g ↔ RTape h g := RTape_pI h g 0 k x hc
theorem RTape_pL0 (h : VG) (g : Nat) (k : Nat) (x : Int64) : RTape (pL h g k x) g ↔ RTape h g := RTape_pL h g 0 k x
theorem RTape_pD0 (h : VG) (g : Nat) (k : Nat) (x : UInt64) : RTape (pD h g k x) g ↔ RTape h g := RTape_pD h g 0 k x
theorem RAns_pI0 (h : VG) (g : Nat) (k : Nat) (x : Int32) (hc : ¬ (0 = 0 ∧ (k = 5 ∨ k = 9 ∨ k = 10)) ∧ ¬ (0 = 266 ∧ (k = 16 ∨ k = 31 ∨ k = 32))) : RAns (pI h g k x) g ↔ RAns h g := RAns_pI h g 0 k x hc
theorem RAns_pL0 (h : VG) (g : Nat) (k : Nat) (x : Int64) : RAns (pL h g k x) g ↔ RAns h g := RAns_pL h g 0 k x
theorem RAns_pD0 (h : VG) (g : Nat) (k : Nat) (x : UInt64) : RAns (pD h g k x) g ↔ RAns h g := RAns_pD h g 0 k x
theorem RHd_pI0 (h : VG) (g : Nat) (k : Nat) (x : Int32) (hc : ¬ 0 = 173 ∧ ¬ (0 = 172 ∧ k = 3) ∧ ¬ (0 = 266 ∧ (k = 17 ∨ k = 18 ∨ k = 57))) : RHd (pI h g k x) g ↔ RHd h g := RHd_pI h g 0 k x hc
theorem RHd_pL0 (h : VG) (g : Nat) (k : Nat) (x : Int64) : RHd (pL h g k x) g ↔ RHd h g := RHd_pL h g 0 k x
theorem RHd_pD0 (h : VG) (g : Nat) (k : Nat) (x : UInt64) : RHd (pD h g k x) g ↔ RHd h g := RHd_pD h g 0 k x
theorem RMem_pI0 (h : VG) (g : Nat) (k : Nat) (x : Int32) : RMem (pI h g k x) g ↔ RMem h g := RMem_pI h g 0 k x
theorem RMem_pL0 (h : VG) (g : Nat) (k : Nat) (x : Int64) : RMem (pL h g k x) g ↔ RMem h g := RMem_pL h g 0 k x
theorem RMem_pD0 (h : VG) (g : Nat) (k : Nat) (x : UInt64) : RMem (pD h g k x) g ↔ RMem h g := RMem_pD h g 0 k x
theorem RReg_pI0 (h : VG) (g : Nat) (k : Nat) (x : Int32) : RReg (pI h g k x) g ↔ RReg h g := RReg_pI h g 0 k x
theorem RReg_pL0 (h : VG) (g : Nat) (k : Nat) (x : Int64) : RReg (pL h g k x) g ↔ RReg h g := RReg_pL h g 0 k x
theorem RReg_pD0 (h : VG) (g : Nat) (k : Nat) (x : UInt64) : RReg (pD h g k x) g ↔ RReg h g := RReg_pD h g 0 k x
theorem RBins_pI0 (h : VG) (g : Nat) (k : Nat) (x : Int32) (hc : 0 < 177 ∨ 200 < 0) : RBins (pI h g k x) g ↔ RBins h g := RBins_pI h g 0 k x hc
theorem RBins_pL0 (h : VG) (g : Nat) (k : Nat) (x : Int64) : RBins (pL h g k x) g ↔ RBins h g := RBins_pL h g 0 k x
theorem RBins_pD0 (h : VG) (g : Nat) (k : Nat) (x : UInt64) : RBins (pD h g k x) g ↔ RBins h g := RBins_pD h g 0 k x
theorem RSl_pI0 (h : VG) (g : Nat) (σ : Nat) (hσ : σ < 2) (k : Nat) (x : Int32) (hc : ¬ 0 = 173 ∧ (0 < 202 ∨ 260 < 0)) : RSl (pI h g k x) g σ ↔ RSl h g σ := RSl_pI h g σ hσ 0 k x hc
theorem RSl_pL0 (h : VG) (g : Nat) (σ : Nat) (hσ : σ < 2) (k : Nat) (x : Int64) : RSl (pL h g k x) g σ ↔ RSl h g σ := RSl_pL h g σ hσ 0 k x
theorem RSl_pD0 (h : VG) (g : Nat) (σ : Nat) (hσ : σ < 2) (k : Nat) (x : UInt64) : RSl (pD h g k x) g σ ↔ RSl h g σ := RSl_pD h g σ hσ 0 k x
theorem RPl_pI0 (h : VG) (g : Nat) (k : Nat) (x : Int32) (hc : (0 < 8 ∨ 171 < 0) ∧ ¬ (0 = 266 ∧ k = 19)) : RPl (pI h g k x) g ↔ RPl h g := RPl_pI h g 0 k x hc
theorem RPl_pL0 (h : VG) (g : Nat) (k : Nat) (x : Int64) : RPl (pL h g k x) g ↔ RPl h g := RPl_pL h g 0 k x
theorem RPl_pD0 (h : VG) (g : Nat) (k : Nat) (x : UInt64) : RPl (pD h g k x) g ↔ RPl h g := RPl_pD h g 0 k x
theorem St_wI_i (h : VG) (g : Nat) (c k : Nat) (x : Int32) : St (wI h (g + c) k x) g ↔ St h g := by
  refine ⟨fun hs => ?_, fun hs => St_wI h (g + c) k x g (Nat.le_add_right ..) hs⟩
  obtain ⟨sa, wa, e1, e2, l1, l2, r1, r2, n1, n2, s1, s2⟩ := hs
  refine ⟨sa, wa, e1, e2, l1, l2, (rdI_wI ..).mp r1, (rdI_wI ..).mp r2, (aln_wI ..).symm.trans n1, (aln_wI ..).symm.trans n2, fun j hj => ?_, fun j hj => ?_⟩
  · exact (aI_wI_ne h (g + c) k x sa j (Nat.ne_of_lt (Nat.lt_of_lt_of_le l1 (Nat.le_add_right ..)))).symm.trans (s1 j hj)
  · exact (aI_wI_ne h (g + c) k x wa j (Nat.ne_of_lt (Nat.lt_of_lt_of_le l2 (Nat.le_add_right ..)))).symm.trans (s2 j hj)
theorem Sh_wI_i (h : VG) (g : Nat) (c k : Nat) (x : Int32) : Sh (wI h (g + c) k x) g ↔ Sh h g := by
  unfold Sh
  simp only [ShCls_wI, ShMod_wI, St_wI_i]
theorem St_bI_i (h : VG) (g : Nat) (c : Nat) (F : Nat → Int32) : St (bI h (g + c) F) g ↔ St h g := by
  refine ⟨fun hs => ?_, fun hs => St_bI h (g + c) F g (Nat.le_add_right ..) hs⟩
  obtain ⟨sa, wa, e1, e2, l1, l2, r1, r2, n1, n2, s1, s2⟩ := hs
  refine ⟨sa, wa, e1, e2, l1, l2, (rdI_bI ..).mp r1, (rdI_bI ..).mp r2, (aln_bI ..).symm.trans n1, (aln_bI ..).symm.trans n2, fun j hj => ?_, fun j hj => ?_⟩
  · exact (aI_bI_ne h (g + c) F sa j (Nat.ne_of_lt (Nat.lt_of_lt_of_le l1 (Nat.le_add_right ..)))).symm.trans (s1 j hj)
  · exact (aI_bI_ne h (g + c) F wa j (Nat.ne_of_lt (Nat.lt_of_lt_of_le l2 (Nat.le_add_right ..)))).symm.trans (s2 j hj)
theorem Sh_bI_i (h : VG) (g : Nat) (c : Nat) (F : Nat → Int32) : Sh (bI h (g + c) F) g ↔ Sh h g := by
  unfold Sh
  simp only [ShCls_bI, ShMod_bI, St_bI_i]
theorem aI_wI0 (h : VG) (a i : Nat) (x : Int32) (b j : Nat) (ha : arI h a 0) : aI (wI h a i x) b j = if b = a ∧ j = i then x else aI h b j := aI_wI h a i x b j ha
theorem aI_bI0 (h : VG) (a : Nat) (F : Nat → Int32) (j : Nat) (ha : arI h a 0) : aI (bI h a F) a j = F j := aI_bI h a F j ha
theorem aI_wI2 (h : VG) (a i : Nat) (x : Int32) (b j : Nat) (ha : arI h a 2) : aI (wI h a i x) b j = if b = a ∧ j = i then x else aI h b j := aI_wI h a i x b j ha
theorem aI_bI2 (h : VG) (a : Nat) (F : Nat → Int32) (j : Nat) (ha : arI h a 2) : aI (bI h a F) a j = F j := aI_bI h a F j ha
theorem aI_wI3 (h : VG) (a i : Nat) (x : Int32) (b j : Nat) (ha : arI h a 3) : aI (wI h a i x) b j = if b = a ∧ j = i then x else aI h b j := aI_wI h a i x b j ha
theorem aI_bI3 (h : VG) (a : Nat) (F : Nat → Int32) (j : Nat) (ha : arI h a 3) : aI (bI h a F) a j = F j := aI_bI h a F j ha
theorem nar_i8 (v : Int32) : vp_nar .byte v.toInt8.toInt32 = vp_nar .byte v := by
  rw [vp_nar_byte, vp_nar_byte, Int8.toInt8_toInt32]
def CallI (h : VG) (g mC : Nat) (aC : VL) (mM : Nat) (aM : VL) : Prop := ∃ (x : Int32) (h1 h2 : VG), ev mC 0 aC [] h = some (some (.int x), h1) ∧ ev mM 0 aM [] h1 = some (some (.int x), h2) ∧ Rel h2 g ∧ h2.2 = h.2
def CallL (h : VG) (g mC : Nat) (aC : VL) (mM : Nat) (aM : VL) : Prop := ∃ (x : Int64) (h1 h2 : VG), ev mC 0 aC [] h = some (some (.long x), h1) ∧ ev mM 0 aM [] h1 = some (some (.long x), h2) ∧ Rel h2 g ∧ h2.2 = h.2
theorem vnat {x : Int32} {n : Nat} (hn : n < 2147483648) (h0 : ¬ x < 0) (h1 : x < nI n) : ∃ k, k < n ∧ x = nI k := by
  refine ⟨x.toInt.toNat, ?_, ?_⟩
  · have h2 : (nI n).toInt = (n : Int) := nI_toInt (by omega)
    have h3 := Int32.lt_iff_toInt_lt.mp h1
    have h4 : ¬ x.toInt < (0 : Int32).toInt := fun q => h0 (Int32.lt_iff_toInt_lt.mpr q)
    have h6 : (0 : Int32).toInt = 0 := rfl
    omega
  · have h2 : (nI n).toInt = (n : Int) := nI_toInt (by omega)
    have h3 := Int32.lt_iff_toInt_lt.mp h1
    have h4 : ¬ x.toInt < (0 : Int32).toInt := fun q => h0 (Int32.lt_iff_toInt_lt.mpr q)
    have h6 : (0 : Int32).toInt = 0 := rfl
    apply Int32.toInt_inj.mp
    rw [nI_toInt (by omega)]
    omega
theorem mIn_t {v l u : Int32} (h1 : ¬ v < l) (h2 : v ≤ u) : mIn v l u = 1 := by
  unfold mIn
  rw [if_neg h1, if_pos h2]
theorem mIn_0 {v l u : Int32} (h1 : v < l) : mIn v l u = 0 := by
  unfold mIn
  rw [if_pos h1]
theorem mIn_2 {v l u : Int32} (h2 : ¬ v ≤ u) : mIn v l u = 0 := by
  unfold mIn
  rw [if_neg h2]
  split <;> rfl
theorem nI_lti {x : Int32} {n : Nat} (hn : n < 2147483647) : x ≤ nI n ↔ x < nI (n + 1) := by
  rw [Int32.le_iff_toInt_le, Int32.lt_iff_toInt_lt, nI_toInt (by omega), nI_toInt (by omega)]
  omega
