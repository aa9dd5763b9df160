/-! the shape of the objects: who points to whom, how long the rows are. A class's cells lie one behind another, as the constructors make them -/
def ShBin (h : VG) (a : Nat) : Prop := ob h a 1 ∧ rf h a 2 (a + 1) ∧ rf h a 3 (a + 2) ∧ arI h (a + 1) 0 ∧ aln h (a + 1) = 40 ∧ arL h (a + 2) ∧ aln h (a + 2) = 40
def ShMem (h : VG) (a : Nat) : Prop := ob h a 5 ∧ rf h a 0 (a + 1) ∧ arI h (a + 1) 2 ∧ aln h (a + 1) = 256
def ShState (h : VG) (a : Nat) : Prop := ob h a 8 ∧ rf h a 0 (a + 1) ∧ rf h a 1 (a + 3) ∧ rf h a 2 (a + 4) ∧ ShMem h (a + 1) ∧ arR h (a + 3) 5 ∧ aln h (a + 3) = 8 ∧ (∀ b, b < 8 → aR h (a + 3) b = some (a + 5 + 3 * b)) ∧ arL h (a + 4) ∧ aln h (a + 4) = 8 ∧ (∀ b, b < 8 → ShBin h (a + 5 + 3 * b))
def ShForm (h : VG) (a : Nat) : Prop := ob h a 3 ∧ rf h a 3 (a + 1) ∧ rf h a 4 (a + 2) ∧ rf h a 5 (a + 3) ∧ rf h a 6 (a + 4) ∧ rf h a 7 (a + 5) ∧ rf h a 8 (a + 7) ∧ rf h a 9 (a + 9) ∧ arI h (a + 1) 0 ∧ aln h (a + 1) = 8 ∧ arI h (a + 2) 0 ∧ aln h (a + 2) = 8 ∧ arI h (a + 3) 0 ∧ aln h (a + 3) = 8 ∧ arI h (a + 4) 0 ∧ aln h (a + 4) = 32 ∧ ob h (a + 5) 4 ∧ rf h (a + 5) 1 (a + 6) ∧ arI h (a + 6) 0 ∧ aln h (a + 6) = 32 ∧ ob h (a + 7) 4 ∧ rf h (a + 7) 1 (a + 8) ∧ arI h (a + 8) 0 ∧ aln h (a + 8) = 32 ∧ ob h (a + 9) 0 ∧ rf h (a + 9) 0 (a + 10) ∧ rf h (a + 9) 1 (a + 11) ∧ rf h (a + 9) 2 (a + 12) ∧ arI h (a + 10) 0 ∧ aln h (a + 10) = 32 ∧ arI h (a + 11) 0 ∧ aln h (a + 11) = 32 ∧ arI h (a + 12) 0 ∧ aln h (a + 12) = 32
def ShPlan (h : VG) (a : Nat) : Prop := ob h a 6 ∧ rf h a 0 (a + 1) ∧ rf h a 1 (a + 3) ∧ ShMem h (a + 1) ∧ arR h (a + 3) 6 ∧ aln h (a + 3) = 6 ∧ (∀ f, f < 6 → aR h (a + 3) f = some (a + 4 + 13 * f)) ∧ (∀ f, f < 6 → ShForm h (a + 4 + 13 * f))
def ShTok (h : VG) (a : Nat) : Prop := ob h a 9 ∧ rf h a 0 (a + 1) ∧ rf h a 1 (a + 2) ∧ rf h a 2 (a + 3) ∧ rf h a 3 (a + 4) ∧ arI h (a + 1) 0 ∧ aln h (a + 1) = 401 ∧ arI h (a + 2) 0 ∧ aln h (a + 2) = 401 ∧ arL h (a + 3) ∧ aln h (a + 3) = 401 ∧ arL h (a + 4) ∧ aln h (a + 4) = 14
def ShCls (h : VG) (g : Nat) : Prop := ob h g 10 ∧ rf h g 0 (g + 1) ∧ rf h g 2 (g + 2) ∧ rf h g 6 (g + 172) ∧ rf h g 7 (g + 201) ∧ rf h g 8 (g + 260) ∧ rf h g 11 (g + 261) ∧ rf h g 12 (g + 262) ∧ rf h g 13 (g + 265) ∧ arI h (g + 1) 2 ∧ aln h (g + 1) = 2000 ∧ ob h (g + 2) 7 ∧ rf h (g + 2) 1 (g + 3) ∧ ShTok h (g + 3) ∧ ShPlan h (g + 8) ∧ ShPlan h (g + 90) ∧ ((rf h g 3 (g + 8) ∧ rf h g 4 (g + 90)) ∨ (rf h g 3 (g + 90) ∧ rf h g 4 (g + 8))) ∧ ShState h (g + 172) ∧ arR h (g + 201) 7 ∧ aln h (g + 201) = 2 ∧ aR h (g + 201) 0 = some (g + 202) ∧ aR h (g + 201) 1 = some (g + 231) ∧ ShState h (g + 202) ∧ ShState h (g + 231) ∧ arI h (g + 260) 3 ∧ aln h (g + 260) = 2 ∧ arL h (g + 261) ∧ aln h (g + 261) = 32 ∧ ob h (g + 262) 2 ∧ rf h (g + 262) 0 (g + 263) ∧ rf h (g + 262) 1 (g + 264) ∧ arI h (g + 263) 0 ∧ aln h (g + 263) = 8 ∧ arI h (g + 264) 0 ∧ aln h (g + 264) = 8 ∧ arI h (g + 265) 2 ∧ aln h (g + 265) = 256
def ShMod (h : VG) (m : Nat) : Prop := ob h m 11 ∧ rf h m 1 (m + 1) ∧ arI h (m + 1) 2 ∧ aln h (m + 1) = 2000 ∧ rf h m 3 (m + 2) ∧ arI h (m + 2) 2 ∧ aln h (m + 2) = 2000 ∧ rf h m 5 (m + 3) ∧ arI h (m + 3) 0 ∧ aln h (m + 3) = 403 ∧ rf h m 6 (m + 4) ∧ arI h (m + 4) 0 ∧ aln h (m + 4) = 403 ∧ rf h m 7 (m + 5) ∧ arI h (m + 5) 0 ∧ aln h (m + 5) = 403 ∧ rf h m 8 (m + 6) ∧ arL h (m + 6) ∧ aln h (m + 6) = 403 ∧ rf h m 9 (m + 7) ∧ arL h (m + 7) ∧ aln h (m + 7) = 14 ∧ rf h m 20 (m + 8) ∧ arI h (m + 8) 0 ∧ aln h (m + 8) = 6 ∧ rf h m 21 (m + 9) ∧ arI h (m + 9) 0 ∧ aln h (m + 9) = 48 ∧ rf h m 22 (m + 10) ∧ arI h (m + 10) 0 ∧ aln h (m + 10) = 48 ∧ rf h m 23 (m + 11) ∧ arI h (m + 11) 0 ∧ aln h (m + 11) = 256 ∧ rf h m 27 (m + 12) ∧ arI h (m + 12) 0 ∧ aln h (m + 12) = 6 ∧ rf h m 28 (m + 13) ∧ arI h (m + 13) 0 ∧ aln h (m + 13) = 48 ∧ rf h m 29 (m + 14) ∧ arI h (m + 14) 0 ∧ aln h (m + 14) = 48 ∧ rf h m 30 (m + 15) ∧ arI h (m + 15) 0 ∧ aln h (m + 15) = 256 ∧ rf h m 33 (m + 16) ∧ arI h (m + 16) 0 ∧ aln h (m + 16) = 10 ∧ rf h m 34 (m + 17) ∧ arI h (m + 17) 0 ∧ aln h (m + 17) = 10 ∧ rf h m 35 (m + 18) ∧ arI h (m + 18) 0 ∧ aln h (m + 18) = 8 ∧ rf h m 42 (m + 19) ∧ arI h (m + 19) 0 ∧ aln h (m + 19) = 8 ∧ rf h m 43 (m + 20) ∧ arI h (m + 20) 0 ∧ aln h (m + 20) = 8 ∧ rf h m 44 (m + 21) ∧ arI h (m + 21) 0 ∧ aln h (m + 21) = 320 ∧ rf h m 45 (m + 22) ∧ arL h (m + 22) ∧ aln h (m + 22) = 320 ∧ rf h m 46 (m + 23) ∧ arD h (m + 23) ∧ aln h (m + 23) = 320 ∧ rf h m 47 (m + 24) ∧ arI h (m + 24) 0 ∧ aln h (m + 24) = 40 ∧ rf h m 48 (m + 25) ∧ arL h (m + 25) ∧ aln h (m + 25) = 40 ∧ rf h m 49 (m + 26) ∧ arD h (m + 26) ∧ aln h (m + 26) = 40 ∧ rf h m 50 (m + 27) ∧ arI h (m + 27) 0 ∧ aln h (m + 27) = 512 ∧ rf h m 51 (m + 28) ∧ arI h (m + 28) 3 ∧ aln h (m + 28) = 512 ∧ rf h m 52 (m + 29) ∧ arI h (m + 29) 0 ∧ aln h (m + 29) = 8 ∧ rf h m 53 (m + 30) ∧ arI h (m + 30) 0 ∧ aln h (m + 30) = 8 ∧ rf h m 55 (m + 31) ∧ arI h (m + 31) 0 ∧ aln h (m + 31) = 2048 ∧ rf h m 56 (m + 32) ∧ arL h (m + 32) ∧ aln h (m + 32) = 8 ∧ rf h m 58 (m + 33) ∧ arI h (m + 33) 3 ∧ aln h (m + 33) = 2 ∧ rf h m 59 (m + 34) ∧ arI h (m + 34) 0 ∧ aln h (m + 34) = 512 ∧ rf h m 60 (m + 35) ∧ arI h (m + 35) 0 ∧ aln h (m + 35) = 16 ∧ rf h m 61 (m + 36) ∧ arI h (m + 36) 0 ∧ aln h (m + 36) = 16 ∧ rf h m 62 (m + 37) ∧ arI h (m + 37) 0 ∧ aln h (m + 37) = 640 ∧ rf h m 63 (m + 38) ∧ arL h (m + 38) ∧ aln h (m + 38) = 640 ∧ rf h m 64 (m + 39) ∧ arD h (m + 39) ∧ aln h (m + 39) = 640 ∧ rf h m 65 (m + 40) ∧ arL h (m + 40) ∧ aln h (m + 40) = 16 ∧ rf h m 66 (m + 41) ∧ arI h (m + 41) 0 ∧ aln h (m + 41) = 2
def Sh (h : VG) (g : Nat) : Prop := ShCls h g ∧ ShMod h (g + 266) ∧ St h g
theorem ShBin_pI (h : VG) (b k : Nat) (x : Int32) (a : Nat) : ShBin (pI h b k x) a ↔ ShBin h a := by unfold ShBin; simp only [ob_pI, rf_pI, arI_pI, arL_pI, arD_pI, arR_pI, aln_pI]
theorem ShMem_pI (h : VG) (b k : Nat) (x : Int32) (a : Nat) : ShMem (pI h b k x) a ↔ ShMem h a := by unfold ShMem; simp only [ob_pI, rf_pI, arI_pI, arL_pI, arD_pI, arR_pI, aln_pI]
theorem ShState_pI (h : VG) (b k : Nat) (x : Int32) (a : Nat) : ShState (pI h b k x) a ↔ ShState h a := by unfold ShState; simp only [ob_pI, rf_pI, arI_pI, arL_pI, arD_pI, arR_pI, aln_pI, ShMem_pI, ShBin_pI, aR_pI]
theorem ShForm_pI (h : VG) (b k : Nat) (x : Int32) (a : Nat) : ShForm (pI h b k x) a ↔ ShForm h a := by unfold ShForm; simp only [ob_pI, rf_pI, arI_pI, arL_pI, arD_pI, arR_pI, aln_pI]
theorem ShPlan_pI (h : VG) (b k : Nat) (x : Int32) (a : Nat) : ShPlan (pI h b k x) a ↔ ShPlan h a := by unfold ShPlan; simp only [ob_pI, rf_pI, arI_pI, arL_pI, arD_pI, arR_pI, aln_pI, ShMem_pI, ShForm_pI, aR_pI]
theorem ShTok_pI (h : VG) (b k : Nat) (x : Int32) (a : Nat) : ShTok (pI h b k x) a ↔ ShTok h a := by unfold ShTok; simp only [ob_pI, rf_pI, arI_pI, arL_pI, arD_pI, arR_pI, aln_pI]
theorem ShCls_pI (h : VG) (b k : Nat) (x : Int32) (a : Nat) : ShCls (pI h b k x) a ↔ ShCls h a := by unfold ShCls; simp only [ob_pI, rf_pI, arI_pI, arL_pI, arD_pI, arR_pI, aln_pI, ShTok_pI, ShPlan_pI, ShState_pI, aR_pI]
theorem ShMod_pI (h : VG) (b k : Nat) (x : Int32) (a : Nat) : ShMod (pI h b k x) a ↔ ShMod h a := by unfold ShMod; simp only [ob_pI, rf_pI, arI_pI, arL_pI, arD_pI, arR_pI, aln_pI]
theorem St_pI (h : VG) (b k : Nat) (x : Int32) (g : Nat) : St (pI h b k x) g ↔ St h g := by unfold St; simp only [rdI_pI, aln_pI, aI_pI, pI_2]
theorem Sh_pI (h : VG) (b k : Nat) (x : Int32) (g : Nat) : Sh (pI h b k x) g ↔ Sh h g := by unfold Sh; simp only [ShCls_pI, ShMod_pI, St_pI]
theorem ShBin_pL (h : VG) (b k : Nat) (x : Int64) (a : Nat) : ShBin (pL h b k x) a ↔ ShBin h a := by unfold ShBin; simp only [ob_pL, rf_pL, arI_pL, arL_pL, arD_pL, arR_pL, aln_pL]
theorem ShMem_pL (h : VG) (b k : Nat) (x : Int64) (a : Nat) : ShMem (pL h b k x) a ↔ ShMem h a := by unfold ShMem; simp only [ob_pL, rf_pL, arI_pL, arL_pL, arD_pL, arR_pL, aln_pL]
theorem ShState_pL (h : VG) (b k : Nat) (x : Int64) (a : Nat) : ShState (pL h b k x) a ↔ ShState h a := by unfold ShState; simp only [ob_pL, rf_pL, arI_pL, arL_pL, arD_pL, arR_pL, aln_pL, ShMem_pL, ShBin_pL, aR_pL]
theorem ShForm_pL (h : VG) (b k : Nat) (x : Int64) (a : Nat) : ShForm (pL h b k x) a ↔ ShForm h a := by unfold ShForm; simp only [ob_pL, rf_pL, arI_pL, arL_pL, arD_pL, arR_pL, aln_pL]
theorem ShPlan_pL (h : VG) (b k : Nat) (x : Int64) (a : Nat) : ShPlan (pL h b k x) a ↔ ShPlan h a := by unfold ShPlan; simp only [ob_pL, rf_pL, arI_pL, arL_pL, arD_pL, arR_pL, aln_pL, ShMem_pL, ShForm_pL, aR_pL]
theorem ShTok_pL (h : VG) (b k : Nat) (x : Int64) (a : Nat) : ShTok (pL h b k x) a ↔ ShTok h a := by unfold ShTok; simp only [ob_pL, rf_pL, arI_pL, arL_pL, arD_pL, arR_pL, aln_pL]
theorem ShCls_pL (h : VG) (b k : Nat) (x : Int64) (a : Nat) : ShCls (pL h b k x) a ↔ ShCls h a := by unfold ShCls; simp only [ob_pL, rf_pL, arI_pL, arL_pL, arD_pL, arR_pL, aln_pL, ShTok_pL, ShPlan_pL, ShState_pL, aR_pL]
theorem ShMod_pL (h : VG) (b k : Nat) (x : Int64) (a : Nat) : ShMod (pL h b k x) a ↔ ShMod h a := by unfold ShMod; simp only [ob_pL, rf_pL, arI_pL, arL_pL, arD_pL, arR_pL, aln_pL]
theorem St_pL (h : VG) (b k : Nat) (x : Int64) (g : Nat) : St (pL h b k x) g ↔ St h g := by unfold St; simp only [rdI_pL, aln_pL, aI_pL, pL_2]
theorem Sh_pL (h : VG) (b k : Nat) (x : Int64) (g : Nat) : Sh (pL h b k x) g ↔ Sh h g := by unfold Sh; simp only [ShCls_pL, ShMod_pL, St_pL]
theorem ShBin_pD (h : VG) (b k : Nat) (x : UInt64) (a : Nat) : ShBin (pD h b k x) a ↔ ShBin h a := by unfold ShBin; simp only [ob_pD, rf_pD, arI_pD, arL_pD, arD_pD, arR_pD, aln_pD]
theorem ShMem_pD (h : VG) (b k : Nat) (x : UInt64) (a : Nat) : ShMem (pD h b k x) a ↔ ShMem h a := by unfold ShMem; simp only [ob_pD, rf_pD, arI_pD, arL_pD, arD_pD, arR_pD, aln_pD]
theorem ShState_pD (h : VG) (b k : Nat) (x : UInt64) (a : Nat) : ShState (pD h b k x) a ↔ ShState h a := by unfold ShState; simp only [ob_pD, rf_pD, arI_pD, arL_pD, arD_pD, arR_pD, aln_pD, ShMem_pD, ShBin_pD, aR_pD]
theorem ShForm_pD (h : VG) (b k : Nat) (x : UInt64) (a : Nat) : ShForm (pD h b k x) a ↔ ShForm h a := by unfold ShForm; simp only [ob_pD, rf_pD, arI_pD, arL_pD, arD_pD, arR_pD, aln_pD]
theorem ShPlan_pD (h : VG) (b k : Nat) (x : UInt64) (a : Nat) : ShPlan (pD h b k x) a ↔ ShPlan h a := by unfold ShPlan; simp only [ob_pD, rf_pD, arI_pD, arL_pD, arD_pD, arR_pD, aln_pD, ShMem_pD, ShForm_pD, aR_pD]
theorem ShTok_pD (h : VG) (b k : Nat) (x : UInt64) (a : Nat) : ShTok (pD h b k x) a ↔ ShTok h a := by unfold ShTok; simp only [ob_pD, rf_pD, arI_pD, arL_pD, arD_pD, arR_pD, aln_pD]
theorem ShCls_pD (h : VG) (b k : Nat) (x : UInt64) (a : Nat) : ShCls (pD h b k x) a ↔ ShCls h a := by unfold ShCls; simp only [ob_pD, rf_pD, arI_pD, arL_pD, arD_pD, arR_pD, aln_pD, ShTok_pD, ShPlan_pD, ShState_pD, aR_pD]
theorem ShMod_pD (h : VG) (b k : Nat) (x : UInt64) (a : Nat) : ShMod (pD h b k x) a ↔ ShMod h a := by unfold ShMod; simp only [ob_pD, rf_pD, arI_pD, arL_pD, arD_pD, arR_pD, aln_pD]
theorem St_pD (h : VG) (b k : Nat) (x : UInt64) (g : Nat) : St (pD h b k x) g ↔ St h g := by unfold St; simp only [rdI_pD, aln_pD, aI_pD, pD_2]
theorem Sh_pD (h : VG) (b k : Nat) (x : UInt64) (g : Nat) : Sh (pD h b k x) g ↔ Sh h g := by unfold Sh; simp only [ShCls_pD, ShMod_pD, St_pD]
theorem ShBin_wI (h : VG) (b k : Nat) (x : Int32) (a : Nat) : ShBin (wI h b k x) a ↔ ShBin h a := by unfold ShBin; simp only [ob_wI, rf_wI, arI_wI, arL_wI, arD_wI, arR_wI, aln_wI]
theorem ShMem_wI (h : VG) (b k : Nat) (x : Int32) (a : Nat) : ShMem (wI h b k x) a ↔ ShMem h a := by unfold ShMem; simp only [ob_wI, rf_wI, arI_wI, arL_wI, arD_wI, arR_wI, aln_wI]
theorem ShState_wI (h : VG) (b k : Nat) (x : Int32) (a : Nat) : ShState (wI h b k x) a ↔ ShState h a := by unfold ShState; simp only [ob_wI, rf_wI, arI_wI, arL_wI, arD_wI, arR_wI, aln_wI, ShMem_wI, ShBin_wI, aR_wI]
theorem ShForm_wI (h : VG) (b k : Nat) (x : Int32) (a : Nat) : ShForm (wI h b k x) a ↔ ShForm h a := by unfold ShForm; simp only [ob_wI, rf_wI, arI_wI, arL_wI, arD_wI, arR_wI, aln_wI]
theorem ShPlan_wI (h : VG) (b k : Nat) (x : Int32) (a : Nat) : ShPlan (wI h b k x) a ↔ ShPlan h a := by unfold ShPlan; simp only [ob_wI, rf_wI, arI_wI, arL_wI, arD_wI, arR_wI, aln_wI, ShMem_wI, ShForm_wI, aR_wI]
theorem ShTok_wI (h : VG) (b k : Nat) (x : Int32) (a : Nat) : ShTok (wI h b k x) a ↔ ShTok h a := by unfold ShTok; simp only [ob_wI, rf_wI, arI_wI, arL_wI, arD_wI, arR_wI, aln_wI]
theorem ShCls_wI (h : VG) (b k : Nat) (x : Int32) (a : Nat) : ShCls (wI h b k x) a ↔ ShCls h a := by unfold ShCls; simp only [ob_wI, rf_wI, arI_wI, arL_wI, arD_wI, arR_wI, aln_wI, ShTok_wI, ShPlan_wI, ShState_wI, aR_wI]
theorem ShMod_wI (h : VG) (b k : Nat) (x : Int32) (a : Nat) : ShMod (wI h b k x) a ↔ ShMod h a := by unfold ShMod; simp only [ob_wI, rf_wI, arI_wI, arL_wI, arD_wI, arR_wI, aln_wI]
theorem St_wI (h : VG) (b k : Nat) (x : Int32) (g : Nat) (hb : g ≤ b) (hs : St h g) : St (wI h b k x) g := by
  obtain ⟨sa, wa, e1, e2, l1, l2, r1, r2, n1, n2, s1, s2⟩ := hs
  refine ⟨sa, wa, e1, e2, l1, l2, (rdI_wI ..).mpr r1, (rdI_wI ..).mpr r2, (aln_wI ..).trans n1, (aln_wI ..).trans n2, fun j hj => ?_, fun j hj => ?_⟩
  · exact (aI_wI_ne h b k x sa j (Nat.ne_of_lt (Nat.lt_of_lt_of_le l1 hb))).trans (s1 j hj)
  · exact (aI_wI_ne h b k x wa j (Nat.ne_of_lt (Nat.lt_of_lt_of_le l2 hb))).trans (s2 j hj)
theorem Sh_wI (h : VG) (b k : Nat) (x : Int32) (g : Nat) (hb : g ≤ b) (hs : Sh h g) : Sh (wI h b k x) g := ⟨(ShCls_wI ..).mpr hs.1, (ShMod_wI ..).mpr hs.2.1, St_wI _ _ _ _ _ hb hs.2.2⟩
theorem ShBin_wL (h : VG) (b k : Nat) (x : Int64) (a : Nat) : ShBin (wL h b k x) a ↔ ShBin h a := by unfold ShBin; simp only [ob_wL, rf_wL, arI_wL, arL_wL, arD_wL, arR_wL, aln_wL]
theorem ShMem_wL (h : VG) (b k : Nat) (x : Int64) (a : Nat) : ShMem (wL h b k x) a ↔ ShMem h a := by unfold ShMem; simp only [ob_wL, rf_wL, arI_wL, arL_wL, arD_wL, arR_wL, aln_wL]
theorem ShState_wL (h : VG) (b k : Nat) (x : Int64) (a : Nat) : ShState (wL h b k x) a ↔ ShState h a := by unfold ShState; simp only [ob_wL, rf_wL, arI_wL, arL_wL, arD_wL, arR_wL, aln_wL, ShMem_wL, ShBin_wL, aR_wL]
theorem ShForm_wL (h : VG) (b k : Nat) (x : Int64) (a : Nat) : ShForm (wL h b k x) a ↔ ShForm h a := by unfold ShForm; simp only [ob_wL, rf_wL, arI_wL, arL_wL, arD_wL, arR_wL, aln_wL]
theorem ShPlan_wL (h : VG) (b k : Nat) (x : Int64) (a : Nat) : ShPlan (wL h b k x) a ↔ ShPlan h a := by unfold ShPlan; simp only [ob_wL, rf_wL, arI_wL, arL_wL, arD_wL, arR_wL, aln_wL, ShMem_wL, ShForm_wL, aR_wL]
theorem ShTok_wL (h : VG) (b k : Nat) (x : Int64) (a : Nat) : ShTok (wL h b k x) a ↔ ShTok h a := by unfold ShTok; simp only [ob_wL, rf_wL, arI_wL, arL_wL, arD_wL, arR_wL, aln_wL]
theorem ShCls_wL (h : VG) (b k : Nat) (x : Int64) (a : Nat) : ShCls (wL h b k x) a ↔ ShCls h a := by unfold ShCls; simp only [ob_wL, rf_wL, arI_wL, arL_wL, arD_wL, arR_wL, aln_wL, ShTok_wL, ShPlan_wL, ShState_wL, aR_wL]
theorem ShMod_wL (h : VG) (b k : Nat) (x : Int64) (a : Nat) : ShMod (wL h b k x) a ↔ ShMod h a := by unfold ShMod; simp only [ob_wL, rf_wL, arI_wL, arL_wL, arD_wL, arR_wL, aln_wL]
theorem St_wL (h : VG) (b k : Nat) (x : Int64) (g : Nat) : St (wL h b k x) g ↔ St h g := by unfold St; simp only [rdI_wL, aln_wL, aI_wL, wL_2]
theorem Sh_wL (h : VG) (b k : Nat) (x : Int64) (g : Nat) : Sh (wL h b k x) g ↔ Sh h g := by unfold Sh; simp only [ShCls_wL, ShMod_wL, St_wL]
theorem ShBin_wD (h : VG) (b k : Nat) (x : UInt64) (a : Nat) : ShBin (wD h b k x) a ↔ ShBin h a := by unfold ShBin; simp only [ob_wD, rf_wD, arI_wD, arL_wD, arD_wD, arR_wD, aln_wD]
theorem ShMem_wD (h : VG) (b k : Nat) (x : UInt64) (a : Nat) : ShMem (wD h b k x) a ↔ ShMem h a := by unfold ShMem; simp only [ob_wD, rf_wD, arI_wD, arL_wD, arD_wD, arR_wD, aln_wD]
theorem ShState_wD (h : VG) (b k : Nat) (x : UInt64) (a : Nat) : ShState (wD h b k x) a ↔ ShState h a := by unfold ShState; simp only [ob_wD, rf_wD, arI_wD, arL_wD, arD_wD, arR_wD, aln_wD, ShMem_wD, ShBin_wD, aR_wD]
theorem ShForm_wD (h : VG) (b k : Nat) (x : UInt64) (a : Nat) : ShForm (wD h b k x) a ↔ ShForm h a := by unfold ShForm; simp only [ob_wD, rf_wD, arI_wD, arL_wD, arD_wD, arR_wD, aln_wD]
theorem ShPlan_wD (h : VG) (b k : Nat) (x : UInt64) (a : Nat) : ShPlan (wD h b k x) a ↔ ShPlan h a := by unfold ShPlan; simp only [ob_wD, rf_wD, arI_wD, arL_wD, arD_wD, arR_wD, aln_wD, ShMem_wD, ShForm_wD, aR_wD]
theorem ShTok_wD (h : VG) (b k : Nat) (x : UInt64) (a : Nat) : ShTok (wD h b k x) a ↔ ShTok h a := by unfold ShTok; simp only [ob_wD, rf_wD, arI_wD, arL_wD, arD_wD, arR_wD, aln_wD]
theorem ShCls_wD (h : VG) (b k : Nat) (x : UInt64) (a : Nat) : ShCls (wD h b k x) a ↔ ShCls h a := by unfold ShCls; simp only [ob_wD, rf_wD, arI_wD, arL_wD, arD_wD, arR_wD, aln_wD, ShTok_wD, ShPlan_wD, ShState_wD, aR_wD]
theorem ShMod_wD (h : VG) (b k : Nat) (x : UInt64) (a : Nat) : ShMod (wD h b k x) a ↔ ShMod h a := by unfold ShMod; simp only [ob_wD, rf_wD, arI_wD, arL_wD, arD_wD, arR_wD, aln_wD]
theorem St_wD (h : VG) (b k : Nat) (x : UInt64) (g : Nat) : St (wD h b k x) g ↔ St h g := by unfold St; simp only [rdI_wD, aln_wD, aI_wD, wD_2]
theorem Sh_wD (h : VG) (b k : Nat) (x : UInt64) (g : Nat) : Sh (wD h b k x) g ↔ Sh h g := by unfold Sh; simp only [ShCls_wD, ShMod_wD, St_wD]
theorem ShBin_bI (h : VG) (b : Nat) (F : Nat → Int32) (a : Nat) : ShBin (bI h b F) a ↔ ShBin h a := by unfold ShBin; simp only [ob_bI, rf_bI, arI_bI, arL_bI, arD_bI, arR_bI, aln_bI]
theorem ShMem_bI (h : VG) (b : Nat) (F : Nat → Int32) (a : Nat) : ShMem (bI h b F) a ↔ ShMem h a := by unfold ShMem; simp only [ob_bI, rf_bI, arI_bI, arL_bI, arD_bI, arR_bI, aln_bI]
theorem ShState_bI (h : VG) (b : Nat) (F : Nat → Int32) (a : Nat) : ShState (bI h b F) a ↔ ShState h a := by unfold ShState; simp only [ob_bI, rf_bI, arI_bI, arL_bI, arD_bI, arR_bI, aln_bI, ShMem_bI, ShBin_bI, aR_bI]
theorem ShForm_bI (h : VG) (b : Nat) (F : Nat → Int32) (a : Nat) : ShForm (bI h b F) a ↔ ShForm h a := by unfold ShForm; simp only [ob_bI, rf_bI, arI_bI, arL_bI, arD_bI, arR_bI, aln_bI]
theorem ShPlan_bI (h : VG) (b : Nat) (F : Nat → Int32) (a : Nat) : ShPlan (bI h b F) a ↔ ShPlan h a := by unfold ShPlan; simp only [ob_bI, rf_bI, arI_bI, arL_bI, arD_bI, arR_bI, aln_bI, ShMem_bI, ShForm_bI, aR_bI]
theorem ShTok_bI (h : VG) (b : Nat) (F : Nat → Int32) (a : Nat) : ShTok (bI h b F) a ↔ ShTok h a := by unfold ShTok; simp only [ob_bI, rf_bI, arI_bI, arL_bI, arD_bI, arR_bI, aln_bI]
theorem ShCls_bI (h : VG) (b : Nat) (F : Nat → Int32) (a : Nat) : ShCls (bI h b F) a ↔ ShCls h a := by unfold ShCls; simp only [ob_bI, rf_bI, arI_bI, arL_bI, arD_bI, arR_bI, aln_bI, ShTok_bI, ShPlan_bI, ShState_bI, aR_bI]
theorem ShMod_bI (h : VG) (b : Nat) (F : Nat → Int32) (a : Nat) : ShMod (bI h b F) a ↔ ShMod h a := by unfold ShMod; simp only [ob_bI, rf_bI, arI_bI, arL_bI, arD_bI, arR_bI, aln_bI]
theorem St_bI (h : VG) (b : Nat) (F : Nat → Int32) (g : Nat) (hb : g ≤ b) (hs : St h g) : St (bI h b F) g := by
  obtain ⟨sa, wa, e1, e2, l1, l2, r1, r2, n1, n2, s1, s2⟩ := hs
  refine ⟨sa, wa, e1, e2, l1, l2, (rdI_bI ..).mpr r1, (rdI_bI ..).mpr r2, (aln_bI ..).trans n1, (aln_bI ..).trans n2, fun j hj => ?_, fun j hj => ?_⟩
  · exact (aI_bI_ne h b F sa j (Nat.ne_of_lt (Nat.lt_of_lt_of_le l1 hb))).trans (s1 j hj)
  · exact (aI_bI_ne h b F wa j (Nat.ne_of_lt (Nat.lt_of_lt_of_le l2 hb))).trans (s2 j hj)
theorem Sh_bI (h : VG) (b : Nat) (F : Nat → Int32) (g : Nat) (hb : g ≤ b) (hs : Sh h g) : Sh (bI h b F) g := ⟨(ShCls_bI ..).mpr hs.1, (ShMod_bI ..).mpr hs.2.1, St_bI _ _ _ _ hb hs.2.2⟩
theorem ShBin_bL (h : VG) (b : Nat) (F : Nat → Int64) (a : Nat) : ShBin (bL h b F) a ↔ ShBin h a := by unfold ShBin; simp only [ob_bL, rf_bL, arI_bL, arL_bL, arD_bL, arR_bL, aln_bL]
theorem ShMem_bL (h : VG) (b : Nat) (F : Nat → Int64) (a : Nat) : ShMem (bL h b F) a ↔ ShMem h a := by unfold ShMem; simp only [ob_bL, rf_bL, arI_bL, arL_bL, arD_bL, arR_bL, aln_bL]
theorem ShState_bL (h : VG) (b : Nat) (F : Nat → Int64) (a : Nat) : ShState (bL h b F) a ↔ ShState h a := by unfold ShState; simp only [ob_bL, rf_bL, arI_bL, arL_bL, arD_bL, arR_bL, aln_bL, ShMem_bL, ShBin_bL, aR_bL]
theorem ShForm_bL (h : VG) (b : Nat) (F : Nat → Int64) (a : Nat) : ShForm (bL h b F) a ↔ ShForm h a := by unfold ShForm; simp only [ob_bL, rf_bL, arI_bL, arL_bL, arD_bL, arR_bL, aln_bL]
theorem ShPlan_bL (h : VG) (b : Nat) (F : Nat → Int64) (a : Nat) : ShPlan (bL h b F) a ↔ ShPlan h a := by unfold ShPlan; simp only [ob_bL, rf_bL, arI_bL, arL_bL, arD_bL, arR_bL, aln_bL, ShMem_bL, ShForm_bL, aR_bL]
theorem ShTok_bL (h : VG) (b : Nat) (F : Nat → Int64) (a : Nat) : ShTok (bL h b F) a ↔ ShTok h a := by unfold ShTok; simp only [ob_bL, rf_bL, arI_bL, arL_bL, arD_bL, arR_bL, aln_bL]
theorem ShCls_bL (h : VG) (b : Nat) (F : Nat → Int64) (a : Nat) : ShCls (bL h b F) a ↔ ShCls h a := by unfold ShCls; simp only [ob_bL, rf_bL, arI_bL, arL_bL, arD_bL, arR_bL, aln_bL, ShTok_bL, ShPlan_bL, ShState_bL, aR_bL]
theorem ShMod_bL (h : VG) (b : Nat) (F : Nat → Int64) (a : Nat) : ShMod (bL h b F) a ↔ ShMod h a := by unfold ShMod; simp only [ob_bL, rf_bL, arI_bL, arL_bL, arD_bL, arR_bL, aln_bL]
theorem St_bL (h : VG) (b : Nat) (F : Nat → Int64) (g : Nat) : St (bL h b F) g ↔ St h g := by unfold St; simp only [rdI_bL, aln_bL, aI_bL, bL_2]
theorem Sh_bL (h : VG) (b : Nat) (F : Nat → Int64) (g : Nat) : Sh (bL h b F) g ↔ Sh h g := by unfold Sh; simp only [ShCls_bL, ShMod_bL, St_bL]
theorem ShBin_bD (h : VG) (b : Nat) (F : Nat → UInt64) (a : Nat) : ShBin (bD h b F) a ↔ ShBin h a := by unfold ShBin; simp only [ob_bD, rf_bD, arI_bD, arL_bD, arD_bD, arR_bD, aln_bD]
theorem ShMem_bD (h : VG) (b : Nat) (F : Nat → UInt64) (a : Nat) : ShMem (bD h b F) a ↔ ShMem h a := by unfold ShMem; simp only [ob_bD, rf_bD, arI_bD, arL_bD, arD_bD, arR_bD, aln_bD]
theorem ShState_bD (h : VG) (b : Nat) (F : Nat → UInt64) (a : Nat) : ShState (bD h b F) a ↔ ShState h a := by unfold ShState; simp only [ob_bD, rf_bD, arI_bD, arL_bD, arD_bD, arR_bD, aln_bD, ShMem_bD, ShBin_bD, aR_bD]
theorem ShForm_bD (h : VG) (b : Nat) (F : Nat → UInt64) (a : Nat) : ShForm (bD h b F) a ↔ ShForm h a := by unfold ShForm; simp only [ob_bD, rf_bD, arI_bD, arL_bD, arD_bD, arR_bD, aln_bD]
theorem ShPlan_bD (h : VG) (b : Nat) (F : Nat → UInt64) (a : Nat) : ShPlan (bD h b F) a ↔ ShPlan h a := by unfold ShPlan; simp only [ob_bD, rf_bD, arI_bD, arL_bD, arD_bD, arR_bD, aln_bD, ShMem_bD, ShForm_bD, aR_bD]
theorem ShTok_bD (h : VG) (b : Nat) (F : Nat → UInt64) (a : Nat) : ShTok (bD h b F) a ↔ ShTok h a := by unfold ShTok; simp only [ob_bD, rf_bD, arI_bD, arL_bD, arD_bD, arR_bD, aln_bD]
theorem ShCls_bD (h : VG) (b : Nat) (F : Nat → UInt64) (a : Nat) : ShCls (bD h b F) a ↔ ShCls h a := by unfold ShCls; simp only [ob_bD, rf_bD, arI_bD, arL_bD, arD_bD, arR_bD, aln_bD, ShTok_bD, ShPlan_bD, ShState_bD, aR_bD]
theorem ShMod_bD (h : VG) (b : Nat) (F : Nat → UInt64) (a : Nat) : ShMod (bD h b F) a ↔ ShMod h a := by unfold ShMod; simp only [ob_bD, rf_bD, arI_bD, arL_bD, arD_bD, arR_bD, aln_bD]
theorem St_bD (h : VG) (b : Nat) (F : Nat → UInt64) (g : Nat) : St (bD h b F) g ↔ St h g := by unfold St; simp only [rdI_bD, aln_bD, aI_bD, bD_2]
theorem Sh_bD (h : VG) (b : Nat) (F : Nat → UInt64) (g : Nat) : Sh (bD h b F) g ↔ Sh h g := by unfold Sh; simp only [ShCls_bD, ShMod_bD, St_bD]
theorem isI_ob {h : VG} {a c k : Nat} (ho : ob h a c) (hs : (vShape c)[k]? = some 0) : isI h a k := by
  obtain ⟨fs, v, -, -, h3, h4⟩ := ob_at ho hs
  show vtag (gV h a k) = 0
  rw [h4]
  exact h3
theorem isL_ob {h : VG} {a c k : Nat} (ho : ob h a c) (hs : (vShape c)[k]? = some 1) : isL h a k := by
  obtain ⟨fs, v, -, -, h3, h4⟩ := ob_at ho hs
  show vtag (gV h a k) = 1
  rw [h4]
  exact h3
theorem isD_ob {h : VG} {a c k : Nat} (ho : ob h a c) (hs : (vShape c)[k]? = some 2) : isD h a k := by
  obtain ⟨fs, v, -, -, h3, h4⟩ := ob_at ho hs
  show vtag (gV h a k) = 2
  rw [h4]
  exact h3
theorem Bin_0 {h : VG} {a : Nat} (hs : ShBin h a) : ob h a 1 := hs.1
theorem Bin_1 {h : VG} {a : Nat} (hs : ShBin h a) : rf h a 2 (a + 1) := hs.2.1
theorem Bin_2 {h : VG} {a : Nat} (hs : ShBin h a) : rf h a 3 (a + 2) := hs.2.2.1
theorem Bin_3 {h : VG} {a : Nat} (hs : ShBin h a) : arI h (a + 1) 0 := hs.2.2.2.1
theorem Bin_4 {h : VG} {a : Nat} (hs : ShBin h a) : aln h (a + 1) = 40 := hs.2.2.2.2.1
theorem Bin_5 {h : VG} {a : Nat} (hs : ShBin h a) : arL h (a + 2) := hs.2.2.2.2.2.1
theorem Bin_6 {h : VG} {a : Nat} (hs : ShBin h a) : aln h (a + 2) = 40 := hs.2.2.2.2.2.2
theorem Mem_0 {h : VG} {a : Nat} (hs : ShMem h a) : ob h a 5 := hs.1
theorem Mem_1 {h : VG} {a : Nat} (hs : ShMem h a) : rf h a 0 (a + 1) := hs.2.1
theorem Mem_2 {h : VG} {a : Nat} (hs : ShMem h a) : arI h (a + 1) 2 := hs.2.2.1
theorem Mem_3 {h : VG} {a : Nat} (hs : ShMem h a) : aln h (a + 1) = 256 := hs.2.2.2
theorem State_0 {h : VG} {a : Nat} (hs : ShState h a) : ob h a 8 := hs.1
theorem State_1 {h : VG} {a : Nat} (hs : ShState h a) : rf h a 0 (a + 1) := hs.2.1
theorem State_2 {h : VG} {a : Nat} (hs : ShState h a) : rf h a 1 (a + 3) := hs.2.2.1
theorem State_3 {h : VG} {a : Nat} (hs : ShState h a) : rf h a 2 (a + 4) := hs.2.2.2.1
theorem State_4 {h : VG} {a : Nat} (hs : ShState h a) : ShMem h (a + 1) := hs.2.2.2.2.1
theorem State_5 {h : VG} {a : Nat} (hs : ShState h a) : arR h (a + 3) 5 := hs.2.2.2.2.2.1
theorem State_6 {h : VG} {a : Nat} (hs : ShState h a) : aln h (a + 3) = 8 := hs.2.2.2.2.2.2.1
theorem State_7 {h : VG} {a : Nat} (hs : ShState h a) : (∀ b, b < 8 → aR h (a + 3) b = some (a + 5 + 3 * b)) := hs.2.2.2.2.2.2.2.1
theorem State_8 {h : VG} {a : Nat} (hs : ShState h a) : arL h (a + 4) := hs.2.2.2.2.2.2.2.2.1
theorem State_9 {h : VG} {a : Nat} (hs : ShState h a) : aln h (a + 4) = 8 := hs.2.2.2.2.2.2.2.2.2.1
theorem State_10 {h : VG} {a : Nat} (hs : ShState h a) : (∀ b, b < 8 → ShBin h (a + 5 + 3 * b)) := hs.2.2.2.2.2.2.2.2.2.2
theorem Form_0 {h : VG} {a : Nat} (hs : ShForm h a) : ob h a 3 := hs.1
theorem Form_1 {h : VG} {a : Nat} (hs : ShForm h a) : rf h a 3 (a + 1) := hs.2.1
theorem Form_2 {h : VG} {a : Nat} (hs : ShForm h a) : rf h a 4 (a + 2) := hs.2.2.1
theorem Form_3 {h : VG} {a : Nat} (hs : ShForm h a) : rf h a 5 (a + 3) := hs.2.2.2.1
theorem Form_4 {h : VG} {a : Nat} (hs : ShForm h a) : rf h a 6 (a + 4) := hs.2.2.2.2.1
theorem Form_5 {h : VG} {a : Nat} (hs : ShForm h a) : rf h a 7 (a + 5) := hs.2.2.2.2.2.1
theorem Form_6 {h : VG} {a : Nat} (hs : ShForm h a) : rf h a 8 (a + 7) := hs.2.2.2.2.2.2.1
theorem Form_7 {h : VG} {a : Nat} (hs : ShForm h a) : rf h a 9 (a + 9) := hs.2.2.2.2.2.2.2.1
theorem Form_8 {h : VG} {a : Nat} (hs : ShForm h a) : arI h (a + 1) 0 := hs.2.2.2.2.2.2.2.2.1
theorem Form_9 {h : VG} {a : Nat} (hs : ShForm h a) : aln h (a + 1) = 8 := hs.2.2.2.2.2.2.2.2.2.1
theorem Form_10 {h : VG} {a : Nat} (hs : ShForm h a) : arI h (a + 2) 0 := hs.2.2.2.2.2.2.2.2.2.2.1
theorem Form_11 {h : VG} {a : Nat} (hs : ShForm h a) : aln h (a + 2) = 8 := hs.2.2.2.2.2.2.2.2.2.2.2.1
theorem Form_12 {h : VG} {a : Nat} (hs : ShForm h a) : arI h (a + 3) 0 := hs.2.2.2.2.2.2.2.2.2.2.2.2.1
theorem Form_13 {h : VG} {a : Nat} (hs : ShForm h a) : aln h (a + 3) = 8 := hs.2.2.2.2.2.2.2.2.2.2.2.2.2.1
theorem Form_14 {h : VG} {a : Nat} (hs : ShForm h a) : arI h (a + 4) 0 := hs.2.2.2.2.2.2.2.2.2.2.2.2.2.2.1
theorem Form_15 {h : VG} {a : Nat} (hs : ShForm h a) : aln h (a + 4) = 32 := hs.2.2.2.2.2.2.2.2.2.2.2.2.2.2.2.1
theorem Form_16 {h : VG} {a : Nat} (hs : ShForm h a) : ob h (a + 5) 4 := hs.2.2.2.2.2.2.2.2.2.2.2.2.2.2.2.2.1
theorem Form_17 {h : VG} {a : Nat} (hs : ShForm h a) : rf h (a + 5) 1 (a + 6) := hs.2.2.2.2.2.2.2.2.2.2.2.2.2.2.2.2.2.1
theorem Form_18 {h : VG} {a : Nat} (hs : ShForm h a) : arI h (a + 6) 0 := hs.2.2.2.2.2.2.2.2.2.2.2.2.2.2.2.2.2.2.1
theorem Form_19 {h : VG} {a : Nat} (hs : ShForm h a) : aln h (a + 6) = 32 := hs.2.2.2.2.2.2.2.2.2.2.2.2.2.2.2.2.2.2.2.1
theorem Form_20 {h : VG} {a : Nat} (hs : ShForm h a) : ob h (a + 7) 4 := hs.2.2.2.2.2.2.2.2.2.2.2.2.2.2.2.2.2.2.2.2.1
theorem Form_21 {h : VG} {a : Nat} (hs : ShForm h a) : rf h (a + 7) 1 (a + 8) := hs.2.2.2.2.2.2.2.2.2.2.2.2.2.2.2.2.2.2.2.2.2.1
theorem Form_22 {h : VG} {a : Nat} (hs : ShForm h a) : arI h (a + 8) 0 := hs.2.2.2.2.2.2.2.2.2.2.2.2.2.2.2.2.2.2.2.2.2.2.1
theorem Form_23 {h : VG} {a : Nat} (hs : ShForm h a) : aln h (a + 8) = 32 := hs.2.2.2.2.2.2.2.2.2.2.2.2.2.2.2.2.2.2.2.2.2.2.2.1
theorem Form_24 {h : VG} {a : Nat} (hs : ShForm h a) : ob h (a + 9) 0 := hs.2.2.2.2.2.2.2.2.2.2.2.2.2.2.2.2.2.2.2.2.2.2.2.2.1
theorem Form_25 {h : VG} {a : Nat} (hs : ShForm h a) : rf h (a + 9) 0 (a + 10) := hs.2.2.2.2.2.2.2.2.2.2.2.2.2.2.2.2.2.2.2.2.2.2.2.2.2.1
theorem Form_26 {h : VG} {a : Nat} (hs : ShForm h a) : rf h (a + 9) 1 (a + 11) := hs.2.2.2.2.2.2.2.2.2.2.2.2.2.2.2.2.2.2.2.2.2.2.2.2.2.2.1
theorem Form_27 {h : VG} {a : Nat} (hs : ShForm h a) : rf h (a + 9) 2 (a + 12) := hs.2.2.2.2.2.2.2.2.2.2.2.2.2.2.2.2.2.2.2.2.2.2.2.2.2.2.2.1
theorem Form_28 {h : VG} {a : Nat} (hs : ShForm h a) : arI h (a + 10) 0 := hs.2.2.2.2.2.2.2.2.2.2.2.2.2.2.2.2.2.2.2.2.2.2.2.2.2.2.2.2.1
theorem Form_29 {h : VG} {a : Nat} (hs : ShForm h a) : aln h (a + 10) = 32 := hs.2.2.2.2.2.2.2.2.2.2.2.2.2.2.2.2.2.2.2.2.2.2.2.2.2.2.2.2.2.1
theorem Form_30 {h : VG} {a : Nat} (hs : ShForm h a) : arI h (a + 11) 0 := hs.2.2.2.2.2.2.2.2.2.2.2.2.2.2.2.2.2.2.2.2.2.2.2.2.2.2.2.2.2.2.1
theorem Form_31 {h : VG} {a : Nat} (hs : ShForm h a) : aln h (a + 11) = 32 := hs.2.2.2.2.2.2.2.2.2.2.2.2.2.2.2.2.2.2.2.2.2.2.2.2.2.2.2.2.2.2.2.1
theorem Form_32 {h : VG} {a : Nat} (hs : ShForm h a) : arI h (a + 12) 0 := hs.2.2.2.2.2.2.2.2.2.2.2.2.2.2.2.2.2.2.2.2.2.2.2.2.2.2.2.2.2.2.2.2.1
theorem Form_33 {h : VG} {a : Nat} (hs : ShForm h a) : aln h (a + 12) = 32 := hs.2.2.2.2.2.2.2.2.2.2.2.2.2.2.2.2.2.2.2.2.2.2.2.2.2.2.2.2.2.2.2.2.2
theorem Plan_0 {h : VG} {a : Nat} (hs : ShPlan h a) : ob h a 6 := hs.1
theorem Plan_1 {h : VG} {a : Nat} (hs : ShPlan h a) : rf h a 0 (a + 1) := hs.2.1
theorem Plan_2 {h : VG} {a : Nat} (hs : ShPlan h a) : rf h a 1 (a + 3) := hs.2.2.1
theorem Plan_3 {h : VG} {a : Nat} (hs : ShPlan h a) : ShMem h (a + 1) := hs.2.2.2.1
theorem Plan_4 {h : VG} {a : Nat} (hs : ShPlan h a) : arR h (a + 3) 6 := hs.2.2.2.2.1
theorem Plan_5 {h : VG} {a : Nat} (hs : ShPlan h a) : aln h (a + 3) = 6 := hs.2.2.2.2.2.1
theorem Plan_6 {h : VG} {a : Nat} (hs : ShPlan h a) : (∀ f, f < 6 → aR h (a + 3) f = some (a + 4 + 13 * f)) := hs.2.2.2.2.2.2.1
theorem Plan_7 {h : VG} {a : Nat} (hs : ShPlan h a) : (∀ f, f < 6 → ShForm h (a + 4 + 13 * f)) := hs.2.2.2.2.2.2.2
theorem Tok_0 {h : VG} {a : Nat} (hs : ShTok h a) : ob h a 9 := hs.1
theorem Tok_1 {h : VG} {a : Nat} (hs : ShTok h a) : rf h a 0 (a + 1) := hs.2.1
theorem Tok_2 {h : VG} {a : Nat} (hs : ShTok h a) : rf h a 1 (a + 2) := hs.2.2.1
theorem Tok_3 {h : VG} {a : Nat} (hs : ShTok h a) : rf h a 2 (a + 3) := hs.2.2.2.1
theorem Tok_4 {h : VG} {a : Nat} (hs : ShTok h a) : rf h a 3 (a + 4) := hs.2.2.2.2.1
theorem Tok_5 {h : VG} {a : Nat} (hs : ShTok h a) : arI h (a + 1) 0 := hs.2.2.2.2.2.1
theorem Tok_6 {h : VG} {a : Nat} (hs : ShTok h a) : aln h (a + 1) = 401 := hs.2.2.2.2.2.2.1
theorem Tok_7 {h : VG} {a : Nat} (hs : ShTok h a) : arI h (a + 2) 0 := hs.2.2.2.2.2.2.2.1
theorem Tok_8 {h : VG} {a : Nat} (hs : ShTok h a) : aln h (a + 2) = 401 := hs.2.2.2.2.2.2.2.2.1
theorem Tok_9 {h : VG} {a : Nat} (hs : ShTok h a) : arL h (a + 3) := hs.2.2.2.2.2.2.2.2.2.1
theorem Tok_10 {h : VG} {a : Nat} (hs : ShTok h a) : aln h (a + 3) = 401 := hs.2.2.2.2.2.2.2.2.2.2.1
theorem Tok_11 {h : VG} {a : Nat} (hs : ShTok h a) : arL h (a + 4) := hs.2.2.2.2.2.2.2.2.2.2.2.1
theorem Tok_12 {h : VG} {a : Nat} (hs : ShTok h a) : aln h (a + 4) = 14 := hs.2.2.2.2.2.2.2.2.2.2.2.2
theorem Cls_0 {h : VG} {g : Nat} (hs : ShCls h g) : ob h g 10 := hs.1
theorem Cls_1 {h : VG} {g : Nat} (hs : ShCls h g) : rf h g 0 (g + 1) := hs.2.1
theorem Cls_2 {h : VG} {g : Nat} (hs : ShCls h g) : rf h g 2 (g + 2) := hs.2.2.1
theorem Cls_3 {h : VG} {g : Nat} (hs : ShCls h g) : rf h g 6 (g + 172) := hs.2.2.2.1
theorem Cls_4 {h : VG} {g : Nat} (hs : ShCls h g) : rf h g 7 (g + 201) := hs.2.2.2.2.1
theorem Cls_5 {h : VG} {g : Nat} (hs : ShCls h g) : rf h g 8 (g + 260) := hs.2.2.2.2.2.1
theorem Cls_6 {h : VG} {g : Nat} (hs : ShCls h g) : rf h g 11 (g + 261) := hs.2.2.2.2.2.2.1
theorem Cls_7 {h : VG} {g : Nat} (hs : ShCls h g) : rf h g 12 (g + 262) := hs.2.2.2.2.2.2.2.1
theorem Cls_8 {h : VG} {g : Nat} (hs : ShCls h g) : rf h g 13 (g + 265) := hs.2.2.2.2.2.2.2.2.1
theorem Cls_9 {h : VG} {g : Nat} (hs : ShCls h g) : arI h (g + 1) 2 := hs.2.2.2.2.2.2.2.2.2.1
theorem Cls_10 {h : VG} {g : Nat} (hs : ShCls h g) : aln h (g + 1) = 2000 := hs.2.2.2.2.2.2.2.2.2.2.1
theorem Cls_11 {h : VG} {g : Nat} (hs : ShCls h g) : ob h (g + 2) 7 := hs.2.2.2.2.2.2.2.2.2.2.2.1
theorem Cls_12 {h : VG} {g : Nat} (hs : ShCls h g) : rf h (g + 2) 1 (g + 3) := hs.2.2.2.2.2.2.2.2.2.2.2.2.1
theorem Cls_13 {h : VG} {g : Nat} (hs : ShCls h g) : ShTok h (g + 3) := hs.2.2.2.2.2.2.2.2.2.2.2.2.2.1
theorem Cls_14 {h : VG} {g : Nat} (hs : ShCls h g) : ShPlan h (g + 8) := hs.2.2.2.2.2.2.2.2.2.2.2.2.2.2.1
theorem Cls_15 {h : VG} {g : Nat} (hs : ShCls h g) : ShPlan h (g + 90) := hs.2.2.2.2.2.2.2.2.2.2.2.2.2.2.2.1
theorem Cls_16 {h : VG} {g : Nat} (hs : ShCls h g) : ((rf h g 3 (g + 8) ∧ rf h g 4 (g + 90)) ∨ (rf h g 3 (g + 90) ∧ rf h g 4 (g + 8))) := hs.2.2.2.2.2.2.2.2.2.2.2.2.2.2.2.2.1
theorem Cls_17 {h : VG} {g : Nat} (hs : ShCls h g) : ShState h (g + 172) := hs.2.2.2.2.2.2.2.2.2.2.2.2.2.2.2.2.2.1
theorem Cls_18 {h : VG} {g : Nat} (hs : ShCls h g) : arR h (g + 201) 7 := hs.2.2.2.2.2.2.2.2.2.2.2.2.2.2.2.2.2.2.1
theorem Cls_19 {h : VG} {g : Nat} (hs : ShCls h g) : aln h (g + 201) = 2 := hs.2.2.2.2.2.2.2.2.2.2.2.2.2.2.2.2.2.2.2.1
theorem Cls_20 {h : VG} {g : Nat} (hs : ShCls h g) : aR h (g + 201) 0 = some (g + 202) := hs.2.2.2.2.2.2.2.2.2.2.2.2.2.2.2.2.2.2.2.2.1
theorem Cls_21 {h : VG} {g : Nat} (hs : ShCls h g) : aR h (g + 201) 1 = some (g + 231) := hs.2.2.2.2.2.2.2.2.2.2.2.2.2.2.2.2.2.2.2.2.2.1
theorem Cls_22 {h : VG} {g : Nat} (hs : ShCls h g) : ShState h (g + 202) := hs.2.2.2.2.2.2.2.2.2.2.2.2.2.2.2.2.2.2.2.2.2.2.1
theorem Cls_23 {h : VG} {g : Nat} (hs : ShCls h g) : ShState h (g + 231) := hs.2.2.2.2.2.2.2.2.2.2.2.2.2.2.2.2.2.2.2.2.2.2.2.1
theorem Cls_24 {h : VG} {g : Nat} (hs : ShCls h g) : arI h (g + 260) 3 := hs.2.2.2.2.2.2.2.2.2.2.2.2.2.2.2.2.2.2.2.2.2.2.2.2.1
theorem Cls_25 {h : VG} {g : Nat} (hs : ShCls h g) : aln h (g + 260) = 2 := hs.2.2.2.2.2.2.2.2.2.2.2.2.2.2.2.2.2.2.2.2.2.2.2.2.2.1
theorem Cls_26 {h : VG} {g : Nat} (hs : ShCls h g) : arL h (g + 261) := hs.2.2.2.2.2.2.2.2.2.2.2.2.2.2.2.2.2.2.2.2.2.2.2.2.2.2.1
theorem Cls_27 {h : VG} {g : Nat} (hs : ShCls h g) : aln h (g + 261) = 32 := hs.2.2.2.2.2.2.2.2.2.2.2.2.2.2.2.2.2.2.2.2.2.2.2.2.2.2.2.1
theorem Cls_28 {h : VG} {g : Nat} (hs : ShCls h g) : ob h (g + 262) 2 := hs.2.2.2.2.2.2.2.2.2.2.2.2.2.2.2.2.2.2.2.2.2.2.2.2.2.2.2.2.1
theorem Cls_29 {h : VG} {g : Nat} (hs : ShCls h g) : rf h (g + 262) 0 (g + 263) := hs.2.2.2.2.2.2.2.2.2.2.2.2.2.2.2.2.2.2.2.2.2.2.2.2.2.2.2.2.2.1
theorem Cls_30 {h : VG} {g : Nat} (hs : ShCls h g) : rf h (g + 262) 1 (g + 264) := hs.2.2.2.2.2.2.2.2.2.2.2.2.2.2.2.2.2.2.2.2.2.2.2.2.2.2.2.2.2.2.1
theorem Cls_31 {h : VG} {g : Nat} (hs : ShCls h g) : arI h (g + 263) 0 := hs.2.2.2.2.2.2.2.2.2.2.2.2.2.2.2.2.2.2.2.2.2.2.2.2.2.2.2.2.2.2.2.1
theorem Cls_32 {h : VG} {g : Nat} (hs : ShCls h g) : aln h (g + 263) = 8 := hs.2.2.2.2.2.2.2.2.2.2.2.2.2.2.2.2.2.2.2.2.2.2.2.2.2.2.2.2.2.2.2.2.1
theorem Cls_33 {h : VG} {g : Nat} (hs : ShCls h g) : arI h (g + 264) 0 := hs.2.2.2.2.2.2.2.2.2.2.2.2.2.2.2.2.2.2.2.2.2.2.2.2.2.2.2.2.2.2.2.2.2.1
theorem Cls_34 {h : VG} {g : Nat} (hs : ShCls h g) : aln h (g + 264) = 8 := hs.2.2.2.2.2.2.2.2.2.2.2.2.2.2.2.2.2.2.2.2.2.2.2.2.2.2.2.2.2.2.2.2.2.2.1
theorem Cls_35 {h : VG} {g : Nat} (hs : ShCls h g) : arI h (g + 265) 2 := hs.2.2.2.2.2.2.2.2.2.2.2.2.2.2.2.2.2.2.2.2.2.2.2.2.2.2.2.2.2.2.2.2.2.2.2.1
theorem Cls_36 {h : VG} {g : Nat} (hs : ShCls h g) : aln h (g + 265) = 256 := hs.2.2.2.2.2.2.2.2.2.2.2.2.2.2.2.2.2.2.2.2.2.2.2.2.2.2.2.2.2.2.2.2.2.2.2.2
theorem Mod_0 {h : VG} {m : Nat} (hs : ShMod h m) : ob h m 11 := hs.1
theorem Mod_1 {h : VG} {m : Nat} (hs : ShMod h m) : rf h m 1 (m + 1) := hs.2.1
theorem Mod_2 {h : VG} {m : Nat} (hs : ShMod h m) : arI h (m + 1) 2 := hs.2.2.1
theorem Mod_3 {h : VG} {m : Nat} (hs : ShMod h m) : aln h (m + 1) = 2000 := hs.2.2.2.1
theorem Mod_4 {h : VG} {m : Nat} (hs : ShMod h m) : rf h m 3 (m + 2) := hs.2.2.2.2.1
theorem Mod_5 {h : VG} {m : Nat} (hs : ShMod h m) : arI h (m + 2) 2 := hs.2.2.2.2.2.1
theorem Mod_6 {h : VG} {m : Nat} (hs : ShMod h m) : aln h (m + 2) = 2000 := hs.2.2.2.2.2.2.1
theorem Mod_7 {h : VG} {m : Nat} (hs : ShMod h m) : rf h m 5 (m + 3) := hs.2.2.2.2.2.2.2.1
theorem Mod_8 {h : VG} {m : Nat} (hs : ShMod h m) : arI h (m + 3) 0 := hs.2.2.2.2.2.2.2.2.1
theorem Mod_9 {h : VG} {m : Nat} (hs : ShMod h m) : aln h (m + 3) = 403 := hs.2.2.2.2.2.2.2.2.2.1
theorem Mod_10 {h : VG} {m : Nat} (hs : ShMod h m) : rf h m 6 (m + 4) := hs.2.2.2.2.2.2.2.2.2.2.1
theorem Mod_11 {h : VG} {m : Nat} (hs : ShMod h m) : arI h (m + 4) 0 := hs.2.2.2.2.2.2.2.2.2.2.2.1
theorem Mod_12 {h : VG} {m : Nat} (hs : ShMod h m) : aln h (m + 4) = 403 := hs.2.2.2.2.2.2.2.2.2.2.2.2.1
theorem Mod_13 {h : VG} {m : Nat} (hs : ShMod h m) : rf h m 7 (m + 5) := hs.2.2.2.2.2.2.2.2.2.2.2.2.2.1
theorem Mod_14 {h : VG} {m : Nat} (hs : ShMod h m) : arI h (m + 5) 0 := hs.2.2.2.2.2.2.2.2.2.2.2.2.2.2.1
theorem Mod_15 {h : VG} {m : Nat} (hs : ShMod h m) : aln h (m + 5) = 403 := hs.2.2.2.2.2.2.2.2.2.2.2.2.2.2.2.1
theorem Mod_16 {h : VG} {m : Nat} (hs : ShMod h m) : rf h m 8 (m + 6) := hs.2.2.2.2.2.2.2.2.2.2.2.2.2.2.2.2.1
theorem Mod_17 {h : VG} {m : Nat} (hs : ShMod h m) : arL h (m + 6) := hs.2.2.2.2.2.2.2.2.2.2.2.2.2.2.2.2.2.1
theorem Mod_18 {h : VG} {m : Nat} (hs : ShMod h m) : aln h (m + 6) = 403 := hs.2.2.2.2.2.2.2.2.2.2.2.2.2.2.2.2.2.2.1
theorem Mod_19 {h : VG} {m : Nat} (hs : ShMod h m) : rf h m 9 (m + 7) := hs.2.2.2.2.2.2.2.2.2.2.2.2.2.2.2.2.2.2.2.1
theorem Mod_20 {h : VG} {m : Nat} (hs : ShMod h m) : arL h (m + 7) := hs.2.2.2.2.2.2.2.2.2.2.2.2.2.2.2.2.2.2.2.2.1
theorem Mod_21 {h : VG} {m : Nat} (hs : ShMod h m) : aln h (m + 7) = 14 := hs.2.2.2.2.2.2.2.2.2.2.2.2.2.2.2.2.2.2.2.2.2.1
theorem Mod_22 {h : VG} {m : Nat} (hs : ShMod h m) : rf h m 20 (m + 8) := hs.2.2.2.2.2.2.2.2.2.2.2.2.2.2.2.2.2.2.2.2.2.2.1
theorem Mod_23 {h : VG} {m : Nat} (hs : ShMod h m) : arI h (m + 8) 0 := hs.2.2.2.2.2.2.2.2.2.2.2.2.2.2.2.2.2.2.2.2.2.2.2.1
theorem Mod_24 {h : VG} {m : Nat} (hs : ShMod h m) : aln h (m + 8) = 6 := hs.2.2.2.2.2.2.2.2.2.2.2.2.2.2.2.2.2.2.2.2.2.2.2.2.1
theorem Mod_25 {h : VG} {m : Nat} (hs : ShMod h m) : rf h m 21 (m + 9) := hs.2.2.2.2.2.2.2.2.2.2.2.2.2.2.2.2.2.2.2.2.2.2.2.2.2.1
theorem Mod_26 {h : VG} {m : Nat} (hs : ShMod h m) : arI h (m + 9) 0 := hs.2.2.2.2.2.2.2.2.2.2.2.2.2.2.2.2.2.2.2.2.2.2.2.2.2.2.1
theorem Mod_27 {h : VG} {m : Nat} (hs : ShMod h m) : aln h (m + 9) = 48 := hs.2.2.2.2.2.2.2.2.2.2.2.2.2.2.2.2.2.2.2.2.2.2.2.2.2.2.2.1
theorem Mod_28 {h : VG} {m : Nat} (hs : ShMod h m) : rf h m 22 (m + 10) := hs.2.2.2.2.2.2.2.2.2.2.2.2.2.2.2.2.2.2.2.2.2.2.2.2.2.2.2.2.1
theorem Mod_29 {h : VG} {m : Nat} (hs : ShMod h m) : arI h (m + 10) 0 := hs.2.2.2.2.2.2.2.2.2.2.2.2.2.2.2.2.2.2.2.2.2.2.2.2.2.2.2.2.2.1
theorem Mod_30 {h : VG} {m : Nat} (hs : ShMod h m) : aln h (m + 10) = 48 := hs.2.2.2.2.2.2.2.2.2.2.2.2.2.2.2.2.2.2.2.2.2.2.2.2.2.2.2.2.2.2.1
theorem Mod_31 {h : VG} {m : Nat} (hs : ShMod h m) : rf h m 23 (m + 11) := hs.2.2.2.2.2.2.2.2.2.2.2.2.2.2.2.2.2.2.2.2.2.2.2.2.2.2.2.2.2.2.2.1
theorem Mod_32 {h : VG} {m : Nat} (hs : ShMod h m) : arI h (m + 11) 0 := hs.2.2.2.2.2.2.2.2.2.2.2.2.2.2.2.2.2.2.2.2.2.2.2.2.2.2.2.2.2.2.2.2.1
theorem Mod_33 {h : VG} {m : Nat} (hs : ShMod h m) : aln h (m + 11) = 256 := hs.2.2.2.2.2.2.2.2.2.2.2.2.2.2.2.2.2.2.2.2.2.2.2.2.2.2.2.2.2.2.2.2.2.1
theorem Mod_34 {h : VG} {m : Nat} (hs : ShMod h m) : rf h m 27 (m + 12) := hs.2.2.2.2.2.2.2.2.2.2.2.2.2.2.2.2.2.2.2.2.2.2.2.2.2.2.2.2.2.2.2.2.2.2.1
theorem Mod_35 {h : VG} {m : Nat} (hs : ShMod h m) : arI h (m + 12) 0 := hs.2.2.2.2.2.2.2.2.2.2.2.2.2.2.2.2.2.2.2.2.2.2.2.2.2.2.2.2.2.2.2.2.2.2.2.1
theorem Mod_36 {h : VG} {m : Nat} (hs : ShMod h m) : aln h (m + 12) = 6 := hs.2.2.2.2.2.2.2.2.2.2.2.2.2.2.2.2.2.2.2.2.2.2.2.2.2.2.2.2.2.2.2.2.2.2.2.2.1
theorem Mod_37 {h : VG} {m : Nat} (hs : ShMod h m) : rf h m 28 (m + 13) := hs.2.2.2.2.2.2.2.2.2.2.2.2.2.2.2.2.2.2.2.2.2.2.2.2.2.2.2.2.2.2.2.2.2.2.2.2.2.1
theorem Mod_38 {h : VG} {m : Nat} (hs : ShMod h m) : arI h (m + 13) 0 := hs.2.2.2.2.2.2.2.2.2.2.2.2.2.2.2.2.2.2.2.2.2.2.2.2.2.2.2.2.2.2.2.2.2.2.2.2.2.2.1
theorem Mod_39 {h : VG} {m : Nat} (hs : ShMod h m) : aln h (m + 13) = 48 := hs.2.2.2.2.2.2.2.2.2.2.2.2.2.2.2.2.2.2.2.2.2.2.2.2.2.2.2.2.2.2.2.2.2.2.2.2.2.2.2.1
theorem Mod_40 {h : VG} {m : Nat} (hs : ShMod h m) : rf h m 29 (m + 14) := hs.2.2.2.2.2.2.2.2.2.2.2.2.2.2.2.2.2.2.2.2.2.2.2.2.2.2.2.2.2.2.2.2.2.2.2.2.2.2.2.2.1
theorem Mod_41 {h : VG} {m : Nat} (hs : ShMod h m) : arI h (m + 14) 0 := hs.2.2.2.2.2.2.2.2.2.2.2.2.2.2.2.2.2.2.2.2.2.2.2.2.2.2.2.2.2.2.2.2.2.2.2.2.2.2.2.2.2.1
theorem Mod_42 {h : VG} {m : Nat} (hs : ShMod h m) : aln h (m + 14) = 48 := hs.2.2.2.2.2.2.2.2.2.2.2.2.2.2.2.2.2.2.2.2.2.2.2.2.2.2.2.2.2.2.2.2.2.2.2.2.2.2.2.2.2.2.1
theorem Mod_43 {h : VG} {m : Nat} (hs : ShMod h m) : rf h m 30 (m + 15) := hs.2.2.2.2.2.2.2.2.2.2.2.2.2.2.2.2.2.2.2.2.2.2.2.2.2.2.2.2.2.2.2.2.2.2.2.2.2.2.2.2.2.2.2.1
theorem Mod_44 {h : VG} {m : Nat} (hs : ShMod h m) : arI h (m + 15) 0 := hs.2.2.2.2.2.2.2.2.2.2.2.2.2.2.2.2.2.2.2.2.2.2.2.2.2.2.2.2.2.2.2.2.2.2.2.2.2.2.2.2.2.2.2.2.1
theorem Mod_45 {h : VG} {m : Nat} (hs : ShMod h m) : aln h (m + 15) = 256 := hs.2.2.2.2.2.2.2.2.2.2.2.2.2.2.2.2.2.2.2.2.2.2.2.2.2.2.2.2.2.2.2.2.2.2.2.2.2.2.2.2.2.2.2.2.2.1
theorem Mod_46 {h : VG} {m : Nat} (hs : ShMod h m) : rf h m 33 (m + 16) := hs.2.2.2.2.2.2.2.2.2.2.2.2.2.2.2.2.2.2.2.2.2.2.2.2.2.2.2.2.2.2.2.2.2.2.2.2.2.2.2.2.2.2.2.2.2.2.1
theorem Mod_47 {h : VG} {m : Nat} (hs : ShMod h m) : arI h (m + 16) 0 := hs.2.2.2.2.2.2.2.2.2.2.2.2.2.2.2.2.2.2.2.2.2.2.2.2.2.2.2.2.2.2.2.2.2.2.2.2.2.2.2.2.2.2.2.2.2.2.2.1
theorem Mod_48 {h : VG} {m : Nat} (hs : ShMod h m) : aln h (m + 16) = 10 := hs.2.2.2.2.2.2.2.2.2.2.2.2.2.2.2.2.2.2.2.2.2.2.2.2.2.2.2.2.2.2.2.2.2.2.2.2.2.2.2.2.2.2.2.2.2.2.2.2.1
theorem Mod_49 {h : VG} {m : Nat} (hs : ShMod h m) : rf h m 34 (m + 17) := hs.2.2.2.2.2.2.2.2.2.2.2.2.2.2.2.2.2.2.2.2.2.2.2.2.2.2.2.2.2.2.2.2.2.2.2.2.2.2.2.2.2.2.2.2.2.2.2.2.2.1
theorem Mod_50 {h : VG} {m : Nat} (hs : ShMod h m) : arI h (m + 17) 0 := hs.2.2.2.2.2.2.2.2.2.2.2.2.2.2.2.2.2.2.2.2.2.2.2.2.2.2.2.2.2.2.2.2.2.2.2.2.2.2.2.2.2.2.2.2.2.2.2.2.2.2.1
theorem Mod_51 {h : VG} {m : Nat} (hs : ShMod h m) : aln h (m + 17) = 10 := hs.2.2.2.2.2.2.2.2.2.2.2.2.2.2.2.2.2.2.2.2.2.2.2.2.2.2.2.2.2.2.2.2.2.2.2.2.2.2.2.2.2.2.2.2.2.2.2.2.2.2.2.1
theorem Mod_52 {h : VG} {m : Nat} (hs : ShMod h m) : rf h m 35 (m + 18) := hs.2.2.2.2.2.2.2.2.2.2.2.2.2.2.2.2.2.2.2.2.2.2.2.2.2.2.2.2.2.2.2.2.2.2.2.2.2.2.2.2.2.2.2.2.2.2.2.2.2.2.2.2.1
theorem Mod_53 {h : VG} {m : Nat} (hs : ShMod h m) : arI h (m + 18) 0 := hs.2.2.2.2.2.2.2.2.2.2.2.2.2.2.2.2.2.2.2.2.2.2.2.2.2.2.2.2.2.2.2.2.2.2.2.2.2.2.2.2.2.2.2.2.2.2.2.2.2.2.2.2.2.1
theorem Mod_54 {h : VG} {m : Nat} (hs : ShMod h m) : aln h (m + 18) = 8 := hs.2.2.2.2.2.2.2.2.2.2.2.2.2.2.2.2.2.2.2.2.2.2.2.2.2.2.2.2.2.2.2.2.2.2.2.2.2.2.2.2.2.2.2.2.2.2.2.2.2.2.2.2.2.2.1
theorem Mod_55 {h : VG} {m : Nat} (hs : ShMod h m) : rf h m 42 (m + 19) := hs.2.2.2.2.2.2.2.2.2.2.2.2.2.2.2.2.2.2.2.2.2.2.2.2.2.2.2.2.2.2.2.2.2.2.2.2.2.2.2.2.2.2.2.2.2.2.2.2.2.2.2.2.2.2.2.1
theorem Mod_56 {h : VG} {m : Nat} (hs : ShMod h m) : arI h (m + 19) 0 := hs.2.2.2.2.2.2.2.2.2.2.2.2.2.2.2.2.2.2.2.2.2.2.2.2.2.2.2.2.2.2.2.2.2.2.2.2.2.2.2.2.2.2.2.2.2.2.2.2.2.2.2.2.2.2.2.2.1
theorem Mod_57 {h : VG} {m : Nat} (hs : ShMod h m) : aln h (m + 19) = 8 := hs.2.2.2.2.2.2.2.2.2.2.2.2.2.2.2.2.2.2.2.2.2.2.2.2.2.2.2.2.2.2.2.2.2.2.2.2.2.2.2.2.2.2.2.2.2.2.2.2.2.2.2.2.2.2.2.2.2.1
theorem Mod_58 {h : VG} {m : Nat} (hs : ShMod h m) : rf h m 43 (m + 20) := hs.2.2.2.2.2.2.2.2.2.2.2.2.2.2.2.2.2.2.2.2.2.2.2.2.2.2.2.2.2.2.2.2.2.2.2.2.2.2.2.2.2.2.2.2.2.2.2.2.2.2.2.2.2.2.2.2.2.2.1
theorem Mod_59 {h : VG} {m : Nat} (hs : ShMod h m) : arI h (m + 20) 0 := hs.2.2.2.2.2.2.2.2.2.2.2.2.2.2.2.2.2.2.2.2.2.2.2.2.2.2.2.2.2.2.2.2.2.2.2.2.2.2.2.2.2.2.2.2.2.2.2.2.2.2.2.2.2.2.2.2.2.2.2.1
theorem Mod_60 {h : VG} {m : Nat} (hs : ShMod h m) : aln h (m + 20) = 8 := hs.2.2.2.2.2.2.2.2.2.2.2.2.2.2.2.2.2.2.2.2.2.2.2.2.2.2.2.2.2.2.2.2.2.2.2.2.2.2.2.2.2.2.2.2.2.2.2.2.2.2.2.2.2.2.2.2.2.2.2.2.1
theorem Mod_61 {h : VG} {m : Nat} (hs : ShMod h m) : rf h m 44 (m + 21) := hs.2.2.2.2.2.2.2.2.2.2.2.2.2.2.2.2.2.2.2.2.2.2.2.2.2.2.2.2.2.2.2.2.2.2.2.2.2.2.2.2.2.2.2.2.2.2.2.2.2.2.2.2.2.2.2.2.2.2.2.2.2.1
theorem Mod_62 {h : VG} {m : Nat} (hs : ShMod h m) : arI h (m + 21) 0 := hs.2.2.2.2.2.2.2.2.2.2.2.2.2.2.2.2.2.2.2.2.2.2.2.2.2.2.2.2.2.2.2.2.2.2.2.2.2.2.2.2.2.2.2.2.2.2.2.2.2.2.2.2.2.2.2.2.2.2.2.2.2.2.1
theorem Mod_63 {h : VG} {m : Nat} (hs : ShMod h m) : aln h (m + 21) = 320 := hs.2.2.2.2.2.2.2.2.2.2.2.2.2.2.2.2.2.2.2.2.2.2.2.2.2.2.2.2.2.2.2.2.2.2.2.2.2.2.2.2.2.2.2.2.2.2.2.2.2.2.2.2.2.2.2.2.2.2.2.2.2.2.2.1
theorem Mod_64 {h : VG} {m : Nat} (hs : ShMod h m) : rf h m 45 (m + 22) := hs.2.2.2.2.2.2.2.2.2.2.2.2.2.2.2.2.2.2.2.2.2.2.2.2.2.2.2.2.2.2.2.2.2.2.2.2.2.2.2.2.2.2.2.2.2.2.2.2.2.2.2.2.2.2.2.2.2.2.2.2.2.2.2.2.1
theorem Mod_65 {h : VG} {m : Nat} (hs : ShMod h m) : arL h (m + 22) := hs.2.2.2.2.2.2.2.2.2.2.2.2.2.2.2.2.2.2.2.2.2.2.2.2.2.2.2.2.2.2.2.2.2.2.2.2.2.2.2.2.2.2.2.2.2.2.2.2.2.2.2.2.2.2.2.2.2.2.2.2.2.2.2.2.2.1
theorem Mod_66 {h : VG} {m : Nat} (hs : ShMod h m) : aln h (m + 22) = 320 := hs.2.2.2.2.2.2.2.2.2.2.2.2.2.2.2.2.2.2.2.2.2.2.2.2.2.2.2.2.2.2.2.2.2.2.2.2.2.2.2.2.2.2.2.2.2.2.2.2.2.2.2.2.2.2.2.2.2.2.2.2.2.2.2.2.2.2.1
theorem Mod_67 {h : VG} {m : Nat} (hs : ShMod h m) : rf h m 46 (m + 23) := hs.2.2.2.2.2.2.2.2.2.2.2.2.2.2.2.2.2.2.2.2.2.2.2.2.2.2.2.2.2.2.2.2.2.2.2.2.2.2.2.2.2.2.2.2.2.2.2.2.2.2.2.2.2.2.2.2.2.2.2.2.2.2.2.2.2.2.2.1
theorem Mod_68 {h : VG} {m : Nat} (hs : ShMod h m) : arD h (m + 23) := hs.2.2.2.2.2.2.2.2.2.2.2.2.2.2.2.2.2.2.2.2.2.2.2.2.2.2.2.2.2.2.2.2.2.2.2.2.2.2.2.2.2.2.2.2.2.2.2.2.2.2.2.2.2.2.2.2.2.2.2.2.2.2.2.2.2.2.2.2.1
theorem Mod_69 {h : VG} {m : Nat} (hs : ShMod h m) : aln h (m + 23) = 320 := hs.2.2.2.2.2.2.2.2.2.2.2.2.2.2.2.2.2.2.2.2.2.2.2.2.2.2.2.2.2.2.2.2.2.2.2.2.2.2.2.2.2.2.2.2.2.2.2.2.2.2.2.2.2.2.2.2.2.2.2.2.2.2.2.2.2.2.2.2.2.1
theorem Mod_70 {h : VG} {m : Nat} (hs : ShMod h m) : rf h m 47 (m + 24) := hs.2.2.2.2.2.2.2.2.2.2.2.2.2.2.2.2.2.2.2.2.2.2.2.2.2.2.2.2.2.2.2.2.2.2.2.2.2.2.2.2.2.2.2.2.2.2.2.2.2.2.2.2.2.2.2.2.2.2.2.2.2.2.2.2.2.2.2.2.2.2.1
theorem Mod_71 {h : VG} {m : Nat} (hs : ShMod h m) : arI h (m + 24) 0 := hs.2.2.2.2.2.2.2.2.2.2.2.2.2.2.2.2.2.2.2.2.2.2.2.2.2.2.2.2.2.2.2.2.2.2.2.2.2.2.2.2.2.2.2.2.2.2.2.2.2.2.2.2.2.2.2.2.2.2.2.2.2.2.2.2.2.2.2.2.2.2.2.1
theorem Mod_72 {h : VG} {m : Nat} (hs : ShMod h m) : aln h (m + 24) = 40 := hs.2.2.2.2.2.2.2.2.2.2.2.2.2.2.2.2.2.2.2.2.2.2.2.2.2.2.2.2.2.2.2.2.2.2.2.2.2.2.2.2.2.2.2.2.2.2.2.2.2.2.2.2.2.2.2.2.2.2.2.2.2.2.2.2.2.2.2.2.2.2.2.2.1
theorem Mod_73 {h : VG} {m : Nat} (hs : ShMod h m) : rf h m 48 (m + 25) := hs.2.2.2.2.2.2.2.2.2.2.2.2.2.2.2.2.2.2.2.2.2.2.2.2.2.2.2.2.2.2.2.2.2.2.2.2.2.2.2.2.2.2.2.2.2.2.2.2.2.2.2.2.2.2.2.2.2.2.2.2.2.2.2.2.2.2.2.2.2.2.2.2.2.1
theorem Mod_74 {h : VG} {m : Nat} (hs : ShMod h m) : arL h (m + 25) := hs.2.2.2.2.2.2.2.2.2.2.2.2.2.2.2.2.2.2.2.2.2.2.2.2.2.2.2.2.2.2.2.2.2.2.2.2.2.2.2.2.2.2.2.2.2.2.2.2.2.2.2.2.2.2.2.2.2.2.2.2.2.2.2.2.2.2.2.2.2.2.2.2.2.2.1
theorem Mod_75 {h : VG} {m : Nat} (hs : ShMod h m) : aln h (m + 25) = 40 := hs.2.2.2.2.2.2.2.2.2.2.2.2.2.2.2.2.2.2.2.2.2.2.2.2.2.2.2.2.2.2.2.2.2.2.2.2.2.2.2.2.2.2.2.2.2.2.2.2.2.2.2.2.2.2.2.2.2.2.2.2.2.2.2.2.2.2.2.2.2.2.2.2.2.2.2.1
theorem Mod_76 {h : VG} {m : Nat} (hs : ShMod h m) : rf h m 49 (m + 26) := hs.2.2.2.2.2.2.2.2.2.2.2.2.2.2.2.2.2.2.2.2.2.2.2.2.2.2.2.2.2.2.2.2.2.2.2.2.2.2.2.2.2.2.2.2.2.2.2.2.2.2.2.2.2.2.2.2.2.2.2.2.2.2.2.2.2.2.2.2.2.2.2.2.2.2.2.2.1
theorem Mod_77 {h : VG} {m : Nat} (hs : ShMod h m) : arD h (m + 26) := hs.2.2.2.2.2.2.2.2.2.2.2.2.2.2.2.2.2.2.2.2.2.2.2.2.2.2.2.2.2.2.2.2.2.2.2.2.2.2.2.2.2.2.2.2.2.2.2.2.2.2.2.2.2.2.2.2.2.2.2.2.2.2.2.2.2.2.2.2.2.2.2.2.2.2.2.2.2.1
theorem Mod_78 {h : VG} {m : Nat} (hs : ShMod h m) : aln h (m + 26) = 40 := hs.2.2.2.2.2.2.2.2.2.2.2.2.2.2.2.2.2.2.2.2.2.2.2.2.2.2.2.2.2.2.2.2.2.2.2.2.2.2.2.2.2.2.2.2.2.2.2.2.2.2.2.2.2.2.2.2.2.2.2.2.2.2.2.2.2.2.2.2.2.2.2.2.2.2.2.2.2.2.1
theorem Mod_79 {h : VG} {m : Nat} (hs : ShMod h m) : rf h m 50 (m + 27) := hs.2.2.2.2.2.2.2.2.2.2.2.2.2.2.2.2.2.2.2.2.2.2.2.2.2.2.2.2.2.2.2.2.2.2.2.2.2.2.2.2.2.2.2.2.2.2.2.2.2.2.2.2.2.2.2.2.2.2.2.2.2.2.2.2.2.2.2.2.2.2.2.2.2.2.2.2.2.2.2.1
theorem Mod_80 {h : VG} {m : Nat} (hs : ShMod h m) : arI h (m + 27) 0 := hs.2.2.2.2.2.2.2.2.2.2.2.2.2.2.2.2.2.2.2.2.2.2.2.2.2.2.2.2.2.2.2.2.2.2.2.2.2.2.2.2.2.2.2.2.2.2.2.2.2.2.2.2.2.2.2.2.2.2.2.2.2.2.2.2.2.2.2.2.2.2.2.2.2.2.2.2.2.2.2.2.1
theorem Mod_81 {h : VG} {m : Nat} (hs : ShMod h m) : aln h (m + 27) = 512 := hs.2.2.2.2.2.2.2.2.2.2.2.2.2.2.2.2.2.2.2.2.2.2.2.2.2.2.2.2.2.2.2.2.2.2.2.2.2.2.2.2.2.2.2.2.2.2.2.2.2.2.2.2.2.2.2.2.2.2.2.2.2.2.2.2.2.2.2.2.2.2.2.2.2.2.2.2.2.2.2.2.2.1
theorem Mod_82 {h : VG} {m : Nat} (hs : ShMod h m) : rf h m 51 (m + 28) := hs.2.2.2.2.2.2.2.2.2.2.2.2.2.2.2.2.2.2.2.2.2.2.2.2.2.2.2.2.2.2.2.2.2.2.2.2.2.2.2.2.2.2.2.2.2.2.2.2.2.2.2.2.2.2.2.2.2.2.2.2.2.2.2.2.2.2.2.2.2.2.2.2.2.2.2.2.2.2.2.2.2.2.1
theorem Mod_83 {h : VG} {m : Nat} (hs : ShMod h m) : arI h (m + 28) 3 := hs.2.2.2.2.2.2.2.2.2.2.2.2.2.2.2.2.2.2.2.2.2.2.2.2.2.2.2.2.2.2.2.2.2.2.2.2.2.2.2.2.2.2.2.2.2.2.2.2.2.2.2.2.2.2.2.2.2.2.2.2.2.2.2.2.2.2.2.2.2.2.2.2.2.2.2.2.2.2.2.2.2.2.2.1
theorem Mod_84 {h : VG} {m : Nat} (hs : ShMod h m) : aln h (m + 28) = 512 := hs.2.2.2.2.2.2.2.2.2.2.2.2.2.2.2.2.2.2.2.2.2.2.2.2.2.2.2.2.2.2.2.2.2.2.2.2.2.2.2.2.2.2.2.2.2.2.2.2.2.2.2.2.2.2.2.2.2.2.2.2.2.2.2.2.2.2.2.2.2.2.2.2.2.2.2.2.2.2.2.2.2.2.2.2.1
theorem Mod_85 {h : VG} {m : Nat} (hs : ShMod h m) : rf h m 52 (m + 29) := hs.2.2.2.2.2.2.2.2.2.2.2.2.2.2.2.2.2.2.2.2.2.2.2.2.2.2.2.2.2.2.2.2.2.2.2.2.2.2.2.2.2.2.2.2.2.2.2.2.2.2.2.2.2.2.2.2.2.2.2.2.2.2.2.2.2.2.2.2.2.2.2.2.2.2.2.2.2.2.2.2.2.2.2.2.2.1
theorem Mod_86 {h : VG} {m : Nat} (hs : ShMod h m) : arI h (m + 29) 0 := hs.2.2.2.2.2.2.2.2.2.2.2.2.2.2.2.2.2.2.2.2.2.2.2.2.2.2.2.2.2.2.2.2.2.2.2.2.2.2.2.2.2.2.2.2.2.2.2.2.2.2.2.2.2.2.2.2.2.2.2.2.2.2.2.2.2.2.2.2.2.2.2.2.2.2.2.2.2.2.2.2.2.2.2.2.2.2.1
theorem Mod_87 {h : VG} {m : Nat} (hs : ShMod h m) : aln h (m + 29) = 8 := hs.2.2.2.2.2.2.2.2.2.2.2.2.2.2.2.2.2.2.2.2.2.2.2.2.2.2.2.2.2.2.2.2.2.2.2.2.2.2.2.2.2.2.2.2.2.2.2.2.2.2.2.2.2.2.2.2.2.2.2.2.2.2.2.2.2.2.2.2.2.2.2.2.2.2.2.2.2.2.2.2.2.2.2.2.2.2.2.1
theorem Mod_88 {h : VG} {m : Nat} (hs : ShMod h m) : rf h m 53 (m + 30) := hs.2.2.2.2.2.2.2.2.2.2.2.2.2.2.2.2.2.2.2.2.2.2.2.2.2.2.2.2.2.2.2.2.2.2.2.2.2.2.2.2.2.2.2.2.2.2.2.2.2.2.2.2.2.2.2.2.2.2.2.2.2.2.2.2.2.2.2.2.2.2.2.2.2.2.2.2.2.2.2.2.2.2.2.2.2.2.2.2.1
theorem Mod_89 {h : VG} {m : Nat} (hs : ShMod h m) : arI h (m + 30) 0 := hs.2.2.2.2.2.2.2.2.2.2.2.2.2.2.2.2.2.2.2.2.2.2.2.2.2.2.2.2.2.2.2.2.2.2.2.2.2.2.2.2.2.2.2.2.2.2.2.2.2.2.2.2.2.2.2.2.2.2.2.2.2.2.2.2.2.2.2.2.2.2.2.2.2.2.2.2.2.2.2.2.2.2.2.2.2.2.2.2.2.1
theorem Mod_90 {h : VG} {m : Nat} (hs : ShMod h m) : aln h (m + 30) = 8 := hs.2.2.2.2.2.2.2.2.2.2.2.2.2.2.2.2.2.2.2.2.2.2.2.2.2.2.2.2.2.2.2.2.2.2.2.2.2.2.2.2.2.2.2.2.2.2.2.2.2.2.2.2.2.2.2.2.2.2.2.2.2.2.2.2.2.2.2.2.2.2.2.2.2.2.2.2.2.2.2.2.2.2.2.2.2.2.2.2.2.2.1
theorem Mod_91 {h : VG} {m : Nat} (hs : ShMod h m) : rf h m 55 (m + 31) := hs.2.2.2.2.2.2.2.2.2.2.2.2.2.2.2.2.2.2.2.2.2.2.2.2.2.2.2.2.2.2.2.2.2.2.2.2.2.2.2.2.2.2.2.2.2.2.2.2.2.2.2.2.2.2.2.2.2.2.2.2.2.2.2.2.2.2.2.2.2.2.2.2.2.2.2.2.2.2.2.2.2.2.2.2.2.2.2.2.2.2.2.1
theorem Mod_92 {h : VG} {m : Nat} (hs : ShMod h m) : arI h (m + 31) 0 := hs.2.2.2.2.2.2.2.2.2.2.2.2.2.2.2.2.2.2.2.2.2.2.2.2.2.2.2.2.2.2.2.2.2.2.2.2.2.2.2.2.2.2.2.2.2.2.2.2.2.2.2.2.2.2.2.2.2.2.2.2.2.2.2.2.2.2.2.2.2.2.2.2.2.2.2.2.2.2.2.2.2.2.2.2.2.2.2.2.2.2.2.2.1
theorem Mod_93 {h : VG} {m : Nat} (hs : ShMod h m) : aln h (m + 31) = 2048 := hs.2.2.2.2.2.2.2.2.2.2.2.2.2.2.2.2.2.2.2.2.2.2.2.2.2.2.2.2.2.2.2.2.2.2.2.2.2.2.2.2.2.2.2.2.2.2.2.2.2.2.2.2.2.2.2.2.2.2.2.2.2.2.2.2.2.2.2.2.2.2.2.2.2.2.2.2.2.2.2.2.2.2.2.2.2.2.2.2.2.2.2.2.2.1
theorem Mod_94 {h : VG} {m : Nat} (hs : ShMod h m) : rf h m 56 (m + 32) := hs.2.2.2.2.2.2.2.2.2.2.2.2.2.2.2.2.2.2.2.2.2.2.2.2.2.2.2.2.2.2.2.2.2.2.2.2.2.2.2.2.2.2.2.2.2.2.2.2.2.2.2.2.2.2.2.2.2.2.2.2.2.2.2.2.2.2.2.2.2.2.2.2.2.2.2.2.2.2.2.2.2.2.2.2.2.2.2.2.2.2.2.2.2.2.1
theorem Mod_95 {h : VG} {m : Nat} (hs : ShMod h m) : arL h (m + 32) := hs.2.2.2.2.2.2.2.2.2.2.2.2.2.2.2.2.2.2.2.2.2.2.2.2.2.2.2.2.2.2.2.2.2.2.2.2.2.2.2.2.2.2.2.2.2.2.2.2.2.2.2.2.2.2.2.2.2.2.2.2.2.2.2.2.2.2.2.2.2.2.2.2.2.2.2.2.2.2.2.2.2.2.2.2.2.2.2.2.2.2.2.2.2.2.2.1
theorem Mod_96 {h : VG} {m : Nat} (hs : ShMod h m) : aln h (m + 32) = 8 := hs.2.2.2.2.2.2.2.2.2.2.2.2.2.2.2.2.2.2.2.2.2.2.2.2.2.2.2.2.2.2.2.2.2.2.2.2.2.2.2.2.2.2.2.2.2.2.2.2.2.2.2.2.2.2.2.2.2.2.2.2.2.2.2.2.2.2.2.2.2.2.2.2.2.2.2.2.2.2.2.2.2.2.2.2.2.2.2.2.2.2.2.2.2.2.2.2.1
theorem Mod_97 {h : VG} {m : Nat} (hs : ShMod h m) : rf h m 58 (m + 33) := hs.2.2.2.2.2.2.2.2.2.2.2.2.2.2.2.2.2.2.2.2.2.2.2.2.2.2.2.2.2.2.2.2.2.2.2.2.2.2.2.2.2.2.2.2.2.2.2.2.2.2.2.2.2.2.2.2.2.2.2.2.2.2.2.2.2.2.2.2.2.2.2.2.2.2.2.2.2.2.2.2.2.2.2.2.2.2.2.2.2.2.2.2.2.2.2.2.2.1
theorem Mod_98 {h : VG} {m : Nat} (hs : ShMod h m) : arI h (m + 33) 3 := hs.2.2.2.2.2.2.2.2.2.2.2.2.2.2.2.2.2.2.2.2.2.2.2.2.2.2.2.2.2.2.2.2.2.2.2.2.2.2.2.2.2.2.2.2.2.2.2.2.2.2.2.2.2.2.2.2.2.2.2.2.2.2.2.2.2.2.2.2.2.2.2.2.2.2.2.2.2.2.2.2.2.2.2.2.2.2.2.2.2.2.2.2.2.2.2.2.2.2.1
theorem Mod_99 {h : VG} {m : Nat} (hs : ShMod h m) : aln h (m + 33) = 2 := hs.2.2.2.2.2.2.2.2.2.2.2.2.2.2.2.2.2.2.2.2.2.2.2.2.2.2.2.2.2.2.2.2.2.2.2.2.2.2.2.2.2.2.2.2.2.2.2.2.2.2.2.2.2.2.2.2.2.2.2.2.2.2.2.2.2.2.2.2.2.2.2.2.2.2.2.2.2.2.2.2.2.2.2.2.2.2.2.2.2.2.2.2.2.2.2.2.2.2.2.1
theorem Mod_100 {h : VG} {m : Nat} (hs : ShMod h m) : rf h m 59 (m + 34) := hs.2.2.2.2.2.2.2.2.2.2.2.2.2.2.2.2.2.2.2.2.2.2.2.2.2.2.2.2.2.2.2.2.2.2.2.2.2.2.2.2.2.2.2.2.2.2.2.2.2.2.2.2.2.2.2.2.2.2.2.2.2.2.2.2.2.2.2.2.2.2.2.2.2.2.2.2.2.2.2.2.2.2.2.2.2.2.2.2.2.2.2.2.2.2.2.2.2.2.2.2.1
theorem Mod_101 {h : VG} {m : Nat} (hs : ShMod h m) : arI h (m + 34) 0 := hs.2.2.2.2.2.2.2.2.2.2.2.2.2.2.2.2.2.2.2.2.2.2.2.2.2.2.2.2.2.2.2.2.2.2.2.2.2.2.2.2.2.2.2.2.2.2.2.2.2.2.2.2.2.2.2.2.2.2.2.2.2.2.2.2.2.2.2.2.2.2.2.2.2.2.2.2.2.2.2.2.2.2.2.2.2.2.2.2.2.2.2.2.2.2.2.2.2.2.2.2.2.1
theorem Mod_102 {h : VG} {m : Nat} (hs : ShMod h m) : aln h (m + 34) = 512 := hs.2.2.2.2.2.2.2.2.2.2.2.2.2.2.2.2.2.2.2.2.2.2.2.2.2.2.2.2.2.2.2.2.2.2.2.2.2.2.2.2.2.2.2.2.2.2.2.2.2.2.2.2.2.2.2.2.2.2.2.2.2.2.2.2.2.2.2.2.2.2.2.2.2.2.2.2.2.2.2.2.2.2.2.2.2.2.2.2.2.2.2.2.2.2.2.2.2.2.2.2.2.2.1
theorem Mod_103 {h : VG} {m : Nat} (hs : ShMod h m) : rf h m 60 (m + 35) := hs.2.2.2.2.2.2.2.2.2.2.2.2.2.2.2.2.2.2.2.2.2.2.2.2.2.2.2.2.2.2.2.2.2.2.2.2.2.2.2.2.2.2.2.2.2.2.2.2.2.2.2.2.2.2.2.2.2.2.2.2.2.2.2.2.2.2.2.2.2.2.2.2.2.2.2.2.2.2.2.2.2.2.2.2.2.2.2.2.2.2.2.2.2.2.2.2.2.2.2.2.2.2.2.1
theorem Mod_104 {h : VG} {m : Nat} (hs : ShMod h m) : arI h (m + 35) 0 := hs.2.2.2.2.2.2.2.2.2.2.2.2.2.2.2.2.2.2.2.2.2.2.2.2.2.2.2.2.2.2.2.2.2.2.2.2.2.2.2.2.2.2.2.2.2.2.2.2.2.2.2.2.2.2.2.2.2.2.2.2.2.2.2.2.2.2.2.2.2.2.2.2.2.2.2.2.2.2.2.2.2.2.2.2.2.2.2.2.2.2.2.2.2.2.2.2.2.2.2.2.2.2.2.2.1
theorem Mod_105 {h : VG} {m : Nat} (hs : ShMod h m) : aln h (m + 35) = 16 := hs.2.2.2.2.2.2.2.2.2.2.2.2.2.2.2.2.2.2.2.2.2.2.2.2.2.2.2.2.2.2.2.2.2.2.2.2.2.2.2.2.2.2.2.2.2.2.2.2.2.2.2.2.2.2.2.2.2.2.2.2.2.2.2.2.2.2.2.2.2.2.2.2.2.2.2.2.2.2.2.2.2.2.2.2.2.2.2.2.2.2.2.2.2.2.2.2.2.2.2.2.2.2.2.2.2.1
theorem Mod_106 {h : VG} {m : Nat} (hs : ShMod h m) : rf h m 61 (m + 36) := hs.2.2.2.2.2.2.2.2.2.2.2.2.2.2.2.2.2.2.2.2.2.2.2.2.2.2.2.2.2.2.2.2.2.2.2.2.2.2.2.2.2.2.2.2.2.2.2.2.2.2.2.2.2.2.2.2.2.2.2.2.2.2.2.2.2.2.2.2.2.2.2.2.2.2.2.2.2.2.2.2.2.2.2.2.2.2.2.2.2.2.2.2.2.2.2.2.2.2.2.2.2.2.2.2.2.2.1
theorem Mod_107 {h : VG} {m : Nat} (hs : ShMod h m) : arI h (m + 36) 0 := hs.2.2.2.2.2.2.2.2.2.2.2.2.2.2.2.2.2.2.2.2.2.2.2.2.2.2.2.2.2.2.2.2.2.2.2.2.2.2.2.2.2.2.2.2.2.2.2.2.2.2.2.2.2.2.2.2.2.2.2.2.2.2.2.2.2.2.2.2.2.2.2.2.2.2.2.2.2.2.2.2.2.2.2.2.2.2.2.2.2.2.2.2.2.2.2.2.2.2.2.2.2.2.2.2.2.2.2.1
theorem Mod_108 {h : VG} {m : Nat} (hs : ShMod h m) : aln h (m + 36) = 16 := hs.2.2.2.2.2.2.2.2.2.2.2.2.2.2.2.2.2.2.2.2.2.2.2.2.2.2.2.2.2.2.2.2.2.2.2.2.2.2.2.2.2.2.2.2.2.2.2.2.2.2.2.2.2.2.2.2.2.2.2.2.2.2.2.2.2.2.2.2.2.2.2.2.2.2.2.2.2.2.2.2.2.2.2.2.2.2.2.2.2.2.2.2.2.2.2.2.2.2.2.2.2.2.2.2.2.2.2.2.1
theorem Mod_109 {h : VG} {m : Nat} (hs : ShMod h m) : rf h m 62 (m + 37) := hs.2.2.2.2.2.2.2.2.2.2.2.2.2.2.2.2.2.2.2.2.2.2.2.2.2.2.2.2.2.2.2.2.2.2.2.2.2.2.2.2.2.2.2.2.2.2.2.2.2.2.2.2.2.2.2.2.2.2.2.2.2.2.2.2.2.2.2.2.2.2.2.2.2.2.2.2.2.2.2.2.2.2.2.2.2.2.2.2.2.2.2.2.2.2.2.2.2.2.2.2.2.2.2.2.2.2.2.2.2.1
theorem Mod_110 {h : VG} {m : Nat} (hs : ShMod h m) : arI h (m + 37) 0 := hs.2.2.2.2.2.2.2.2.2.2.2.2.2.2.2.2.2.2.2.2.2.2.2.2.2.2.2.2.2.2.2.2.2.2.2.2.2.2.2.2.2.2.2.2.2.2.2.2.2.2.2.2.2.2.2.2.2.2.2.2.2.2.2.2.2.2.2.2.2.2.2.2.2.2.2.2.2.2.2.2.2.2.2.2.2.2.2.2.2.2.2.2.2.2.2.2.2.2.2.2.2.2.2.2.2.2.2.2.2.2.1
theorem Mod_111 {h : VG} {m : Nat} (hs : ShMod h m) : aln h (m + 37) = 640 := hs.2.2.2.2.2.2.2.2.2.2.2.2.2.2.2.2.2.2.2.2.2.2.2.2.2.2.2.2.2.2.2.2.2.2.2.2.2.2.2.2.2.2.2.2.2.2.2.2.2.2.2.2.2.2.2.2.2.2.2.2.2.2.2.2.2.2.2.2.2.2.2.2.2.2.2.2.2.2.2.2.2.2.2.2.2.2.2.2.2.2.2.2.2.2.2.2.2.2.2.2.2.2.2.2.2.2.2.2.2.2.2.1
theorem Mod_112 {h : VG} {m : Nat} (hs : ShMod h m) : rf h m 63 (m + 38) := hs.2.2.2.2.2.2.2.2.2.2.2.2.2.2.2.2.2.2.2.2.2.2.2.2.2.2.2.2.2.2.2.2.2.2.2.2.2.2.2.2.2.2.2.2.2.2.2.2.2.2.2.2.2.2.2.2.2.2.2.2.2.2.2.2.2.2.2.2.2.2.2.2.2.2.2.2.2.2.2.2.2.2.2.2.2.2.2.2.2.2.2.2.2.2.2.2.2.2.2.2.2.2.2.2.2.2.2.2.2.2.2.2.1
theorem Mod_113 {h : VG} {m : Nat} (hs : ShMod h m) : arL h (m + 38) := hs.2.2.2.2.2.2.2.2.2.2.2.2.2.2.2.2.2.2.2.2.2.2.2.2.2.2.2.2.2.2.2.2.2.2.2.2.2.2.2.2.2.2.2.2.2.2.2.2.2.2.2.2.2.2.2.2.2.2.2.2.2.2.2.2.2.2.2.2.2.2.2.2.2.2.2.2.2.2.2.2.2.2.2.2.2.2.2.2.2.2.2.2.2.2.2.2.2.2.2.2.2.2.2.2.2.2.2.2.2.2.2.2.2.1
theorem Mod_114 {h : VG} {m : Nat} (hs : ShMod h m) : aln h (m + 38) = 640 := hs.2.2.2.2.2.2.2.2.2.2.2.2.2.2.2.2.2.2.2.2.2.2.2.2.2.2.2.2.2.2.2.2.2.2.2.2.2.2.2.2.2.2.2.2.2.2.2.2.2.2.2.2.2.2.2.2.2.2.2.2.2.2.2.2.2.2.2.2.2.2.2.2.2.2.2.2.2.2.2.2.2.2.2.2.2.2.2.2.2.2.2.2.2.2.2.2.2.2.2.2.2.2.2.2.2.2.2.2.2.2.2.2.2.2.1
theorem Mod_115 {h : VG} {m : Nat} (hs : ShMod h m) : rf h m 64 (m + 39) := hs.2.2.2.2.2.2.2.2.2.2.2.2.2.2.2.2.2.2.2.2.2.2.2.2.2.2.2.2.2.2.2.2.2.2.2.2.2.2.2.2.2.2.2.2.2.2.2.2.2.2.2.2.2.2.2.2.2.2.2.2.2.2.2.2.2.2.2.2.2.2.2.2.2.2.2.2.2.2.2.2.2.2.2.2.2.2.2.2.2.2.2.2.2.2.2.2.2.2.2.2.2.2.2.2.2.2.2.2.2.2.2.2.2.2.2.1
theorem Mod_116 {h : VG} {m : Nat} (hs : ShMod h m) : arD h (m + 39) := hs.2.2.2.2.2.2.2.2.2.2.2.2.2.2.2.2.2.2.2.2.2.2.2.2.2.2.2.2.2.2.2.2.2.2.2.2.2.2.2.2.2.2.2.2.2.2.2.2.2.2.2.2.2.2.2.2.2.2.2.2.2.2.2.2.2.2.2.2.2.2.2.2.2.2.2.2.2.2.2.2.2.2.2.2.2.2.2.2.2.2.2.2.2.2.2.2.2.2.2.2.2.2.2.2.2.2.2.2.2.2.2.2.2.2.2.2.1
theorem Mod_117 {h : VG} {m : Nat} (hs : ShMod h m) : aln h (m + 39) = 640 := hs.2.2.2.2.2.2.2.2.2.2.2.2.2.2.2.2.2.2.2.2.2.2.2.2.2.2.2.2.2.2.2.2.2.2.2.2.2.2.2.2.2.2.2.2.2.2.2.2.2.2.2.2.2.2.2.2.2.2.2.2.2.2.2.2.2.2.2.2.2.2.2.2.2.2.2.2.2.2.2.2.2.2.2.2.2.2.2.2.2.2.2.2.2.2.2.2.2.2.2.2.2.2.2.2.2.2.2.2.2.2.2.2.2.2.2.2.2.1
theorem Mod_118 {h : VG} {m : Nat} (hs : ShMod h m) : rf h m 65 (m + 40) := hs.2.2.2.2.2.2.2.2.2.2.2.2.2.2.2.2.2.2.2.2.2.2.2.2.2.2.2.2.2.2.2.2.2.2.2.2.2.2.2.2.2.2.2.2.2.2.2.2.2.2.2.2.2.2.2.2.2.2.2.2.2.2.2.2.2.2.2.2.2.2.2.2.2.2.2.2.2.2.2.2.2.2.2.2.2.2.2.2.2.2.2.2.2.2.2.2.2.2.2.2.2.2.2.2.2.2.2.2.2.2.2.2.2.2.2.2.2.2.1
theorem Mod_119 {h : VG} {m : Nat} (hs : ShMod h m) : arL h (m + 40) := hs.2.2.2.2.2.2.2.2.2.2.2.2.2.2.2.2.2.2.2.2.2.2.2.2.2.2.2.2.2.2.2.2.2.2.2.2.2.2.2.2.2.2.2.2.2.2.2.2.2.2.2.2.2.2.2.2.2.2.2.2.2.2.2.2.2.2.2.2.2.2.2.2.2.2.2.2.2.2.2.2.2.2.2.2.2.2.2.2.2.2.2.2.2.2.2.2.2.2.2.2.2.2.2.2.2.2.2.2.2.2.2.2.2.2.2.2.2.2.2.1
theorem Mod_120 {h : VG} {m : Nat} (hs : ShMod h m) : aln h (m + 40) = 16 := hs.2.2.2.2.2.2.2.2.2.2.2.2.2.2.2.2.2.2.2.2.2.2.2.2.2.2.2.2.2.2.2.2.2.2.2.2.2.2.2.2.2.2.2.2.2.2.2.2.2.2.2.2.2.2.2.2.2.2.2.2.2.2.2.2.2.2.2.2.2.2.2.2.2.2.2.2.2.2.2.2.2.2.2.2.2.2.2.2.2.2.2.2.2.2.2.2.2.2.2.2.2.2.2.2.2.2.2.2.2.2.2.2.2.2.2.2.2.2.2.2.1
theorem Mod_121 {h : VG} {m : Nat} (hs : ShMod h m) : rf h m 66 (m + 41) := hs.2.2.2.2.2.2.2.2.2.2.2.2.2.2.2.2.2.2.2.2.2.2.2.2.2.2.2.2.2.2.2.2.2.2.2.2.2.2.2.2.2.2.2.2.2.2.2.2.2.2.2.2.2.2.2.2.2.2.2.2.2.2.2.2.2.2.2.2.2.2.2.2.2.2.2.2.2.2.2.2.2.2.2.2.2.2.2.2.2.2.2.2.2.2.2.2.2.2.2.2.2.2.2.2.2.2.2.2.2.2.2.2.2.2.2.2.2.2.2.2.2.1
theorem Mod_122 {h : VG} {m : Nat} (hs : ShMod h m) : arI h (m + 41) 0 := hs.2.2.2.2.2.2.2.2.2.2.2.2.2.2.2.2.2.2.2.2.2.2.2.2.2.2.2.2.2.2.2.2.2.2.2.2.2.2.2.2.2.2.2.2.2.2.2.2.2.2.2.2.2.2.2.2.2.2.2.2.2.2.2.2.2.2.2.2.2.2.2.2.2.2.2.2.2.2.2.2.2.2.2.2.2.2.2.2.2.2.2.2.2.2.2.2.2.2.2.2.2.2.2.2.2.2.2.2.2.2.2.2.2.2.2.2.2.2.2.2.2.2.1
theorem Mod_123 {h : VG} {m : Nat} (hs : ShMod h m) : aln h (m + 41) = 2 := hs.2.2.2.2.2.2.2.2.2.2.2.2.2.2.2.2.2.2.2.2.2.2.2.2.2.2.2.2.2.2.2.2.2.2.2.2.2.2.2.2.2.2.2.2.2.2.2.2.2.2.2.2.2.2.2.2.2.2.2.2.2.2.2.2.2.2.2.2.2.2.2.2.2.2.2.2.2.2.2.2.2.2.2.2.2.2.2.2.2.2.2.2.2.2.2.2.2.2.2.2.2.2.2.2.2.2.2.2.2.2.2.2.2.2.2.2.2.2.2.2.2.2.2
