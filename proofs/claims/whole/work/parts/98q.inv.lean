/-! objects made: the relation holds at the start -/
theorem sm_wi : ∀ j : Fin 10, smallF j.val = vSmall j.val ∧ wideF j.val = vWide j.val := by decide +kernel
theorem ky_c : ∀ j : Fin 14, keyF j.val = mKey j.val := by decide +kernel
theorem nar_0 : (0 : Int32) = vp_nar .byte 0 := by decide
theorem bin_b {h : VG} {a : Nat} (B : Blk h a (statL a 8)) (b : Nat) (hb : b < 8) : gI h (a + (5 + 3 * b)) 0 = nI 11 ∧ gI h (a + (5 + 3 * b)) 1 = nI 0 := by
  have B5 : Blk h (a + 5) (blks binB a 5 3 8) := Blk.r B 5 rfl
  have bb := Blk.bs (G := binB) (sz := 3) (fun _ => rfl) 8 B5 b hb
  exact ⟨gI_c (bb 0 _ rfl) rfl, gI_c (bb 0 _ rfl) rfl⟩
theorem frm_b {h : VG} {a : Nat} (B : Blk h a (planL a 6)) (f : Nat) (hf : f < 6) : gI h (a + (4 + 13 * f) + 5) 0 = 0 ∧ gI h (a + (4 + 13 * f) + 7) 0 = 1 := by
  have B4 : Blk h (a + 4) (blks formB a 4 13 6) := Blk.r B 4 rfl
  have bb := Blk.bs (G := formB) (sz := 13) (fun _ => rfl) 6 B4 f hf
  exact ⟨gI_c (bb 5 _ rfl) rfl, gI_c (bb 7 _ rfl) rfl⟩
set_option maxRecDepth 40000 in
set_option maxHeartbeats 4000000 in
theorem ini_Inv {h : VG} {g : Nat} {f : Nat → Int32} (B : Blk h g (clsO g)) (C : Blk h (g + 201) (clsL (g + 201))) (M : Blk h (g + 266) (.inr (11, modF (g + 266)) :: modK f)) (hf : ∀ j, j < 8 → f j = 11) (hs : St h g) : Inv h g := by
  have sh : Sh h g := ⟨shCls B C, shMod M, hs⟩
  obtain ⟨B0, B1, B2, B3⟩ := clsO_b B
  obtain ⟨C1, C2⟩ := clsL_b C
  have t0 : ∀ i, aI h (g + 1) i = 0 := fun i => aI_c (B 1 _ rfl) i
  have t1 : ∀ i, aI h (g + 267) i = 0 := fun i => aI_c (M 1 _ rfl) i
  have m0 : ∀ i, aI h (g + 174) i = 0 := fun i => aI_c (B3 2 _ rfl) i
  have m1 : ∀ i, aI h (g + 277) i = 0 := fun i => aI_c (M 11 _ rfl) i
  have r0 : ∀ i, aL h (g + 176) i = 0 := fun i => aL_c (B3 4 _ rfl) i
  have r1 : ∀ i, aL h (g + 298) i = 0 := fun i => aL_c (M 32 _ rfl) i
  have s0 : ∀ i, aI h (g + 285) i = f i := fun i => aI_c (M 19 _ rfl) i
  have s1 : ∀ i, aI h (g + 286) i = 0 := fun i => aI_c (M 20 _ rfl) i
  have h0 : ∀ i, aI h (g + 260) i = 0 := fun i => aI_c (C 59 _ rfl) i
  have h1 : ∀ i, aI h (g + 299) i = 0 := fun i => aI_c (M 33 _ rfl) i
  have c0 : ∀ i, aI h (g + 282) i = smallF i := fun i => aI_c (M 16 _ rfl) i
  have c1 : ∀ i, aI h (g + 283) i = wideF i := fun i => aI_c (M 17 _ rfl) i
  have k0 : ∀ i, aL h (g + 7) i = twf 71 i := fun i => aL_c (B0 4 _ rfl) i
  have k1 : ∀ i, aL h (g + 273) i = keyF i := fun i => aL_c (M 7 _ rfl) i
  have sl : ∀ σ, RSl h g σ := fun σ => ⟨(h0 σ).trans (h1 σ).symm, Or.inl (h1 σ), fun z => absurd (h1 σ) z⟩
  have G0 := B 0 _ rfl
  have M0 := M 0 _ rfl
  refine ⟨⟨sh, ?_, ?_, ?_, ?_, ?_, ?_, sl 0, sl 1, ?_⟩, ?_, ?_, ?_⟩
  · exact ⟨⟨0, Nat.zero_le _, gI_c G0 rfl, gI_c M0 rfl⟩, fun i _ => ⟨(t0 i).trans (t1 i).symm, 0, (t0 i).trans nar_0⟩⟩
  · have a5 : gI h g 5 = -1 := gI_c G0 rfl
    have a9 : gI h g 9 = 0 := gI_c G0 rfl
    have a10 : gI h g 10 = 0 := gI_c G0 rfl
    have b16 : gI h (g + 266) 16 = -1 := gI_c M0 rfl
    have b31 : gI h (g + 266) 31 = 0 := gI_c M0 rfl
    have b32 : gI h (g + 266) 32 = 0 := gI_c M0 rfl
    exact ⟨a5.trans b16.symm, a9.trans b31.symm, a10.trans b32.symm⟩
  · have b17 : gI h (g + 266) 17 = 0 := gI_c M0 rfl
    have a2 : gI h (g + 173) 2 = 0 := gI_c (B3 1 _ rfl) rfl
    exact ⟨256, 0, by omega, by omega, by omega, gI_c (B3 1 _ rfl) rfl, gI_c M0 rfl, gI_c (B3 0 _ rfl) rfl, gI_c M0 rfl, a2.trans b17.symm, Or.inl b17⟩
  · exact fun i _ => ⟨0, by omega, m1 _, (m0 i).trans nar_0⟩
  · exact fun r _ => (r0 r).trans (r1 _).symm
  · intro b hb
    obtain ⟨x1, x2⟩ := bin_b B3 b hb
    rw [show g + 172 + (5 + 3 * b) = g + (177 + 3 * b) by omega] at x1 x2
    exact ⟨11, 0, by omega, by omega, fun _ => rfl, x1, (s0 _).trans ((hf _ (by omega)).trans rfl), x2, s1 _, fun i hi => absurd hi (Nat.not_lt_zero i)⟩
  · exact ⟨8, Or.inl rfl, rf_c G0 rfl, 0, Nat.zero_le _, gI_c (B1 0 _ rfl) rfl, gI_c M0 rfl, fun i hi => absurd hi (Nat.not_lt_zero i)⟩
  · exact fun j hj => ⟨(c0 j).trans (sm_wi ⟨j, hj⟩).1, (c1 j).trans (sm_wi ⟨j, hj⟩).2⟩
  · exact fun j hj => ⟨(k0 j).trans (twf_c ⟨j, hj⟩), (k1 j).trans (ky_c ⟨j, hj⟩)⟩
  · intro i c hi hc
    rcases hc with rfl | rfl
    · obtain ⟨x1, x2⟩ := frm_b B1 i hi
      rw [show g + 8 + (4 + 13 * i) + 5 = g + (8 + 4 + 13 * i + 5) by omega] at x1
      rw [show g + 8 + (4 + 13 * i) + 7 = g + (8 + 4 + 13 * i + 7) by omega] at x2
      exact ⟨x1, x2⟩
    · obtain ⟨x1, x2⟩ := frm_b B2 i hi
      rw [show g + 90 + (4 + 13 * i) + 5 = g + (90 + 4 + 13 * i + 5) by omega] at x1
      rw [show g + 90 + (4 + 13 * i) + 7 = g + (90 + 4 + 13 * i + 7) by omega] at x2
      exact ⟨x1, x2⟩

