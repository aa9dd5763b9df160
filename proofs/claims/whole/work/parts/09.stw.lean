/-! the instructions that write, and those that make -/
theorem vCl_ty : ∀ (ci : Nat) (q : vw_C), vwCl[ci]? = some q → (∀ k, k < q.2.2 → parseFieldDescriptor (q.2.1 k).2.2.1 = some (vTy ci k)) ∧ ∀ a, a < q.2.2 → ∀ b, b < q.2.2 → a ≠ b → (q.2.1 a).2.1 ≠ (q.2.1 b).2.1
  | 0, _, h => by cases h; exact ⟨tyX0_ok, nmX0⟩
  | 1, _, h => by cases h; exact ⟨tyX1_ok, nmX1⟩
  | 2, _, h => by cases h; exact ⟨tyX2_ok, nmX2⟩
  | 3, _, h => by cases h; exact ⟨tyX3_ok, nmX3⟩
  | 4, _, h => by cases h; exact ⟨tyX5_ok, nmX5⟩
  | 5, _, h => by cases h; exact ⟨tyX6_ok, nmX6⟩
  | 6, _, h => by cases h; exact ⟨tyX7_ok, nmX7⟩
  | 7, _, h => by cases h; exact ⟨tyX8_ok, nmX8⟩
  | 8, _, h => by cases h; exact ⟨tyX9_ok, nmX9⟩
  | 9, _, h => by cases h; exact ⟨tyX10_ok, nmX10⟩
  | 10, _, h => by cases h; exact ⟨tyX11_ok, nmX11⟩
  | 11, _, h => by cases h; exact ⟨tyX12_ok, nmX12⟩
  | _ + 12, _, h => by cases h
theorem t_putfield_ {len m pc pc1 : Nat} {st st1 : List Value} {L L1 : VL} {h h1 : VG} {idx : Nat} (hv : vlen (.putfield idx) len = true) (hs : stp (.putfield idx) m pc L st h = some (pc1, L1, st1, h1)) : VT (.putfield idx) len m pc st L h pc1 L1 st1 h1 := by
  obtain rfl : len = 3 := by simpa [vlen] using hv
  simp only [stp] at hs
  split at hs
  · rename_i v a st0
    split at hs
    · rename_i ci k pl hf
      split at hs
      · rename_i c0 fs ha
        split at hs
        · rename_i hc
          obtain ⟨rfl, hlt, hkl, hput, hn, hfit⟩ := hc
          cases hs
          refine ⟨⟨Nat.le_refl _, Nat.le_refl _, rfl⟩, fun p l e R s mi args below meth c H locs ls Q g cy D k0 hd hC hI hl hk hcb hsb kk => ?_⟩
          obtain ⟨q, hq⟩ := vwCl_lt hlt
          obtain ⟨o1, o2⟩ := vFld_ok hf hq
          have hsm : vsame (h.1 a) (.inr (c0, fs.set k v)) := Or.inr ⟨c0, fs, fs.set k v, ha, rfl, hlt⟩
          have he := vWs_get (cy := cy) (g := g) (h := h) (vsame_in hI.2.2.2.2.2.1 hsm)
          rw [ha] at he
          obtain ⟨t1, t2⟩ := vCl_ty c0 q hq
          cases hfin : (q.2.1 k).2.2.2 with
          | false =>
            exact va_put hC.1 hC.2.1 hC.2.2.2.2.1 (vCl_in hq) (vTy c0) t1 t2 hC.2.2.2.1 (vht hC) hI.2.2.2.1 (vWs_D cy g h) hI.2.2.2.2.1 (a - g) he hq k o1 (hC.2.2.2.2.1 _ o2) (fun _ z => z) hfin (t1 k o1) hn hfit hkl hd (fun H1 locs1 hP hD hS => kk H1 locs1 ls (hI.put hsm hP hS) hl)
          | true =>
            have hp2 : (mnm m).name = "<init>" ∧ (q.2.1 k).1 = vCname (mcl m) := by
              unfold vPut vFin vDcl at hput
              rw [hq] at hput
              dsimp only at hput
              rw [hfin] at hput
              simpa [vCname] using hput
            exact va_putF hC.1 hC.2.1 hC.2.2.2.2.1 (vCl_in hq) (vTy c0) t1 t2 hC.2.2.2.1 (vht hC) hI.2.2.2.1 (vWs_D cy g h) hI.2.2.2.2.1 (a - g) he hq k o1 (hC.2.2.2.2.1 _ o2) (fun _ z => z) hfin (hC.2.2.2.2.2.2.1 hp2.1) hp2.2 (t1 k o1) hn hfit hkl hd (fun H1 locs1 hP hD hS => kk H1 locs1 ls (hI.put hsm hP hS) hl)
        · cases hs
      · cases hs
    · cases hs
  · cases hs
theorem t_iaload_ {len m pc pc1 : Nat} {st st1 : List Value} {L L1 : VL} {h h1 : VG}  (hv : vlen (.iaload) len = true) (hs : stp (.iaload) m pc L st h = some (pc1, L1, st1, h1)) : VT (.iaload) len m pc st L h pc1 L1 st1 h1 := by
  obtain rfl : len = 1 := by simpa [vlen] using hv
  simp only [stp] at hs
  split at hs
  · rename_i i a st0
    split at hs
    · rename_i x hg
      cases hs
      unfold viald at hg
      split at hg
      · rename_i t n f ha
        split at hg
        · rename_i hc
          cases hg
          refine ⟨⟨Nat.le_refl _, Nat.le_refl _, rfl⟩, fun p l e R s mi args below meth c H locs ls Q g cy D k0 hd hC hI hl hk hcb hsb kk => ?_⟩
          obtain ⟨ht, hin⟩ := hc
          rcases ht with rfl | rfl
          · have he := vWs_get (cy := cy) (g := g) (h := h) ((hI.2.2.2.2.2.1 a).1 0 _ ha (by decide))
            rw [ha] at he
            exact va_iald hC.1 hC.2.1 (vht hC) hI.2.2.2.1 (a - g) 0 he (vtys_at cy (by decide)) hin hd (kk H locs ls hI hl)
          · obtain ⟨fi, e1, e2, e3⟩ := (hI.2.2.2.2.2.2.1 a).1 20 n (.inl f) ha (by decide)
            cases e1
            exact va_ti hC.1 hC.2.1 (e2 rfl) hI.2.2.2.2.1 hin rfl hd (kk H locs ls hI hl)
        · cases hg
      · cases hg
    · cases hs
  · cases hs
theorem t_baload_ {len m pc pc1 : Nat} {st st1 : List Value} {L L1 : VL} {h h1 : VG}  (hv : vlen (.baload) len = true) (hs : stp (.baload) m pc L st h = some (pc1, L1, st1, h1)) : VT (.baload) len m pc st L h pc1 L1 st1 h1 := by
  obtain rfl : len = 1 := by simpa [vlen] using hv
  simp only [stp] at hs
  split at hs
  · rename_i i a st0
    split at hs
    · rename_i x hg
      cases hs
      unfold vbald at hg
      split at hg
      · rename_i t n f ha
        split at hg
        · rename_i hc
          cases hg
          refine ⟨⟨Nat.le_refl _, Nat.le_refl _, rfl⟩, fun p l e R s mi args below meth c H locs ls Q g cy D k0 hd hC hI hl hk hcb hsb kk => ?_⟩
          obtain ⟨ht, hin⟩ := hc
          rcases ht with rfl | rfl | rfl
          · have he := vWs_get (cy := cy) (g := g) (h := h) ((hI.2.2.2.2.2.1 a).1 2 _ ha (by decide))
            rw [ha] at he
            exact va_bald hC.1 hC.2.1 (vht hC) hI.2.2.2.1 (a - g) 2 he (vtys_at cy (by decide)) hin hd (kk H locs ls hI hl)
          · have he := vWs_get (cy := cy) (g := g) (h := h) ((hI.2.2.2.2.2.1 a).1 3 _ ha (by decide))
            rw [ha] at he
            exact va_zald hC.1 hC.2.1 (vht hC) hI.2.2.2.1 (a - g) 3 he (vtys_at cy (by decide)) hin hd (kk H locs ls hI hl)
          · obtain ⟨fi, e1, e2, e3⟩ := (hI.2.2.2.2.2.2.1 a).1 21 n (.inl f) ha (by decide)
            cases e1
            exact va_tb hC.1 hC.2.1 (e3 rfl) hI.2.2.2.2.1 hin rfl hd (kk H locs ls hI hl)
        · cases hg
      · cases hg
    · cases hs
  · cases hs
theorem t_laload_ {len m pc pc1 : Nat} {st st1 : List Value} {L L1 : VL} {h h1 : VG}  (hv : vlen (.laload) len = true) (hs : stp (.laload) m pc L st h = some (pc1, L1, st1, h1)) : VT (.laload) len m pc st L h pc1 L1 st1 h1 := by
  obtain rfl : len = 1 := by simpa [vlen] using hv
  simp only [stp] at hs
  split at hs
  · rename_i i a st0
    split at hs
    · rename_i x hg
      cases hs
      unfold vlald at hg
      split at hg
      · rename_i t n f ha
        split at hg
        · rename_i hc
          cases hg
          refine ⟨⟨Nat.le_refl _, Nat.le_refl _, rfl⟩, fun p l e R s mi args below meth c H locs ls Q g cy D k0 hd hC hI hl hk hcb hsb kk => ?_⟩
          obtain ⟨ht, hin⟩ := hc
          subst ht
          have he := vWs_get (cy := cy) (g := g) (h := h) ((hI.2.2.2.2.2.1 a).1 1 _ ha (by decide))
          rw [ha] at he
          exact va_lald hC.1 hC.2.1 (vht hC) hI.2.2.2.1 (a - g) 1 he (vtys_at cy (by decide)) hin hd (kk H locs ls hI hl)
        · cases hg
      · cases hg
    · cases hs
  · cases hs
theorem t_daload_ {len m pc pc1 : Nat} {st st1 : List Value} {L L1 : VL} {h h1 : VG}  (hv : vlen (.daload) len = true) (hs : stp (.daload) m pc L st h = some (pc1, L1, st1, h1)) : VT (.daload) len m pc st L h pc1 L1 st1 h1 := by
  obtain rfl : len = 1 := by simpa [vlen] using hv
  simp only [stp] at hs
  split at hs
  · rename_i i a st0
    split at hs
    · rename_i x hg
      cases hs
      unfold vdald at hg
      split at hg
      · rename_i t n f ha
        split at hg
        · rename_i hc
          cases hg
          refine ⟨⟨Nat.le_refl _, Nat.le_refl _, rfl⟩, fun p l e R s mi args below meth c H locs ls Q g cy D k0 hd hC hI hl hk hcb hsb kk => ?_⟩
          obtain ⟨ht, hin⟩ := hc
          subst ht
          have he := vWs_get (cy := cy) (g := g) (h := h) ((hI.2.2.2.2.2.1 a).1 4 _ ha (by decide))
          rw [ha] at he
          exact va_dald hC.1 hC.2.1 (vht hC) hI.2.2.2.1 (a - g) 4 he (vtys_at cy (by decide)) hin hd (kk H locs ls hI hl)
        · cases hg
      · cases hg
    · cases hs
  · cases hs
theorem t_aaload_ {len m pc pc1 : Nat} {st st1 : List Value} {L L1 : VL} {h h1 : VG}  (hv : vlen (.aaload) len = true) (hs : stp (.aaload) m pc L st h = some (pc1, L1, st1, h1)) : VT (.aaload) len m pc st L h pc1 L1 st1 h1 := by
  obtain rfl : len = 1 := by simpa [vlen] using hv
  simp only [stp] at hs
  split at hs
  · rename_i i a st0
    split at hs
    · rename_i x hg
      cases hs
      unfold vaald at hg
      split at hg
      · rename_i t n f ha
        split at hg
        · rename_i hc
          cases hg
          refine ⟨⟨Nat.le_refl _, Nat.le_refl _, rfl⟩, fun p l e R s mi args below meth c H locs ls Q g cy D k0 hd hC hI hl hk hcb hsb kk => ?_⟩
          obtain ⟨ht, hin⟩ := hc
          rcases ht with rfl | rfl | rfl
          · have he := vWs_get (cy := cy) (g := g) (h := h) ((hI.2.2.2.2.2.1 a).1 5 _ ha (by decide))
            rw [ha] at he
            exact va_aldq hC.1 hC.2.1 (vht hC) hI.2.2.2.1 (a - g) 5 he (vtys_at cy (by decide)) hin hd (kk H locs ls hI hl)
          · have he := vWs_get (cy := cy) (g := g) (h := h) ((hI.2.2.2.2.2.1 a).1 6 _ ha (by decide))
            rw [ha] at he
            exact va_aldq hC.1 hC.2.1 (vht hC) hI.2.2.2.1 (a - g) 6 he (vtys_at cy (by decide)) hin hd (kk H locs ls hI hl)
          · have he := vWs_get (cy := cy) (g := g) (h := h) ((hI.2.2.2.2.2.1 a).1 7 _ ha (by decide))
            rw [ha] at he
            exact va_aldq hC.1 hC.2.1 (vht hC) hI.2.2.2.1 (a - g) 7 he (vtys_at cy (by decide)) hin hd (kk H locs ls hI hl)
        · cases hg
      · cases hg
    · cases hs
  · cases hs
theorem t_arraylength_ {len m pc pc1 : Nat} {st st1 : List Value} {L L1 : VL} {h h1 : VG}  (hv : vlen (.arraylength) len = true) (hs : stp (.arraylength) m pc L st h = some (pc1, L1, st1, h1)) : VT (.arraylength) len m pc st L h pc1 L1 st1 h1 := by
  obtain rfl : len = 1 := by simpa [vlen] using hv
  simp only [stp] at hs
  split at hs
  · rename_i a st0
    split at hs
    · rename_i n hg
      cases hs
      unfold valen at hg
      split at hg
      · rename_i t n0 f ha
        split at hg
        · rename_i hc
          cases hg
          refine ⟨⟨Nat.le_refl _, Nat.le_refl _, rfl⟩, fun p l e R s mi args below meth c H locs ls Q g cy D k0 hd hC hI hl hk hcb hsb kk => ?_⟩
          by_cases ht : t < 8
          · have he := vWs_get (cy := cy) (g := g) (h := h) ((hI.2.2.2.2.2.1 a).1 t _ ha ht)
            rw [ha] at he
            exact va_alen hC.1 hC.2.1 (vht hC) hI.2.2.2.1 (a - g) t he (vtys_at cy ht) rfl hd (kk H locs ls hI hl)
          · obtain ⟨fi, e1, e2, e3⟩ := (hI.2.2.2.2.2.2.1 a).1 t n f ha ht
            rcases hc with hc | rfl | rfl
            · exact absurd hc ht
            · exact va_tlen hC.1 hC.2.1 (e2 rfl) hI.2.2.2.2.1 rfl hd (kk H locs ls hI hl)
            · exact va_tlen hC.1 hC.2.1 (e3 rfl) hI.2.2.2.2.1 rfl hd (kk H locs ls hI hl)
        · cases hg
      · cases hg
    · cases hs
  · cases hs
theorem t_iastore_ {len m pc pc1 : Nat} {st st1 : List Value} {L L1 : VL} {h h1 : VG}  (hv : vlen (.iastore) len = true) (hs : stp (.iastore) m pc L st h = some (pc1, L1, st1, h1)) : VT (.iastore) len m pc st L h pc1 L1 st1 h1 := by
  obtain rfl : len = 1 := by simpa [vlen] using hv
  simp only [stp] at hs
  split at hs
  · rename_i x i a st0
    split at hs
    · rename_i h2 hg
      cases hs
      unfold viast at hg
      split at hg
      · rename_i t n f ha
        split at hg
        · rename_i hc
          cases hg
          refine ⟨⟨Nat.le_refl _, Nat.le_refl _, rfl⟩, fun p l e R s mi args below meth c H locs ls Q g cy D k0 hd hC hI hl hk hcb hsb kk => ?_⟩
          obtain ⟨ht, hin⟩ := hc
          subst ht
          have hsm : vsame (h.1 a) (.inl (0, n, .inl (upd f i.toNatClampNeg x))) := Or.inl ⟨0, _, _, ha, rfl, by decide⟩
          have he := vWs_get (cy := cy) (g := g) (h := h) (vsame_in hI.2.2.2.2.2.1 hsm)
          rw [ha] at he
          exact va_iast hC.1 hC.2.1 (vht hC) hI.2.2.2.1 (vWs_D cy g h) hI.2.2.2.2.1 (a - g) 0 he (vtys_at cy (by decide)) hin hd (fun H1 locs1 hP hD hS => kk H1 locs1 ls (hI.put hsm hP hS) hl)
        · cases hg
      · cases hg
    · cases hs
  · cases hs
theorem t_bastore_ {len m pc pc1 : Nat} {st st1 : List Value} {L L1 : VL} {h h1 : VG}  (hv : vlen (.bastore) len = true) (hs : stp (.bastore) m pc L st h = some (pc1, L1, st1, h1)) : VT (.bastore) len m pc st L h pc1 L1 st1 h1 := by
  obtain rfl : len = 1 := by simpa [vlen] using hv
  simp only [stp] at hs
  split at hs
  · rename_i x i a st0
    split at hs
    · rename_i h2 hg
      cases hs
      unfold vbast at hg
      split at hg
      · rename_i t n f ha
        split at hg
        · rename_i hc
          cases hg
          refine ⟨⟨Nat.le_refl _, Nat.le_refl _, rfl⟩, fun p l e R s mi args below meth c H locs ls Q g cy D k0 hd hC hI hl hk hcb hsb kk => ?_⟩
          obtain ⟨ht, hin⟩ := hc
          rcases ht with rfl | rfl
          · have hsm : vsame (h.1 a) (.inl (2, n, .inl (upd f i.toNatClampNeg (vp_nar .byte x)))) := Or.inl ⟨2, _, _, ha, rfl, by decide⟩
            have he := vWs_get (cy := cy) (g := g) (h := h) (vsame_in hI.2.2.2.2.2.1 hsm)
            rw [ha] at he
            exact va_bast hC.1 hC.2.1 (vht hC) hI.2.2.2.1 (vWs_D cy g h) hI.2.2.2.2.1 (a - g) 2 he (vtys_at cy (by decide)) hin hd (fun H1 locs1 hP hD hS => kk H1 locs1 ls (hI.put hsm hP hS) hl)
          · have hsm : vsame (h.1 a) (.inl (3, n, .inl (upd f i.toNatClampNeg (vp_nar .boolean x)))) := Or.inl ⟨3, _, _, ha, rfl, by decide⟩
            have he := vWs_get (cy := cy) (g := g) (h := h) (vsame_in hI.2.2.2.2.2.1 hsm)
            rw [ha] at he
            exact va_zast hC.1 hC.2.1 (vht hC) hI.2.2.2.1 (vWs_D cy g h) hI.2.2.2.2.1 (a - g) 3 he (vtys_at cy (by decide)) hin hd (fun H1 locs1 hP hD hS => kk H1 locs1 ls (hI.put hsm hP hS) hl)
        · cases hg
      · cases hg
    · cases hs
  · cases hs
theorem t_lastore_ {len m pc pc1 : Nat} {st st1 : List Value} {L L1 : VL} {h h1 : VG}  (hv : vlen (.lastore) len = true) (hs : stp (.lastore) m pc L st h = some (pc1, L1, st1, h1)) : VT (.lastore) len m pc st L h pc1 L1 st1 h1 := by
  obtain rfl : len = 1 := by simpa [vlen] using hv
  simp only [stp] at hs
  split at hs
  · rename_i x i a st0
    split at hs
    · rename_i h2 hg
      cases hs
      unfold vlast at hg
      split at hg
      · rename_i t n f ha
        split at hg
        · rename_i hc
          cases hg
          refine ⟨⟨Nat.le_refl _, Nat.le_refl _, rfl⟩, fun p l e R s mi args below meth c H locs ls Q g cy D k0 hd hC hI hl hk hcb hsb kk => ?_⟩
          obtain ⟨ht, hin⟩ := hc
          subst ht
          have hsm : vsame (h.1 a) (.inl (1, n, .inr (.inl (vp_updL f i.toNatClampNeg x)))) := Or.inl ⟨1, _, _, ha, rfl, by decide⟩
          have he := vWs_get (cy := cy) (g := g) (h := h) (vsame_in hI.2.2.2.2.2.1 hsm)
          rw [ha] at he
          exact va_last hC.1 hC.2.1 (vht hC) hI.2.2.2.1 (vWs_D cy g h) hI.2.2.2.2.1 (a - g) 1 he (vtys_at cy (by decide)) hin hd (fun H1 locs1 hP hD hS => kk H1 locs1 ls (hI.put hsm hP hS) hl)
        · cases hg
      · cases hg
    · cases hs
  · cases hs
theorem t_dastore_ {len m pc pc1 : Nat} {st st1 : List Value} {L L1 : VL} {h h1 : VG}  (hv : vlen (.dastore) len = true) (hs : stp (.dastore) m pc L st h = some (pc1, L1, st1, h1)) : VT (.dastore) len m pc st L h pc1 L1 st1 h1 := by
  obtain rfl : len = 1 := by simpa [vlen] using hv
  simp only [stp] at hs
  split at hs
  · rename_i x i a st0
    split at hs
    · rename_i h2 hg
      cases hs
      unfold vdast at hg
      split at hg
      · rename_i t n f ha
        split at hg
        · rename_i hc
          cases hg
          refine ⟨⟨Nat.le_refl _, Nat.le_refl _, rfl⟩, fun p l e R s mi args below meth c H locs ls Q g cy D k0 hd hC hI hl hk hcb hsb kk => ?_⟩
          obtain ⟨ht, hin⟩ := hc
          subst ht
          have hsm : vsame (h.1 a) (.inl (4, n, .inr (.inr (.inr (.inl (vf_upd f i.toNatClampNeg x)))))) := Or.inl ⟨4, _, _, ha, rfl, by decide⟩
          have he := vWs_get (cy := cy) (g := g) (h := h) (vsame_in hI.2.2.2.2.2.1 hsm)
          rw [ha] at he
          exact va_dast hC.1 hC.2.1 (vht hC) hI.2.2.2.1 (vWs_D cy g h) hI.2.2.2.2.1 (a - g) 4 he (vtys_at cy (by decide)) hin hd (fun H1 locs1 hP hD hS => kk H1 locs1 ls (hI.put hsm hP hS) hl)
        · cases hg
      · cases hg
    · cases hs
  · cases hs
theorem t_aastore_ {len m pc pc1 : Nat} {st st1 : List Value} {L L1 : VL} {h h1 : VG}  (hv : vlen (.aastore) len = true) (hs : stp (.aastore) m pc L st h = some (pc1, L1, st1, h1)) : VT (.aastore) len m pc st L h pc1 L1 st1 h1 := by
  obtain rfl : len = 1 := by simpa [vlen] using hv
  simp only [stp] at hs
  split at hs
  · rename_i v i a st0
    split at hs
    · rename_i h2 hg
      cases hs
      unfold vaast at hg
      split at hg
      · rename_i t n f ha
        split at hg
        · rename_i ci vs hv0
          split at hg
          · rename_i hc
            cases hg
            refine ⟨⟨Nat.le_refl _, Nat.le_refl _, rfl⟩, fun p l e R s mi args below meth c H locs ls Q g cy D k0 hd hC hI hl hk hcb hsb kk => ?_⟩
            obtain ⟨ht, ht8, hin⟩ := hc
            have hsm : vsame (h.1 a) (.inl (t, n, .inr (.inr (.inr (.inr (va_up f i.toNatClampNeg (some v))))))) := Or.inl ⟨t, _, _, ha, rfl, ht8⟩
            have he := vWs_get (cy := cy) (g := g) (h := h) (vsame_in hI.2.2.2.2.2.1 hsm)
            rw [ha] at he
            have hci : (ci = 1 ∧ t = 5) ∨ (ci = 3 ∧ t = 6) ∨ (ci = 8 ∧ t = 7) := by
              unfold vCiT at ht
              split at ht
              · exact Or.inl ⟨by assumption, ht⟩
              · split at ht
                · exact Or.inr (Or.inl ⟨by assumption, ht⟩)
                · split at ht
                  · exact Or.inr (Or.inr ⟨by assumption, ht⟩)
                  · omega
            rcases hci with ⟨rfl, rfl⟩ | ⟨rfl, rfl⟩ | ⟨rfl, rfl⟩
            · have hw := vWs_get (cy := cy) (g := g) (h := h) ((hI.2.2.2.2.2.1 v).2 1 vs hv0 (by decide))
              rw [hv0] at hw
              exact va_astq hC.1 hC.2.1 (vht hC) hI.2.2.2.1 (vWs_D cy g h) hI.2.2.2.2.1 (a - g) 5 (v - g) 1 he (vtys_at cy (by decide)) hw rfl hin hd (fun H1 locs1 hP hD hS => kk H1 locs1 ls (hI.put hsm hP hS) hl)
            · have hw := vWs_get (cy := cy) (g := g) (h := h) ((hI.2.2.2.2.2.1 v).2 3 vs hv0 (by decide))
              rw [hv0] at hw
              exact va_astq hC.1 hC.2.1 (vht hC) hI.2.2.2.1 (vWs_D cy g h) hI.2.2.2.2.1 (a - g) 6 (v - g) 3 he (vtys_at cy (by decide)) hw rfl hin hd (fun H1 locs1 hP hD hS => kk H1 locs1 ls (hI.put hsm hP hS) hl)
            · have hw := vWs_get (cy := cy) (g := g) (h := h) ((hI.2.2.2.2.2.1 v).2 8 vs hv0 (by decide))
              rw [hv0] at hw
              exact va_astq hC.1 hC.2.1 (vht hC) hI.2.2.2.1 (vWs_D cy g h) hI.2.2.2.2.1 (a - g) 7 (v - g) 8 he (vtys_at cy (by decide)) hw rfl hin hd (fun H1 locs1 hP hD hS => kk H1 locs1 ls (hI.put hsm hP hS) hl)
          · cases hg
        · cases hg
      · cases hg
    · cases hs
  · cases hs
/-- the new cell's address is the next one -/
theorem vnext {p : Program} {l : Launch} {e : Env} {R : Room} {s : State} {mi : MethodId} {args : Array Value} {below : List Frame} {meth : Method} {c : Code} {H H1 : Heap} {locs : List Loc} {slots : Nat} {Q : State → Prop} {f : JFrame} {g : Nat} {cy : Nat → ClassId} {D : va_G} {h : VG} (hI : VI g cy D s h H locs) {q : Nat} {w : va_E} (hP : va_P D vwCl (vWs cy g h ++ [(q, w)]) H1) (hD : va_D (vA g) (vWs cy g h ++ [(q, w)])) (kk : q = h.2.1 → W p l e R s mi args below meth c H1 locs (h.2.1 - s.heap.size + 1) slots Q f) : W p l e R s mi args below meth c H1 locs (h.2.1 - s.heap.size + 1) slots Q f := by
  intro T hT X
  refine kk ?_ T hT X
  have h1 : T.heap.size ≤ s.heap.size + (h.2.1 - s.heap.size + 1) := X.same.2.2.1
  rw [hT] at h1
  have hln : (vWs cy g h).length = h.2.1 - g := by simp [vWs, va_pl, vLs]
  have hq : (vWs cy g h ++ [(q, w)])[h.2.1 - g]? = some (q, w) := by
    rw [List.getElem?_append_right (by omega), hln, Nat.sub_self]
    rfl
  have h2 : q < H1.size := (hP _ _ hq).lt
  have h3 : g ≤ q := hD.2 _ _ hq
  have h4 := hI.2.1
  have h5 := hI.1
  rcases Nat.lt_or_ge q h.2.1 with z | z
  · have h6 : (vWs cy g h ++ [(q, w)])[q - g]? = some (q, vcell cy (h.1 q)) := by
      rw [List.getElem?_append_left (by omega)]
      exact vWs_get ⟨h3, z⟩
    have h7 := hD.1 _ _ _ _ h6 hq rfl
    omega
  · omega
def vfresh (c : VE) : Prop := (∃ t x, c = .inl (t, x) ∧ t < 8) ∨ ∃ k x, c = .inr (k, x) ∧ k < 12
theorem VI.new {g : Nat} {cy : Nat → ClassId} {D : va_G} {s : State} {h : VG} {H H1 : Heap} {locs : List Loc} {d : VE} {n : Nat} (hI : VI g cy D s h H locs) (hf : vfresh d) (hP : va_P D vwCl (vWs cy g h ++ [(h.2.1, vcell cy d)]) H1) (hS : va_S (vA g) s.heap H1 locs) : VI g cy D s (hnew h d n) H1 locs := by
  rw [vWs_push hI.1] at hP
  refine ⟨Nat.le_succ_of_le hI.1, Nat.le_succ_of_le hI.2.1, hI.2.2.1, hP, hS, ?_, ?_, hI.2.2.2.2.2.2.2⟩
  · intro x
    show (∀ t y, (if x = h.2.1 then d else h.1 x) = .inl (t, y) → t < 8 → g ≤ x ∧ x < h.2.1 + 1) ∧ ∀ c fs, (if x = h.2.1 then d else h.1 x) = .inr (c, fs) → c < 12 → g ≤ x ∧ x < h.2.1 + 1
    by_cases hx : x = h.2.1
    · have := hI.1
      exact ⟨fun _ _ _ _ => by omega, fun _ _ _ _ => by omega⟩
    · rw [if_neg hx]
      exact ⟨fun t y e1 e2 => ⟨((hI.2.2.2.2.2.1 x).1 t y e1 e2).1, Nat.lt_succ_of_lt ((hI.2.2.2.2.2.1 x).1 t y e1 e2).2⟩, fun c fs e1 e2 => ⟨((hI.2.2.2.2.2.1 x).2 c fs e1 e2).1, Nat.lt_succ_of_lt ((hI.2.2.2.2.2.1 x).2 c fs e1 e2).2⟩⟩
  · intro x
    show (∀ t n f, (if x = h.2.1 then d else h.1 x) = .inl (t, n, f) → ¬ t < 8 → _) ∧ True
    by_cases hx : x = h.2.1
    · subst hx
      rw [if_pos rfl]
      rcases hf with ⟨t, u, e2, e3⟩ | ⟨k, u, e2, e3⟩
      · subst e2
        refine ⟨fun t' n f e => ?_, trivial⟩
        cases e
        intro q
        exact absurd e3 q
      · subst e2
        exact ⟨fun t' n f e => (by cases e), trivial⟩
    · rw [if_neg hx]
      exact hI.2.2.2.2.2.2.1 x
def vHas (w : Cond) : Bool := decide (w ∈ lw_tbl) && goodWord w
theorem vHas_mem {w : Cond} (h : vHas w = true) : w ∈ vW0 := by
  unfold vHas at h
  rw [Bool.and_eq_true] at h
  exact List.mem_filter.mpr ⟨of_decide_eq_true h.1, h.2⟩
theorem vCl_mk : vwCl.all (fun q => vHas (.instantiable q.1 q.2.2) && vHas (.initialized q.1)) = true := by decide +kernel
theorem vCl_ini {ci : Nat} {q : vw_C} (hc : vwCl[ci]? = some q) : Cond.instantiable q.1 q.2.2 ∈ vW0 ∧ Cond.initialized q.1 ∈ vW0 := by
  have h1 := List.all_eq_true.mp vCl_mk _ (List.mem_of_getElem? hc)
  rw [Bool.and_eq_true] at h1
  exact ⟨vHas_mem h1.1, vHas_mem h1.2⟩
theorem vNew_ok {oc idx ci p : Nat} (h : vNew oc idx = some (ci, p)) : ∃ q, vwCl[ci]? = some q ∧ Cond.classLink (vCname oc) idx q.1 ∈ vW0 := by
  have h1 := List.all_eq_true.mp vNt_ok _ (vfind h)
  unfold vNok at h1
  split at h1
  · rename_i q hq
    exact ⟨q, hq, vAt_mem h1⟩
  · cases h1
theorem vDef_at {ci : Nat} {q : vw_C} (hc : vwCl[ci]? = some q) (j : Nat) (hj : j < q.2.2) : defaultValue (vTy ci j) = vp_V (vDef ci) j := by
  unfold vp_V vDef vNsl
  rw [hc]
  dsimp only
  rw [List.getD_eq_getElem?_getD, List.getElem?_map, List.getElem?_range hj]
  rfl
theorem t_new_ {len m pc pc1 : Nat} {st st1 : List Value} {L L1 : VL} {h h1 : VG} {idx : Nat} (hv : vlen (.new idx) len = true) (hs : stp (.new idx) m pc L st h = some (pc1, L1, st1, h1)) : VT (.new idx) len m pc st L h pc1 L1 st1 h1 := by
  obtain rfl : len = 3 := by simpa [vlen] using hv
  simp only [stp] at hs
  split at hs
  · rename_i ci pl hn
    cases hs
    obtain ⟨q, hq, hcl⟩ := vNew_ok hn
    have hci : ci < 12 := (List.getElem?_eq_some_iff.mp hq).1
    have hnn : vNsl ci = q.2.2 := by unfold vNsl; rw [hq]
    refine ⟨⟨Nat.le_succ _, Nat.le_add_right _ _, rfl⟩, fun p l e R s mi args below meth c H locs ls Q g cy D k0 hd hC hI hl hk hcb hsb kk => ?_⟩
    have hcb2 : h.2.1 + 1 - s.heap.size ≤ R.cells := hcb
    have hsb2 : h.2.2.1 + vNsl ci - k0 ≤ R.slots := hsb
    have h21 := hI.2.1
    rw [hnn] at hsb2
    refine va_new (ci := ci) (fs := vDef ci) (C := q.1) (T := q.2.1) (N := q.2.2) hC.1 hC.2.1 hC.2.2.2.2.1 (vCl_in hq) (vTy ci) (vCl_ty ci q hq).1 hC.2.2.2.1 (hC.2.2.2.2.1 _ hcl) (hC.2.2.2.2.1 _ (vCl_ini hq).1) (hC.2.2.2.2.1 _ (vCl_ini hq).2) (vht hC) hI.2.2.2.1 (vWs_D cy g h) hI.2.2.2.2.1 (fun z hz => Nat.le_trans hI.2.2.1 hz) hq (vDef_at hq) (by omega) (by omega) hd (fun z H1 hP hD hS => ?_)
    refine vnext hI hP hD (fun hz => ?_)
    subst hz
    have k2 := kk H1 locs ls (hI.new (n := vNsl ci) (d := .inr (ci, vDef ci)) (Or.inr ⟨ci, _, rfl, hci⟩) hP hS) hl
    rw [show h.2.1 - s.heap.size + 1 = (hnew h (.inr (ci, vDef ci)) (vNsl ci)).2.1 - s.heap.size from (Nat.sub_add_comm h21).symm, ← hnn, show h.2.2.1 - k0 + vNsl ci = (hnew h (.inr (ci, vDef ci)) (vNsl ci)).2.2.1 - k0 from (Nat.sub_add_comm hk).symm]
    exact k2
  · cases hs
theorem vArr_ok : [FieldType.int, .long, .byte, .boolean, .double].all (fun ty => vHas (.arrayClass ty)) = true := by decide +kernel
theorem vcls_eq {D : va_G} {cy : Nat → ClassId} {s : State} {cA : ClassId} {ty : FieldType} {t : Nat} (hK : va_K D vwCl (vtys cy) s) (hK1 : va_K D vwCl (vtys cy ++ [(cA, ty)]) s) (ht : t < 8) (hty : vTag.getD t .int = ty) : cA = cy t := by
  have h1 := hK1.2 8 (cA, ty) (by rw [List.getElem?_append_right (by simp [vtys])]; simp [vtys])
  have h2 := hK.2 t _ (vtys_at cy ht)
  have h3 := h1.2
  have h4 := h2.2
  dsimp only at h3 h4
  rw [hty] at h4
  clear hty
  cases ty with
  | object C =>
    obtain ⟨_, _, _, _, _, a1⟩ := h3
    obtain ⟨_, _, _, _, _, a2⟩ := h4
    exact Option.some.inj (a1.symm.trans a2)
  | _ => exact Option.some.inj (h3.symm.trans h4)
theorem t_newarr_ {m pc : Nat} {L : VL} {h : VG} {ty : ArrayType} {fty : FieldType} {t : Nat} {n : Int32} {st0 : List Value} {f : (Nat → Int32) ⊕ (Nat → Int64) ⊕ (Nat → UInt32) ⊕ (Nat → UInt64) ⊕ (Nat → Option Nat)} (hty : newarray.typeOf ty = fty) (hb4 : componentBytes fty ≤ 8) (ht : t < 8) (htg : vTag.getD t .int = fty) (hin : fty ∈ [FieldType.int, .long, .byte, .boolean, .double]) (hf : ∀ cA N, vp_cell cA (N, f) = arrV cA N (fun _ => defaultValue fty)) (hn : ¬ n < 0) (hN : n.toNatClampNeg ≤ 4096) : VT (.newarray ty) 2 m pc (.int n :: st0) L h (pc + 2) L (.ref h.2.1 :: st0) (hnew h (.inl (t, n.toNatClampNeg, f)) n.toNatClampNeg) := by
  refine ⟨⟨Nat.le_succ _, Nat.le_add_right _ _, rfl⟩, fun p l e R s mi args below meth c H locs ls Q g cy D k0 hd hC hI hl hk hcb hsb kk => ?_⟩
  have hcb2 : h.2.1 + 1 - s.heap.size ≤ R.cells := hcb
  have hsb2 : h.2.2.1 + n.toNatClampNeg - k0 ≤ R.slots := hsb
  have h21 := hI.2.1
  have hw : Cond.arrayClass fty ∈ vW0 := vHas_mem (List.all_eq_true.mp vArr_ok _ hin)
  have hmul : n.toNatClampNeg * componentBytes fty ≤ 4096 * 8 := Nat.mul_le_mul hN hb4
  refine va_newa (ty := fty) (a0 := (n.toNatClampNeg, f)) hC.1 hC.2.1 (by rw [hty]; exact hC.2.2.2.2.1 _ hw) hty (vht hC) hI.2.2.2.1 (vWs_D cy g h) hI.2.2.2.2.1 (fun z hz => Nat.le_trans hI.2.2.1 hz) (fun cA => hf cA _) hn rfl (by omega) (by omega) (by omega) hd (fun q cA H1 hK1 hP hD hS => ?_)
  refine vnext hI hP hD (fun hz => ?_)
  subst hz
  have hcA := vcls_eq (vht hC) hK1 ht htg
  subst hcA
  have k2 := kk H1 locs ls (hI.new (n := n.toNatClampNeg) (d := .inl (t, n.toNatClampNeg, f)) (Or.inl ⟨t, _, rfl, ht⟩) hP hS) hl
  rw [show h.2.1 - s.heap.size + 1 = (hnew h (.inl (t, n.toNatClampNeg, f)) n.toNatClampNeg).2.1 - s.heap.size from (Nat.sub_add_comm h21).symm, show h.2.2.1 - k0 + n.toNatClampNeg = (hnew h (.inl (t, n.toNatClampNeg, f)) n.toNatClampNeg).2.2.1 - k0 from (Nat.sub_add_comm hk).symm]
  exact k2
theorem t_newarray_ {len m pc pc1 : Nat} {st st1 : List Value} {L L1 : VL} {h h1 : VG} {ty : ArrayType} (hv : vlen (.newarray ty) len = true) (hs : stp (.newarray ty) m pc L st h = some (pc1, L1, st1, h1)) : VT (.newarray ty) len m pc st L h pc1 L1 st1 h1 := by
  obtain rfl : len = 2 := by simpa [vlen] using hv
  simp only [stp] at hs
  split at hs
  · rename_i n st0
    split at hs
    · rename_i t f hn
      split at hs
      · rename_i hc
        cases hs
        cases ty <;> cases hn
        · exact t_newarr_ rfl (by decide) (by decide) rfl (by decide) (fun _ _ => rfl) hc.1 hc.2
        · exact t_newarr_ rfl (by decide) (by decide) rfl (by decide) (fun _ _ => rfl) hc.1 hc.2
        · exact t_newarr_ rfl (by decide) (by decide) rfl (by decide) (fun _ _ => rfl) hc.1 hc.2
        · exact t_newarr_ rfl (by decide) (by decide) rfl (by decide) (fun _ _ => rfl) hc.1 hc.2
        · exact t_newarr_ rfl (by decide) (by decide) rfl (by decide) (fun _ _ => rfl) hc.1 hc.2
      · cases hs
    · cases hs
  · cases hs
theorem t_anewarray_ {len m pc pc1 : Nat} {st st1 : List Value} {L L1 : VL} {h h1 : VG} {idx : Nat} (hv : vlen (.anewarray idx) len = true) (hs : stp (.anewarray idx) m pc L st h = some (pc1, L1, st1, h1)) : VT (.anewarray idx) len m pc st L h pc1 L1 st1 h1 := by
  obtain rfl : len = 3 := by simpa [vlen] using hv
  simp only [stp] at hs
  split at hs
  · rename_i n st0
    split at hs
    · rename_i ci pl hn
      split at hs
      · rename_i hc
        cases hs
        obtain ⟨hn0, hN, ht8⟩ := hc
        obtain ⟨q, hq, hcl⟩ := vNew_ok hn
        refine ⟨⟨Nat.le_succ _, Nat.le_add_right _ _, rfl⟩, fun p l e R s mi args below meth c H locs ls Q g cy D k0 hd hC hI hl hk hcb hsb kk => ?_⟩
        have hcb2 : h.2.1 + 1 - s.heap.size ≤ R.cells := hcb
        have hsb2 : h.2.2.1 + n.toNatClampNeg - k0 ≤ R.slots := hsb
        have h21 := hI.2.1
        have hov := hC.2.2.2.2.2.2.2.2.2.2
        have hoq : va_AO q.1 s ∧ vTag.getD (vCiT ci) .int = .object q.1 := by
          unfold vCiT at ht8 ⊢
          split at ht8
          · rename_i hc1
            subst hc1
            cases hq
            exact ⟨hov.1, rfl⟩
          · split at ht8
            · rename_i hc0 hc1
              subst hc1
              cases hq
              exact ⟨hov.2.1, rfl⟩
            · split at ht8
              · rename_i hc2 hc0 hc1
                subst hc1
                cases hq
                exact ⟨hov.2.2, rfl⟩
              · omega
        refine va_newq hC.1 hC.2.1 hC.2.2.2.1 (hC.2.2.2.2.1 _ hcl) hoq.1 (vht hC) hI.2.2.2.1 (vWs_D cy g h) hI.2.2.2.2.1 (fun z hz => Nat.le_trans hI.2.2.1 hz) hn0 rfl (by omega) (by omega) (by omega) hd (fun q' cA H1 hK1 hP hD hS => ?_)
        refine vnext hI hP hD (fun hz => ?_)
        subst hz
        have hcA := vcls_eq (vht hC) hK1 ht8 hoq.2
        subst hcA
        have k2 := kk H1 locs ls (hI.new (n := n.toNatClampNeg) (d := .inl (vCiT ci, n.toNatClampNeg, .inr (.inr (.inr (.inr (fun _ => none)))))) (Or.inl ⟨_, _, rfl, ht8⟩) hP hS) hl
        rw [show h.2.1 - s.heap.size + 1 = (hnew h (.inl (vCiT ci, n.toNatClampNeg, .inr (.inr (.inr (.inr (fun _ => none)))))) n.toNatClampNeg).2.1 - s.heap.size from (Nat.sub_add_comm h21).symm, show h.2.2.1 - k0 + n.toNatClampNeg = (hnew h (.inl (vCiT ci, n.toNatClampNeg, .inr (.inr (.inr (.inr (fun _ => none)))))) n.toNatClampNeg).2.2.1 - k0 from (Nat.sub_add_comm hk).symm]
        exact k2
      · cases hs
    · cases hs
  · cases hs
