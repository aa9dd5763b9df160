/-! the algebra of heaps: what is read behind what was written -/
theorem hset_1 (h : VG) (a b : Nat) (c : VE) : (hset h a c).1 b = if b = a then c else h.1 b := rfl
theorem hset_2 (h : VG) (a : Nat) (c : VE) : (hset h a c).2 = h.2 := rfl
abbrev isI (h : VG) (a k : Nat) : Prop := vtag (gV h a k) = 0
abbrev isL (h : VG) (a k : Nat) : Prop := vtag (gV h a k) = 1
abbrev isD (h : VG) (a k : Nat) : Prop := vtag (gV h a k) = 2
theorem vset_at (fs : List Value) (k j : Nat) (v : Value) (h4 : vtag v ≠ 3) : (vset fs k v).getD j .null = if j = k ∧ vtag (fs.getD k .null) = vtag v then v else fs.getD j .null := by
  unfold vset
  by_cases hk : k < fs.length
  · have e1 : fs[k]? = some fs[k] := List.getElem?_eq_getElem hk
    have e2 : fs.getD k .null = fs[k] := by rw [List.getD_eq_getElem?_getD, e1]; rfl
    rw [e1, e2]
    show (if some (vtag fs[k]) = some (vtag v) then fs.set k v else fs).getD j .null = _
    by_cases ht : vtag fs[k] = vtag v
    · rw [if_pos (by rw [ht]), List.getD_eq_getElem?_getD, List.getElem?_set]
      by_cases hj : j = k
      · subst hj
        rw [if_pos rfl, if_pos hk, if_pos ⟨rfl, ht⟩]
        rfl
      · rw [if_neg (fun z => hj z.symm), if_neg (fun z => hj z.1), ← List.getD_eq_getElem?_getD]
    · rw [if_neg (fun z => ht (Option.some.inj z)), if_neg (fun z => ht z.2)]
  · have e1 : fs[k]? = none := List.getElem?_eq_none (by omega)
    rw [e1, if_neg (by intro z; cases z)]
    rw [if_neg]
    intro z
    rw [List.getD_eq_getElem?_getD, e1] at z
    exact h4 z.2.symm
theorem vset_map (fs : List Value) (k : Nat) (v : Value) : (vset fs k v).map vtag = fs.map vtag := by
  unfold vset
  split
  · rename_i hc
    apply List.ext_getElem?
    intro i
    rw [List.getElem?_map, List.getElem?_set, List.getElem?_map]
    by_cases hi : k = i
    · subst hi
      rw [if_pos rfl]
      cases hv : fs[k]? with
      | none => rw [hv] at hc; cases hc
      | some w =>
        rw [hv] at hc
        rw [if_pos (List.getElem?_eq_some_iff.mp hv).1]
        exact hc.symm
    · rw [if_neg hi]
  · rfl
theorem gV_pV (h : VG) (a k : Nat) (v : Value) (b j : Nat) (h4 : vtag v ≠ 3) : gV (pV h a k v) b j = if b = a ∧ j = k ∧ vtag (gV h a k) = vtag v then v else gV h b j := by
  unfold gV pV
  rw [hset_1]
  by_cases hb : b = a
  · subst hb
    rw [if_pos rfl]
    cases hc : h.1 b with
    | inr o =>
      dsimp only
      rw [vset_at _ _ _ _ h4]
      by_cases hj : j = k ∧ vtag (o.2.getD k .null) = vtag v
      · rw [if_pos hj, if_pos ⟨rfl, hj⟩]
      · rw [if_neg hj, if_neg (fun z => hj z.2)]
    | inl x =>
      dsimp only
      rw [if_neg]
      intro z
      exact h4 z.2.2.symm
  · rw [if_neg hb, if_neg (fun z => hb z.1)]
theorem ob_pV (h : VG) (a k : Nat) (v : Value) (b c : Nat) : ob (pV h a k v) b c ↔ ob h b c := by
  unfold ob pV
  rw [hset_1]
  by_cases hb : b = a
  · subst hb
    rw [if_pos rfl]
    cases hc : h.1 b with
    | inr o =>
      dsimp only
      constructor
      · rintro ⟨fs, e1, e2⟩
        obtain ⟨o1, o2⟩ := o
        cases e1
        exact ⟨o2, rfl, by rw [← e2, vset_map]⟩
      · rintro ⟨fs, e1, e2⟩
        obtain ⟨o1, o2⟩ := o
        cases e1
        exact ⟨_, rfl, by rw [vset_map]; exact e2⟩
    | inl x => exact Iff.rfl
  · rw [if_neg hb]
theorem ob_pI (h : VG) (a k : Nat) (x : Int32) (b c : Nat) : ob (pI h a k x) b c ↔ ob h b c := ob_pV h a k _ b c
theorem gI_pI (h : VG) (a k : Nat) (x : Int32) (b j : Nat) : gI (pI h a k x) b j = if b = a ∧ j = k ∧ isI h a k then x else gI h b j := by
  unfold gI pI
  rw [gV_pV _ _ _ _ _ _ (by show (0 : Nat) ≠ 3; decide)]
  show (match (if b = a ∧ j = k ∧ vtag (gV h a k) = 0 then Value.int x else gV h b j) with | .int y => y | _ => 0) = if b = a ∧ j = k ∧ vtag (gV h a k) = 0 then x else _
  by_cases hc : b = a ∧ j = k ∧ vtag (gV h a k) = 0
  · rw [if_pos hc, if_pos hc]
  · rw [if_neg hc, if_neg hc]
    rfl
theorem gL_pI (h : VG) (a k : Nat) (x : Int32) (b j : Nat) : gL (pI h a k x) b j = gL h b j := by
  unfold gL pI
  rw [gV_pV _ _ _ _ _ _ (by show (0 : Nat) ≠ 3; decide)]
  by_cases hc : b = a ∧ j = k ∧ vtag (gV h a k) = vtag (.int x)
  · rw [if_pos hc]
    obtain ⟨rfl, rfl, h3⟩ := hc
    have h4 : vtag (gV h b j) = 0 := h3
    cases hv : gV h b j <;> rw [hv] at h4 <;> first | rfl | (cases h4)
  · rw [if_neg hc]
theorem gD_pI (h : VG) (a k : Nat) (x : Int32) (b j : Nat) : gD (pI h a k x) b j = gD h b j := by
  unfold gD pI
  rw [gV_pV _ _ _ _ _ _ (by show (0 : Nat) ≠ 3; decide)]
  by_cases hc : b = a ∧ j = k ∧ vtag (gV h a k) = vtag (.int x)
  · rw [if_pos hc]
    obtain ⟨rfl, rfl, h3⟩ := hc
    have h4 : vtag (gV h b j) = 0 := h3
    cases hv : gV h b j <;> rw [hv] at h4 <;> first | rfl | (cases h4)
  · rw [if_neg hc]
theorem gR_pI (h : VG) (a k : Nat) (x : Int32) (b j : Nat) : gR (pI h a k x) b j = gR h b j := by
  unfold gR pI
  rw [gV_pV _ _ _ _ _ _ (by show (0 : Nat) ≠ 3; decide)]
  by_cases hc : b = a ∧ j = k ∧ vtag (gV h a k) = vtag (.int x)
  · rw [if_pos hc]
    obtain ⟨rfl, rfl, h3⟩ := hc
    have h4 : vtag (gV h b j) = 0 := h3
    cases hv : gV h b j <;> rw [hv] at h4 <;> first | rfl | (cases h4)
  · rw [if_neg hc]
theorem isI_pI (h : VG) (a k : Nat) (x : Int32) (b j : Nat) : isI (pI h a k x) b j ↔ isI h b j := by
  unfold isI pI
  rw [gV_pV _ _ _ _ _ _ (by show (0 : Nat) ≠ 3; decide)]
  by_cases hc : b = a ∧ j = k ∧ vtag (gV h a k) = vtag (.int x)
  · rw [if_pos hc]
    obtain ⟨rfl, rfl, h3⟩ := hc
    rw [h3]
  · rw [if_neg hc]
theorem isL_pI (h : VG) (a k : Nat) (x : Int32) (b j : Nat) : isL (pI h a k x) b j ↔ isL h b j := by
  unfold isL pI
  rw [gV_pV _ _ _ _ _ _ (by show (0 : Nat) ≠ 3; decide)]
  by_cases hc : b = a ∧ j = k ∧ vtag (gV h a k) = vtag (.int x)
  · rw [if_pos hc]
    obtain ⟨rfl, rfl, h3⟩ := hc
    rw [h3]
  · rw [if_neg hc]
theorem isD_pI (h : VG) (a k : Nat) (x : Int32) (b j : Nat) : isD (pI h a k x) b j ↔ isD h b j := by
  unfold isD pI
  rw [gV_pV _ _ _ _ _ _ (by show (0 : Nat) ≠ 3; decide)]
  by_cases hc : b = a ∧ j = k ∧ vtag (gV h a k) = vtag (.int x)
  · rw [if_pos hc]
    obtain ⟨rfl, rfl, h3⟩ := hc
    rw [h3]
  · rw [if_neg hc]
theorem ob_pL (h : VG) (a k : Nat) (x : Int64) (b c : Nat) : ob (pL h a k x) b c ↔ ob h b c := ob_pV h a k _ b c
theorem gI_pL (h : VG) (a k : Nat) (x : Int64) (b j : Nat) : gI (pL h a k x) b j = gI h b j := by
  unfold gI pL
  rw [gV_pV _ _ _ _ _ _ (by show (1 : Nat) ≠ 3; decide)]
  by_cases hc : b = a ∧ j = k ∧ vtag (gV h a k) = vtag (.long x)
  · rw [if_pos hc]
    obtain ⟨rfl, rfl, h3⟩ := hc
    have h4 : vtag (gV h b j) = 1 := h3
    cases hv : gV h b j <;> rw [hv] at h4 <;> first | rfl | (cases h4)
  · rw [if_neg hc]
theorem gL_pL (h : VG) (a k : Nat) (x : Int64) (b j : Nat) : gL (pL h a k x) b j = if b = a ∧ j = k ∧ isL h a k then x else gL h b j := by
  unfold gL pL
  rw [gV_pV _ _ _ _ _ _ (by show (1 : Nat) ≠ 3; decide)]
  show (match (if b = a ∧ j = k ∧ vtag (gV h a k) = 1 then Value.long x else gV h b j) with | .long y => y | _ => 0) = if b = a ∧ j = k ∧ vtag (gV h a k) = 1 then x else _
  by_cases hc : b = a ∧ j = k ∧ vtag (gV h a k) = 1
  · rw [if_pos hc, if_pos hc]
  · rw [if_neg hc, if_neg hc]
    rfl
theorem gD_pL (h : VG) (a k : Nat) (x : Int64) (b j : Nat) : gD (pL h a k x) b j = gD h b j := by
  unfold gD pL
  rw [gV_pV _ _ _ _ _ _ (by show (1 : Nat) ≠ 3; decide)]
  by_cases hc : b = a ∧ j = k ∧ vtag (gV h a k) = vtag (.long x)
  · rw [if_pos hc]
    obtain ⟨rfl, rfl, h3⟩ := hc
    have h4 : vtag (gV h b j) = 1 := h3
    cases hv : gV h b j <;> rw [hv] at h4 <;> first | rfl | (cases h4)
  · rw [if_neg hc]
theorem gR_pL (h : VG) (a k : Nat) (x : Int64) (b j : Nat) : gR (pL h a k x) b j = gR h b j := by
  unfold gR pL
  rw [gV_pV _ _ _ _ _ _ (by show (1 : Nat) ≠ 3; decide)]
  by_cases hc : b = a ∧ j = k ∧ vtag (gV h a k) = vtag (.long x)
  · rw [if_pos hc]
    obtain ⟨rfl, rfl, h3⟩ := hc
    have h4 : vtag (gV h b j) = 1 := h3
    cases hv : gV h b j <;> rw [hv] at h4 <;> first | rfl | (cases h4)
  · rw [if_neg hc]
theorem isI_pL (h : VG) (a k : Nat) (x : Int64) (b j : Nat) : isI (pL h a k x) b j ↔ isI h b j := by
  unfold isI pL
  rw [gV_pV _ _ _ _ _ _ (by show (1 : Nat) ≠ 3; decide)]
  by_cases hc : b = a ∧ j = k ∧ vtag (gV h a k) = vtag (.long x)
  · rw [if_pos hc]
    obtain ⟨rfl, rfl, h3⟩ := hc
    rw [h3]
  · rw [if_neg hc]
theorem isL_pL (h : VG) (a k : Nat) (x : Int64) (b j : Nat) : isL (pL h a k x) b j ↔ isL h b j := by
  unfold isL pL
  rw [gV_pV _ _ _ _ _ _ (by show (1 : Nat) ≠ 3; decide)]
  by_cases hc : b = a ∧ j = k ∧ vtag (gV h a k) = vtag (.long x)
  · rw [if_pos hc]
    obtain ⟨rfl, rfl, h3⟩ := hc
    rw [h3]
  · rw [if_neg hc]
theorem isD_pL (h : VG) (a k : Nat) (x : Int64) (b j : Nat) : isD (pL h a k x) b j ↔ isD h b j := by
  unfold isD pL
  rw [gV_pV _ _ _ _ _ _ (by show (1 : Nat) ≠ 3; decide)]
  by_cases hc : b = a ∧ j = k ∧ vtag (gV h a k) = vtag (.long x)
  · rw [if_pos hc]
    obtain ⟨rfl, rfl, h3⟩ := hc
    rw [h3]
  · rw [if_neg hc]
theorem ob_pD (h : VG) (a k : Nat) (x : UInt64) (b c : Nat) : ob (pD h a k x) b c ↔ ob h b c := ob_pV h a k _ b c
theorem gI_pD (h : VG) (a k : Nat) (x : UInt64) (b j : Nat) : gI (pD h a k x) b j = gI h b j := by
  unfold gI pD
  rw [gV_pV _ _ _ _ _ _ (by show (2 : Nat) ≠ 3; decide)]
  by_cases hc : b = a ∧ j = k ∧ vtag (gV h a k) = vtag (.double x)
  · rw [if_pos hc]
    obtain ⟨rfl, rfl, h3⟩ := hc
    have h4 : vtag (gV h b j) = 2 := h3
    cases hv : gV h b j <;> rw [hv] at h4 <;> first | rfl | (cases h4)
  · rw [if_neg hc]
theorem gL_pD (h : VG) (a k : Nat) (x : UInt64) (b j : Nat) : gL (pD h a k x) b j = gL h b j := by
  unfold gL pD
  rw [gV_pV _ _ _ _ _ _ (by show (2 : Nat) ≠ 3; decide)]
  by_cases hc : b = a ∧ j = k ∧ vtag (gV h a k) = vtag (.double x)
  · rw [if_pos hc]
    obtain ⟨rfl, rfl, h3⟩ := hc
    have h4 : vtag (gV h b j) = 2 := h3
    cases hv : gV h b j <;> rw [hv] at h4 <;> first | rfl | (cases h4)
  · rw [if_neg hc]
theorem gD_pD (h : VG) (a k : Nat) (x : UInt64) (b j : Nat) : gD (pD h a k x) b j = if b = a ∧ j = k ∧ isD h a k then x else gD h b j := by
  unfold gD pD
  rw [gV_pV _ _ _ _ _ _ (by show (2 : Nat) ≠ 3; decide)]
  show (match (if b = a ∧ j = k ∧ vtag (gV h a k) = 2 then Value.double x else gV h b j) with | .double y => y | _ => 0) = if b = a ∧ j = k ∧ vtag (gV h a k) = 2 then x else _
  by_cases hc : b = a ∧ j = k ∧ vtag (gV h a k) = 2
  · rw [if_pos hc, if_pos hc]
  · rw [if_neg hc, if_neg hc]
    rfl
theorem gR_pD (h : VG) (a k : Nat) (x : UInt64) (b j : Nat) : gR (pD h a k x) b j = gR h b j := by
  unfold gR pD
  rw [gV_pV _ _ _ _ _ _ (by show (2 : Nat) ≠ 3; decide)]
  by_cases hc : b = a ∧ j = k ∧ vtag (gV h a k) = vtag (.double x)
  · rw [if_pos hc]
    obtain ⟨rfl, rfl, h3⟩ := hc
    have h4 : vtag (gV h b j) = 2 := h3
    cases hv : gV h b j <;> rw [hv] at h4 <;> first | rfl | (cases h4)
  · rw [if_neg hc]
theorem isI_pD (h : VG) (a k : Nat) (x : UInt64) (b j : Nat) : isI (pD h a k x) b j ↔ isI h b j := by
  unfold isI pD
  rw [gV_pV _ _ _ _ _ _ (by show (2 : Nat) ≠ 3; decide)]
  by_cases hc : b = a ∧ j = k ∧ vtag (gV h a k) = vtag (.double x)
  · rw [if_pos hc]
    obtain ⟨rfl, rfl, h3⟩ := hc
    rw [h3]
  · rw [if_neg hc]
theorem isL_pD (h : VG) (a k : Nat) (x : UInt64) (b j : Nat) : isL (pD h a k x) b j ↔ isL h b j := by
  unfold isL pD
  rw [gV_pV _ _ _ _ _ _ (by show (2 : Nat) ≠ 3; decide)]
  by_cases hc : b = a ∧ j = k ∧ vtag (gV h a k) = vtag (.double x)
  · rw [if_pos hc]
    obtain ⟨rfl, rfl, h3⟩ := hc
    rw [h3]
  · rw [if_neg hc]
theorem isD_pD (h : VG) (a k : Nat) (x : UInt64) (b j : Nat) : isD (pD h a k x) b j ↔ isD h b j := by
  unfold isD pD
  rw [gV_pV _ _ _ _ _ _ (by show (2 : Nat) ≠ 3; decide)]
  by_cases hc : b = a ∧ j = k ∧ vtag (gV h a k) = vtag (.double x)
  · rw [if_pos hc]
    obtain ⟨rfl, rfl, h3⟩ := hc
    rw [h3]
  · rw [if_neg hc]
theorem aln_pI (h : VG) (a k : Nat) (x : Int32) (b : Nat) : aln (pI h a k x) b = aln h b := by
  unfold aln pI pV
  rw [hset_1]
  by_cases hb : b = a
  · subst hb
    rw [if_pos rfl]
    cases h.1 b <;> rfl
  · rw [if_neg hb]
theorem aI_pI (h : VG) (a k : Nat) (x : Int32) (b i : Nat) : aI (pI h a k x) b i = aI h b i := by
  unfold aI pI pV
  rw [hset_1]
  by_cases hb : b = a
  · subst hb
    rw [if_pos rfl]
    cases h.1 b <;> rfl
  · rw [if_neg hb]
theorem arI_pI (h : VG) (a k : Nat) (x : Int32) (b : Nat) (t : Nat) : arI (pI h a k x) b t ↔ arI h b t := by
  unfold arI pI pV
  rw [hset_1]
  by_cases hb : b = a
  · subst hb
    rw [if_pos rfl]
    cases h.1 b with
    | inl y => exact Iff.rfl
    | inr y => exact ⟨fun ⟨_, _, z⟩ => (by cases z), fun ⟨_, _, z⟩ => (by cases z)⟩
  · rw [if_neg hb]
theorem aL_pI (h : VG) (a k : Nat) (x : Int32) (b i : Nat) : aL (pI h a k x) b i = aL h b i := by
  unfold aL pI pV
  rw [hset_1]
  by_cases hb : b = a
  · subst hb
    rw [if_pos rfl]
    cases h.1 b <;> rfl
  · rw [if_neg hb]
theorem arL_pI (h : VG) (a k : Nat) (x : Int32) (b : Nat) : arL (pI h a k x) b ↔ arL h b := by
  unfold arL pI pV
  rw [hset_1]
  by_cases hb : b = a
  · subst hb
    rw [if_pos rfl]
    cases h.1 b with
    | inl y => exact Iff.rfl
    | inr y => exact ⟨fun ⟨_, _, z⟩ => (by cases z), fun ⟨_, _, z⟩ => (by cases z)⟩
  · rw [if_neg hb]
theorem aD_pI (h : VG) (a k : Nat) (x : Int32) (b i : Nat) : aD (pI h a k x) b i = aD h b i := by
  unfold aD pI pV
  rw [hset_1]
  by_cases hb : b = a
  · subst hb
    rw [if_pos rfl]
    cases h.1 b <;> rfl
  · rw [if_neg hb]
theorem arD_pI (h : VG) (a k : Nat) (x : Int32) (b : Nat) : arD (pI h a k x) b ↔ arD h b := by
  unfold arD pI pV
  rw [hset_1]
  by_cases hb : b = a
  · subst hb
    rw [if_pos rfl]
    cases h.1 b with
    | inl y => exact Iff.rfl
    | inr y => exact ⟨fun ⟨_, _, z⟩ => (by cases z), fun ⟨_, _, z⟩ => (by cases z)⟩
  · rw [if_neg hb]
theorem aR_pI (h : VG) (a k : Nat) (x : Int32) (b i : Nat) : aR (pI h a k x) b i = aR h b i := by
  unfold aR pI pV
  rw [hset_1]
  by_cases hb : b = a
  · subst hb
    rw [if_pos rfl]
    cases h.1 b <;> rfl
  · rw [if_neg hb]
theorem arR_pI (h : VG) (a k : Nat) (x : Int32) (b : Nat) (t : Nat) : arR (pI h a k x) b t ↔ arR h b t := by
  unfold arR pI pV
  rw [hset_1]
  by_cases hb : b = a
  · subst hb
    rw [if_pos rfl]
    cases h.1 b with
    | inl y => exact Iff.rfl
    | inr y => exact ⟨fun ⟨_, _, z⟩ => (by cases z), fun ⟨_, _, z⟩ => (by cases z)⟩
  · rw [if_neg hb]
theorem aln_pL (h : VG) (a k : Nat) (x : Int64) (b : Nat) : aln (pL h a k x) b = aln h b := by
  unfold aln pL pV
  rw [hset_1]
  by_cases hb : b = a
  · subst hb
    rw [if_pos rfl]
    cases h.1 b <;> rfl
  · rw [if_neg hb]
theorem aI_pL (h : VG) (a k : Nat) (x : Int64) (b i : Nat) : aI (pL h a k x) b i = aI h b i := by
  unfold aI pL pV
  rw [hset_1]
  by_cases hb : b = a
  · subst hb
    rw [if_pos rfl]
    cases h.1 b <;> rfl
  · rw [if_neg hb]
theorem arI_pL (h : VG) (a k : Nat) (x : Int64) (b : Nat) (t : Nat) : arI (pL h a k x) b t ↔ arI h b t := by
  unfold arI pL pV
  rw [hset_1]
  by_cases hb : b = a
  · subst hb
    rw [if_pos rfl]
    cases h.1 b with
    | inl y => exact Iff.rfl
    | inr y => exact ⟨fun ⟨_, _, z⟩ => (by cases z), fun ⟨_, _, z⟩ => (by cases z)⟩
  · rw [if_neg hb]
theorem aL_pL (h : VG) (a k : Nat) (x : Int64) (b i : Nat) : aL (pL h a k x) b i = aL h b i := by
  unfold aL pL pV
  rw [hset_1]
  by_cases hb : b = a
  · subst hb
    rw [if_pos rfl]
    cases h.1 b <;> rfl
  · rw [if_neg hb]
theorem arL_pL (h : VG) (a k : Nat) (x : Int64) (b : Nat) : arL (pL h a k x) b ↔ arL h b := by
  unfold arL pL pV
  rw [hset_1]
  by_cases hb : b = a
  · subst hb
    rw [if_pos rfl]
    cases h.1 b with
    | inl y => exact Iff.rfl
    | inr y => exact ⟨fun ⟨_, _, z⟩ => (by cases z), fun ⟨_, _, z⟩ => (by cases z)⟩
  · rw [if_neg hb]
theorem aD_pL (h : VG) (a k : Nat) (x : Int64) (b i : Nat) : aD (pL h a k x) b i = aD h b i := by
  unfold aD pL pV
  rw [hset_1]
  by_cases hb : b = a
  · subst hb
    rw [if_pos rfl]
    cases h.1 b <;> rfl
  · rw [if_neg hb]
theorem arD_pL (h : VG) (a k : Nat) (x : Int64) (b : Nat) : arD (pL h a k x) b ↔ arD h b := by
  unfold arD pL pV
  rw [hset_1]
  by_cases hb : b = a
  · subst hb
    rw [if_pos rfl]
    cases h.1 b with
    | inl y => exact Iff.rfl
    | inr y => exact ⟨fun ⟨_, _, z⟩ => (by cases z), fun ⟨_, _, z⟩ => (by cases z)⟩
  · rw [if_neg hb]
theorem aR_pL (h : VG) (a k : Nat) (x : Int64) (b i : Nat) : aR (pL h a k x) b i = aR h b i := by
  unfold aR pL pV
  rw [hset_1]
  by_cases hb : b = a
  · subst hb
    rw [if_pos rfl]
    cases h.1 b <;> rfl
  · rw [if_neg hb]
theorem arR_pL (h : VG) (a k : Nat) (x : Int64) (b : Nat) (t : Nat) : arR (pL h a k x) b t ↔ arR h b t := by
  unfold arR pL pV
  rw [hset_1]
  by_cases hb : b = a
  · subst hb
    rw [if_pos rfl]
    cases h.1 b with
    | inl y => exact Iff.rfl
    | inr y => exact ⟨fun ⟨_, _, z⟩ => (by cases z), fun ⟨_, _, z⟩ => (by cases z)⟩
  · rw [if_neg hb]
theorem aln_pD (h : VG) (a k : Nat) (x : UInt64) (b : Nat) : aln (pD h a k x) b = aln h b := by
  unfold aln pD pV
  rw [hset_1]
  by_cases hb : b = a
  · subst hb
    rw [if_pos rfl]
    cases h.1 b <;> rfl
  · rw [if_neg hb]
theorem aI_pD (h : VG) (a k : Nat) (x : UInt64) (b i : Nat) : aI (pD h a k x) b i = aI h b i := by
  unfold aI pD pV
  rw [hset_1]
  by_cases hb : b = a
  · subst hb
    rw [if_pos rfl]
    cases h.1 b <;> rfl
  · rw [if_neg hb]
theorem arI_pD (h : VG) (a k : Nat) (x : UInt64) (b : Nat) (t : Nat) : arI (pD h a k x) b t ↔ arI h b t := by
  unfold arI pD pV
  rw [hset_1]
  by_cases hb : b = a
  · subst hb
    rw [if_pos rfl]
    cases h.1 b with
    | inl y => exact Iff.rfl
    | inr y => exact ⟨fun ⟨_, _, z⟩ => (by cases z), fun ⟨_, _, z⟩ => (by cases z)⟩
  · rw [if_neg hb]
theorem aL_pD (h : VG) (a k : Nat) (x : UInt64) (b i : Nat) : aL (pD h a k x) b i = aL h b i := by
  unfold aL pD pV
  rw [hset_1]
  by_cases hb : b = a
  · subst hb
    rw [if_pos rfl]
    cases h.1 b <;> rfl
  · rw [if_neg hb]
theorem arL_pD (h : VG) (a k : Nat) (x : UInt64) (b : Nat) : arL (pD h a k x) b ↔ arL h b := by
  unfold arL pD pV
  rw [hset_1]
  by_cases hb : b = a
  · subst hb
    rw [if_pos rfl]
    cases h.1 b with
    | inl y => exact Iff.rfl
    | inr y => exact ⟨fun ⟨_, _, z⟩ => (by cases z), fun ⟨_, _, z⟩ => (by cases z)⟩
  · rw [if_neg hb]
theorem aD_pD (h : VG) (a k : Nat) (x : UInt64) (b i : Nat) : aD (pD h a k x) b i = aD h b i := by
  unfold aD pD pV
  rw [hset_1]
  by_cases hb : b = a
  · subst hb
    rw [if_pos rfl]
    cases h.1 b <;> rfl
  · rw [if_neg hb]
theorem arD_pD (h : VG) (a k : Nat) (x : UInt64) (b : Nat) : arD (pD h a k x) b ↔ arD h b := by
  unfold arD pD pV
  rw [hset_1]
  by_cases hb : b = a
  · subst hb
    rw [if_pos rfl]
    cases h.1 b with
    | inl y => exact Iff.rfl
    | inr y => exact ⟨fun ⟨_, _, z⟩ => (by cases z), fun ⟨_, _, z⟩ => (by cases z)⟩
  · rw [if_neg hb]
theorem aR_pD (h : VG) (a k : Nat) (x : UInt64) (b i : Nat) : aR (pD h a k x) b i = aR h b i := by
  unfold aR pD pV
  rw [hset_1]
  by_cases hb : b = a
  · subst hb
    rw [if_pos rfl]
    cases h.1 b <;> rfl
  · rw [if_neg hb]
theorem arR_pD (h : VG) (a k : Nat) (x : UInt64) (b : Nat) (t : Nat) : arR (pD h a k x) b t ↔ arR h b t := by
  unfold arR pD pV
  rw [hset_1]
  by_cases hb : b = a
  · subst hb
    rw [if_pos rfl]
    cases h.1 b with
    | inl y => exact Iff.rfl
    | inr y => exact ⟨fun ⟨_, _, z⟩ => (by cases z), fun ⟨_, _, z⟩ => (by cases z)⟩
  · rw [if_neg hb]
theorem gV_wI (h : VG) (a i : Nat) (x : Int32) (b j : Nat) : gV (wI h a i x) b j = gV h b j := by
  unfold gV wI
  rw [hset_1]
  by_cases hb : b = a
  · subst hb
    rw [if_pos rfl]
    cases hc : h.1 b with
    | inr y => rfl
    | inl y =>
      obtain ⟨t, n, r⟩ := y
      rcases r with f | f | f | f | f <;> rfl
  · rw [if_neg hb]
theorem gI_wI (h : VG) (a i : Nat) (x : Int32) (b j : Nat) : gI (wI h a i x) b j = gI h b j := by unfold gI; rw [gV_wI]
theorem gL_wI (h : VG) (a i : Nat) (x : Int32) (b j : Nat) : gL (wI h a i x) b j = gL h b j := by unfold gL; rw [gV_wI]
theorem gD_wI (h : VG) (a i : Nat) (x : Int32) (b j : Nat) : gD (wI h a i x) b j = gD h b j := by unfold gD; rw [gV_wI]
theorem gR_wI (h : VG) (a i : Nat) (x : Int32) (b j : Nat) : gR (wI h a i x) b j = gR h b j := by unfold gR; rw [gV_wI]
theorem isI_wI (h : VG) (a i : Nat) (x : Int32) (b j : Nat) : isI (wI h a i x) b j ↔ isI h b j := by unfold isI; rw [gV_wI]
theorem isL_wI (h : VG) (a i : Nat) (x : Int32) (b j : Nat) : isL (wI h a i x) b j ↔ isL h b j := by unfold isL; rw [gV_wI]
theorem isD_wI (h : VG) (a i : Nat) (x : Int32) (b j : Nat) : isD (wI h a i x) b j ↔ isD h b j := by unfold isD; rw [gV_wI]
theorem ob_wI (h : VG) (a i : Nat) (x : Int32) (b c : Nat) : ob (wI h a i x) b c ↔ ob h b c := by
  unfold ob wI
  rw [hset_1]
  by_cases hb : b = a
  · subst hb
    rw [if_pos rfl]
    cases hc : h.1 b with
    | inr y => exact Iff.rfl
    | inl y =>
      obtain ⟨t, n, r⟩ := y
      rcases r with f | f | f | f | f <;> exact ⟨fun ⟨_, z, _⟩ => (by cases z), fun ⟨_, z, _⟩ => (by cases z)⟩
  · rw [if_neg hb]
theorem aln_wI (h : VG) (a i : Nat) (x : Int32) (b : Nat) : aln (wI h a i x) b = aln h b := by
  unfold aln wI
  rw [hset_1]
  by_cases hb : b = a
  · subst hb
    rw [if_pos rfl]
    cases hc : h.1 b with
    | inr y => rfl
    | inl y =>
      obtain ⟨t, n, r⟩ := y
      rcases r with f | f | f | f | f <;> rfl
  · rw [if_neg hb]
theorem arI_wI (h : VG) (a i : Nat) (x : Int32) (b : Nat) (t : Nat) : arI (wI h a i x) b t ↔ arI h b t := by
  unfold arI wI
  rw [hset_1]
  by_cases hb : b = a
  · subst hb
    rw [if_pos rfl]
    cases hc : h.1 b with
    | inr y => exact Iff.rfl
    | inl y =>
      obtain ⟨t0, n, r⟩ := y
      rcases r with f | f | f | f | f <;> first | exact Iff.rfl | exact ⟨fun ⟨n, g, z⟩ => (by cases z; exact ⟨_, _, rfl⟩), fun ⟨n, g, z⟩ => (by cases z; exact ⟨_, _, rfl⟩)⟩ | exact ⟨fun ⟨_, _, z⟩ => (by cases z), fun ⟨_, _, z⟩ => (by cases z)⟩
  · rw [if_neg hb]
theorem arL_wI (h : VG) (a i : Nat) (x : Int32) (b : Nat) : arL (wI h a i x) b ↔ arL h b := by
  unfold arL wI
  rw [hset_1]
  by_cases hb : b = a
  · subst hb
    rw [if_pos rfl]
    cases hc : h.1 b with
    | inr y => exact Iff.rfl
    | inl y =>
      obtain ⟨t0, n, r⟩ := y
      rcases r with f | f | f | f | f <;> first | exact Iff.rfl | exact ⟨fun ⟨n, g, z⟩ => (by cases z; exact ⟨_, _, rfl⟩), fun ⟨n, g, z⟩ => (by cases z; exact ⟨_, _, rfl⟩)⟩ | exact ⟨fun ⟨_, _, z⟩ => (by cases z), fun ⟨_, _, z⟩ => (by cases z)⟩
  · rw [if_neg hb]
theorem aL_wI (h : VG) (a i : Nat) (x : Int32) (b j : Nat) : aL (wI h a i x) b j = aL h b j := by
  unfold aL wI
  rw [hset_1]
  by_cases hb : b = a
  · subst hb
    rw [if_pos rfl]
    cases hc : h.1 b with
    | inr y => rfl
    | inl y =>
      obtain ⟨t, n, r⟩ := y
      rcases r with f | f | f | f | f <;> rfl
  · rw [if_neg hb]
theorem arD_wI (h : VG) (a i : Nat) (x : Int32) (b : Nat) : arD (wI h a i x) b ↔ arD h b := by
  unfold arD wI
  rw [hset_1]
  by_cases hb : b = a
  · subst hb
    rw [if_pos rfl]
    cases hc : h.1 b with
    | inr y => exact Iff.rfl
    | inl y =>
      obtain ⟨t0, n, r⟩ := y
      rcases r with f | f | f | f | f <;> first | exact Iff.rfl | exact ⟨fun ⟨n, g, z⟩ => (by cases z; exact ⟨_, _, rfl⟩), fun ⟨n, g, z⟩ => (by cases z; exact ⟨_, _, rfl⟩)⟩ | exact ⟨fun ⟨_, _, z⟩ => (by cases z), fun ⟨_, _, z⟩ => (by cases z)⟩
  · rw [if_neg hb]
theorem aD_wI (h : VG) (a i : Nat) (x : Int32) (b j : Nat) : aD (wI h a i x) b j = aD h b j := by
  unfold aD wI
  rw [hset_1]
  by_cases hb : b = a
  · subst hb
    rw [if_pos rfl]
    cases hc : h.1 b with
    | inr y => rfl
    | inl y =>
      obtain ⟨t, n, r⟩ := y
      rcases r with f | f | f | f | f <;> rfl
  · rw [if_neg hb]
theorem arR_wI (h : VG) (a i : Nat) (x : Int32) (b : Nat) (t : Nat) : arR (wI h a i x) b t ↔ arR h b t := by
  unfold arR wI
  rw [hset_1]
  by_cases hb : b = a
  · subst hb
    rw [if_pos rfl]
    cases hc : h.1 b with
    | inr y => exact Iff.rfl
    | inl y =>
      obtain ⟨t0, n, r⟩ := y
      rcases r with f | f | f | f | f <;> first | exact Iff.rfl | exact ⟨fun ⟨n, g, z⟩ => (by cases z; exact ⟨_, _, rfl⟩), fun ⟨n, g, z⟩ => (by cases z; exact ⟨_, _, rfl⟩)⟩ | exact ⟨fun ⟨_, _, z⟩ => (by cases z), fun ⟨_, _, z⟩ => (by cases z)⟩
  · rw [if_neg hb]
theorem aR_wI (h : VG) (a i : Nat) (x : Int32) (b j : Nat) : aR (wI h a i x) b j = aR h b j := by
  unfold aR wI
  rw [hset_1]
  by_cases hb : b = a
  · subst hb
    rw [if_pos rfl]
    cases hc : h.1 b with
    | inr y => rfl
    | inl y =>
      obtain ⟨t, n, r⟩ := y
      rcases r with f | f | f | f | f <;> rfl
  · rw [if_neg hb]
theorem aI_wI_ne (h : VG) (a i : Nat) (x : Int32) (b j : Nat) (hb : ¬ b = a) : aI (wI h a i x) b j = aI h b j := by
  unfold aI wI
  rw [hset_1, if_neg hb]
theorem aI_wI_j (h : VG) (a i : Nat) (x : Int32) (b j : Nat) (hj : ¬ j = i) : aI (wI h a i x) b j = aI h b j := by
  unfold aI wI
  rw [hset_1]
  by_cases hb : b = a
  · subst hb
    rw [if_pos rfl]
    cases hc : h.1 b with
    | inr y => rfl
    | inl y =>
      obtain ⟨t, n, r⟩ := y
      rcases r with f | f | f | f | f <;> simp [upd, hj]
  · rw [if_neg hb]
theorem aI_wI (h : VG) (a i : Nat) (x : Int32) (b j : Nat) {t : Nat} (ha : arI h a t) : aI (wI h a i x) b j = if b = a ∧ j = i then x else aI h b j := by
  obtain ⟨n, f, h1⟩ := ha
  by_cases hb : b = a
  · subst hb
    by_cases hj : j = i
    · subst hj
      rw [if_pos ⟨rfl, rfl⟩]
      unfold aI wI
      rw [hset_1, if_pos rfl, h1]
      simp [upd]
    · rw [if_neg (fun z => hj z.2)]
      exact aI_wI_j h b i x b j hj
  · rw [if_neg (fun z => hb z.1)]
    exact aI_wI_ne h a i x b j hb
theorem gV_wL (h : VG) (a i : Nat) (x : Int64) (b j : Nat) : gV (wL h a i x) b j = gV h b j := by
  unfold gV wL
  rw [hset_1]
  by_cases hb : b = a
  · subst hb
    rw [if_pos rfl]
    cases hc : h.1 b with
    | inr y => rfl
    | inl y =>
      obtain ⟨t, n, r⟩ := y
      rcases r with f | f | f | f | f <;> rfl
  · rw [if_neg hb]
theorem gI_wL (h : VG) (a i : Nat) (x : Int64) (b j : Nat) : gI (wL h a i x) b j = gI h b j := by unfold gI; rw [gV_wL]
theorem gL_wL (h : VG) (a i : Nat) (x : Int64) (b j : Nat) : gL (wL h a i x) b j = gL h b j := by unfold gL; rw [gV_wL]
theorem gD_wL (h : VG) (a i : Nat) (x : Int64) (b j : Nat) : gD (wL h a i x) b j = gD h b j := by unfold gD; rw [gV_wL]
theorem gR_wL (h : VG) (a i : Nat) (x : Int64) (b j : Nat) : gR (wL h a i x) b j = gR h b j := by unfold gR; rw [gV_wL]
theorem isI_wL (h : VG) (a i : Nat) (x : Int64) (b j : Nat) : isI (wL h a i x) b j ↔ isI h b j := by unfold isI; rw [gV_wL]
theorem isL_wL (h : VG) (a i : Nat) (x : Int64) (b j : Nat) : isL (wL h a i x) b j ↔ isL h b j := by unfold isL; rw [gV_wL]
theorem isD_wL (h : VG) (a i : Nat) (x : Int64) (b j : Nat) : isD (wL h a i x) b j ↔ isD h b j := by unfold isD; rw [gV_wL]
theorem ob_wL (h : VG) (a i : Nat) (x : Int64) (b c : Nat) : ob (wL h a i x) b c ↔ ob h b c := by
  unfold ob wL
  rw [hset_1]
  by_cases hb : b = a
  · subst hb
    rw [if_pos rfl]
    cases hc : h.1 b with
    | inr y => exact Iff.rfl
    | inl y =>
      obtain ⟨t, n, r⟩ := y
      rcases r with f | f | f | f | f <;> exact ⟨fun ⟨_, z, _⟩ => (by cases z), fun ⟨_, z, _⟩ => (by cases z)⟩
  · rw [if_neg hb]
theorem aln_wL (h : VG) (a i : Nat) (x : Int64) (b : Nat) : aln (wL h a i x) b = aln h b := by
  unfold aln wL
  rw [hset_1]
  by_cases hb : b = a
  · subst hb
    rw [if_pos rfl]
    cases hc : h.1 b with
    | inr y => rfl
    | inl y =>
      obtain ⟨t, n, r⟩ := y
      rcases r with f | f | f | f | f <;> rfl
  · rw [if_neg hb]
theorem arI_wL (h : VG) (a i : Nat) (x : Int64) (b : Nat) (t : Nat) : arI (wL h a i x) b t ↔ arI h b t := by
  unfold arI wL
  rw [hset_1]
  by_cases hb : b = a
  · subst hb
    rw [if_pos rfl]
    cases hc : h.1 b with
    | inr y => exact Iff.rfl
    | inl y =>
      obtain ⟨t0, n, r⟩ := y
      rcases r with f | f | f | f | f <;> first | exact Iff.rfl | exact ⟨fun ⟨n, g, z⟩ => (by cases z; exact ⟨_, _, rfl⟩), fun ⟨n, g, z⟩ => (by cases z; exact ⟨_, _, rfl⟩)⟩ | exact ⟨fun ⟨_, _, z⟩ => (by cases z), fun ⟨_, _, z⟩ => (by cases z)⟩
  · rw [if_neg hb]
theorem aI_wL (h : VG) (a i : Nat) (x : Int64) (b j : Nat) : aI (wL h a i x) b j = aI h b j := by
  unfold aI wL
  rw [hset_1]
  by_cases hb : b = a
  · subst hb
    rw [if_pos rfl]
    cases hc : h.1 b with
    | inr y => rfl
    | inl y =>
      obtain ⟨t, n, r⟩ := y
      rcases r with f | f | f | f | f <;> rfl
  · rw [if_neg hb]
theorem arL_wL (h : VG) (a i : Nat) (x : Int64) (b : Nat) : arL (wL h a i x) b ↔ arL h b := by
  unfold arL wL
  rw [hset_1]
  by_cases hb : b = a
  · subst hb
    rw [if_pos rfl]
    cases hc : h.1 b with
    | inr y => exact Iff.rfl
    | inl y =>
      obtain ⟨t0, n, r⟩ := y
      rcases r with f | f | f | f | f <;> first | exact Iff.rfl | exact ⟨fun ⟨n, g, z⟩ => (by cases z; exact ⟨_, _, rfl⟩), fun ⟨n, g, z⟩ => (by cases z; exact ⟨_, _, rfl⟩)⟩ | exact ⟨fun ⟨_, _, z⟩ => (by cases z), fun ⟨_, _, z⟩ => (by cases z)⟩
  · rw [if_neg hb]
theorem arD_wL (h : VG) (a i : Nat) (x : Int64) (b : Nat) : arD (wL h a i x) b ↔ arD h b := by
  unfold arD wL
  rw [hset_1]
  by_cases hb : b = a
  · subst hb
    rw [if_pos rfl]
    cases hc : h.1 b with
    | inr y => exact Iff.rfl
    | inl y =>
      obtain ⟨t0, n, r⟩ := y
      rcases r with f | f | f | f | f <;> first | exact Iff.rfl | exact ⟨fun ⟨n, g, z⟩ => (by cases z; exact ⟨_, _, rfl⟩), fun ⟨n, g, z⟩ => (by cases z; exact ⟨_, _, rfl⟩)⟩ | exact ⟨fun ⟨_, _, z⟩ => (by cases z), fun ⟨_, _, z⟩ => (by cases z)⟩
  · rw [if_neg hb]
theorem aD_wL (h : VG) (a i : Nat) (x : Int64) (b j : Nat) : aD (wL h a i x) b j = aD h b j := by
  unfold aD wL
  rw [hset_1]
  by_cases hb : b = a
  · subst hb
    rw [if_pos rfl]
    cases hc : h.1 b with
    | inr y => rfl
    | inl y =>
      obtain ⟨t, n, r⟩ := y
      rcases r with f | f | f | f | f <;> rfl
  · rw [if_neg hb]
theorem arR_wL (h : VG) (a i : Nat) (x : Int64) (b : Nat) (t : Nat) : arR (wL h a i x) b t ↔ arR h b t := by
  unfold arR wL
  rw [hset_1]
  by_cases hb : b = a
  · subst hb
    rw [if_pos rfl]
    cases hc : h.1 b with
    | inr y => exact Iff.rfl
    | inl y =>
      obtain ⟨t0, n, r⟩ := y
      rcases r with f | f | f | f | f <;> first | exact Iff.rfl | exact ⟨fun ⟨n, g, z⟩ => (by cases z; exact ⟨_, _, rfl⟩), fun ⟨n, g, z⟩ => (by cases z; exact ⟨_, _, rfl⟩)⟩ | exact ⟨fun ⟨_, _, z⟩ => (by cases z), fun ⟨_, _, z⟩ => (by cases z)⟩
  · rw [if_neg hb]
theorem aR_wL (h : VG) (a i : Nat) (x : Int64) (b j : Nat) : aR (wL h a i x) b j = aR h b j := by
  unfold aR wL
  rw [hset_1]
  by_cases hb : b = a
  · subst hb
    rw [if_pos rfl]
    cases hc : h.1 b with
    | inr y => rfl
    | inl y =>
      obtain ⟨t, n, r⟩ := y
      rcases r with f | f | f | f | f <;> rfl
  · rw [if_neg hb]
theorem aL_wL_ne (h : VG) (a i : Nat) (x : Int64) (b j : Nat) (hb : ¬ b = a) : aL (wL h a i x) b j = aL h b j := by
  unfold aL wL
  rw [hset_1, if_neg hb]
theorem aL_wL_j (h : VG) (a i : Nat) (x : Int64) (b j : Nat) (hj : ¬ j = i) : aL (wL h a i x) b j = aL h b j := by
  unfold aL wL
  rw [hset_1]
  by_cases hb : b = a
  · subst hb
    rw [if_pos rfl]
    cases hc : h.1 b with
    | inr y => rfl
    | inl y =>
      obtain ⟨t, n, r⟩ := y
      rcases r with f | f | f | f | f <;> simp [vp_updL, hj]
  · rw [if_neg hb]
theorem aL_wL (h : VG) (a i : Nat) (x : Int64) (b j : Nat) (ha : arL h a) : aL (wL h a i x) b j = if b = a ∧ j = i then x else aL h b j := by
  obtain ⟨n, f, h1⟩ := ha
  by_cases hb : b = a
  · subst hb
    by_cases hj : j = i
    · subst hj
      rw [if_pos ⟨rfl, rfl⟩]
      unfold aL wL
      rw [hset_1, if_pos rfl, h1]
      simp [vp_updL]
    · rw [if_neg (fun z => hj z.2)]
      exact aL_wL_j h b i x b j hj
  · rw [if_neg (fun z => hb z.1)]
    exact aL_wL_ne h a i x b j hb
theorem gV_wD (h : VG) (a i : Nat) (x : UInt64) (b j : Nat) : gV (wD h a i x) b j = gV h b j := by
  unfold gV wD
  rw [hset_1]
  by_cases hb : b = a
  · subst hb
    rw [if_pos rfl]
    cases hc : h.1 b with
    | inr y => rfl
    | inl y =>
      obtain ⟨t, n, r⟩ := y
      rcases r with f | f | f | f | f <;> rfl
  · rw [if_neg hb]
theorem gI_wD (h : VG) (a i : Nat) (x : UInt64) (b j : Nat) : gI (wD h a i x) b j = gI h b j := by unfold gI; rw [gV_wD]
theorem gL_wD (h : VG) (a i : Nat) (x : UInt64) (b j : Nat) : gL (wD h a i x) b j = gL h b j := by unfold gL; rw [gV_wD]
theorem gD_wD (h : VG) (a i : Nat) (x : UInt64) (b j : Nat) : gD (wD h a i x) b j = gD h b j := by unfold gD; rw [gV_wD]
theorem gR_wD (h : VG) (a i : Nat) (x : UInt64) (b j : Nat) : gR (wD h a i x) b j = gR h b j := by unfold gR; rw [gV_wD]
theorem isI_wD (h : VG) (a i : Nat) (x : UInt64) (b j : Nat) : isI (wD h a i x) b j ↔ isI h b j := by unfold isI; rw [gV_wD]
theorem isL_wD (h : VG) (a i : Nat) (x : UInt64) (b j : Nat) : isL (wD h a i x) b j ↔ isL h b j := by unfold isL; rw [gV_wD]
theorem isD_wD (h : VG) (a i : Nat) (x : UInt64) (b j : Nat) : isD (wD h a i x) b j ↔ isD h b j := by unfold isD; rw [gV_wD]
theorem ob_wD (h : VG) (a i : Nat) (x : UInt64) (b c : Nat) : ob (wD h a i x) b c ↔ ob h b c := by
  unfold ob wD
  rw [hset_1]
  by_cases hb : b = a
  · subst hb
    rw [if_pos rfl]
    cases hc : h.1 b with
    | inr y => exact Iff.rfl
    | inl y =>
      obtain ⟨t, n, r⟩ := y
      rcases r with f | f | f | f | f <;> exact ⟨fun ⟨_, z, _⟩ => (by cases z), fun ⟨_, z, _⟩ => (by cases z)⟩
  · rw [if_neg hb]
theorem aln_wD (h : VG) (a i : Nat) (x : UInt64) (b : Nat) : aln (wD h a i x) b = aln h b := by
  unfold aln wD
  rw [hset_1]
  by_cases hb : b = a
  · subst hb
    rw [if_pos rfl]
    cases hc : h.1 b with
    | inr y => rfl
    | inl y =>
      obtain ⟨t, n, r⟩ := y
      rcases r with f | f | f | f | f <;> rfl
  · rw [if_neg hb]
theorem arI_wD (h : VG) (a i : Nat) (x : UInt64) (b : Nat) (t : Nat) : arI (wD h a i x) b t ↔ arI h b t := by
  unfold arI wD
  rw [hset_1]
  by_cases hb : b = a
  · subst hb
    rw [if_pos rfl]
    cases hc : h.1 b with
    | inr y => exact Iff.rfl
    | inl y =>
      obtain ⟨t0, n, r⟩ := y
      rcases r with f | f | f | f | f <;> first | exact Iff.rfl | exact ⟨fun ⟨n, g, z⟩ => (by cases z; exact ⟨_, _, rfl⟩), fun ⟨n, g, z⟩ => (by cases z; exact ⟨_, _, rfl⟩)⟩ | exact ⟨fun ⟨_, _, z⟩ => (by cases z), fun ⟨_, _, z⟩ => (by cases z)⟩
  · rw [if_neg hb]
theorem aI_wD (h : VG) (a i : Nat) (x : UInt64) (b j : Nat) : aI (wD h a i x) b j = aI h b j := by
  unfold aI wD
  rw [hset_1]
  by_cases hb : b = a
  · subst hb
    rw [if_pos rfl]
    cases hc : h.1 b with
    | inr y => rfl
    | inl y =>
      obtain ⟨t, n, r⟩ := y
      rcases r with f | f | f | f | f <;> rfl
  · rw [if_neg hb]
theorem arL_wD (h : VG) (a i : Nat) (x : UInt64) (b : Nat) : arL (wD h a i x) b ↔ arL h b := by
  unfold arL wD
  rw [hset_1]
  by_cases hb : b = a
  · subst hb
    rw [if_pos rfl]
    cases hc : h.1 b with
    | inr y => exact Iff.rfl
    | inl y =>
      obtain ⟨t0, n, r⟩ := y
      rcases r with f | f | f | f | f <;> first | exact Iff.rfl | exact ⟨fun ⟨n, g, z⟩ => (by cases z; exact ⟨_, _, rfl⟩), fun ⟨n, g, z⟩ => (by cases z; exact ⟨_, _, rfl⟩)⟩ | exact ⟨fun ⟨_, _, z⟩ => (by cases z), fun ⟨_, _, z⟩ => (by cases z)⟩
  · rw [if_neg hb]
theorem aL_wD (h : VG) (a i : Nat) (x : UInt64) (b j : Nat) : aL (wD h a i x) b j = aL h b j := by
  unfold aL wD
  rw [hset_1]
  by_cases hb : b = a
  · subst hb
    rw [if_pos rfl]
    cases hc : h.1 b with
    | inr y => rfl
    | inl y =>
      obtain ⟨t, n, r⟩ := y
      rcases r with f | f | f | f | f <;> rfl
  · rw [if_neg hb]
theorem arD_wD (h : VG) (a i : Nat) (x : UInt64) (b : Nat) : arD (wD h a i x) b ↔ arD h b := by
  unfold arD wD
  rw [hset_1]
  by_cases hb : b = a
  · subst hb
    rw [if_pos rfl]
    cases hc : h.1 b with
    | inr y => exact Iff.rfl
    | inl y =>
      obtain ⟨t0, n, r⟩ := y
      rcases r with f | f | f | f | f <;> first | exact Iff.rfl | exact ⟨fun ⟨n, g, z⟩ => (by cases z; exact ⟨_, _, rfl⟩), fun ⟨n, g, z⟩ => (by cases z; exact ⟨_, _, rfl⟩)⟩ | exact ⟨fun ⟨_, _, z⟩ => (by cases z), fun ⟨_, _, z⟩ => (by cases z)⟩
  · rw [if_neg hb]
theorem arR_wD (h : VG) (a i : Nat) (x : UInt64) (b : Nat) (t : Nat) : arR (wD h a i x) b t ↔ arR h b t := by
  unfold arR wD
  rw [hset_1]
  by_cases hb : b = a
  · subst hb
    rw [if_pos rfl]
    cases hc : h.1 b with
    | inr y => exact Iff.rfl
    | inl y =>
      obtain ⟨t0, n, r⟩ := y
      rcases r with f | f | f | f | f <;> first | exact Iff.rfl | exact ⟨fun ⟨n, g, z⟩ => (by cases z; exact ⟨_, _, rfl⟩), fun ⟨n, g, z⟩ => (by cases z; exact ⟨_, _, rfl⟩)⟩ | exact ⟨fun ⟨_, _, z⟩ => (by cases z), fun ⟨_, _, z⟩ => (by cases z)⟩
  · rw [if_neg hb]
theorem aR_wD (h : VG) (a i : Nat) (x : UInt64) (b j : Nat) : aR (wD h a i x) b j = aR h b j := by
  unfold aR wD
  rw [hset_1]
  by_cases hb : b = a
  · subst hb
    rw [if_pos rfl]
    cases hc : h.1 b with
    | inr y => rfl
    | inl y =>
      obtain ⟨t, n, r⟩ := y
      rcases r with f | f | f | f | f <;> rfl
  · rw [if_neg hb]
theorem aD_wD_ne (h : VG) (a i : Nat) (x : UInt64) (b j : Nat) (hb : ¬ b = a) : aD (wD h a i x) b j = aD h b j := by
  unfold aD wD
  rw [hset_1, if_neg hb]
theorem aD_wD_j (h : VG) (a i : Nat) (x : UInt64) (b j : Nat) (hj : ¬ j = i) : aD (wD h a i x) b j = aD h b j := by
  unfold aD wD
  rw [hset_1]
  by_cases hb : b = a
  · subst hb
    rw [if_pos rfl]
    cases hc : h.1 b with
    | inr y => rfl
    | inl y =>
      obtain ⟨t, n, r⟩ := y
      rcases r with f | f | f | f | f <;> simp [vf_upd, hj]
  · rw [if_neg hb]
theorem aD_wD (h : VG) (a i : Nat) (x : UInt64) (b j : Nat) (ha : arD h a) : aD (wD h a i x) b j = if b = a ∧ j = i then x else aD h b j := by
  obtain ⟨n, f, h1⟩ := ha
  by_cases hb : b = a
  · subst hb
    by_cases hj : j = i
    · subst hj
      rw [if_pos ⟨rfl, rfl⟩]
      unfold aD wD
      rw [hset_1, if_pos rfl, h1]
      simp [vf_upd]
    · rw [if_neg (fun z => hj z.2)]
      exact aD_wD_j h b i x b j hj
  · rw [if_neg (fun z => hb z.1)]
    exact aD_wD_ne h a i x b j hb
/-- a row gets other contents -/
def bI (h : VG) (a : Nat) (F : Nat → Int32) : VG := hset h a (match h.1 a with
  | .inl (t, n, .inl _) => .inl (t, n, .inl F)
  | e => e)
def bL (h : VG) (a : Nat) (F : Nat → Int64) : VG := hset h a (match h.1 a with
  | .inl (t, n, .inr (.inl _)) => .inl (t, n, .inr (.inl F))
  | e => e)
def bD (h : VG) (a : Nat) (F : Nat → UInt64) : VG := hset h a (match h.1 a with
  | .inl (t, n, .inr (.inr (.inr (.inl _)))) => .inl (t, n, .inr (.inr (.inr (.inl F))))
  | e => e)
theorem wI_b (h : VG) (a i : Nat) (x : Int32) : wI h a i x = bI h a (upd (aI h a) i x) := by
  unfold wI bI aI
  cases hc : h.1 a with
  | inr y => rfl
  | inl y =>
    obtain ⟨t, n, r⟩ := y
    rcases r with f | f | f | f | f <;> rfl
theorem gV_bI (h : VG) (a : Nat) (F : Nat → Int32) (b j : Nat) : gV (bI h a F) b j = gV h b j := by
  unfold gV bI
  rw [hset_1]
  by_cases hb : b = a
  · subst hb
    rw [if_pos rfl]
    cases hc : h.1 b with
    | inr y => rfl
    | inl y =>
      obtain ⟨t, n, r⟩ := y
      rcases r with f | f | f | f | f <;> rfl
  · rw [if_neg hb]
theorem gI_bI (h : VG) (a : Nat) (F : Nat → Int32) (b j : Nat) : gI (bI h a F) b j = gI h b j := by unfold gI; rw [gV_bI]
theorem gL_bI (h : VG) (a : Nat) (F : Nat → Int32) (b j : Nat) : gL (bI h a F) b j = gL h b j := by unfold gL; rw [gV_bI]
theorem gD_bI (h : VG) (a : Nat) (F : Nat → Int32) (b j : Nat) : gD (bI h a F) b j = gD h b j := by unfold gD; rw [gV_bI]
theorem gR_bI (h : VG) (a : Nat) (F : Nat → Int32) (b j : Nat) : gR (bI h a F) b j = gR h b j := by unfold gR; rw [gV_bI]
theorem isI_bI (h : VG) (a : Nat) (F : Nat → Int32) (b j : Nat) : isI (bI h a F) b j ↔ isI h b j := by unfold isI; rw [gV_bI]
theorem isL_bI (h : VG) (a : Nat) (F : Nat → Int32) (b j : Nat) : isL (bI h a F) b j ↔ isL h b j := by unfold isL; rw [gV_bI]
theorem isD_bI (h : VG) (a : Nat) (F : Nat → Int32) (b j : Nat) : isD (bI h a F) b j ↔ isD h b j := by unfold isD; rw [gV_bI]
theorem ob_bI (h : VG) (a : Nat) (F : Nat → Int32) (b c : Nat) : ob (bI h a F) b c ↔ ob h b c := by
  unfold ob bI
  rw [hset_1]
  by_cases hb : b = a
  · subst hb
    rw [if_pos rfl]
    cases hc : h.1 b with
    | inr y => exact Iff.rfl
    | inl y =>
      obtain ⟨t, n, r⟩ := y
      rcases r with f | f | f | f | f <;> exact ⟨fun ⟨_, z, _⟩ => (by cases z), fun ⟨_, z, _⟩ => (by cases z)⟩
  · rw [if_neg hb]
theorem aln_bI (h : VG) (a : Nat) (F : Nat → Int32) (b : Nat) : aln (bI h a F) b = aln h b := by
  unfold aln bI
  rw [hset_1]
  by_cases hb : b = a
  · subst hb
    rw [if_pos rfl]
    cases hc : h.1 b with
    | inr y => rfl
    | inl y =>
      obtain ⟨t, n, r⟩ := y
      rcases r with f | f | f | f | f <;> rfl
  · rw [if_neg hb]
theorem arI_bI (h : VG) (a : Nat) (F : Nat → Int32) (b : Nat) (t : Nat) : arI (bI h a F) b t ↔ arI h b t := by
  unfold arI bI
  rw [hset_1]
  by_cases hb : b = a
  · subst hb
    rw [if_pos rfl]
    cases hc : h.1 b with
    | inr y => exact Iff.rfl
    | inl y =>
      obtain ⟨t0, n, r⟩ := y
      rcases r with f | f | f | f | f <;> first | exact Iff.rfl | exact ⟨fun ⟨n, g, z⟩ => (by cases z; exact ⟨_, _, rfl⟩), fun ⟨n, g, z⟩ => (by cases z; exact ⟨_, _, rfl⟩)⟩ | exact ⟨fun ⟨_, _, z⟩ => (by cases z), fun ⟨_, _, z⟩ => (by cases z)⟩
  · rw [if_neg hb]
theorem arL_bI (h : VG) (a : Nat) (F : Nat → Int32) (b : Nat) : arL (bI h a F) b ↔ arL h b := by
  unfold arL bI
  rw [hset_1]
  by_cases hb : b = a
  · subst hb
    rw [if_pos rfl]
    cases hc : h.1 b with
    | inr y => exact Iff.rfl
    | inl y =>
      obtain ⟨t0, n, r⟩ := y
      rcases r with f | f | f | f | f <;> first | exact Iff.rfl | exact ⟨fun ⟨n, g, z⟩ => (by cases z; exact ⟨_, _, rfl⟩), fun ⟨n, g, z⟩ => (by cases z; exact ⟨_, _, rfl⟩)⟩ | exact ⟨fun ⟨_, _, z⟩ => (by cases z), fun ⟨_, _, z⟩ => (by cases z)⟩
  · rw [if_neg hb]
theorem aL_bI (h : VG) (a : Nat) (F : Nat → Int32) (b j : Nat) : aL (bI h a F) b j = aL h b j := by
  unfold aL bI
  rw [hset_1]
  by_cases hb : b = a
  · subst hb
    rw [if_pos rfl]
    cases hc : h.1 b with
    | inr y => rfl
    | inl y =>
      obtain ⟨t, n, r⟩ := y
      rcases r with f | f | f | f | f <;> rfl
  · rw [if_neg hb]
theorem arD_bI (h : VG) (a : Nat) (F : Nat → Int32) (b : Nat) : arD (bI h a F) b ↔ arD h b := by
  unfold arD bI
  rw [hset_1]
  by_cases hb : b = a
  · subst hb
    rw [if_pos rfl]
    cases hc : h.1 b with
    | inr y => exact Iff.rfl
    | inl y =>
      obtain ⟨t0, n, r⟩ := y
      rcases r with f | f | f | f | f <;> first | exact Iff.rfl | exact ⟨fun ⟨n, g, z⟩ => (by cases z; exact ⟨_, _, rfl⟩), fun ⟨n, g, z⟩ => (by cases z; exact ⟨_, _, rfl⟩)⟩ | exact ⟨fun ⟨_, _, z⟩ => (by cases z), fun ⟨_, _, z⟩ => (by cases z)⟩
  · rw [if_neg hb]
theorem aD_bI (h : VG) (a : Nat) (F : Nat → Int32) (b j : Nat) : aD (bI h a F) b j = aD h b j := by
  unfold aD bI
  rw [hset_1]
  by_cases hb : b = a
  · subst hb
    rw [if_pos rfl]
    cases hc : h.1 b with
    | inr y => rfl
    | inl y =>
      obtain ⟨t, n, r⟩ := y
      rcases r with f | f | f | f | f <;> rfl
  · rw [if_neg hb]
theorem arR_bI (h : VG) (a : Nat) (F : Nat → Int32) (b : Nat) (t : Nat) : arR (bI h a F) b t ↔ arR h b t := by
  unfold arR bI
  rw [hset_1]
  by_cases hb : b = a
  · subst hb
    rw [if_pos rfl]
    cases hc : h.1 b with
    | inr y => exact Iff.rfl
    | inl y =>
      obtain ⟨t0, n, r⟩ := y
      rcases r with f | f | f | f | f <;> first | exact Iff.rfl | exact ⟨fun ⟨n, g, z⟩ => (by cases z; exact ⟨_, _, rfl⟩), fun ⟨n, g, z⟩ => (by cases z; exact ⟨_, _, rfl⟩)⟩ | exact ⟨fun ⟨_, _, z⟩ => (by cases z), fun ⟨_, _, z⟩ => (by cases z)⟩
  · rw [if_neg hb]
theorem aR_bI (h : VG) (a : Nat) (F : Nat → Int32) (b j : Nat) : aR (bI h a F) b j = aR h b j := by
  unfold aR bI
  rw [hset_1]
  by_cases hb : b = a
  · subst hb
    rw [if_pos rfl]
    cases hc : h.1 b with
    | inr y => rfl
    | inl y =>
      obtain ⟨t, n, r⟩ := y
      rcases r with f | f | f | f | f <;> rfl
  · rw [if_neg hb]
theorem aI_bI_ne (h : VG) (a : Nat) (F : Nat → Int32) (b j : Nat) (hb : ¬ b = a) : aI (bI h a F) b j = aI h b j := by
  unfold aI bI
  rw [hset_1, if_neg hb]
theorem aI_bI (h : VG) (a : Nat) (F : Nat → Int32) (j : Nat) {t : Nat} (ha : arI h a t) : aI (bI h a F) a j = F j := by
  obtain ⟨n, f, h1⟩ := ha
  unfold aI bI
  rw [hset_1, if_pos rfl, h1]
theorem bI_bI (h : VG) (a : Nat) (F G : Nat → Int32) : bI (bI h a F) a G = bI h a G := by
  unfold bI
  simp only [hset_1, if_true]
  unfold hset
  refine Prod.ext ?_ rfl
  funext x
  dsimp only
  by_cases hx : x = a
  · rw [if_pos hx, if_pos hx]
    cases hc : h.1 a with
    | inr y => rfl
    | inl y =>
      obtain ⟨t, n, r⟩ := y
      rcases r with f | f | f | f | f <;> rfl
  · rw [if_neg hx, if_neg hx, if_neg hx]
theorem wL_b (h : VG) (a i : Nat) (x : Int64) : wL h a i x = bL h a (vp_updL (aL h a) i x) := by
  unfold wL bL aL
  cases hc : h.1 a with
  | inr y => rfl
  | inl y =>
    obtain ⟨t, n, r⟩ := y
    rcases r with f | f | f | f | f <;> rfl
theorem gV_bL (h : VG) (a : Nat) (F : Nat → Int64) (b j : Nat) : gV (bL h a F) b j = gV h b j := by
  unfold gV bL
  rw [hset_1]
  by_cases hb : b = a
  · subst hb
    rw [if_pos rfl]
    cases hc : h.1 b with
    | inr y => rfl
    | inl y =>
      obtain ⟨t, n, r⟩ := y
      rcases r with f | f | f | f | f <;> rfl
  · rw [if_neg hb]
theorem gI_bL (h : VG) (a : Nat) (F : Nat → Int64) (b j : Nat) : gI (bL h a F) b j = gI h b j := by unfold gI; rw [gV_bL]
theorem gL_bL (h : VG) (a : Nat) (F : Nat → Int64) (b j : Nat) : gL (bL h a F) b j = gL h b j := by unfold gL; rw [gV_bL]
theorem gD_bL (h : VG) (a : Nat) (F : Nat → Int64) (b j : Nat) : gD (bL h a F) b j = gD h b j := by unfold gD; rw [gV_bL]
theorem gR_bL (h : VG) (a : Nat) (F : Nat → Int64) (b j : Nat) : gR (bL h a F) b j = gR h b j := by unfold gR; rw [gV_bL]
theorem isI_bL (h : VG) (a : Nat) (F : Nat → Int64) (b j : Nat) : isI (bL h a F) b j ↔ isI h b j := by unfold isI; rw [gV_bL]
theorem isL_bL (h : VG) (a : Nat) (F : Nat → Int64) (b j : Nat) : isL (bL h a F) b j ↔ isL h b j := by unfold isL; rw [gV_bL]
theorem isD_bL (h : VG) (a : Nat) (F : Nat → Int64) (b j : Nat) : isD (bL h a F) b j ↔ isD h b j := by unfold isD; rw [gV_bL]
theorem ob_bL (h : VG) (a : Nat) (F : Nat → Int64) (b c : Nat) : ob (bL h a F) b c ↔ ob h b c := by
  unfold ob bL
  rw [hset_1]
  by_cases hb : b = a
  · subst hb
    rw [if_pos rfl]
    cases hc : h.1 b with
    | inr y => exact Iff.rfl
    | inl y =>
      obtain ⟨t, n, r⟩ := y
      rcases r with f | f | f | f | f <;> exact ⟨fun ⟨_, z, _⟩ => (by cases z), fun ⟨_, z, _⟩ => (by cases z)⟩
  · rw [if_neg hb]
theorem aln_bL (h : VG) (a : Nat) (F : Nat → Int64) (b : Nat) : aln (bL h a F) b = aln h b := by
  unfold aln bL
  rw [hset_1]
  by_cases hb : b = a
  · subst hb
    rw [if_pos rfl]
    cases hc : h.1 b with
    | inr y => rfl
    | inl y =>
      obtain ⟨t, n, r⟩ := y
      rcases r with f | f | f | f | f <;> rfl
  · rw [if_neg hb]
theorem arI_bL (h : VG) (a : Nat) (F : Nat → Int64) (b : Nat) (t : Nat) : arI (bL h a F) b t ↔ arI h b t := by
  unfold arI bL
  rw [hset_1]
  by_cases hb : b = a
  · subst hb
    rw [if_pos rfl]
    cases hc : h.1 b with
    | inr y => exact Iff.rfl
    | inl y =>
      obtain ⟨t0, n, r⟩ := y
      rcases r with f | f | f | f | f <;> first | exact Iff.rfl | exact ⟨fun ⟨n, g, z⟩ => (by cases z; exact ⟨_, _, rfl⟩), fun ⟨n, g, z⟩ => (by cases z; exact ⟨_, _, rfl⟩)⟩ | exact ⟨fun ⟨_, _, z⟩ => (by cases z), fun ⟨_, _, z⟩ => (by cases z)⟩
  · rw [if_neg hb]
theorem aI_bL (h : VG) (a : Nat) (F : Nat → Int64) (b j : Nat) : aI (bL h a F) b j = aI h b j := by
  unfold aI bL
  rw [hset_1]
  by_cases hb : b = a
  · subst hb
    rw [if_pos rfl]
    cases hc : h.1 b with
    | inr y => rfl
    | inl y =>
      obtain ⟨t, n, r⟩ := y
      rcases r with f | f | f | f | f <;> rfl
  · rw [if_neg hb]
theorem arL_bL (h : VG) (a : Nat) (F : Nat → Int64) (b : Nat) : arL (bL h a F) b ↔ arL h b := by
  unfold arL bL
  rw [hset_1]
  by_cases hb : b = a
  · subst hb
    rw [if_pos rfl]
    cases hc : h.1 b with
    | inr y => exact Iff.rfl
    | inl y =>
      obtain ⟨t0, n, r⟩ := y
      rcases r with f | f | f | f | f <;> first | exact Iff.rfl | exact ⟨fun ⟨n, g, z⟩ => (by cases z; exact ⟨_, _, rfl⟩), fun ⟨n, g, z⟩ => (by cases z; exact ⟨_, _, rfl⟩)⟩ | exact ⟨fun ⟨_, _, z⟩ => (by cases z), fun ⟨_, _, z⟩ => (by cases z)⟩
  · rw [if_neg hb]
theorem arD_bL (h : VG) (a : Nat) (F : Nat → Int64) (b : Nat) : arD (bL h a F) b ↔ arD h b := by
  unfold arD bL
  rw [hset_1]
  by_cases hb : b = a
  · subst hb
    rw [if_pos rfl]
    cases hc : h.1 b with
    | inr y => exact Iff.rfl
    | inl y =>
      obtain ⟨t0, n, r⟩ := y
      rcases r with f | f | f | f | f <;> first | exact Iff.rfl | exact ⟨fun ⟨n, g, z⟩ => (by cases z; exact ⟨_, _, rfl⟩), fun ⟨n, g, z⟩ => (by cases z; exact ⟨_, _, rfl⟩)⟩ | exact ⟨fun ⟨_, _, z⟩ => (by cases z), fun ⟨_, _, z⟩ => (by cases z)⟩
  · rw [if_neg hb]
theorem aD_bL (h : VG) (a : Nat) (F : Nat → Int64) (b j : Nat) : aD (bL h a F) b j = aD h b j := by
  unfold aD bL
  rw [hset_1]
  by_cases hb : b = a
  · subst hb
    rw [if_pos rfl]
    cases hc : h.1 b with
    | inr y => rfl
    | inl y =>
      obtain ⟨t, n, r⟩ := y
      rcases r with f | f | f | f | f <;> rfl
  · rw [if_neg hb]
theorem arR_bL (h : VG) (a : Nat) (F : Nat → Int64) (b : Nat) (t : Nat) : arR (bL h a F) b t ↔ arR h b t := by
  unfold arR bL
  rw [hset_1]
  by_cases hb : b = a
  · subst hb
    rw [if_pos rfl]
    cases hc : h.1 b with
    | inr y => exact Iff.rfl
    | inl y =>
      obtain ⟨t0, n, r⟩ := y
      rcases r with f | f | f | f | f <;> first | exact Iff.rfl | exact ⟨fun ⟨n, g, z⟩ => (by cases z; exact ⟨_, _, rfl⟩), fun ⟨n, g, z⟩ => (by cases z; exact ⟨_, _, rfl⟩)⟩ | exact ⟨fun ⟨_, _, z⟩ => (by cases z), fun ⟨_, _, z⟩ => (by cases z)⟩
  · rw [if_neg hb]
theorem aR_bL (h : VG) (a : Nat) (F : Nat → Int64) (b j : Nat) : aR (bL h a F) b j = aR h b j := by
  unfold aR bL
  rw [hset_1]
  by_cases hb : b = a
  · subst hb
    rw [if_pos rfl]
    cases hc : h.1 b with
    | inr y => rfl
    | inl y =>
      obtain ⟨t, n, r⟩ := y
      rcases r with f | f | f | f | f <;> rfl
  · rw [if_neg hb]
theorem aL_bL_ne (h : VG) (a : Nat) (F : Nat → Int64) (b j : Nat) (hb : ¬ b = a) : aL (bL h a F) b j = aL h b j := by
  unfold aL bL
  rw [hset_1, if_neg hb]
theorem aL_bL (h : VG) (a : Nat) (F : Nat → Int64) (j : Nat) (ha : arL h a) : aL (bL h a F) a j = F j := by
  obtain ⟨n, f, h1⟩ := ha
  unfold aL bL
  rw [hset_1, if_pos rfl, h1]
theorem bL_bL (h : VG) (a : Nat) (F G : Nat → Int64) : bL (bL h a F) a G = bL h a G := by
  unfold bL
  simp only [hset_1, if_true]
  unfold hset
  refine Prod.ext ?_ rfl
  funext x
  dsimp only
  by_cases hx : x = a
  · rw [if_pos hx, if_pos hx]
    cases hc : h.1 a with
    | inr y => rfl
    | inl y =>
      obtain ⟨t, n, r⟩ := y
      rcases r with f | f | f | f | f <;> rfl
  · rw [if_neg hx, if_neg hx, if_neg hx]
theorem wD_b (h : VG) (a i : Nat) (x : UInt64) : wD h a i x = bD h a (vf_upd (aD h a) i x) := by
  unfold wD bD aD
  cases hc : h.1 a with
  | inr y => rfl
  | inl y =>
    obtain ⟨t, n, r⟩ := y
    rcases r with f | f | f | f | f <;> rfl
theorem gV_bD (h : VG) (a : Nat) (F : Nat → UInt64) (b j : Nat) : gV (bD h a F) b j = gV h b j := by
  unfold gV bD
  rw [hset_1]
  by_cases hb : b = a
  · subst hb
    rw [if_pos rfl]
    cases hc : h.1 b with
    | inr y => rfl
    | inl y =>
      obtain ⟨t, n, r⟩ := y
      rcases r with f | f | f | f | f <;> rfl
  · rw [if_neg hb]
theorem gI_bD (h : VG) (a : Nat) (F : Nat → UInt64) (b j : Nat) : gI (bD h a F) b j = gI h b j := by unfold gI; rw [gV_bD]
theorem gL_bD (h : VG) (a : Nat) (F : Nat → UInt64) (b j : Nat) : gL (bD h a F) b j = gL h b j := by unfold gL; rw [gV_bD]
theorem gD_bD (h : VG) (a : Nat) (F : Nat → UInt64) (b j : Nat) : gD (bD h a F) b j = gD h b j := by unfold gD; rw [gV_bD]
theorem gR_bD (h : VG) (a : Nat) (F : Nat → UInt64) (b j : Nat) : gR (bD h a F) b j = gR h b j := by unfold gR; rw [gV_bD]
theorem isI_bD (h : VG) (a : Nat) (F : Nat → UInt64) (b j : Nat) : isI (bD h a F) b j ↔ isI h b j := by unfold isI; rw [gV_bD]
theorem isL_bD (h : VG) (a : Nat) (F : Nat → UInt64) (b j : Nat) : isL (bD h a F) b j ↔ isL h b j := by unfold isL; rw [gV_bD]
theorem isD_bD (h : VG) (a : Nat) (F : Nat → UInt64) (b j : Nat) : isD (bD h a F) b j ↔ isD h b j := by unfold isD; rw [gV_bD]
theorem ob_bD (h : VG) (a : Nat) (F : Nat → UInt64) (b c : Nat) : ob (bD h a F) b c ↔ ob h b c := by
  unfold ob bD
  rw [hset_1]
  by_cases hb : b = a
  · subst hb
    rw [if_pos rfl]
    cases hc : h.1 b with
    | inr y => exact Iff.rfl
    | inl y =>
      obtain ⟨t, n, r⟩ := y
      rcases r with f | f | f | f | f <;> exact ⟨fun ⟨_, z, _⟩ => (by cases z), fun ⟨_, z, _⟩ => (by cases z)⟩
  · rw [if_neg hb]
theorem aln_bD (h : VG) (a : Nat) (F : Nat → UInt64) (b : Nat) : aln (bD h a F) b = aln h b := by
  unfold aln bD
  rw [hset_1]
  by_cases hb : b = a
  · subst hb
    rw [if_pos rfl]
    cases hc : h.1 b with
    | inr y => rfl
    | inl y =>
      obtain ⟨t, n, r⟩ := y
      rcases r with f | f | f | f | f <;> rfl
  · rw [if_neg hb]
theorem arI_bD (h : VG) (a : Nat) (F : Nat → UInt64) (b : Nat) (t : Nat) : arI (bD h a F) b t ↔ arI h b t := by
  unfold arI bD
  rw [hset_1]
  by_cases hb : b = a
  · subst hb
    rw [if_pos rfl]
    cases hc : h.1 b with
    | inr y => exact Iff.rfl
    | inl y =>
      obtain ⟨t0, n, r⟩ := y
      rcases r with f | f | f | f | f <;> first | exact Iff.rfl | exact ⟨fun ⟨n, g, z⟩ => (by cases z; exact ⟨_, _, rfl⟩), fun ⟨n, g, z⟩ => (by cases z; exact ⟨_, _, rfl⟩)⟩ | exact ⟨fun ⟨_, _, z⟩ => (by cases z), fun ⟨_, _, z⟩ => (by cases z)⟩
  · rw [if_neg hb]
theorem aI_bD (h : VG) (a : Nat) (F : Nat → UInt64) (b j : Nat) : aI (bD h a F) b j = aI h b j := by
  unfold aI bD
  rw [hset_1]
  by_cases hb : b = a
  · subst hb
    rw [if_pos rfl]
    cases hc : h.1 b with
    | inr y => rfl
    | inl y =>
      obtain ⟨t, n, r⟩ := y
      rcases r with f | f | f | f | f <;> rfl
  · rw [if_neg hb]
theorem arL_bD (h : VG) (a : Nat) (F : Nat → UInt64) (b : Nat) : arL (bD h a F) b ↔ arL h b := by
  unfold arL bD
  rw [hset_1]
  by_cases hb : b = a
  · subst hb
    rw [if_pos rfl]
    cases hc : h.1 b with
    | inr y => exact Iff.rfl
    | inl y =>
      obtain ⟨t0, n, r⟩ := y
      rcases r with f | f | f | f | f <;> first | exact Iff.rfl | exact ⟨fun ⟨n, g, z⟩ => (by cases z; exact ⟨_, _, rfl⟩), fun ⟨n, g, z⟩ => (by cases z; exact ⟨_, _, rfl⟩)⟩ | exact ⟨fun ⟨_, _, z⟩ => (by cases z), fun ⟨_, _, z⟩ => (by cases z)⟩
  · rw [if_neg hb]
theorem aL_bD (h : VG) (a : Nat) (F : Nat → UInt64) (b j : Nat) : aL (bD h a F) b j = aL h b j := by
  unfold aL bD
  rw [hset_1]
  by_cases hb : b = a
  · subst hb
    rw [if_pos rfl]
    cases hc : h.1 b with
    | inr y => rfl
    | inl y =>
      obtain ⟨t, n, r⟩ := y
      rcases r with f | f | f | f | f <;> rfl
  · rw [if_neg hb]
theorem arD_bD (h : VG) (a : Nat) (F : Nat → UInt64) (b : Nat) : arD (bD h a F) b ↔ arD h b := by
  unfold arD bD
  rw [hset_1]
  by_cases hb : b = a
  · subst hb
    rw [if_pos rfl]
    cases hc : h.1 b with
    | inr y => exact Iff.rfl
    | inl y =>
      obtain ⟨t0, n, r⟩ := y
      rcases r with f | f | f | f | f <;> first | exact Iff.rfl | exact ⟨fun ⟨n, g, z⟩ => (by cases z; exact ⟨_, _, rfl⟩), fun ⟨n, g, z⟩ => (by cases z; exact ⟨_, _, rfl⟩)⟩ | exact ⟨fun ⟨_, _, z⟩ => (by cases z), fun ⟨_, _, z⟩ => (by cases z)⟩
  · rw [if_neg hb]
theorem arR_bD (h : VG) (a : Nat) (F : Nat → UInt64) (b : Nat) (t : Nat) : arR (bD h a F) b t ↔ arR h b t := by
  unfold arR bD
  rw [hset_1]
  by_cases hb : b = a
  · subst hb
    rw [if_pos rfl]
    cases hc : h.1 b with
    | inr y => exact Iff.rfl
    | inl y =>
      obtain ⟨t0, n, r⟩ := y
      rcases r with f | f | f | f | f <;> first | exact Iff.rfl | exact ⟨fun ⟨n, g, z⟩ => (by cases z; exact ⟨_, _, rfl⟩), fun ⟨n, g, z⟩ => (by cases z; exact ⟨_, _, rfl⟩)⟩ | exact ⟨fun ⟨_, _, z⟩ => (by cases z), fun ⟨_, _, z⟩ => (by cases z)⟩
  · rw [if_neg hb]
theorem aR_bD (h : VG) (a : Nat) (F : Nat → UInt64) (b j : Nat) : aR (bD h a F) b j = aR h b j := by
  unfold aR bD
  rw [hset_1]
  by_cases hb : b = a
  · subst hb
    rw [if_pos rfl]
    cases hc : h.1 b with
    | inr y => rfl
    | inl y =>
      obtain ⟨t, n, r⟩ := y
      rcases r with f | f | f | f | f <;> rfl
  · rw [if_neg hb]
theorem aD_bD_ne (h : VG) (a : Nat) (F : Nat → UInt64) (b j : Nat) (hb : ¬ b = a) : aD (bD h a F) b j = aD h b j := by
  unfold aD bD
  rw [hset_1, if_neg hb]
theorem aD_bD (h : VG) (a : Nat) (F : Nat → UInt64) (j : Nat) (ha : arD h a) : aD (bD h a F) a j = F j := by
  obtain ⟨n, f, h1⟩ := ha
  unfold aD bD
  rw [hset_1, if_pos rfl, h1]
theorem bD_bD (h : VG) (a : Nat) (F G : Nat → UInt64) : bD (bD h a F) a G = bD h a G := by
  unfold bD
  simp only [hset_1, if_true]
  unfold hset
  refine Prod.ext ?_ rfl
  funext x
  dsimp only
  by_cases hx : x = a
  · rw [if_pos hx, if_pos hx]
    cases hc : h.1 a with
    | inr y => rfl
    | inl y =>
      obtain ⟨t, n, r⟩ := y
      rcases r with f | f | f | f | f <;> rfl
  · rw [if_neg hx, if_neg hx, if_neg hx]
def rf (h : VG) (a k t : Nat) : Prop := gV h a k = .ref t
theorem rf_g {h : VG} {a k t : Nat} (hr : rf h a k t) : gR h a k = t := by unfold gR; rw [hr]
theorem rf_is {h : VG} {a k t : Nat} (hr : rf h a k t) : isR h a k := ⟨t, hr⟩
theorem rf_pI (h : VG) (a k : Nat) (x : Int32) (b j t : Nat) : rf (pI h a k x) b j t ↔ rf h b j t := by
  unfold rf pI
  rw [gV_pV _ _ _ _ _ _ (by show (0 : Nat) ≠ 3; decide)]
  by_cases hc : b = a ∧ j = k ∧ vtag (gV h a k) = vtag (.int x)
  · rw [if_pos hc]
    obtain ⟨rfl, rfl, h3⟩ := hc
    constructor
    · intro z; cases z
    · intro z
      rw [z] at h3
      have h4 : (3 : Nat) = 0 := h3
      exact absurd h4 (by decide)
  · rw [if_neg hc]
theorem isR_pI (h : VG) (a k : Nat) (x : Int32) (b j : Nat) : isR (pI h a k x) b j ↔ isR h b j := ⟨fun ⟨t, z⟩ => ⟨t, (rf_pI h a k x b j t).mp z⟩, fun ⟨t, z⟩ => ⟨t, (rf_pI h a k x b j t).mpr z⟩⟩
theorem rf_pL (h : VG) (a k : Nat) (x : Int64) (b j t : Nat) : rf (pL h a k x) b j t ↔ rf h b j t := by
  unfold rf pL
  rw [gV_pV _ _ _ _ _ _ (by show (1 : Nat) ≠ 3; decide)]
  by_cases hc : b = a ∧ j = k ∧ vtag (gV h a k) = vtag (.long x)
  · rw [if_pos hc]
    obtain ⟨rfl, rfl, h3⟩ := hc
    constructor
    · intro z; cases z
    · intro z
      rw [z] at h3
      have h4 : (3 : Nat) = 1 := h3
      exact absurd h4 (by decide)
  · rw [if_neg hc]
theorem isR_pL (h : VG) (a k : Nat) (x : Int64) (b j : Nat) : isR (pL h a k x) b j ↔ isR h b j := ⟨fun ⟨t, z⟩ => ⟨t, (rf_pL h a k x b j t).mp z⟩, fun ⟨t, z⟩ => ⟨t, (rf_pL h a k x b j t).mpr z⟩⟩
theorem rf_pD (h : VG) (a k : Nat) (x : UInt64) (b j t : Nat) : rf (pD h a k x) b j t ↔ rf h b j t := by
  unfold rf pD
  rw [gV_pV _ _ _ _ _ _ (by show (2 : Nat) ≠ 3; decide)]
  by_cases hc : b = a ∧ j = k ∧ vtag (gV h a k) = vtag (.double x)
  · rw [if_pos hc]
    obtain ⟨rfl, rfl, h3⟩ := hc
    constructor
    · intro z; cases z
    · intro z
      rw [z] at h3
      have h4 : (3 : Nat) = 2 := h3
      exact absurd h4 (by decide)
  · rw [if_neg hc]
theorem isR_pD (h : VG) (a k : Nat) (x : UInt64) (b j : Nat) : isR (pD h a k x) b j ↔ isR h b j := ⟨fun ⟨t, z⟩ => ⟨t, (rf_pD h a k x b j t).mp z⟩, fun ⟨t, z⟩ => ⟨t, (rf_pD h a k x b j t).mpr z⟩⟩
theorem rf_wI (h : VG) (a i : Nat) (x : Int32) (b j t : Nat) : rf (wI h a i x) b j t ↔ rf h b j t := by unfold rf; rw [gV_wI]
theorem isR_wI (h : VG) (a i : Nat) (x : Int32) (b j : Nat) : isR (wI h a i x) b j ↔ isR h b j := by unfold isR; rw [gV_wI]
theorem rf_bI (h : VG) (a : Nat) (F : Nat → Int32) (b j t : Nat) : rf (bI h a F) b j t ↔ rf h b j t := by unfold rf; rw [gV_bI]
theorem isR_bI (h : VG) (a : Nat) (F : Nat → Int32) (b j : Nat) : isR (bI h a F) b j ↔ isR h b j := by unfold isR; rw [gV_bI]
theorem rf_wL (h : VG) (a i : Nat) (x : Int64) (b j t : Nat) : rf (wL h a i x) b j t ↔ rf h b j t := by unfold rf; rw [gV_wL]
theorem isR_wL (h : VG) (a i : Nat) (x : Int64) (b j : Nat) : isR (wL h a i x) b j ↔ isR h b j := by unfold isR; rw [gV_wL]
theorem rf_bL (h : VG) (a : Nat) (F : Nat → Int64) (b j t : Nat) : rf (bL h a F) b j t ↔ rf h b j t := by unfold rf; rw [gV_bL]
theorem isR_bL (h : VG) (a : Nat) (F : Nat → Int64) (b j : Nat) : isR (bL h a F) b j ↔ isR h b j := by unfold isR; rw [gV_bL]
theorem rf_wD (h : VG) (a i : Nat) (x : UInt64) (b j t : Nat) : rf (wD h a i x) b j t ↔ rf h b j t := by unfold rf; rw [gV_wD]
theorem isR_wD (h : VG) (a i : Nat) (x : UInt64) (b j : Nat) : isR (wD h a i x) b j ↔ isR h b j := by unfold isR; rw [gV_wD]
theorem rf_bD (h : VG) (a : Nat) (F : Nat → UInt64) (b j t : Nat) : rf (bD h a F) b j t ↔ rf h b j t := by unfold rf; rw [gV_bD]
theorem isR_bD (h : VG) (a : Nat) (F : Nat → UInt64) (b j : Nat) : isR (bD h a F) b j ↔ isR h b j := by unfold isR; rw [gV_bD]
theorem pI_2 (h : VG) (a k : Nat) (x : Int32) : (pI h a k x).2 = h.2 := rfl
theorem pL_2 (h : VG) (a k : Nat) (x : Int64) : (pL h a k x).2 = h.2 := rfl
theorem pD_2 (h : VG) (a k : Nat) (x : UInt64) : (pD h a k x).2 = h.2 := rfl
theorem wI_2 (h : VG) (a k : Nat) (x : Int32) : (wI h a k x).2 = h.2 := rfl
theorem wL_2 (h : VG) (a k : Nat) (x : Int64) : (wL h a k x).2 = h.2 := rfl
theorem wD_2 (h : VG) (a k : Nat) (x : UInt64) : (wD h a k x).2 = h.2 := rfl
theorem bI_2 (h : VG) (a : Nat) (F : Nat → Int32) : (bI h a F).2 = h.2 := rfl
theorem rdI_bI (h : VG) (a : Nat) (F : Nat → Int32) (b : Nat) : rdI (bI h a F) b ↔ rdI h b := by unfold rdI; simp only [arI_bI]
theorem rdB_bI (h : VG) (a : Nat) (F : Nat → Int32) (b : Nat) : rdB (bI h a F) b ↔ rdB h b := by unfold rdB; simp only [arI_bI]
theorem rdR_bI (h : VG) (a : Nat) (F : Nat → Int32) (b : Nat) : rdR (bI h a F) b ↔ rdR h b := by unfold rdR; simp only [arR_bI]
theorem bL_2 (h : VG) (a : Nat) (F : Nat → Int64) : (bL h a F).2 = h.2 := rfl
theorem rdI_bL (h : VG) (a : Nat) (F : Nat → Int64) (b : Nat) : rdI (bL h a F) b ↔ rdI h b := by unfold rdI; simp only [arI_bL]
theorem rdB_bL (h : VG) (a : Nat) (F : Nat → Int64) (b : Nat) : rdB (bL h a F) b ↔ rdB h b := by unfold rdB; simp only [arI_bL]
theorem rdR_bL (h : VG) (a : Nat) (F : Nat → Int64) (b : Nat) : rdR (bL h a F) b ↔ rdR h b := by unfold rdR; simp only [arR_bL]
theorem bD_2 (h : VG) (a : Nat) (F : Nat → UInt64) : (bD h a F).2 = h.2 := rfl
theorem rdI_bD (h : VG) (a : Nat) (F : Nat → UInt64) (b : Nat) : rdI (bD h a F) b ↔ rdI h b := by unfold rdI; simp only [arI_bD]
theorem rdB_bD (h : VG) (a : Nat) (F : Nat → UInt64) (b : Nat) : rdB (bD h a F) b ↔ rdB h b := by unfold rdB; simp only [arI_bD]
theorem rdR_bD (h : VG) (a : Nat) (F : Nat → UInt64) (b : Nat) : rdR (bD h a F) b ↔ rdR h b := by unfold rdR; simp only [arR_bD]
theorem rdI_pI (h : VG) (a k : Nat) (x : Int32) (b : Nat) : rdI (pI h a k x) b ↔ rdI h b := by unfold rdI; simp only [arI_pI]
theorem rdB_pI (h : VG) (a k : Nat) (x : Int32) (b : Nat) : rdB (pI h a k x) b ↔ rdB h b := by unfold rdB; simp only [arI_pI]
theorem rdR_pI (h : VG) (a k : Nat) (x : Int32) (b : Nat) : rdR (pI h a k x) b ↔ rdR h b := by unfold rdR; simp only [arR_pI]
theorem rdI_pL (h : VG) (a k : Nat) (x : Int64) (b : Nat) : rdI (pL h a k x) b ↔ rdI h b := by unfold rdI; simp only [arI_pL]
theorem rdB_pL (h : VG) (a k : Nat) (x : Int64) (b : Nat) : rdB (pL h a k x) b ↔ rdB h b := by unfold rdB; simp only [arI_pL]
theorem rdR_pL (h : VG) (a k : Nat) (x : Int64) (b : Nat) : rdR (pL h a k x) b ↔ rdR h b := by unfold rdR; simp only [arR_pL]
theorem rdI_pD (h : VG) (a k : Nat) (x : UInt64) (b : Nat) : rdI (pD h a k x) b ↔ rdI h b := by unfold rdI; simp only [arI_pD]
theorem rdB_pD (h : VG) (a k : Nat) (x : UInt64) (b : Nat) : rdB (pD h a k x) b ↔ rdB h b := by unfold rdB; simp only [arI_pD]
theorem rdR_pD (h : VG) (a k : Nat) (x : UInt64) (b : Nat) : rdR (pD h a k x) b ↔ rdR h b := by unfold rdR; simp only [arR_pD]
theorem rdI_wI (h : VG) (a k : Nat) (x : Int32) (b : Nat) : rdI (wI h a k x) b ↔ rdI h b := by unfold rdI; simp only [arI_wI]
theorem rdB_wI (h : VG) (a k : Nat) (x : Int32) (b : Nat) : rdB (wI h a k x) b ↔ rdB h b := by unfold rdB; simp only [arI_wI]
theorem rdR_wI (h : VG) (a k : Nat) (x : Int32) (b : Nat) : rdR (wI h a k x) b ↔ rdR h b := by unfold rdR; simp only [arR_wI]
theorem rdI_wL (h : VG) (a k : Nat) (x : Int64) (b : Nat) : rdI (wL h a k x) b ↔ rdI h b := by unfold rdI; simp only [arI_wL]
theorem rdB_wL (h : VG) (a k : Nat) (x : Int64) (b : Nat) : rdB (wL h a k x) b ↔ rdB h b := by unfold rdB; simp only [arI_wL]
theorem rdR_wL (h : VG) (a k : Nat) (x : Int64) (b : Nat) : rdR (wL h a k x) b ↔ rdR h b := by unfold rdR; simp only [arR_wL]
theorem rdI_wD (h : VG) (a k : Nat) (x : UInt64) (b : Nat) : rdI (wD h a k x) b ↔ rdI h b := by unfold rdI; simp only [arI_wD]
theorem rdB_wD (h : VG) (a k : Nat) (x : UInt64) (b : Nat) : rdB (wD h a k x) b ↔ rdB h b := by unfold rdB; simp only [arI_wD]
theorem rdR_wD (h : VG) (a k : Nat) (x : UInt64) (b : Nat) : rdR (wD h a k x) b ↔ rdR h b := by unfold rdR; simp only [arR_wD]
