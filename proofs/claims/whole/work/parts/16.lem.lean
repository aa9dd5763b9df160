/-! small words and lemmas for the walks by equations -/
def vSmall (j : Nat) : Int32 := [1, 1, 2, 2, 4, 4, 4, 8, 8, 4].getD j 0
def vWide (j : Nat) : Int32 := [1, 1, 2, 2, 4, 8, 4, 8, 8, 8].getD j 0
theorem catS_n (st : List Value) (hs : st = []) : catS st = 0 := by
  subst hs
  rfl
theorem catS_nil : catS [] = 0 := catS_n _ (Eq.refl [])
theorem catS_c (v : Value) (st s2 : List Value) (hs : s2 = v :: st) : catS s2 = v.category + catS st := by
  subst hs
  rfl
theorem catS_i (x : Int32) (st : List Value) : catS (.int x :: st) = 1 + catS st := catS_c (.int x) st _ (Eq.refl _)
theorem catS_r (x : Nat) (st : List Value) : catS (.ref x :: st) = 1 + catS st := catS_c (.ref x) st _ (Eq.refl _)
theorem catS_l (x : Int64) (st : List Value) : catS (.long x :: st) = 2 + catS st := catS_c (.long x) st _ (Eq.refl _)
theorem catS_d (x : UInt64) (st : List Value) : catS (.double x :: st) = 2 + catS st := catS_c (.double x) st _ (Eq.refl _)
theorem lcmp_lt (x y : Int64) : lg_cmp x y < 0 ↔ x < y := by
  unfold lg_cmp
  by_cases h1 : x > y
  · rw [if_pos h1]
    exact ⟨fun z => absurd z (by decide), fun z => absurd z (Int64.not_lt.mpr (Int64.le_of_lt h1))⟩
  · rw [if_neg h1]
    by_cases h2 : x = y
    · rw [if_pos h2]
      exact ⟨fun z => absurd z (by decide), fun z => absurd z (by rw [h2]; exact Int64.lt_irrefl)⟩
    · rw [if_neg h2]
      refine ⟨fun _ => ?_, fun _ => by decide⟩
      rw [Int64.lt_iff_toInt_lt]
      have h3 : ¬ y.toInt < x.toInt := fun z => h1 (Int64.lt_iff_toInt_lt.mpr z)
      have h4 : ¬ x.toInt = y.toInt := fun z => h2 (Int64.toInt_inj.mp z)
      omega
theorem lcmp_eq (x y : Int64) : lg_cmp x y = 0 ↔ x = y := by
  unfold lg_cmp
  by_cases h1 : x > y
  · rw [if_pos h1]
    exact ⟨fun z => absurd z (by decide), fun z => absurd h1 (by rw [z]; exact Int64.lt_irrefl)⟩
  · rw [if_neg h1]
    by_cases h2 : x = y
    · rw [if_pos h2]
      exact ⟨fun _ => h2, fun _ => rfl⟩
    · rw [if_neg h2]
      exact ⟨fun z => absurd z (by decide), fun z => absurd z h2⟩
theorem lcmp_le (x y : Int64) : lg_cmp x y ≤ 0 ↔ x ≤ y := by
  have h1 := lcmp_lt x y
  have h2 := lcmp_eq x y
  rw [Int32.le_iff_lt_or_eq, h1, h2, Int64.le_iff_lt_or_eq]
/-- the two static rows of bytes by kinds, below the objects -/
def St (h : VG) (g : Nat) : Prop := ∃ sa wa, h.2.2.2 0 = .ref sa ∧ h.2.2.2 1 = .ref wa ∧ sa < g ∧ wa < g ∧ rdI h sa ∧ rdI h wa ∧ aln h sa = 10 ∧ aln h wa = 10 ∧ (∀ j, j < 10 → aI h sa j = vSmall j) ∧ ∀ j, j < 10 → aI h wa j = vWide j
theorem rdI_0 {h : VG} {a : Nat} (q : arI h a 0) : rdI h a := Or.inl q
theorem rdB_2 {h : VG} {a : Nat} (q : arI h a 2) : rdB h a := Or.inl q
theorem rdB_3 {h : VG} {a : Nat} (q : arI h a 3) : rdB h a := Or.inr (Or.inl q)
