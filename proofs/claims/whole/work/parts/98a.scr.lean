/-! rows that no instruction writes stay as they are -/
def K20 (h h1 : VG) : Prop := h.2.1 ≤ h1.2.1 ∧ (∀ b c, b < h.2.1 → h.1 b = .inl (20, c) → h1.1 b = .inl (20, c)) ∧ ∀ b c fs, b < h.2.1 → h.1 b = .inr (c, fs) → ∃ fs', h1.1 b = .inr (c, fs')
theorem K20.rfl (h : VG) : K20 h h := ⟨Nat.le_refl _, fun _ _ _ z => z, fun _ _ fs _ z => ⟨fs, z⟩⟩
theorem K20.tr {h h1 h2 : VG} (x : K20 h h1) (y : K20 h1 h2) : K20 h h2 := ⟨Nat.le_trans x.1 y.1, fun b c hb z => y.2.1 b c (Nat.lt_of_lt_of_le hb x.1) (x.2.1 b c hb z), fun b c fs hb z => by
  obtain ⟨f1, z1⟩ := x.2.2 b c fs hb z
  exact y.2.2 b c f1 (Nat.lt_of_lt_of_le hb x.1) z1⟩
theorem K20_new (h : VG) (c : VE) (n : Nat) : K20 h (hnew h c n) := by
  refine ⟨Nat.le_succ _, fun b c' hb z => ?_, fun b c' fs hb z => ⟨fs, ?_⟩⟩
  · show (if b = h.2.1 then c else h.1 b) = _
    rw [if_neg (Nat.ne_of_lt hb)]
    exact z
  · show (if b = h.2.1 then c else h.1 b) = _
    rw [if_neg (Nat.ne_of_lt hb)]
    exact z
theorem K20_set {h : VG} {a : Nat} {c : VE} (hn : ∀ c', ¬ h.1 a = .inl (20, c')) (hm : ∀ c0 fs, h.1 a = .inr (c0, fs) → ∃ fs', c = .inr (c0, fs')) : K20 h (hset h a c) := by
  refine ⟨Nat.le_refl _, fun b c' hb z => ?_, fun b c' fs hb z => ?_⟩
  · show (if b = a then c else h.1 b) = _
    by_cases e : b = a
    · rw [e] at z
      exact absurd z (hn c')
    · rw [if_neg e]
      exact z
  · show ∃ fs', (if b = a then c else h.1 b) = _
    by_cases e : b = a
    · rw [e] at z
      rw [if_pos e]
      exact hm _ _ z
    · rw [if_neg e]
      exact ⟨fs, z⟩
theorem viast_20 {h h1 : VG} {a : Nat} {i x : Int32} (hs : viast h a i x = some h1) : K20 h h1 := by
  unfold viast at hs
  repeat' split at hs
  all_goals first
    | (cases hs; exact K20_set (fun c' z => by simp_all <;> omega) (fun c0 fs z => by simp_all))
    | cases hs
theorem vbast_20 {h h1 : VG} {a : Nat} {i x : Int32} (hs : vbast h a i x = some h1) : K20 h h1 := by
  unfold vbast at hs
  repeat' split at hs
  all_goals first
    | (cases hs; exact K20_set (fun c' z => by simp_all <;> omega) (fun c0 fs z => by simp_all))
    | cases hs
theorem vlast_20 {h h1 : VG} {a : Nat} {i : Int32} {x : Int64} (hs : vlast h a i x = some h1) : K20 h h1 := by
  unfold vlast at hs
  repeat' split at hs
  all_goals first
    | (cases hs; exact K20_set (fun c' z => by simp_all <;> omega) (fun c0 fs z => by simp_all))
    | cases hs
theorem vdast_20 {h h1 : VG} {a : Nat} {i : Int32} {x : UInt64} (hs : vdast h a i x = some h1) : K20 h h1 := by
  unfold vdast at hs
  repeat' split at hs
  all_goals first
    | (cases hs; exact K20_set (fun c' z => by simp_all <;> omega) (fun c0 fs z => by simp_all))
    | cases hs
theorem vaast_20 {h h1 : VG} {a : Nat} {i : Int32} {v : Nat} (hs : vaast h a i v = some h1) : K20 h h1 := by
  unfold vaast at hs
  repeat' split at hs
  all_goals first
    | (cases hs; exact K20_set (fun c' z => by simp_all <;> omega) (fun c0 fs z => by simp_all))
    | cases hs
theorem vcopy_20 {h h1 : VG} {s d : Nat} {sp dp n : Int32} (hs : vcopy h s d sp dp n = some h1) : K20 h h1 := by
  unfold vcopy at hs
  repeat' split at hs
  all_goals first
    | (cases hs; exact K20_set (fun c' z => by simp_all <;> omega) (fun c0 fs z => by simp_all))
    | cases hs
theorem vsw_h {pc : Nat} {d : Int} {x : Int32} {L : VL} {st : List Value} {h : VG} : ∀ (os : List Int) (lo : Int) (pc1 : Nat) (L1 : VL) (st1 : List Value) (h1 : VG), vsw pc d x L st h lo os = some (pc1, L1, st1, h1) → h1 = h := by
  intro os
  induction os with
  | nil =>
    intro lo pc1 L1 st1 h1 hs
    unfold vsw vgo at hs
    split at hs
    · cases hs
      rfl
    · cases hs
  | cons o os ih =>
    intro lo pc1 L1 st1 h1 hs
    unfold vsw at hs
    split at hs
    · unfold vgo at hs
      split at hs
      · cases hs
        rfl
      · cases hs
    · exact ih _ _ _ _ _ hs
theorem vlk_h {pc : Nat} {d : Int} {x : Int32} {L : VL} {st : List Value} {h : VG} : ∀ (os : List (Int × Int)) (pc1 : Nat) (L1 : VL) (st1 : List Value) (h1 : VG), vlk pc d x L st h os = some (pc1, L1, st1, h1) → h1 = h := by
  intro os
  induction os with
  | nil =>
    intro pc1 L1 st1 h1 hs
    unfold vlk vgo at hs
    split at hs
    · cases hs
      rfl
    · cases hs
  | cons o os ih =>
    intro pc1 L1 st1 h1 hs
    unfold vlk at hs
    split at hs
    · unfold vgo at hs
      split at hs
      · cases hs
        rfl
      · cases hs
    · exact ih _ _ _ _ hs
theorem vprim_20 {k pc pc1 : Nat} {L L1 : VL} {st st1 : List Value} {h h1 : VG} (hs : vprim k pc L st h = some (pc1, L1, st1, h1)) : K20 h h1 := by
  unfold vprim at hs
  repeat' split at hs
  all_goals first
    | (cases hs; exact K20.rfl _)
    | (cases hs; exact vcopy_20 (by assumption))
    | cases hs
set_option maxHeartbeats 4000000 in
theorem stp_20 {i : Instr} {m pc pc1 : Nat} {L L1 : VL} {st st1 : List Value} {h h1 : VG} (hs : stp i m pc L st h = some (pc1, L1, st1, h1)) : K20 h h1 := by
  unfold stp at hs
  split at hs
  all_goals try (unfold vldI at hs)
  all_goals try (unfold vldL at hs)
  all_goals try (unfold vldD at hs)
  all_goals try (unfold vldA at hs)
  all_goals try (unfold vstI at hs)
  all_goals try (unfold vstL at hs)
  all_goals try (unfold vstD at hs)
  all_goals try (unfold vstA at hs)
  all_goals try (unfold vi1 at hs)
  all_goals try (unfold vi2 at hs)
  all_goals try (unfold vl1 at hs)
  all_goals try (unfold vl2 at hs)
  all_goals try (unfold vls at hs)
  all_goals try (unfold vd1 at hs)
  all_goals try (unfold vd2 at hs)
  all_goals try (unfold vgo at hs)
  all_goals repeat' split at hs
  all_goals try (unfold vs1 at hs)
  all_goals try (unfold vs2 at hs)
  all_goals try (unfold vif at hs)
  all_goals repeat' split at hs
  all_goals first
    | (cases hs; exact K20.rfl _)
    | (cases hs; exact viast_20 (by assumption))
    | (cases hs; exact vbast_20 (by assumption))
    | (cases hs; exact vlast_20 (by assumption))
    | (cases hs; exact vdast_20 (by assumption))
    | (cases hs; exact vaast_20 (by assumption))
    | (cases hs; exact K20_new _ _ _)
    | (cases hs; exact K20_set (fun c' z => by simp_all <;> omega) (fun c0 fs z => by simp_all))
    | (exact vprim_20 hs)
    | (rw [vsw_h _ _ _ _ _ _ hs]; exact K20.rfl _)
    | (rw [vlk_h _ _ _ _ _ hs]; exact K20.rfl _)
    | cases hs
theorem run_20 : ∀ (n m pc : Nat) (L : VL) (st : List Value) (h : VG) (r : VR), run n m pc L st h = some r → K20 h r.2
  | 0, _, _, _, _, _, _, hr => by simp [run] at hr
  | n + 1, m, pc, L, st, h, r, hr => by
    simp only [run] at hr
    cases hf : fetch m pc with
    | none => rw [hf] at hr; simp at hr
    | some x =>
      obtain ⟨i, len⟩ := x
      rw [hf] at hr
      dsimp only at hr
      cases hv : vret i m st with
      | some v =>
        rw [hv] at hr
        cases hr
        exact K20.rfl _
      | none =>
        rw [hv] at hr
        dsimp only at hr
        cases hc : vcall i m st h with
        | some q =>
          obtain ⟨y, ars, rest⟩ := q
          rw [hc] at hr
          dsimp only at hr
          cases hq : run n y 0 (vEnt ars (mmax y)) [] h with
          | none => rw [hq] at hr; simp at hr
          | some w =>
            obtain ⟨v, h1⟩ := w
            rw [hq] at hr
            dsimp only at hr
            exact (run_20 n _ _ _ _ _ _ hq).tr (run_20 n _ _ _ _ _ _ hr)
        | none =>
          rw [hc] at hr
          dsimp only at hr
          cases hs : stp i m pc L st h with
          | none => rw [hs] at hr; simp at hr
          | some w =>
            obtain ⟨pc1, L1, st1, h1⟩ := w
            rw [hs] at hr
            exact (stp_20 hs).tr (run_20 n _ _ _ _ _ _ hr)
theorem ev_20 {m pc : Nat} {L : VL} {st : List Value} {h : VG} {x : Option Value} {h1 : VG} (e : ev m pc L st h = some (x, h1)) : K20 h h1 := by
  obtain ⟨n, hn⟩ := ev_some.mp e
  exact run_20 n m pc L st h _ hn
/-- the script -/
def SC (h : VG) (b L : Nat) (xs : Nat → Int32) : Prop := b < h.2.1 ∧ h.1 b = .inl (20, L, .inl xs)
theorem SC_k {h h1 : VG} {b L : Nat} {xs : Nat → Int32} (k : K20 h h1) (q : SC h b L xs) : SC h1 b L xs := ⟨Nat.lt_of_lt_of_le q.1 k.1, k.2.1 b _ q.1 q.2⟩
theorem SC_rd {h : VG} {b L : Nat} {xs : Nat → Int32} (q : SC h b L xs) : rdI h b ∧ aln h b = L := by
  obtain ⟨-, q⟩ := q
  refine ⟨?_, ?_⟩
  · exact Or.inr ⟨L, xs, q⟩
  · unfold aln
    rw [q]
theorem K20_cls {h h1 : VG} {a ci : Nat} (k : K20 h h1) (ha : a < h.2.1) (hc : ¬ ci = 12) (ho : ob h a ci) : vcls h1 a ci = true := by
  obtain ⟨fs, e, -⟩ := ho
  obtain ⟨f1, e1⟩ := k.2.2 a ci fs ha e
  unfold vcls
  rw [if_neg hc, e1]
  exact beq_self_eq_true ci
