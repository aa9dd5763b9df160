/-! the instructions that read the tables or touch the heap -/
theorem vsw_spec {pc : Nat} {d : Int} {x : Int32} {L : VL} {st : List Value} {h : VG} {q : Nat × VL × List Value × VG} : ∀ (os : List Int) (lo : Int), vsw pc d x L st h lo os = some q → (∃ (j : Nat) (o : Int), os[j]? = some o ∧ x = Int32.ofInt (lo + j) ∧ vgo pc o L st h = some q) ∨ ((∀ j : Nat, j < os.length → ¬ x = Int32.ofInt (lo + j)) ∧ vgo pc d L st h = some q)
  | [], lo, hq => Or.inr ⟨fun j hj => absurd hj (Nat.not_lt_zero j), hq⟩
  | o :: os, lo, hq => by
    unfold vsw at hq
    split at hq
    · rename_i hx
      exact Or.inl ⟨0, o, rfl, by rw [hx]; simp, hq⟩
    · rename_i hx
      rcases vsw_spec os (lo + 1) hq with ⟨j, o', h1, h2, h3⟩ | ⟨h1, h2⟩
      · exact Or.inl ⟨j + 1, o', by simpa using h1, by rw [h2]; congr 1; omega, h3⟩
      · refine Or.inr ⟨fun j hj => ?_, h2⟩
        cases j with
        | zero => simpa using hx
        | succ j =>
          have := h1 j (by simpa using hj)
          rwa [show lo + 1 + (j : Int) = lo + ((j + 1 : Nat) : Int) by omega] at this
theorem vofInt {k : Int} (h1 : -2147483648 ≤ k) (h2 : k ≤ 2147483647) : (Int32.ofInt k).toInt = k := Int32.toInt_ofInt_of_le (by simpa using h1) (by omega)
theorem vofInt_toInt (x : Int32) : Int32.ofInt x.toInt = x := by simp
theorem t_tableswitch_ {len m pc pc1 : Nat} {st st1 : List Value} {L L1 : VL} {h h1 : VG} {d lo hi : Int} {offs : Array Int} (hs : stp (.tableswitch d lo hi offs) m pc L st h = some (pc1, L1, st1, h1)) : VT (.tableswitch d lo hi offs) len m pc st L h pc1 L1 st1 h1 := by
  simp only [stp] at hs
  split at hs
  · rename_i x st0
    split at hs
    · rename_i hb0
      obtain ⟨b1, b2, b3⟩ := hb0
      rcases vsw_spec _ _ hs with ⟨j, o, e1, e2, e3⟩ | ⟨e1, e3⟩
      · obtain ⟨ht, rfl, rfl, rfl⟩ := vgo_eq e3
        have hj : j < offs.size := by rw [← Array.length_toList]; exact (List.getElem?_eq_some_iff.mp e1).1
        have hx : x.toInt = lo + j := by rw [e2]; exact vofInt (by omega) (by omega)
        refine VT.pure fun p l e R s mi args below meth c H locs cells slots ls Q hx1 hb hd k => lv_tableIn hx1 hb hd (by omega) (by omega) (off := o) ?_ ht k
        rw [show (x.toInt - lo).toNat = j by omega, ← Array.getElem?_toList]
        exact e1
      · obtain ⟨ht, rfl, rfl, rfl⟩ := vgo_eq e3
        refine VT.pure fun p l e R s mi args below meth c H locs cells slots ls Q hx1 hb hd k => lv_tableOut hx1 hb hd ?_ ht k
        rcases Int.lt_or_le x.toInt lo with q | q
        · exact Or.inl q
        · refine Or.inr ?_
          rcases Int.lt_or_le hi x.toInt with q2 | q2
          · exact q2
          · have := e1 (x.toInt - lo).toNat (by rw [Array.length_toList]; omega)
            rw [show lo + ((x.toInt - lo).toNat : Int) = x.toInt by omega, vofInt_toInt] at this
            exact absurd rfl this
    · cases hs
  · cases hs
theorem vlk_spec {pc : Nat} {d : Int} {x : Int32} {L : VL} {st : List Value} {h : VG} {q : Nat × VL × List Value × VG} : ∀ (ps : List (Int × Int)), ps.all (fun q => decide (-2147483648 ≤ q.1 ∧ q.1 ≤ 2147483647)) = true → vlk pc d x L st h ps = some q → vgo pc (Op.lookupswitch.offset ps d x.toInt) L st h = some q
  | [], _, hq => hq
  | (a, o) :: ps, ha, hq => by
    simp only [List.all_cons, Bool.and_eq_true, decide_eq_true_eq] at ha
    unfold vlk at hq
    show vgo pc (if a = x.toInt then o else Op.lookupswitch.offset ps d x.toInt) L st h = some q
    dsimp only at hq
    split at hq
    · rename_i hx
      rw [if_pos (by rw [hx, vofInt ha.1.1 ha.1.2])]
      exact hq
    · rename_i hx
      rw [if_neg (fun e => hx (by rw [e, vofInt_toInt]))]
      exact vlk_spec ps ha.2 hq
theorem t_lookupswitch_ {len m pc pc1 : Nat} {st st1 : List Value} {L L1 : VL} {h h1 : VG} {d : Int} {ps : Array (Int × Int)} (hs : stp (.lookupswitch d ps) m pc L st h = some (pc1, L1, st1, h1)) : VT (.lookupswitch d ps) len m pc st L h pc1 L1 st1 h1 := by
  simp only [stp] at hs
  split at hs
  · split at hs
    · rename_i hb0
      obtain ⟨ht, rfl, rfl, rfl⟩ := vgo_eq (vlk_spec _ hb0.2 hs)
      exact VT.pure fun p l e R s mi args below meth c H locs cells slots ls Q hx hb hd k => lv_lookup hx hb hd hb0.1 rfl ht k
    · cases hs
  · cases hs
/-- a row that a table's search finds stands in the table -/
theorem vfind {α : Type} {l : List (Nat × Nat × α)} {oc idx : Nat} {v : α} (h : (l.find? (fun e => e.1 == oc && e.2.1 == idx)).map (fun e => e.2.2) = some v) : (oc, idx, v) ∈ l := by
  cases hf : l.find? (fun e => e.1 == oc && e.2.1 == idx) with
  | none => rw [hf] at h; cases h
  | some e =>
    rw [hf] at h
    have h1 := List.find?_some hf
    have h2 := List.mem_of_find?_eq_some hf
    rw [Bool.and_eq_true] at h1
    obtain ⟨a, b, w⟩ := e
    have e1 : a = oc := by simpa using h1.1
    have e2 : b = idx := by simpa using h1.2
    subst e1; subst e2
    cases h
    exact h2
theorem vCst_ok {oc idx p : Nat} {v : Value} (h : vCst oc idx = some (v, p)) : vQok (oc, idx, v, p) = true := List.all_eq_true.mp vKt_ok _ (vfind h)
theorem t_ldc_w_ {len m pc pc1 : Nat} {st st1 : List Value} {L L1 : VL} {h h1 : VG} {idx : Nat} (hv : vlen (.ldc_w idx) len = true) (hs : stp (.ldc_w idx) m pc L st h = some (pc1, L1, st1, h1)) : VT (.ldc_w idx) len m pc st L h pc1 L1 st1 h1 := by
  obtain rfl : len = 3 := by simpa [vlen] using hv
  simp only [stp] at hs
  split at hs
  · rename_i v q hc
    cases hs
    refine ⟨⟨Nat.le_refl _, Nat.le_refl _, rfl⟩, fun p l e R s mi args below meth c H locs ls Q g cy D k0 hd hC hI hl _ _ _ k => ?_⟩
    exact lv_ldcw hC.1 hC.2.1 hC.2.2.2.1 (hC.2.2.2.2.1 _ (vAt_mem (vCst_ok hc))) hd (k H locs ls hI hl)
  · cases hs
theorem t_ldc2_w_ {len m pc pc1 : Nat} {st st1 : List Value} {L L1 : VL} {h h1 : VG} {idx : Nat} (hv : vlen (.ldc2_w idx) len = true) (hs : stp (.ldc2_w idx) m pc L st h = some (pc1, L1, st1, h1)) : VT (.ldc2_w idx) len m pc st L h pc1 L1 st1 h1 := by
  obtain rfl : len = 3 := by simpa [vlen] using hv
  simp only [stp] at hs
  split at hs
  · rename_i v q hc
    cases hs
    refine ⟨⟨Nat.le_refl _, Nat.le_refl _, rfl⟩, fun p l e R s mi args below meth c H locs ls Q g cy D k0 hd hC hI hl _ _ _ k => ?_⟩
    exact lv_ldc2 hC.1 hC.2.1 hC.2.2.2.1 (hC.2.2.2.2.1 _ (vAt_mem (vCst_ok hc))) hd (k H locs ls hI hl)
  · rename_i v q hc
    cases hs
    refine ⟨⟨Nat.le_refl _, Nat.le_refl _, rfl⟩, fun p l e R s mi args below meth c H locs ls Q g cy D k0 hd hC hI hl _ _ _ k => ?_⟩
    exact lv_ldc2d hC.1 hC.2.1 hC.2.2.2.1 (hC.2.2.2.2.1 _ (vAt_mem (vCst_ok hc))) hd (k H locs ls hI hl)
  · cases hs
theorem t_ldc_ {len m pc pc1 : Nat} {st st1 : List Value} {L L1 : VL} {h h1 : VG} {idx : Nat} (hv : vlen (.ldc idx) len = true) (hs : stp (.ldc idx) m pc L st h = some (pc1, L1, st1, h1)) : VT (.ldc idx) len m pc st L h pc1 L1 st1 h1 := by
  obtain rfl : len = 2 := by simpa [vlen] using hv
  simp only [stp] at hs
  split at hs
  · rename_i q hc
    unfold vStr at hc
    split at hc
    · rename_i ho
      cases hc
      cases hs
      refine ⟨⟨Nat.le_refl _, Nat.le_refl _, rfl⟩, fun p l e R s mi args below meth c H locs ls Q g cy D k0 hd hC hI hl _ _ _ k => ?_⟩
      obtain ⟨z, w, e1, -, e2, -⟩ := hI.2.2.2.2.2.2.2.2
      have hown := hC.2.2.2.1
      rw [ho.1] at hown
      rw [ho.2] at hd
      have k2 := k H locs ls hI hl
      rw [e1] at k2
      exact va_ldcS hC.1 hC.2.1 (own := RX10) hown e2 hd k2
    · cases hc
  · cases hs
theorem t_getstatic_ {len m pc pc1 : Nat} {st st1 : List Value} {L L1 : VL} {h h1 : VG} {idx : Nat} (hv : vlen (.getstatic idx) len = true) (hs : stp (.getstatic idx) m pc L st h = some (pc1, L1, st1, h1)) : VT (.getstatic idx) len m pc st L h pc1 L1 st1 h1 := by
  obtain rfl : len = 3 := by simpa [vlen] using hv
  simp only [stp] at hs
  split at hs
  · rename_i kk q hc
    cases hs
    have ho := List.all_eq_true.mp vSt_ok _ (vfind hc)
    unfold vSok at ho
    rw [Bool.and_eq_true] at ho
    refine ⟨⟨Nat.le_refl _, Nat.le_refl _, rfl⟩, fun p l e R s mi args below meth c H locs ls Q g cy D k0 hd hC hI hl _ _ _ k => ?_⟩
    exact va_gets hC.1 hC.2.1 (hI.2.2.2.2.2.2.2.1 kk (of_decide_eq_true ho.1)) hI.2.2.2.2.1 hC.2.2.2.1 (hC.2.2.2.2.1 _ (vAt_mem ho.2)) (fun _ z => z) hd (k H locs ls hI hl)
  · cases hs
theorem vCl_in {ci : Nat} {q : vw_C} (hc : vwCl[ci]? = some q) : ∀ w ∈ u_ws q.1 q.2.1 q.2.2, w ∈ vW0 := by
  intro w hw
  have h1 := List.all_eq_true.mp (List.all_eq_true.mp vCl_ok _ (List.mem_of_getElem? hc)) w hw
  rw [Bool.and_eq_true] at h1
  exact List.mem_filter.mpr ⟨of_decide_eq_true h1.1, h1.2⟩
theorem vFld_ok {oc idx ci k p : Nat} {q : vw_C} (h : vFld oc idx = some (ci, k, p)) (hc : vwCl[ci]? = some q) : k < q.2.2 ∧ Cond.fieldLink (vCname oc) idx (q.2.1 k).1 (q.2.1 k).2.1 (q.2.1 k).2.2.1 ∈ vW0 := by
  have h1 := List.all_eq_true.mp vFt_ok _ (vfind h)
  unfold vFok at h1
  dsimp only at h1
  rw [hc] at h1
  dsimp only at h1
  rw [Bool.and_eq_true] at h1
  exact ⟨of_decide_eq_true h1.1, vAt_mem h1.2⟩
theorem vwCl_lt {ci : Nat} (h : ci < 12) : ∃ q, vwCl[ci]? = some q := ⟨vwCl[ci]'(show ci < vwCl.length from h), List.getElem?_eq_getElem _⟩
theorem t_getfield_ {len m pc pc1 : Nat} {st st1 : List Value} {L L1 : VL} {h h1 : VG} {idx : Nat} (hv : vlen (.getfield idx) len = true) (hs : stp (.getfield idx) m pc L st h = some (pc1, L1, st1, h1)) : VT (.getfield idx) len m pc st L h pc1 L1 st1 h1 := by
  obtain rfl : len = 3 := by simpa [vlen] using hv
  simp only [stp] at hs
  split at hs
  · rename_i a st0
    split at hs
    · rename_i ci k pl hf
      split at hs
      · rename_i v hg
        cases hs
        refine ⟨⟨Nat.le_refl _, Nat.le_refl _, rfl⟩, fun p l e R s mi args below meth c H locs ls Q g cy D k0 hd hC hI hl _ _ _ kk => ?_⟩
        unfold vgetf at hg
        by_cases h12 : ci = 12
        · rw [if_pos h12] at hg
          subst h12
          have h2 := List.all_eq_true.mp vFt_ok _ (vfind hf)
          unfold vFok at h2
          dsimp only at h2
          have hno : vwCl[12]? = none := List.getElem?_eq_none (show 12 ≤ 12 by omega)
          rw [hno] at h2
          dsimp only at h2
          rw [Bool.and_eq_true, beq_iff_eq, Bool.or_eq_true, Bool.and_eq_true, Bool.and_eq_true, beq_iff_eq, beq_iff_eq] at h2
          obtain ⟨-, h3⟩ := h2
          obtain ⟨q, w, e1, e2, -, -, g2, g3⟩ := hI.2.2.2.2.2.2.2.2
          split at hg
          · rename_i hq
            have hqa : q = a := by rw [e1] at hq; cases hq; rfl
            subst hqa
            rcases h3 with ⟨rfl, h4⟩ | ⟨rfl, h4⟩
            · rw [if_pos rfl] at hg
              cases hg
              have k2 := kk H locs ls hI hl
              rw [e2] at k2
              exact vk_getf hC.1 hC.2.1 g2 hI.2.2.2.2.1 hC.2.2.2.1 (hC.2.2.2.2.1 _ (vAt_mem h4)) (fun _ z => z) hd k2
            · rw [if_neg (by decide)] at hg
              cases hg
              exact vk_getf hC.1 hC.2.1 g3 hI.2.2.2.2.1 hC.2.2.2.1 (hC.2.2.2.2.1 _ (vAt_mem h4)) (fun _ z => z) hd (kk H locs ls hI hl)
          · cases hg
        · rw [if_neg h12] at hg
          split at hg
          · rename_i c0 fs ha
            split at hg
            · rename_i hcc
              subst hcc
              by_cases hlt : c0 < 12
              · obtain ⟨q, hq⟩ := vwCl_lt hlt
                obtain ⟨o1, o2⟩ := vFld_ok hf hq
                have hd0 := (hI.2.2.2.2.2.1 a).2 c0 fs ha hlt
                have he := vWs_get (cy := cy) (g := g) (h := h) hd0
                rw [ha] at he
                exact va_get hC.1 hC.2.1 hC.2.2.2.2.1 (vCl_in hq) hC.2.2.2.1 hC.2.2.2.2.2.2.2.2.2.1 hI.2.2.2.1 (a - g) he hq k o1 (hC.2.2.2.2.1 _ o2) (fun _ z => z) hg hd (kk H locs ls hI hl)
              · have h2 := List.all_eq_true.mp vFt_ok _ (vfind hf)
                unfold vFok at h2
                dsimp only at h2
                have hno : vwCl[c0]? = none := List.getElem?_eq_none (show 12 ≤ c0 by omega)
                rw [hno] at h2
                dsimp only at h2
                rw [Bool.and_eq_true, beq_iff_eq] at h2
                exact absurd h2.1 h12
            · cases hg
          · cases hg
      · cases hs
    · cases hs
  · cases hs
/-- a cell is replaced by one of its own kind -/
def vsame (c d : VE) : Prop := (∃ t x y, c = .inl (t, x) ∧ d = .inl (t, y) ∧ t < 8) ∨ ∃ k x y, c = .inr (k, x) ∧ d = .inr (k, y) ∧ k < 12
theorem vsame_in {g a : Nat} {h : VG} {d : VE} (hd : vDom g h) (hs : vsame (h.1 a) d) : g ≤ a ∧ a < h.2.1 := by
  rcases hs with ⟨t, x, y, e1, -, e3⟩ | ⟨k, x, y, e1, -, e3⟩
  · exact (hd a).1 t x e1 e3
  · exact (hd a).2 k x e1 e3
theorem VI.put {g : Nat} {cy : Nat → ClassId} {D : va_G} {s : State} {h : VG} {H H1 : Heap} {locs locs1 : List Loc} {a : Nat} {d : VE} (hI : VI g cy D s h H locs) (hs : vsame (h.1 a) d) (hP : va_P D vwCl ((vWs cy g h).set (a - g) (a, vcell cy d)) H1) (hS : va_S (vA g) s.heap H1 locs1) : VI g cy D s (hset h a d) H1 locs1 := by
  have hin := vsame_in hI.2.2.2.2.2.1 hs
  rw [vWs_set hin] at hP
  refine ⟨hI.1, hI.2.1, hI.2.2.1, hP, hS, ?_, ?_, hI.2.2.2.2.2.2.2⟩
  · intro x
    show (∀ t y, (if x = a then d else h.1 x) = .inl (t, y) → t < 8 → g ≤ x ∧ x < h.2.1) ∧ ∀ c fs, (if x = a then d else h.1 x) = .inr (c, fs) → c < 12 → g ≤ x ∧ x < h.2.1
    by_cases hx : x = a
    · subst hx
      exact ⟨fun _ _ _ _ => hin, fun _ _ _ _ => hin⟩
    · rw [if_neg hx]
      exact hI.2.2.2.2.2.1 x
  · intro x
    show (∀ t n f, (if x = a then d else h.1 x) = .inl (t, n, f) → ¬ t < 8 → _) ∧ True
    by_cases hx : x = a
    · subst hx
      rw [if_pos rfl]
      rcases hs with ⟨t, u, y, -, e2, e3⟩ | ⟨k, u, y, -, e2, e3⟩
      · subst e2
        refine ⟨fun t' n f e => ?_, trivial⟩
        cases e
        intro q
        exact absurd e3 q
      · subst e2
        exact ⟨fun t' n f e => (by cases e), trivial⟩
    · rw [if_neg hx]
      exact hI.2.2.2.2.2.2.1 x
/-- how large the heap is, by what the machine's own books say -/
theorem vsz {p : Program} {l : Launch} {e : Env} {R : Room} {s : State} {mi : MethodId} {args : Array Value} {below : List Frame} {meth : Method} {c : Code} {H : Heap} {locs : List Loc} {slots : Nat} {Q : State → Prop} {f : JFrame} {g : Nat} {cy : Nat → ClassId} {D : va_G} {h : VG} (hI : VI g cy D s h H locs) (kk : H.size = h.2.1 → W p l e R s mi args below meth c H locs (h.2.1 - s.heap.size) slots Q f) : W p l e R s mi args below meth c H locs (h.2.1 - s.heap.size) slots Q f := by
  intro T hT X
  refine kk ?_ T hT X
  have h1 : T.heap.size ≤ s.heap.size + (h.2.1 - s.heap.size) := X.same.2.2.1
  rw [hT] at h1
  have h2 := hI.2.2.2.2.1.1
  have h3 := hI.2.1
  by_cases hg : g < h.2.1
  · have h4 : h.2.1 - 1 < H.size := (hI.2.2.2.1 _ _ (vWs_get (cy := cy) (g := g) (h := h) (a := h.2.1 - 1) (by omega))).lt
    omega
  · have h5 := hI.2.2.1
    omega
theorem vht {cy : Nat → ClassId} {D : va_G} {p : Program} {s : State} {mi : MethodId} {meth : Method} {c : Code} {m : Nat} {R : Room} {args : Array Value} (hC : VC cy D p s mi meth c m R args) : va_K D vwCl (vtys cy) s := hC.2.2.2.2.2.2.2.2.2.1
