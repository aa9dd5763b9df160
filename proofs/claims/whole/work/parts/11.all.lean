/-! what the little machine answers, the kit's machine answers: by the fuel -/
theorem VW.moved {g : Nat} {cy : Nat → ClassId} {D : va_G} {h : VG} {u U : State} (hh : U.heap = u.heap) (hv : U.vm = u.vm) (W0 : VW g cy D h u) : VW g cy D h U := by
  have ha : u.vm.Alike U.vm := by rw [hv]; exact Vm.Alike.refl _
  obtain ⟨a1, a2, a3, a4, a5, a6, a7, a8, a9⟩ := W0
  refine ⟨by rw [hh]; exact a1, a2, by rw [hh]; exact a3, va_K.moved ha a4, a5, ?_, ⟨fun k hk => ?_, ?_⟩, fun e he hk => va_Nw.same rfl hv.symm (a8 e he hk), va_AO.moved ha a9.1, va_AO.moved ha a9.2.1, va_AO.moved ha a9.2.2⟩
  · rw [hh]
    intro a
    refine ⟨fun t n f e1 e2 => ?_, trivial⟩
    obtain ⟨fi, b1, b2, b3⟩ := (a6 a).1 t n f e1 e2
    exact ⟨fi, b1, fun z => va_T.moved ha (b2 z), fun z => va_T.moved ha (b3 z)⟩
  · rw [hh]
    exact va_Z.moved ha (a7.1 k hk)
  · rw [hh]
    obtain ⟨q, w, b1, b2, b3, b4, b5, b6⟩ := a7.2
    exact ⟨q, w, b1, b2, vk_R.same hv b3, va_O.moved ha b4, va_OF.moved ha b5, va_OF.moved ha b6⟩
theorem vPc_blind (g : Nat) (cy : Nat → ClassId) (D : va_G) (h : VG) (ars : List Value) : FrameBlind (va_Pc ars (VW g cy D h)) := fun _ _ _ _ q => ⟨q.1, VW.moved rfl rfl q.2⟩
def vQ (g : Nat) (cy : Nat → ClassId) (D : va_G) (v : Option Value) (h1 : VG) : Array Value → State → Outcome → State → Prop := fun _ st o t => o = .returned v ∧ VW g cy D h1 t ∧ va_F (vA g) st t
def vRm (y mc ms : Nat) : Room := { frames := mdep y, cells := mc, slots := ms, locals := mlw y }
def vWd (y : Nat) : List Cond := .code (mnm y) (mcode y) (mmax y) (mret y) :: vW0
/-- the world at a point of a method, as a callee's entry wants it -/
theorem VI.world {g : Nat} {cy : Nat → ClassId} {D : va_G} {p : Program} {s U : State} {mi : MethodId} {meth : Method} {c : Code} {m : Nat} {R : Room} {args : Array Value} {h : VG} {H : Heap} {locs : List Loc} (hC : VC cy D p s mi meth c m R args) (hI : VI g cy D s h H locs) (hsz : H.size = h.2.1) (hU : U.heap = H) (hW : s.WarmedH U.vm) : VW g cy D h U := by
  subst hU
  have ha := hW.alike
  have hk : ∀ a : Nat, a < s.heap.size → ¬ vA g a → U.heap[a]? = s.heap[a]? := hI.2.2.2.2.1.2.1
  refine ⟨hsz, hI.1, hI.2.2.2.1, va_K.moved ha (vht hC), hI.2.2.2.2.2.1, ?_, ⟨fun k hk2 => ?_, ?_⟩, fun e he hk2 => va_Nw.warmM hW (hC.2.2.2.2.2.1 e he hk2), ?_⟩
  · intro a
    refine ⟨fun t n f e1 e2 => ?_, trivial⟩
    obtain ⟨fi, b1, b2, b3⟩ := (hI.2.2.2.2.2.2.1 a).1 t n f e1 e2
    exact ⟨fi, b1, fun z => va_T.kept (va_T.moved ha (b2 z)) hk, fun z => va_T.kept (va_T.moved ha (b3 z)) hk⟩
  · exact va_Z.kept (va_Z.moved ha (hI.2.2.2.2.2.2.2.1 k hk2)) hk
  · obtain ⟨q, w, b1, b2, b3, b4, b5, b6⟩ := hI.2.2.2.2.2.2.2.2
    exact ⟨q, w, b1, b2, vk_R.warm hW b3, va_O.kept (va_O.moved ha b4) hk, va_OF.kept (va_OF.moved ha b5) hk, va_OF.kept (va_OF.moved ha b6) hk⟩
  · exact ⟨va_AO.moved ha hC.2.2.2.2.2.2.2.2.2.2.1, va_AO.moved ha hC.2.2.2.2.2.2.2.2.2.2.2.1, va_AO.moved ha hC.2.2.2.2.2.2.2.2.2.2.2.2⟩
/-- behind a call: the caller's own point -/
theorem VI.back {g : Nat} {cy : Nat → ClassId} {D : va_G} {s st₀ t : State} {h h1 : VG} {H : Heap} {locs L : List Loc} (hI : VI g cy D s h H locs) (hst : h1.2.2.2 = h.2.2.2) (hle : h.2.1 ≤ h1.2.1) (h0 : st₀.heap = H) (hW : VW g cy D h1 t) (hF : va_F (vA g) st₀ t) (hL : ∀ q ∈ L, vA g q.base) (ha : s.vm.Alike t.vm) : VI g cy D s h1 t.heap (locs ++ L) := by
  obtain ⟨a1, a2, a3, a4, a5, a6, a7, a8, a9⟩ := hW
  have hS : va_S (vA g) s.heap t.heap (locs ++ L) := by
    have hz := hF.1
    have hk := hF.2
    rw [h0] at hz hk
    have h1 := hI.2.2.2.2.1
    refine ⟨Nat.le_trans h1.1 hz, fun q e1 e2 => by rw [hk q (Nat.lt_of_lt_of_le e1 h1.1) e2]; exact h1.2.1 q e1 e2, fun q hq => ?_⟩
    rcases List.mem_append.mp hq with z | z
    · exact h1.2.2 q z
    · exact hL q z
  have hk : ∀ a : Nat, a < t.heap.size → ¬ vA g a → s.heap[a]? = t.heap[a]? := by
    intro a _ hn
    have hn2 : a < g := Nat.lt_of_not_le hn
    exact (hS.2.1 a (Nat.lt_of_lt_of_le hn2 hI.2.2.1) hn).symm
  have hb := ha.symm
  refine ⟨a2, Nat.le_trans hI.2.1 hle, hI.2.2.1, a3, hS, a5, ?_, ?_⟩
  · intro a
    refine ⟨fun t n f e1 e2 => ?_, trivial⟩
    obtain ⟨fi, b1, b2, b3⟩ := (a6 a).1 t n f e1 e2
    exact ⟨fi, b1, fun z => va_T.kept (va_T.moved hb (b2 z)) hk, fun z => va_T.kept (va_T.moved hb (b3 z)) hk⟩
  · have h2 := hI.2.2.2.2.2.2.2
    unfold vSts at h2 ⊢
    rw [hst]
    exact h2
theorem vcallW {p : Program} {l : Launch} {e : Env} {R : Room} {s : State} {mi : MethodId} {args : Array Value} {below : List Frame} {meth : Method} {c : Code} {H : Heap} {locs : List Loc} {cells slots mc ms pc : Nat} {ls : Array Slot} {Q : State → Prop} {g : Nat} {cy : Nat → ClassId} {D : va_G} {h h1 : VG} {rest st : List Value} {a : Array Value} {v : Option Value} (hr : va_Run p l e R s mi args below meth c H locs cells slots mc ms (F0 mi pc ls st) rest (vQ g cy D v h1 a) (vA g)) (hI : VI g cy D s h H locs) (hst : h1.2.2.2 = h.2.2.2) (hle : h.2.1 ≤ h1.2.1)
    (kk : ∀ (H1 : Heap) (locs1 : List Loc), VI g cy D s h1 H1 locs1 → W p l e R s mi args below meth c H1 locs1 (cells + mc) (slots + ms) Q (F0 mi (pc + 3) ls (v.toList ++ rest))) : W p l e R s mi args below meth c H locs cells slots Q (F0 mi pc ls st) := by
  intro T hT X
  obtain ⟨v1, st₀, t, T', L, h0, X', hL, e1, e2, ⟨hv, hW, hF⟩, go⟩ := hr T hT X
  cases hv
  have hI1 := hI.back hst hle h0 hW hF hL (by rw [← e2]; exact X'.warmed.alike)
  rw [← e1] at hI1
  obtain ⟨t2, a1, b1⟩ := kk T'.heap (locs ++ L) hI1 T' rfl X'
  exact ⟨t2, go t2 a1, b1⟩
/-- the entry's locals -/
theorem vEnt_len : ∀ (ars : List Value) (n : Nat), catS ars ≤ n → (vEnt ars n).length = n
  | [], n, _ => by simp [vEnt]
  | v :: vs, n, hn => by
    have h1 : catS (v :: vs) = v.category + catS vs := rfl
    rw [h1] at hn
    unfold vEnt
    split
    · rename_i hc
      rw [List.length_cons, List.length_cons, vEnt_len vs (n - 2) (by omega)]
      omega
    · rename_i hc
      have h2 : v.category = 1 := by cases v <;> first | rfl | exact absurd rfl hc
      rw [List.length_cons, vEnt_len vs (n - 1) (by omega)]
      omega
theorem vEnt_at : ∀ (ars : List Value) (n k i : Nat) (v : Value), (vEnt ars n)[i]? = some (some v) → (k + i, v) ∈ lv_args k ars
  | [], n, k, i, v, h => by
    unfold vEnt at h
    rw [List.getElem?_replicate] at h
    split at h <;> cases h
  | w :: vs, n, k, i, v, h => by
    unfold vEnt at h
    unfold lv_args
    split at h
    · rename_i hc
      rw [if_pos hc]
      match i, h with
      | 0, h => cases h; exact List.mem_cons_self
      | 1, h => cases h
      | i + 2, h =>
        have := vEnt_at vs (n - 2) (k + 2) i v h
        rw [show k + 2 + i = k + (i + 2) by omega] at this
        exact List.mem_cons_of_mem _ this
    · rename_i hc
      rw [if_neg hc]
      match i, h with
      | 0, h => cases h; exact List.mem_cons_self
      | i + 1, h =>
        have := vEnt_at vs (n - 1) (k + 1) i v h
        rw [show k + 1 + i = k + (i + 1) by omega] at this
        exact List.mem_cons_of_mem _ this
theorem vsl_len : ∀ (ars : List Value), (lg_sl ars).length = catS ars
  | [] => rfl
  | v :: vs => by
    have h1 : catS (v :: vs) = v.category + catS vs := rfl
    have h2 : lg_sl (v :: vs) = (if v.category = 2 then [Slot.val v, .second] else [.val v]) ++ lg_sl vs := rfl
    rw [h1, h2, List.length_append, vsl_len vs]
    split
    · rename_i hc
      rw [hc]
      rfl
    · rename_i hc
      have h3 : v.category = 1 := by cases v <;> first | rfl | exact absurd rfl hc
      rw [h3]
      rfl
theorem LH.entry {ars : List Value} {n : Nat} {ls : Array Slot} (hn : catS ars ≤ n) (h : lv_has ls n (lv_args 0 ars)) : LH ls (vEnt ars n) n :=
  ⟨h.1, vEnt_len ars n hn, h.2.1, fun i v hi => by
    have := h.2.2 _ (vEnt_at ars n 0 i v hi)
    rwa [Nat.zero_add] at this⟩
/-- the claim for runs of so much fuel -/
def VSnd (l : Launch) (g : Nat) (cy : Nat → ClassId) (D : va_G) (n : Nat) : Prop := ∀ (m pc : Nat) (L : VL) (st : List Value) (h : VG) (v : Option Value) (h1 : VG), run n m pc L st h = some (v, h1) → (h.2.1 ≤ h1.2.1 ∧ h.2.2.1 ≤ h1.2.2.1 ∧ h1.2.2.2 = h.2.2.2) ∧
  ∀ (p : Program) (e : Env) (R : Room) (s : State) (mi : MethodId) (args : Array Value) (below : List Frame) (meth : Method) (c : Code) (H : Heap) (locs : List Loc) (ls : Array Slot) (Q : State → Prop) (k0 : Nat),
    VC cy D p s mi meth c m R args → VI g cy D s h H locs → LH ls L (mmax m) → k0 ≤ h.2.2.1 → h1.2.1 - s.heap.size ≤ R.cells → h1.2.2.1 - k0 ≤ R.slots →
    (∀ (i : Instr) (pc1 : Nat) (st1 : List Value) (H1 : Heap) (locs1 : List Loc) (ls1 : Array Slot), decode (mcode m) pc1 = .ok (i, 1) → vret i m st1 = some v → VI g cy D s h1 H1 locs1 → W p l e R s mi args below meth c H1 locs1 (h1.2.1 - s.heap.size) (h1.2.2.1 - k0) Q (F0 mi pc1 ls1 st1)) →
    W p l e R s mi args below meth c H locs (h.2.1 - s.heap.size) (h.2.2.1 - k0) Q (F0 mi pc ls st)
theorem vret_len {i : Instr} {m len : Nat} {st : List Value} {v : Option Value} (h : vret i m st = some v) (hv : vlen i len = true) : len = 1 := by
  cases i <;> first | (simp [vret] at h; done) | (simpa [vlen] using hv)
theorem vmcode {y : Nat} (hy : y < 247) (hl : y ≠ vLaw) : (Cond.code (mnm y) (mcode y) (mmax y) (mret y) ∈ vW0) ∧ Cond.initialized (mnm y).cls ∈ vW0 ∧ plainName (mnm y).cls = true ∧ (mnm y).cls = vCname (mcl y) ∧ ((mnm y).cls ≠ "java/lang/invoke/MethodHandle" ∧ (mnm y).cls ≠ "java/lang/invoke/VarHandle" ∧ (parseMethodDescriptor (mnm y).desc).map (fun d => d.parameters.length) = some (mna y)) ∧ True := by
  have h := vAllM y hy
  unfold vMok at h
  have hl2 : (y == vLaw) = false := by simpa using hl
  rw [hl2, Bool.false_or] at h
  simp only [Bool.and_eq_true] at h
  obtain ⟨⟨⟨⟨⟨⟨h1, h2⟩, h3⟩, h4⟩, h5⟩, h6⟩, h7⟩ := h
  refine ⟨?_, vAt_mem h2, h3, by simpa using h4, ⟨by simpa using h6, by simpa using h7, by simpa using h5⟩, trivial⟩
  split at h1
  · rename_i y1 b n r hw
    simp only [Bool.and_eq_true, beq_iff_eq] at h1
    obtain ⟨⟨rfl, rfl⟩, rfl⟩ := h1
    have hm : mcode y = b := by
      unfold mcode
      rw [if_neg hl, hw]
    rw [hm]
    exact List.mem_filter.mpr ⟨List.mem_of_getElem? hw, rfl⟩
  · cases h1
theorem vMet {l : Launch} {g : Nat} {cy : Nat → ClassId} {D : va_G} {n : Nat} (IH : VSnd l g cy D n) {y : Nat} (hy : y < 247) (hl : y ≠ vLaw) {ars : List Value} {h h1 : VG} {v : Option Value} (hc : catS ars ≤ mmax y) (hr : run n y 0 (vEnt ars (mmax y)) [] h = some (v, h1)) : Met l (mnm y) (vWd y) (vRm y (h1.2.1 - h.2.1) (h1.2.2.1 - h.2.2.1)) (va_Pc ars (VW g cy D h)) (vQ g cy D v h1) (h1.2.1 - h.2.1) (h1.2.2.1 - h.2.2.1) (vA g) := by
  obtain ⟨k1, k2, k3, k4, k5, -⟩ := vmcode hy hl
  refine Met.ofW (cc := mcode y) (maxL := mmax y) (ret := mret y) k3 rfl ?_
  intro p e s m args below meth c s₁ B hml hv
  obtain ⟨rfl, hw⟩ := hv
  obtain ⟨a1, a2, a3, a4, a5, a6, a7, a8, a9⟩ := hw
  have hts := atoms_spec (ws := vWd y) B.pre
  have hlocks := B.notSynchronized
  have hret := B.returns
  have hC : VC cy D p s m meth c y (vRm y (h1.2.1 - h.2.1) (h1.2.2.1 - h.2.2.1)) ars.toArray := ⟨B.exec, B.bytes, hml, by rw [← k4]; exact findClass_of_methodNamed B.named, fun w hw => hts w (List.mem_cons_of_mem _ hw), a8, fun z => (name_of_methodNamed B.named B.method).1.trans z, Nat.le_refl _, Nat.le_refl _, a4, a9⟩
  have hI : VI g cy D s h s.heap [] := ⟨a2, by rw [a1]; exact Nat.le_refl _, by rw [a1]; exact a2, a3, va_S.rf, a5, a6, a7⟩
  have hen := lv_entry ars (n := mmax y) (by rw [vsl_len]; exact hc)
  rw [lg_entry_eq]
  have hX := (IH y 0 (vEnt ars (mmax y)) [] h v h1 hr)
  have hmono := hX.1
  have key := hX.2 p e (vRm y (h1.2.1 - h.2.1) (h1.2.2.1 - h.2.2.1)) s m ars.toArray below meth c s.heap [] _ (MQ below (vQ g cy D v h1) ars.toArray s (h1.2.1 - h.2.1) (h1.2.2.1 - h.2.2.1) (vA g)) h.2.2.1 hC hI (LH.entry hc hen) (Nat.le_refl _) (by rw [a1]; exact Nat.le_refl _) (Nat.le_refl _) (fun i pc1 st1 H1 locs1 ls1 hd hvr hI1 => ?_)
  · rw [a1, Nat.sub_self, Nat.sub_self] at key
    exact key
  · refine vsz hI1 (fun hsz => ?_)
    rw [a1]
    have hq : ∀ t : State, t.heap = H1 → s.WarmedH t.vm → vQ g cy D v h1 ars.toArray s (.returned v) t := fun t ht hW => ⟨rfl, hI1.world hC hsz ht hW, hI1.2.2.2.2.1.F ht⟩
    have hf := hI1.2.2.2.2.1.2.2
    unfold vret at hvr
    split at hvr
    · split at hvr
      · split at hvr
        · rename_i ty hty
          split at hvr
          · rename_i hn
            cases hvr
            exact W.zret B.exec B.bytes (hret.trans hty) hn hq hf hd
          · cases hvr
        · cases hvr
      · cases hvr
    · split at hvr
      · split at hvr
        · rename_i hty
          cases hvr
          exact W.lret B.exec B.bytes (hret.trans hty) hq hf hd
        · cases hvr
      · cases hvr
    · split at hvr
      · split at hvr
        · rename_i hty
          cases hvr
          exact W.dret B.exec B.bytes (hret.trans hty) hq hf hd hlocks
        · cases hvr
      · cases hvr
    · split at hvr
      · split at hvr
        · rename_i hty
          cases hvr
          exact W.vret B.exec B.bytes (hret.trans hty) hq hf hd
        · cases hvr
      · cases hvr
    · cases hvr
