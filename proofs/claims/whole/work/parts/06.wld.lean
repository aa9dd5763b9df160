/-! the kit's world of a heap of the little machine; what holds at a point of a method -/
def vcell (cy : Nat → ClassId) (e : VE) : va_E := match e with
  | .inl q => .inl (cy q.1, q.2)
  | .inr o => .inr o
def vLs (g : Nat) (h : VG) : List Nat := List.range' g (h.2.1 - g)
def vWs (cy : Nat → ClassId) (g : Nat) (h : VG) : va_W := va_pl (vLs g h) (fun a => vcell cy (h.1 a))
def vA (g : Nat) : Nat → Prop := fun q => g ≤ q
theorem vLs_at (g : Nat) (h : VG) (i : Nat) : (vLs g h)[i]? = if i < h.2.1 - g then some (g + i) else none := by
  unfold vLs
  by_cases hi : i < h.2.1 - g
  · rw [List.getElem?_range' hi, if_pos hi, Nat.one_mul]
  · rw [if_neg hi, List.getElem?_eq_none (by rw [List.length_range']; omega)]
theorem vWs_at (cy : Nat → ClassId) (g : Nat) (h : VG) (i : Nat) : (vWs cy g h)[i]? = if i < h.2.1 - g then some (g + i, vcell cy (h.1 (g + i))) else none := by
  unfold vWs va_pl
  rw [List.getElem?_map, vLs_at]
  split <;> rfl
theorem vWs_get {cy : Nat → ClassId} {g : Nat} {h : VG} {a : Nat} (ha : g ≤ a ∧ a < h.2.1) : (vWs cy g h)[a - g]? = some (a, vcell cy (h.1 a)) := by
  rw [vWs_at, if_pos (by omega), show g + (a - g) = a by omega]
theorem vWs_D (cy : Nat → ClassId) (g : Nat) (h : VG) : va_D (vA g) (vWs cy g h) := by
  refine ⟨fun i j p q hp hq e => ?_, fun k q hq => ?_⟩
  · rw [vWs_at] at hp hq
    split at hp
    · split at hq
      · cases hp; cases hq
        dsimp only at e
        omega
      · cases hq
    · cases hp
  · rw [vWs_at] at hq
    split at hq
    · cases hq
      show g ≤ g + k
      omega
    · cases hq
theorem vWs_set {cy : Nat → ClassId} {g : Nat} {h : VG} {a : Nat} (ha : g ≤ a ∧ a < h.2.1) (c : VE) : (vWs cy g h).set (a - g) (a, vcell cy c) = vWs cy g (hset h a c) := by
  apply List.ext_getElem?
  intro i
  rw [List.getElem?_set, vWs_at, vWs_at]
  have hl : (vWs cy g h).length = h.2.1 - g := by simp [vWs, va_pl, vLs]
  rw [hl]
  show _ = if i < h.2.1 - g then some (g + i, vcell cy (if g + i = a then c else h.1 (g + i))) else none
  by_cases hi : a - g = i
  · subst hi
    rw [if_pos rfl, if_pos (by omega), if_pos (by omega), if_pos (by omega), show g + (a - g) = a by omega]
  · rw [if_neg hi, if_neg (show ¬ g + i = a by omega)]
theorem vWs_push {cy : Nat → ClassId} {g : Nat} {h : VG} (hg : g ≤ h.2.1) (c : VE) (n : Nat) : vWs cy g h ++ [(h.2.1, vcell cy c)] = vWs cy g (hnew h c n) := by
  apply List.ext_getElem?
  intro i
  have hl : (vWs cy g h).length = h.2.1 - g := by simp [vWs, va_pl, vLs]
  rw [vWs_at]
  show _ = if i < h.2.1 + 1 - g then some (g + i, vcell cy (if g + i = h.2.1 then c else h.1 (g + i))) else none
  by_cases hi : i < h.2.1 - g
  · rw [List.getElem?_append_left (by omega), vWs_at, if_pos hi, if_pos (by omega), if_neg (by omega)]
  · rw [List.getElem?_append_right (by omega), hl]
    by_cases he : i = h.2.1 - g
    · rw [he, Nat.sub_self, if_pos (by omega), if_pos (by omega), show g + (h.2.1 - g) = h.2.1 by omega]
      rfl
    · rw [if_neg (by omega), List.getElem?_eq_none]
      simp
      omega
def vTag : List FieldType := [.int, .long, .byte, .boolean, .double, .object RX1, .object RX3, .object RX9]
def vtys (cy : Nat → ClassId) : List (ClassId × FieldType) := (List.range 8).map (fun t => (cy t, vTag.getD t .int))
theorem vtys_at (cy : Nat → ClassId) {t : Nat} (ht : t < 8) : (vtys cy)[t]? = some (cy t, vTag.getD t .int) := by
  unfold vtys
  rw [List.getElem?_map, List.getElem?_range ht]
  rfl
/-- cells of our own kinds lie among the new ones -/
def vDom (g : Nat) (h : VG) : Prop := ∀ a, (∀ t x, h.1 a = .inl (t, x) → t < 8 → g ≤ a ∧ a < h.2.1) ∧ ∀ c fs, h.1 a = .inr (c, fs) → c < 12 → g ≤ a ∧ a < h.2.1
/-- what was there before, and is read only: int and byte arrays, the text -/
def vOld (g : Nat) (h : VG) (U : State) (H : Heap) : Prop := ∀ a, (∀ t n f, h.1 a = .inl (t, n, f) → ¬ t < 8 → ∃ fi, f = .inl fi ∧ (t = 20 → va_T .int a n (fun j => .int (fi j)) (vA g) U H) ∧ (t = 21 → va_T .byte a n (fun j => .int (fi j)) (vA g) U H)) ∧ True
def vTxt : String := "flag byte char short int long float double quad ptr big line form fill "
def vSts (g : Nat) (h : VG) (U : State) (H : Heap) : Prop := (∀ k, k < 4 → va_Z (vSnm k).1 (vSnm k).2.1 (vSnm k).2.2 (h.2.2.2 k) (vA g) U H) ∧ ∃ q w, h.2.2.2 4 = .ref q ∧ h.2.2.2 5 = .ref w ∧ vk_R RX10 25 vTxt q U ∧ va_O RJ0 q (vA g) U H ∧ va_OF RJ0 "value" "[B" (.ref w) q (vA g) U H ∧ va_OF RJ0 "coder" "B" (.int 0) q (vA g) U H
def vNst (U : State) : Prop := ∀ e ∈ vCt, e.2.2.1 = 3 ∨ e.2.2.1 = 5 → va_Nw (.methodLinkNest (vCname e.1) e.2.1 (mnm e.2.2.2.1) "GuestCalls") U
def vOvr (U : State) : Prop := va_AO RX1 U ∧ va_AO RX3 U ∧ va_AO RX9 U
/-- at a method's entry, or behind it: the world of the heap h -/
def VW (g : Nat) (cy : Nat → ClassId) (D : va_G) (h : VG) (U : State) : Prop := U.heap.size = h.2.1 ∧ g ≤ h.2.1 ∧ va_P D vwCl (vWs cy g h) U.heap ∧ va_K D vwCl (vtys cy) U ∧ vDom g h ∧ vOld g h U U.heap ∧ vSts g h U U.heap ∧ vNst U ∧ vOvr U
/-- within a method: what stays -/
def VC (cy : Nat → ClassId) (D : va_G) (p : Program) (s : State) (mi : MethodId) (meth : Method) (c : Code) (m : Nat) (R : Room) (args : Array Value) : Prop := p.tables.exec = Jvm.exec ∧ c.code = mcode m ∧ c.maxLocals = mmax m ∧ s.vm.findClass (vCname (mcl m)) = some mi.cls ∧ (∀ w ∈ vW0, w.before args s = true) ∧ vNst s ∧ ((mnm m).name = "<init>" → meth.name = "<init>") ∧ mdep m ≤ R.frames ∧ mlw m ≤ R.locals ∧ va_K D vwCl (vtys cy) s ∧ vOvr s
/-- within a method: what moves -/
def VI (g : Nat) (cy : Nat → ClassId) (D : va_G) (s : State) (h : VG) (H : Heap) (locs : List Loc) : Prop := g ≤ h.2.1 ∧ s.heap.size ≤ h.2.1 ∧ g ≤ s.heap.size ∧ va_P D vwCl (vWs cy g h) H ∧ va_S (vA g) s.heap H locs ∧ vDom g h ∧ vOld g h s s.heap ∧ vSts g h s s.heap
def LH (ls : Array Slot) (L : VL) (n : Nat) : Prop := ls.size = n ∧ L.length = n ∧ lv_wf ls ∧ ∀ (i : Nat) (v : Value), L[i]? = some (some v) → ls[i]? = some (.val v)
def toA (L : VL) : List (Nat × Value) := (List.range L.length).filterMap (fun i => (L.getD i none).map (fun v => (i, v)))
theorem toA_mem {L : VL} {q : Nat × Value} : q ∈ toA L ↔ L[q.1]? = some (some q.2) := by
  obtain ⟨i, v⟩ := q
  unfold toA
  rw [List.mem_filterMap]
  constructor
  · rintro ⟨j, hj, he⟩
    cases hg : L.getD j none with
    | none => rw [hg] at he; cases he
    | some w =>
      rw [hg] at he
      cases he
      have hl := List.mem_range.mp hj
      rw [List.getD_eq_getElem?_getD] at hg
      cases hk : L[i]? with
      | none => rw [hk] at hg; cases hg
      | some z => rw [hk] at hg; simpa using hg
  · intro h
    refine ⟨i, List.mem_range.mpr (List.getElem?_eq_some_iff.mp h).1, ?_⟩
    rw [List.getD_eq_getElem?_getD, h]
    rfl
theorem vgetD {L : VL} {i : Nat} {v : Value} (h : L.getD i none = some v) : L[i]? = some (some v) := by
  rw [List.getD_eq_getElem?_getD] at h
  cases hk : L[i]? with
  | none => rw [hk] at h; cases h
  | some z => rw [hk] at h; simpa using h
theorem LH.has {ls : Array Slot} {L : VL} {n : Nat} (hl : LH ls L n) : lv_has ls n (toA L) := ⟨hl.1, hl.2.2.1, fun q hq => hl.2.2.2 q.1 q.2 (toA_mem.mp hq)⟩
theorem LH.rd {ls : Array Slot} {L : VL} {n i : Nat} {v : Value} (hl : LH ls L n) (h : L.getD i none = some v) : ls[i]? = some (.val v) := hl.2.2.2 i v (vgetD h)
theorem vkl_len (L : VL) (i : Nat) : (vkl L i).length = L.length := by
  unfold vkl
  split
  · rfl
  · split
    · split <;> simp
    · rfl
theorem vkl_at {L : VL} {i j : Nat} {w : Value} (h : (vkl L i)[j]? = some (some w)) : L[j]? = some (some w) ∧ ¬ (j + 1 = i ∧ w.category = 2) := by
  unfold vkl at h
  split at h
  · exact ⟨h, fun z => by omega⟩
  · rename_i k
    split at h
    · rename_i z hz
      split at h
      · rename_i hc
        rw [List.getElem?_set] at h
        split at h
        · split at h <;> cases h
        · rename_i hn
          exact ⟨h, fun q => hn (by omega)⟩
      · rename_i hc
        refine ⟨h, fun q => ?_⟩
        have hjk : j = k := by omega
        subst hjk
        have h1 := vgetD hz
        rw [h] at h1
        cases h1
        exact hc q.2
    · rename_i hz
      refine ⟨h, fun q => ?_⟩
      have hjk : j = k := by omega
      subst hjk
      rw [List.getD_eq_getElem?_getD, h] at hz
      cases hz
theorem LH.st1 {ls ls' : Array Slot} {L : VL} {n i : Nat} {v : Value} (hl : LH ls L n) (hi : i < n) (h : lv_has ls' n ((i, v) :: (toA L).filter (fun q => !(q.1 == i) && !(q.1 + 1 == i && q.2.category == 2)))) : LH ls' (vS1 L i v) n := by
  refine ⟨h.1, by unfold vS1; rw [List.length_set, vkl_len]; exact hl.2.1, h.2.1, fun j w hj => ?_⟩
  unfold vS1 at hj
  rw [List.getElem?_set, vkl_len] at hj
  split at hj
  · rename_i e
    subst e
    rw [if_pos (by rw [hl.2.1]; exact hi)] at hj
    cases hj
    exact h.2.2 (i, v) List.mem_cons_self
  · rename_i e
    obtain ⟨h1, h2⟩ := vkl_at hj
    refine h.2.2 (j, w) (List.mem_cons_of_mem _ (List.mem_filter.mpr ⟨toA_mem.mpr h1, ?_⟩))
    have e1 : (j == i) = false := by simpa using fun z => e z.symm
    dsimp only
    rw [e1]
    cases hc : (j + 1 == i && w.category == 2) with
    | false => rfl
    | true =>
      rw [Bool.and_eq_true] at hc
      exact absurd ⟨by simpa using hc.1, by simpa using hc.2⟩ h2
theorem LH.st2 {ls ls' : Array Slot} {L : VL} {n i : Nat} {v : Value} (hl : LH ls L n) (hi : i + 1 < n) (h : lv_has ls' n ((i, v) :: (toA L).filter (fun q => !(q.1 == i) && (!(q.1 == i + 1) && !(q.1 + 1 == i && q.2.category == 2))))) : LH ls' (vS2 L i v) n := by
  refine ⟨h.1, by unfold vS2; rw [List.length_set, List.length_set, vkl_len]; exact hl.2.1, h.2.1, fun j w hj => ?_⟩
  unfold vS2 at hj
  rw [List.getElem?_set, List.length_set, vkl_len] at hj
  split at hj
  · split at hj <;> cases hj
  · rename_i e0
    rw [List.getElem?_set, vkl_len] at hj
    split at hj
    · rename_i e
      subst e
      rw [if_pos (by rw [hl.2.1]; omega)] at hj
      cases hj
      exact h.2.2 (i, v) List.mem_cons_self
    · rename_i e
      obtain ⟨h1, h2⟩ := vkl_at hj
      refine h.2.2 (j, w) (List.mem_cons_of_mem _ (List.mem_filter.mpr ⟨toA_mem.mpr h1, ?_⟩))
      have e1 : (j == i) = false := by simpa using fun z => e z.symm
      have e2 : (j == i + 1) = false := by simpa using fun z => e0 z.symm
      dsimp only
      rw [e1, e2]
      cases hc : (j + 1 == i && w.category == 2) with
      | false => rfl
      | true =>
        rw [Bool.and_eq_true] at hc
        exact absurd ⟨by simpa using hc.1, by simpa using hc.2⟩ h2
theorem fetch_dec {m pc : Nat} {i : Instr} {len : Nat} (h : fetch m pc = some (i, len)) : decode (mcode m) pc = .ok (i, len) ∧ vlen i len = true := by
  unfold fetch at h
  split at h
  · rename_i x hx
    split at h
    · rename_i hv
      cases h
      exact ⟨hx, hv⟩
    · cases h
  · cases h
