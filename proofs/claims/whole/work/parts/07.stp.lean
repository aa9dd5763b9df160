/-! each instruction of the little machine, by the kit's row for it -/
def VT (i : Instr) (len m pc : Nat) (st : List Value) (L : VL) (h : VG) (pc1 : Nat) (L1 : VL) (st1 : List Value) (h1 : VG) : Prop :=
  (h.2.1 ≤ h1.2.1 ∧ h.2.2.1 ≤ h1.2.2.1 ∧ h1.2.2.2 = h.2.2.2) ∧
  ∀ (p : Program) (l : Launch) (e : Env) (R : Room) (s : State) (mi : MethodId) (args : Array Value) (below : List Frame) (meth : Method) (c : Code) (H : Heap) (locs : List Loc) (ls : Array Slot) (Q : State → Prop) (g : Nat) (cy : Nat → ClassId) (D : va_G) (k0 : Nat),
    decode (mcode m) pc = .ok (i, len) → VC cy D p s mi meth c m R args → VI g cy D s h H locs → LH ls L (mmax m) → k0 ≤ h.2.2.1 → h1.2.1 - s.heap.size ≤ R.cells → h1.2.2.1 - k0 ≤ R.slots →
    (∀ (H1 : Heap) (locs1 : List Loc) (ls1 : Array Slot), VI g cy D s h1 H1 locs1 → LH ls1 L1 (mmax m) → W p l e R s mi args below meth c H1 locs1 (h1.2.1 - s.heap.size) (h1.2.2.1 - k0) Q (F0 mi pc1 ls1 st1)) →
    W p l e R s mi args below meth c H locs (h.2.1 - s.heap.size) (h.2.2.1 - k0) Q (F0 mi pc ls st)
theorem VT.pure {i : Instr} {len m pc pc1 : Nat} {st st1 : List Value} {L : VL} {h : VG} (row : ∀ (p : Program) (l : Launch) (e : Env) (R : Room) (s : State) (mi : MethodId) (args : Array Value) (below : List Frame) (meth : Method) (c : Code) (H : Heap) (locs : List Loc) (cells slots : Nat) (ls : Array Slot) (Q : State → Prop), p.tables.exec = Jvm.exec → c.code = mcode m → decode (mcode m) pc = .ok (i, len) → W p l e R s mi args below meth c H locs cells slots Q (F0 mi pc1 ls st1) → W p l e R s mi args below meth c H locs cells slots Q (F0 mi pc ls st)) : VT i len m pc st L h pc1 L st1 h :=
  ⟨⟨Nat.le_refl _, Nat.le_refl _, rfl⟩, fun p l e R s mi args below meth c H locs ls Q g cy D k0 hd hC hI hl _ _ _ k => row p l e R s mi args below meth c H locs _ _ ls Q hC.1 hC.2.1 hd (k H locs ls hI hl)⟩
/-- a load: what lies in the local is pushed -/
theorem VT.load {i : Instr} {len m pc pc1 j : Nat} {st : List Value} {L : VL} {h : VG} {v : Value} (hL : L.getD j none = some v) (row : ∀ (p : Program) (l : Launch) (e : Env) (R : Room) (s : State) (mi : MethodId) (args : Array Value) (below : List Frame) (meth : Method) (c : Code) (H : Heap) (locs : List Loc) (cells slots : Nat) (ls : Array Slot) (Q : State → Prop), p.tables.exec = Jvm.exec → c.code = mcode m → decode (mcode m) pc = .ok (i, len) → ls[j]? = some (.val v) → W p l e R s mi args below meth c H locs cells slots Q (F0 mi pc1 ls (v :: st)) → W p l e R s mi args below meth c H locs cells slots Q (F0 mi pc ls st)) : VT i len m pc st L h pc1 L (v :: st) h :=
  ⟨⟨Nat.le_refl _, Nat.le_refl _, rfl⟩, fun p l e R s mi args below meth c H locs ls Q g cy D k0 hd hC hI hl _ _ _ k => row p l e R s mi args below meth c H locs _ _ ls Q hC.1 hC.2.1 hd (hl.rd hL) (k H locs ls hI hl)⟩
/-- a store of a value of one word -/
theorem VT.sto1 {i : Instr} {len m pc pc1 j : Nat} {st st1 : List Value} {L : VL} {h : VG} {v : Value} (hj : ∃ z, L[j]? = some z) (row : ∀ (p : Program) (l : Launch) (e : Env) (R : Room) (s : State) (mi : MethodId) (args : Array Value) (below : List Frame) (meth : Method) (c : Code) (H : Heap) (locs : List Loc) (cells slots : Nat) (ls : Array Slot) (Q : State → Prop), p.tables.exec = Jvm.exec → c.code = mcode m → decode (mcode m) pc = .ok (i, len) → lv_has ls (mmax m) (toA L) → j < mmax m → (∀ ls' : Array Slot, lv_has ls' (mmax m) ((j, v) :: (toA L).filter (fun q => !(q.1 == j) && !(q.1 + 1 == j && q.2.category == 2))) → W p l e R s mi args below meth c H locs cells slots Q (F0 mi pc1 ls' st1)) → W p l e R s mi args below meth c H locs cells slots Q (F0 mi pc ls st)) : VT i len m pc st L h pc1 (vS1 L j v) st1 h :=
  ⟨⟨Nat.le_refl _, Nat.le_refl _, rfl⟩, fun p l e R s mi args below meth c H locs ls Q g cy D k0 hd hC hI hl _ _ _ k => by
    obtain ⟨z, hz⟩ := hj
    have hjn : j < mmax m := by rw [← hl.2.1]; exact (List.getElem?_eq_some_iff.mp hz).1
    exact row p l e R s mi args below meth c H locs _ _ ls Q hC.1 hC.2.1 hd hl.has hjn (fun ls' h' => k H locs ls' hI (hl.st1 hjn h'))⟩
theorem VT.sto2 {i : Instr} {len m pc pc1 j : Nat} {st st1 : List Value} {L : VL} {h : VG} {v : Value} (hj : ∃ z, L[j + 1]? = some z) (row : ∀ (p : Program) (l : Launch) (e : Env) (R : Room) (s : State) (mi : MethodId) (args : Array Value) (below : List Frame) (meth : Method) (c : Code) (H : Heap) (locs : List Loc) (cells slots : Nat) (ls : Array Slot) (Q : State → Prop), p.tables.exec = Jvm.exec → c.code = mcode m → decode (mcode m) pc = .ok (i, len) → lv_has ls (mmax m) (toA L) → j + 1 < mmax m → (∀ ls' : Array Slot, lv_has ls' (mmax m) ((j, v) :: (toA L).filter (fun q => !(q.1 == j) && (!(q.1 == j + 1) && !(q.1 + 1 == j && q.2.category == 2)))) → W p l e R s mi args below meth c H locs cells slots Q (F0 mi pc1 ls' st1)) → W p l e R s mi args below meth c H locs cells slots Q (F0 mi pc ls st)) : VT i len m pc st L h pc1 (vS2 L j v) st1 h :=
  ⟨⟨Nat.le_refl _, Nat.le_refl _, rfl⟩, fun p l e R s mi args below meth c H locs ls Q g cy D k0 hd hC hI hl _ _ _ k => by
    obtain ⟨z, hz⟩ := hj
    have hjn : j + 1 < mmax m := by rw [← hl.2.1]; exact (List.getElem?_eq_some_iff.mp hz).1
    exact row p l e R s mi args below meth c H locs _ _ ls Q hC.1 hC.2.1 hd hl.has hjn (fun ls' h' => k H locs ls' hI (hl.st2 hjn h'))⟩
theorem s_i1 {i : Instr} {len m pc pc1 : Nat} {st st1 : List Value} {L L1 : VL} {h h1 : VG} {f : Int32 → Value} (row : ∀ (x : Int32) (st : List Value), VT i len m pc (.int x :: st) L h (pc + 1) L (f x :: st) h) (hs : vi1 f pc L st h = some (pc1, L1, st1, h1)) : VT i len m pc st L h pc1 L1 st1 h1 := by
  unfold vi1 at hs
  split at hs
  · cases hs; exact row _ _
  · cases hs
theorem s_i2 {i : Instr} {len m pc pc1 : Nat} {st st1 : List Value} {L L1 : VL} {h h1 : VG} {f : Int32 → Int32 → Int32} (row : ∀ (x y : Int32) (st : List Value), VT i len m pc (.int y :: .int x :: st) L h (pc + 1) L (.int (f x y) :: st) h) (hs : vi2 f pc L st h = some (pc1, L1, st1, h1)) : VT i len m pc st L h pc1 L1 st1 h1 := by
  unfold vi2 at hs
  split at hs
  · cases hs; exact row _ _ _
  · cases hs
theorem s_l1 {i : Instr} {len m pc pc1 : Nat} {st st1 : List Value} {L L1 : VL} {h h1 : VG} {f : Int64 → Value} (row : ∀ (x : Int64) (st : List Value), VT i len m pc (.long x :: st) L h (pc + 1) L (f x :: st) h) (hs : vl1 f pc L st h = some (pc1, L1, st1, h1)) : VT i len m pc st L h pc1 L1 st1 h1 := by
  unfold vl1 at hs
  split at hs
  · cases hs; exact row _ _
  · cases hs
theorem s_l2 {i : Instr} {len m pc pc1 : Nat} {st st1 : List Value} {L L1 : VL} {h h1 : VG} {f : Int64 → Int64 → Value} (row : ∀ (x y : Int64) (st : List Value), VT i len m pc (.long y :: .long x :: st) L h (pc + 1) L (f x y :: st) h) (hs : vl2 f pc L st h = some (pc1, L1, st1, h1)) : VT i len m pc st L h pc1 L1 st1 h1 := by
  unfold vl2 at hs
  split at hs
  · cases hs; exact row _ _ _
  · cases hs
theorem s_ls {i : Instr} {len m pc pc1 : Nat} {st st1 : List Value} {L L1 : VL} {h h1 : VG} {f : Int64 → Int32 → Int64} (row : ∀ (x : Int64) (y : Int32) (st : List Value), VT i len m pc (.int y :: .long x :: st) L h (pc + 1) L (.long (f x y) :: st) h) (hs : vls f pc L st h = some (pc1, L1, st1, h1)) : VT i len m pc st L h pc1 L1 st1 h1 := by
  unfold vls at hs
  split at hs
  · cases hs; exact row _ _ _
  · cases hs
theorem s_d1 {i : Instr} {len m pc pc1 : Nat} {st st1 : List Value} {L L1 : VL} {h h1 : VG} {f : UInt64 → Value} (row : ∀ (x : UInt64) (st : List Value), VT i len m pc (.double x :: st) L h (pc + 1) L (f x :: st) h) (hs : vd1 f pc L st h = some (pc1, L1, st1, h1)) : VT i len m pc st L h pc1 L1 st1 h1 := by
  unfold vd1 at hs
  split at hs
  · cases hs; exact row _ _
  · cases hs
theorem s_d2 {i : Instr} {len m pc pc1 : Nat} {st st1 : List Value} {L L1 : VL} {h h1 : VG} {f : UInt64 → UInt64 → UInt64} (row : ∀ (x y : UInt64) (st : List Value), vf_n64 (f x y) → VT i len m pc (.double y :: .double x :: st) L h (pc + 1) L (.double (f x y) :: st) h) (hs : vd2 f pc L st h = some (pc1, L1, st1, h1)) : VT i len m pc st L h pc1 L1 st1 h1 := by
  unfold vd2 at hs
  split at hs
  · split at hs
    · rename_i hn
      cases hs; exact row _ _ _ hn
    · cases hs
  · cases hs
theorem s_ldI {i : Instr} {len m pc pc1 : Nat} {st st1 : List Value} {L L1 : VL} {h h1 : VG} {n j : Nat} (row : ∀ (x : Int32), L.getD j none = some (.int x) → VT i len m pc st L h (pc + n) L (.int x :: st) h) (hs : vldI n pc L j st h = some (pc1, L1, st1, h1)) : VT i len m pc st L h pc1 L1 st1 h1 := by
  unfold vldI at hs
  split at hs
  · rename_i x hx
    cases hs; exact row x hx
  · cases hs
theorem s_stI {i : Instr} {len m pc pc1 : Nat} {st st1 : List Value} {L L1 : VL} {h h1 : VG} {n j : Nat} (row : ∀ (x : Int32) (st : List Value), (∃ z, L[j]? = some z) → VT i len m pc (.int x :: st) L h (pc + n) (vS1 L j (.int x)) st h) (hs : vstI n pc L j st h = some (pc1, L1, st1, h1)) : VT i len m pc st L h pc1 L1 st1 h1 := by
  unfold vstI at hs
  split at hs
  · unfold vs1 at hs
    split at hs
    · rename_i z hz
      cases hs; exact row _ _ ⟨z, hz⟩
    · cases hs
  · cases hs
theorem s_ldL {i : Instr} {len m pc pc1 : Nat} {st st1 : List Value} {L L1 : VL} {h h1 : VG} {n j : Nat} (row : ∀ (x : Int64), L.getD j none = some (.long x) → VT i len m pc st L h (pc + n) L (.long x :: st) h) (hs : vldL n pc L j st h = some (pc1, L1, st1, h1)) : VT i len m pc st L h pc1 L1 st1 h1 := by
  unfold vldL at hs
  split at hs
  · rename_i x hx
    cases hs; exact row x hx
  · cases hs
theorem s_stL {i : Instr} {len m pc pc1 : Nat} {st st1 : List Value} {L L1 : VL} {h h1 : VG} {n j : Nat} (row : ∀ (x : Int64) (st : List Value), (∃ z, L[j + 1]? = some z) → VT i len m pc (.long x :: st) L h (pc + n) (vS2 L j (.long x)) st h) (hs : vstL n pc L j st h = some (pc1, L1, st1, h1)) : VT i len m pc st L h pc1 L1 st1 h1 := by
  unfold vstL at hs
  split at hs
  · unfold vs2 at hs
    split at hs
    · rename_i z hz
      cases hs; exact row _ _ ⟨z, hz⟩
    · cases hs
  · cases hs
theorem s_ldD {i : Instr} {len m pc pc1 : Nat} {st st1 : List Value} {L L1 : VL} {h h1 : VG} {n j : Nat} (row : ∀ (x : UInt64), L.getD j none = some (.double x) → VT i len m pc st L h (pc + n) L (.double x :: st) h) (hs : vldD n pc L j st h = some (pc1, L1, st1, h1)) : VT i len m pc st L h pc1 L1 st1 h1 := by
  unfold vldD at hs
  split at hs
  · rename_i x hx
    cases hs; exact row x hx
  · cases hs
theorem s_stD {i : Instr} {len m pc pc1 : Nat} {st st1 : List Value} {L L1 : VL} {h h1 : VG} {n j : Nat} (row : ∀ (x : UInt64) (st : List Value), (∃ z, L[j + 1]? = some z) → VT i len m pc (.double x :: st) L h (pc + n) (vS2 L j (.double x)) st h) (hs : vstD n pc L j st h = some (pc1, L1, st1, h1)) : VT i len m pc st L h pc1 L1 st1 h1 := by
  unfold vstD at hs
  split at hs
  · unfold vs2 at hs
    split at hs
    · rename_i z hz
      cases hs; exact row _ _ ⟨z, hz⟩
    · cases hs
  · cases hs
theorem s_ldA {i : Instr} {len m pc pc1 : Nat} {st st1 : List Value} {L L1 : VL} {h h1 : VG} {n j : Nat} (row : ∀ (x : Nat), L.getD j none = some (.ref x) → VT i len m pc st L h (pc + n) L (.ref x :: st) h) (hs : vldA n pc L j st h = some (pc1, L1, st1, h1)) : VT i len m pc st L h pc1 L1 st1 h1 := by
  unfold vldA at hs
  split at hs
  · rename_i x hx
    cases hs; exact row x hx
  · cases hs
theorem s_stA {i : Instr} {len m pc pc1 : Nat} {st st1 : List Value} {L L1 : VL} {h h1 : VG} {n j : Nat} (row : ∀ (x : Nat) (st : List Value), (∃ z, L[j]? = some z) → VT i len m pc (.ref x :: st) L h (pc + n) (vS1 L j (.ref x)) st h) (hs : vstA n pc L j st h = some (pc1, L1, st1, h1)) : VT i len m pc st L h pc1 L1 st1 h1 := by
  unfold vstA at hs
  split at hs
  · unfold vs1 at hs
    split at hs
    · rename_i z hz
      cases hs; exact row _ _ ⟨z, hz⟩
    · cases hs
  · cases hs
theorem vgo_eq {pc pc1 : Nat} {off : Int} {L L1 : VL} {st st1 : List Value} {h h1 : VG} (hs : vgo pc off L st h = some (pc1, L1, st1, h1)) : (pc : Int) + off = (pc1 : Int) ∧ L1 = L ∧ st1 = st ∧ h1 = h := by
  unfold vgo at hs
  split at hs
  · rename_i t ht
    cases hs
    exact ⟨ht, rfl, rfl, rfl⟩
  · cases hs
theorem t_iadd_ {len m pc pc1 : Nat} {st st1 : List Value} {L L1 : VL} {h h1 : VG} (hv : vlen .iadd len = true) (hs : stp .iadd m pc L st h = some (pc1, L1, st1, h1)) : VT .iadd len m pc st L h pc1 L1 st1 h1 := by
  obtain rfl : len = 1 := by simpa [vlen] using hv
  exact s_i2 (i := .iadd) (fun x y st => VT.pure fun p l e R s mi args below meth c H locs cells slots ls Q hx hb hd k => lv_iadd hx hb hd k) hs
theorem t_isub_ {len m pc pc1 : Nat} {st st1 : List Value} {L L1 : VL} {h h1 : VG} (hv : vlen .isub len = true) (hs : stp .isub m pc L st h = some (pc1, L1, st1, h1)) : VT .isub len m pc st L h pc1 L1 st1 h1 := by
  obtain rfl : len = 1 := by simpa [vlen] using hv
  exact s_i2 (i := .isub) (fun x y st => VT.pure fun p l e R s mi args below meth c H locs cells slots ls Q hx hb hd k => lv_isub hx hb hd k) hs
theorem t_imul_ {len m pc pc1 : Nat} {st st1 : List Value} {L L1 : VL} {h h1 : VG} (hv : vlen .imul len = true) (hs : stp .imul m pc L st h = some (pc1, L1, st1, h1)) : VT .imul len m pc st L h pc1 L1 st1 h1 := by
  obtain rfl : len = 1 := by simpa [vlen] using hv
  exact s_i2 (i := .imul) (fun x y st => VT.pure fun p l e R s mi args below meth c H locs cells slots ls Q hx hb hd k => lv_imul hx hb hd k) hs
theorem t_iand_ {len m pc pc1 : Nat} {st st1 : List Value} {L L1 : VL} {h h1 : VG} (hv : vlen .iand len = true) (hs : stp .iand m pc L st h = some (pc1, L1, st1, h1)) : VT .iand len m pc st L h pc1 L1 st1 h1 := by
  obtain rfl : len = 1 := by simpa [vlen] using hv
  exact s_i2 (i := .iand) (fun x y st => VT.pure fun p l e R s mi args below meth c H locs cells slots ls Q hx hb hd k => lv_iand hx hb hd k) hs
theorem t_ior_ {len m pc pc1 : Nat} {st st1 : List Value} {L L1 : VL} {h h1 : VG} (hv : vlen .ior len = true) (hs : stp .ior m pc L st h = some (pc1, L1, st1, h1)) : VT .ior len m pc st L h pc1 L1 st1 h1 := by
  obtain rfl : len = 1 := by simpa [vlen] using hv
  exact s_i2 (i := .ior) (fun x y st => VT.pure fun p l e R s mi args below meth c H locs cells slots ls Q hx hb hd k => lv_ior hx hb hd k) hs
theorem t_ishl_ {len m pc pc1 : Nat} {st st1 : List Value} {L L1 : VL} {h h1 : VG} (hv : vlen .ishl len = true) (hs : stp .ishl m pc L st h = some (pc1, L1, st1, h1)) : VT .ishl len m pc st L h pc1 L1 st1 h1 := by
  obtain rfl : len = 1 := by simpa [vlen] using hv
  exact s_i2 (i := .ishl) (fun x y st => VT.pure fun p l e R s mi args below meth c H locs cells slots ls Q hx hb hd k => lv_ishl hx hb hd k) hs
theorem t_ishr_ {len m pc pc1 : Nat} {st st1 : List Value} {L L1 : VL} {h h1 : VG} (hv : vlen .ishr len = true) (hs : stp .ishr m pc L st h = some (pc1, L1, st1, h1)) : VT .ishr len m pc st L h pc1 L1 st1 h1 := by
  obtain rfl : len = 1 := by simpa [vlen] using hv
  exact s_i2 (i := .ishr) (fun x y st => VT.pure fun p l e R s mi args below meth c H locs cells slots ls Q hx hb hd k => lv_ishr hx hb hd k) hs
theorem t_iushr_ {len m pc pc1 : Nat} {st st1 : List Value} {L L1 : VL} {h h1 : VG} (hv : vlen .iushr len = true) (hs : stp .iushr m pc L st h = some (pc1, L1, st1, h1)) : VT .iushr len m pc st L h pc1 L1 st1 h1 := by
  obtain rfl : len = 1 := by simpa [vlen] using hv
  exact s_i2 (i := .iushr) (fun x y st => VT.pure fun p l e R s mi args below meth c H locs cells slots ls Q hx hb hd k => lv_iushr hx hb hd rfl k) hs
theorem t_ineg_ {len m pc pc1 : Nat} {st st1 : List Value} {L L1 : VL} {h h1 : VG} (hv : vlen .ineg len = true) (hs : stp .ineg m pc L st h = some (pc1, L1, st1, h1)) : VT .ineg len m pc st L h pc1 L1 st1 h1 := by
  obtain rfl : len = 1 := by simpa [vlen] using hv
  exact s_i1 (i := .ineg) (fun x st => VT.pure fun p l e R s mi args below meth c H locs cells slots ls Q hx hb hd k => lv_ineg hx hb hd k) hs
theorem t_i2l_ {len m pc pc1 : Nat} {st st1 : List Value} {L L1 : VL} {h h1 : VG} (hv : vlen .i2l len = true) (hs : stp .i2l m pc L st h = some (pc1, L1, st1, h1)) : VT .i2l len m pc st L h pc1 L1 st1 h1 := by
  obtain rfl : len = 1 := by simpa [vlen] using hv
  exact s_i1 (i := .i2l) (fun x st => VT.pure fun p l e R s mi args below meth c H locs cells slots ls Q hx hb hd k => lv_i2l hx hb hd rfl k) hs
theorem t_i2b_ {len m pc pc1 : Nat} {st st1 : List Value} {L L1 : VL} {h h1 : VG} (hv : vlen .i2b len = true) (hs : stp .i2b m pc L st h = some (pc1, L1, st1, h1)) : VT .i2b len m pc st L h pc1 L1 st1 h1 := by
  obtain rfl : len = 1 := by simpa [vlen] using hv
  exact s_i1 (i := .i2b) (fun x st => VT.pure fun p l e R s mi args below meth c H locs cells slots ls Q hx hb hd k => lv_i2b hx hb hd rfl k) hs
theorem t_i2s_ {len m pc pc1 : Nat} {st st1 : List Value} {L L1 : VL} {h h1 : VG} (hv : vlen .i2s len = true) (hs : stp .i2s m pc L st h = some (pc1, L1, st1, h1)) : VT .i2s len m pc st L h pc1 L1 st1 h1 := by
  obtain rfl : len = 1 := by simpa [vlen] using hv
  exact s_i1 (i := .i2s) (fun x st => VT.pure fun p l e R s mi args below meth c H locs cells slots ls Q hx hb hd k => lv_i2s hx hb hd rfl k) hs
theorem t_i2c_ {len m pc pc1 : Nat} {st st1 : List Value} {L L1 : VL} {h h1 : VG} (hv : vlen .i2c len = true) (hs : stp .i2c m pc L st h = some (pc1, L1, st1, h1)) : VT .i2c len m pc st L h pc1 L1 st1 h1 := by
  obtain rfl : len = 1 := by simpa [vlen] using hv
  exact s_i1 (i := .i2c) (fun x st => VT.pure fun p l e R s mi args below meth c H locs cells slots ls Q hx hb hd k => lv_i2c hx hb hd rfl k) hs
theorem t_ladd_ {len m pc pc1 : Nat} {st st1 : List Value} {L L1 : VL} {h h1 : VG} (hv : vlen .ladd len = true) (hs : stp .ladd m pc L st h = some (pc1, L1, st1, h1)) : VT .ladd len m pc st L h pc1 L1 st1 h1 := by
  obtain rfl : len = 1 := by simpa [vlen] using hv
  exact s_l2 (i := .ladd) (fun x y st => VT.pure fun p l e R s mi args below meth c H locs cells slots ls Q hx hb hd k => lv_ladd hx hb hd k) hs
theorem t_lsub_ {len m pc pc1 : Nat} {st st1 : List Value} {L L1 : VL} {h h1 : VG} (hv : vlen .lsub len = true) (hs : stp .lsub m pc L st h = some (pc1, L1, st1, h1)) : VT .lsub len m pc st L h pc1 L1 st1 h1 := by
  obtain rfl : len = 1 := by simpa [vlen] using hv
  exact s_l2 (i := .lsub) (fun x y st => VT.pure fun p l e R s mi args below meth c H locs cells slots ls Q hx hb hd k => lv_lsub hx hb hd k) hs
theorem t_lmul_ {len m pc pc1 : Nat} {st st1 : List Value} {L L1 : VL} {h h1 : VG} (hv : vlen .lmul len = true) (hs : stp .lmul m pc L st h = some (pc1, L1, st1, h1)) : VT .lmul len m pc st L h pc1 L1 st1 h1 := by
  obtain rfl : len = 1 := by simpa [vlen] using hv
  exact s_l2 (i := .lmul) (fun x y st => VT.pure fun p l e R s mi args below meth c H locs cells slots ls Q hx hb hd k => lv_lmul hx hb hd k) hs
theorem t_land_ {len m pc pc1 : Nat} {st st1 : List Value} {L L1 : VL} {h h1 : VG} (hv : vlen .land len = true) (hs : stp .land m pc L st h = some (pc1, L1, st1, h1)) : VT .land len m pc st L h pc1 L1 st1 h1 := by
  obtain rfl : len = 1 := by simpa [vlen] using hv
  exact s_l2 (i := .land) (fun x y st => VT.pure fun p l e R s mi args below meth c H locs cells slots ls Q hx hb hd k => lv_land hx hb hd k) hs
theorem t_lor_ {len m pc pc1 : Nat} {st st1 : List Value} {L L1 : VL} {h h1 : VG} (hv : vlen .lor len = true) (hs : stp .lor m pc L st h = some (pc1, L1, st1, h1)) : VT .lor len m pc st L h pc1 L1 st1 h1 := by
  obtain rfl : len = 1 := by simpa [vlen] using hv
  exact s_l2 (i := .lor) (fun x y st => VT.pure fun p l e R s mi args below meth c H locs cells slots ls Q hx hb hd k => lv_lor hx hb hd k) hs
theorem t_lcmp_ {len m pc pc1 : Nat} {st st1 : List Value} {L L1 : VL} {h h1 : VG} (hv : vlen .lcmp len = true) (hs : stp .lcmp m pc L st h = some (pc1, L1, st1, h1)) : VT .lcmp len m pc st L h pc1 L1 st1 h1 := by
  obtain rfl : len = 1 := by simpa [vlen] using hv
  exact s_l2 (i := .lcmp) (fun x y st => VT.pure fun p l e R s mi args below meth c H locs cells slots ls Q hx hb hd k => W.lcmp hx hb hd k) hs
theorem t_lneg_ {len m pc pc1 : Nat} {st st1 : List Value} {L L1 : VL} {h h1 : VG} (hv : vlen .lneg len = true) (hs : stp .lneg m pc L st h = some (pc1, L1, st1, h1)) : VT .lneg len m pc st L h pc1 L1 st1 h1 := by
  obtain rfl : len = 1 := by simpa [vlen] using hv
  exact s_l1 (i := .lneg) (fun x st => VT.pure fun p l e R s mi args below meth c H locs cells slots ls Q hx hb hd k => lv_lneg hx hb hd k) hs
theorem t_l2i_ {len m pc pc1 : Nat} {st st1 : List Value} {L L1 : VL} {h h1 : VG} (hv : vlen .l2i len = true) (hs : stp .l2i m pc L st h = some (pc1, L1, st1, h1)) : VT .l2i len m pc st L h pc1 L1 st1 h1 := by
  obtain rfl : len = 1 := by simpa [vlen] using hv
  exact s_l1 (i := .l2i) (fun x st => VT.pure fun p l e R s mi args below meth c H locs cells slots ls Q hx hb hd k => lv_l2i hx hb hd rfl k) hs
theorem t_l2d_ {len m pc pc1 : Nat} {st st1 : List Value} {L L1 : VL} {h h1 : VG} (hv : vlen .l2d len = true) (hs : stp .l2d m pc L st h = some (pc1, L1, st1, h1)) : VT .l2d len m pc st L h pc1 L1 st1 h1 := by
  obtain rfl : len = 1 := by simpa [vlen] using hv
  exact s_l1 (i := .l2d) (fun x st => VT.pure fun p l e R s mi args below meth c H locs cells slots ls Q hx hb hd k => lv_l2d hx hb hd k) hs
theorem t_l2f_ {len m pc pc1 : Nat} {st st1 : List Value} {L L1 : VL} {h h1 : VG} (hv : vlen .l2f len = true) (hs : stp .l2f m pc L st h = some (pc1, L1, st1, h1)) : VT .l2f len m pc st L h pc1 L1 st1 h1 := by
  obtain rfl : len = 1 := by simpa [vlen] using hv
  exact s_l1 (i := .l2f) (fun x st => VT.pure fun p l e R s mi args below meth c H locs cells slots ls Q hx hb hd k => lv_l2f hx hb hd k) hs
theorem t_lshl_ {len m pc pc1 : Nat} {st st1 : List Value} {L L1 : VL} {h h1 : VG} (hv : vlen .lshl len = true) (hs : stp .lshl m pc L st h = some (pc1, L1, st1, h1)) : VT .lshl len m pc st L h pc1 L1 st1 h1 := by
  obtain rfl : len = 1 := by simpa [vlen] using hv
  exact s_ls (i := .lshl) (fun x y st => VT.pure fun p l e R s mi args below meth c H locs cells slots ls Q hx hb hd k => lv_lshl hx hb hd rfl k) hs
theorem t_lshr_ {len m pc pc1 : Nat} {st st1 : List Value} {L L1 : VL} {h h1 : VG} (hv : vlen .lshr len = true) (hs : stp .lshr m pc L st h = some (pc1, L1, st1, h1)) : VT .lshr len m pc st L h pc1 L1 st1 h1 := by
  obtain rfl : len = 1 := by simpa [vlen] using hv
  exact s_ls (i := .lshr) (fun x y st => VT.pure fun p l e R s mi args below meth c H locs cells slots ls Q hx hb hd k => lv_lshr hx hb hd rfl k) hs
theorem t_lushr_ {len m pc pc1 : Nat} {st st1 : List Value} {L L1 : VL} {h h1 : VG} (hv : vlen .lushr len = true) (hs : stp .lushr m pc L st h = some (pc1, L1, st1, h1)) : VT .lushr len m pc st L h pc1 L1 st1 h1 := by
  obtain rfl : len = 1 := by simpa [vlen] using hv
  exact s_ls (i := .lushr) (fun x y st => VT.pure fun p l e R s mi args below meth c H locs cells slots ls Q hx hb hd k => lv_lushr hx hb hd rfl k) hs
theorem t_dneg_ {len m pc pc1 : Nat} {st st1 : List Value} {L L1 : VL} {h h1 : VG} (hv : vlen .dneg len = true) (hs : stp .dneg m pc L st h = some (pc1, L1, st1, h1)) : VT .dneg len m pc st L h pc1 L1 st1 h1 := by
  obtain rfl : len = 1 := by simpa [vlen] using hv
  exact s_d1 (i := .dneg) (fun x st => VT.pure fun p l e R s mi args below meth c H locs cells slots ls Q hx hb hd k => lv_dneg hx hb hd k) hs
theorem t_d2l_ {len m pc pc1 : Nat} {st st1 : List Value} {L L1 : VL} {h h1 : VG} (hv : vlen .d2l len = true) (hs : stp .d2l m pc L st h = some (pc1, L1, st1, h1)) : VT .d2l len m pc st L h pc1 L1 st1 h1 := by
  obtain rfl : len = 1 := by simpa [vlen] using hv
  exact s_d1 (i := .d2l) (fun x st => VT.pure fun p l e R s mi args below meth c H locs cells slots ls Q hx hb hd k => lv_d2l hx hb hd k) hs
theorem t_dmul_ {len m pc pc1 : Nat} {st st1 : List Value} {L L1 : VL} {h h1 : VG} (hv : vlen .dmul len = true) (hs : stp .dmul m pc L st h = some (pc1, L1, st1, h1)) : VT .dmul len m pc st L h pc1 L1 st1 h1 := by
  obtain rfl : len = 1 := by simpa [vlen] using hv
  exact s_d2 (i := .dmul) (fun x y st hn => VT.pure fun p l e R s mi args below meth c H locs cells slots ls Q hx hb hd k => lv_dmul hx hb hd hn k) hs
theorem t_ddiv_ {len m pc pc1 : Nat} {st st1 : List Value} {L L1 : VL} {h h1 : VG} (hv : vlen .ddiv len = true) (hs : stp .ddiv m pc L st h = some (pc1, L1, st1, h1)) : VT .ddiv len m pc st L h pc1 L1 st1 h1 := by
  obtain rfl : len = 1 := by simpa [vlen] using hv
  exact s_d2 (i := .ddiv) (fun x y st hn => VT.pure fun p l e R s mi args below meth c H locs cells slots ls Q hx hb hd k => lv_ddiv hx hb hd hn k) hs
theorem t_iconst_ {len m pc pc1 : Nat} {st st1 : List Value} {L L1 : VL} {h h1 : VG} {n : Int} (hv : vlen (.iconst n) len = true) (hs : stp (.iconst n) m pc L st h = some (pc1, L1, st1, h1)) : VT (.iconst n) len m pc st L h pc1 L1 st1 h1 := by
  obtain rfl : len = 1 := by simpa [vlen] using hv
  cases hs
  exact VT.pure fun p l e R s mi args below meth c H locs cells slots ls Q hx hb hd k => lv_iconst hx hb hd rfl k
theorem t_bipush_ {len m pc pc1 : Nat} {st st1 : List Value} {L L1 : VL} {h h1 : VG} {n : Int} (hv : vlen (.bipush n) len = true) (hs : stp (.bipush n) m pc L st h = some (pc1, L1, st1, h1)) : VT (.bipush n) len m pc st L h pc1 L1 st1 h1 := by
  obtain rfl : len = 2 := by simpa [vlen] using hv
  cases hs
  exact VT.pure fun p l e R s mi args below meth c H locs cells slots ls Q hx hb hd k => lv_bipush hx hb hd rfl k
theorem t_sipush_ {len m pc pc1 : Nat} {st st1 : List Value} {L L1 : VL} {h h1 : VG} {n : Int} (hv : vlen (.sipush n) len = true) (hs : stp (.sipush n) m pc L st h = some (pc1, L1, st1, h1)) : VT (.sipush n) len m pc st L h pc1 L1 st1 h1 := by
  obtain rfl : len = 3 := by simpa [vlen] using hv
  cases hs
  exact VT.pure fun p l e R s mi args below meth c H locs cells slots ls Q hx hb hd k => lv_sipush hx hb hd rfl k
theorem t_lconst_ {len m pc pc1 : Nat} {st st1 : List Value} {L L1 : VL} {h h1 : VG} {n : Fin 2} (hv : vlen (.lconst n) len = true) (hs : stp (.lconst n) m pc L st h = some (pc1, L1, st1, h1)) : VT (.lconst n) len m pc st L h pc1 L1 st1 h1 := by
  obtain rfl : len = 1 := by simpa [vlen] using hv
  cases hs
  exact VT.pure fun p l e R s mi args below meth c H locs cells slots ls Q hx hb hd k => lv_lconst hx hb hd rfl k
theorem t_dconst_ {len m pc pc1 : Nat} {st st1 : List Value} {L L1 : VL} {h h1 : VG} {n : Fin 2} (hv : vlen (.dconst n) len = true) (hs : stp (.dconst n) m pc L st h = some (pc1, L1, st1, h1)) : VT (.dconst n) len m pc st L h pc1 L1 st1 h1 := by
  obtain rfl : len = 1 := by simpa [vlen] using hv
  cases hs
  match n with
  | 0 => exact VT.pure fun p l e R s mi args below meth c H locs cells slots ls Q hx hb hd k => lv_dconst0 hx hb hd k
  | 1 => exact VT.pure fun p l e R s mi args below meth c H locs cells slots ls Q hx hb hd k => lv_dconst1 hx hb hd k
theorem t_idiv_ {len m pc pc1 : Nat} {st st1 : List Value} {L L1 : VL} {h h1 : VG}  (hv : vlen (.idiv) len = true) (hs : stp (.idiv) m pc L st h = some (pc1, L1, st1, h1)) : VT (.idiv) len m pc st L h pc1 L1 st1 h1 := by
  obtain rfl : len = 1 := by simpa [vlen] using hv
  simp only [stp] at hs
  split at hs
  · split at hs
    · cases hs
    · rename_i hn
      cases hs
      exact VT.pure fun p l e R s mi args below meth c H locs cells slots ls Q hx hb hd k => lv_idiv hx hb hd hn k
  · cases hs
theorem t_ldiv_ {len m pc pc1 : Nat} {st st1 : List Value} {L L1 : VL} {h h1 : VG}  (hv : vlen (.ldiv) len = true) (hs : stp (.ldiv) m pc L st h = some (pc1, L1, st1, h1)) : VT (.ldiv) len m pc st L h pc1 L1 st1 h1 := by
  obtain rfl : len = 1 := by simpa [vlen] using hv
  simp only [stp] at hs
  split at hs
  · split at hs
    · cases hs
    · rename_i hn
      cases hs
      exact VT.pure fun p l e R s mi args below meth c H locs cells slots ls Q hx hb hd k => lv_ldiv hx hb hd hn k
  · cases hs
theorem t_dcmp_ {len m pc pc1 : Nat} {st st1 : List Value} {L L1 : VL} {h h1 : VG} {op : CmpOp} (hv : vlen (.dcmp op) len = true) (hs : stp (.dcmp op) m pc L st h = some (pc1, L1, st1, h1)) : VT (.dcmp op) len m pc st L h pc1 L1 st1 h1 := by
  obtain rfl : len = 1 := by simpa [vlen] using hv
  simp only [stp] at hs
  split at hs
  · cases hs
    exact VT.pure fun p l e R s mi args below meth c H locs cells slots ls Q hx hb hd k => lv_dcmp hx hb hd k
  · cases hs
theorem t_f2d_ {len m pc pc1 : Nat} {st st1 : List Value} {L L1 : VL} {h h1 : VG}  (hv : vlen (.f2d) len = true) (hs : stp (.f2d) m pc L st h = some (pc1, L1, st1, h1)) : VT (.f2d) len m pc st L h pc1 L1 st1 h1 := by
  obtain rfl : len = 1 := by simpa [vlen] using hv
  simp only [stp] at hs
  split at hs
  · split at hs
    · rename_i hn
      cases hs
      exact VT.pure fun p l e R s mi args below meth c H locs cells slots ls Q hx hb hd k => lv_f2d hx hb hd hn k
    · cases hs
  · cases hs
theorem t_dup_ {len m pc pc1 : Nat} {st st1 : List Value} {L L1 : VL} {h h1 : VG}  (hv : vlen (.dup) len = true) (hs : stp (.dup) m pc L st h = some (pc1, L1, st1, h1)) : VT (.dup) len m pc st L h pc1 L1 st1 h1 := by
  obtain rfl : len = 1 := by simpa [vlen] using hv
  simp only [stp] at hs
  split at hs
  · split at hs
    · rename_i hn
      cases hs
      exact VT.pure fun p l e R s mi args below meth c H locs cells slots ls Q hx hb hd k => lv_dup hx hb hd hn k
    · cases hs
  · cases hs
theorem t_pop_ {len m pc pc1 : Nat} {st st1 : List Value} {L L1 : VL} {h h1 : VG}  (hv : vlen (.pop) len = true) (hs : stp (.pop) m pc L st h = some (pc1, L1, st1, h1)) : VT (.pop) len m pc st L h pc1 L1 st1 h1 := by
  obtain rfl : len = 1 := by simpa [vlen] using hv
  simp only [stp] at hs
  split at hs
  · split at hs
    · rename_i hn
      cases hs
      exact VT.pure fun p l e R s mi args below meth c H locs cells slots ls Q hx hb hd k => lv_pop hx hb hd hn k
    · cases hs
  · cases hs
theorem t_goto_ {len m pc pc1 : Nat} {st st1 : List Value} {L L1 : VL} {h h1 : VG} {off : Int} (hv : vlen (.goto off) len = true) (hs : stp (.goto off) m pc L st h = some (pc1, L1, st1, h1)) : VT (.goto off) len m pc st L h pc1 L1 st1 h1 := by
  obtain rfl : len = 3 := by simpa [vlen] using hv
  obtain ⟨ht, rfl, rfl, rfl⟩ := vgo_eq hs
  exact VT.pure fun p l e R s mi args below meth c H locs cells slots ls Q hx hb hd k => lv_goto hx hb hd ht k
theorem t_iload_ {len m pc pc1 : Nat} {st st1 : List Value} {L L1 : VL} {h h1 : VG} {j : Nat} (hv : vlen (.iload j) len = true) (hs : stp (.iload j) m pc L st h = some (pc1, L1, st1, h1)) : VT (.iload j) len m pc st L h pc1 L1 st1 h1 := by
  obtain rfl : len = 2 := by simpa [vlen] using hv
  exact s_ldI (fun x hx0 => VT.load hx0 fun p l e R s mi args below meth c H locs cells slots ls Q hx hb hd hl k => lv_iload hx hb hd hl k) hs
theorem t_iload_n_ {len m pc pc1 : Nat} {st st1 : List Value} {L L1 : VL} {h h1 : VG} {j : Fin 4} (hv : vlen (.iload_n j) len = true) (hs : stp (.iload_n j) m pc L st h = some (pc1, L1, st1, h1)) : VT (.iload_n j) len m pc st L h pc1 L1 st1 h1 := by
  obtain rfl : len = 1 := by simpa [vlen] using hv
  exact s_ldI (fun x hx0 => VT.load hx0 fun p l e R s mi args below meth c H locs cells slots ls Q hx hb hd hl k => lv_iload_n hx hb hd rfl hl k) hs
theorem t_istore_ {len m pc pc1 : Nat} {st st1 : List Value} {L L1 : VL} {h h1 : VG} {j : Nat} (hv : vlen (.istore j) len = true) (hs : stp (.istore j) m pc L st h = some (pc1, L1, st1, h1)) : VT (.istore j) len m pc st L h pc1 L1 st1 h1 := by
  obtain rfl : len = 2 := by simpa [vlen] using hv
  exact s_stI (fun x st hz => VT.sto1 hz fun p l e R s mi args below meth c H locs cells slots ls Q hx hb hd hl hn k => lv_istore hx hb hd hl hn rfl k) hs
theorem t_istore_n_ {len m pc pc1 : Nat} {st st1 : List Value} {L L1 : VL} {h h1 : VG} {j : Fin 4} (hv : vlen (.istore_n j) len = true) (hs : stp (.istore_n j) m pc L st h = some (pc1, L1, st1, h1)) : VT (.istore_n j) len m pc st L h pc1 L1 st1 h1 := by
  obtain rfl : len = 1 := by simpa [vlen] using hv
  exact s_stI (fun x st hz => VT.sto1 hz fun p l e R s mi args below meth c H locs cells slots ls Q hx hb hd hl hn k => lv_istore_n hx hb hd rfl hl hn rfl k) hs
theorem t_lload_ {len m pc pc1 : Nat} {st st1 : List Value} {L L1 : VL} {h h1 : VG} {j : Nat} (hv : vlen (.lload j) len = true) (hs : stp (.lload j) m pc L st h = some (pc1, L1, st1, h1)) : VT (.lload j) len m pc st L h pc1 L1 st1 h1 := by
  obtain rfl : len = 2 := by simpa [vlen] using hv
  exact s_ldL (fun x hx0 => VT.load hx0 fun p l e R s mi args below meth c H locs cells slots ls Q hx hb hd hl k => lv_lload hx hb hd hl k) hs
theorem t_lload_n_ {len m pc pc1 : Nat} {st st1 : List Value} {L L1 : VL} {h h1 : VG} {j : Fin 4} (hv : vlen (.lload_n j) len = true) (hs : stp (.lload_n j) m pc L st h = some (pc1, L1, st1, h1)) : VT (.lload_n j) len m pc st L h pc1 L1 st1 h1 := by
  obtain rfl : len = 1 := by simpa [vlen] using hv
  exact s_ldL (fun x hx0 => VT.load hx0 fun p l e R s mi args below meth c H locs cells slots ls Q hx hb hd hl k => lv_lload_n hx hb hd rfl hl k) hs
theorem t_lstore_ {len m pc pc1 : Nat} {st st1 : List Value} {L L1 : VL} {h h1 : VG} {j : Nat} (hv : vlen (.lstore j) len = true) (hs : stp (.lstore j) m pc L st h = some (pc1, L1, st1, h1)) : VT (.lstore j) len m pc st L h pc1 L1 st1 h1 := by
  obtain rfl : len = 2 := by simpa [vlen] using hv
  exact s_stL (fun x st hz => VT.sto2 hz fun p l e R s mi args below meth c H locs cells slots ls Q hx hb hd hl hn k => lv_lstore hx hb hd hl hn rfl k) hs
theorem t_lstore_n_ {len m pc pc1 : Nat} {st st1 : List Value} {L L1 : VL} {h h1 : VG} {j : Fin 4} (hv : vlen (.lstore_n j) len = true) (hs : stp (.lstore_n j) m pc L st h = some (pc1, L1, st1, h1)) : VT (.lstore_n j) len m pc st L h pc1 L1 st1 h1 := by
  obtain rfl : len = 1 := by simpa [vlen] using hv
  exact s_stL (fun x st hz => VT.sto2 hz fun p l e R s mi args below meth c H locs cells slots ls Q hx hb hd hl hn k => lv_lstore_n hx hb hd rfl hl hn rfl k) hs
theorem t_dload_ {len m pc pc1 : Nat} {st st1 : List Value} {L L1 : VL} {h h1 : VG} {j : Nat} (hv : vlen (.dload j) len = true) (hs : stp (.dload j) m pc L st h = some (pc1, L1, st1, h1)) : VT (.dload j) len m pc st L h pc1 L1 st1 h1 := by
  obtain rfl : len = 2 := by simpa [vlen] using hv
  exact s_ldD (fun x hx0 => VT.load hx0 fun p l e R s mi args below meth c H locs cells slots ls Q hx hb hd hl k => lv_dload hx hb hd hl k) hs
theorem t_dload_n_ {len m pc pc1 : Nat} {st st1 : List Value} {L L1 : VL} {h h1 : VG} {j : Fin 4} (hv : vlen (.dload_n j) len = true) (hs : stp (.dload_n j) m pc L st h = some (pc1, L1, st1, h1)) : VT (.dload_n j) len m pc st L h pc1 L1 st1 h1 := by
  obtain rfl : len = 1 := by simpa [vlen] using hv
  exact s_ldD (fun x hx0 => VT.load hx0 fun p l e R s mi args below meth c H locs cells slots ls Q hx hb hd hl k => lv_dload_n hx hb hd rfl hl k) hs
theorem t_dstore_ {len m pc pc1 : Nat} {st st1 : List Value} {L L1 : VL} {h h1 : VG} {j : Nat} (hv : vlen (.dstore j) len = true) (hs : stp (.dstore j) m pc L st h = some (pc1, L1, st1, h1)) : VT (.dstore j) len m pc st L h pc1 L1 st1 h1 := by
  obtain rfl : len = 2 := by simpa [vlen] using hv
  exact s_stD (fun x st hz => VT.sto2 hz fun p l e R s mi args below meth c H locs cells slots ls Q hx hb hd hl hn k => lv_dstore hx hb hd hl hn rfl k) hs
theorem t_dstore_n_ {len m pc pc1 : Nat} {st st1 : List Value} {L L1 : VL} {h h1 : VG} {j : Fin 4} (hv : vlen (.dstore_n j) len = true) (hs : stp (.dstore_n j) m pc L st h = some (pc1, L1, st1, h1)) : VT (.dstore_n j) len m pc st L h pc1 L1 st1 h1 := by
  obtain rfl : len = 1 := by simpa [vlen] using hv
  exact s_stD (fun x st hz => VT.sto2 hz fun p l e R s mi args below meth c H locs cells slots ls Q hx hb hd hl hn k => lv_dstore_n hx hb hd rfl hl hn rfl k) hs
theorem t_aload_ {len m pc pc1 : Nat} {st st1 : List Value} {L L1 : VL} {h h1 : VG} {j : Nat} (hv : vlen (.aload j) len = true) (hs : stp (.aload j) m pc L st h = some (pc1, L1, st1, h1)) : VT (.aload j) len m pc st L h pc1 L1 st1 h1 := by
  obtain rfl : len = 2 := by simpa [vlen] using hv
  exact s_ldA (fun x hx0 => VT.load hx0 fun p l e R s mi args below meth c H locs cells slots ls Q hx hb hd hl k => lv_aload hx hb hd hl k) hs
theorem t_aload_n_ {len m pc pc1 : Nat} {st st1 : List Value} {L L1 : VL} {h h1 : VG} {j : Fin 4} (hv : vlen (.aload_n j) len = true) (hs : stp (.aload_n j) m pc L st h = some (pc1, L1, st1, h1)) : VT (.aload_n j) len m pc st L h pc1 L1 st1 h1 := by
  obtain rfl : len = 1 := by simpa [vlen] using hv
  exact s_ldA (fun x hx0 => VT.load hx0 fun p l e R s mi args below meth c H locs cells slots ls Q hx hb hd hl k => lv_aload_n hx hb hd rfl hl k) hs
theorem t_astore_ {len m pc pc1 : Nat} {st st1 : List Value} {L L1 : VL} {h h1 : VG} {j : Nat} (hv : vlen (.astore j) len = true) (hs : stp (.astore j) m pc L st h = some (pc1, L1, st1, h1)) : VT (.astore j) len m pc st L h pc1 L1 st1 h1 := by
  obtain rfl : len = 2 := by simpa [vlen] using hv
  exact s_stA (fun x st hz => VT.sto1 hz fun p l e R s mi args below meth c H locs cells slots ls Q hx hb hd hl hn k => lv_astore hx hb hd hl hn rfl k) hs
theorem t_astore_n_ {len m pc pc1 : Nat} {st st1 : List Value} {L L1 : VL} {h h1 : VG} {j : Fin 4} (hv : vlen (.astore_n j) len = true) (hs : stp (.astore_n j) m pc L st h = some (pc1, L1, st1, h1)) : VT (.astore_n j) len m pc st L h pc1 L1 st1 h1 := by
  obtain rfl : len = 1 := by simpa [vlen] using hv
  exact s_stA (fun x st hz => VT.sto1 hz fun p l e R s mi args below meth c H locs cells slots ls Q hx hb hd hl hn k => lv_astore_n hx hb hd rfl hl hn rfl k) hs
theorem t_iinc_ {len m pc pc1 : Nat} {st st1 : List Value} {L L1 : VL} {h h1 : VG} {j : Nat} {n : Int} (hv : vlen (.iinc j n) len = true) (hs : stp (.iinc j n) m pc L st h = some (pc1, L1, st1, h1)) : VT (.iinc j n) len m pc st L h pc1 L1 st1 h1 := by
  obtain rfl : len = 3 := by simpa [vlen] using hv
  simp only [stp] at hs
  split at hs
  · rename_i x hx0
    unfold vs1 at hs
    split at hs
    · rename_i z hz
      cases hs
      refine VT.sto1 ⟨z, hz⟩ fun p l e R s mi args below meth c H locs cells slots ls Q hx hb hd hl hn k => ?_
      obtain ⟨q, hq⟩ := List.getElem?_of_mem (toA_mem (q := (j, .int x)) |>.mpr (vgetD hx0))
      exact lv_iinc hx hb hd hl hq rfl hn rfl k
    · cases hs
  · cases hs
theorem t_if_ {len m pc pc1 : Nat} {st st1 : List Value} {L L1 : VL} {h h1 : VG} {cc : ClassFile.Cond} {off : Int} (hv : vlen (.ifCond cc off) len = true) (hs : stp (.ifCond cc off) m pc L st h = some (pc1, L1, st1, h1)) : VT (.ifCond cc off) len m pc st L h pc1 L1 st1 h1 := by
  obtain rfl : len = 3 := by simpa [vlen] using hv
  simp only [stp] at hs
  split at hs
  · rename_i x st0
    unfold vif at hs
    split at hs
    · rename_i t ht
      cases cc with
      | eq =>
        dsimp only at hs
        split at hs
        · rename_i hc
          cases hs
          exact VT.pure fun p l e R s mi args below meth c H locs cells slots ls Q hx hb hd k => lv_if_eq hx hb hd ht (fun _ => k) (fun z => absurd hc z)
        · rename_i hc
          cases hs
          exact VT.pure fun p l e R s mi args below meth c H locs cells slots ls Q hx hb hd k => lv_if_eq hx hb hd ht (fun z => absurd z hc) (fun _ => k)
      | ne =>
        dsimp only at hs
        split at hs
        · rename_i hc
          cases hs
          exact VT.pure fun p l e R s mi args below meth c H locs cells slots ls Q hx hb hd k => lv_if_ne hx hb hd ht (fun z => absurd hc z) (fun _ => k)
        · rename_i hc
          cases hs
          exact VT.pure fun p l e R s mi args below meth c H locs cells slots ls Q hx hb hd k => lv_if_ne hx hb hd ht (fun _ => k) (fun z => absurd z hc)
      | lt =>
        dsimp only at hs
        split at hs
        · rename_i hc
          cases hs
          exact VT.pure fun p l e R s mi args below meth c H locs cells slots ls Q hx hb hd k => lv_if_lt hx hb hd ht (fun _ => k) (fun z => absurd hc z)
        · rename_i hc
          cases hs
          exact VT.pure fun p l e R s mi args below meth c H locs cells slots ls Q hx hb hd k => lv_if_lt hx hb hd ht (fun z => absurd z hc) (fun _ => k)
      | ge =>
        dsimp only at hs
        split at hs
        · rename_i hc
          cases hs
          exact VT.pure fun p l e R s mi args below meth c H locs cells slots ls Q hx hb hd k => lv_if_ge hx hb hd ht (fun z => absurd hc (Int32.not_lt.mpr z)) (fun _ => k)
        · rename_i hc
          cases hs
          exact VT.pure fun p l e R s mi args below meth c H locs cells slots ls Q hx hb hd k => lv_if_ge hx hb hd ht (fun _ => k) (fun z => absurd (Int32.not_lt.mp hc) z)
      | gt =>
        dsimp only at hs
        split at hs
        · rename_i hc
          cases hs
          exact VT.pure fun p l e R s mi args below meth c H locs cells slots ls Q hx hb hd k => lv_if_gt hx hb hd ht (fun z => absurd hc (Int32.not_le.mpr z)) (fun _ => k)
        · rename_i hc
          cases hs
          exact VT.pure fun p l e R s mi args below meth c H locs cells slots ls Q hx hb hd k => lv_if_gt hx hb hd ht (fun _ => k) (fun z => absurd (Int32.not_le.mp hc) z)
      | le =>
        dsimp only at hs
        split at hs
        · rename_i hc
          cases hs
          exact VT.pure fun p l e R s mi args below meth c H locs cells slots ls Q hx hb hd k => lv_if_le hx hb hd ht (fun _ => k) (fun z => absurd hc z)
        · rename_i hc
          cases hs
          exact VT.pure fun p l e R s mi args below meth c H locs cells slots ls Q hx hb hd k => lv_if_le hx hb hd ht (fun z => absurd z hc) (fun _ => k)
    · cases hs
  · cases hs
theorem t_icmp_ {len m pc pc1 : Nat} {st st1 : List Value} {L L1 : VL} {h h1 : VG} {cc : ClassFile.Cond} {off : Int} (hv : vlen (.if_icmp cc off) len = true) (hs : stp (.if_icmp cc off) m pc L st h = some (pc1, L1, st1, h1)) : VT (.if_icmp cc off) len m pc st L h pc1 L1 st1 h1 := by
  obtain rfl : len = 3 := by simpa [vlen] using hv
  simp only [stp] at hs
  split at hs
  · unfold vif at hs
    split at hs
    · rename_i t ht
      cases cc with
      | eq =>
        dsimp only at hs
        split at hs
        · rename_i hc
          cases hs
          exact VT.pure fun p l e R s mi args below meth c H locs cells slots ls Q hx hb hd k => lv_icmp_eq hx hb hd ht (fun _ => k) (fun z => absurd hc z)
        · rename_i hc
          cases hs
          exact VT.pure fun p l e R s mi args below meth c H locs cells slots ls Q hx hb hd k => lv_icmp_eq hx hb hd ht (fun z => absurd z hc) (fun _ => k)
      | ne =>
        dsimp only at hs
        split at hs
        · rename_i hc
          cases hs
          exact VT.pure fun p l e R s mi args below meth c H locs cells slots ls Q hx hb hd k => lv_icmp_ne hx hb hd ht (fun z => absurd hc z) (fun _ => k)
        · rename_i hc
          cases hs
          exact VT.pure fun p l e R s mi args below meth c H locs cells slots ls Q hx hb hd k => lv_icmp_ne hx hb hd ht (fun _ => k) (fun z => absurd z hc)
      | lt =>
        dsimp only at hs
        split at hs
        · rename_i hc
          cases hs
          exact VT.pure fun p l e R s mi args below meth c H locs cells slots ls Q hx hb hd k => lv_icmp_lt hx hb hd ht (fun _ => k) (fun z => absurd hc z)
        · rename_i hc
          cases hs
          exact VT.pure fun p l e R s mi args below meth c H locs cells slots ls Q hx hb hd k => lv_icmp_lt hx hb hd ht (fun z => absurd z hc) (fun _ => k)
      | ge =>
        dsimp only at hs
        split at hs
        · rename_i hc
          cases hs
          exact VT.pure fun p l e R s mi args below meth c H locs cells slots ls Q hx hb hd k => lv_icmp_ge hx hb hd ht (fun z => absurd hc (Int32.not_lt.mpr z)) (fun _ => k)
        · rename_i hc
          cases hs
          exact VT.pure fun p l e R s mi args below meth c H locs cells slots ls Q hx hb hd k => lv_icmp_ge hx hb hd ht (fun _ => k) (fun z => absurd (Int32.not_lt.mp hc) z)
      | gt =>
        dsimp only at hs
        split at hs
        · rename_i hc
          cases hs
          exact VT.pure fun p l e R s mi args below meth c H locs cells slots ls Q hx hb hd k => lv_icmp_gt hx hb hd ht (fun z => absurd hc (Int32.not_le.mpr z)) (fun _ => k)
        · rename_i hc
          cases hs
          exact VT.pure fun p l e R s mi args below meth c H locs cells slots ls Q hx hb hd k => lv_icmp_gt hx hb hd ht (fun _ => k) (fun z => absurd (Int32.not_le.mp hc) z)
      | le =>
        dsimp only at hs
        split at hs
        · rename_i hc
          cases hs
          exact VT.pure fun p l e R s mi args below meth c H locs cells slots ls Q hx hb hd k => lv_icmp_le hx hb hd ht (fun _ => k) (fun z => absurd hc z)
        · rename_i hc
          cases hs
          exact VT.pure fun p l e R s mi args below meth c H locs cells slots ls Q hx hb hd k => lv_icmp_le hx hb hd ht (fun z => absurd z hc) (fun _ => k)
    · cases hs
  · cases hs
