/-! THE LITTLE MACHINE: what the claim's methods do, as a function: a heap is a function from addresses to cells, with the next address, the slots made so far, and what the statics hold. Part 05 and on prove the kit's machine does the same. -/
abbrev VE : Type := (Nat × vp_A) ⊕ (Nat × List Value)
abbrev VG : Type := (Nat → VE) × Nat × Nat × (Nat → Value)
abbrev VL : Type := List (Option Value)
abbrev VR : Type := Option Value × VG
abbrev VN : Type := Option (Nat × VL × List Value × VG)
def vM (m : Nat) : MethodName × Nat × Option FieldType × Nat × Nat × Nat × Nat := vMt.getD m (⟨"", "", ""⟩, 0, none, 99, 0, 0, 0)
def mnm (m : Nat) : MethodName := (vM m).1
def mmax (m : Nat) : Nat := (vM m).2.1
def mret (m : Nat) : Option FieldType := (vM m).2.2.1
def mcl (m : Nat) : Nat := (vM m).2.2.2.1
def mdep (m : Nat) : Nat := Nat.max 1 (vM m).2.2.2.2.1
def mlw (m : Nat) : Nat := Nat.max 40 (vM m).2.2.2.2.2.1
def mna (m : Nat) : Nat := (vM m).2.2.2.2.2.2
/-- a method's bytes: the ones that the tables' word at its place tells -/
def mcode (m : Nat) : ByteArray := if m = vLaw then code else match lw_tbl[(vMp.getD m (0, 0, 0, 0)).1]? with
  | some (.code _ b _ _) => b
  | _ => ByteArray.empty
def vFld (oc idx : Nat) : Option (Nat × Nat × Nat) := (vFt.find? (fun e => e.1 == oc && e.2.1 == idx)).map (fun e => e.2.2)
def vSta (oc idx : Nat) : Option (Nat × Nat) := (vSt.find? (fun e => e.1 == oc && e.2.1 == idx)).map (fun e => e.2.2)
def vStr (oc idx : Nat) : Option Nat := if oc = 10 ∧ idx = 25 then some 4 else none
def vCal (oc idx : Nat) : Option (Nat × Nat × Nat) := (vCt.find? (fun e => e.1 == oc && e.2.1 == idx)).map (fun e => e.2.2)
def vNew (oc idx : Nat) : Option (Nat × Nat) := (vNt.find? (fun e => e.1 == oc && e.2.1 == idx)).map (fun e => e.2.2)
def vCst (oc idx : Nat) : Option (Value × Nat) := (vKt.find? (fun e => e.1 == oc && e.2.1 == idx)).map (fun e => e.2.2)
def vTys : List (Nat → FieldType) := [tyX0, tyX1, tyX2, tyX3, tyX5, tyX6, tyX7, tyX8, tyX9, tyX10, tyX11, tyX12]
def vTy (ci k : Nat) : FieldType := (vTys.getD ci (fun _ => .int)) k
def vFin (ci k : Nat) : Bool := match vwCl[ci]? with
  | some q => (q.2.1 k).2.2.2
  | none => true
def vDcl (ci k : Nat) : String := match vwCl[ci]? with
  | some q => (q.2.1 k).1
  | none => ""
def vNsl (ci : Nat) : Nat := match vwCl[ci]? with
  | some q => q.2.2
  | none => 0
def vDef (ci : Nat) : List Value := (List.range (vNsl ci)).map (fun k => defaultValue (vTy ci k))
def vPut (m ci k : Nat) : Bool := vFin ci k == false || ((mnm m).name == "<init>" && vDcl ci k == vCn.getD (mcl m) "")
def vOk (ty : FieldType) (v : Value) : Prop := narrow ty v = v ∧ fits ty v = true
def vlen (i : Instr) (n : Nat) : Bool := match i with
  | .tableswitch _ _ _ _ => true
  | .lookupswitch _ _ => true
  | .bipush _ => n == 2
  | .ldc _ => n == 2
  | .iload _ => n == 2
  | .lload _ => n == 2
  | .dload _ => n == 2
  | .aload _ => n == 2
  | .istore _ => n == 2
  | .lstore _ => n == 2
  | .dstore _ => n == 2
  | .astore _ => n == 2
  | .newarray _ => n == 2
  | .sipush _ => n == 3
  | .ldc_w _ => n == 3
  | .ldc2_w _ => n == 3
  | .iinc _ _ => n == 3
  | .ifCond _ _ => n == 3
  | .if_icmp _ _ => n == 3
  | .goto _ => n == 3
  | .getfield _ => n == 3
  | .putfield _ => n == 3
  | .getstatic _ => n == 3
  | .invokestatic _ => n == 3
  | .invokevirtual _ => n == 3
  | .invokespecial _ => n == 3
  | .new _ => n == 3
  | .anewarray _ => n == 3
  | _ => n == 1
def fetch (m pc : Nat) : Option (Instr × Nat) := match decode (mcode m) pc with
  | .ok x => if vlen x.1 x.2 = true then some x else none
  | .error _ => none
def hset (h : VG) (a : Nat) (c : VE) : VG := (fun x => if x = a then c else h.1 x, h.2)
def hnew (h : VG) (c : VE) (n : Nat) : VG := (fun x => if x = h.2.1 then c else h.1 x, h.2.1 + 1, h.2.2.1 + n, h.2.2.2)
def catS (st : List Value) : Nat := (st.map fun v => v.category).sum
def vkl (L : VL) (i : Nat) : VL := match i with
  | 0 => L
  | j + 1 => match L.getD j none with
    | some w => if w.category = 2 then L.set j none else L
    | none => L
def vS1 (L : VL) (i : Nat) (v : Value) : VL := (vkl L i).set i (some v)
def vS2 (L : VL) (i : Nat) (v : Value) : VL := ((vkl L i).set i (some v)).set (i + 1) none
def vs1 (n pc : Nat) (L : VL) (i : Nat) (v : Value) (st : List Value) (h : VG) : VN := match L[i]? with
  | some _ => some (pc + n, vS1 L i v, st, h)
  | none => none
def vs2 (n pc : Nat) (L : VL) (i : Nat) (v : Value) (st : List Value) (h : VG) : VN := match L[i + 1]? with
  | some _ => some (pc + n, vS2 L i v, st, h)
  | none => none
def vldI (n pc : Nat) (L : VL) (i : Nat) (st : List Value) (h : VG) : VN := match L.getD i none with
  | some (.int x) => some (pc + n, L, .int x :: st, h)
  | _ => none
def vldL (n pc : Nat) (L : VL) (i : Nat) (st : List Value) (h : VG) : VN := match L.getD i none with
  | some (.long x) => some (pc + n, L, .long x :: st, h)
  | _ => none
def vldD (n pc : Nat) (L : VL) (i : Nat) (st : List Value) (h : VG) : VN := match L.getD i none with
  | some (.double x) => some (pc + n, L, .double x :: st, h)
  | _ => none
def vldA (n pc : Nat) (L : VL) (i : Nat) (st : List Value) (h : VG) : VN := match L.getD i none with
  | some (.ref x) => some (pc + n, L, .ref x :: st, h)
  | _ => none
def vstI (n pc : Nat) (L : VL) (i : Nat) (st : List Value) (h : VG) : VN := match st with
  | .int x :: st => vs1 n pc L i (.int x) st h
  | _ => none
def vstL (n pc : Nat) (L : VL) (i : Nat) (st : List Value) (h : VG) : VN := match st with
  | .long x :: st => vs2 n pc L i (.long x) st h
  | _ => none
def vstD (n pc : Nat) (L : VL) (i : Nat) (st : List Value) (h : VG) : VN := match st with
  | .double x :: st => vs2 n pc L i (.double x) st h
  | _ => none
def vstA (n pc : Nat) (L : VL) (i : Nat) (st : List Value) (h : VG) : VN := match st with
  | .ref x :: st => vs1 n pc L i (.ref x) st h
  | _ => none
def vi1 (f : Int32 → Value) (pc : Nat) (L : VL) (st : List Value) (h : VG) : VN := match st with
  | .int x :: st => some (pc + 1, L, f x :: st, h)
  | _ => none
def vi2 (f : Int32 → Int32 → Int32) (pc : Nat) (L : VL) (st : List Value) (h : VG) : VN := match st with
  | .int y :: .int x :: st => some (pc + 1, L, .int (f x y) :: st, h)
  | _ => none
def vl1 (f : Int64 → Value) (pc : Nat) (L : VL) (st : List Value) (h : VG) : VN := match st with
  | .long x :: st => some (pc + 1, L, f x :: st, h)
  | _ => none
def vl2 (f : Int64 → Int64 → Value) (pc : Nat) (L : VL) (st : List Value) (h : VG) : VN := match st with
  | .long y :: .long x :: st => some (pc + 1, L, f x y :: st, h)
  | _ => none
def vls (f : Int64 → Int32 → Int64) (pc : Nat) (L : VL) (st : List Value) (h : VG) : VN := match st with
  | .int y :: .long x :: st => some (pc + 1, L, .long (f x y) :: st, h)
  | _ => none
def vd1 (f : UInt64 → Value) (pc : Nat) (L : VL) (st : List Value) (h : VG) : VN := match st with
  | .double x :: st => some (pc + 1, L, f x :: st, h)
  | _ => none
def vd2 (f : UInt64 → UInt64 → UInt64) (pc : Nat) (L : VL) (st : List Value) (h : VG) : VN := match st with
  | .double y :: .double x :: st => if f x y &&& 0x7fffffffffffffff ≤ 0x7ff0000000000000 then some (pc + 1, L, .double (f x y) :: st, h) else none
  | _ => none
def vgo (pc : Nat) (off : Int) (L : VL) (st : List Value) (h : VG) : VN := match (pc : Int) + off with
  | .ofNat t => some (t, L, st, h)
  | .negSucc _ => none
def vif (c : ClassFile.Cond) (off : Int) (pc : Nat) (x y : Int32) (L : VL) (st : List Value) (h : VG) : VN := match (pc : Int) + off with
  | .ofNat t => match c with
    | .eq => if x = y then some (t, L, st, h) else some (pc + 3, L, st, h)
    | .ne => if x = y then some (pc + 3, L, st, h) else some (t, L, st, h)
    | .lt => if x < y then some (t, L, st, h) else some (pc + 3, L, st, h)
    | .ge => if x < y then some (pc + 3, L, st, h) else some (t, L, st, h)
    | .gt => if x ≤ y then some (pc + 3, L, st, h) else some (t, L, st, h)
    | .le => if x ≤ y then some (t, L, st, h) else some (pc + 3, L, st, h)
  | .negSucc _ => none
def vsw (pc : Nat) (d : Int) (x : Int32) (L : VL) (st : List Value) (h : VG) : Int → List Int → VN
  | _, [] => vgo pc d L st h
  | lo, o :: os => if x = Int32.ofInt lo then vgo pc o L st h else vsw pc d x L st h (lo + 1) os
def vlk (pc : Nat) (d : Int) (x : Int32) (L : VL) (st : List Value) (h : VG) : List (Int × Int) → VN
  | [] => vgo pc d L st h
  | q :: ps => if x = Int32.ofInt q.1 then vgo pc q.2 L st h else vlk pc d x L st h ps
def vgetf (h : VG) (a ci k : Nat) : Option Value := if ci = 12 then (if h.2.2.2 4 = .ref a then (if k = 0 then some (h.2.2.2 5) else some (.int 0)) else none) else match h.1 a with
  | .inr (c, fs) => if c = ci then fs[k]? else none
  | .inl _ => none
def vbad (i : Int32) (n : Nat) : Prop := i < 0 ∨ n ≤ i.toNatClampNeg
def viald (h : VG) (a : Nat) (i : Int32) : Option Int32 := match h.1 a with
  | .inl (t, n, .inl f) => if (t = 0 ∨ t = 20) ∧ ¬ (i < 0 ∨ n ≤ i.toNatClampNeg) then some (f i.toNatClampNeg) else none
  | _ => none
def vbald (h : VG) (a : Nat) (i : Int32) : Option Int32 := match h.1 a with
  | .inl (t, n, .inl f) => if (t = 2 ∨ t = 3 ∨ t = 21) ∧ ¬ (i < 0 ∨ n ≤ i.toNatClampNeg) then some (f i.toNatClampNeg) else none
  | _ => none
def vlald (h : VG) (a : Nat) (i : Int32) : Option Int64 := match h.1 a with
  | .inl (t, n, .inr (.inl f)) => if t = 1 ∧ ¬ (i < 0 ∨ n ≤ i.toNatClampNeg) then some (f i.toNatClampNeg) else none
  | _ => none
def vdald (h : VG) (a : Nat) (i : Int32) : Option UInt64 := match h.1 a with
  | .inl (t, n, .inr (.inr (.inr (.inl f)))) => if t = 4 ∧ ¬ (i < 0 ∨ n ≤ i.toNatClampNeg) then some (f i.toNatClampNeg) else none
  | _ => none
def vaald (h : VG) (a : Nat) (i : Int32) : Option (Option Nat) := match h.1 a with
  | .inl (t, n, .inr (.inr (.inr (.inr f)))) => if (t = 5 ∨ t = 6 ∨ t = 7) ∧ ¬ (i < 0 ∨ n ≤ i.toNatClampNeg) then some (f i.toNatClampNeg) else none
  | _ => none
def valen (h : VG) (a : Nat) : Option Nat := match h.1 a with
  | .inl (t, n, _) => if t < 8 ∨ t = 20 ∨ t = 21 then some n else none
  | .inr _ => none
def viast (h : VG) (a : Nat) (i x : Int32) : Option VG := match h.1 a with
  | .inl (t, n, .inl f) => if t = 0 ∧ ¬ (i < 0 ∨ n ≤ i.toNatClampNeg) then some (hset h a (.inl (t, n, .inl (upd f i.toNatClampNeg x)))) else none
  | _ => none
def vbast (h : VG) (a : Nat) (i x : Int32) : Option VG := match h.1 a with
  | .inl (t, n, .inl f) => if (t = 2 ∨ t = 3) ∧ ¬ (i < 0 ∨ n ≤ i.toNatClampNeg) then some (hset h a (.inl (t, n, .inl (upd f i.toNatClampNeg (vp_nar (if t = 2 then .byte else .boolean) x))))) else none
  | _ => none
def vlast (h : VG) (a : Nat) (i : Int32) (x : Int64) : Option VG := match h.1 a with
  | .inl (t, n, .inr (.inl f)) => if t = 1 ∧ ¬ (i < 0 ∨ n ≤ i.toNatClampNeg) then some (hset h a (.inl (t, n, .inr (.inl (vp_updL f i.toNatClampNeg x))))) else none
  | _ => none
def vdast (h : VG) (a : Nat) (i : Int32) (x : UInt64) : Option VG := match h.1 a with
  | .inl (t, n, .inr (.inr (.inr (.inl f)))) => if t = 4 ∧ ¬ (i < 0 ∨ n ≤ i.toNatClampNeg) then some (hset h a (.inl (t, n, .inr (.inr (.inr (.inl (vf_upd f i.toNatClampNeg x))))))) else none
  | _ => none
def vCiT (ci : Nat) : Nat := if ci = 1 then 5 else if ci = 3 then 6 else if ci = 8 then 7 else 99
def vaast (h : VG) (a : Nat) (i : Int32) (v : Nat) : Option VG := match h.1 a with
  | .inl (t, n, .inr (.inr (.inr (.inr f)))) => match h.1 v with
    | .inr (ci, _) => if t = vCiT ci ∧ t < 8 ∧ ¬ (i < 0 ∨ n ≤ i.toNatClampNeg) then some (hset h a (.inl (t, n, .inr (.inr (.inr (.inr (va_up f i.toNatClampNeg (some v)))))))) else none
    | .inl _ => none
  | _ => none
def vnewa (ty : ArrayType) : Option (Nat × ((Nat → Int32) ⊕ (Nat → Int64) ⊕ (Nat → UInt32) ⊕ (Nat → UInt64) ⊕ (Nat → Option Nat))) := match ty with
  | .int => some (0, .inl (fun _ => 0))
  | .long => some (1, .inr (.inl (fun _ => 0)))
  | .byte => some (2, .inl (fun _ => 0))
  | .boolean => some (3, .inl (fun _ => 0))
  | .double => some (4, .inr (.inr (.inr (.inl (fun _ => 0)))))
  | _ => none
def vTyT (t : Nat) : FieldType := if t = 0 then .int else .byte
def vcopy (h : VG) (s d : Nat) (sp dp n : Int32) : Option VG := match h.1 s with
  | .inl (t, n0, .inl f) => match h.1 d with
    | .inl (t', n1, .inl g) => if t = t' ∧ (t = 0 ∨ t = 2) ∧ ¬ sp < 0 ∧ ¬ dp < 0 ∧ ¬ n < 0 ∧ sp.toNatClampNeg + n.toNatClampNeg ≤ n0 ∧ dp.toNatClampNeg + n.toNatClampNeg ≤ n1 ∧ (∀ i, i < n.toNatClampNeg → fits (vTyT t) (.int (f (sp.toNatClampNeg + i))) = true) then some (hset h d (.inl (t', n1, .inl (va_cpy f g sp.toNatClampNeg dp.toNatClampNeg n.toNatClampNeg)))) else none
    | _ => none
  | .inl (t, n0, .inr (.inl f)) => match h.1 d with
    | .inl (t', n1, .inr (.inl g)) => if t = t' ∧ t = 1 ∧ ¬ sp < 0 ∧ ¬ dp < 0 ∧ ¬ n < 0 ∧ sp.toNatClampNeg + n.toNatClampNeg ≤ n0 ∧ dp.toNatClampNeg + n.toNatClampNeg ≤ n1 then some (hset h d (.inl (t', n1, .inr (.inl (va_cpy f g sp.toNatClampNeg dp.toNatClampNeg n.toNatClampNeg))))) else none
    | _ => none
  | _ => none
def vprim (k pc : Nat) (L : VL) (st : List Value) (h : VG) : VN := match k with
  | 10 => match st with
    | .ref _ :: st => if catS st ≤ 8 then some (pc + 3, L, st, h) else none
    | _ => none
  | 11 => match st with
    | .int y :: .int x :: st => if catS st ≤ 8 then some (pc + 3, L, .int (if x < y then y else x) :: st, h) else none
    | _ => none
  | 12 => match st with
    | .int y :: .int x :: st => if catS st ≤ 8 then some (pc + 3, L, .int (if y < x then y else x) :: st, h) else none
    | _ => none
  | 13 => match st with
    | .int n :: .int dp :: .ref d :: .int sp :: .ref s :: st => if catS st ≤ 8 then (match vcopy h s d sp dp n with
      | some h1 => some (pc + 3, L, st, h1)
      | none => none) else none
    | _ => none
  | _ => none
def stp (i : Instr) (m pc : Nat) (L : VL) (st : List Value) (h : VG) : VN := match i with
  | .iconst n => some (pc + 1, L, .int (Int32.ofInt n) :: st, h)
  | .bipush n => some (pc + 2, L, .int (Int8.ofInt n).toInt32 :: st, h)
  | .sipush n => some (pc + 3, L, .int (Int16.ofInt n).toInt32 :: st, h)
  | .lconst n => some (pc + 1, L, .long (Int64.ofNat n.val) :: st, h)
  | .dconst n => some (pc + 1, L, .double (if n = 0 then FP.dconst0 else FP.dconst1) :: st, h)
  | .ldc idx => match vStr (mcl m) idx with
    | some k => some (pc + 2, L, h.2.2.2 k :: st, h)
    | none => none
  | .ldc_w idx => match vCst (mcl m) idx with
    | some (.int v, _) => some (pc + 3, L, .int v :: st, h)
    | _ => none
  | .ldc2_w idx => match vCst (mcl m) idx with
    | some (.long v, _) => some (pc + 3, L, .long v :: st, h)
    | some (.double v, _) => some (pc + 3, L, .double v :: st, h)
    | _ => none
  | .iload i => vldI 2 pc L i st h
  | .iload_n k => vldI 1 pc L k.val st h
  | .lload i => vldL 2 pc L i st h
  | .lload_n k => vldL 1 pc L k.val st h
  | .dload i => vldD 2 pc L i st h
  | .dload_n k => vldD 1 pc L k.val st h
  | .aload i => vldA 2 pc L i st h
  | .aload_n k => vldA 1 pc L k.val st h
  | .istore i => vstI 2 pc L i st h
  | .istore_n k => vstI 1 pc L k.val st h
  | .lstore i => vstL 2 pc L i st h
  | .lstore_n k => vstL 1 pc L k.val st h
  | .dstore i => vstD 2 pc L i st h
  | .dstore_n k => vstD 1 pc L k.val st h
  | .astore i => vstA 2 pc L i st h
  | .astore_n k => vstA 1 pc L k.val st h
  | .iinc i n => match L.getD i none with
    | some (.int x) => vs1 3 pc L i (.int (x + Int32.ofInt n)) st h
    | _ => none
  | .iadd => vi2 (fun x y => x + y) pc L st h
  | .isub => vi2 (fun x y => x - y) pc L st h
  | .imul => vi2 (fun x y => x * y) pc L st h
  | .iand => vi2 (fun x y => x &&& y) pc L st h
  | .ior => vi2 (fun x y => x ||| y) pc L st h
  | .ishl => vi2 (fun x y => x <<< (y &&& 31)) pc L st h
  | .ishr => vi2 (fun x y => x >>> (y &&& 31)) pc L st h
  | .iushr => vi2 (fun x y => (x.toUInt32 >>> (y.toUInt32 &&& Int32.toUInt32 31)).toInt32) pc L st h
  | .idiv => match st with
    | .int y :: .int x :: st => if y = 0 then none else some (pc + 1, L, .int (x / y) :: st, h)
    | _ => none
  | .ineg => vi1 (fun x => .int (-x)) pc L st h
  | .i2l => vi1 (fun x => .long x.toInt64) pc L st h
  | .i2b => vi1 (fun x => .int x.toInt8.toInt32) pc L st h
  | .i2s => vi1 (fun x => .int x.toInt16.toInt32) pc L st h
  | .i2c => vi1 (fun x => .int (x.toUInt32 % 65536).toInt32) pc L st h
  | .ladd => vl2 (fun x y => .long (x + y)) pc L st h
  | .lsub => vl2 (fun x y => .long (x - y)) pc L st h
  | .lmul => vl2 (fun x y => .long (x * y)) pc L st h
  | .land => vl2 (fun x y => .long (x &&& y)) pc L st h
  | .lor => vl2 (fun x y => .long (x ||| y)) pc L st h
  | .lcmp => vl2 (fun x y => .int (lg_cmp x y)) pc L st h
  | .ldiv => match st with
    | .long y :: .long x :: st => if y = 0 then none else some (pc + 1, L, .long (x / y) :: st, h)
    | _ => none
  | .lneg => vl1 (fun x => .long (-x)) pc L st h
  | .l2i => vl1 (fun x => .int x.toInt32) pc L st h
  | .l2d => vl1 (fun x => .double (FP.l2d x)) pc L st h
  | .l2f => vl1 (fun x => .float (FP.l2f x)) pc L st h
  | .lshl => vls (fun x y => x <<< (y.toInt64 &&& 63)) pc L st h
  | .lshr => vls (fun x y => x >>> (y.toInt64 &&& 63)) pc L st h
  | .lushr => vls (fun x y => (x.toUInt64 >>> (y.toInt64.toUInt64 &&& Int64.toUInt64 63)).toInt64) pc L st h
  | .dmul => vd2 FP.dmul pc L st h
  | .ddiv => vd2 FP.ddiv pc L st h
  | .dneg => vd1 (fun x => .double (FP.dneg x)) pc L st h
  | .d2l => vd1 (fun x => .long (FP.d2l x)) pc L st h
  | .dcmp op => match st with
    | .double y :: .double x :: st => some (pc + 1, L, .int (Op.cmpValue (FP.dcmp x y) op) :: st, h)
    | _ => none
  | .f2d => match st with
    | .float x :: st => if FP.f2d x &&& 0x7fffffffffffffff ≤ 0x7ff0000000000000 then some (pc + 1, L, .double (FP.f2d x) :: st, h) else none
    | _ => none
  | .dup => match st with
    | v :: st => if v.category = 1 then some (pc + 1, L, v :: v :: st, h) else none
    | [] => none
  | .pop => match st with
    | v :: st => if v.category = 1 then some (pc + 1, L, st, h) else none
    | [] => none
  | .goto off => vgo pc off L st h
  | .ifCond c off => match st with
    | .int x :: st => vif c off pc x 0 L st h
    | _ => none
  | .if_icmp c off => match st with
    | .int y :: .int x :: st => vif c off pc x y L st h
    | _ => none
  | .tableswitch d lo hi offs => match st with
    | .int x :: st => if lo + offs.size = hi + 1 ∧ -2147483648 ≤ lo ∧ hi ≤ 2147483647 then vsw pc d x L st h lo offs.toList else none
    | _ => none
  | .lookupswitch d ps => match st with
    | .int x :: st => if (ps.toList.zip (ps.toList.drop 1)).all (fun (a, next) => a.1 < next.1) = true ∧ ps.toList.all (fun q => decide (-2147483648 ≤ q.1 ∧ q.1 ≤ 2147483647)) = true then vlk pc d x L st h ps.toList else none
    | _ => none
  | .getfield idx => match st with
    | .ref a :: st => match vFld (mcl m) idx with
      | some (ci, k, _) => match vgetf h a ci k with
        | some v => some (pc + 3, L, v :: st, h)
        | none => none
      | none => none
    | _ => none
  | .putfield idx => match st with
    | v :: .ref a :: st => match vFld (mcl m) idx with
      | some (ci, k, _) => match h.1 a with
        | .inr (c, fs) => if c = ci ∧ ci < 12 ∧ k < fs.length ∧ vPut m ci k = true ∧ narrow (vTy ci k) v = v ∧ fits (vTy ci k) v = true then some (pc + 3, L, st, hset h a (.inr (c, fs.set k v))) else none
        | .inl _ => none
      | none => none
    | _ => none
  | .getstatic idx => match vSta (mcl m) idx with
    | some (k, _) => some (pc + 3, L, h.2.2.2 k :: st, h)
    | none => none
  | .iaload => match st with
    | .int i :: .ref a :: st => match viald h a i with
      | some x => some (pc + 1, L, .int x :: st, h)
      | none => none
    | _ => none
  | .baload => match st with
    | .int i :: .ref a :: st => match vbald h a i with
      | some x => some (pc + 1, L, .int x :: st, h)
      | none => none
    | _ => none
  | .laload => match st with
    | .int i :: .ref a :: st => match vlald h a i with
      | some x => some (pc + 1, L, .long x :: st, h)
      | none => none
    | _ => none
  | .daload => match st with
    | .int i :: .ref a :: st => match vdald h a i with
      | some x => some (pc + 1, L, .double x :: st, h)
      | none => none
    | _ => none
  | .aaload => match st with
    | .int i :: .ref a :: st => match vaald h a i with
      | some x => some (pc + 1, L, va_rf x :: st, h)
      | none => none
    | _ => none
  | .arraylength => match st with
    | .ref a :: st => match valen h a with
      | some n => some (pc + 1, L, .int (Int32.ofNat n) :: st, h)
      | none => none
    | _ => none
  | .iastore => match st with
    | .int x :: .int i :: .ref a :: st => match viast h a i x with
      | some h1 => some (pc + 1, L, st, h1)
      | none => none
    | _ => none
  | .bastore => match st with
    | .int x :: .int i :: .ref a :: st => match vbast h a i x with
      | some h1 => some (pc + 1, L, st, h1)
      | none => none
    | _ => none
  | .lastore => match st with
    | .long x :: .int i :: .ref a :: st => match vlast h a i x with
      | some h1 => some (pc + 1, L, st, h1)
      | none => none
    | _ => none
  | .dastore => match st with
    | .double x :: .int i :: .ref a :: st => match vdast h a i x with
      | some h1 => some (pc + 1, L, st, h1)
      | none => none
    | _ => none
  | .aastore => match st with
    | .ref v :: .int i :: .ref a :: st => match vaast h a i v with
      | some h1 => some (pc + 1, L, st, h1)
      | none => none
    | _ => none
  | .new idx => match vNew (mcl m) idx with
    | some (ci, _) => some (pc + 3, L, .ref h.2.1 :: st, hnew h (.inr (ci, vDef ci)) (vNsl ci))
    | none => none
  | .newarray ty => match st with
    | .int n :: st => match vnewa ty with
      | some (t, f) => if ¬ n < 0 ∧ n.toNatClampNeg ≤ 4096 then some (pc + 2, L, .ref h.2.1 :: st, hnew h (.inl (t, n.toNatClampNeg, f)) n.toNatClampNeg) else none
      | none => none
    | _ => none
  | .anewarray idx => match st with
    | .int n :: st => match vNew (mcl m) idx with
      | some (ci, _) => if ¬ n < 0 ∧ n.toNatClampNeg ≤ 4096 ∧ vCiT ci < 8 then some (pc + 3, L, .ref h.2.1 :: st, hnew h (.inl (vCiT ci, n.toNatClampNeg, .inr (.inr (.inr (.inr (fun _ => none)))))) n.toNatClampNeg) else none
      | none => none
    | _ => none
  | .invokestatic idx => match vCal (mcl m) idx with
    | some (k, _, _) => if k = 10 then none else vprim k pc L st h
    | none => none
  | .invokespecial idx => match vCal (mcl m) idx with
    | some (k, _, _) => if k = 10 then vprim k pc L st h else none
    | none => none
  | _ => none
def vcls (h : VG) (a ci : Nat) : Bool := if ci = 12 then h.2.2.2 4 == .ref a else match h.1 a with
  | .inr (c, _) => c == ci
  | .inl _ => false
def vDp (m y : Nat) : Bool := decide (mdep y + 1 ≤ mdep m) && decide (8 + (mmax y + 11) + mlw y ≤ mlw m)
def vmc (m : Nat) : Nat := (vOC.getD (mcl m) 99)
/-- the entry's locals -/
def vEnt : List Value → Nat → VL
  | [], n => List.replicate n none
  | v :: vs, n => if v.category = 2 then some v :: none :: vEnt vs (n - 2) else some v :: vEnt vs (n - 1)
/-- a call of a method with its own code: the callee, its arguments, the rest of the stack -/
def vcall (i : Instr) (m : Nat) (st : List Value) (h : VG) : Option (Nat × List Value × List Value) := match i with
  | .invokestatic idx => match vCal (mcl m) idx with
    | some (k, y, _) => if (k = 0 ∨ k = 3) ∧ vDp m y = true ∧ mna y ≤ st.length ∧ catS (st.take (mna y)) ≤ mmax y ∧ catS (st.drop (mna y)) ≤ 8 then some (y, (st.take (mna y)).reverse, st.drop (mna y)) else none
    | none => none
  | .invokevirtual idx => match vCal (mcl m) idx with
    | some (k, y, _) => match st.drop (mna y) with
      | .ref b :: rest => if (k = 1 ∨ k = 4) ∧ vDp m y = true ∧ mna y ≤ st.length ∧ vcls h b (vmc y) = true ∧ 1 + catS (st.take (mna y)) ≤ mmax y ∧ catS rest ≤ 8 then some (y, .ref b :: (st.take (mna y)).reverse, rest) else none
      | _ => none
    | none => none
  | .invokespecial idx => match vCal (mcl m) idx with
    | some (k, y, _) => match st.drop (mna y) with
      | .ref b :: rest => if (k = 2 ∨ k = 5) ∧ vDp m y = true ∧ mna y ≤ st.length ∧ 1 + catS (st.take (mna y)) ≤ mmax y ∧ catS rest ≤ 8 then some (y, .ref b :: (st.take (mna y)).reverse, rest) else none
      | _ => none
    | none => none
  | _ => none
def vret (i : Instr) (m : Nat) (st : List Value) : Option (Option Value) := match i with
  | .ireturn => match st with
    | [.int v] => match mret m with
      | some ty => if narrow ty (.int v) = .int v then some (some (.int v)) else none
      | none => none
    | _ => none
  | .lreturn => match st with
    | [.long v] => if mret m = some .long then some (some (.long v)) else none
    | _ => none
  | .dreturn => match st with
    | [.double v] => if mret m = some .double then some (some (.double v)) else none
    | _ => none
  | .return_ => match st with
    | [] => if mret m = none then some none else none
    | _ => none
  | _ => none
def run : Nat → Nat → Nat → VL → List Value → VG → Option VR
  | 0, _, _, _, _, _ => none
  | n + 1, m, pc, L, st, h => match fetch m pc with
    | none => none
    | some (i, _) => match vret i m st with
      | some v => some (v, h)
      | none => match vcall i m st h with
        | some (y, ars, rest) => match run n y 0 (vEnt ars (mmax y)) [] h with
          | some (v, h1) => run n m (pc + 3) L (v.toList ++ rest) h1
          | none => none
        | none => match stp i m pc L st h with
          | some (pc1, L1, st1, h1) => run n m pc1 L1 st1 h1
          | none => none
theorem run_mono : ∀ (n : Nat) (k m pc : Nat) (L : VL) (st : List Value) (h : VG) (r : VR), run n m pc L st h = some r → run (n + k) m pc L st h = some r
  | 0, _, _, _, _, _, _, _, hr => by simp [run] at hr
  | n + 1, k, m, pc, L, st, h, r, hr => by
    rw [show n + 1 + k = (n + k) + 1 by omega]
    simp only [run] at hr ⊢
    cases hf : fetch m pc with
    | none => rw [hf] at hr; simp at hr
    | some x =>
      obtain ⟨i, len⟩ := x
      rw [hf] at hr
      dsimp only at hr ⊢
      cases hv : vret i m st with
      | some v => rw [hv] at hr; exact hr
      | none =>
        rw [hv] at hr
        dsimp only at hr ⊢
        cases hc : vcall i m st h with
        | some q =>
          obtain ⟨y, ars, rest⟩ := q
          rw [hc] at hr
          dsimp only at hr ⊢
          cases hq : run n y 0 (vEnt ars (mmax y)) [] h with
          | none => rw [hq] at hr; simp at hr
          | some w =>
            obtain ⟨v, h1⟩ := w
            rw [hq] at hr
            dsimp only at hr
            rw [run_mono n k _ _ _ _ _ _ hq]
            exact run_mono n k _ _ _ _ _ _ hr
        | none =>
          rw [hc] at hr
          dsimp only at hr ⊢
          cases hs : stp i m pc L st h with
          | none => rw [hs] at hr; simp at hr
          | some w =>
            obtain ⟨pc1, L1, st1, h1⟩ := w
            rw [hs] at hr
            exact run_mono n k _ _ _ _ _ _ hr
noncomputable def ev (m pc : Nat) (L : VL) (st : List Value) (h : VG) : Option VR := @dite (Option VR) (∃ (r : VR) (n : Nat), run n m pc L st h = some r) (Classical.propDecidable _) (fun hx => some hx.choose) (fun _ => none)
theorem ev_some {m pc : Nat} {L : VL} {st : List Value} {h : VG} {r : VR} : ev m pc L st h = some r ↔ ∃ n, run n m pc L st h = some r := by
  constructor
  · intro he
    unfold ev at he
    split at he
    · rename_i hx
      have h1 := hx.choose_spec
      rw [Option.some.inj he] at h1
      exact h1
    · cases he
  · intro ⟨n, hn⟩
    have hx : ∃ (r : VR) (n : Nat), run n m pc L st h = some r := ⟨r, n, hn⟩
    unfold ev
    rw [dif_pos hx]
    obtain ⟨k, hk⟩ := hx.choose_spec
    have a1 := run_mono n k _ _ _ _ _ _ hn
    have a2 := run_mono k n _ _ _ _ _ _ hk
    rw [Nat.add_comm] at a2
    exact a2.symm.trans a1
theorem ev_ext {m pc m1 pc1 : Nat} {L L1 : VL} {st st1 : List Value} {h h1 : VG} (hr : ∀ r, (∃ n, run n m pc L st h = some r) ↔ (∃ n, run n m1 pc1 L1 st1 h1 = some r)) : ev m pc L st h = ev m1 pc1 L1 st1 h1 := by
  cases he : ev m1 pc1 L1 st1 h1 with
  | some r => exact ev_some.mpr ((hr r).mpr (ev_some.mp he))
  | none =>
    cases hf : ev m pc L st h with
    | none => rfl
    | some r =>
      have := ev_some.mpr ((hr r).mp (ev_some.mp hf))
      rw [he] at this
      cases this
theorem ev_eq {m pc : Nat} {L : VL} {st : List Value} {h : VG} {x : Option VR} (hr : ∀ r, (∃ n, run n m pc L st h = some r) ↔ x = some r) : ev m pc L st h = x := by
  cases hx : x with
  | some r => exact ev_some.mpr ((hr r).mpr hx)
  | none =>
    cases hf : ev m pc L st h with
    | none => rfl
    | some r =>
      have := (hr r).mp (ev_some.mp hf)
      rw [hx] at this
      cases this
theorem ev_stp {m pc : Nat} {L : VL} {st : List Value} {h : VG} {i : Instr} {len : Nat} {x : Option VR} (hf : fetch m pc = some (i, len)) (h1 : vret i m st = none) (h2 : vcall i m st h = none) (hx : (match stp i m pc L st h with | some q => ev m q.1 q.2.1 q.2.2.1 q.2.2.2 | none => none) = x) : ev m pc L st h = x := by
  subst hx
  refine ev_eq fun r => ⟨fun ⟨n, hn⟩ => ?_, fun hn => ?_⟩
  · cases n with
    | zero => simp [run] at hn
    | succ n =>
      simp only [run, hf, h1, h2] at hn
      cases hs : stp i m pc L st h with
      | none => rw [hs] at hn; simp at hn
      | some q => rw [hs] at hn; exact ev_some.mpr ⟨n, hn⟩
  · cases hs : stp i m pc L st h with
    | none => rw [hs] at hn; simp at hn
    | some q =>
      rw [hs] at hn
      obtain ⟨n, hn⟩ := ev_some.mp hn
      exact ⟨n + 1, by simp only [run, hf, h1, h2, hs]; exact hn⟩
theorem ev_ret {m pc : Nat} {L : VL} {st : List Value} {h : VG} {i : Instr} {len : Nat} {v : Option Value} (hf : fetch m pc = some (i, len)) (h1 : vret i m st = some v) : ev m pc L st h = some (v, h) :=
  ev_some.mpr ⟨1, by simp only [run, hf, h1]⟩
theorem ev_call {m pc : Nat} {L : VL} {st : List Value} {h : VG} {i : Instr} {len y : Nat} {ars rest : List Value} (hf : fetch m pc = some (i, len)) (h1 : vret i m st = none) (h2 : vcall i m st h = some (y, ars, rest)) : ev m pc L st h = (ev y 0 (vEnt ars (mmax y)) [] h).bind fun q => ev m (pc + 3) L (q.1.toList ++ rest) q.2 := by
  refine ev_eq fun r => ⟨fun ⟨n, hn⟩ => ?_, fun hn => ?_⟩
  · cases n with
    | zero => simp [run] at hn
    | succ n =>
      simp only [run, hf, h1, h2] at hn
      cases hq : run n y 0 (vEnt ars (mmax y)) [] h with
      | none => rw [hq] at hn; simp at hn
      | some q =>
        rw [hq] at hn
        rw [ev_some.mpr ⟨n, hq⟩]
        exact ev_some.mpr ⟨n, hn⟩
  · cases hq : ev y 0 (vEnt ars (mmax y)) [] h with
    | none => rw [hq] at hn; simp at hn
    | some q =>
      rw [hq] at hn
      obtain ⟨n1, e1⟩ := ev_some.mp hq
      obtain ⟨n2, e2⟩ := ev_some.mp hn
      refine ⟨n1 + n2 + 1, ?_⟩
      have a1 := run_mono n1 n2 _ _ _ _ _ _ e1
      have a2 := run_mono n2 n1 _ _ _ _ _ _ e2
      rw [Nat.add_comm] at a2
      simp only [run, hf, h1, h2, a1]
      exact a2
