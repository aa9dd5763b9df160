/-! what the tables of part 03 say of the tables' words: each row by its place, decided by the kernel -/
def vW0 : List Cond := lw_tbl.filter goodWord
def vAt (p : Nat) (w : Cond) : Bool := decide (lw_tbl[p]? = some w) && goodWord w
theorem vAt_mem {p : Nat} {w : Cond} (h : vAt p w = true) : w ∈ vW0 := by
  unfold vAt at h
  rw [Bool.and_eq_true] at h
  exact List.mem_filter.mpr ⟨List.mem_of_getElem? (of_decide_eq_true h.1), h.2⟩
def vCname (oc : Nat) : String := vCn.getD oc ""
def vFok (e : Nat × Nat × Nat × Nat × Nat) : Bool := match vwCl[e.2.2.1]? with
  | some q => decide (e.2.2.2.1 < q.2.2) && vAt (e.2.2.2.2) (.fieldLink (vCname e.1) e.2.1 (q.2.1 e.2.2.2.1).1 (q.2.1 e.2.2.2.1).2.1 (q.2.1 e.2.2.2.1).2.2.1)
  | none => e.2.2.1 == 12 && ((e.2.2.2.1 == 0 && vAt (e.2.2.2.2) (.fieldLink (vCname e.1) e.2.1 "java/lang/String" "value" "[B")) || (e.2.2.2.1 == 1 && vAt (e.2.2.2.2) (.fieldLink (vCname e.1) e.2.1 "java/lang/String" "coder" "B")))
theorem vFt_ok : vFt.all vFok = true := by decide +kernel
def vSnm (k : Nat) : String × String × String := match k with
  | 0 => ("GuestCalls$Kinds", "SMALL_BYTES", "[I")
  | 1 => ("GuestCalls$Kinds", "WIDE_BYTES", "[I")
  | 2 => ("java/lang/String", "COMPACT_STRINGS", "Z")
  | _ => ("jdk/internal/util/Preconditions", "SIOOBE_FORMATTER", "Ljava/util/function/BiFunction;")
def vSok (e : Nat × Nat × Nat × Nat) : Bool := decide (e.2.2.1 < 4) && vAt (e.2.2.2) (.fieldLink (vCname e.1) e.2.1 (vSnm e.2.2.1).1 (vSnm e.2.2.1).2.1 (vSnm e.2.2.1).2.2)
theorem vSt_ok : vSt.all vSok = true := by decide +kernel
/-- of a method: its own words -/
def vMok (m : Nat) : Bool := m == vLaw || (match lw_tbl[(vMp.getD m (0, 0, 0, 0)).1]? with | some (.code y _ n r) => y == mnm m && n == mmax m && r == mret m | _ => false) && vAt ((vMp.getD m (0, 0, 0, 0)).2.1) (.initialized (mnm m).cls) && plainName (mnm m).cls && (mnm m).cls == vCname (mcl m) && ((parseMethodDescriptor (mnm m).desc).map (fun d => d.parameters.length) == some (mna m)) && (mnm m).cls != "java/lang/invoke/MethodHandle" && (mnm m).cls != "java/lang/invoke/VarHandle"
def vRng (a n : Nat) : List Nat := (List.range n).map (fun i => a + i)
theorem vM_ok_0 : (vRng 0 25).all vMok = true := by decide +kernel
theorem vM_ok_1 : (vRng 25 25).all vMok = true := by decide +kernel
theorem vM_ok_2 : (vRng 50 25).all vMok = true := by decide +kernel
theorem vM_ok_3 : (vRng 75 25).all vMok = true := by decide +kernel
theorem vM_ok_4 : (vRng 100 25).all vMok = true := by decide +kernel
theorem vM_ok_5 : (vRng 125 25).all vMok = true := by decide +kernel
theorem vM_ok_6 : (vRng 150 25).all vMok = true := by decide +kernel
theorem vM_ok_7 : (vRng 175 25).all vMok = true := by decide +kernel
theorem vM_ok_8 : (vRng 200 25).all vMok = true := by decide +kernel
theorem vM_ok_9 : (vRng 225 22).all vMok = true := by decide +kernel
def vKok (e : Nat × Nat × Nat × Nat × Nat) : Bool :=
  if e.2.2.1 = 10 then vAt (e.2.2.2.2) (.methodLink (vCname e.1) e.2.1 objectInit) else
  if e.2.2.1 = 11 then vAt (e.2.2.2.2) (.methodLink (vCname e.1) e.2.1 Lib.Math.max.name) else
  if e.2.2.1 = 12 then vAt (e.2.2.2.2) (.methodLink (vCname e.1) e.2.1 Lib.Math.min.name) else
  if e.2.2.1 = 13 then vAt (e.2.2.2.2) (.methodLink (vCname e.1) e.2.1 arraycopyName) else
  decide (e.2.2.2.1 < 247) && e.2.2.2.1 != vLaw && (
  if e.2.2.1 < 3 then vAt (e.2.2.2.2) (.methodLink (vCname e.1) e.2.1 (mnm e.2.2.2.1)) else
  if e.2.2.1 = 3 ∨ e.2.2.1 = 5 then decide (lw_tbl[e.2.2.2.2]? = some (.methodLinkNest (vCname e.1) e.2.1 (mnm e.2.2.2.1) "GuestCalls")) else false) && (
  if e.2.2.1 = 0 ∨ e.2.2.1 = 3 then vAt ((vMp.getD e.2.2.2.1 (0, 0, 0, 0)).2.2.1) (.static (mnm e.2.2.2.1)) else
  if e.2.2.1 = 2 ∨ e.2.2.1 = 5 then vAt ((vMp.getD e.2.2.2.1 (0, 0, 0, 0)).2.2.1) (.instanceMethod (mnm e.2.2.2.1)) && (mnm e.2.2.2.1).name == "<init>" && mret e.2.2.2.1 == none else
  vAt ((vMp.getD e.2.2.2.1 (0, 0, 0, 0)).2.2.1) (.instanceMethod (mnm e.2.2.2.1)) && vAt ((vMp.getD e.2.2.2.1 (0, 0, 0, 0)).2.2.2) (.selects (mnm e.2.2.2.1).cls (mnm e.2.2.2.1) (mnm e.2.2.2.1)) && decide ((vwCl.map (fun q => q.1) ++ [RJ0])[vmc e.2.2.2.1]? = some (mnm e.2.2.2.1).cls)) 
theorem vCt_ok_0 : ((vCt.drop 0).take 40).all vKok = true := by decide +kernel
theorem vCt_ok_1 : ((vCt.drop 40).take 40).all vKok = true := by decide +kernel
theorem vCt_ok_2 : ((vCt.drop 80).take 40).all vKok = true := by decide +kernel
theorem vCt_ok_3 : ((vCt.drop 120).take 40).all vKok = true := by decide +kernel
theorem vCt_ok_4 : ((vCt.drop 160).take 40).all vKok = true := by decide +kernel
theorem vCt_ok_5 : ((vCt.drop 200).take 40).all vKok = true := by decide +kernel
theorem vCt_ok_6 : ((vCt.drop 240).take 40).all vKok = true := by decide +kernel
theorem vCt_ok_7 : ((vCt.drop 280).take 40).all vKok = true := by decide +kernel
def vNok (e : Nat × Nat × Nat × Nat) : Bool := match vwCl[e.2.2.1]? with
  | some q => vAt (e.2.2.2) (.classLink (vCname e.1) e.2.1 q.1)
  | none => false
theorem vNt_ok : vNt.all vNok = true := by decide +kernel
def vQok (e : Nat × Nat × Value × Nat) : Bool := match e.2.2.1 with
  | .int v => vAt (e.2.2.2) (.constant (vCname e.1) e.2.1 v)
  | .long v => vAt (e.2.2.2) (.constantLong (vCname e.1) e.2.1 v)
  | .double v => vAt (e.2.2.2) (.constantDouble (vCname e.1) e.2.1 v)
  | _ => false
theorem vKt_ok : vKt.all vQok = true := by decide +kernel
/-- the classes whose objects the worlds hold: their words -/
def vCok (q : vw_C) : Bool := (u_ws q.1 q.2.1 q.2.2).all (fun w => decide (w ∈ lw_tbl) && goodWord w)
theorem vCl_ok : vwCl.all vCok = true := by decide +kernel
