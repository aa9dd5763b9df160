/-! equations of ev, an instruction each -/
/-- what a word left of a store becomes: a long or double that loses its second half -/
def vkk (l : Option Value) : Option Value := match l with
  | some w => if w.category = 2 then none else some w
  | none => none
theorem vkk_n : vkk none = none := rfl
theorem vkk_i (x : Int32) : vkk (some (.int x)) = some (.int x) := rfl
theorem vkk_r (x : Nat) : vkk (some (.ref x)) = some (.ref x) := rfl
theorem vkk_l (x : Int64) : vkk (some (.long x)) = none := rfl
theorem vkk_d (x : UInt64) : vkk (some (.double x)) = none := rfl
theorem vkk_f (x : UInt32) : vkk (some (.float x)) = some (.float x) := rfl
theorem vkk_z : vkk (some .null) = some .null := rfl
theorem vkl_c (L : VL) (j : Nat) (l : Option Value) (h : L[j]? = some l) : vkl L (j + 1) = L.set j (vkk l) := by
  unfold vkl
  dsimp only
  rw [List.getD_eq_getElem?_getD, h]
  cases l with
  | none =>
    show L = L.set j none
    apply List.ext_getElem?
    intro i
    rw [List.getElem?_set]
    split
    · rename_i e
      subst e
      split
      · exact h
      · rename_i hl
        rw [List.getElem?_eq_none (by omega)]
    · rfl
  | some w =>
    show (if w.category = 2 then L.set j none else L) = L.set j (if w.category = 2 then none else some w)
    split
    · rfl
    · apply List.ext_getElem?
      intro i
      rw [List.getElem?_set]
      split
      · rename_i e
        subst e
        split
        · exact h
        · rename_i hl
          rw [List.getElem?_eq_none (by omega)]
      · rfl
theorem G_iconst {m pc : Nat} {L : VL} {st : List Value} {h : VG} {n : Int} {v : Int32} (hf : fetch m pc = some (.iconst n, 1)) (hv : Int32.ofInt n = v) : ev m pc L (st) h = ev m (pc + 1) L (.int v :: st) h := ev_stp hf rfl rfl (by rw [← hv]; rfl)
theorem G_bipush {m pc : Nat} {L : VL} {st : List Value} {h : VG} {n : Int} {v : Int32} (hf : fetch m pc = some (.bipush n, 2)) (hv : (Int8.ofInt n).toInt32 = v) : ev m pc L (st) h = ev m (pc + 2) L (.int v :: st) h := ev_stp hf rfl rfl (by rw [← hv]; rfl)
theorem G_sipush {m pc : Nat} {L : VL} {st : List Value} {h : VG} {n : Int} {v : Int32} (hf : fetch m pc = some (.sipush n, 3)) (hv : (Int16.ofInt n).toInt32 = v) : ev m pc L (st) h = ev m (pc + 3) L (.int v :: st) h := ev_stp hf rfl rfl (by rw [← hv]; rfl)
theorem G_lconst {m pc : Nat} {L : VL} {st : List Value} {h : VG} {n : Fin 2} {v : Int64} (hf : fetch m pc = some (.lconst n, 1)) (hv : Int64.ofNat n.val = v) : ev m pc L (st) h = ev m (pc + 1) L (.long v :: st) h := ev_stp hf rfl rfl (by rw [← hv]; rfl)
theorem G_dconst0 {m pc : Nat} {L : VL} {st : List Value} {h : VG}  (hf : fetch m pc = some (.dconst 0, 1)) : ev m pc L (st) h = ev m (pc + 1) L (.double FP.dconst0 :: st) h := ev_stp hf rfl rfl (rfl)
theorem G_dconst1 {m pc : Nat} {L : VL} {st : List Value} {h : VG}  (hf : fetch m pc = some (.dconst 1, 1)) : ev m pc L (st) h = ev m (pc + 1) L (.double FP.dconst1 :: st) h := ev_stp hf rfl rfl (rfl)
theorem G_iadd {m pc : Nat} {L : VL} {st : List Value} {h : VG} {x y : Int32} (hf : fetch m pc = some (.iadd, 1)) : ev m pc L (.int y :: .int x :: st) h = ev m (pc + 1) L (.int (x + y) :: st) h := ev_stp hf rfl rfl (rfl)
theorem G_isub {m pc : Nat} {L : VL} {st : List Value} {h : VG} {x y : Int32} (hf : fetch m pc = some (.isub, 1)) : ev m pc L (.int y :: .int x :: st) h = ev m (pc + 1) L (.int (x - y) :: st) h := ev_stp hf rfl rfl (rfl)
theorem G_imul {m pc : Nat} {L : VL} {st : List Value} {h : VG} {x y : Int32} (hf : fetch m pc = some (.imul, 1)) : ev m pc L (.int y :: .int x :: st) h = ev m (pc + 1) L (.int (x * y) :: st) h := ev_stp hf rfl rfl (rfl)
theorem G_iand {m pc : Nat} {L : VL} {st : List Value} {h : VG} {x y : Int32} (hf : fetch m pc = some (.iand, 1)) : ev m pc L (.int y :: .int x :: st) h = ev m (pc + 1) L (.int (x &&& y) :: st) h := ev_stp hf rfl rfl (rfl)
theorem G_ior {m pc : Nat} {L : VL} {st : List Value} {h : VG} {x y : Int32} (hf : fetch m pc = some (.ior, 1)) : ev m pc L (.int y :: .int x :: st) h = ev m (pc + 1) L (.int (x ||| y) :: st) h := ev_stp hf rfl rfl (rfl)
theorem G_ishl {m pc : Nat} {L : VL} {st : List Value} {h : VG} {x y : Int32} (hf : fetch m pc = some (.ishl, 1)) : ev m pc L (.int y :: .int x :: st) h = ev m (pc + 1) L (.int (x <<< (y &&& 31)) :: st) h := ev_stp hf rfl rfl (rfl)
theorem G_ishr {m pc : Nat} {L : VL} {st : List Value} {h : VG} {x y : Int32} (hf : fetch m pc = some (.ishr, 1)) : ev m pc L (.int y :: .int x :: st) h = ev m (pc + 1) L (.int (x >>> (y &&& 31)) :: st) h := ev_stp hf rfl rfl (rfl)
theorem G_iushr {m pc : Nat} {L : VL} {st : List Value} {h : VG} {x y : Int32} (hf : fetch m pc = some (.iushr, 1)) : ev m pc L (.int y :: .int x :: st) h = ev m (pc + 1) L (.int ((x.toUInt32 >>> (y.toUInt32 &&& Int32.toUInt32 31)).toInt32) :: st) h := ev_stp hf rfl rfl (rfl)
theorem G_ineg {m pc : Nat} {L : VL} {st : List Value} {h : VG} {x : Int32} (hf : fetch m pc = some (.ineg, 1)) : ev m pc L (.int x :: st) h = ev m (pc + 1) L (.int (-x) :: st) h := ev_stp hf rfl rfl (rfl)
theorem G_i2l {m pc : Nat} {L : VL} {st : List Value} {h : VG} {x : Int32} (hf : fetch m pc = some (.i2l, 1)) : ev m pc L (.int x :: st) h = ev m (pc + 1) L (.long x.toInt64 :: st) h := ev_stp hf rfl rfl (rfl)
theorem G_i2b {m pc : Nat} {L : VL} {st : List Value} {h : VG} {x : Int32} (hf : fetch m pc = some (.i2b, 1)) : ev m pc L (.int x :: st) h = ev m (pc + 1) L (.int x.toInt8.toInt32 :: st) h := ev_stp hf rfl rfl (rfl)
theorem G_i2s {m pc : Nat} {L : VL} {st : List Value} {h : VG} {x : Int32} (hf : fetch m pc = some (.i2s, 1)) : ev m pc L (.int x :: st) h = ev m (pc + 1) L (.int x.toInt16.toInt32 :: st) h := ev_stp hf rfl rfl (rfl)
theorem G_i2c {m pc : Nat} {L : VL} {st : List Value} {h : VG} {x : Int32} (hf : fetch m pc = some (.i2c, 1)) : ev m pc L (.int x :: st) h = ev m (pc + 1) L (.int (x.toUInt32 % 65536).toInt32 :: st) h := ev_stp hf rfl rfl (rfl)
theorem G_ladd {m pc : Nat} {L : VL} {st : List Value} {h : VG} {x y : Int64} (hf : fetch m pc = some (.ladd, 1)) : ev m pc L (.long y :: .long x :: st) h = ev m (pc + 1) L (.long (x + y) :: st) h := ev_stp hf rfl rfl (rfl)
theorem G_lsub {m pc : Nat} {L : VL} {st : List Value} {h : VG} {x y : Int64} (hf : fetch m pc = some (.lsub, 1)) : ev m pc L (.long y :: .long x :: st) h = ev m (pc + 1) L (.long (x - y) :: st) h := ev_stp hf rfl rfl (rfl)
theorem G_lmul {m pc : Nat} {L : VL} {st : List Value} {h : VG} {x y : Int64} (hf : fetch m pc = some (.lmul, 1)) : ev m pc L (.long y :: .long x :: st) h = ev m (pc + 1) L (.long (x * y) :: st) h := ev_stp hf rfl rfl (rfl)
theorem G_land {m pc : Nat} {L : VL} {st : List Value} {h : VG} {x y : Int64} (hf : fetch m pc = some (.land, 1)) : ev m pc L (.long y :: .long x :: st) h = ev m (pc + 1) L (.long (x &&& y) :: st) h := ev_stp hf rfl rfl (rfl)
theorem G_lor {m pc : Nat} {L : VL} {st : List Value} {h : VG} {x y : Int64} (hf : fetch m pc = some (.lor, 1)) : ev m pc L (.long y :: .long x :: st) h = ev m (pc + 1) L (.long (x ||| y) :: st) h := ev_stp hf rfl rfl (rfl)
theorem G_lcmp {m pc : Nat} {L : VL} {st : List Value} {h : VG} {x y : Int64} (hf : fetch m pc = some (.lcmp, 1)) : ev m pc L (.long y :: .long x :: st) h = ev m (pc + 1) L (.int (lg_cmp x y) :: st) h := ev_stp hf rfl rfl (rfl)
theorem G_lneg {m pc : Nat} {L : VL} {st : List Value} {h : VG} {x : Int64} (hf : fetch m pc = some (.lneg, 1)) : ev m pc L (.long x :: st) h = ev m (pc + 1) L (.long (-x) :: st) h := ev_stp hf rfl rfl (rfl)
theorem G_l2i {m pc : Nat} {L : VL} {st : List Value} {h : VG} {x : Int64} (hf : fetch m pc = some (.l2i, 1)) : ev m pc L (.long x :: st) h = ev m (pc + 1) L (.int x.toInt32 :: st) h := ev_stp hf rfl rfl (rfl)
theorem G_l2d {m pc : Nat} {L : VL} {st : List Value} {h : VG} {x : Int64} (hf : fetch m pc = some (.l2d, 1)) : ev m pc L (.long x :: st) h = ev m (pc + 1) L (.double (FP.l2d x) :: st) h := ev_stp hf rfl rfl (rfl)
theorem G_l2f {m pc : Nat} {L : VL} {st : List Value} {h : VG} {x : Int64} (hf : fetch m pc = some (.l2f, 1)) : ev m pc L (.long x :: st) h = ev m (pc + 1) L (.float (FP.l2f x) :: st) h := ev_stp hf rfl rfl (rfl)
theorem G_lshl {m pc : Nat} {L : VL} {st : List Value} {h : VG} {x : Int64} {y : Int32} (hf : fetch m pc = some (.lshl, 1)) : ev m pc L (.int y :: .long x :: st) h = ev m (pc + 1) L (.long (x <<< (y.toInt64 &&& 63)) :: st) h := ev_stp hf rfl rfl (rfl)
theorem G_lshr {m pc : Nat} {L : VL} {st : List Value} {h : VG} {x : Int64} {y : Int32} (hf : fetch m pc = some (.lshr, 1)) : ev m pc L (.int y :: .long x :: st) h = ev m (pc + 1) L (.long (x >>> (y.toInt64 &&& 63)) :: st) h := ev_stp hf rfl rfl (rfl)
theorem G_lushr {m pc : Nat} {L : VL} {st : List Value} {h : VG} {x : Int64} {y : Int32} (hf : fetch m pc = some (.lushr, 1)) : ev m pc L (.int y :: .long x :: st) h = ev m (pc + 1) L (.long ((x.toUInt64 >>> (y.toInt64.toUInt64 &&& Int64.toUInt64 63)).toInt64) :: st) h := ev_stp hf rfl rfl (rfl)
theorem G_dneg {m pc : Nat} {L : VL} {st : List Value} {h : VG} {x : UInt64} (hf : fetch m pc = some (.dneg, 1)) : ev m pc L (.double x :: st) h = ev m (pc + 1) L (.double (FP.dneg x) :: st) h := ev_stp hf rfl rfl (rfl)
theorem G_d2l {m pc : Nat} {L : VL} {st : List Value} {h : VG} {x : UInt64} (hf : fetch m pc = some (.d2l, 1)) : ev m pc L (.double x :: st) h = ev m (pc + 1) L (.long (FP.d2l x) :: st) h := ev_stp hf rfl rfl (rfl)
theorem G_dmul {m pc : Nat} {L : VL} {st : List Value} {h : VG} {x y : UInt64} (hf : fetch m pc = some (.dmul, 1)) (hn : vf_n64 (FP.dmul x y)) : ev m pc L (.double y :: .double x :: st) h = ev m (pc + 1) L (.double (FP.dmul x y) :: st) h := ev_stp hf rfl rfl (by simp only [stp, vd2]; rw [if_pos (show FP.dmul x y &&& 0x7fffffffffffffff ≤ 0x7ff0000000000000 from hn)])
theorem G_ddiv {m pc : Nat} {L : VL} {st : List Value} {h : VG} {x y : UInt64} (hf : fetch m pc = some (.ddiv, 1)) (hn : vf_n64 (FP.ddiv x y)) : ev m pc L (.double y :: .double x :: st) h = ev m (pc + 1) L (.double (FP.ddiv x y) :: st) h := ev_stp hf rfl rfl (by simp only [stp, vd2]; rw [if_pos (show FP.ddiv x y &&& 0x7fffffffffffffff ≤ 0x7ff0000000000000 from hn)])
theorem G_dcmp {m pc : Nat} {L : VL} {st : List Value} {h : VG} {op : CmpOp} {x y : UInt64} (hf : fetch m pc = some (.dcmp op, 1)) : ev m pc L (.double y :: .double x :: st) h = ev m (pc + 1) L (.int (Op.cmpValue (FP.dcmp x y) op) :: st) h := ev_stp hf rfl rfl (rfl)
theorem G_f2d {m pc : Nat} {L : VL} {st : List Value} {h : VG} {x : UInt32} (hf : fetch m pc = some (.f2d, 1)) (hn : vf_n64 (FP.f2d x)) : ev m pc L (.float x :: st) h = ev m (pc + 1) L (.double (FP.f2d x) :: st) h := ev_stp hf rfl rfl (by simp only [stp]; rw [if_pos (show FP.f2d x &&& 0x7fffffffffffffff ≤ 0x7ff0000000000000 from hn)])
theorem G_idiv {m pc : Nat} {L : VL} {st : List Value} {h : VG} {x y : Int32} (hf : fetch m pc = some (.idiv, 1)) (hn : ¬ y = 0) : ev m pc L (.int y :: .int x :: st) h = ev m (pc + 1) L (.int (x / y) :: st) h := ev_stp hf rfl rfl (by simp only [stp]; rw [if_neg hn])
theorem G_ldiv {m pc : Nat} {L : VL} {st : List Value} {h : VG} {x y : Int64} (hf : fetch m pc = some (.ldiv, 1)) (hn : ¬ y = 0) : ev m pc L (.long y :: .long x :: st) h = ev m (pc + 1) L (.long (x / y) :: st) h := ev_stp hf rfl rfl (by simp only [stp]; rw [if_neg hn])
theorem G_dup_int {m pc : Nat} {L : VL} {st : List Value} {h : VG} {x : Int32} (hf : fetch m pc = some (.dup, 1)) : ev m pc L (.int x :: st) h = ev m (pc + 1) L (.int x :: .int x :: st) h := ev_stp hf rfl rfl (rfl)
theorem G_pop_int {m pc : Nat} {L : VL} {st : List Value} {h : VG} {x : Int32} (hf : fetch m pc = some (.pop, 1)) : ev m pc L (.int x :: st) h = ev m (pc + 1) L (st) h := ev_stp hf rfl rfl (rfl)
theorem G_dup_ref {m pc : Nat} {L : VL} {st : List Value} {h : VG} {x : Nat} (hf : fetch m pc = some (.dup, 1)) : ev m pc L (.ref x :: st) h = ev m (pc + 1) L (.ref x :: .ref x :: st) h := ev_stp hf rfl rfl (rfl)
theorem G_pop_ref {m pc : Nat} {L : VL} {st : List Value} {h : VG} {x : Nat} (hf : fetch m pc = some (.pop, 1)) : ev m pc L (.ref x :: st) h = ev m (pc + 1) L (st) h := ev_stp hf rfl rfl (rfl)
theorem G_goto {m pc : Nat} {L : VL} {st : List Value} {h : VG} {off : Int} {t : Nat} (hf : fetch m pc = some (.goto off, 3)) (ht : (pc : Int) + off = (t : Int)) : ev m pc L st h = ev m t L st h := ev_stp hf rfl rfl (by simp only [stp, vgo]; rw [ht])
theorem G_icmp_eq {m pc : Nat} {L : VL} {st : List Value} {h : VG} {off : Int} {t : Nat} {x y : Int32} (hf : fetch m pc = some (.if_icmp .eq off, 3)) (ht : (pc : Int) + off = (t : Int)) : ev m pc L (.int y :: .int x :: st) h = if x = y then ev m t L st h else ev m (pc + 3) L st h := ev_stp hf rfl rfl (by simp only [stp, vif]; rw [ht]; dsimp only; by_cases hc : x = y <;> simp only [hc, if_true, if_false])
theorem G_if_eq {m pc : Nat} {L : VL} {st : List Value} {h : VG} {off : Int} {t : Nat} {x : Int32} (hf : fetch m pc = some (.ifCond .eq off, 3)) (ht : (pc : Int) + off = (t : Int)) : ev m pc L (.int x :: st) h = if x = 0 then ev m t L st h else ev m (pc + 3) L st h := ev_stp hf rfl rfl (by simp only [stp, vif]; rw [ht]; dsimp only; by_cases hc : x = 0 <;> simp only [hc, if_true, if_false])
theorem G_icmp_ne {m pc : Nat} {L : VL} {st : List Value} {h : VG} {off : Int} {t : Nat} {x y : Int32} (hf : fetch m pc = some (.if_icmp .ne off, 3)) (ht : (pc : Int) + off = (t : Int)) : ev m pc L (.int y :: .int x :: st) h = if x = y then ev m (pc + 3) L st h else ev m t L st h := ev_stp hf rfl rfl (by simp only [stp, vif]; rw [ht]; dsimp only; by_cases hc : x = y <;> simp only [hc, if_true, if_false])
theorem G_if_ne {m pc : Nat} {L : VL} {st : List Value} {h : VG} {off : Int} {t : Nat} {x : Int32} (hf : fetch m pc = some (.ifCond .ne off, 3)) (ht : (pc : Int) + off = (t : Int)) : ev m pc L (.int x :: st) h = if x = 0 then ev m (pc + 3) L st h else ev m t L st h := ev_stp hf rfl rfl (by simp only [stp, vif]; rw [ht]; dsimp only; by_cases hc : x = 0 <;> simp only [hc, if_true, if_false])
theorem G_icmp_lt {m pc : Nat} {L : VL} {st : List Value} {h : VG} {off : Int} {t : Nat} {x y : Int32} (hf : fetch m pc = some (.if_icmp .lt off, 3)) (ht : (pc : Int) + off = (t : Int)) : ev m pc L (.int y :: .int x :: st) h = if x < y then ev m t L st h else ev m (pc + 3) L st h := ev_stp hf rfl rfl (by simp only [stp, vif]; rw [ht]; dsimp only; by_cases hc : x < y <;> simp only [hc, if_true, if_false])
theorem G_if_lt {m pc : Nat} {L : VL} {st : List Value} {h : VG} {off : Int} {t : Nat} {x : Int32} (hf : fetch m pc = some (.ifCond .lt off, 3)) (ht : (pc : Int) + off = (t : Int)) : ev m pc L (.int x :: st) h = if x < 0 then ev m t L st h else ev m (pc + 3) L st h := ev_stp hf rfl rfl (by simp only [stp, vif]; rw [ht]; dsimp only; by_cases hc : x < 0 <;> simp only [hc, if_true, if_false])
theorem G_icmp_ge {m pc : Nat} {L : VL} {st : List Value} {h : VG} {off : Int} {t : Nat} {x y : Int32} (hf : fetch m pc = some (.if_icmp .ge off, 3)) (ht : (pc : Int) + off = (t : Int)) : ev m pc L (.int y :: .int x :: st) h = if x < y then ev m (pc + 3) L st h else ev m t L st h := ev_stp hf rfl rfl (by simp only [stp, vif]; rw [ht]; dsimp only; by_cases hc : x < y <;> simp only [hc, if_true, if_false])
theorem G_if_ge {m pc : Nat} {L : VL} {st : List Value} {h : VG} {off : Int} {t : Nat} {x : Int32} (hf : fetch m pc = some (.ifCond .ge off, 3)) (ht : (pc : Int) + off = (t : Int)) : ev m pc L (.int x :: st) h = if x < 0 then ev m (pc + 3) L st h else ev m t L st h := ev_stp hf rfl rfl (by simp only [stp, vif]; rw [ht]; dsimp only; by_cases hc : x < 0 <;> simp only [hc, if_true, if_false])
theorem G_icmp_gt {m pc : Nat} {L : VL} {st : List Value} {h : VG} {off : Int} {t : Nat} {x y : Int32} (hf : fetch m pc = some (.if_icmp .gt off, 3)) (ht : (pc : Int) + off = (t : Int)) : ev m pc L (.int y :: .int x :: st) h = if x ≤ y then ev m (pc + 3) L st h else ev m t L st h := ev_stp hf rfl rfl (by simp only [stp, vif]; rw [ht]; dsimp only; by_cases hc : x ≤ y <;> simp only [hc, if_true, if_false])
theorem G_if_gt {m pc : Nat} {L : VL} {st : List Value} {h : VG} {off : Int} {t : Nat} {x : Int32} (hf : fetch m pc = some (.ifCond .gt off, 3)) (ht : (pc : Int) + off = (t : Int)) : ev m pc L (.int x :: st) h = if x ≤ 0 then ev m (pc + 3) L st h else ev m t L st h := ev_stp hf rfl rfl (by simp only [stp, vif]; rw [ht]; dsimp only; by_cases hc : x ≤ 0 <;> simp only [hc, if_true, if_false])
theorem G_icmp_le {m pc : Nat} {L : VL} {st : List Value} {h : VG} {off : Int} {t : Nat} {x y : Int32} (hf : fetch m pc = some (.if_icmp .le off, 3)) (ht : (pc : Int) + off = (t : Int)) : ev m pc L (.int y :: .int x :: st) h = if x ≤ y then ev m t L st h else ev m (pc + 3) L st h := ev_stp hf rfl rfl (by simp only [stp, vif]; rw [ht]; dsimp only; by_cases hc : x ≤ y <;> simp only [hc, if_true, if_false])
theorem G_if_le {m pc : Nat} {L : VL} {st : List Value} {h : VG} {off : Int} {t : Nat} {x : Int32} (hf : fetch m pc = some (.ifCond .le off, 3)) (ht : (pc : Int) + off = (t : Int)) : ev m pc L (.int x :: st) h = if x ≤ 0 then ev m t L st h else ev m (pc + 3) L st h := ev_stp hf rfl rfl (by simp only [stp, vif]; rw [ht]; dsimp only; by_cases hc : x ≤ 0 <;> simp only [hc, if_true, if_false])
theorem G_iload {m pc : Nat} {L : VL} {st : List Value} {h : VG} {j : Nat} {x : Int32} (hf : fetch m pc = some (.iload j, 2)) (hL : L.getD j none = some (.int x)) : ev m pc L st h = ev m (pc + 2) L (.int x :: st) h := ev_stp hf rfl rfl (by simp only [stp, vldI]; rw [hL])
theorem G_iload_n {m pc : Nat} {L : VL} {st : List Value} {h : VG} {j : Fin 4} {x : Int32} (hf : fetch m pc = some (.iload_n j, 1)) (hL : L.getD j.val none = some (.int x)) : ev m pc L st h = ev m (pc + 1) L (.int x :: st) h := ev_stp hf rfl rfl (by simp only [stp, vldI]; rw [hL])
theorem G_istore {m pc : Nat} {L : VL} {st : List Value} {h : VG} {j : Nat} {x : Int32} {z : Option Value} {L1 : VL} (hf : fetch m pc = some (.istore j, 2)) (hz : L[j]? = some z) (hL : vS1 L j (.int x) = L1) : ev m pc L (.int x :: st) h = ev m (pc + 2) L1 st h := ev_stp hf rfl rfl (by simp only [stp, vstI, vs1]; rw [hz, hL])
theorem G_istore_n {m pc : Nat} {L : VL} {st : List Value} {h : VG} {j : Fin 4} {x : Int32} {z : Option Value} {L1 : VL} (hf : fetch m pc = some (.istore_n j, 1)) (hz : L[j.val]? = some z) (hL : vS1 L j.val (.int x) = L1) : ev m pc L (.int x :: st) h = ev m (pc + 1) L1 st h := ev_stp hf rfl rfl (by simp only [stp, vstI, vs1]; rw [hz, hL])
theorem G_lload {m pc : Nat} {L : VL} {st : List Value} {h : VG} {j : Nat} {x : Int64} (hf : fetch m pc = some (.lload j, 2)) (hL : L.getD j none = some (.long x)) : ev m pc L st h = ev m (pc + 2) L (.long x :: st) h := ev_stp hf rfl rfl (by simp only [stp, vldL]; rw [hL])
theorem G_lload_n {m pc : Nat} {L : VL} {st : List Value} {h : VG} {j : Fin 4} {x : Int64} (hf : fetch m pc = some (.lload_n j, 1)) (hL : L.getD j.val none = some (.long x)) : ev m pc L st h = ev m (pc + 1) L (.long x :: st) h := ev_stp hf rfl rfl (by simp only [stp, vldL]; rw [hL])
theorem G_lstore {m pc : Nat} {L : VL} {st : List Value} {h : VG} {j : Nat} {x : Int64} {z : Option Value} {L1 : VL} (hf : fetch m pc = some (.lstore j, 2)) (hz : L[j + 1]? = some z) (hL : vS2 L j (.long x) = L1) : ev m pc L (.long x :: st) h = ev m (pc + 2) L1 st h := ev_stp hf rfl rfl (by simp only [stp, vstL, vs2]; rw [hz, hL])
theorem G_lstore_n {m pc : Nat} {L : VL} {st : List Value} {h : VG} {j : Fin 4} {x : Int64} {z : Option Value} {L1 : VL} (hf : fetch m pc = some (.lstore_n j, 1)) (hz : L[j.val + 1]? = some z) (hL : vS2 L j.val (.long x) = L1) : ev m pc L (.long x :: st) h = ev m (pc + 1) L1 st h := ev_stp hf rfl rfl (by simp only [stp, vstL, vs2]; rw [hz, hL])
theorem G_dload {m pc : Nat} {L : VL} {st : List Value} {h : VG} {j : Nat} {x : UInt64} (hf : fetch m pc = some (.dload j, 2)) (hL : L.getD j none = some (.double x)) : ev m pc L st h = ev m (pc + 2) L (.double x :: st) h := ev_stp hf rfl rfl (by simp only [stp, vldD]; rw [hL])
theorem G_dload_n {m pc : Nat} {L : VL} {st : List Value} {h : VG} {j : Fin 4} {x : UInt64} (hf : fetch m pc = some (.dload_n j, 1)) (hL : L.getD j.val none = some (.double x)) : ev m pc L st h = ev m (pc + 1) L (.double x :: st) h := ev_stp hf rfl rfl (by simp only [stp, vldD]; rw [hL])
theorem G_dstore {m pc : Nat} {L : VL} {st : List Value} {h : VG} {j : Nat} {x : UInt64} {z : Option Value} {L1 : VL} (hf : fetch m pc = some (.dstore j, 2)) (hz : L[j + 1]? = some z) (hL : vS2 L j (.double x) = L1) : ev m pc L (.double x :: st) h = ev m (pc + 2) L1 st h := ev_stp hf rfl rfl (by simp only [stp, vstD, vs2]; rw [hz, hL])
theorem G_dstore_n {m pc : Nat} {L : VL} {st : List Value} {h : VG} {j : Fin 4} {x : UInt64} {z : Option Value} {L1 : VL} (hf : fetch m pc = some (.dstore_n j, 1)) (hz : L[j.val + 1]? = some z) (hL : vS2 L j.val (.double x) = L1) : ev m pc L (.double x :: st) h = ev m (pc + 1) L1 st h := ev_stp hf rfl rfl (by simp only [stp, vstD, vs2]; rw [hz, hL])
theorem G_aload {m pc : Nat} {L : VL} {st : List Value} {h : VG} {j : Nat} {x : Nat} (hf : fetch m pc = some (.aload j, 2)) (hL : L.getD j none = some (.ref x)) : ev m pc L st h = ev m (pc + 2) L (.ref x :: st) h := ev_stp hf rfl rfl (by simp only [stp, vldA]; rw [hL])
theorem G_aload_n {m pc : Nat} {L : VL} {st : List Value} {h : VG} {j : Fin 4} {x : Nat} (hf : fetch m pc = some (.aload_n j, 1)) (hL : L.getD j.val none = some (.ref x)) : ev m pc L st h = ev m (pc + 1) L (.ref x :: st) h := ev_stp hf rfl rfl (by simp only [stp, vldA]; rw [hL])
theorem G_astore {m pc : Nat} {L : VL} {st : List Value} {h : VG} {j : Nat} {x : Nat} {z : Option Value} {L1 : VL} (hf : fetch m pc = some (.astore j, 2)) (hz : L[j]? = some z) (hL : vS1 L j (.ref x) = L1) : ev m pc L (.ref x :: st) h = ev m (pc + 2) L1 st h := ev_stp hf rfl rfl (by simp only [stp, vstA, vs1]; rw [hz, hL])
theorem G_astore_n {m pc : Nat} {L : VL} {st : List Value} {h : VG} {j : Fin 4} {x : Nat} {z : Option Value} {L1 : VL} (hf : fetch m pc = some (.astore_n j, 1)) (hz : L[j.val]? = some z) (hL : vS1 L j.val (.ref x) = L1) : ev m pc L (.ref x :: st) h = ev m (pc + 1) L1 st h := ev_stp hf rfl rfl (by simp only [stp, vstA, vs1]; rw [hz, hL])
theorem G_iinc {m pc : Nat} {L : VL} {st : List Value} {h : VG} {j : Nat} {n : Int} {x v : Int32} {L1 : VL} (hf : fetch m pc = some (.iinc j n, 3)) (hL : L.getD j none = some (.int x)) (hv : Int32.ofInt n = v) (h1 : vS1 L j (.int (x + v)) = L1) : ev m pc L st h = ev m (pc + 3) L1 st h := ev_stp hf rfl rfl (by simp only [stp, vs1]; rw [hL]; dsimp only; rw [vgetD hL]; dsimp only; rw [hv, h1])
theorem S1_0 (l0 : Option Value) (L : VL) (v : Value) : vS1 (l0 :: L) 0 v = some v :: L := rfl
theorem S2_0 (l0 l1 : Option Value) (L : VL) (v : Value) : vS2 (l0 :: l1 :: L) 0 v = some v :: none :: L := rfl
theorem S1_1 (l0 l1 : Option Value) (L : VL) (v : Value) : vS1 (l0 :: l1 :: L) 1 v = vkk l0 :: some v :: L := by unfold vS1; rw [vkl_c _ 0 l0 rfl]; rfl
theorem S2_1 (l0 l1 l2 : Option Value) (L : VL) (v : Value) : vS2 (l0 :: l1 :: l2 :: L) 1 v = vkk l0 :: some v :: none :: L := by unfold vS2; rw [vkl_c _ 0 l0 rfl]; rfl
theorem S1_2 (l0 l1 l2 : Option Value) (L : VL) (v : Value) : vS1 (l0 :: l1 :: l2 :: L) 2 v = l0 :: vkk l1 :: some v :: L := by unfold vS1; rw [vkl_c _ 1 l1 rfl]; rfl
theorem S2_2 (l0 l1 l2 l3 : Option Value) (L : VL) (v : Value) : vS2 (l0 :: l1 :: l2 :: l3 :: L) 2 v = l0 :: vkk l1 :: some v :: none :: L := by unfold vS2; rw [vkl_c _ 1 l1 rfl]; rfl
theorem S1_3 (l0 l1 l2 l3 : Option Value) (L : VL) (v : Value) : vS1 (l0 :: l1 :: l2 :: l3 :: L) 3 v = l0 :: l1 :: vkk l2 :: some v :: L := by unfold vS1; rw [vkl_c _ 2 l2 rfl]; rfl
theorem S2_3 (l0 l1 l2 l3 l4 : Option Value) (L : VL) (v : Value) : vS2 (l0 :: l1 :: l2 :: l3 :: l4 :: L) 3 v = l0 :: l1 :: vkk l2 :: some v :: none :: L := by unfold vS2; rw [vkl_c _ 2 l2 rfl]; rfl
theorem S1_4 (l0 l1 l2 l3 l4 : Option Value) (L : VL) (v : Value) : vS1 (l0 :: l1 :: l2 :: l3 :: l4 :: L) 4 v = l0 :: l1 :: l2 :: vkk l3 :: some v :: L := by unfold vS1; rw [vkl_c _ 3 l3 rfl]; rfl
theorem S2_4 (l0 l1 l2 l3 l4 l5 : Option Value) (L : VL) (v : Value) : vS2 (l0 :: l1 :: l2 :: l3 :: l4 :: l5 :: L) 4 v = l0 :: l1 :: l2 :: vkk l3 :: some v :: none :: L := by unfold vS2; rw [vkl_c _ 3 l3 rfl]; rfl
theorem S1_5 (l0 l1 l2 l3 l4 l5 : Option Value) (L : VL) (v : Value) : vS1 (l0 :: l1 :: l2 :: l3 :: l4 :: l5 :: L) 5 v = l0 :: l1 :: l2 :: l3 :: vkk l4 :: some v :: L := by unfold vS1; rw [vkl_c _ 4 l4 rfl]; rfl
theorem S2_5 (l0 l1 l2 l3 l4 l5 l6 : Option Value) (L : VL) (v : Value) : vS2 (l0 :: l1 :: l2 :: l3 :: l4 :: l5 :: l6 :: L) 5 v = l0 :: l1 :: l2 :: l3 :: vkk l4 :: some v :: none :: L := by unfold vS2; rw [vkl_c _ 4 l4 rfl]; rfl
theorem S1_6 (l0 l1 l2 l3 l4 l5 l6 : Option Value) (L : VL) (v : Value) : vS1 (l0 :: l1 :: l2 :: l3 :: l4 :: l5 :: l6 :: L) 6 v = l0 :: l1 :: l2 :: l3 :: l4 :: vkk l5 :: some v :: L := by unfold vS1; rw [vkl_c _ 5 l5 rfl]; rfl
theorem S2_6 (l0 l1 l2 l3 l4 l5 l6 l7 : Option Value) (L : VL) (v : Value) : vS2 (l0 :: l1 :: l2 :: l3 :: l4 :: l5 :: l6 :: l7 :: L) 6 v = l0 :: l1 :: l2 :: l3 :: l4 :: vkk l5 :: some v :: none :: L := by unfold vS2; rw [vkl_c _ 5 l5 rfl]; rfl
theorem S1_7 (l0 l1 l2 l3 l4 l5 l6 l7 : Option Value) (L : VL) (v : Value) : vS1 (l0 :: l1 :: l2 :: l3 :: l4 :: l5 :: l6 :: l7 :: L) 7 v = l0 :: l1 :: l2 :: l3 :: l4 :: l5 :: vkk l6 :: some v :: L := by unfold vS1; rw [vkl_c _ 6 l6 rfl]; rfl
theorem S2_7 (l0 l1 l2 l3 l4 l5 l6 l7 l8 : Option Value) (L : VL) (v : Value) : vS2 (l0 :: l1 :: l2 :: l3 :: l4 :: l5 :: l6 :: l7 :: l8 :: L) 7 v = l0 :: l1 :: l2 :: l3 :: l4 :: l5 :: vkk l6 :: some v :: none :: L := by unfold vS2; rw [vkl_c _ 6 l6 rfl]; rfl
theorem S1_8 (l0 l1 l2 l3 l4 l5 l6 l7 l8 : Option Value) (L : VL) (v : Value) : vS1 (l0 :: l1 :: l2 :: l3 :: l4 :: l5 :: l6 :: l7 :: l8 :: L) 8 v = l0 :: l1 :: l2 :: l3 :: l4 :: l5 :: l6 :: vkk l7 :: some v :: L := by unfold vS1; rw [vkl_c _ 7 l7 rfl]; rfl
theorem S2_8 (l0 l1 l2 l3 l4 l5 l6 l7 l8 l9 : Option Value) (L : VL) (v : Value) : vS2 (l0 :: l1 :: l2 :: l3 :: l4 :: l5 :: l6 :: l7 :: l8 :: l9 :: L) 8 v = l0 :: l1 :: l2 :: l3 :: l4 :: l5 :: l6 :: vkk l7 :: some v :: none :: L := by unfold vS2; rw [vkl_c _ 7 l7 rfl]; rfl
theorem S1_9 (l0 l1 l2 l3 l4 l5 l6 l7 l8 l9 : Option Value) (L : VL) (v : Value) : vS1 (l0 :: l1 :: l2 :: l3 :: l4 :: l5 :: l6 :: l7 :: l8 :: l9 :: L) 9 v = l0 :: l1 :: l2 :: l3 :: l4 :: l5 :: l6 :: l7 :: vkk l8 :: some v :: L := by unfold vS1; rw [vkl_c _ 8 l8 rfl]; rfl
theorem S2_9 (l0 l1 l2 l3 l4 l5 l6 l7 l8 l9 l10 : Option Value) (L : VL) (v : Value) : vS2 (l0 :: l1 :: l2 :: l3 :: l4 :: l5 :: l6 :: l7 :: l8 :: l9 :: l10 :: L) 9 v = l0 :: l1 :: l2 :: l3 :: l4 :: l5 :: l6 :: l7 :: vkk l8 :: some v :: none :: L := by unfold vS2; rw [vkl_c _ 8 l8 rfl]; rfl
theorem S1_10 (l0 l1 l2 l3 l4 l5 l6 l7 l8 l9 l10 : Option Value) (L : VL) (v : Value) : vS1 (l0 :: l1 :: l2 :: l3 :: l4 :: l5 :: l6 :: l7 :: l8 :: l9 :: l10 :: L) 10 v = l0 :: l1 :: l2 :: l3 :: l4 :: l5 :: l6 :: l7 :: l8 :: vkk l9 :: some v :: L := by unfold vS1; rw [vkl_c _ 9 l9 rfl]; rfl
theorem S2_10 (l0 l1 l2 l3 l4 l5 l6 l7 l8 l9 l10 l11 : Option Value) (L : VL) (v : Value) : vS2 (l0 :: l1 :: l2 :: l3 :: l4 :: l5 :: l6 :: l7 :: l8 :: l9 :: l10 :: l11 :: L) 10 v = l0 :: l1 :: l2 :: l3 :: l4 :: l5 :: l6 :: l7 :: l8 :: vkk l9 :: some v :: none :: L := by unfold vS2; rw [vkl_c _ 9 l9 rfl]; rfl
theorem S1_11 (l0 l1 l2 l3 l4 l5 l6 l7 l8 l9 l10 l11 : Option Value) (L : VL) (v : Value) : vS1 (l0 :: l1 :: l2 :: l3 :: l4 :: l5 :: l6 :: l7 :: l8 :: l9 :: l10 :: l11 :: L) 11 v = l0 :: l1 :: l2 :: l3 :: l4 :: l5 :: l6 :: l7 :: l8 :: l9 :: vkk l10 :: some v :: L := by unfold vS1; rw [vkl_c _ 10 l10 rfl]; rfl
theorem S2_11 (l0 l1 l2 l3 l4 l5 l6 l7 l8 l9 l10 l11 l12 : Option Value) (L : VL) (v : Value) : vS2 (l0 :: l1 :: l2 :: l3 :: l4 :: l5 :: l6 :: l7 :: l8 :: l9 :: l10 :: l11 :: l12 :: L) 11 v = l0 :: l1 :: l2 :: l3 :: l4 :: l5 :: l6 :: l7 :: l8 :: l9 :: vkk l10 :: some v :: none :: L := by unfold vS2; rw [vkl_c _ 10 l10 rfl]; rfl
theorem S1_12 (l0 l1 l2 l3 l4 l5 l6 l7 l8 l9 l10 l11 l12 : Option Value) (L : VL) (v : Value) : vS1 (l0 :: l1 :: l2 :: l3 :: l4 :: l5 :: l6 :: l7 :: l8 :: l9 :: l10 :: l11 :: l12 :: L) 12 v = l0 :: l1 :: l2 :: l3 :: l4 :: l5 :: l6 :: l7 :: l8 :: l9 :: l10 :: vkk l11 :: some v :: L := by unfold vS1; rw [vkl_c _ 11 l11 rfl]; rfl
theorem S2_12 (l0 l1 l2 l3 l4 l5 l6 l7 l8 l9 l10 l11 l12 l13 : Option Value) (L : VL) (v : Value) : vS2 (l0 :: l1 :: l2 :: l3 :: l4 :: l5 :: l6 :: l7 :: l8 :: l9 :: l10 :: l11 :: l12 :: l13 :: L) 12 v = l0 :: l1 :: l2 :: l3 :: l4 :: l5 :: l6 :: l7 :: l8 :: l9 :: l10 :: vkk l11 :: some v :: none :: L := by unfold vS2; rw [vkl_c _ 11 l11 rfl]; rfl
theorem S1_13 (l0 l1 l2 l3 l4 l5 l6 l7 l8 l9 l10 l11 l12 l13 : Option Value) (L : VL) (v : Value) : vS1 (l0 :: l1 :: l2 :: l3 :: l4 :: l5 :: l6 :: l7 :: l8 :: l9 :: l10 :: l11 :: l12 :: l13 :: L) 13 v = l0 :: l1 :: l2 :: l3 :: l4 :: l5 :: l6 :: l7 :: l8 :: l9 :: l10 :: l11 :: vkk l12 :: some v :: L := by unfold vS1; rw [vkl_c _ 12 l12 rfl]; rfl
theorem S2_13 (l0 l1 l2 l3 l4 l5 l6 l7 l8 l9 l10 l11 l12 l13 l14 : Option Value) (L : VL) (v : Value) : vS2 (l0 :: l1 :: l2 :: l3 :: l4 :: l5 :: l6 :: l7 :: l8 :: l9 :: l10 :: l11 :: l12 :: l13 :: l14 :: L) 13 v = l0 :: l1 :: l2 :: l3 :: l4 :: l5 :: l6 :: l7 :: l8 :: l9 :: l10 :: l11 :: vkk l12 :: some v :: none :: L := by unfold vS2; rw [vkl_c _ 12 l12 rfl]; rfl
theorem S1_14 (l0 l1 l2 l3 l4 l5 l6 l7 l8 l9 l10 l11 l12 l13 l14 : Option Value) (L : VL) (v : Value) : vS1 (l0 :: l1 :: l2 :: l3 :: l4 :: l5 :: l6 :: l7 :: l8 :: l9 :: l10 :: l11 :: l12 :: l13 :: l14 :: L) 14 v = l0 :: l1 :: l2 :: l3 :: l4 :: l5 :: l6 :: l7 :: l8 :: l9 :: l10 :: l11 :: l12 :: vkk l13 :: some v :: L := by unfold vS1; rw [vkl_c _ 13 l13 rfl]; rfl
theorem S2_14 (l0 l1 l2 l3 l4 l5 l6 l7 l8 l9 l10 l11 l12 l13 l14 l15 : Option Value) (L : VL) (v : Value) : vS2 (l0 :: l1 :: l2 :: l3 :: l4 :: l5 :: l6 :: l7 :: l8 :: l9 :: l10 :: l11 :: l12 :: l13 :: l14 :: l15 :: L) 14 v = l0 :: l1 :: l2 :: l3 :: l4 :: l5 :: l6 :: l7 :: l8 :: l9 :: l10 :: l11 :: l12 :: vkk l13 :: some v :: none :: L := by unfold vS2; rw [vkl_c _ 13 l13 rfl]; rfl
theorem S1_15 (l0 l1 l2 l3 l4 l5 l6 l7 l8 l9 l10 l11 l12 l13 l14 l15 : Option Value) (L : VL) (v : Value) : vS1 (l0 :: l1 :: l2 :: l3 :: l4 :: l5 :: l6 :: l7 :: l8 :: l9 :: l10 :: l11 :: l12 :: l13 :: l14 :: l15 :: L) 15 v = l0 :: l1 :: l2 :: l3 :: l4 :: l5 :: l6 :: l7 :: l8 :: l9 :: l10 :: l11 :: l12 :: l13 :: vkk l14 :: some v :: L := by unfold vS1; rw [vkl_c _ 14 l14 rfl]; rfl
theorem S2_15 (l0 l1 l2 l3 l4 l5 l6 l7 l8 l9 l10 l11 l12 l13 l14 l15 l16 : Option Value) (L : VL) (v : Value) : vS2 (l0 :: l1 :: l2 :: l3 :: l4 :: l5 :: l6 :: l7 :: l8 :: l9 :: l10 :: l11 :: l12 :: l13 :: l14 :: l15 :: l16 :: L) 15 v = l0 :: l1 :: l2 :: l3 :: l4 :: l5 :: l6 :: l7 :: l8 :: l9 :: l10 :: l11 :: l12 :: l13 :: vkk l14 :: some v :: none :: L := by unfold vS2; rw [vkl_c _ 14 l14 rfl]; rfl
/-- an object's fields, by their kinds: 0 int, 1 long, 2 double, 3 reference -/
def vtag (v : Value) : Nat := match v with
  | .int _ => 0
  | .long _ => 1
  | .double _ => 2
  | .ref _ => 3
  | .null => 3
  | _ => 4
def gV (h : VG) (a k : Nat) : Value := match h.1 a with
  | .inr o => o.2.getD k .null
  | .inl _ => .null
def gI (h : VG) (a k : Nat) : Int32 := match gV h a k with
  | .int x => x
  | _ => 0
def gL (h : VG) (a k : Nat) : Int64 := match gV h a k with
  | .long x => x
  | _ => 0
def gD (h : VG) (a k : Nat) : UInt64 := match gV h a k with
  | .double x => x
  | _ => 0
def gR (h : VG) (a k : Nat) : Nat := match gV h a k with
  | .ref x => x
  | _ => 0
def vShape (ci : Nat) : List Nat := [[3, 3, 3], [0, 0, 3, 3], [3, 3, 0, 0, 0, 0], [1, 0, 0, 3, 3, 3, 3, 3, 3, 3], [0, 3, 0, 0], [3, 0, 0], [3, 3, 0], [0, 3, 3, 0, 0, 0], [3, 3, 3, 0], [3, 3, 3, 3], [3, 0, 3, 3, 3, 0, 3, 3, 3, 0, 0, 3, 3, 3], [0, 3, 0, 3, 0, 3, 3, 3, 3, 3, 0, 0, 0, 0, 0, 0, 0, 0, 0, 0, 3, 3, 3, 3, 0, 0, 0, 3, 3, 3, 3, 0, 0, 3, 3, 3, 0, 0, 0, 1, 2, 0, 3, 3, 3, 3, 3, 3, 3, 3, 3, 3, 3, 3, 0, 3, 3, 0, 3, 3, 3, 3, 3, 3, 3, 3, 3]].getD ci []
def ob (h : VG) (a ci : Nat) : Prop := ∃ fs, h.1 a = .inr (ci, fs) ∧ fs.map vtag = vShape ci
theorem ob_at {h : VG} {a ci k t : Nat} (ho : ob h a ci) (hs : (vShape ci)[k]? = some t) : ∃ fs v, h.1 a = .inr (ci, fs) ∧ fs[k]? = some v ∧ vtag v = t ∧ gV h a k = v := by
  obtain ⟨fs, h1, h2⟩ := ho
  rw [← h2, List.getElem?_map] at hs
  cases hv : fs[k]? with
  | none => rw [hv] at hs; cases hs
  | some v =>
    rw [hv] at hs
    refine ⟨fs, v, h1, hv, Option.some.inj hs, ?_⟩
    unfold gV
    rw [h1]
    show fs.getD k .null = v
    rw [List.getD_eq_getElem?_getD, hv]
    rfl
/-- a field gets a new value of its own kind (of another kind: nothing is done) -/
def vset (fs : List Value) (k : Nat) (v : Value) : List Value := if (fs[k]?.map vtag) = some (vtag v) then fs.set k v else fs
def pV (h : VG) (a k : Nat) (v : Value) : VG := hset h a (match h.1 a with
  | .inr o => .inr (o.1, vset o.2 k v)
  | .inl x => .inl x)
def pI (h : VG) (a k : Nat) (v : Int32) : VG := pV h a k (.int v)
def pL (h : VG) (a k : Nat) (v : Int64) : VG := pV h a k (.long v)
def pD (h : VG) (a k : Nat) (v : UInt64) : VG := pV h a k (.double v)
def pR (h : VG) (a k : Nat) (v : Nat) : VG := pV h a k (.ref v)
def isR (h : VG) (a k : Nat) : Prop := ∃ x, gV h a k = .ref x

theorem G_getI {m pc : Nat} {L : VL} {st : List Value} {h : VG} {idx ci k p a : Nat} (hf : fetch m pc = some (.getfield idx, 3)) (hl : vFld (mcl m) idx = some (ci, k, p)) (hs : (vShape ci)[k]? = some 0) (h12 : ¬ ci = 12) (ho : ob h a ci) : ev m pc L (.ref a :: st) h = ev m (pc + 3) L (.int (gI h a k) :: st) h := by
  obtain ⟨fs, v, h1, h2, h3, h4⟩ := ob_at ho hs
  have hv : v = .int (gI h a k) := by
    unfold gI
    rw [h4]
    cases v <;> first | rfl | (cases h3)
  refine ev_stp hf rfl rfl ?_
  simp only [stp, hl, vgetf]
  rw [if_neg h12, h1]
  dsimp only
  rw [if_pos rfl, h2]
  dsimp only
  rw [← hv]
theorem G_putI {m pc : Nat} {L : VL} {st : List Value} {h : VG} {idx ci k p a : Nat} {x : Int32} (hf : fetch m pc = some (.putfield idx, 3)) (hl : vFld (mcl m) idx = some (ci, k, p)) (hs : (vShape ci)[k]? = some 0) (h12 : ci < 12) (hp : vPut m ci k = true) (hn : narrow (vTy ci k) (.int x) = .int x ∧ fits (vTy ci k) (.int x) = true) (ho : ob h a ci) : ev m pc L (.int x :: .ref a :: st) h = ev m (pc + 3) L st (pI h a k x) := by
  obtain ⟨fs, v, h1, h2, h3, h4⟩ := ob_at ho hs
  have hk : k < fs.length := (List.getElem?_eq_some_iff.mp h2).1
  refine ev_stp hf rfl rfl ?_
  simp only [stp, hl]
  rw [h1]
  dsimp only
  rw [if_pos ⟨rfl, h12, hk, hp, hn.1, hn.2⟩]
  dsimp only
  have hset : vset fs k (.int x) = fs.set k (.int x) := by
    unfold vset
    rw [h2, if_pos (by show some (vtag v) = _; rw [h3]; rfl)]
  unfold pI pV
  rw [h1]
  dsimp only
  rw [hset]
theorem G_getL {m pc : Nat} {L : VL} {st : List Value} {h : VG} {idx ci k p a : Nat} (hf : fetch m pc = some (.getfield idx, 3)) (hl : vFld (mcl m) idx = some (ci, k, p)) (hs : (vShape ci)[k]? = some 1) (h12 : ¬ ci = 12) (ho : ob h a ci) : ev m pc L (.ref a :: st) h = ev m (pc + 3) L (.long (gL h a k) :: st) h := by
  obtain ⟨fs, v, h1, h2, h3, h4⟩ := ob_at ho hs
  have hv : v = .long (gL h a k) := by
    unfold gL
    rw [h4]
    cases v <;> first | rfl | (cases h3)
  refine ev_stp hf rfl rfl ?_
  simp only [stp, hl, vgetf]
  rw [if_neg h12, h1]
  dsimp only
  rw [if_pos rfl, h2]
  dsimp only
  rw [← hv]
theorem G_putL {m pc : Nat} {L : VL} {st : List Value} {h : VG} {idx ci k p a : Nat} {x : Int64} (hf : fetch m pc = some (.putfield idx, 3)) (hl : vFld (mcl m) idx = some (ci, k, p)) (hs : (vShape ci)[k]? = some 1) (h12 : ci < 12) (hp : vPut m ci k = true) (hn : narrow (vTy ci k) (.long x) = .long x ∧ fits (vTy ci k) (.long x) = true) (ho : ob h a ci) : ev m pc L (.long x :: .ref a :: st) h = ev m (pc + 3) L st (pL h a k x) := by
  obtain ⟨fs, v, h1, h2, h3, h4⟩ := ob_at ho hs
  have hk : k < fs.length := (List.getElem?_eq_some_iff.mp h2).1
  refine ev_stp hf rfl rfl ?_
  simp only [stp, hl]
  rw [h1]
  dsimp only
  rw [if_pos ⟨rfl, h12, hk, hp, hn.1, hn.2⟩]
  dsimp only
  have hset : vset fs k (.long x) = fs.set k (.long x) := by
    unfold vset
    rw [h2, if_pos (by show some (vtag v) = _; rw [h3]; rfl)]
  unfold pL pV
  rw [h1]
  dsimp only
  rw [hset]
theorem G_getD {m pc : Nat} {L : VL} {st : List Value} {h : VG} {idx ci k p a : Nat} (hf : fetch m pc = some (.getfield idx, 3)) (hl : vFld (mcl m) idx = some (ci, k, p)) (hs : (vShape ci)[k]? = some 2) (h12 : ¬ ci = 12) (ho : ob h a ci) : ev m pc L (.ref a :: st) h = ev m (pc + 3) L (.double (gD h a k) :: st) h := by
  obtain ⟨fs, v, h1, h2, h3, h4⟩ := ob_at ho hs
  have hv : v = .double (gD h a k) := by
    unfold gD
    rw [h4]
    cases v <;> first | rfl | (cases h3)
  refine ev_stp hf rfl rfl ?_
  simp only [stp, hl, vgetf]
  rw [if_neg h12, h1]
  dsimp only
  rw [if_pos rfl, h2]
  dsimp only
  rw [← hv]
theorem G_putD {m pc : Nat} {L : VL} {st : List Value} {h : VG} {idx ci k p a : Nat} {x : UInt64} (hf : fetch m pc = some (.putfield idx, 3)) (hl : vFld (mcl m) idx = some (ci, k, p)) (hs : (vShape ci)[k]? = some 2) (h12 : ci < 12) (hp : vPut m ci k = true) (hn : narrow (vTy ci k) (.double x) = .double x ∧ fits (vTy ci k) (.double x) = true) (ho : ob h a ci) : ev m pc L (.double x :: .ref a :: st) h = ev m (pc + 3) L st (pD h a k x) := by
  obtain ⟨fs, v, h1, h2, h3, h4⟩ := ob_at ho hs
  have hk : k < fs.length := (List.getElem?_eq_some_iff.mp h2).1
  refine ev_stp hf rfl rfl ?_
  simp only [stp, hl]
  rw [h1]
  dsimp only
  rw [if_pos ⟨rfl, h12, hk, hp, hn.1, hn.2⟩]
  dsimp only
  have hset : vset fs k (.double x) = fs.set k (.double x) := by
    unfold vset
    rw [h2, if_pos (by show some (vtag v) = _; rw [h3]; rfl)]
  unfold pD pV
  rw [h1]
  dsimp only
  rw [hset]
theorem G_getR {m pc : Nat} {L : VL} {st : List Value} {h : VG} {idx ci k p a : Nat} (hf : fetch m pc = some (.getfield idx, 3)) (hl : vFld (mcl m) idx = some (ci, k, p)) (hs : (vShape ci)[k]? = some 3) (h12 : ¬ ci = 12) (ho : ob h a ci) (hr : isR h a k) : ev m pc L (.ref a :: st) h = ev m (pc + 3) L (.ref (gR h a k) :: st) h := by
  obtain ⟨fs, v, h1, h2, h3, h4⟩ := ob_at ho hs
  have hv : v = .ref (gR h a k) := by
    unfold gR
    rw [h4]
    obtain ⟨y, hy⟩ := hr; rw [h4] at hy; rw [hy]
  refine ev_stp hf rfl rfl ?_
  simp only [stp, hl, vgetf]
  rw [if_neg h12, h1]
  dsimp only
  rw [if_pos rfl, h2]
  dsimp only
  rw [← hv]
theorem G_putR {m pc : Nat} {L : VL} {st : List Value} {h : VG} {idx ci k p a : Nat} {x : Nat} (hf : fetch m pc = some (.putfield idx, 3)) (hl : vFld (mcl m) idx = some (ci, k, p)) (hs : (vShape ci)[k]? = some 3) (h12 : ci < 12) (hp : vPut m ci k = true) (hn : narrow (vTy ci k) (.ref x) = .ref x ∧ fits (vTy ci k) (.ref x) = true) (ho : ob h a ci) : ev m pc L (.ref x :: .ref a :: st) h = ev m (pc + 3) L st (pR h a k x) := by
  obtain ⟨fs, v, h1, h2, h3, h4⟩ := ob_at ho hs
  have hk : k < fs.length := (List.getElem?_eq_some_iff.mp h2).1
  refine ev_stp hf rfl rfl ?_
  simp only [stp, hl]
  rw [h1]
  dsimp only
  rw [if_pos ⟨rfl, h12, hk, hp, hn.1, hn.2⟩]
  dsimp only
  have hset : vset fs k (.ref x) = fs.set k (.ref x) := by
    unfold vset
    rw [h2, if_pos (by show some (vtag v) = _; rw [h3]; rfl)]
  unfold pR pV
  rw [h1]
  dsimp only
  rw [hset]
theorem G_putraw {m pc : Nat} {L : VL} {st : List Value} {h : VG} {idx ci k p a : Nat} {v : Value} {fs : List Value} (hf : fetch m pc = some (.putfield idx, 3)) (hl : vFld (mcl m) idx = some (ci, k, p)) (h12 : ci < 12) (hp : vPut m ci k = true) (hn : narrow (vTy ci k) v = v ∧ fits (vTy ci k) v = true) (h1 : h.1 a = .inr (ci, fs)) (hk : k < fs.length) : ev m pc L (v :: .ref a :: st) h = ev m (pc + 3) L st (hset h a (.inr (ci, fs.set k v))) := by
  refine ev_stp hf rfl rfl ?_
  simp only [stp, hl]
  rw [h1]
  dsimp only
  rw [if_pos ⟨rfl, h12, hk, hp, hn.1, hn.2⟩]
theorem G_aast {m pc : Nat} {L : VL} {st : List Value} {h : VG} {a v ci t n : Nat} {vs : List Value} {f : Nat → Option Nat} {i : Int32} (hf : fetch m pc = some (.aastore, 1)) (h1 : h.1 a = .inl (t, n, .inr (.inr (.inr (.inr f))))) (h2 : h.1 v = .inr (ci, vs)) (ht : t = vCiT ci ∧ t < 8) (hi : vp_in i n) : ev m pc L (.ref v :: .int i :: .ref a :: st) h = ev m (pc + 1) L st (hset h a (.inl (t, n, .inr (.inr (.inr (.inr (va_up f i.toNatClampNeg (some v)))))))) := by
  refine ev_stp hf rfl rfl ?_
  simp only [stp, vaast]
  rw [h1]
  dsimp only
  rw [h2]
  dsimp only
  rw [if_pos ⟨ht.1, ht.2, hi⟩]
/-- rows: the tag says what they hold (0, 20 ints, 2, 21 bytes, 3 booleans, 1 longs, 4 doubles, 5 6 7 references) -/
def aln (h : VG) (a : Nat) : Nat := match h.1 a with
  | .inl q => q.2.1
  | .inr _ => 0
def arI (h : VG) (a t : Nat) : Prop := ∃ n f, h.1 a = .inl (t, n, .inl f)
def arL (h : VG) (a : Nat) : Prop := ∃ n f, h.1 a = .inl (1, n, .inr (.inl f))
def arD (h : VG) (a : Nat) : Prop := ∃ n f, h.1 a = .inl (4, n, .inr (.inr (.inr (.inl f))))
def arR (h : VG) (a t : Nat) : Prop := ∃ n f, h.1 a = .inl (t, n, .inr (.inr (.inr (.inr f))))
def aI (h : VG) (a i : Nat) : Int32 := match h.1 a with
  | .inl (_, _, .inl f) => f i
  | _ => 0
def aL (h : VG) (a i : Nat) : Int64 := match h.1 a with
  | .inl (_, _, .inr (.inl f)) => f i
  | _ => 0
def aD (h : VG) (a i : Nat) : UInt64 := match h.1 a with
  | .inl (_, _, .inr (.inr (.inr (.inl f)))) => f i
  | _ => 0
def aR (h : VG) (a i : Nat) : Option Nat := match h.1 a with
  | .inl (_, _, .inr (.inr (.inr (.inr f)))) => f i
  | _ => none
def wI (h : VG) (a i : Nat) (x : Int32) : VG := hset h a (match h.1 a with
  | .inl (t, n, .inl f) => .inl (t, n, .inl (upd f i x))
  | e => e)
def wL (h : VG) (a i : Nat) (x : Int64) : VG := hset h a (match h.1 a with
  | .inl (t, n, .inr (.inl f)) => .inl (t, n, .inr (.inl (vp_updL f i x)))
  | e => e)
def wD (h : VG) (a i : Nat) (x : UInt64) : VG := hset h a (match h.1 a with
  | .inl (t, n, .inr (.inr (.inr (.inl f)))) => .inl (t, n, .inr (.inr (.inr (.inl (vf_upd f i x)))))
  | e => e)
def wR (h : VG) (a i : Nat) (x : Nat) : VG := hset h a (match h.1 a with
  | .inl (t, n, .inr (.inr (.inr (.inr f)))) => .inl (t, n, .inr (.inr (.inr (.inr (va_up f i (some x))))))
  | e => e)
theorem G_iald {m pc : Nat} {L : VL} {st : List Value} {h : VG} {t : Nat} {a : Nat} {i : Int32} (hf : fetch m pc = some (.iaload, 1)) (ht : t = 0 ∨ t = 20) (ha : arI h a t) (hi : vp_in i (aln h a)) : ev m pc L (.int i :: .ref a :: st) h = ev m (pc + 1) L (.int (aI h a i.toNatClampNeg) :: st) h := by
  obtain ⟨n, f, h1⟩ := ha
  have h2 : aln h a = n := by unfold aln; rw [h1]
  rw [h2] at hi
  refine ev_stp hf rfl rfl ?_
  simp only [stp, viald]
  unfold aI
  rw [h1]
  dsimp only
  rw [if_pos ⟨ht, hi⟩]
theorem G_bald {m pc : Nat} {L : VL} {st : List Value} {h : VG} {t : Nat} {a : Nat} {i : Int32} (hf : fetch m pc = some (.baload, 1)) (ht : t = 2 ∨ t = 3 ∨ t = 21) (ha : arI h a t) (hi : vp_in i (aln h a)) : ev m pc L (.int i :: .ref a :: st) h = ev m (pc + 1) L (.int (aI h a i.toNatClampNeg) :: st) h := by
  obtain ⟨n, f, h1⟩ := ha
  have h2 : aln h a = n := by unfold aln; rw [h1]
  rw [h2] at hi
  refine ev_stp hf rfl rfl ?_
  simp only [stp, vbald]
  unfold aI
  rw [h1]
  dsimp only
  rw [if_pos ⟨ht, hi⟩]
theorem G_lald {m pc : Nat} {L : VL} {st : List Value} {h : VG} {a : Nat} {i : Int32} (hf : fetch m pc = some (.laload, 1)) (ha : arL h a) (hi : vp_in i (aln h a)) : ev m pc L (.int i :: .ref a :: st) h = ev m (pc + 1) L (.long (aL h a i.toNatClampNeg) :: st) h := by
  obtain ⟨n, f, h1⟩ := ha
  have h2 : aln h a = n := by unfold aln; rw [h1]
  rw [h2] at hi
  refine ev_stp hf rfl rfl ?_
  simp only [stp, vlald]
  unfold aL
  rw [h1]
  dsimp only
  rw [if_pos ⟨rfl, hi⟩]
theorem G_dald {m pc : Nat} {L : VL} {st : List Value} {h : VG} {a : Nat} {i : Int32} (hf : fetch m pc = some (.daload, 1)) (ha : arD h a) (hi : vp_in i (aln h a)) : ev m pc L (.int i :: .ref a :: st) h = ev m (pc + 1) L (.double (aD h a i.toNatClampNeg) :: st) h := by
  obtain ⟨n, f, h1⟩ := ha
  have h2 : aln h a = n := by unfold aln; rw [h1]
  rw [h2] at hi
  refine ev_stp hf rfl rfl ?_
  simp only [stp, vdald]
  unfold aD
  rw [h1]
  dsimp only
  rw [if_pos ⟨rfl, hi⟩]
theorem G_aald {m pc : Nat} {L : VL} {st : List Value} {h : VG} {t : Nat} {a : Nat} {i : Int32} (hf : fetch m pc = some (.aaload, 1)) (ht : t = 5 ∨ t = 6 ∨ t = 7) (ha : arR h a t) (hi : vp_in i (aln h a)) : ev m pc L (.int i :: .ref a :: st) h = ev m (pc + 1) L (va_rf (aR h a i.toNatClampNeg) :: st) h := by
  obtain ⟨n, f, h1⟩ := ha
  have h2 : aln h a = n := by unfold aln; rw [h1]
  rw [h2] at hi
  refine ev_stp hf rfl rfl ?_
  simp only [stp, vaald]
  unfold aR
  rw [h1]
  dsimp only
  rw [if_pos ⟨ht, hi⟩]
theorem G_iast {m pc : Nat} {L : VL} {st : List Value} {h : VG} {a : Nat} {i : Int32} {x : Int32} (hf : fetch m pc = some (.iastore, 1)) (ha : arI h a 0) (hi : vp_in i (aln h a)) : ev m pc L (.int x :: .int i :: .ref a :: st) h = ev m (pc + 1) L st (wI h a i.toNatClampNeg x) := by
  obtain ⟨n, f, h1⟩ := ha
  have h2 : aln h a = n := by unfold aln; rw [h1]
  rw [h2] at hi
  refine ev_stp hf rfl rfl ?_
  simp only [stp, viast]
  unfold wI
  rw [h1]
  dsimp only
  rw [if_pos ⟨rfl, hi⟩]
theorem G_bast {m pc : Nat} {L : VL} {st : List Value} {h : VG} {a : Nat} {i : Int32} {x : Int32} (hf : fetch m pc = some (.bastore, 1)) (ha : arI h a 2) (hi : vp_in i (aln h a)) : ev m pc L (.int x :: .int i :: .ref a :: st) h = ev m (pc + 1) L st (wI h a i.toNatClampNeg (vp_nar .byte x)) := by
  obtain ⟨n, f, h1⟩ := ha
  have h2 : aln h a = n := by unfold aln; rw [h1]
  rw [h2] at hi
  refine ev_stp hf rfl rfl ?_
  simp only [stp, vbast]
  unfold wI
  rw [h1]
  dsimp only
  rw [if_pos ⟨Or.inl rfl, hi⟩]
  rfl
theorem G_zast {m pc : Nat} {L : VL} {st : List Value} {h : VG} {a : Nat} {i : Int32} {x : Int32} (hf : fetch m pc = some (.bastore, 1)) (ha : arI h a 3) (hi : vp_in i (aln h a)) : ev m pc L (.int x :: .int i :: .ref a :: st) h = ev m (pc + 1) L st (wI h a i.toNatClampNeg (vp_nar .boolean x)) := by
  obtain ⟨n, f, h1⟩ := ha
  have h2 : aln h a = n := by unfold aln; rw [h1]
  rw [h2] at hi
  refine ev_stp hf rfl rfl ?_
  simp only [stp, vbast]
  unfold wI
  rw [h1]
  dsimp only
  rw [if_pos ⟨Or.inr rfl, hi⟩]
  rfl
theorem G_last {m pc : Nat} {L : VL} {st : List Value} {h : VG} {a : Nat} {i : Int32} {x : Int64} (hf : fetch m pc = some (.lastore, 1)) (ha : arL h a) (hi : vp_in i (aln h a)) : ev m pc L (.long x :: .int i :: .ref a :: st) h = ev m (pc + 1) L st (wL h a i.toNatClampNeg x) := by
  obtain ⟨n, f, h1⟩ := ha
  have h2 : aln h a = n := by unfold aln; rw [h1]
  rw [h2] at hi
  refine ev_stp hf rfl rfl ?_
  simp only [stp, vlast]
  unfold wL
  rw [h1]
  dsimp only
  rw [if_pos ⟨rfl, hi⟩]
theorem G_dast {m pc : Nat} {L : VL} {st : List Value} {h : VG} {a : Nat} {i : Int32} {x : UInt64} (hf : fetch m pc = some (.dastore, 1)) (ha : arD h a) (hi : vp_in i (aln h a)) : ev m pc L (.double x :: .int i :: .ref a :: st) h = ev m (pc + 1) L st (wD h a i.toNatClampNeg x) := by
  obtain ⟨n, f, h1⟩ := ha
  have h2 : aln h a = n := by unfold aln; rw [h1]
  rw [h2] at hi
  refine ev_stp hf rfl rfl ?_
  simp only [stp, vdast]
  unfold wD
  rw [h1]
  dsimp only
  rw [if_pos ⟨rfl, hi⟩]
theorem G_alen {m pc : Nat} {L : VL} {st : List Value} {h : VG} {a : Nat} (hf : fetch m pc = some (.arraylength, 1)) (ha : ∃ t n f, h.1 a = .inl (t, n, f) ∧ (t < 8 ∨ t = 20 ∨ t = 21)) : ev m pc L (.ref a :: st) h = ev m (pc + 1) L (.int (Int32.ofNat (aln h a)) :: st) h := by
  obtain ⟨t, n, f, h1, ht⟩ := ha
  have h2 : aln h a = n := by unfold aln; rw [h1]
  refine ev_stp hf rfl rfl ?_
  simp only [stp, valen]
  rw [h1]
  dsimp only
  rw [if_pos ht, h2]
theorem G_gets {m pc : Nat} {L : VL} {st : List Value} {h : VG} {idx k p : Nat} (hf : fetch m pc = some (.getstatic idx, 3)) (hl : vSta (mcl m) idx = some (k, p)) : ev m pc L st h = ev m (pc + 3) L (h.2.2.2 k :: st) h := ev_stp hf rfl rfl (by simp only [stp, hl])
theorem G_ldc2l {m pc : Nat} {L : VL} {st : List Value} {h : VG} {idx p : Nat} {v : Int64} (hf : fetch m pc = some (.ldc2_w idx, 3)) (hl : vCst (mcl m) idx = some (.long v, p)) : ev m pc L st h = ev m (pc + 3) L (.long v :: st) h := ev_stp hf rfl rfl (by simp only [stp, hl])
theorem G_ldc2d {m pc : Nat} {L : VL} {st : List Value} {h : VG} {idx p : Nat} {v : UInt64} (hf : fetch m pc = some (.ldc2_w idx, 3)) (hl : vCst (mcl m) idx = some (.double v, p)) : ev m pc L st h = ev m (pc + 3) L (.double v :: st) h := ev_stp hf rfl rfl (by simp only [stp, hl])
theorem G_ldcw {m pc : Nat} {L : VL} {st : List Value} {h : VG} {idx p : Nat} {v : Int32} (hf : fetch m pc = some (.ldc_w idx, 3)) (hl : vCst (mcl m) idx = some (.int v, p)) : ev m pc L st h = ev m (pc + 3) L (.int v :: st) h := ev_stp hf rfl rfl (by simp only [stp, hl])
theorem G_ldcs {m pc : Nat} {L : VL} {st : List Value} {h : VG} {idx : Nat} (hf : fetch m pc = some (.ldc idx, 2)) (hl : vStr (mcl m) idx = some 4) : ev m pc L st h = ev m (pc + 2) L (h.2.2.2 4 :: st) h := ev_stp hf rfl rfl (by simp only [stp, hl])
theorem G_new {m pc : Nat} {L : VL} {st : List Value} {h : VG} {idx ci p : Nat} (hf : fetch m pc = some (.new idx, 3)) (hl : vNew (mcl m) idx = some (ci, p)) : ev m pc L st h = ev m (pc + 3) L (.ref h.2.1 :: st) (hnew h (.inr (ci, vDef ci)) (vNsl ci)) := ev_stp hf rfl rfl (by simp only [stp, hl])
theorem G_newa {m pc : Nat} {L : VL} {st : List Value} {h : VG} {ty : ArrayType} {n : Int32} {t : Nat} {f : (Nat → Int32) ⊕ (Nat → Int64) ⊕ (Nat → UInt32) ⊕ (Nat → UInt64) ⊕ (Nat → Option Nat)} (hf : fetch m pc = some (.newarray ty, 2)) (hl : vnewa ty = some (t, f)) (hn : ¬ n < 0 ∧ n.toNatClampNeg ≤ 4096) : ev m pc L (.int n :: st) h = ev m (pc + 2) L (.ref h.2.1 :: st) (hnew h (.inl (t, n.toNatClampNeg, f)) n.toNatClampNeg) := ev_stp hf rfl rfl (by simp only [stp, hl]; rw [if_pos hn])
theorem G_anewa {m pc : Nat} {L : VL} {st : List Value} {h : VG} {idx ci p : Nat} {n : Int32} (hf : fetch m pc = some (.anewarray idx, 3)) (hl : vNew (mcl m) idx = some (ci, p)) (hn : ¬ n < 0 ∧ n.toNatClampNeg ≤ 4096 ∧ vCiT ci < 8) : ev m pc L (.int n :: st) h = ev m (pc + 3) L (.ref h.2.1 :: st) (hnew h (.inl (vCiT ci, n.toNatClampNeg, .inr (.inr (.inr (.inr (fun _ => none)))))) n.toNatClampNeg) := ev_stp hf rfl rfl (by simp only [stp, hl]; rw [if_pos hn])
theorem G_objinit {m pc : Nat} {L : VL} {st : List Value} {h : VG} {idx y p a : Nat} (hf : fetch m pc = some (.invokespecial idx, 3)) (hl : vCal (mcl m) idx = some (10, y, p)) (hs : catS st ≤ 8) : ev m pc L (.ref a :: st) h = ev m (pc + 3) L st h := by
  refine ev_stp hf rfl ?_ ?_
  · simp only [vcall, hl]
    split
    · rw [if_neg (fun z => by omega)]
    · rfl
  · simp only [stp, hl]
    rw [if_pos trivial]
    simp only [vprim]
    rw [if_pos hs]
theorem G_mmax {m pc : Nat} {L : VL} {st : List Value} {h : VG} {idx q p : Nat} {x y : Int32} (hf : fetch m pc = some (.invokestatic idx, 3)) (hl : vCal (mcl m) idx = some (11, q, p)) (hs : catS st ≤ 8) : ev m pc L (.int y :: .int x :: st) h = ev m (pc + 3) L (.int (if x < y then y else x) :: st) h := by
  refine ev_stp hf rfl ?_ ?_
  · simp only [vcall, hl]
    rw [if_neg (fun z => by omega)]
  · simp only [stp, hl]
    rw [if_neg (by decide)]
    simp only [vprim]
    rw [if_pos hs]
theorem G_mmin {m pc : Nat} {L : VL} {st : List Value} {h : VG} {idx q p : Nat} {x y : Int32} (hf : fetch m pc = some (.invokestatic idx, 3)) (hl : vCal (mcl m) idx = some (12, q, p)) (hs : catS st ≤ 8) : ev m pc L (.int y :: .int x :: st) h = ev m (pc + 3) L (.int (if y < x then y else x) :: st) h := by
  refine ev_stp hf rfl ?_ ?_
  · simp only [vcall, hl]
    rw [if_neg (fun z => by omega)]
  · simp only [stp, hl]
    rw [if_neg (by decide)]
    simp only [vprim]
    rw [if_pos hs]
theorem G_copy {m pc : Nat} {L : VL} {st : List Value} {h : VG} {idx q p s d : Nat} {sp dp n : Int32} {h1 : VG} (hf : fetch m pc = some (.invokestatic idx, 3)) (hl : vCal (mcl m) idx = some (13, q, p)) (hs : catS st ≤ 8) (hc : vcopy h s d sp dp n = some h1) : ev m pc L (.int n :: .int dp :: .ref d :: .int sp :: .ref s :: st) h = ev m (pc + 3) L st h1 := by
  refine ev_stp hf rfl ?_ ?_
  · simp only [vcall, hl]
    rw [if_neg (fun z => by omega)]
  · simp only [stp, hl]
    rw [if_neg (by decide)]
    simp only [vprim]
    rw [if_pos hs, hc]
theorem G_iret {m pc : Nat} {L : VL} {h : VG} {v : Int32} {ty : FieldType} (hf : fetch m pc = some (.ireturn, 1)) (hr : mret m = some ty) (hn : narrow ty (.int v) = .int v) : ev m pc L [.int v] h = some (some (.int v), h) := ev_ret hf (by simp only [vret, hr]; rw [if_pos hn])
theorem G_lret {m pc : Nat} {L : VL} {h : VG} {v : Int64} (hf : fetch m pc = some (.lreturn, 1)) (hr : mret m = some .long) : ev m pc L [.long v] h = some (some (.long v), h) := ev_ret hf (by simp only [vret]; rw [if_pos hr])
theorem G_dret {m pc : Nat} {L : VL} {h : VG} {v : UInt64} (hf : fetch m pc = some (.dreturn, 1)) (hr : mret m = some .double) : ev m pc L [.double v] h = some (some (.double v), h) := ev_ret hf (by simp only [vret]; rw [if_pos hr])
theorem G_vret {m pc : Nat} {L : VL} {h : VG} (hf : fetch m pc = some (.return_, 1)) (hr : mret m = none) : ev m pc L [] h = some (none, h) := ev_ret hf (by simp only [vret]; rw [if_pos hr])
/-- calls: the stack's top holds the arguments, the last one uppermost -/
theorem G_calls {m pc : Nat} {L : VL} {st : List Value} {h : VG} {idx k y p : Nat} {ars : List Value} {V : VL} (hf : fetch m pc = some (.invokestatic idx, 3)) (hl : vCal (mcl m) idx = some (k, y, p)) (hk : k = 0 ∨ k = 3) (hd : vDp m y = true) (hn : ars.length = mna y) (hc : catS ars ≤ mmax y) (hs : catS st ≤ 8) (hV : vEnt ars (mmax y) = V) : ev m pc L (ars.reverse ++ st) h = (ev y 0 V [] h).bind fun q => ev m (pc + 3) L (q.1.toList ++ st) q.2 := by
  subst hV
  have h1 : (ars.reverse ++ st).take (mna y) = ars.reverse := by rw [← hn, ← List.length_reverse, List.take_left']; rfl
  have h2 : (ars.reverse ++ st).drop (mna y) = st := by rw [← hn, ← List.length_reverse, List.drop_left']; rfl
  refine ev_call hf rfl ?_
  simp only [vcall, hl]
  rw [h1, h2, List.reverse_reverse, if_pos ⟨hk, hd, by rw [List.length_append, List.length_reverse, hn]; omega, by rw [vcat_rev]; exact hc, hs⟩]
theorem G_callv {m pc : Nat} {L : VL} {st : List Value} {h : VG} {idx k y p b : Nat} {ars : List Value} {V : VL} (hf : fetch m pc = some (.invokevirtual idx, 3)) (hl : vCal (mcl m) idx = some (k, y, p)) (hk : k = 1 ∨ k = 4) (hd : vDp m y = true) (hn : ars.length = mna y) (hb : vcls h b (vmc y) = true) (hc : 1 + catS ars ≤ mmax y) (hs : catS st ≤ 8) (hV : vEnt (.ref b :: ars) (mmax y) = V) : ev m pc L (ars.reverse ++ .ref b :: st) h = (ev y 0 V [] h).bind fun q => ev m (pc + 3) L (q.1.toList ++ st) q.2 := by
  subst hV
  have h1 : (ars.reverse ++ .ref b :: st).take (mna y) = ars.reverse := by rw [← hn, ← List.length_reverse, List.take_left']; rfl
  have h2 : (ars.reverse ++ .ref b :: st).drop (mna y) = .ref b :: st := by rw [← hn, ← List.length_reverse, List.drop_left']; rfl
  refine ev_call hf rfl ?_
  simp only [vcall, hl]
  rw [h2]
  dsimp only
  rw [h1, List.reverse_reverse, if_pos ⟨hk, hd, by rw [List.length_append, List.length_reverse, hn]; omega, hb, by rw [vcat_rev]; exact hc, hs⟩]
theorem G_calli {m pc : Nat} {L : VL} {st : List Value} {h : VG} {idx k y p b : Nat} {ars : List Value} {V : VL} (hf : fetch m pc = some (.invokespecial idx, 3)) (hl : vCal (mcl m) idx = some (k, y, p)) (hk : k = 2 ∨ k = 5) (hd : vDp m y = true) (hn : ars.length = mna y) (hc : 1 + catS ars ≤ mmax y) (hs : catS st ≤ 8) (hV : vEnt (.ref b :: ars) (mmax y) = V) : ev m pc L (ars.reverse ++ .ref b :: st) h = (ev y 0 V [] h).bind fun q => ev m (pc + 3) L (q.1.toList ++ st) q.2 := by
  subst hV
  have h1 : (ars.reverse ++ .ref b :: st).take (mna y) = ars.reverse := by rw [← hn, ← List.length_reverse, List.take_left']; rfl
  have h2 : (ars.reverse ++ .ref b :: st).drop (mna y) = .ref b :: st := by rw [← hn, ← List.length_reverse, List.drop_left']; rfl
  refine ev_call hf rfl ?_
  simp only [vcall, hl]
  rw [h2]
  dsimp only
  rw [h1, List.reverse_reverse, if_pos ⟨hk, hd, by rw [List.length_append, List.length_reverse, hn]; omega, by rw [vcat_rev]; exact hc, hs⟩]
def rdI (h : VG) (a : Nat) : Prop := arI h a 0 ∨ arI h a 20
def rdB (h : VG) (a : Nat) : Prop := arI h a 2 ∨ arI h a 3 ∨ arI h a 21
def rdR (h : VG) (a : Nat) : Prop := arR h a 5 ∨ arR h a 6 ∨ arR h a 7
theorem G_iald' {m pc : Nat} {L : VL} {st : List Value} {h : VG} {a : Nat} {i : Int32} (hf : fetch m pc = some (.iaload, 1)) (ha : rdI h a) (hi : vp_in i (aln h a)) : ev m pc L (.int i :: .ref a :: st) h = ev m (pc + 1) L (.int (aI h a i.toNatClampNeg) :: st) h := by
  rcases ha with ha | ha
  · exact G_iald hf (Or.inl rfl) ha hi
  · exact G_iald hf (Or.inr rfl) ha hi
theorem G_bald' {m pc : Nat} {L : VL} {st : List Value} {h : VG} {a : Nat} {i : Int32} (hf : fetch m pc = some (.baload, 1)) (ha : rdB h a) (hi : vp_in i (aln h a)) : ev m pc L (.int i :: .ref a :: st) h = ev m (pc + 1) L (.int (aI h a i.toNatClampNeg) :: st) h := by
  rcases ha with ha | ha | ha
  · exact G_bald hf (Or.inl rfl) ha hi
  · exact G_bald hf (Or.inr (Or.inl rfl)) ha hi
  · exact G_bald hf (Or.inr (Or.inr rfl)) ha hi
theorem G_aald' {m pc : Nat} {L : VL} {st : List Value} {h : VG} {a : Nat} {i : Int32} (hf : fetch m pc = some (.aaload, 1)) (ha : rdR h a) (hi : vp_in i (aln h a)) : ev m pc L (.int i :: .ref a :: st) h = ev m (pc + 1) L (va_rf (aR h a i.toNatClampNeg) :: st) h := by
  rcases ha with ha | ha | ha
  · exact G_aald hf (Or.inl rfl) ha hi
  · exact G_aald hf (Or.inr (Or.inl rfl)) ha hi
  · exact G_aald hf (Or.inr (Or.inr rfl)) ha hi
theorem vcls_ob {h : VG} {b ci : Nat} (h12 : ¬ ci = 12) (ho : ob h b ci) : vcls h b ci = true := by
  obtain ⟨fs, h1, -⟩ := ho
  unfold vcls
  rw [if_neg h12, h1]
  simp
theorem vbool {x : Int32} (hx : x = 0 ∨ x = 1) : narrow .boolean (.int x) = .int x ∧ fits .boolean (.int x) = true := by
  rcases hx with rfl | rfl <;> decide
def vjp (pc : Nat) (o : Int) : Nat := ((pc : Int) + o).toNat
noncomputable def vswE (m pc : Nat) (d : Int) (x : Int32) (L : VL) (st : List Value) (h : VG) : Int → List Int → Option VR
  | _, [] => ev m (vjp pc d) L st h
  | lo, o :: os => if x = Int32.ofInt lo then ev m (vjp pc o) L st h else vswE m pc d x L st h (lo + 1) os
theorem vgo_jp {pc : Nat} {o : Int} {L : VL} {st : List Value} {h : VG} (ho : 0 ≤ (pc : Int) + o) : vgo pc o L st h = some (vjp pc o, L, st, h) := by
  unfold vgo vjp
  split
  · rename_i t ht
    rw [ht]
    rfl
  · rename_i t ht
    rw [ht] at ho
    exact absurd ho (by omega)
theorem vsw_E {m pc : Nat} {d : Int} {x : Int32} {L : VL} {st : List Value} {h : VG} (hd : 0 ≤ (pc : Int) + d) : ∀ (os : List Int) (lo : Int), os.all (fun o => decide (0 ≤ (pc : Int) + o)) = true → (match vsw pc d x L st h lo os with | some q => ev m q.1 q.2.1 q.2.2.1 q.2.2.2 | none => none) = vswE m pc d x L st h lo os
  | [], lo, _ => by
    unfold vsw vswE
    rw [vgo_jp hd]
  | o :: os, lo, ha => by
    rw [List.all_cons, Bool.and_eq_true] at ha
    unfold vsw vswE
    by_cases hx : x = Int32.ofInt lo
    · rw [if_pos hx, if_pos hx, vgo_jp (of_decide_eq_true ha.1)]
    · rw [if_neg hx, if_neg hx]
      exact vsw_E hd os (lo + 1) ha.2
theorem G_tsw {m pc : Nat} {L : VL} {st : List Value} {h : VG} {d lo hi : Int} {offs : Array Int} {x : Int32} {len : Nat} (hf : fetch m pc = some (.tableswitch d lo hi offs, len)) (hb : lo + offs.size = hi + 1 ∧ -2147483648 ≤ lo ∧ hi ≤ 2147483647) (hd : 0 ≤ (pc : Int) + d) (ho : offs.toList.all (fun o => decide (0 ≤ (pc : Int) + o)) = true) : ev m pc L (.int x :: st) h = vswE m pc d x L st h lo offs.toList := ev_stp hf rfl rfl (by simp only [stp]; rw [if_pos hb]; exact vsw_E hd _ _ ho)
noncomputable def vlkE (m pc : Nat) (d : Int) (x : Int32) (L : VL) (st : List Value) (h : VG) : List (Int × Int) → Option VR
  | [] => ev m (vjp pc d) L st h
  | q :: ps => if x = Int32.ofInt q.1 then ev m (vjp pc q.2) L st h else vlkE m pc d x L st h ps
theorem vlk_E {m pc : Nat} {d : Int} {x : Int32} {L : VL} {st : List Value} {h : VG} (hd : 0 ≤ (pc : Int) + d) : ∀ (ps : List (Int × Int)), ps.all (fun q => decide (0 ≤ (pc : Int) + q.2)) = true → (match vlk pc d x L st h ps with | some q => ev m q.1 q.2.1 q.2.2.1 q.2.2.2 | none => none) = vlkE m pc d x L st h ps
  | [], _ => by
    unfold vlk vlkE
    rw [vgo_jp hd]
  | q :: ps, ha => by
    rw [List.all_cons, Bool.and_eq_true] at ha
    unfold vlk vlkE
    by_cases hx : x = Int32.ofInt q.1
    · rw [if_pos hx, if_pos hx, vgo_jp (of_decide_eq_true ha.1)]
    · rw [if_neg hx, if_neg hx]
      exact vlk_E hd ps ha.2
theorem G_lsw {m pc : Nat} {L : VL} {st : List Value} {h : VG} {d : Int} {ps : Array (Int × Int)} {x : Int32} {len : Nat} (hf : fetch m pc = some (.lookupswitch d ps, len)) (hb : (ps.toList.zip (ps.toList.drop 1)).all (fun (a, next) => a.1 < next.1) = true ∧ ps.toList.all (fun q => decide (-2147483648 ≤ q.1 ∧ q.1 ≤ 2147483647)) = true) (hd : 0 ≤ (pc : Int) + d) (ho : ps.toList.all (fun q => decide (0 ≤ (pc : Int) + q.2)) = true) : ev m pc L (.int x :: st) h = vlkE m pc d x L st h ps.toList := ev_stp hf rfl rfl (by simp only [stp]; rw [if_pos hb]; exact vlk_E hd _ ho)
