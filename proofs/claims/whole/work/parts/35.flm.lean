/-! doubles of few digits, doubled and halved -/
def vD (c : Nat) (q : Int) : UInt64 := FP.Core.of64 (FP.Core.roundRatio FP.Core.b64 false c 1 q)
def vInf : UInt64 := 9218868437227405312
def vTwo : UInt64 := 4611686018427387904
theorem nn64 {a : UInt64} (h : FP.Core.val64 a ≠ .nan) : vf_n64 a := by
  have h1 := (FP.Core.notNaN_iff a).mpr h
  have h2 : ¬ 9218868437227405312 < a.toNat % 2 ^ 63 := by
    intro z
    have := (FP.Core.isNaN_bits a).mpr z
    rw [h1] at this
    cases this
  show a &&& 0x7fffffffffffffff ≤ 0x7ff0000000000000
  rw [UInt64.le_iff_toNat_le, UInt64.toNat_and]
  show a.toNat &&& (2 ^ 63 - 1) ≤ 9218868437227405312
  rw [Nat.and_two_pow_sub_one_eq_mod]
  omega
theorem vD_val {c : Nat} {q : Int} (h0 : 0 < c) (h1 : c < 9007199254740992) (h2 : -1074 ≤ q) (h3 : q ≤ 971) : ∃ k : Nat, k ≤ 52 ∧ FP.Core.val64 (vD c q) = .fin false (c * 2 ^ k) (q - k) := by
  obtain ⟨k, k1, k2, k3, k4, k5, k6⟩ := canon h0 h1 h2 h3
  refine ⟨k, k1, ?_⟩
  unfold vD
  rw [k6 false]
  exact FP.Core.val64_of64 (k5 false)
theorem vD_nn {c : Nat} {q : Int} (h0 : 0 < c) (h1 : c < 9007199254740992) (h2 : -1074 ≤ q) (h3 : q ≤ 971) : FP.Core.val64 (vD c q) ≠ .nan := by
  obtain ⟨k, k1, k2⟩ := vD_val h0 h1 h2 h3
  rw [k2]
  intro z
  cases z
theorem vTwo_val : FP.Core.val64 vTwo = .fin false (2 ^ 52) (-51) := by decide +kernel
theorem vD_mul {c : Nat} {q : Int} (h0 : 0 < c) (h1 : c < 9007199254740992) (h2 : -1074 ≤ q) (h3 : q ≤ 971) : FP.dmul (vD c q) vTwo = vD c (q + 1) := by
  obtain ⟨k, k1, k2⟩ := vD_val h0 h1 h2 h3
  show FP.Core.of64 (FP.Core.round FP.Core.b64 (FP.Core.exactProduct (FP.Core.val64 (vD c q)) (FP.Core.val64 vTwo))) = _
  rw [k2, vTwo_val]
  show FP.Core.of64 (FP.Core.roundRatio FP.Core.b64 false (c * 2 ^ k * 2 ^ 52) 1 (q - k + -51)) = _
  unfold vD
  congr 1
  refine FP.Core.roundRatio_congr (by decide) (by decide) ?_
  rw [show (q - (k : Int) + -51 - (q + 1)).toNat = 0 by omega, show (q + 1 - (q - (k : Int) + -51)).toNat = k + 52 by omega, Nat.pow_zero, Nat.mul_one, Nat.mul_one, Nat.mul_one, Nat.mul_assoc, ← Nat.pow_add]
theorem vD_div {c : Nat} {q : Int} (h0 : 0 < c) (h1 : c < 9007199254740992) (h2 : -1074 ≤ q) (h3 : q ≤ 971) : FP.ddiv (vD c q) vTwo = vD c (q - 1) := by
  obtain ⟨k, k1, k2⟩ := vD_val h0 h1 h2 h3
  show FP.Core.of64 (FP.Core.quotient FP.Core.b64 (FP.Core.val64 (vD c q)) (FP.Core.val64 vTwo)) = _
  rw [k2, vTwo_val]
  show FP.Core.of64 (FP.Core.roundRatio FP.Core.b64 false (c * 2 ^ k) (2 ^ 52) (q - k - -51)) = _
  unfold vD
  congr 1
  refine FP.Core.roundRatio_congr (by decide) (by decide) ?_
  rw [show (q - (k : Int) - -51 - (q - 1)).toNat = 52 - k by omega, show (q - 1 - (q - (k : Int) - -51)).toNat = 0 by omega, Nat.pow_zero, Nat.mul_one, Nat.mul_one, Nat.mul_assoc, ← Nat.pow_add, show k + (52 - k) = 52 by omega]
theorem vD_int (x : Int64) (hx : uN x < 9223372036854775808) : FP.l2d x = vD (uN x) 0 := by
  have h : x.toInt = (uN x : Int) := by rw [uN_toInt, if_pos hx]
  show FP.Core.of64 (FP.Core.round FP.Core.b64 (FP.Core.ofInt x.toInt)) = _
  rw [h]
  unfold FP.Core.ofInt
  rw [decide_eq_false (by omega), Int.natAbs_natCast]
  rfl
theorem vD_cut (x : Int64) (hx : uN x < 9007199254740992) : FP.d2l (vD (uN x) 0) = x := by
  rw [← vD_int x (by omega)]
  have h : x.toInt = (uN x : Int) := by rw [uN_toInt, if_pos (by omega)]
  exact FP.Core.d2l_l2d_small ⟨by rw [h]; omega, by rw [h]; omega⟩
theorem vD_n {c : Nat} {q : Int} (h0 : 0 < c) (h1 : c < 9007199254740992) (h2 : -1074 ≤ q) (h3 : q ≤ 971) : ∃ k : Nat, k ≤ 52 - c.log2 ∧ (k : Int) ≤ q + 1074 ∧ (k = 52 - c.log2 ∨ (k : Int) = q + 1074) ∧ c * 2 ^ k < 9007199254740992 ∧ (k = 52 - c.log2 → 4503599627370496 ≤ c * 2 ^ k) ∧ (k < 52 - c.log2 → c * 2 ^ k < 4503599627370496) ∧ (vD c q).toNat = if c * 2 ^ k < 4503599627370496 then c * 2 ^ k else (q - k + 1074).toNat * 4503599627370496 + c * 2 ^ k := by
  obtain ⟨k, k1, k2, k3, k4, k5, k6⟩ := canon h0 h1 h2 h3
  have hl : c.log2 < 53 := (Nat.log2_lt (by omega)).mpr h1
  have l1 : 2 ^ c.log2 ≤ c := Nat.log2_self_le (by omega)
  have l2 : c < 2 ^ (c.log2 + 1) := Nat.lt_log2_self
  have hp := Nat.two_pow_pos k
  have b := k5 false
  refine ⟨k, k2, k3, k4, b.1, ?_, ?_, ?_⟩
  · intro hk
    have a1 := Nat.mul_le_mul_right (2 ^ k) l1
    rw [← Nat.pow_add, show c.log2 + k = 52 by omega] at a1
    exact a1
  · intro hk
    have a1 := Nat.mul_lt_mul_of_pos_right l2 hp
    rw [← Nat.pow_add] at a1
    have a2 : 2 ^ (c.log2 + 1 + k) ≤ 2 ^ 52 := Nat.pow_le_pow_right (by decide) (by omega)
    omega
  · unfold vD
    rw [k6 false]
    show (UInt64.ofNat (FP.Core.encode FP.Core.b64 (.fin false (c * 2 ^ k) (q - k)))).toNat = _
    rw [UInt64.toNat_ofNat', enc64 false _ _ b]
    have b1 : c * 2 ^ k < 9007199254740992 := b.1
    have b2 : q - k ≤ 971 := b.2.2.1
    show (0 * 9223372036854775808 + _) % _ = _
    split <;> omega
/-- whether it is at least a power of two -/
theorem vD_ge {c m : Nat} {q : Int} (h0 : 0 < c) (h1 : c < 9007199254740992) (h2 : -1074 ≤ q) (h3 : q ≤ 971) : (1023 + m) * 4503599627370496 ≤ (vD c q).toNat ↔ (m : Int) ≤ q + c.log2 := by
  obtain ⟨k, k1, k2, k3, k4, k5, k6, k7⟩ := vD_n h0 h1 h2 h3
  have hl : c.log2 < 53 := (Nat.log2_lt (by omega)).mpr h1
  rw [k7]
  by_cases hk : k = 52 - c.log2
  · have a1 := k5 hk
    rw [if_neg (by omega)]
    generalize c * 2 ^ k = C at a1 k4
    clear k5 k6 k7
    generalize hw : (q - (k : Int) + 1074).toNat = w
    constructor
    · intro z
      have z2 : 1022 + m ≤ w := by
        rcases Nat.lt_or_ge w (1022 + m) with z3 | z3
        · have z4 := Nat.mul_le_mul_right 4503599627370496 (show w + 1 ≤ 1022 + m by omega)
          omega
        · exact z3
      clear z a1 k4
      omega
    · intro z
      have a2 : 1022 + m ≤ w := by omega
      have a3 := Nat.mul_le_mul_right 4503599627370496 a2
      rw [show 1023 + m = (1022 + m) + 1 by omega, Nat.succ_mul]
      exact Nat.add_le_add a3 a1
  · have a1 := k6 (by omega)
    rw [if_pos a1]
    constructor
    · intro z
      omega
    · intro z
      omega
theorem vD_lt63 {c : Nat} {q : Int} (h0 : 0 < c) (h1 : c < 9007199254740992) (h2 : -1074 ≤ q) (h3 : q ≤ 971) : 0 < (vD c q).toNat ∧ (vD c q).toNat < 9218868437227405312 := by
  obtain ⟨k, k1, k2, k3, k4, k5, k6, k7⟩ := vD_n h0 h1 h2 h3
  have hp := Nat.two_pow_pos k
  have hc : 0 < c * 2 ^ k := Nat.mul_pos h0 hp
  rw [k7]
  split <;> omega
/-! signs -/
def sgD (s : Bool) (a : UInt64) : UInt64 := if s then FP.dneg a else a
theorem xor63 {n : Nat} (hn : n < 9223372036854775808) : n ^^^ 9223372036854775808 = n + 9223372036854775808 := by
  have h1 : n ^^^ 9223372036854775808 = 9223372036854775808 + n := by
    apply Nat.eq_of_testBit_eq
    intro i
    rw [Nat.testBit_xor, show (9223372036854775808 : Nat) = 2 ^ 63 from rfl, Nat.testBit_two_pow]
    rcases Nat.lt_trichotomy i 63 with z | z | z
    · rw [Nat.testBit_two_pow_add_gt (by omega), decide_eq_false (by omega), Bool.xor_false]
    · subst z
      rw [Nat.testBit_two_pow_add_eq, decide_eq_true rfl, Bool.xor_true]
    · have e1 : n.testBit i = false := Nat.testBit_lt_two_pow (Nat.lt_of_lt_of_le hn (show 2 ^ 63 ≤ 2 ^ i from Nat.pow_le_pow_right (by decide) (by omega)))
      have e2 : (2 ^ 63 + n).testBit i = false := Nat.testBit_lt_two_pow (Nat.lt_of_lt_of_le (show 2 ^ 63 + n < 2 ^ 64 by omega) (Nat.pow_le_pow_right (by decide) (by omega)))
      rw [e1, e2, decide_eq_false (by omega)]
      rfl
  omega
theorem dneg_n {a : UInt64} (ha : a.toNat < 9223372036854775808) : (FP.dneg a).toNat = a.toNat + 9223372036854775808 := by
  unfold FP.dneg
  rw [UInt64.toNat_xor]
  exact xor63 ha
theorem sgD_n (s : Bool) {a : UInt64} (ha : a.toNat < 9223372036854775808) : (sgD s a).toNat = s.toNat * 9223372036854775808 + a.toNat := by
  cases s
  · show a.toNat = 0 * _ + _
    omega
  · show (FP.dneg a).toNat = 1 * _ + _
    rw [dneg_n ha]
    omega
/-- the number without its sign, of so many bits behind the point (b), out of its power e and part t -/
def mvD (b most mid e t : Nat) : UInt64 := if e = most then vInf else if e = 0 then (if t = 0 then 0 else vD t (1 - (mid : Int))) else vD (t + 2 ^ b) ((e : Int) - mid)
theorem mv32 {e t : Nat} (he : e ≤ 255) (ht : t < 8388608) (h : e = 255 → t = 0) : (mvD 23 255 150 e t).toNat = fdN 0 e t := by
  unfold mvD fdN
  by_cases q1 : e = 255
  · rw [if_pos q1, if_pos q1, h q1]
    rfl
  · rw [if_neg q1, if_neg q1]
    by_cases q2 : e = 0
    · rw [if_pos q2, if_pos q2]
      by_cases q3 : t = 0
      · rw [if_pos q3, if_pos q3]
        rfl
      · rw [if_neg q3, if_neg q3]
        have hl : t.log2 < 23 := (Nat.log2_lt q3).mpr ht
        obtain ⟨k, k1, k2, k3, k4, k5, k6, k7⟩ := vD_n (c := t) (q := 1 - ((150 : Nat) : Int)) (by omega) (by omega) (by omega) (by omega)
        have hk : k = 52 - t.log2 := by omega
        have b1 := k5 hk
        rw [k7, if_neg (by omega), ← hk, show (1 - ((150 : Nat) : Int) - k + 1074).toNat = t.log2 + 873 by omega]
        omega
    · rw [if_neg q2, if_neg q2]
      have hl : (t + 2 ^ 23).log2 = 23 := by
        rw [Nat.log2_eq_iff (by omega)]
        omega
      obtain ⟨k, k1, k2, k3, k4, k5, k6, k7⟩ := vD_n (c := t + 2 ^ 23) (q := (e : Int) - ((150 : Nat) : Int)) (by omega) (by omega) (by omega) (by omega)
      have hk : k = 29 := by omega
      subst hk
      rw [k7, if_neg (by omega), show ((e : Int) - ((150 : Nat) : Int) - ((29 : Nat) : Int) + 1074).toNat = e + 895 by omega]
      omega
theorem mv64 {e t : Nat} (he : e ≤ 2047) (ht : t < 4503599627370496) (h : e = 2047 → t = 0) : (mvD 52 2047 1075 e t).toNat = e * 4503599627370496 + t := by
  unfold mvD
  by_cases q1 : e = 2047
  · rw [if_pos q1, h q1, q1]
    rfl
  · rw [if_neg q1]
    by_cases q2 : e = 0
    · rw [if_pos q2, q2]
      by_cases q3 : t = 0
      · rw [if_pos q3, q3]
        rfl
      · rw [if_neg q3]
        obtain ⟨k, k1, k2, k3, k4, k5, k6, k7⟩ := vD_n (c := t) (q := 1 - ((1075 : Nat) : Int)) (by omega) (by omega) (by omega) (by omega)
        have hk : k = 0 := by omega
        subst hk
        rw [k7, if_pos (by omega)]
        omega
    · rw [if_neg q2]
      have hl : (t + 2 ^ 52).log2 = 52 := by
        rw [Nat.log2_eq_iff (by omega)]
        omega
      obtain ⟨k, k1, k2, k3, k4, k5, k6, k7⟩ := vD_n (c := t + 2 ^ 52) (q := (e : Int) - ((1075 : Nat) : Int)) (by omega) (by omega) (by omega) (by omega)
      have hk : k = 0 := by omega
      subst hk
      rw [k7, if_neg (by omega), show ((e : Int) - ((1075 : Nat) : Int) - ((0 : Nat) : Int) + 1074).toNat = e - 1 by omega]
      omega
theorem dof_mv {x : Int64} (hx : fOk x) : (kDof x).toUInt64 = sgD (decide (2147483648 ≤ uN x)) (mvD 23 255 150 (uN x / 8388608 % 256) (uN x % 8388608)) := by
  obtain ⟨h1, h2⟩ := fOk_n hx
  have hm := mv32 (e := uN x / 8388608 % 256) (t := uN x % 8388608) (by omega) (by omega) (by omega)
  have hb : fdN 0 (uN x / 8388608 % 256) (uN x % 8388608) < 9223372036854775808 := by
    have h3 := dOk_n.mp (dof_dOk hx)
    rw [dof_n h1] at h3
    unfold fdN at h3 ⊢
    by_cases z : uN x / 8388608 % 256 = 255
    · rw [if_pos z]
      omega
    · rw [if_neg z]
      by_cases z2 : uN x / 8388608 % 256 = 0
      · rw [if_pos z2]
        by_cases z3 : uN x % 8388608 = 0
        · rw [if_pos z3]
          exact Nat.lt_of_lt_of_le (show 0 * 9223372036854775808 + 0 < 1 by decide) (by decide)
        · rw [if_neg z3]
          have hl : (uN x % 8388608).log2 < 23 := (Nat.log2_lt z3).mpr (by omega)
          have ht := tiny_n (f := x &&& 8388607) (by rw [uN_frac]; omega) (by rw [uN_frac]; omega)
          rw [uN_frac] at ht
          obtain ⟨-, t2, -⟩ := ht
          clear h3
          have t4 := Nat.mul_le_mul_right 4503599627370496 (show (uN x % 8388608).log2 + 873 ≤ 896 by omega)
          rw [Nat.zero_mul, Nat.zero_add]
          exact Nat.lt_of_le_of_lt (Nat.add_le_add t4 (Nat.le_of_lt t2)) (by decide)
      · rw [if_neg z2]
        omega
  apply UInt64.toNat_inj.mp
  rw [sgD_n _ (by rw [hm]; exact hb), hm]
  show uN (kDof x) = _
  rw [dof_n h1]
  unfold fdN
  have : uN x / 2147483648 = (decide (2147483648 ≤ uN x)).toNat := by
    by_cases z : 2147483648 ≤ uN x
    · rw [decide_eq_true z]
      show _ = 1
      omega
    · rw [decide_eq_false z]
      show _ = 0
      omega
  rw [this]
  omega
theorem dbl_mv {x : Int64} (hx : dOk x) : x.toUInt64 = sgD (decide (9223372036854775808 ≤ uN x)) (mvD 52 2047 1075 (uN x / 4503599627370496 % 2048) (uN x % 4503599627370496)) := by
  have h1 := uN_lt x
  have h2 := dOk_n.mp hx
  have hm := mv64 (e := uN x / 4503599627370496 % 2048) (t := uN x % 4503599627370496) (by omega) (by omega) (by omega)
  apply UInt64.toNat_inj.mp
  rw [sgD_n _ (by rw [hm]; omega), hm]
  show uN x = _
  by_cases z : 9223372036854775808 ≤ uN x
  · rw [decide_eq_true z]
    show _ = 1 * _ + _
    omega
  · rw [decide_eq_false z]
    show _ = 0 * _ + _
    omega
