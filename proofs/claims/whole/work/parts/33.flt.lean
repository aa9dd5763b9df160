/-! floating numbers: the class's words for them, over the natural numbers -/
def uN (x : Int64) : Nat := x.toBitVec.toNat
theorem uN_lt (x : Int64) : uN x < 18446744073709551616 := x.toBitVec.isLt
theorem uN_inj {x y : Int64} (h : uN x = uN y) : x = y := Int64.toBitVec_inj.mp (BitVec.eq_of_toNat_eq h)
theorem sh64 : ∀ k : Fin 64, ((((nI k.val).toInt64 &&& 63).toBitVec).smod 64).toNat = k.val := by decide +kernel
theorem sh64u : ∀ k : Fin 64, (((nI k.val).toInt64.toUInt64 &&& Int64.toUInt64 63).toBitVec % 64).toNat = k.val := by decide +kernel
theorem sl_g (x : Int64) (y : Int32) (k : Nat) (hs : (((y.toInt64 &&& 63).toBitVec).smod 64).toNat = k) : uN (sl x y) = uN x * 2 ^ k % 18446744073709551616 := by
  show (x.toBitVec <<< (((y.toInt64 &&& 63).toBitVec).smod 64).toNat).toNat = _
  rw [hs, BitVec.toNat_shiftLeft, Nat.shiftLeft_eq]
  rfl
theorem ur_g (x : Int64) (y : Int32) (k : Nat) (hs : ((y.toInt64.toUInt64 &&& Int64.toUInt64 63).toBitVec % 64).toNat = k) : uN (ur x y) = uN x / 2 ^ k := by
  have e : (ur x y).toBitVec = x.toBitVec >>> k := by
    rw [← hs]
    exact UInt64.toBitVec_shiftRight _ _
  unfold uN
  rw [e, BitVec.toNat_ushiftRight, Nat.shiftRight_eq_div_pow]
theorem uN_sl (x : Int64) {k : Nat} (hk : k < 64) : uN (sl x (nI k)) = uN x * 2 ^ k % 18446744073709551616 := sl_g x _ k (sh64 ⟨k, hk⟩)
theorem uN_ur (x : Int64) {k : Nat} (hk : k < 64) : uN (ur x (nI k)) = uN x / 2 ^ k := ur_g x _ k (sh64u ⟨k, hk⟩)
theorem uN_and (x y : Int64) : uN (x &&& y) = uN x &&& uN y := by
  unfold uN
  rw [Int64.toBitVec_and, BitVec.toNat_and]
theorem uN_mask (x m : Int64) {k : Nat} (hm : uN m = 2 ^ k - 1) : uN (x &&& m) = uN x % 2 ^ k := by
  rw [uN_and, hm, Nat.and_two_pow_sub_one_eq_mod]
theorem uN_or (x y : Int64) : uN (x ||| y) = uN x ||| uN y := by
  unfold uN
  rw [Int64.toBitVec_or, BitVec.toNat_or]
theorem or_add {a b k : Nat} (ha : a % 2 ^ k = 0) (hb : b < 2 ^ k) : a ||| b = a + b := by
  have e : a = 2 ^ k * (a / 2 ^ k) := by
    have := Nat.div_add_mod a (2 ^ k)
    omega
  rw [e]
  exact (Nat.two_pow_add_eq_or_of_lt hb _).symm
theorem uN_orA (x y : Int64) {k : Nat} (ha : uN x % 2 ^ k = 0) (hb : uN y < 2 ^ k) : uN (x ||| y) = uN x + uN y := by
  rw [uN_or, or_add ha hb]
theorem uN_add (x y : Int64) : uN (x + y) = (uN x + uN y) % 18446744073709551616 := by
  unfold uN
  rw [Int64.toBitVec_add, BitVec.toNat_add]
theorem uN_sub (x y : Int64) : uN (x - y) = (18446744073709551616 - uN y + uN x) % 18446744073709551616 := by
  unfold uN
  rw [Int64.toBitVec_sub, BitVec.toNat_sub]
theorem uN_neg (x : Int64) : uN (-x) = (18446744073709551616 - uN x) % 18446744073709551616 := by
  unfold uN
  rw [Int64.toBitVec_neg, BitVec.toNat_neg]
theorem uN_toInt (x : Int64) : x.toInt = if uN x < 9223372036854775808 then (uN x : Int) else (uN x : Int) - 18446744073709551616 := by
  have h := BitVec.toInt_eq_toNat_cond x.toBitVec
  have h2 := uN_lt x
  show x.toBitVec.toInt = _
  rw [h]
  show (if 2 * uN x < 18446744073709551616 then ((uN x : Nat) : Int) else ((uN x : Nat) : Int) - ((18446744073709551616 : Nat) : Int)) = _
  by_cases h3 : uN x < 9223372036854775808
  · rw [if_pos h3, if_pos (by omega)]
  · rw [if_neg h3, if_neg (by omega)]
    rfl
theorem uN_neg_iff (x : Int64) : x < 0 ↔ 9223372036854775808 ≤ uN x := by
  rw [Int64.lt_iff_toInt_lt, uN_toInt, show (0 : Int64).toInt = 0 from rfl]
  have h2 := uN_lt x
  split <;> omega
theorem uN_lt_iff {x y : Int64} (hx : uN x < 9223372036854775808) (hy : uN y < 9223372036854775808) : x < y ↔ uN x < uN y := by
  rw [Int64.lt_iff_toInt_lt, uN_toInt, uN_toInt, if_pos hx, if_pos hy]
  omega
theorem uN_le_iff {x y : Int64} (hx : uN x < 9223372036854775808) (hy : uN y < 9223372036854775808) : x ≤ y ↔ uN x ≤ uN y := by
  rw [Int64.le_iff_toInt_le, uN_toInt, uN_toInt, if_pos hx, if_pos hy]
  omega
theorem uN_eq_iff (x y : Int64) : x = y ↔ uN x = uN y := ⟨fun z => by rw [z], uN_inj⟩
theorem uN_nI {n : Nat} (h : n < 2147483648) : uN (nI n).toInt64 = n := by
  have h1 : (nI n).toInt64.toInt = (n : Int) := by rw [Int32.toInt_toInt64, nI_toInt h]
  rw [uN_toInt] at h1
  have h2 := uN_lt (nI n).toInt64
  split at h1 <;> omega
theorem i32_low (x : Int64) : x.toInt32.toBitVec.toNat = uN x % 4294967296 := by
  show (x.toBitVec.signExtend 32).toNat = _
  have h := BitVec.signExtend_eq_setWidth_of_le x.toBitVec (v := 32) (by decide)
  rw [h, BitVec.toNat_setWidth]
  rfl
theorem i32_mask (x : Int64) {m : Int32} (k : Nat) (hk : k ≤ 32) (hm : m.toBitVec.toNat = 2 ^ k - 1) : x.toInt32 &&& m = nI (uN x % 2 ^ k) := by
  rw [pk_and _ k hm, i32_low]
  congr 1
  rw [show (4294967296 : Nat) = 2 ^ 32 from rfl]
  exact Nat.mod_mod_of_dvd _ (Nat.pow_dvd_pow 2 hk)
/-! the nearest number, by the class -/
def kAbs (v : Int64) : Int64 := if v < 0 then -v else v
def kTop (v : Int64) : Int32 := 63 - vNlz v
def kRnd (s : Int64) (l : Int32) : Int64 := if sl 1 (l - 1) < s &&& (sl 1 l - 1) then ur s l + 1 else if s &&& (sl 1 l - 1) = sl 1 (l - 1) then (if ur s l &&& 1 = 1 then ur s l + 1 else ur s l) else ur s l
def kNea (v : Int64) (f b : Int32) : Int64 := if v = 0 then 0 else sl (kTop (kAbs v) + b).toInt64 f + (if kTop (kAbs v) - f ≤ 0 then sl (kAbs v) (-(kTop (kAbs v) - f)) else kRnd (kAbs v) (kTop (kAbs v) - f)) - sl 1 f
def kFlt (v : Int64) : Int64 := (if v < 0 then 2147483648 else 0) ||| kNea v 23 127
def kDbl (v : Int64) : Int64 := (if v < 0 then -9223372036854775808 else 0) ||| kNea v 52 1023
theorem uN_1 : uN 1 = 1 := by decide
theorem pow63 {k : Nat} (hk : k ≤ 63) : 2 ^ k ≤ 9223372036854775808 := by
  have := Nat.pow_le_pow_right (n := 2) (by decide) hk
  exact this
theorem pow62 {k : Nat} (hk : k ≤ 62) : 2 ^ k ≤ 4611686018427387904 := by
  have := Nat.pow_le_pow_right (n := 2) (by decide) hk
  exact this
theorem uN_sl1 {k : Nat} (hk : k ≤ 63) : uN (sl 1 (nI k)) = 2 ^ k := by
  have := pow63 hk
  rw [uN_sl _ (by omega), uN_1, Nat.one_mul]
  exact Nat.mod_eq_of_lt (by omega)
theorem uN_msk {k : Nat} (hk : k ≤ 63) : uN (sl 1 (nI k) - 1) = 2 ^ k - 1 := by
  have h1 := pow63 hk
  have h2 := Nat.two_pow_pos k
  rw [uN_sub, uN_sl1 hk, uN_1]
  omega
theorem pow_half {l : Nat} (h1 : 1 ≤ l) : 2 ^ l = 2 * 2 ^ (l - 1) := by
  obtain ⟨k, rfl⟩ : ∃ k, l = k + 1 := ⟨l - 1, by omega⟩
  rw [Nat.pow_succ]
  show _ = 2 * 2 ^ k
  omega
theorem uN_rnd (s : Int64) {l : Nat} (h1 : 1 ≤ l) (h2 : l ≤ 62) : uN (kRnd s (nI l)) = FP.Core.nearest (uN s) (2 ^ l) := by
  have hp := pow_half h1
  have hq := pow62 h2
  have e1 : nI l - 1 = nI (l - 1) := by rw [show (1 : Int32) = nI 1 from rfl, pk_sub h1]
  have hh : uN (sl 1 (nI (l - 1))) = 2 ^ (l - 1) := uN_sl1 (by omega)
  have hr : uN (s &&& (sl 1 (nI l) - 1)) = uN s % 2 ^ l := uN_mask _ _ (uN_msk (by omega))
  have hk : uN (ur s (nI l)) = uN s / 2 ^ l := uN_ur s (by omega)
  have hlt := uN_lt s
  have hp0 := Nat.two_pow_pos (l - 1)
  have hm := Nat.mod_lt (uN s) (Nat.two_pow_pos l)
  have hd : uN s / 2 ^ l < 9223372036854775809 := by
    have : uN s / 2 ^ l ≤ uN s / 2 := Nat.div_le_div_left (by omega) (by decide)
    omega
  have hk1 : uN (ur s (nI l) + 1) = uN s / 2 ^ l + 1 := by
    rw [uN_add, hk, uN_1]
    omega
  have hodd : ur s (nI l) &&& 1 = 1 ↔ uN s / 2 ^ l % 2 = 1 := by
    rw [uN_eq_iff, uN_mask _ _ (k := 1) (by decide), hk, uN_1]
  unfold kRnd FP.Core.nearest
  rw [e1]
  have c1 : sl 1 (nI (l - 1)) < s &&& (sl 1 (nI l) - 1) ↔ 2 ^ l < 2 * (uN s % 2 ^ l) := by
    rw [uN_lt_iff (by omega) (by omega), hh, hr]
    omega
  have c2 : s &&& (sl 1 (nI l) - 1) = sl 1 (nI (l - 1)) ↔ 2 ^ l = 2 * (uN s % 2 ^ l) := by
    rw [uN_eq_iff, hh, hr]
    omega
  by_cases q1 : 2 ^ l < 2 * (uN s % 2 ^ l)
  · rw [if_pos (c1.mpr q1), hk1, if_neg (by omega), if_pos q1]
  · rw [if_neg (fun z => q1 (c1.mp z))]
    by_cases q2 : 2 ^ l = 2 * (uN s % 2 ^ l)
    · have q0 : ¬ 2 * (uN s % 2 ^ l) < 2 ^ l := by omega
      rw [if_pos (c2.mpr q2)]
      by_cases q3 : uN s / 2 ^ l % 2 = 1
      · rw [if_pos (hodd.mpr q3), hk1, if_neg q0, if_neg q1, q3]
      · rw [if_neg (fun z => q3 (hodd.mp z)), hk, if_neg q0, if_neg q1]
        omega
    · rw [if_neg (fun z => q2 (c2.mp z)), hk, if_pos (by omega)]
theorem uN_abs (v : Int64) : uN (kAbs v) = v.toInt.natAbs := by
  unfold kAbs
  have h1 := uN_lt v
  rw [uN_toInt]
  by_cases h0 : v < 0
  · have h2 := (uN_neg_iff v).mp h0
    rw [if_pos h0, uN_neg, if_neg (by omega)]
    omega
  · have h2 : ¬ 9223372036854775808 ≤ uN v := fun z => h0 ((uN_neg_iff v).mpr z)
    rw [if_neg h0, if_pos (by omega)]
    omega
theorem log2_63 {n : Nat} (h : n < 18446744073709551616) : n.log2 ≤ 63 := by
  by_cases h0 : n = 0
  · subst h0
    decide
  · have := (Nat.log2_lt h0 (k := 64)).mpr h
    omega
theorem top_nI {v : Int64} (h0 : ¬ uN v = 0) : kTop v = nI (uN v).log2 := by
  have h1 := log2_63 (uN_lt v)
  unfold kTop vNlz
  rw [show v.toUInt64.toNat = uN v from rfl, if_neg h0, show (63 : Int32) = nI 63 from rfl, pk_sub (by omega)]
  congr 1
  omega
/-- how many units of the last place -/
def uKep (n p : Nat) : Nat := if n.log2 ≤ p then n * 2 ^ (p - n.log2) else FP.Core.nearest n (2 ^ (n.log2 - p))
theorem uKep_le {n p : Nat} (hn : 0 < n) : 2 ^ p ≤ uKep n p ∧ uKep n p ≤ 2 * 2 ^ p := by
  have h1 : 2 ^ n.log2 ≤ n := Nat.log2_self_le (by omega)
  have h2 : n < 2 ^ (n.log2 + 1) := Nat.lt_log2_self
  unfold uKep
  split
  · rename_i hc
    have e : 2 ^ p = 2 ^ n.log2 * 2 ^ (p - n.log2) := by rw [← Nat.pow_add]; congr 1; omega
    rw [Nat.pow_succ] at h2
    constructor
    · rw [e]
      exact Nat.mul_le_mul_right _ h1
    · rw [e, ← Nat.mul_assoc]
      exact Nat.mul_le_mul_right _ (by omega)
  · rename_i hc
    have e : 2 ^ n.log2 = 2 ^ p * 2 ^ (n.log2 - p) := by rw [← Nat.pow_add]; congr 1; omega
    have hp := Nat.two_pow_pos (n.log2 - p)
    constructor
    · exact FP.Core.nearest_ge hp (by rw [← e]; exact h1)
    · refine FP.Core.nearest_le hp ?_
      rw [Nat.mul_assoc, ← e]
      rw [Nat.pow_succ] at h2
      omega
theorem uN_nea (v : Int64) {p b : Nat} (hv : ¬ v = 0) (hp1 : 1 ≤ p) (hp : p ≤ 52) (hb1 : 1 ≤ b) (hb : b ≤ 1023) : uN (kNea v (nI p) (nI b)) = ((uN (kAbs v)).log2 + b - 1) * 2 ^ p + uKep (uN (kAbs v)) p := by
  have hn0 : ¬ uN (kAbs v) = 0 := by
    rw [uN_abs]
    intro z
    apply hv
    apply Int64.toInt_inj.mp
    rw [show (0 : Int64).toInt = 0 from rfl]
    omega
  have ht := log2_63 (uN_lt (kAbs v))
  have hk := uKep_le (n := uN (kAbs v)) (p := p) (by omega)
  have hpp := Nat.pow_le_pow_right (n := 2) (by decide) hp
  have hpp2 : (2 : Nat) ^ 52 = 4503599627370496 := by decide
  have hp0 := Nat.two_pow_pos p
  unfold kNea
  rw [if_neg hv, top_nI hn0]
  generalize hn : uN (kAbs v) = n at *
  have a1 : uN (sl (nI n.log2 + nI b).toInt64 (nI p)) = (n.log2 + b) * 2 ^ p := by
    rw [uN_sl _ (by omega), nI_add, uN_nI (by omega)]
    refine Nat.mod_eq_of_lt ?_
    calc (n.log2 + b) * 2 ^ p ≤ 1086 * 2 ^ 52 := Nat.mul_le_mul (by omega) hpp
      _ < 18446744073709551616 := by decide
  have a2 : uN (if nI n.log2 - nI p ≤ 0 then sl (kAbs v) (-(nI n.log2 - nI p)) else kRnd (kAbs v) (nI n.log2 - nI p)) = uKep n p := by
    unfold uKep
    by_cases hc : n.log2 ≤ p
    · have e0 : -(nI n.log2 - nI p) = nI (p - n.log2) := by rw [Int32.neg_sub, pk_sub hc]
      have e1 : nI n.log2 - nI p ≤ 0 := by
        rw [Int32.le_iff_toInt_le, pk_sub_toInt (by omega) (by omega), show (0 : Int32).toInt = 0 from rfl]
        omega
      rw [if_pos e1, if_pos hc, e0, uN_sl _ (by omega), hn]
      refine Nat.mod_eq_of_lt ?_
      have hk2 := hk.2
      unfold uKep at hk2
      rw [if_pos hc] at hk2
      omega
    · have e0 : nI n.log2 - nI p = nI (n.log2 - p) := pk_sub (by omega)
      have e1 : ¬ nI (n.log2 - p) ≤ 0 := nI_nle (by omega) (by omega)
      rw [if_neg hc, e0, if_neg e1, uN_rnd _ (by omega) (by omega), hn]
  have a3 : uN (sl 1 (nI p)) = 2 ^ p := uN_sl1 (by omega)
  have a4 : (n.log2 + b) * 2 ^ p = (n.log2 + b - 1) * 2 ^ p + 2 ^ p := by
    rw [← Nat.succ_mul]
    congr 1
    omega
  have a5 : (n.log2 + b - 1) * 2 ^ p ≤ 1085 * 2 ^ 52 := Nat.mul_le_mul (by omega) hpp
  rw [uN_sub, uN_add, a1, a2, a3]
  omega
/-! the model's conversions of whole numbers -/
theorem enc_big (f : FP.Core.Fmt) (hf : FP.Core.Good f) (s : Bool) {c : Nat} {q : Int} (h1 : f.qmin ≤ q) (h2 : q + 1 ≤ f.qmax) (h3 : f.tails ≤ c) (h4 : c ≤ 2 * f.tails) : FP.Core.encode f (FP.Core.settle f s c q) = s.toNat * f.exps * f.tails + (q - f.qmin).toNat * f.tails + c := by
  have ht := FP.Core.two_tails hf
  have h0 := FP.Core.tails_pos f
  unfold FP.Core.settle FP.Core.bound
  by_cases hc : c < 2 ^ f.p
  · rw [if_pos hc, if_pos (by omega)]
    unfold FP.Core.encode
    dsimp only
    rw [if_neg (by omega)]
    unfold FP.Core.assemble
    rw [Nat.add_mul, Nat.succ_mul]
    omega
  · rw [if_neg hc, if_pos (by omega)]
    unfold FP.Core.encode
    dsimp only
    rw [if_neg (by omega)]
    unfold FP.Core.assemble
    rw [show (q + 1 - f.qmin).toNat = (q - f.qmin).toNat + 1 by omega, Nat.add_mul, Nat.succ_mul, Nat.succ_mul]
    omega
theorem round_int (f : FP.Core.Fmt) (hf : FP.Core.Good f) (s : Bool) {n : Nat} (hn : 0 < n) (hq : f.qmin ≤ (n.log2 : Int) - ((f.p : Int) - 1)) : FP.Core.roundRatio f s n 1 0 = FP.Core.settle f s (uKep n (f.p - 1)) ((n.log2 : Int) - ((f.p : Int) - 1)) := by
  have h1 : 2 ^ n.log2 ≤ n := Nat.log2_self_le (by omega)
  have h2 : n < 2 ^ (n.log2 + 1) := Nat.lt_log2_self
  have hp := hf.2
  have e : FP.Core.quantum f n 1 0 = (n.log2 : Int) - ((f.p : Int) - 1) := by
    refine FP.Core.quantum_eq hn (by decide) hq ?_ (Or.inr ?_)
    · rw [show (n.log2 : Int) - ((f.p : Int) - 1) - 0 + f.p = ((n.log2 + 1 : Nat) : Int) - ((0 : Nat) : Int) by omega, FP.Core.below_iff]
      omega
    · rw [show (n.log2 : Int) - ((f.p : Int) - 1) - 0 + ((f.p : Int) - 1) = ((n.log2 : Nat) : Int) - ((0 : Nat) : Int) by omega, FP.Core.below_iff]
      omega
  unfold FP.Core.roundRatio
  rw [if_neg (by omega), e]
  unfold FP.Core.roundAt FP.Core.unitsNum FP.Core.unitsDen uKep
  congr 1
  by_cases hc : n.log2 ≤ f.p - 1
  · rw [if_pos hc, show (0 - ((n.log2 : Int) - ((f.p : Int) - 1))).toNat = f.p - 1 - n.log2 by omega, show ((n.log2 : Int) - ((f.p : Int) - 1) - 0).toNat = 0 by omega]
    have := FP.Core.nearest_exact (B := 1) (n * 2 ^ (f.p - 1 - n.log2)) (by decide)
    rw [Nat.mul_one] at this
    rw [Nat.pow_zero]
    exact this
  · rw [if_neg hc, show (0 - ((n.log2 : Int) - ((f.p : Int) - 1))).toNat = 0 by omega, show ((n.log2 : Int) - ((f.p : Int) - 1) - 0).toNat = n.log2 - (f.p - 1) by omega, Nat.pow_zero, Nat.mul_one, Nat.one_mul]
theorem l2d_bits (v : Int64) : (kDbl v).toUInt64 = FP.l2d v := by
  apply UInt64.toNat_inj.mp
  show uN (kDbl v) = (UInt64.ofNat (FP.Core.encode FP.Core.b64 (FP.Core.roundRatio FP.Core.b64 (decide (v.toInt < 0)) v.toInt.natAbs 1 0))).toNat
  by_cases hv : v = 0
  · subst hv
    decide +kernel
  · have hn0 : 0 < v.toInt.natAbs := by
      have : ¬ v.toInt = 0 := fun z => hv (Int64.toInt_inj.mp z)
      omega
    have hl := log2_63 (uN_lt (kAbs v))
    rw [uN_abs] at hl
    have hk := uKep_le (n := v.toInt.natAbs) (p := 52) hn0
    have e1 : uN (kNea v 52 1023) = (v.toInt.natAbs.log2 + 1023 - 1) * 2 ^ 52 + uKep v.toInt.natAbs 52 := by
      have := uN_nea v (p := 52) (b := 1023) hv (by decide) (by decide) (by decide) (by decide)
      rw [uN_abs] at this
      exact this
    have e2 := round_int FP.Core.b64 FP.Core.good_b64 (decide (v.toInt < 0)) hn0 (by show (-1074 : Int) ≤ (v.toInt.natAbs.log2 : Int) - 52; omega)
    have e3 := enc_big FP.Core.b64 FP.Core.good_b64 (decide (v.toInt < 0)) (c := uKep v.toInt.natAbs 52) (q := (v.toInt.natAbs.log2 : Int) - 52) (by show (-1074 : Int) ≤ _; omega) (by show _ ≤ (971 : Int); omega) hk.1 hk.2
    have e4 : FP.Core.encode FP.Core.b64 (FP.Core.roundRatio FP.Core.b64 (decide (v.toInt < 0)) v.toInt.natAbs 1 0) = (decide (v.toInt < 0)).toNat * 2048 * 4503599627370496 + (v.toInt.natAbs.log2 + 1022) * 4503599627370496 + uKep v.toInt.natAbs 52 := by
      rw [e2]
      refine Eq.trans e3 ?_
      show _ * 2048 * 4503599627370496 + ((v.toInt.natAbs.log2 : Int) - 52 - (-1074)).toNat * 4503599627370496 + _ = _
      rw [show ((v.toInt.natAbs.log2 : Int) - 52 - (-1074)).toNat = v.toInt.natAbs.log2 + 1022 by omega]
    rw [e4, UInt64.toNat_ofNat']
    have hk2 := hk.2
    have ep : (2 : Nat) ^ 52 = 4503599627370496 := by decide
    rw [ep] at e1 hk2
    unfold kDbl
    by_cases h0 : v < 0
    · have h1 : v.toInt < 0 := Int64.lt_iff_toInt_lt.mp h0
      rw [if_pos h0, uN_orA _ _ (k := 63) (by decide) (by rw [e1]; omega), e1, show uN (-9223372036854775808) = 9223372036854775808 by decide, decide_eq_true h1]
      show _ = (1 * 2048 * 4503599627370496 + _ + _) % _
      omega
    · have h1 : ¬ v.toInt < 0 := fun z => h0 (Int64.lt_iff_toInt_lt.mpr z)
      rw [if_neg h0, uN_orA _ _ (k := 63) (by decide) (by rw [e1]; omega), e1, show uN 0 = 0 by decide, decide_eq_false h1]
      show _ = (0 * 2048 * 4503599627370496 + _ + _) % _
      omega
theorem l2f_bits (v : Int64) : uN (kFlt v) = (FP.l2f v).toNat := by
  show uN (kFlt v) = (UInt32.ofNat (FP.Core.encode FP.Core.b32 (FP.Core.roundRatio FP.Core.b32 (decide (v.toInt < 0)) v.toInt.natAbs 1 0))).toNat
  by_cases hv : v = 0
  · subst hv
    decide +kernel
  · have hn0 : 0 < v.toInt.natAbs := by
      have : ¬ v.toInt = 0 := fun z => hv (Int64.toInt_inj.mp z)
      omega
    have hl := log2_63 (uN_lt (kAbs v))
    rw [uN_abs] at hl
    have hk := uKep_le (n := v.toInt.natAbs) (p := 23) hn0
    have e1 : uN (kNea v 23 127) = (v.toInt.natAbs.log2 + 127 - 1) * 2 ^ 23 + uKep v.toInt.natAbs 23 := by
      have := uN_nea v (p := 23) (b := 127) hv (by decide) (by decide) (by decide) (by decide)
      rw [uN_abs] at this
      exact this
    have e2 := round_int FP.Core.b32 FP.Core.good_b32 (decide (v.toInt < 0)) hn0 (by show (-149 : Int) ≤ (v.toInt.natAbs.log2 : Int) - 23; omega)
    have e3 := enc_big FP.Core.b32 FP.Core.good_b32 (decide (v.toInt < 0)) (c := uKep v.toInt.natAbs 23) (q := (v.toInt.natAbs.log2 : Int) - 23) (by show (-149 : Int) ≤ _; omega) (by show _ ≤ (104 : Int); omega) hk.1 hk.2
    have e4 : FP.Core.encode FP.Core.b32 (FP.Core.roundRatio FP.Core.b32 (decide (v.toInt < 0)) v.toInt.natAbs 1 0) = (decide (v.toInt < 0)).toNat * 256 * 8388608 + (v.toInt.natAbs.log2 + 126) * 8388608 + uKep v.toInt.natAbs 23 := by
      rw [e2]
      refine Eq.trans e3 ?_
      show _ * 256 * 8388608 + ((v.toInt.natAbs.log2 : Int) - 23 - (-149)).toNat * 8388608 + _ = _
      rw [show ((v.toInt.natAbs.log2 : Int) - 23 - (-149)).toNat = v.toInt.natAbs.log2 + 126 by omega]
    rw [e4, UInt32.toNat_ofNat']
    have hk2 := hk.2
    have ep : (2 : Nat) ^ 23 = 8388608 := by decide
    rw [ep] at e1 hk2
    unfold kFlt
    by_cases h0 : v < 0
    · have h1 : v.toInt < 0 := Int64.lt_iff_toInt_lt.mp h0
      rw [if_pos h0, uN_orA _ _ (k := 31) (by decide) (by rw [e1]; omega), e1, show uN 2147483648 = 2147483648 by decide, decide_eq_true h1]
      show _ = (1 * 256 * 8388608 + _ + _) % _
      omega
    · have h1 : ¬ v.toInt < 0 := fun z => h0 (Int64.lt_iff_toInt_lt.mpr z)
      rw [if_neg h0, uN_orA _ _ (k := 31) (by decide) (by rw [e1]; omega), e1, show uN 0 = 0 by decide, decide_eq_false h1]
      show _ = (0 * 256 * 8388608 + _ + _) % _
      omega
