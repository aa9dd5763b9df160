/-! floats as doubles; doubles cut; doubles compared -/
theorem fOk_n {x : Int64} (hx : fOk x) : uN x < 4294967296 ∧ uN x % 2147483648 ≤ 2139095040 := by
  obtain ⟨h0, h1, h2⟩ := hx
  have a0 : ¬ x < 0 := fun z => absurd (Int64.lt_of_lt_of_le z h0) Int64.lt_irrefl
  have a1 : ¬ 9223372036854775808 ≤ uN x := fun z => a0 ((uN_neg_iff x).mpr z)
  have a2 : uN x < 4294967296 := (uN_lt_iff (y := 4294967296) (by omega) (by decide)).mp h1
  have a3 : uN (x &&& 2147483647) = uN x % 2 ^ 31 := uN_mask _ _ (by decide)
  refine ⟨a2, ?_⟩
  rcases Nat.lt_or_ge 2139095040 (uN x % 2147483648) with z | z
  · exact absurd ((uN_lt_iff (x := 2139095040) (y := x &&& 2147483647) (by decide) (by rw [a3]; omega)).mpr (by rw [a3]; exact z)) h2
  · exact z
theorem n_fOk {x : Int64} (h1 : uN x < 4294967296) (h2 : uN x % 2147483648 ≤ 2139095040) : fOk x := by
  have a3 : uN (x &&& 2147483647) = uN x % 2 ^ 31 := uN_mask _ _ (by decide)
  refine ⟨?_, ?_, ?_⟩
  · exact (uN_le_iff (x := 0) (by decide) (by omega)).mpr (Nat.zero_le _)
  · exact (uN_lt_iff (y := 4294967296) (by omega) (by decide)).mpr h1
  · intro z
    have := (uN_lt_iff (x := 2139095040) (y := x &&& 2147483647) (by decide) (by rw [a3]; omega)).mp z
    rw [a3] at this
    exact absurd this (Nat.not_lt.mpr h2)
theorem dOk_n {x : Int64} : dOk x ↔ uN x % 9223372036854775808 ≤ 9218868437227405312 := by
  have a3 : uN (x &&& 9223372036854775807) = uN x % 2 ^ 63 := uN_mask _ _ (by decide)
  unfold dOk
  rw [uN_lt_iff (x := 9218868437227405312) (by decide) (by rw [a3]; omega), a3]
  exact Nat.not_lt
theorem dOk_nan {x : Int64} (hx : dOk x) : FP.Core.val64 x.toUInt64 ≠ .nan := by
  refine (FP.Core.notNaN_iff _).mp ?_
  cases hq : FP.Core.dIsNaN x.toUInt64 with
  | false => rfl
  | true =>
    have h1 := (FP.Core.isNaN_bits _).mp hq
    exact absurd h1 (Nat.not_lt.mpr (dOk_n.mp hx))
theorem i32_a3 (x : Int32) : x - 127 + 1023 = x + 896 := by
  rw [Int32.sub_eq_add_neg, Int32.add_assoc]
  rfl
theorem i32_a5 (x : Int32) : x - 23 + 1 - 127 + 1023 = x + 874 := by
  rw [Int32.sub_eq_add_neg, Int32.sub_eq_add_neg, Int32.add_assoc, Int32.add_assoc, Int32.add_assoc]
  rfl
theorem uN_sgn (x : Int64) (hx : uN x < 4294967296) : uN (sl (ur x 31 &&& 1) 63) = uN x / 2147483648 * 9223372036854775808 := by
  have e1 : uN (ur x 31 &&& 1) = uN x / 2 ^ 31 % 2 ^ 1 := by
    rw [uN_mask _ _ (k := 1) (by decide)]
    exact congrArg (· % 2 ^ 1) (uN_ur x (k := 31) (by decide))
  have e2 : uN (sl (ur x 31 &&& 1) 63) = uN (ur x 31 &&& 1) * 2 ^ 63 % 18446744073709551616 := uN_sl _ (k := 63) (by decide)
  rw [e2, e1]
  omega
theorem uN_exp (x : Int64) : (ur x 23).toInt32 &&& 255 = nI (uN x / 8388608 % 256) := by
  rw [i32_mask _ 8 (by decide) (by decide)]
  congr 1
  exact congrArg (· % 2 ^ 8) (uN_ur x (k := 23) (by decide))
theorem uN_frac (x : Int64) : uN (x &&& 8388607) = uN x % 8388608 := uN_mask x _ (k := 23) (by decide)
theorem tiny_n {f : Int64} (h0 : 0 < uN f) (h1 : uN f < 8388608) : uN (kTin f) = ((uN f).log2 + 873) * 4503599627370496 + uN f * 2 ^ (52 - (uN f).log2) ∧ uN f * 2 ^ (52 - (uN f).log2) < 9007199254740992 ∧ 4503599627370496 ≤ uN f * 2 ^ (52 - (uN f).log2) := by
  have ht : (uN f).log2 < 23 := (Nat.log2_lt (by omega)).mpr h1
  have l1 : 2 ^ (uN f).log2 ≤ uN f := Nat.log2_self_le (by omega)
  have l2 : uN f < 2 ^ ((uN f).log2 + 1) := Nat.lt_log2_self
  have e1 : (63 : Int32) - vNlz f = nI (uN f).log2 := top_nI (by omega)
  have p1 : 2 ^ (uN f).log2 * 2 ^ (52 - (uN f).log2) = 4503599627370496 := by
    rw [← Nat.pow_add, show (uN f).log2 + (52 - (uN f).log2) = 52 by omega]
  have hp := Nat.two_pow_pos (52 - (uN f).log2)
  have b1 : 4503599627370496 ≤ uN f * 2 ^ (52 - (uN f).log2) := by
    rw [← p1]
    exact Nat.mul_le_mul_right _ l1
  have b2 : uN f * 2 ^ (52 - (uN f).log2) < 9007199254740992 := by
    have := Nat.mul_lt_mul_of_pos_right l2 hp
    rw [Nat.pow_succ, Nat.mul_assoc, Nat.mul_comm 2, ← Nat.mul_assoc, p1] at this
    omega
  refine ⟨?_, b2, b1⟩
  unfold kTin
  rw [e1, i32_a5, show (874 : Int32) = nI 874 from rfl, nI_add, show (52 : Int32) - nI (uN f).log2 = nI (52 - (uN f).log2) from by rw [show (52 : Int32) = nI 52 from rfl, pk_sub (by omega)]]
  have c1 : uN (sl (nI ((uN f).log2 + 874)).toInt64 52) = ((uN f).log2 + 874) * 4503599627370496 := by
    have : uN (sl (nI ((uN f).log2 + 874)).toInt64 52) = uN (nI ((uN f).log2 + 874)).toInt64 * 2 ^ 52 % 18446744073709551616 := uN_sl _ (k := 52) (by decide)
    rw [this, uN_nI (by omega)]
    omega
  have c2 : uN (sl f (nI (52 - (uN f).log2))) = uN f * 2 ^ (52 - (uN f).log2) := by
    rw [uN_sl _ (by omega)]
    exact Nat.mod_eq_of_lt (by omega)
  rw [uN_sub, uN_add, c1, c2, show uN 4503599627370496 = 4503599627370496 by decide]
  omega
/-- a float's bits as a double's, in numbers -/
def fdN (s : Nat) (e t : Nat) : Nat := s * 9223372036854775808 + (if e = 255 then 2047 * 4503599627370496 + t * 536870912 else if e = 0 then (if t = 0 then 0 else (t.log2 + 873) * 4503599627370496 + t * 2 ^ (52 - t.log2)) else (e + 896) * 4503599627370496 + t * 536870912)
theorem dof_n {x : Int64} (h1 : uN x < 4294967296) : uN (kDof x) = fdN (uN x / 2147483648) (uN x / 8388608 % 256) (uN x % 8388608) := by
  have hs := uN_sgn x h1
  have hf := uN_frac x
  have hsl : uN (sl (x &&& 8388607) 29) = uN x % 8388608 * 536870912 := by
    have : uN (sl (x &&& 8388607) 29) = uN (x &&& 8388607) * 2 ^ 29 % 18446744073709551616 := uN_sl _ (k := 29) (by decide)
    rw [this, hf]
    omega
  have hsb : uN x / 2147483648 < 2 := by omega
  unfold kDof fdN
  rw [uN_exp]
  generalize hE : uN x / 8388608 % 256 = e
  have he : e < 256 := by omega
  by_cases q1 : e = 255
  · rw [if_pos (by rw [q1]; rfl), if_pos q1]
    have a1 : uN (sl (ur x 31 &&& 1) 63 ||| 9218868437227405312) = uN x / 2147483648 * 9223372036854775808 + 2047 * 4503599627370496 := by
      rw [uN_orA _ _ (k := 63) (by rw [hs]; omega) (by decide), hs]
      rfl
    rw [uN_orA _ _ (k := 52) (by rw [a1]; omega) (by rw [hsl]; omega), a1, hsl]
    omega
  · have q1' : ¬ nI e = 255 := fun z => q1 ((nI_eq (b := 255) (by omega) (by decide)).mp z)
    rw [if_neg q1', if_neg q1]
    by_cases q2 : e = 0
    · have q2' : nI e ≤ 0 := by rw [q2]; decide
      rw [if_pos q2', if_pos q2]
      by_cases q3 : uN x % 8388608 = 0
      · have q3' : x &&& 8388607 = 0 := by
          apply uN_inj
          rw [hf, q3]
          rfl
        rw [if_pos q3', if_pos q3, hs]
        omega
      · have q3' : ¬ x &&& 8388607 = 0 := by
          intro z
          apply q3
          rw [← hf, z]
          rfl
        have ht := tiny_n (f := x &&& 8388607) (by omega) (by omega)
        rw [hf] at ht
        have hl : (uN x % 8388608).log2 < 23 := (Nat.log2_lt q3).mpr (by omega)
        rw [if_neg q3', if_neg q3, uN_orA _ _ (k := 63) (by rw [hs]; omega) (by rw [ht.1]; omega), hs, ht.1]
    · have q2' : ¬ nI e ≤ 0 := nI_nle (by omega) (by omega)
      rw [if_neg q2', if_neg q2, i32_a3, show (896 : Int32) = nI 896 from rfl, nI_add]
      have c1 : uN (sl (nI (e + 896)).toInt64 52) = (e + 896) * 4503599627370496 := by
        have : uN (sl (nI (e + 896)).toInt64 52) = uN (nI (e + 896)).toInt64 * 2 ^ 52 % 18446744073709551616 := uN_sl _ (k := 52) (by decide)
        rw [this, uN_nI (by omega)]
        omega
      have a1 : uN (sl (ur x 31 &&& 1) 63 ||| sl (nI (e + 896)).toInt64 52) = uN x / 2147483648 * 9223372036854775808 + (e + 896) * 4503599627370496 := by
        rw [uN_orA _ _ (k := 63) (by rw [hs]; omega) (by rw [c1]; omega), hs, c1]
      rw [uN_orA _ _ (k := 52) (by rw [a1]; omega) (by rw [hsl]; omega), a1, hsl]
      omega
theorem enc64 (s : Bool) (c : Nat) (q : Int) (h : FP.Core.fits FP.Core.b64 (.fin s c q)) : FP.Core.encode FP.Core.b64 (.fin s c q) = s.toNat * 9223372036854775808 + (if c < 4503599627370496 then c else (q + 1074).toNat * 4503599627370496 + c) := by
  obtain ⟨h1, h2, h3, h4⟩ := h
  unfold FP.Core.encode
  dsimp only
  by_cases hc : c < 4503599627370496
  · rw [if_pos (show c < FP.Core.b64.tails from hc), if_pos hc]
    show (s.toNat * 2048 + 0) * 4503599627370496 + c = _
    omega
  · rw [if_neg (show ¬ c < FP.Core.b64.tails from hc), if_neg hc]
    show (s.toNat * 2048 + ((q - (-1074)).toNat + 1)) * 4503599627370496 + (c - 4503599627370496) = _
    rw [show q - (-1074) = q + 1074 by omega]
    omega
/-- a number with few digits, as a double, exactly -/
theorem canon {c : Nat} {q : Int} (h0 : 0 < c) (h1 : c < 9007199254740992) (h2 : -1074 ≤ q) (h3 : q ≤ 971) : ∃ k : Nat, k ≤ 52 ∧ k ≤ 52 - c.log2 ∧ (k : Int) ≤ q + 1074 ∧ (k = 52 - c.log2 ∨ (k : Int) = q + 1074) ∧ (∀ s, FP.Core.fits FP.Core.b64 (.fin s (c * 2 ^ k) (q - k))) ∧ ∀ s, FP.Core.roundRatio FP.Core.b64 s c 1 q = .fin s (c * 2 ^ k) (q - k) := by
  have hl : c.log2 < 53 := (Nat.log2_lt (by omega)).mpr h1
  have l1 : 2 ^ c.log2 ≤ c := Nat.log2_self_le (by omega)
  have l2 : c < 2 ^ (c.log2 + 1) := Nat.lt_log2_self
  obtain ⟨k, hk1, hk2, hk3⟩ : ∃ k : Nat, k ≤ 52 - c.log2 ∧ (k : Int) ≤ q + 1074 ∧ (k = 52 - c.log2 ∨ (k : Int) = q + 1074) := by
    by_cases hc : ((52 - c.log2 : Nat) : Int) ≤ q + 1074
    · exact ⟨52 - c.log2, by omega, hc, Or.inl rfl⟩
    · exact ⟨(q + 1074).toNat, by omega, by omega, Or.inr (by omega)⟩
  have hp := Nat.two_pow_pos k
  have hfit : ∀ s, FP.Core.fits FP.Core.b64 (.fin s (c * 2 ^ k) (q - k)) := by
    intro s
    refine ⟨?_, ?_, ?_, ?_⟩
    · show c * 2 ^ k < 2 ^ 53
      have a1 := Nat.mul_lt_mul_of_pos_right l2 hp
      rw [← Nat.pow_add] at a1
      have a2 : 2 ^ (c.log2 + 1 + k) ≤ 2 ^ 53 := Nat.pow_le_pow_right (by decide) (by omega)
      omega
    · show (-1074 : Int) ≤ _
      omega
    · show _ ≤ (971 : Int)
      omega
    · rcases hk3 with hk3 | hk3
      · right
        show 2 ^ 52 ≤ _
        have a1 := Nat.mul_le_mul_right (2 ^ k) l1
        rw [← Nat.pow_add, show c.log2 + k = 52 by omega] at a1
        exact a1
      · left
        show _ = (-1074 : Int)
        omega
  refine ⟨k, by omega, hk1, hk2, hk3, hfit, fun s => ?_⟩
  refine FP.Core.roundRatio_exact FP.Core.good_b64 (by decide) (hfit s) ?_
  rw [show (q - (q - (k : Int))).toNat = k by omega, show (q - (k : Int) - q).toNat = 0 by omega, Nat.pow_zero, Nat.mul_one, Nat.mul_one]
theorem f2d_n (x : Int64) (hx : fOk x) : (FP.f2d (UInt32.ofNat (uN x))).toNat = fdN (uN x / 2147483648) (uN x / 8388608 % 256) (uN x % 8388608) := by
  obtain ⟨h1, h2⟩ := fOk_n hx
  have hm : (UInt32.ofNat (uN x)).toNat = uN x := by
    rw [UInt32.toNat_ofNat']
    exact Nat.mod_eq_of_lt h1
  have hn : FP.fIsNaN (UInt32.ofNat (uN x)) = false := by
    cases hq : FP.Core.fIsNaN (UInt32.ofNat (uN x)) with
    | false => exact hq
    | true =>
      have a1 := (FP.Core.isNaN_bits32 _).mp hq
      rw [hm] at a1
      exact absurd a1 (Nat.not_lt.mpr h2)
  unfold FP.f2d
  rw [if_neg (fun z => by rw [show FP.Core.fIsNaN (UInt32.ofNat (uN x)) = false from hn] at z; cases z)]
  show (UInt64.ofNat (FP.Core.encode FP.Core.b64 (FP.Core.round FP.Core.b64 (FP.Core.decode FP.Core.b32 (UInt32.ofNat (uN x)).toNat)))).toNat = _
  rw [hm, UInt64.toNat_ofNat']
  have eT : FP.Core.fieldT FP.Core.b32 (uN x) = uN x % 8388608 := rfl
  have eE : FP.Core.fieldE FP.Core.b32 (uN x) = uN x / 8388608 % 256 := rfl
  have eS : (FP.Core.fieldS FP.Core.b32 (uN x)).toNat = uN x / 2147483648 := by
    show (uN x / 8388608 / 256 % 2 == 1).toNat = _
    rw [Nat.div_div_eq_div_mul]
    show (uN x / 2147483648 % 2 == 1).toNat = _
    rcases (show uN x / 2147483648 = 0 ∨ uN x / 2147483648 = 1 by omega) with z | z <;> rw [z] <;> rfl
  unfold FP.Core.decode fdN
  rw [eT, eE, show FP.Core.b32.exps - 1 = 255 from rfl, show FP.Core.b32.tails = 8388608 from rfl, show FP.Core.b32.qmin = -149 from rfl]
  generalize FP.Core.fieldS FP.Core.b32 (uN x) = s at eS
  rw [← eS]
  have hs : s.toNat < 2 := by cases s <;> decide
  by_cases q1 : uN x / 8388608 % 256 = 255
  · have q2 : uN x % 8388608 = 0 := by omega
    rw [if_pos q1, if_pos q2, if_pos q1, q2]
    show ((s.toNat * 2048 + 2047) * 4503599627370496 + 0) % 18446744073709551616 = _
    omega
  · rw [if_neg q1, if_neg q1]
    by_cases q2 : uN x / 8388608 % 256 = 0
    · rw [if_pos q2, if_pos q2]
      by_cases q3 : uN x % 8388608 = 0
      · rw [if_pos q3, q3]
        show (FP.Core.encode FP.Core.b64 (FP.Core.roundRatio FP.Core.b64 s 0 1 (-149))) % _ = _
        unfold FP.Core.roundRatio
        rw [if_pos rfl]
        show ((s.toNat * 2048 + 0) * 4503599627370496 + 0) % _ = _
        omega
      · rw [if_neg q3]
        have hl : (uN x % 8388608).log2 < 23 := (Nat.log2_lt q3).mpr (by omega)
        obtain ⟨k, k1, k2, k3, k4, k5, k6⟩ := canon (c := uN x % 8388608) (q := -149) (by omega) (by omega) (by decide) (by decide)
        have hk : k = 52 - (uN x % 8388608).log2 := by omega
        show (FP.Core.encode FP.Core.b64 (FP.Core.roundRatio FP.Core.b64 s (uN x % 8388608) 1 (-149))) % _ = _
        have b := k5 s
        rw [k6 s, enc64 s _ _ b]
        have b1 : 4503599627370496 ≤ uN x % 8388608 * 2 ^ k := by
          rcases b.2.2.2 with z | z
          · exfalso
            have z' : (-149 : Int) - k = -1074 := z
            omega
          · exact z
        have b2 : uN x % 8388608 * 2 ^ k < 9007199254740992 := b.1
        rw [if_neg (by omega), ← hk, show ((-149 : Int) - k + 1074).toNat = (uN x % 8388608).log2 + 873 by omega]
        omega
    · rw [if_neg q2, if_neg q2]
      have hl : (8388608 + uN x % 8388608).log2 = 23 := by
        rw [Nat.log2_eq_iff (by omega)]
        omega
      obtain ⟨k, k1, k2, k3, k4, k5, k6⟩ := canon (c := 8388608 + uN x % 8388608) (q := -149 + (((uN x / 8388608 % 256 : Nat) : Int) - 1)) (by omega) (by omega) (by omega) (by omega)
      have hk : k = 29 := by omega
      subst hk
      show (FP.Core.encode FP.Core.b64 (FP.Core.roundRatio FP.Core.b64 s (8388608 + uN x % 8388608) 1 (-149 + (((uN x / 8388608 % 256 : Nat) : Int) - 1)))) % _ = _
      rw [k6 s, enc64 s _ _ (k5 s)]
      rw [if_neg (by omega), show ((-149 : Int) + (((uN x / 8388608 % 256 : Nat) : Int) - 1) - ((29 : Nat) : Int) + 1074).toNat = uN x / 8388608 % 256 + 895 by omega]
      omega
theorem dof_bits (x : Int64) (hx : fOk x) : (kDof x).toUInt64 = FP.f2d (UInt32.ofNat (uN x)) := by
  apply UInt64.toNat_inj.mp
  rw [f2d_n x hx]
  exact dof_n (fOk_n hx).1
theorem flt_fOk (v : Int64) : fOk (kFlt v) := by
  have h1 := l2f_bits v
  have h2 := FP.Core.l2f_notNaN v
  have h3 := (FP.l2f v).toNat_lt
  refine n_fOk (by omega) ?_
  rcases Nat.lt_or_ge 2139095040 (uN (kFlt v) % 2147483648) with z | z
  · rw [h1] at z
    have := (FP.Core.isNaN_bits32 (FP.l2f v)).mpr z
    rw [h2] at this
    cases this
  · exact z
/-- a whole number as a float, that as a double -/
theorem l2f_dof (v : Int64) : FP.f2d (FP.l2f v) = (kDof (kFlt v)).toUInt64 := by
  rw [dof_bits _ (flt_fOk v), l2f_bits, UInt32.ofNat_toNat]
theorem dbl_dOk (v : Int64) : dOk (kDbl v) := by
  rw [dOk_n]
  have h2 := FP.Core.l2d_notNaN v
  rcases Nat.lt_or_ge 9218868437227405312 (uN (kDbl v) % 9223372036854775808) with z | z
  · have e : uN (kDbl v) = (FP.l2d v).toNat := by rw [← l2d_bits]; rfl
    rw [e] at z
    have := (FP.Core.isNaN_bits (FP.l2d v)).mpr z
    rw [h2] at this
    cases this
  · exact z
theorem dof_dOk {x : Int64} (hx : fOk x) : dOk (kDof x) := by
  rw [dOk_n, dof_n (fOk_n hx).1]
  obtain ⟨h1, h2⟩ := fOk_n hx
  unfold fdN
  split
  · omega
  · split
    · split
      · omega
      · rename_i q3
        have hl : (uN x % 8388608).log2 < 23 := (Nat.log2_lt q3).mpr (by omega)
        have ht := tiny_n (f := x &&& 8388607) (by rw [uN_frac]; omega) (by rw [uN_frac]; omega)
        rw [uN_frac] at ht
        omega
    · omega
/-! two doubles alike -/
def kSame (x y : Int64) : Prop := x = y ∨ (x ||| y) &&& 9223372036854775807 = 0
theorem same_bits {x y : Int64} (hx : dOk x) (hy : dOk y) : FP.dcmp x.toUInt64 y.toUInt64 = some .eq ↔ kSame x y := by
  have e := FP.Core.dcmp_eq_key (dOk_nan hx) (dOk_nan hy)
  refine e.trans ?_
  unfold FP.Core.dkey kSame
  show (if 2 ^ 63 ≤ uN x then ((2 ^ 63 : Nat) : Int) - (uN x : Int) else (uN x : Int)) = (if 2 ^ 63 ≤ uN y then ((2 ^ 63 : Nat) : Int) - (uN y : Int) else (uN y : Int)) ↔ _
  have a1 : (x ||| y) &&& 9223372036854775807 = 0 ↔ uN x % 9223372036854775808 = 0 ∧ uN y % 9223372036854775808 = 0 := by
    rw [uN_eq_iff, uN_mask _ _ (k := 63) (by decide), uN_or, Nat.or_mod_two_pow, show uN 0 = 0 from rfl, Nat.or_eq_zero_iff]
  rw [uN_eq_iff, a1]
  have b1 := uN_lt x
  have b2 := uN_lt y
  split <;> split <;> omega
/-! cut towards 0 -/
def kExp (b : Int64) : Int32 := ((ur b 52).toInt32 &&& 2047) - 1023
def kSig (b : Int64) : Int64 := (b &&& 4503599627370495) ||| 4503599627370496
def kMag (b : Int64) : Int64 := if 52 - kExp b ≤ 0 then sl (kSig b) (-(52 - kExp b)) else ur (kSig b) (52 - kExp b)
def kCut (b : Int64) : Int64 := if kExp b < 0 then 0 else if kExp b < 63 then (if b < 0 then -kMag b else kMag b) else if b < 0 then -9223372036854775808 else 9223372036854775807
theorem kExp_n (b : Int64) : kExp b = nI (uN b / 4503599627370496 % 2048) - nI 1023 := by
  unfold kExp
  rw [i32_mask _ 11 (by decide) (by decide)]
  congr 2
  exact congrArg (· % 2 ^ 11) (uN_ur b (k := 52) (by decide))
theorem kSig_n (b : Int64) : uN (kSig b) = 4503599627370496 + uN b % 4503599627370496 := by
  unfold kSig
  have h : uN (b &&& 4503599627370495) = uN b % 4503599627370496 := uN_mask b _ (k := 52) (by decide)
  rw [uN_or, Nat.or_comm, h]
  exact or_add (k := 52) (by decide) (by omega)
theorem cut_bits (x : Int64) (hx : dOk x) : FP.d2l x.toUInt64 = kCut x := by
  have hm := dOk_n.mp hx
  have hlt := uN_lt x
  have hneg := uN_neg_iff x
  apply Int64.toInt_inj.mp
  show (Int64.ofInt (FP.Core.toInt (-2 ^ 63) (2 ^ 63 - 1) (FP.Core.decode FP.Core.b64 (uN x)))).toInt = _
  have eT : FP.Core.fieldT FP.Core.b64 (uN x) = uN x % 4503599627370496 := rfl
  have eE : FP.Core.fieldE FP.Core.b64 (uN x) = uN x / 4503599627370496 % 2048 := rfl
  have eS : FP.Core.fieldS FP.Core.b64 (uN x) = decide (x < 0) := by
    show (uN x / 4503599627370496 / 2048 % 2 == 1) = _
    rw [Nat.div_div_eq_div_mul]
    show (uN x / 9223372036854775808 % 2 == 1) = _
    by_cases z : x < 0
    · have z1 := hneg.mp z
      rw [decide_eq_true z, show uN x / 9223372036854775808 = 1 by omega]
      rfl
    · have z1 : ¬ 9223372036854775808 ≤ uN x := fun w => z (hneg.mpr w)
      rw [decide_eq_false z, show uN x / 9223372036854775808 = 0 by omega]
      rfl
  have hof : ∀ z : Int, -9223372036854775808 ≤ z → z < 9223372036854775808 → (Int64.ofInt z).toInt = z := fun z h1 h2 => Int64.toInt_ofInt_of_le h1 h2
  unfold FP.Core.decode kCut
  rw [eT, eE, eS, kExp_n, show FP.Core.b64.exps - 1 = 2047 from rfl, show FP.Core.b64.tails = 4503599627370496 from rfl, show FP.Core.b64.qmin = -1074 from rfl]
  generalize hE : uN x / 4503599627370496 % 2048 = e
  generalize hT : uN x % 4503599627370496 = t
  have he : e < 2048 := by omega
  have htt : t < 4503599627370496 := by omega
  have lmin : (-9223372036854775808 : Int64).toInt = -9223372036854775808 := rfl
  have lmax : (9223372036854775807 : Int64).toInt = 9223372036854775807 := rfl
  by_cases q1 : e < 1023
  · have c1 : nI e - nI 1023 < 0 := pk_sneg (by decide) q1
    rw [if_neg (by omega), if_pos c1]
    have hz : ∀ (c : Nat) (k : Nat), c < 9007199254740992 → 53 ≤ k → c / 2 ^ k = 0 := by
      intro c k h1 h2
      refine Nat.div_eq_of_lt (Nat.lt_of_lt_of_le h1 ?_)
      exact Nat.pow_le_pow_right (n := 2) (by decide) h2
    have hz2 : ∀ (s : Bool) (c : Nat) (q : Int), c < 9007199254740992 → q ≤ -53 → FP.Core.toInt (-2 ^ 63) (2 ^ 63 - 1) (.fin s c q) = 0 := by
      intro s c q h1 h2
      unfold FP.Core.toInt FP.Core.truncate
      dsimp only
      rw [show q.toNat = 0 by omega, Nat.pow_zero, Nat.mul_one, hz c _ h1 (by omega), FP.Core.signed_zero]
      decide
    by_cases q2 : e = 0
    · rw [if_pos q2, hz2 _ _ _ (by omega) (by omega)]
      rfl
    · rw [if_neg q2, hz2 _ _ _ (by omega) (by omega)]
      rfl
  · have c1 : ¬ nI e - nI 1023 < 0 := by
      rw [pk_sub (by omega)]
      exact nI_pos (by omega)
    rw [if_neg c1, pk_sub (by omega)]
    by_cases q3 : e < 1086
    · have c2 : nI (e - 1023) < 63 := nI_lt (b := 63) (by omega) (by decide)
      rw [if_neg (by omega), if_neg (by omega), if_pos c2]
      have hmag : uN (kMag x) = (4503599627370496 + t) * 2 ^ (e - 1075) / 2 ^ (1075 - e) ∧ uN (kMag x) < 9223372036854775808 := by
        unfold kMag
        rw [kExp_n, hE, pk_sub (by omega)]
        by_cases q4 : e ≤ 1075
        · by_cases q5 : e = 1075
          · subst q5
            rw [if_pos (by decide)]
            have : uN (sl (kSig x) (-(52 - nI (1075 - 1023)))) = uN (kSig x) * 2 ^ 0 % 18446744073709551616 := sl_g _ _ 0 (by decide)
            rw [this, kSig_n, hT]
            omega
          · have d1 : (52 : Int32) - nI (e - 1023) = nI (1075 - e) := by
              rw [show (52 : Int32) = nI 52 from rfl, pk_sub (by omega), show 52 - (e - 1023) = 1075 - e by omega]
            rw [d1, if_neg (nI_nle (by omega) (by omega)), uN_ur _ (by omega), kSig_n, hT, show e - 1075 = 0 by omega, Nat.pow_zero, Nat.mul_one]
            refine ⟨rfl, ?_⟩
            have := Nat.div_le_self (4503599627370496 + t) (2 ^ (1075 - e))
            omega
        · have d1 : -((52 : Int32) - nI (e - 1023)) = nI (e - 1075) := by
            rw [Int32.neg_sub, show (52 : Int32) = nI 52 from rfl, pk_sub (by omega), show e - 1023 - 52 = e - 1075 by omega]
          have d2 : (52 : Int32) - nI (e - 1023) ≤ 0 := by
            rw [show (52 : Int32) = nI 52 from rfl, Int32.le_iff_toInt_le, pk_sub_toInt (by omega) (by omega), show (0 : Int32).toInt = 0 from rfl]
            omega
          have hp : 2 ^ (e - 1075) ≤ 1024 := Nat.pow_le_pow_right (n := 2) (j := 10) (by decide) (by omega)
          have hb : (4503599627370496 + t) * 2 ^ (e - 1075) < 9223372036854775808 :=
            calc (4503599627370496 + t) * 2 ^ (e - 1075) ≤ (4503599627370496 + t) * 1024 := Nat.mul_le_mul_left _ hp
              _ < 9223372036854775808 := by omega
          rw [if_pos d2, d1, uN_sl _ (by omega), kSig_n, hT, show 1075 - e = 0 by omega, Nat.pow_zero, Nat.div_one]
          rw [Nat.mod_eq_of_lt (by omega)]
          exact ⟨rfl, hb⟩
      have htr : FP.Core.toInt (-2 ^ 63) (2 ^ 63 - 1) (.fin (decide (x < 0)) (4503599627370496 + t) (-1074 + ((e : Int) - 1))) = FP.Core.signed (decide (x < 0)) (uN (kMag x)) := by
        unfold FP.Core.toInt FP.Core.truncate
        dsimp only
        rw [show (-1074 + ((e : Int) - 1)).toNat = e - 1075 by omega, show (-(-1074 + ((e : Int) - 1))).toNat = 1075 - e by omega, ← hmag.1]
        have hb := hmag.2
        unfold FP.Core.signed
        split <;> omega
      rw [htr]
      have hb := hmag.2
      unfold FP.Core.signed
      by_cases z : x < 0
      · rw [if_pos (decide_eq_true z), if_pos z, hof _ (by omega) (by omega), uN_toInt, uN_neg]
        split <;> omega
      · rw [if_neg (by rw [decide_eq_false z]; decide), if_neg z, hof _ (by omega) (by omega), uN_toInt, if_pos hb]
    · have c2 : ¬ nI (e - 1023) < 63 := nI_nlt (b := 63) (by omega) (by omega)
      rw [if_neg c2]
      by_cases q4 : e = 2047
      · rw [if_pos q4, if_pos (by omega)]
        unfold FP.Core.toInt
        dsimp only
        by_cases z : x < 0
        · rw [if_pos (decide_eq_true z), if_pos z]
          rfl
        · rw [if_neg (by rw [decide_eq_false z]; decide), if_neg z]
          rfl
      · rw [if_neg q4, if_neg (by omega)]
        have hp : 2 ^ 11 ≤ 2 ^ (e - 1075) := Nat.pow_le_pow_right (by decide) (by omega)
        have hb : 9223372036854775808 ≤ (4503599627370496 + t) * 2 ^ (e - 1075) :=
          calc 9223372036854775808 = 4503599627370496 * 2 ^ 11 := by decide
            _ ≤ (4503599627370496 + t) * 2 ^ (e - 1075) := Nat.mul_le_mul (by omega) hp
        unfold FP.Core.toInt FP.Core.truncate
        dsimp only
        rw [show (-1074 + ((e : Int) - 1)).toNat = e - 1075 by omega, show (-(-1074 + ((e : Int) - 1))).toNat = 0 by omega, Nat.pow_zero, Nat.div_one]
        generalize (4503599627370496 + t) * 2 ^ (e - 1075) = v at hb
        unfold FP.Core.signed
        by_cases z : x < 0
        · rw [if_pos (decide_eq_true z), if_pos z, show max (-2 ^ 63 : Int) (min (2 ^ 63 - 1) (-(v : Int))) = -9223372036854775808 by omega]
          rfl
        · rw [if_neg (by rw [decide_eq_false z]; decide), if_neg z, show max (-2 ^ 63 : Int) (min (2 ^ 63 - 1) (v : Int)) = 9223372036854775807 by omega]
          rfl
