/-! the model's own words for floating numbers: doubled and halved, put together, taken apart -/
theorem ng1 (j : Nat) : -(nI j) + -1 = -(nI (j + 1)) := by
  rw [nI_succ, Int32.neg_add, Int32.sub_eq_add_neg]
theorem ng_le {a b : Nat} (ha : a < 1073741824) (hb : b < 1073741824) : -(nI a) ≤ -(nI b) ↔ b ≤ a := by
  rw [← Int32.zero_sub, ← Int32.zero_sub, Int32.le_iff_toInt_le, show (0 : Int32) = nI 0 from rfl, pk_sub_toInt (by decide) ha, pk_sub_toInt (by decide) hb]
  omega
theorem ng_lt0 {b : Nat} (hb : b < 1073741824) : ¬ 0 < -(nI b) := by
  rw [← Int32.zero_sub, Int32.lt_iff_toInt_lt, show (0 : Int32) = nI 0 from rfl, pk_sub_toInt (by decide) hb, nI_toInt (by decide)]
  omega
theorem l_tup (h : VG) (v : UInt64) (f : Nat → UInt64) (n : Nat) (hn : n < 1073741824) (hf : ∀ j, j < n → FP.dmul (f j) 4611686018427387904 = f (j + 1) ∧ vf_n64 (f (j + 1))) : ∀ (d k : Nat), k + d = n → ev 208 5 [some (.double v), none, some (.int (nI n)), some (.double (f k)), none, some (.int (nI k))] [] h = some (some (.double (f n)), h) := by
  intro d
  induction d with
  | zero =>
    intro k hk
    obtain rfl : k = n := by omega
    have hc : ¬ nI k < nI k := by rw [nI_ltI (by omega) (by omega)]; omega
    have h2 : (0 : Int32) ≤ nI k := nI_pos' (by omega)
    simp +decide only [e208_5, e208_7, e208_8, e208_23, e208_24, e208_26, e208_28, e208_29, e208_44, e208_45, hc, h2, vkk_n, vkk_i, vkk_r, vkk_l, vkk_d, catS_nil, catS_i, catS_r, catS_l, catS_d, Nat.reduceAdd, Nat.reduceLeDiff, Nat.zero_le, Nat.le_refl, Option.bind_some, Option.toList_some, Option.toList_none, List.cons_append, List.nil_append, or_true, true_or, if_true, if_false, Int32.reduceLT, Int32.reduceLE, not_true, not_false_iff, true_and, and_true, false_and, and_false]
  | succ d ih =>
    intro k hk
    have hc : nI k < nI n := nI_lt (by omega) (by omega)
    obtain ⟨f1, f2⟩ := hf k (by omega)
    have := ih (k + 1) (by omega)
    simp only [e208_5, e208_7, e208_8, hc, if_true]
    simp only [e208_11, e208_12, e208_15, e208_16, e208_17, e208_20, f1, f2, nI_1, vkk_n, vkk_i, vkk_r, vkk_l, vkk_d, if_true, if_false]
    exact this
theorem c_times_up (h : VG) (f : Nat → UInt64) (n : Nat) (hn : n < 1073741824) (hf : ∀ j, j < n → FP.dmul (f j) 4611686018427387904 = f (j + 1) ∧ vf_n64 (f (j + 1))) : ev 208 0 [some (.double (f 0)), none, some (.int (nI n)), none, none, none] [] h = some (some (.double (f n)), h) := by
  have := l_tup h (f 0) f n hn hf n 0 (by omega)
  simp only [e208_0, e208_1, e208_2, e208_3, vkk_n, vkk_i, vkk_r, vkk_l, vkk_d, if_true, if_false]
  exact this
theorem l_tdn (h : VG) (v : UInt64) (f : Nat → UInt64) (n : Nat) (hn : n < 1073741824) (hf : ∀ j, j < n → FP.ddiv (f j) 4611686018427387904 = f (j + 1) ∧ vf_n64 (f (j + 1))) : ∀ (d k : Nat), k + d = n → ev 208 26 [some (.double v), none, some (.int (-(nI n))), some (.double (f k)), none, some (.int (-(nI k)))] [] h = some (some (.double (f n)), h) := by
  intro d
  induction d with
  | zero =>
    intro k hk
    obtain rfl : k = n := by omega
    have hc : -(nI k) ≤ -(nI k) := (ng_le (by omega) (by omega)).mpr (by omega)
    simp only [e208_26, e208_28, e208_29, e208_44, e208_45, hc, vkk_n, vkk_i, vkk_r, vkk_l, vkk_d, if_true, if_false]
  | succ d ih =>
    intro k hk
    have hc : ¬ -(nI k) ≤ -(nI n) := fun z => by have := (ng_le (by omega) (by omega)).mp z; omega
    obtain ⟨f1, f2⟩ := hf k (by omega)
    have := ih (k + 1) (by omega)
    simp only [e208_26, e208_28, e208_29, hc, if_false]
    simp only [e208_32, e208_33, e208_36, e208_37, e208_38, e208_41, f1, f2, ng1, vkk_n, vkk_i, vkk_r, vkk_l, vkk_d, if_true, if_false]
    exact this
theorem c_times_dn (h : VG) (f : Nat → UInt64) (n : Nat) (hn : n < 1073741824) (hf : ∀ j, j < n → FP.ddiv (f j) 4611686018427387904 = f (j + 1) ∧ vf_n64 (f (j + 1))) : ev 208 0 [some (.double (f 0)), none, some (.int (-(nI n))), none, none, none] [] h = some (some (.double (f n)), h) := by
  have := l_tdn h (f 0) f n hn hf n 0 (by omega)
  have hc : ¬ 0 < -(nI n) := ng_lt0 (by omega)
  have h0 : -(nI 0) = (0 : Int32) := rfl
  rw [h0] at this
  simp only [e208_0, e208_1, e208_2, e208_3, e208_5, e208_7, e208_8, e208_23, e208_24, hc, vkk_n, vkk_i, vkk_r, vkk_l, vkk_d, if_true, if_false]
  exact this
/-- (double) c, times a power of two -/
theorem c_times (h : VG) (c : Nat) (z : Int) (h0 : 0 < c) (h1 : c < 9007199254740992) (h2 : -1074 ≤ z) (h3 : z ≤ 971) (t : Int32) (ht : t = if 0 ≤ z then nI z.toNat else -(nI (-z).toNat)) : ev 208 0 [some (.double (vD c 0)), none, some (.int t), none, none, none] [] h = some (some (.double (vD c z)), h) := by
  by_cases hz : 0 ≤ z
  · rw [if_pos hz] at ht
    subst ht
    have := c_times_up h (fun j => vD c (j : Int)) z.toNat (by omega) (fun j hj => ⟨(vD_mul h0 h1 (by omega) (by omega)).trans (by congr 1), nn64 (vD_nn h0 h1 (by omega) (by omega))⟩)
    try dsimp only at this
    rw [show ((z.toNat : Nat) : Int) = z by omega] at this
    exact this
  · rw [if_neg hz] at ht
    subst ht
    have := c_times_dn h (fun j => vD c (-(j : Int))) (-z).toNat (by omega) (fun j hj => ⟨(vD_div h0 h1 (by omega) (by omega)).trans (by congr 1; omega), nn64 (vD_nn h0 h1 (by omega) (by omega))⟩)
    try dsimp only at this
    rw [show -(((-z).toNat : Nat) : Int) = z by omega] at this
    exact this
theorem c_times0 (h : VG) (n : Nat) (hn : n < 1073741824) : ev 208 0 [some (.double 0), none, some (.int (-(nI n))), none, none, none] [] h = some (some (.double 0), h) :=
  c_times_dn h (fun _ => 0) n hn (fun j hj => ⟨by decide +kernel, by show (0 : UInt64) &&& 0x7fffffffffffffff ≤ 0x7ff0000000000000; decide⟩)
theorem pD_same (h : VG) (a k : Nat) (x y : UInt64) : pD (pD h a k x) a k y = pD h a k y := by
  unfold pD pV
  simp only [hset_1, if_true]
  unfold hset
  refine Prod.ext ?_ rfl
  funext z
  dsimp only
  by_cases hz : z = a
  · rw [if_pos hz, if_pos hz]
    cases hc : h.1 a with
    | inl q => rfl
    | inr q =>
      dsimp only
      congr 2
      unfold vset
      by_cases ht : (q.2[k]?.map vtag) = some (vtag (Value.double x))
      · rw [if_pos ht]
        have hk : k < q.2.length := by
          rcases Nat.lt_or_ge k q.2.length with z | z
          · exact z
          · rw [List.getElem?_eq_none z] at ht
            cases ht
        rw [List.getElem?_set, if_pos rfl, if_pos hk, if_pos (show Option.map vtag (some (Value.double x)) = some (vtag (Value.double y)) from rfl), if_pos (show Option.map vtag q.2[k]? = some (vtag (Value.double y)) from ht), List.set_set]
      · rw [if_neg ht]
  · rw [if_neg hz, if_neg hz, if_neg hz]
/-- an arithmetic shift, masked -/
theorem sr_mask (x m : Int64) (y : Int32) {k j : Nat} (hs : (((y.toInt64 &&& 63).toBitVec).smod 64).toNat = k) (hm : uN m = 2 ^ j - 1) (hkj : k + j ≤ 64) : uN ((x >>> (y.toInt64 &&& 63)) &&& m) = uN x / 2 ^ k % 2 ^ j := by
  have e0 : (x >>> (y.toInt64 &&& 63)).toBitVec = x.toBitVec.sshiftRight k := by
    show x.toBitVec.sshiftRight (((y.toInt64 &&& 63).toBitVec).smod 64).toNat = _
    rw [hs]
  have e1 : ((x >>> (y.toInt64 &&& 63)) &&& m).toBitVec = (x.toBitVec >>> k) &&& m.toBitVec := by
    rw [Int64.toBitVec_and, e0]
    apply BitVec.eq_of_getLsbD_eq
    intro i hi
    rw [BitVec.getLsbD_and, BitVec.getLsbD_and]
    rcases Nat.lt_or_ge i j with z | z
    · rw [BitVec.getLsbD_sshiftRight, BitVec.getLsbD_ushiftRight, if_pos (by omega), decide_eq_false (by omega)]
      simp
    · have : m.toBitVec.getLsbD i = false := by
        refine Nat.testBit_lt_two_pow (x := m.toBitVec.toNat) ?_
        have h1 : m.toBitVec.toNat = 2 ^ j - 1 := hm
        have h2 := Nat.two_pow_pos j
        have h3 : 2 ^ j ≤ 2 ^ i := Nat.pow_le_pow_right (by decide) z
        omega
      rw [this, Bool.and_false, Bool.and_false]
  unfold uN at hm ⊢
  rw [e1, BitVec.toNat_and, BitVec.toNat_ushiftRight, hm, Nat.and_two_pow_sub_one_eq_mod, Nat.shiftRight_eq_div_pow]
theorem bits_nn {x : UInt64} (hx : x.toNat ≤ 9218868437227405312) : FP.Core.val64 x ≠ .nan := by
  refine (FP.Core.notNaN_iff _).mp ?_
  cases hq : FP.Core.dIsNaN x with
  | false => rfl
  | true =>
    have h1 := (FP.Core.isNaN_bits _).mp hq
    rw [Nat.mod_eq_of_lt (by omega)] at h1
    omega
theorem cmp_key {x y : UInt64} (hx : FP.Core.val64 x ≠ .nan) (hy : FP.Core.val64 y ≠ .nan) (op : CmpOp) : (Op.cmpValue (FP.dcmp x y) op < 0 ↔ FP.Core.dkey x < FP.Core.dkey y) ∧ (Op.cmpValue (FP.dcmp x y) op = 0 ↔ FP.Core.dkey x = FP.Core.dkey y) := by
  have e : FP.dcmp x y = some (compare (FP.Core.dkey x) (FP.Core.dkey y)) := FP.Core.dcmp_key hx hy
  rw [e, FP.Core.compare_ite]
  generalize FP.Core.dkey x = a
  generalize FP.Core.dkey y = b
  by_cases h1 : a < b
  · rw [if_pos h1]
    show ((-1 : Int32) < 0 ↔ a < b) ∧ ((-1 : Int32) = 0 ↔ a = b)
    exact ⟨⟨fun _ => h1, fun _ => by decide⟩, ⟨fun z => absurd z (by decide), fun z => absurd h1 (by omega)⟩⟩
  · rw [if_neg h1]
    by_cases h2 : a = b
    · rw [if_pos h2]
      show ((0 : Int32) < 0 ↔ a < b) ∧ ((0 : Int32) = 0 ↔ a = b)
      exact ⟨⟨fun z => absurd z (by decide), fun z => absurd z h1⟩, ⟨fun _ => h2, fun _ => by decide⟩⟩
    · rw [if_neg h2]
      show ((1 : Int32) < 0 ↔ a < b) ∧ ((1 : Int32) = 0 ↔ a = b)
      exact ⟨⟨fun z => absurd z (by decide), fun z => absurd z h1⟩, ⟨fun z => absurd z (by decide), fun z => absurd z h2⟩⟩
theorem cmp_n {x y : UInt64} (hx : x.toNat ≤ 9218868437227405312) (hy : y.toNat ≤ 9218868437227405312) (op : CmpOp) : (Op.cmpValue (FP.dcmp x y) op < 0 ↔ x.toNat < y.toNat) ∧ (Op.cmpValue (FP.dcmp x y) op = 0 ↔ x.toNat = y.toNat) := by
  have h := cmp_key (bits_nn hx) (bits_nn hy) op
  unfold FP.Core.dkey at h
  rw [if_neg (by omega), if_neg (by omega)] at h
  refine ⟨h.1.trans ?_, h.2.trans ?_⟩ <;> omega
theorem dneg2 (a : UInt64) : FP.dneg (FP.dneg a) = a := by
  unfold FP.dneg
  rw [UInt64.xor_assoc, UInt64.xor_self, UInt64.xor_zero]
theorem lN_u {n : Nat} (hn : n < 18446744073709551616) : uN (Int64.ofNat n) = n := by
  show (BitVec.ofNat 64 n).toNat = n
  rw [BitVec.toNat_ofNat]
  exact Nat.mod_eq_of_lt hn
theorem one_32 : FP.l2d 8388608 = 4710765210229538816 := by decide +kernel
theorem two1_32 : FP.dmul 4611686018427387904 4710765210229538816 = 4715268809856909312 := by decide +kernel
theorem one_n32 : (4710765210229538816 : UInt64).toNat = (1023 + 23) * 4503599627370496 := by decide
theorem two_n32 : (4715268809856909312 : UInt64).toNat = (1023 + (23 + 1)) * 4503599627370496 := by decide
theorem two_v32 : vf_n64 (4715268809856909312 : UInt64) := by
  show (4715268809856909312 : UInt64) &&& 0x7fffffffffffffff ≤ 0x7ff0000000000000
  decide
theorem l_bo1_32 (h : VG) (v : UInt64) (bl : Int32) (sg : Int64) (c n : Nat) (h0 : 0 < c) (h1 : c < 9007199254740992) (hb : c.log2 = 23) (hn : n ≤ 971) : ∀ (d j : Nat), j + d = n → ev 210 111 [some (.double v), none, some (.int 23), some (.int 8), some (.long 255), none, some (.int 150), some (.int bl), some (.double (vD c ((n : Int) - j))), none, some (.long sg), none, some (.int (nI (150 + j))), some (.double 4710765210229538816), none] [] h = ev 210 137 [some (.double v), none, some (.int 23), some (.int 8), some (.long 255), none, some (.int 150), some (.int bl), some (.double (vD c 0)), none, some (.long sg), none, some (.int (nI (150 + n))), some (.double 4710765210229538816), none] [] h := by
  intro d
  induction d with
  | zero =>
    intro j hj
    obtain rfl : j = n := by omega
    have e : (j : Int) - j = 0 := by omega
    rw [e]
    have l1 := vD_lt63 (q := 0) h0 h1 (by decide) (by decide)
    have g1 := vD_ge (m := 23 + 1) (q := 0) h0 h1 (by decide) (by decide)
    have c1 : Op.cmpValue (FP.dcmp (vD c 0) 4715268809856909312) .l < 0 := (cmp_n (by omega) (by decide) .l).1.mpr (by rw [two_n32]; omega)
    simp only [e210_111, e210_113, e210_116, e210_118, e210_119, e210_120, two1_32, two_v32, c1, vkk_n, vkk_i, vkk_r, vkk_l, vkk_d, if_true, if_false]
  | succ d ih =>
    intro j hj
    have l1 := vD_lt63 (q := (n : Int) - j) h0 h1 (by omega) (by omega)
    have g1 := vD_ge (m := 23 + 1) (q := (n : Int) - j) h0 h1 (by omega) (by omega)
    have c1 : ¬ Op.cmpValue (FP.dcmp (vD c ((n : Int) - j)) 4715268809856909312) .l < 0 := fun z => by
      have := (cmp_n (by omega) (by decide) .l).1.mp z
      rw [two_n32] at this
      omega
    have d1 : FP.ddiv (vD c ((n : Int) - j)) 4611686018427387904 = vD c ((n : Int) - ((j + 1 : Nat) : Int)) := (vD_div h0 h1 (by omega) (by omega)).trans (by congr 1; omega)
    have d2 : vf_n64 (vD c ((n : Int) - ((j + 1 : Nat) : Int))) := nn64 (vD_nn h0 h1 (by omega) (by omega))
    have := ih (j + 1) (by omega)
    simp only [e210_111, e210_113, e210_116, e210_118, e210_119, e210_120, two1_32, two_v32, c1, if_false]
    simp only [e210_123, e210_125, e210_128, e210_129, e210_131, e210_134, d1, d2, nI_1, vkk_n, vkk_i, vkk_r, vkk_l, vkk_d, if_true, if_false]
    exact this
theorem l_bo1n_32 (h : VG) (v : UInt64) (bl pw : Int32) (sg : Int64) (c : Nat) (q : Int) (h0 : 0 < c) (h1 : c < 9007199254740992) (hb : c.log2 ≤ 23) (hq1 : -1074 ≤ q) (hq : q ≤ 0) : ev 210 111 [some (.double v), none, some (.int 23), some (.int 8), some (.long 255), none, some (.int 150), some (.int bl), some (.double (vD c q)), none, some (.long sg), none, some (.int (pw)), some (.double 4710765210229538816), none] [] h = ev 210 137 [some (.double v), none, some (.int 23), some (.int 8), some (.long 255), none, some (.int 150), some (.int bl), some (.double (vD c q)), none, some (.long sg), none, some (.int (pw)), some (.double 4710765210229538816), none] [] h := by
  have l1 := vD_lt63 h0 h1 hq1 (by omega)
  have g1 := vD_ge (m := 23 + 1) h0 h1 hq1 (by omega)
  have c1 : Op.cmpValue (FP.dcmp (vD c q) 4715268809856909312) .l < 0 := (cmp_n (by omega) (by decide) .l).1.mpr (by rw [two_n32]; omega)
  simp only [e210_111, e210_113, e210_116, e210_118, e210_119, e210_120, two1_32, two_v32, c1, vkk_n, vkk_i, vkk_r, vkk_l, vkk_d, if_true, if_false]
theorem l_bo2_32 (h : VG) (v : UInt64) (bl : Int32) (sg : Int64) (c n : Nat) (h0 : 0 < c) (h1 : c < 9007199254740992) (hb : c.log2 ≤ 23) (hn : n ≤ 149) (hx : n = 149 ∨ c.log2 = 23) : ∀ (d j : Nat), j + d = n → ev 210 137 [some (.double v), none, some (.int 23), some (.int 8), some (.long 255), none, some (.int 150), some (.int bl), some (.double (vD c ((j : Int) - n))), none, some (.long sg), none, some (.int (nI (150 - j))), some (.double 4710765210229538816), none] [] h = ev 210 165 [some (.double v), none, some (.int 23), some (.int 8), some (.long 255), none, some (.int 150), some (.int bl), some (.double (vD c 0)), none, some (.long sg), none, some (.int (nI (150 - n))), some (.double 4710765210229538816), none] [] h := by
  intro d
  induction d with
  | zero =>
    intro j hj
    obtain rfl : j = n := by omega
    have e : (j : Int) - j = 0 := by omega
    rw [e]
    have l1 := vD_lt63 (q := 0) h0 h1 (by decide) (by decide)
    have g1 := vD_ge (m := 23) (q := 0) h0 h1 (by decide) (by decide)
    by_cases hl : c.log2 = 23
    · have c1 : ¬ Op.cmpValue (FP.dcmp (vD c 0) 4710765210229538816) .g < 0 := fun z => by
        have := (cmp_n (by omega) (by decide) .g).1.mp z
        rw [one_n32] at this
        omega
      simp only [e210_137, e210_139, e210_141, e210_142, e210_145, e210_147, e210_148, c1, vkk_n, vkk_i, vkk_r, vkk_l, vkk_d, if_true, if_false]
    · have c1 : Op.cmpValue (FP.dcmp (vD c 0) 4710765210229538816) .g < 0 := (cmp_n (by omega) (by decide) .g).1.mpr (by rw [one_n32]; omega)
      have p1 : nI (150 - j) ≤ 1 := by rw [show 150 - j = 1 by omega]; decide
      simp only [e210_137, e210_139, e210_141, e210_142, e210_145, e210_147, e210_148, c1, p1, vkk_n, vkk_i, vkk_r, vkk_l, vkk_d, if_true, if_false]
  | succ d ih =>
    intro j hj
    have l1 := vD_lt63 (q := (j : Int) - n) h0 h1 (by omega) (by omega)
    have g1 := vD_ge (m := 23) (q := (j : Int) - n) h0 h1 (by omega) (by omega)
    have c1 : Op.cmpValue (FP.dcmp (vD c ((j : Int) - n)) 4710765210229538816) .g < 0 := (cmp_n (by omega) (by decide) .g).1.mpr (by rw [one_n32]; omega)
    have p1 : ¬ nI (150 - j) ≤ 1 := nI_ge (a := 1) (by omega) (by omega)
    have d1 : FP.dmul (vD c ((j : Int) - n)) 4611686018427387904 = vD c (((j + 1 : Nat) : Int) - n) := (vD_mul h0 h1 (by omega) (by omega)).trans (by congr 1; omega)
    have d2 : vf_n64 (vD c (((j + 1 : Nat) : Int) - n)) := nn64 (vD_nn h0 h1 (by omega) (by omega))
    have e1 : nI (150 - j) + -1 = nI (150 - (j + 1)) := by rw [show 150 - j = (150 - (j + 1)) + 1 by omega, pk_m1]
    have := ih (j + 1) (by omega)
    simp only [e210_137, e210_139, e210_141, e210_142, e210_145, e210_147, e210_148, c1, p1, if_true, if_false]
    simp only [e210_151, e210_153, e210_156, e210_157, e210_159, e210_162, d1, d2, e1, vkk_n, vkk_i, vkk_r, vkk_l, vkk_d, if_true, if_false]
    exact this
theorem one_64 : FP.l2d 4503599627370496 = 4841369599423283200 := by decide +kernel
theorem two1_64 : FP.dmul 4611686018427387904 4841369599423283200 = 4845873199050653696 := by decide +kernel
theorem one_n64 : (4841369599423283200 : UInt64).toNat = (1023 + 52) * 4503599627370496 := by decide
theorem two_n64 : (4845873199050653696 : UInt64).toNat = (1023 + (52 + 1)) * 4503599627370496 := by decide
theorem two_v64 : vf_n64 (4845873199050653696 : UInt64) := by
  show (4845873199050653696 : UInt64) &&& 0x7fffffffffffffff ≤ 0x7ff0000000000000
  decide
theorem l_bo1_64 (h : VG) (v : UInt64) (bl : Int32) (sg : Int64) (c n : Nat) (h0 : 0 < c) (h1 : c < 9007199254740992) (hb : c.log2 = 52) (hn : n ≤ 971) : ∀ (d j : Nat), j + d = n → ev 210 111 [some (.double v), none, some (.int 52), some (.int 11), some (.long 2047), none, some (.int 1075), some (.int bl), some (.double (vD c ((n : Int) - j))), none, some (.long sg), none, some (.int (nI (1075 + j))), some (.double 4841369599423283200), none] [] h = ev 210 137 [some (.double v), none, some (.int 52), some (.int 11), some (.long 2047), none, some (.int 1075), some (.int bl), some (.double (vD c 0)), none, some (.long sg), none, some (.int (nI (1075 + n))), some (.double 4841369599423283200), none] [] h := by
  intro d
  induction d with
  | zero =>
    intro j hj
    obtain rfl : j = n := by omega
    have e : (j : Int) - j = 0 := by omega
    rw [e]
    have l1 := vD_lt63 (q := 0) h0 h1 (by decide) (by decide)
    have g1 := vD_ge (m := 52 + 1) (q := 0) h0 h1 (by decide) (by decide)
    have c1 : Op.cmpValue (FP.dcmp (vD c 0) 4845873199050653696) .l < 0 := (cmp_n (by omega) (by decide) .l).1.mpr (by rw [two_n64]; omega)
    simp only [e210_111, e210_113, e210_116, e210_118, e210_119, e210_120, two1_64, two_v64, c1, vkk_n, vkk_i, vkk_r, vkk_l, vkk_d, if_true, if_false]
  | succ d ih =>
    intro j hj
    have l1 := vD_lt63 (q := (n : Int) - j) h0 h1 (by omega) (by omega)
    have g1 := vD_ge (m := 52 + 1) (q := (n : Int) - j) h0 h1 (by omega) (by omega)
    have c1 : ¬ Op.cmpValue (FP.dcmp (vD c ((n : Int) - j)) 4845873199050653696) .l < 0 := fun z => by
      have := (cmp_n (by omega) (by decide) .l).1.mp z
      rw [two_n64] at this
      omega
    have d1 : FP.ddiv (vD c ((n : Int) - j)) 4611686018427387904 = vD c ((n : Int) - ((j + 1 : Nat) : Int)) := (vD_div h0 h1 (by omega) (by omega)).trans (by congr 1; omega)
    have d2 : vf_n64 (vD c ((n : Int) - ((j + 1 : Nat) : Int))) := nn64 (vD_nn h0 h1 (by omega) (by omega))
    have := ih (j + 1) (by omega)
    simp only [e210_111, e210_113, e210_116, e210_118, e210_119, e210_120, two1_64, two_v64, c1, if_false]
    simp only [e210_123, e210_125, e210_128, e210_129, e210_131, e210_134, d1, d2, nI_1, vkk_n, vkk_i, vkk_r, vkk_l, vkk_d, if_true, if_false]
    exact this
theorem l_bo1n_64 (h : VG) (v : UInt64) (bl pw : Int32) (sg : Int64) (c : Nat) (q : Int) (h0 : 0 < c) (h1 : c < 9007199254740992) (hb : c.log2 ≤ 52) (hq1 : -1074 ≤ q) (hq : q ≤ 0) : ev 210 111 [some (.double v), none, some (.int 52), some (.int 11), some (.long 2047), none, some (.int 1075), some (.int bl), some (.double (vD c q)), none, some (.long sg), none, some (.int (pw)), some (.double 4841369599423283200), none] [] h = ev 210 137 [some (.double v), none, some (.int 52), some (.int 11), some (.long 2047), none, some (.int 1075), some (.int bl), some (.double (vD c q)), none, some (.long sg), none, some (.int (pw)), some (.double 4841369599423283200), none] [] h := by
  have l1 := vD_lt63 h0 h1 hq1 (by omega)
  have g1 := vD_ge (m := 52 + 1) h0 h1 hq1 (by omega)
  have c1 : Op.cmpValue (FP.dcmp (vD c q) 4845873199050653696) .l < 0 := (cmp_n (by omega) (by decide) .l).1.mpr (by rw [two_n64]; omega)
  simp only [e210_111, e210_113, e210_116, e210_118, e210_119, e210_120, two1_64, two_v64, c1, vkk_n, vkk_i, vkk_r, vkk_l, vkk_d, if_true, if_false]
theorem l_bo2_64 (h : VG) (v : UInt64) (bl : Int32) (sg : Int64) (c n : Nat) (h0 : 0 < c) (h1 : c < 9007199254740992) (hb : c.log2 ≤ 52) (hn : n ≤ 1074) (hx : n = 1074 ∨ c.log2 = 52) : ∀ (d j : Nat), j + d = n → ev 210 137 [some (.double v), none, some (.int 52), some (.int 11), some (.long 2047), none, some (.int 1075), some (.int bl), some (.double (vD c ((j : Int) - n))), none, some (.long sg), none, some (.int (nI (1075 - j))), some (.double 4841369599423283200), none] [] h = ev 210 165 [some (.double v), none, some (.int 52), some (.int 11), some (.long 2047), none, some (.int 1075), some (.int bl), some (.double (vD c 0)), none, some (.long sg), none, some (.int (nI (1075 - n))), some (.double 4841369599423283200), none] [] h := by
  intro d
  induction d with
  | zero =>
    intro j hj
    obtain rfl : j = n := by omega
    have e : (j : Int) - j = 0 := by omega
    rw [e]
    have l1 := vD_lt63 (q := 0) h0 h1 (by decide) (by decide)
    have g1 := vD_ge (m := 52) (q := 0) h0 h1 (by decide) (by decide)
    by_cases hl : c.log2 = 52
    · have c1 : ¬ Op.cmpValue (FP.dcmp (vD c 0) 4841369599423283200) .g < 0 := fun z => by
        have := (cmp_n (by omega) (by decide) .g).1.mp z
        rw [one_n64] at this
        omega
      simp only [e210_137, e210_139, e210_141, e210_142, e210_145, e210_147, e210_148, c1, vkk_n, vkk_i, vkk_r, vkk_l, vkk_d, if_true, if_false]
    · have c1 : Op.cmpValue (FP.dcmp (vD c 0) 4841369599423283200) .g < 0 := (cmp_n (by omega) (by decide) .g).1.mpr (by rw [one_n64]; omega)
      have p1 : nI (1075 - j) ≤ 1 := by rw [show 1075 - j = 1 by omega]; decide
      simp only [e210_137, e210_139, e210_141, e210_142, e210_145, e210_147, e210_148, c1, p1, vkk_n, vkk_i, vkk_r, vkk_l, vkk_d, if_true, if_false]
  | succ d ih =>
    intro j hj
    have l1 := vD_lt63 (q := (j : Int) - n) h0 h1 (by omega) (by omega)
    have g1 := vD_ge (m := 52) (q := (j : Int) - n) h0 h1 (by omega) (by omega)
    have c1 : Op.cmpValue (FP.dcmp (vD c ((j : Int) - n)) 4841369599423283200) .g < 0 := (cmp_n (by omega) (by decide) .g).1.mpr (by rw [one_n64]; omega)
    have p1 : ¬ nI (1075 - j) ≤ 1 := nI_ge (a := 1) (by omega) (by omega)
    have d1 : FP.dmul (vD c ((j : Int) - n)) 4611686018427387904 = vD c (((j + 1 : Nat) : Int) - n) := (vD_mul h0 h1 (by omega) (by omega)).trans (by congr 1; omega)
    have d2 : vf_n64 (vD c (((j + 1 : Nat) : Int) - n)) := nn64 (vD_nn h0 h1 (by omega) (by omega))
    have e1 : nI (1075 - j) + -1 = nI (1075 - (j + 1)) := by rw [show 1075 - j = (1075 - (j + 1)) + 1 by omega, pk_m1]
    have := ih (j + 1) (by omega)
    simp only [e210_137, e210_139, e210_141, e210_142, e210_145, e210_147, e210_148, c1, p1, if_true, if_false]
    simp only [e210_151, e210_153, e210_156, e210_157, e210_159, e210_162, d1, d2, e1, vkk_n, vkk_i, vkk_r, vkk_l, vkk_d, if_true, if_false]
    exact this
