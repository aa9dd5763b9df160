/-! KINDS: what its whole-number methods answer -/
def kNm (f o : Int32) : Int32 := if o < 1 then f else (f + o - 1) / o * o
def kOn (k : Int32) : Int32 := if k = 8 then 5 else if k = 9 then 5 else k
def kWid (f t : Int32) : Int32 := if f = t then 1 else if f = 0 then 0 else if t = 2 then 0 else if f = 2 then (if t = 3 then 0 else if f < t then 1 else 0) else if f < t then 1 else 0
def kFit (v : Int64) : Int32 := if v = v.toInt32.toInt64 then 1 else 0
def kExt (k : Int32) (v : Int64) (b : Int32) : Int64 := if k = 1 ∨ k = 3 ∨ k = 4 ∨ k = 5 then (v <<< ((64 - 8 * b).toInt64 &&& 63)) >>> ((64 - 8 * b).toInt64 &&& 63) else v
theorem c_bytesOf (h : VG) (g : Nat) (hs : St h g) (k : Nat) (hk : k < 10) (w : Int32) : ev 30 0 [some (.int (nI k)), some (.int w)] [] h = some (some (.int (if w = 0 then vSmall k else vWide k)), h) := by
  obtain ⟨sa, wa, e1, e2, -, -, r1, r2, l1, l2, s1, s2⟩ := hs
  have hi : vp_in (nI k) 10 := vp_in_nI hk (by decide)
  have hc : (nI k).toNatClampNeg = k := nI_clamp (by omega)
  simp +decide only [e30_0, e30_1, e30_4, e30_7, e30_8, e30_9, e30_12, e30_15, e30_16, e30_17, e1, e2, r1, r2, l1, l2, hi, hc, s1 k hk, s2 k hk, vkk_n, vkk_i, vkk_r, vkk_l, vkk_d, catS_nil, catS_i, catS_r, catS_l, catS_d, Nat.reduceAdd, Nat.reduceLeDiff, Nat.zero_le, Nat.le_refl, Option.bind_some, Option.toList_some, Option.toList_none, List.cons_append, List.nil_append, or_true, true_or, if_true, if_false, Int32.reduceLT, Int32.reduceLE, not_true, not_false_iff, true_and, and_true, false_and, and_false]
  split <;> rfl
theorem c_multipleOf (h : VG) (g : Nat) (hs : St h g) (k : Nat) (hk : k < 10) (w : Int32) : ev 31 0 [some (.int (nI k)), some (.int w)] [] h = some (some (.int (if w = 0 then (if 4 < vSmall k then 4 else vSmall k) else vWide k)), h) := by
  obtain ⟨sa, wa, e1, e2, -, -, r1, r2, l1, l2, s1, s2⟩ := hs
  have hi : vp_in (nI k) 10 := vp_in_nI hk (by decide)
  have hc : (nI k).toNatClampNeg = k := nI_clamp (by omega)
  simp +decide only [e31_0, e31_1, e31_4, e31_7, e31_8, e31_9, e31_12, e31_15, e31_16, e31_17, e31_18, e31_21, e1, e2, r1, r2, l1, l2, hi, hc, s1 k hk, s2 k hk, vkk_n, vkk_i, vkk_r, vkk_l, vkk_d, catS_nil, catS_i, catS_r, catS_l, catS_d, Nat.reduceAdd, Nat.reduceLeDiff, Nat.zero_le, Nat.le_refl, Option.bind_some, Option.toList_some, Option.toList_none, List.cons_append, List.nil_append, or_true, true_or, if_true, if_false, Int32.reduceLT, Int32.reduceLE, not_true, not_false_iff, true_and, and_true, false_and, and_false]
  split <;> rfl
theorem c_nextMultiple (h : VG) (f o : Int32) : ev 32 0 [some (.int f), some (.int o)] [] h = some (some (.int (kNm f o)), h) := by
  unfold kNm
  by_cases ho : o < 1
  · simp +decide only [e32_0, e32_1, e32_2, e32_5, e32_6, e32_9, e32_10, e32_11, e32_12, e32_13, e32_14, e32_15, e32_16, e32_17, e32_18, ho, vkk_n, vkk_i, vkk_r, vkk_l, vkk_d, catS_nil, catS_i, catS_r, catS_l, catS_d, Nat.reduceAdd, Nat.reduceLeDiff, Nat.zero_le, Nat.le_refl, Option.bind_some, Option.toList_some, Option.toList_none, List.cons_append, List.nil_append, or_true, true_or, if_true, if_false, Int32.reduceLT, Int32.reduceLE, not_true, not_false_iff, true_and, and_true, false_and, and_false]
  · have hn : ¬ o = 0 := fun z => ho (by rw [z]; decide)
    simp +decide only [e32_0, e32_1, e32_2, e32_5, e32_6, e32_9, e32_10, e32_11, e32_12, e32_13, e32_14, e32_15, e32_16, e32_17, e32_18, ho, hn, vkk_n, vkk_i, vkk_r, vkk_l, vkk_d, catS_nil, catS_i, catS_r, catS_l, catS_d, Nat.reduceAdd, Nat.reduceLeDiff, Nat.zero_le, Nat.le_refl, Option.bind_some, Option.toList_some, Option.toList_none, List.cons_append, List.nil_append, or_true, true_or, if_true, if_false, Int32.reduceLT, Int32.reduceLE, not_true, not_false_iff, true_and, and_true, false_and, and_false]
theorem c_onRow (h : VG) (k : Int32) : ev 33 0 [some (.int k)] [] h = some (some (.int (kOn k)), h) := by
  unfold kOn
  simp +decide only [e33_0, e33_1, e33_3, e33_6, e33_7, e33_9, e33_12, e33_13, e33_16, e33_17, vkk_n, vkk_i, vkk_r, vkk_l, vkk_d, catS_nil, catS_i, catS_r, catS_l, catS_d, Nat.reduceAdd, Nat.reduceLeDiff, Nat.zero_le, Nat.le_refl, Option.bind_some, Option.toList_some, Option.toList_none, List.cons_append, List.nil_append, or_true, true_or, if_true, if_false, Int32.reduceLT, Int32.reduceLE, not_true, not_false_iff, true_and, and_true, false_and, and_false]
  (repeat' split) <;> simp_all
theorem c_widens (h : VG) (f t : Int32) : ev 34 0 [some (.int f), some (.int t)] [] h = some (some (.int (kWid f t)), h) := by
  unfold kWid
  simp +decide only [e34_0, e34_1, e34_2, e34_5, e34_6, e34_7, e34_8, e34_11, e34_12, e34_13, e34_16, e34_17, e34_18, e34_21, e34_22, e34_23, e34_26, e34_27, e34_28, e34_29, e34_30, e34_33, e34_34, e34_37, e34_38, vkk_n, vkk_i, vkk_r, vkk_l, vkk_d, catS_nil, catS_i, catS_r, catS_l, catS_d, Nat.reduceAdd, Nat.reduceLeDiff, Nat.zero_le, Nat.le_refl, Option.bind_some, Option.toList_some, Option.toList_none, List.cons_append, List.nil_append, or_true, true_or, if_true, if_false, Int32.reduceLT, Int32.reduceLE, not_true, not_false_iff, true_and, and_true, false_and, and_false]
  (repeat' split) <;> simp_all
theorem c_fitsInt (h : VG) (v : Int64) : ev 35 0 [some (.long v), none] [] h = some (some (.int (kFit v)), h) := by
  unfold kFit
  simp +decide only [e35_0, e35_1, e35_2, e35_3, e35_4, e35_5, e35_8, e35_9, e35_12, e35_13, lcmp_eq, vkk_n, vkk_i, vkk_r, vkk_l, vkk_d, catS_nil, catS_i, catS_r, catS_l, catS_d, Nat.reduceAdd, Nat.reduceLeDiff, Nat.zero_le, Nat.le_refl, Option.bind_some, Option.toList_some, Option.toList_none, List.cons_append, List.nil_append, or_true, true_or, if_true, if_false, Int32.reduceLT, Int32.reduceLE, not_true, not_false_iff, true_and, and_true, false_and, and_false]
  (repeat' split) <;> simp_all
theorem c_extended (h : VG) (k : Int32) (v : Int64) (b : Int32) : ev 36 0 [some (.int k), some (.long v), none, some (.int b), none] [] h = some (some (.long (kExt k v b)), h) := by
  unfold kExt
  simp +decide only [e36_0, e36_1, e36_2, e36_5, e36_6, e36_7, e36_10, e36_11, e36_12, e36_15, e36_16, e36_17, e36_20, e36_21, e36_22, e36_24, e36_26, e36_27, e36_28, e36_29, e36_31, e36_32, e36_34, e36_35, e36_37, e36_38, vkk_n, vkk_i, vkk_r, vkk_l, vkk_d, catS_nil, catS_i, catS_r, catS_l, catS_d, Nat.reduceAdd, Nat.reduceLeDiff, Nat.zero_le, Nat.le_refl, Option.bind_some, Option.toList_some, Option.toList_none, List.cons_append, List.nil_append, or_true, true_or, if_true, if_false, Int32.reduceLT, Int32.reduceLE, not_true, not_false_iff, true_and, and_true, false_and, and_false]
  (repeat' split) <;> simp_all
/-! BIN: refusals -/
def rowRef (s : Int32) : Int32 := if s = 11 then 3 else if s = 10 then 2 else 0
def plcRef (n i : Int32) : Int32 := if i < 0 then 1 else if i < n then 0 else 1
def celRef (s n i : Int32) : Int32 := if rowRef s = 0 then plcRef n i else rowRef s
def numRef (s n i : Int32) : Int32 := if s = 8 then 2 else if s = 9 then 2 else celRef s n i
def reaRef (s n i k : Int32) : Int32 := if numRef s n i = 0 then (if kWid s k = 0 then 2 else 0) else numRef s n i
def wriRef (s n i k : Int32) : Int32 := if numRef s n i = 0 then (if kWid k s = 0 then 2 else 0) else numRef s n i
theorem c_rowRefusal (h : VG) (a : Nat) (ho : ob h a 1) : ev 5 0 [some (.ref a)] [] h = some (some (.int (rowRef (gI h a 0))), h) := by
  unfold rowRef
  simp +decide only [e5_0, e5_1, e5_4, e5_6, e5_9, e5_10, e5_11, e5_12, e5_15, e5_17, e5_20, e5_21, e5_24, e5_25, ho, vkk_n, vkk_i, vkk_r, vkk_l, vkk_d, catS_nil, catS_i, catS_r, catS_l, catS_d, Nat.reduceAdd, Nat.reduceLeDiff, Nat.zero_le, Nat.le_refl, Option.bind_some, Option.toList_some, Option.toList_none, List.cons_append, List.nil_append, or_true, true_or, if_true, if_false, Int32.reduceLT, Int32.reduceLE, not_true, not_false_iff, true_and, and_true, false_and, and_false]
  (repeat' split) <;> simp_all
theorem c_placeRefusal (h : VG) (a : Nat) (i : Int32) (ho : ob h a 1) : ev 6 0 [some (.ref a), some (.int i)] [] h = some (some (.int (plcRef (gI h a 1) i)), h) := by
  unfold plcRef
  simp +decide only [e6_0, e6_1, e6_4, e6_5, e6_6, e6_9, e6_12, e6_13, e6_16, e6_17, ho, vkk_n, vkk_i, vkk_r, vkk_l, vkk_d, catS_nil, catS_i, catS_r, catS_l, catS_d, Nat.reduceAdd, Nat.reduceLeDiff, Nat.zero_le, Nat.le_refl, Option.bind_some, Option.toList_some, Option.toList_none, List.cons_append, List.nil_append, or_true, true_or, if_true, if_false, Int32.reduceLT, Int32.reduceLE, not_true, not_false_iff, true_and, and_true, false_and, and_false]
  (repeat' split) <;> simp_all
theorem c_cellRefusal (h : VG) (a : Nat) (i : Int32) (ho : ob h a 1) : ev 7 0 [some (.ref a), some (.int i), none] [] h = some (some (.int (celRef (gI h a 0) (gI h a 1) i)), h) := by
  unfold celRef
  simp +decide only [e7_0, e7_1, e7_4, e7_5, e7_6, e7_9, e7_10, e7_13, e7_14, e7_15, e7_18, ho, c_rowRefusal h a ho, c_placeRefusal h a i ho, vkk_n, vkk_i, vkk_r, vkk_l, vkk_d, catS_nil, catS_i, catS_r, catS_l, catS_d, Nat.reduceAdd, Nat.reduceLeDiff, Nat.zero_le, Nat.le_refl, Option.bind_some, Option.toList_some, Option.toList_none, List.cons_append, List.nil_append, or_true, true_or, if_true, if_false, Int32.reduceLT, Int32.reduceLE, not_true, not_false_iff, true_and, and_true, false_and, and_false]
  (repeat' split) <;> simp_all
theorem c_numberRefusal (h : VG) (a : Nat) (i : Int32) (ho : ob h a 1) : ev 8 0 [some (.ref a), some (.int i)] [] h = some (some (.int (numRef (gI h a 0) (gI h a 1) i)), h) := by
  unfold numRef
  simp +decide only [e8_0, e8_1, e8_4, e8_6, e8_9, e8_10, e8_13, e8_15, e8_18, e8_19, e8_20, e8_21, e8_22, e8_25, ho, c_cellRefusal h a i ho, vkk_n, vkk_i, vkk_r, vkk_l, vkk_d, catS_nil, catS_i, catS_r, catS_l, catS_d, Nat.reduceAdd, Nat.reduceLeDiff, Nat.zero_le, Nat.le_refl, Option.bind_some, Option.toList_some, Option.toList_none, List.cons_append, List.nil_append, or_true, true_or, if_true, if_false, Int32.reduceLT, Int32.reduceLE, not_true, not_false_iff, true_and, and_true, false_and, and_false]
  (repeat' split) <;> first | rfl | simp_all
theorem c_readRefusal (h : VG) (a : Nat) (i k : Int32) (ho : ob h a 1) : ev 9 0 [some (.ref a), some (.int i), some (.int k), none] [] h = some (some (.int (reaRef (gI h a 0) (gI h a 1) i k)), h) := by
  unfold reaRef
  simp +decide only [e9_0, e9_1, e9_2, e9_5, e9_6, e9_7, e9_10, e9_11, e9_14, e9_15, e9_18, e9_21, e9_22, e9_25, e9_26, ho, c_numberRefusal h a i ho, c_widens, vkk_n, vkk_i, vkk_r, vkk_l, vkk_d, catS_nil, catS_i, catS_r, catS_l, catS_d, Nat.reduceAdd, Nat.reduceLeDiff, Nat.zero_le, Nat.le_refl, Option.bind_some, Option.toList_some, Option.toList_none, List.cons_append, List.nil_append, or_true, true_or, if_true, if_false, Int32.reduceLT, Int32.reduceLE, not_true, not_false_iff, true_and, and_true, false_and, and_false]
  (repeat' split) <;> first | rfl | simp_all
theorem c_writeRefusal (h : VG) (a : Nat) (i k : Int32) (ho : ob h a 1) : ev 10 0 [some (.ref a), some (.int i), some (.int k), none] [] h = some (some (.int (wriRef (gI h a 0) (gI h a 1) i k)), h) := by
  unfold wriRef
  simp +decide only [e10_0, e10_1, e10_2, e10_5, e10_6, e10_7, e10_10, e10_11, e10_12, e10_15, e10_18, e10_21, e10_22, e10_25, e10_26, ho, c_numberRefusal h a i ho, c_widens, vkk_n, vkk_i, vkk_r, vkk_l, vkk_d, catS_nil, catS_i, catS_r, catS_l, catS_d, Nat.reduceAdd, Nat.reduceLeDiff, Nat.zero_le, Nat.le_refl, Option.bind_some, Option.toList_some, Option.toList_none, List.cons_append, List.nil_append, or_true, true_or, if_true, if_false, Int32.reduceLT, Int32.reduceLE, not_true, not_false_iff, true_and, and_true, false_and, and_false]
  (repeat' split) <;> first | rfl | simp_all
/-! MEMORY: refusals -/
def memRef (line : Int32) (x : Int64) (n : Int32) : Int32 := if n = 0 then 0 else if x < 0 then 5 else if x + n.toInt64 ≤ line.toInt64 then 0 else 5
def fitRef (line k : Int32) (v : Int64) : Int32 := if k = 5 ∧ kFit v = 0 then 6 else if k = 9 then (if v < 0 then 6 else if v ≤ line.toInt64 then 0 else 6) else 0
theorem c_refusalOf (h : VG) (a : Nat) (x : Int64) (n : Int32) (ho : ob h a 5) : ev 54 0 [some (.ref a), some (.long x), none, some (.int n)] [] h = some (some (.int (memRef (gI h a 1) x n)), h) := by
  unfold memRef
  simp +decide only [e54_0, e54_1, e54_4, e54_5, e54_6, e54_7, e54_10, e54_11, e54_12, e54_13, e54_14, e54_15, e54_18, e54_19, e54_20, e54_23, e54_24, e54_27, e54_28, ho, lcmp_lt, lcmp_le, lcmp_eq, vkk_n, vkk_i, vkk_r, vkk_l, vkk_d, catS_nil, catS_i, catS_r, catS_l, catS_d, Nat.reduceAdd, Nat.reduceLeDiff, Nat.zero_le, Nat.le_refl, Option.bind_some, Option.toList_some, Option.toList_none, List.cons_append, List.nil_append, or_true, true_or, if_true, if_false, Int32.reduceLT, Int32.reduceLE, not_true, not_false_iff, true_and, and_true, false_and, and_false]
  (repeat' split) <;> first | rfl | simp_all
theorem c_fitRefusal (h : VG) (a : Nat) (k : Int32) (v : Int64) (ho : ob h a 5) : ev 55 0 [some (.ref a), some (.int k), some (.long v), none, none] [] h = some (some (.int (fitRef (gI h a 1) k v)), h) := by
  unfold fitRef
  simp +decide only [e55_0, e55_1, e55_2, e55_5, e55_6, e55_9, e55_12, e55_13, e55_15, e55_18, e55_19, e55_20, e55_21, e55_24, e55_25, e55_26, e55_29, e55_30, e55_31, e55_34, e55_35, e55_38, e55_39, e55_41, e55_43, e55_46, e55_48, e55_51, e55_52, ho, c_fitsInt, lcmp_lt, lcmp_le, lcmp_eq, vkk_n, vkk_i, vkk_r, vkk_l, vkk_d, catS_nil, catS_i, catS_r, catS_l, catS_d, Nat.reduceAdd, Nat.reduceLeDiff, Nat.zero_le, Nat.le_refl, Option.bind_some, Option.toList_some, Option.toList_none, List.cons_append, List.nil_append, or_true, true_or, if_true, if_false, Int32.reduceLT, Int32.reduceLE, not_true, not_false_iff, true_and, and_true, false_and, and_false]
  (repeat' split) <;> first | rfl | simp_all
