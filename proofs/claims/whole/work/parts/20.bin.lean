/-! BIN: what its methods answer -/
def rowRef (s : Int32) : Int32 := if s = 11 then 3 else if s = 10 then 2 else 0
def plcRef (n i : Int32) : Int32 := if i < 0 then 1 else if i < n then 0 else 1
def celRef (s n i : Int32) : Int32 := if rowRef s = 0 then plcRef n i else rowRef s
def numRef (s n i : Int32) : Int32 := if s = 8 then 2 else if s = 9 then 2 else celRef s n i
theorem c_rowRefusal (h : VG) (a : Nat) (ho : ob h a 1) : ev 5 0 [some (.ref a)] [] h = some (some (.int (rowRef (gI h a 0))), h) := by
  simp only [e5_0, e5_1, e5_4, e5_6, e5_9, e5_10, e5_11, e5_12, e5_15, e5_17, e5_20, e5_21, e5_24, e5_25, ho, vkk_i, vkk_r]
  unfold rowRef
  split
  · rfl
  · split <;> rfl
theorem c_placeRefusal (h : VG) (a : Nat) (i : Int32) (ho : ob h a 1) : ev 6 0 [some (.ref a), some (.int i)] [] h = some (some (.int (plcRef (gI h a 1) i)), h) := by
  simp only [e6_0, e6_1, e6_4, e6_5, e6_6, e6_9, e6_12, e6_13, e6_16, e6_17, ho]
  unfold plcRef
  split
  · rfl
  · split <;> rfl
theorem c_cellRefusal (h : VG) (a : Nat) (i : Int32) (ho : ob h a 1) : ev 7 0 [some (.ref a), some (.int i), none] [] h = some (some (.int (celRef (gI h a 0) (gI h a 1) i)), h) := by
  simp only [e7_0, e7_1, e7_4, e7_5, e7_6, e7_9, e7_10, e7_13, e7_14, e7_15, e7_18, ho, c_rowRefusal h a ho, c_placeRefusal h a i ho, vkk_i, vkk_r, catS, List.map_nil, List.sum_nil, Nat.zero_le, Option.bind_some, Option.toList_some, List.cons_append, List.nil_append]
  unfold celRef
  split <;> simp_all
theorem c_numberRefusal (h : VG) (a : Nat) (i : Int32) (ho : ob h a 1) : ev 8 0 [some (.ref a), some (.int i)] [] h = some (some (.int (numRef (gI h a 0) (gI h a 1) i)), h) := by
  simp only [e8_0, e8_1, e8_4, e8_6, e8_9, e8_10, e8_13, e8_15, e8_18, e8_19, e8_20, e8_21, e8_22, e8_25, ho, c_cellRefusal h a i ho, vkk_i, vkk_r, catS, List.map_nil, List.sum_nil, Nat.zero_le, Option.bind_some, Option.toList_some, List.cons_append, List.nil_append]
  unfold numRef
  split <;> simp_all
