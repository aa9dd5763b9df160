/-! KINDS: the contracts of its methods on floating numbers -/
def nlz32 (n : Nat) : Nat := if n = 0 then 32 else 31 - n.log2
theorem log2_is {n k : Nat} (h1 : 2 ^ k ≤ n) (h2 : n < 2 ^ (k + 1)) : n.log2 = k := (Nat.log2_eq_iff (by have := Nat.two_pow_pos k; omega)).mpr ⟨h1, h2⟩
theorem us16 {n : Nat} (h : n < 4294967296) : ((nI n).toUInt32 >>> ((16 : Int32).toUInt32 &&& Int32.toUInt32 31)).toInt32 = nI (n / 65536) := pk_ushrN h 16 16 (by decide)
theorem us8 {n : Nat} (h : n < 4294967296) : ((nI n).toUInt32 >>> ((8 : Int32).toUInt32 &&& Int32.toUInt32 31)).toInt32 = nI (n / 256) := pk_ushrN h 8 8 (by decide)
theorem us4 {n : Nat} (h : n < 4294967296) : ((nI n).toUInt32 >>> ((4 : Int32).toUInt32 &&& Int32.toUInt32 31)).toInt32 = nI (n / 16) := pk_ushrN h 4 4 (by decide)
theorem us2 {n : Nat} (h : n < 4294967296) : ((nI n).toUInt32 >>> ((2 : Int32).toUInt32 &&& Int32.toUInt32 31)).toInt32 = nI (n / 4) := pk_ushrN h 2 2 (by decide)
theorem us1 {n : Nat} (h : n < 4294967296) : ((nI n).toUInt32 >>> ((1 : Int32).toUInt32 &&& Int32.toUInt32 31)).toInt32 = nI (n / 2) := pk_ushrN h 1 1 (by decide)
set_option maxHeartbeats 4000000 in
theorem c_nlz32p (h : VG) (n : Nat) (hn0 : 0 < n) (hn : n < 2147483648) : ev 235 0 [some (.int (nI n)), none] [] h = some (some (.int (nI (31 - n.log2))), h) := by
    have h0 : ¬ nI n = 0 := nI_ne0 hn0 hn
    have h1 : ¬ nI n ≤ 0 := nI_nle hn0 hn
    have b32 : ∀ j : Nat, j < 4294967296 → ((nI j).toUInt32 >>> ((1 : Int32).toUInt32 &&& Int32.toUInt32 31)).toInt32 = nI (j / 2) := fun j hj => us1 hj
    by_cases q0 : n < 65536
    · have a0 : nI n < 65536 := nI_lt (b := 65536) q0 (by decide)
      by_cases q1 : n < 256
      · have a1 : nI n < 256 := nI_lt (b := 256) q1 (by decide)
        by_cases q2 : n < 16
        · have a2 : nI n < 16 := nI_lt (b := 16) q2 (by decide)
          by_cases q3 : n < 4
          · have a3 : nI n < 4 := nI_lt (b := 4) q3 (by decide)
            have cz := us1 (n := n) (by omega)
            rcases (show n / 2 = 0 ∨ n / 2 = 1 by omega) with r | r
            · rw [show n.log2 = 0 from log2_is (by omega) (by omega)]
              simp +decide only [e235_0, e235_1, e235_4, e235_5, e235_8, e235_10, e235_13, e235_14, e235_15, e235_17, e235_18, e235_19, e235_22, e235_25, e235_28, e235_29, e235_31, e235_32, e235_33, e235_34, e235_37, e235_40, e235_43, e235_44, e235_46, e235_47, e235_48, e235_49, e235_51, e235_54, e235_57, e235_58, e235_59, e235_60, e235_61, e235_62, e235_63, e235_66, e235_69, e235_70, e235_71, e235_72, e235_73, e235_74, e235_75, e235_76, e235_77, e235_78, a0, a1, a2, a3, h0, h1, r, cz, vkk_n, vkk_i, vkk_r, vkk_l, vkk_d, catS_nil, catS_i, catS_r, catS_l, catS_d, Nat.reduceAdd, Nat.reduceLeDiff, Nat.zero_le, Nat.le_refl, Option.bind_some, Option.toList_some, Option.toList_none, List.cons_append, List.nil_append, or_true, true_or, if_true, if_false, Int32.reduceLT, Int32.reduceLE, not_true, not_false_iff, true_and, and_true, false_and, and_false]
              first | rfl | decide
            · rw [show n.log2 = 1 from log2_is (by omega) (by omega)]
              simp +decide only [e235_0, e235_1, e235_4, e235_5, e235_8, e235_10, e235_13, e235_14, e235_15, e235_17, e235_18, e235_19, e235_22, e235_25, e235_28, e235_29, e235_31, e235_32, e235_33, e235_34, e235_37, e235_40, e235_43, e235_44, e235_46, e235_47, e235_48, e235_49, e235_51, e235_54, e235_57, e235_58, e235_59, e235_60, e235_61, e235_62, e235_63, e235_66, e235_69, e235_70, e235_71, e235_72, e235_73, e235_74, e235_75, e235_76, e235_77, e235_78, a0, a1, a2, a3, h0, h1, r, cz, vkk_n, vkk_i, vkk_r, vkk_l, vkk_d, catS_nil, catS_i, catS_r, catS_l, catS_d, Nat.reduceAdd, Nat.reduceLeDiff, Nat.zero_le, Nat.le_refl, Option.bind_some, Option.toList_some, Option.toList_none, List.cons_append, List.nil_append, or_true, true_or, if_true, if_false, Int32.reduceLT, Int32.reduceLE, not_true, not_false_iff, true_and, and_true, false_and, and_false]
              first | rfl | decide
          · have a3 : ¬ nI n < 4 := nI_nlt (b := 4) (by omega) (by omega)
            have c3 := us2 (n := n) (by omega)
            have cz := us1 (n := (n / 4)) (by omega)
            rcases (show (n / 4) / 2 = 0 ∨ (n / 4) / 2 = 1 by omega) with r | r
            · rw [show n.log2 = 2 from log2_is (by omega) (by omega)]
              simp +decide only [e235_0, e235_1, e235_4, e235_5, e235_8, e235_10, e235_13, e235_14, e235_15, e235_17, e235_18, e235_19, e235_22, e235_25, e235_28, e235_29, e235_31, e235_32, e235_33, e235_34, e235_37, e235_40, e235_43, e235_44, e235_46, e235_47, e235_48, e235_49, e235_51, e235_54, e235_57, e235_58, e235_59, e235_60, e235_61, e235_62, e235_63, e235_66, e235_69, e235_70, e235_71, e235_72, e235_73, e235_74, e235_75, e235_76, e235_77, e235_78, a0, a1, a2, a3, c3, h0, h1, r, cz, vkk_n, vkk_i, vkk_r, vkk_l, vkk_d, catS_nil, catS_i, catS_r, catS_l, catS_d, Nat.reduceAdd, Nat.reduceLeDiff, Nat.zero_le, Nat.le_refl, Option.bind_some, Option.toList_some, Option.toList_none, List.cons_append, List.nil_append, or_true, true_or, if_true, if_false, Int32.reduceLT, Int32.reduceLE, not_true, not_false_iff, true_and, and_true, false_and, and_false]
              first | rfl | decide
            · rw [show n.log2 = 3 from log2_is (by omega) (by omega)]
              simp +decide only [e235_0, e235_1, e235_4, e235_5, e235_8, e235_10, e235_13, e235_14, e235_15, e235_17, e235_18, e235_19, e235_22, e235_25, e235_28, e235_29, e235_31, e235_32, e235_33, e235_34, e235_37, e235_40, e235_43, e235_44, e235_46, e235_47, e235_48, e235_49, e235_51, e235_54, e235_57, e235_58, e235_59, e235_60, e235_61, e235_62, e235_63, e235_66, e235_69, e235_70, e235_71, e235_72, e235_73, e235_74, e235_75, e235_76, e235_77, e235_78, a0, a1, a2, a3, c3, h0, h1, r, cz, vkk_n, vkk_i, vkk_r, vkk_l, vkk_d, catS_nil, catS_i, catS_r, catS_l, catS_d, Nat.reduceAdd, Nat.reduceLeDiff, Nat.zero_le, Nat.le_refl, Option.bind_some, Option.toList_some, Option.toList_none, List.cons_append, List.nil_append, or_true, true_or, if_true, if_false, Int32.reduceLT, Int32.reduceLE, not_true, not_false_iff, true_and, and_true, false_and, and_false]
              first | rfl | decide
        · have a2 : ¬ nI n < 16 := nI_nlt (b := 16) (by omega) (by omega)
          have c2 := us4 (n := n) (by omega)
          by_cases q3 : (n / 16) < 4
          · have a3 : nI (n / 16) < 4 := nI_lt (b := 4) q3 (by decide)
            have cz := us1 (n := (n / 16)) (by omega)
            rcases (show (n / 16) / 2 = 0 ∨ (n / 16) / 2 = 1 by omega) with r | r
            · rw [show n.log2 = 4 from log2_is (by omega) (by omega)]
              simp +decide only [e235_0, e235_1, e235_4, e235_5, e235_8, e235_10, e235_13, e235_14, e235_15, e235_17, e235_18, e235_19, e235_22, e235_25, e235_28, e235_29, e235_31, e235_32, e235_33, e235_34, e235_37, e235_40, e235_43, e235_44, e235_46, e235_47, e235_48, e235_49, e235_51, e235_54, e235_57, e235_58, e235_59, e235_60, e235_61, e235_62, e235_63, e235_66, e235_69, e235_70, e235_71, e235_72, e235_73, e235_74, e235_75, e235_76, e235_77, e235_78, a0, a1, a2, c2, a3, h0, h1, r, cz, vkk_n, vkk_i, vkk_r, vkk_l, vkk_d, catS_nil, catS_i, catS_r, catS_l, catS_d, Nat.reduceAdd, Nat.reduceLeDiff, Nat.zero_le, Nat.le_refl, Option.bind_some, Option.toList_some, Option.toList_none, List.cons_append, List.nil_append, or_true, true_or, if_true, if_false, Int32.reduceLT, Int32.reduceLE, not_true, not_false_iff, true_and, and_true, false_and, and_false]
              first | rfl | decide
            · rw [show n.log2 = 5 from log2_is (by omega) (by omega)]
              simp +decide only [e235_0, e235_1, e235_4, e235_5, e235_8, e235_10, e235_13, e235_14, e235_15, e235_17, e235_18, e235_19, e235_22, e235_25, e235_28, e235_29, e235_31, e235_32, e235_33, e235_34, e235_37, e235_40, e235_43, e235_44, e235_46, e235_47, e235_48, e235_49, e235_51, e235_54, e235_57, e235_58, e235_59, e235_60, e235_61, e235_62, e235_63, e235_66, e235_69, e235_70, e235_71, e235_72, e235_73, e235_74, e235_75, e235_76, e235_77, e235_78, a0, a1, a2, c2, a3, h0, h1, r, cz, vkk_n, vkk_i, vkk_r, vkk_l, vkk_d, catS_nil, catS_i, catS_r, catS_l, catS_d, Nat.reduceAdd, Nat.reduceLeDiff, Nat.zero_le, Nat.le_refl, Option.bind_some, Option.toList_some, Option.toList_none, List.cons_append, List.nil_append, or_true, true_or, if_true, if_false, Int32.reduceLT, Int32.reduceLE, not_true, not_false_iff, true_and, and_true, false_and, and_false]
              first | rfl | decide
          · have a3 : ¬ nI (n / 16) < 4 := nI_nlt (b := 4) (by omega) (by omega)
            have c3 := us2 (n := (n / 16)) (by omega)
            have cz := us1 (n := ((n / 16) / 4)) (by omega)
            rcases (show ((n / 16) / 4) / 2 = 0 ∨ ((n / 16) / 4) / 2 = 1 by omega) with r | r
            · rw [show n.log2 = 6 from log2_is (by omega) (by omega)]
              simp +decide only [e235_0, e235_1, e235_4, e235_5, e235_8, e235_10, e235_13, e235_14, e235_15, e235_17, e235_18, e235_19, e235_22, e235_25, e235_28, e235_29, e235_31, e235_32, e235_33, e235_34, e235_37, e235_40, e235_43, e235_44, e235_46, e235_47, e235_48, e235_49, e235_51, e235_54, e235_57, e235_58, e235_59, e235_60, e235_61, e235_62, e235_63, e235_66, e235_69, e235_70, e235_71, e235_72, e235_73, e235_74, e235_75, e235_76, e235_77, e235_78, a0, a1, a2, c2, a3, c3, h0, h1, r, cz, vkk_n, vkk_i, vkk_r, vkk_l, vkk_d, catS_nil, catS_i, catS_r, catS_l, catS_d, Nat.reduceAdd, Nat.reduceLeDiff, Nat.zero_le, Nat.le_refl, Option.bind_some, Option.toList_some, Option.toList_none, List.cons_append, List.nil_append, or_true, true_or, if_true, if_false, Int32.reduceLT, Int32.reduceLE, not_true, not_false_iff, true_and, and_true, false_and, and_false]
              first | rfl | decide
            · rw [show n.log2 = 7 from log2_is (by omega) (by omega)]
              simp +decide only [e235_0, e235_1, e235_4, e235_5, e235_8, e235_10, e235_13, e235_14, e235_15, e235_17, e235_18, e235_19, e235_22, e235_25, e235_28, e235_29, e235_31, e235_32, e235_33, e235_34, e235_37, e235_40, e235_43, e235_44, e235_46, e235_47, e235_48, e235_49, e235_51, e235_54, e235_57, e235_58, e235_59, e235_60, e235_61, e235_62, e235_63, e235_66, e235_69, e235_70, e235_71, e235_72, e235_73, e235_74, e235_75, e235_76, e235_77, e235_78, a0, a1, a2, c2, a3, c3, h0, h1, r, cz, vkk_n, vkk_i, vkk_r, vkk_l, vkk_d, catS_nil, catS_i, catS_r, catS_l, catS_d, Nat.reduceAdd, Nat.reduceLeDiff, Nat.zero_le, Nat.le_refl, Option.bind_some, Option.toList_some, Option.toList_none, List.cons_append, List.nil_append, or_true, true_or, if_true, if_false, Int32.reduceLT, Int32.reduceLE, not_true, not_false_iff, true_and, and_true, false_and, and_false]
              first | rfl | decide
      · have a1 : ¬ nI n < 256 := nI_nlt (b := 256) (by omega) (by omega)
        have c1 := us8 (n := n) (by omega)
        by_cases q2 : (n / 256) < 16
        · have a2 : nI (n / 256) < 16 := nI_lt (b := 16) q2 (by decide)
          by_cases q3 : (n / 256) < 4
          · have a3 : nI (n / 256) < 4 := nI_lt (b := 4) q3 (by decide)
            have cz := us1 (n := (n / 256)) (by omega)
            rcases (show (n / 256) / 2 = 0 ∨ (n / 256) / 2 = 1 by omega) with r | r
            · rw [show n.log2 = 8 from log2_is (by omega) (by omega)]
              simp +decide only [e235_0, e235_1, e235_4, e235_5, e235_8, e235_10, e235_13, e235_14, e235_15, e235_17, e235_18, e235_19, e235_22, e235_25, e235_28, e235_29, e235_31, e235_32, e235_33, e235_34, e235_37, e235_40, e235_43, e235_44, e235_46, e235_47, e235_48, e235_49, e235_51, e235_54, e235_57, e235_58, e235_59, e235_60, e235_61, e235_62, e235_63, e235_66, e235_69, e235_70, e235_71, e235_72, e235_73, e235_74, e235_75, e235_76, e235_77, e235_78, a0, a1, c1, a2, a3, h0, h1, r, cz, vkk_n, vkk_i, vkk_r, vkk_l, vkk_d, catS_nil, catS_i, catS_r, catS_l, catS_d, Nat.reduceAdd, Nat.reduceLeDiff, Nat.zero_le, Nat.le_refl, Option.bind_some, Option.toList_some, Option.toList_none, List.cons_append, List.nil_append, or_true, true_or, if_true, if_false, Int32.reduceLT, Int32.reduceLE, not_true, not_false_iff, true_and, and_true, false_and, and_false]
              first | rfl | decide
            · rw [show n.log2 = 9 from log2_is (by omega) (by omega)]
              simp +decide only [e235_0, e235_1, e235_4, e235_5, e235_8, e235_10, e235_13, e235_14, e235_15, e235_17, e235_18, e235_19, e235_22, e235_25, e235_28, e235_29, e235_31, e235_32, e235_33, e235_34, e235_37, e235_40, e235_43, e235_44, e235_46, e235_47, e235_48, e235_49, e235_51, e235_54, e235_57, e235_58, e235_59, e235_60, e235_61, e235_62, e235_63, e235_66, e235_69, e235_70, e235_71, e235_72, e235_73, e235_74, e235_75, e235_76, e235_77, e235_78, a0, a1, c1, a2, a3, h0, h1, r, cz, vkk_n, vkk_i, vkk_r, vkk_l, vkk_d, catS_nil, catS_i, catS_r, catS_l, catS_d, Nat.reduceAdd, Nat.reduceLeDiff, Nat.zero_le, Nat.le_refl, Option.bind_some, Option.toList_some, Option.toList_none, List.cons_append, List.nil_append, or_true, true_or, if_true, if_false, Int32.reduceLT, Int32.reduceLE, not_true, not_false_iff, true_and, and_true, false_and, and_false]
              first | rfl | decide
          · have a3 : ¬ nI (n / 256) < 4 := nI_nlt (b := 4) (by omega) (by omega)
            have c3 := us2 (n := (n / 256)) (by omega)
            have cz := us1 (n := ((n / 256) / 4)) (by omega)
            rcases (show ((n / 256) / 4) / 2 = 0 ∨ ((n / 256) / 4) / 2 = 1 by omega) with r | r
            · rw [show n.log2 = 10 from log2_is (by omega) (by omega)]
              simp +decide only [e235_0, e235_1, e235_4, e235_5, e235_8, e235_10, e235_13, e235_14, e235_15, e235_17, e235_18, e235_19, e235_22, e235_25, e235_28, e235_29, e235_31, e235_32, e235_33, e235_34, e235_37, e235_40, e235_43, e235_44, e235_46, e235_47, e235_48, e235_49, e235_51, e235_54, e235_57, e235_58, e235_59, e235_60, e235_61, e235_62, e235_63, e235_66, e235_69, e235_70, e235_71, e235_72, e235_73, e235_74, e235_75, e235_76, e235_77, e235_78, a0, a1, c1, a2, a3, c3, h0, h1, r, cz, vkk_n, vkk_i, vkk_r, vkk_l, vkk_d, catS_nil, catS_i, catS_r, catS_l, catS_d, Nat.reduceAdd, Nat.reduceLeDiff, Nat.zero_le, Nat.le_refl, Option.bind_some, Option.toList_some, Option.toList_none, List.cons_append, List.nil_append, or_true, true_or, if_true, if_false, Int32.reduceLT, Int32.reduceLE, not_true, not_false_iff, true_and, and_true, false_and, and_false]
              first | rfl | decide
            · rw [show n.log2 = 11 from log2_is (by omega) (by omega)]
              simp +decide only [e235_0, e235_1, e235_4, e235_5, e235_8, e235_10, e235_13, e235_14, e235_15, e235_17, e235_18, e235_19, e235_22, e235_25, e235_28, e235_29, e235_31, e235_32, e235_33, e235_34, e235_37, e235_40, e235_43, e235_44, e235_46, e235_47, e235_48, e235_49, e235_51, e235_54, e235_57, e235_58, e235_59, e235_60, e235_61, e235_62, e235_63, e235_66, e235_69, e235_70, e235_71, e235_72, e235_73, e235_74, e235_75, e235_76, e235_77, e235_78, a0, a1, c1, a2, a3, c3, h0, h1, r, cz, vkk_n, vkk_i, vkk_r, vkk_l, vkk_d, catS_nil, catS_i, catS_r, catS_l, catS_d, Nat.reduceAdd, Nat.reduceLeDiff, Nat.zero_le, Nat.le_refl, Option.bind_some, Option.toList_some, Option.toList_none, List.cons_append, List.nil_append, or_true, true_or, if_true, if_false, Int32.reduceLT, Int32.reduceLE, not_true, not_false_iff, true_and, and_true, false_and, and_false]
              first | rfl | decide
        · have a2 : ¬ nI (n / 256) < 16 := nI_nlt (b := 16) (by omega) (by omega)
          have c2 := us4 (n := (n / 256)) (by omega)
          by_cases q3 : ((n / 256) / 16) < 4
          · have a3 : nI ((n / 256) / 16) < 4 := nI_lt (b := 4) q3 (by decide)
            have cz := us1 (n := ((n / 256) / 16)) (by omega)
            rcases (show ((n / 256) / 16) / 2 = 0 ∨ ((n / 256) / 16) / 2 = 1 by omega) with r | r
            · rw [show n.log2 = 12 from log2_is (by omega) (by omega)]
              simp +decide only [e235_0, e235_1, e235_4, e235_5, e235_8, e235_10, e235_13, e235_14, e235_15, e235_17, e235_18, e235_19, e235_22, e235_25, e235_28, e235_29, e235_31, e235_32, e235_33, e235_34, e235_37, e235_40, e235_43, e235_44, e235_46, e235_47, e235_48, e235_49, e235_51, e235_54, e235_57, e235_58, e235_59, e235_60, e235_61, e235_62, e235_63, e235_66, e235_69, e235_70, e235_71, e235_72, e235_73, e235_74, e235_75, e235_76, e235_77, e235_78, a0, a1, c1, a2, c2, a3, h0, h1, r, cz, vkk_n, vkk_i, vkk_r, vkk_l, vkk_d, catS_nil, catS_i, catS_r, catS_l, catS_d, Nat.reduceAdd, Nat.reduceLeDiff, Nat.zero_le, Nat.le_refl, Option.bind_some, Option.toList_some, Option.toList_none, List.cons_append, List.nil_append, or_true, true_or, if_true, if_false, Int32.reduceLT, Int32.reduceLE, not_true, not_false_iff, true_and, and_true, false_and, and_false]
              first | rfl | decide
            · rw [show n.log2 = 13 from log2_is (by omega) (by omega)]
              simp +decide only [e235_0, e235_1, e235_4, e235_5, e235_8, e235_10, e235_13, e235_14, e235_15, e235_17, e235_18, e235_19, e235_22, e235_25, e235_28, e235_29, e235_31, e235_32, e235_33, e235_34, e235_37, e235_40, e235_43, e235_44, e235_46, e235_47, e235_48, e235_49, e235_51, e235_54, e235_57, e235_58, e235_59, e235_60, e235_61, e235_62, e235_63, e235_66, e235_69, e235_70, e235_71, e235_72, e235_73, e235_74, e235_75, e235_76, e235_77, e235_78, a0, a1, c1, a2, c2, a3, h0, h1, r, cz, vkk_n, vkk_i, vkk_r, vkk_l, vkk_d, catS_nil, catS_i, catS_r, catS_l, catS_d, Nat.reduceAdd, Nat.reduceLeDiff, Nat.zero_le, Nat.le_refl, Option.bind_some, Option.toList_some, Option.toList_none, List.cons_append, List.nil_append, or_true, true_or, if_true, if_false, Int32.reduceLT, Int32.reduceLE, not_true, not_false_iff, true_and, and_true, false_and, and_false]
              first | rfl | decide
          · have a3 : ¬ nI ((n / 256) / 16) < 4 := nI_nlt (b := 4) (by omega) (by omega)
            have c3 := us2 (n := ((n / 256) / 16)) (by omega)
            have cz := us1 (n := (((n / 256) / 16) / 4)) (by omega)
            rcases (show (((n / 256) / 16) / 4) / 2 = 0 ∨ (((n / 256) / 16) / 4) / 2 = 1 by omega) with r | r
            · rw [show n.log2 = 14 from log2_is (by omega) (by omega)]
              simp +decide only [e235_0, e235_1, e235_4, e235_5, e235_8, e235_10, e235_13, e235_14, e235_15, e235_17, e235_18, e235_19, e235_22, e235_25, e235_28, e235_29, e235_31, e235_32, e235_33, e235_34, e235_37, e235_40, e235_43, e235_44, e235_46, e235_47, e235_48, e235_49, e235_51, e235_54, e235_57, e235_58, e235_59, e235_60, e235_61, e235_62, e235_63, e235_66, e235_69, e235_70, e235_71, e235_72, e235_73, e235_74, e235_75, e235_76, e235_77, e235_78, a0, a1, c1, a2, c2, a3, c3, h0, h1, r, cz, vkk_n, vkk_i, vkk_r, vkk_l, vkk_d, catS_nil, catS_i, catS_r, catS_l, catS_d, Nat.reduceAdd, Nat.reduceLeDiff, Nat.zero_le, Nat.le_refl, Option.bind_some, Option.toList_some, Option.toList_none, List.cons_append, List.nil_append, or_true, true_or, if_true, if_false, Int32.reduceLT, Int32.reduceLE, not_true, not_false_iff, true_and, and_true, false_and, and_false]
              first | rfl | decide
            · rw [show n.log2 = 15 from log2_is (by omega) (by omega)]
              simp +decide only [e235_0, e235_1, e235_4, e235_5, e235_8, e235_10, e235_13, e235_14, e235_15, e235_17, e235_18, e235_19, e235_22, e235_25, e235_28, e235_29, e235_31, e235_32, e235_33, e235_34, e235_37, e235_40, e235_43, e235_44, e235_46, e235_47, e235_48, e235_49, e235_51, e235_54, e235_57, e235_58, e235_59, e235_60, e235_61, e235_62, e235_63, e235_66, e235_69, e235_70, e235_71, e235_72, e235_73, e235_74, e235_75, e235_76, e235_77, e235_78, a0, a1, c1, a2, c2, a3, c3, h0, h1, r, cz, vkk_n, vkk_i, vkk_r, vkk_l, vkk_d, catS_nil, catS_i, catS_r, catS_l, catS_d, Nat.reduceAdd, Nat.reduceLeDiff, Nat.zero_le, Nat.le_refl, Option.bind_some, Option.toList_some, Option.toList_none, List.cons_append, List.nil_append, or_true, true_or, if_true, if_false, Int32.reduceLT, Int32.reduceLE, not_true, not_false_iff, true_and, and_true, false_and, and_false]
              first | rfl | decide
    · have a0 : ¬ nI n < 65536 := nI_nlt (b := 65536) (by omega) (by omega)
      have c0 := us16 (n := n) (by omega)
      by_cases q1 : (n / 65536) < 256
      · have a1 : nI (n / 65536) < 256 := nI_lt (b := 256) q1 (by decide)
        by_cases q2 : (n / 65536) < 16
        · have a2 : nI (n / 65536) < 16 := nI_lt (b := 16) q2 (by decide)
          by_cases q3 : (n / 65536) < 4
          · have a3 : nI (n / 65536) < 4 := nI_lt (b := 4) q3 (by decide)
            have cz := us1 (n := (n / 65536)) (by omega)
            rcases (show (n / 65536) / 2 = 0 ∨ (n / 65536) / 2 = 1 by omega) with r | r
            · rw [show n.log2 = 16 from log2_is (by omega) (by omega)]
              simp +decide only [e235_0, e235_1, e235_4, e235_5, e235_8, e235_10, e235_13, e235_14, e235_15, e235_17, e235_18, e235_19, e235_22, e235_25, e235_28, e235_29, e235_31, e235_32, e235_33, e235_34, e235_37, e235_40, e235_43, e235_44, e235_46, e235_47, e235_48, e235_49, e235_51, e235_54, e235_57, e235_58, e235_59, e235_60, e235_61, e235_62, e235_63, e235_66, e235_69, e235_70, e235_71, e235_72, e235_73, e235_74, e235_75, e235_76, e235_77, e235_78, a0, c0, a1, a2, a3, h0, h1, r, cz, vkk_n, vkk_i, vkk_r, vkk_l, vkk_d, catS_nil, catS_i, catS_r, catS_l, catS_d, Nat.reduceAdd, Nat.reduceLeDiff, Nat.zero_le, Nat.le_refl, Option.bind_some, Option.toList_some, Option.toList_none, List.cons_append, List.nil_append, or_true, true_or, if_true, if_false, Int32.reduceLT, Int32.reduceLE, not_true, not_false_iff, true_and, and_true, false_and, and_false]
              first | rfl | decide
            · rw [show n.log2 = 17 from log2_is (by omega) (by omega)]
              simp +decide only [e235_0, e235_1, e235_4, e235_5, e235_8, e235_10, e235_13, e235_14, e235_15, e235_17, e235_18, e235_19, e235_22, e235_25, e235_28, e235_29, e235_31, e235_32, e235_33, e235_34, e235_37, e235_40, e235_43, e235_44, e235_46, e235_47, e235_48, e235_49, e235_51, e235_54, e235_57, e235_58, e235_59, e235_60, e235_61, e235_62, e235_63, e235_66, e235_69, e235_70, e235_71, e235_72, e235_73, e235_74, e235_75, e235_76, e235_77, e235_78, a0, c0, a1, a2, a3, h0, h1, r, cz, vkk_n, vkk_i, vkk_r, vkk_l, vkk_d, catS_nil, catS_i, catS_r, catS_l, catS_d, Nat.reduceAdd, Nat.reduceLeDiff, Nat.zero_le, Nat.le_refl, Option.bind_some, Option.toList_some, Option.toList_none, List.cons_append, List.nil_append, or_true, true_or, if_true, if_false, Int32.reduceLT, Int32.reduceLE, not_true, not_false_iff, true_and, and_true, false_and, and_false]
              first | rfl | decide
          · have a3 : ¬ nI (n / 65536) < 4 := nI_nlt (b := 4) (by omega) (by omega)
            have c3 := us2 (n := (n / 65536)) (by omega)
            have cz := us1 (n := ((n / 65536) / 4)) (by omega)
            rcases (show ((n / 65536) / 4) / 2 = 0 ∨ ((n / 65536) / 4) / 2 = 1 by omega) with r | r
            · rw [show n.log2 = 18 from log2_is (by omega) (by omega)]
              simp +decide only [e235_0, e235_1, e235_4, e235_5, e235_8, e235_10, e235_13, e235_14, e235_15, e235_17, e235_18, e235_19, e235_22, e235_25, e235_28, e235_29, e235_31, e235_32, e235_33, e235_34, e235_37, e235_40, e235_43, e235_44, e235_46, e235_47, e235_48, e235_49, e235_51, e235_54, e235_57, e235_58, e235_59, e235_60, e235_61, e235_62, e235_63, e235_66, e235_69, e235_70, e235_71, e235_72, e235_73, e235_74, e235_75, e235_76, e235_77, e235_78, a0, c0, a1, a2, a3, c3, h0, h1, r, cz, vkk_n, vkk_i, vkk_r, vkk_l, vkk_d, catS_nil, catS_i, catS_r, catS_l, catS_d, Nat.reduceAdd, Nat.reduceLeDiff, Nat.zero_le, Nat.le_refl, Option.bind_some, Option.toList_some, Option.toList_none, List.cons_append, List.nil_append, or_true, true_or, if_true, if_false, Int32.reduceLT, Int32.reduceLE, not_true, not_false_iff, true_and, and_true, false_and, and_false]
              first | rfl | decide
            · rw [show n.log2 = 19 from log2_is (by omega) (by omega)]
              simp +decide only [e235_0, e235_1, e235_4, e235_5, e235_8, e235_10, e235_13, e235_14, e235_15, e235_17, e235_18, e235_19, e235_22, e235_25, e235_28, e235_29, e235_31, e235_32, e235_33, e235_34, e235_37, e235_40, e235_43, e235_44, e235_46, e235_47, e235_48, e235_49, e235_51, e235_54, e235_57, e235_58, e235_59, e235_60, e235_61, e235_62, e235_63, e235_66, e235_69, e235_70, e235_71, e235_72, e235_73, e235_74, e235_75, e235_76, e235_77, e235_78, a0, c0, a1, a2, a3, c3, h0, h1, r, cz, vkk_n, vkk_i, vkk_r, vkk_l, vkk_d, catS_nil, catS_i, catS_r, catS_l, catS_d, Nat.reduceAdd, Nat.reduceLeDiff, Nat.zero_le, Nat.le_refl, Option.bind_some, Option.toList_some, Option.toList_none, List.cons_append, List.nil_append, or_true, true_or, if_true, if_false, Int32.reduceLT, Int32.reduceLE, not_true, not_false_iff, true_and, and_true, false_and, and_false]
              first | rfl | decide
        · have a2 : ¬ nI (n / 65536) < 16 := nI_nlt (b := 16) (by omega) (by omega)
          have c2 := us4 (n := (n / 65536)) (by omega)
          by_cases q3 : ((n / 65536) / 16) < 4
          · have a3 : nI ((n / 65536) / 16) < 4 := nI_lt (b := 4) q3 (by decide)
            have cz := us1 (n := ((n / 65536) / 16)) (by omega)
            rcases (show ((n / 65536) / 16) / 2 = 0 ∨ ((n / 65536) / 16) / 2 = 1 by omega) with r | r
            · rw [show n.log2 = 20 from log2_is (by omega) (by omega)]
              simp +decide only [e235_0, e235_1, e235_4, e235_5, e235_8, e235_10, e235_13, e235_14, e235_15, e235_17, e235_18, e235_19, e235_22, e235_25, e235_28, e235_29, e235_31, e235_32, e235_33, e235_34, e235_37, e235_40, e235_43, e235_44, e235_46, e235_47, e235_48, e235_49, e235_51, e235_54, e235_57, e235_58, e235_59, e235_60, e235_61, e235_62, e235_63, e235_66, e235_69, e235_70, e235_71, e235_72, e235_73, e235_74, e235_75, e235_76, e235_77, e235_78, a0, c0, a1, a2, c2, a3, h0, h1, r, cz, vkk_n, vkk_i, vkk_r, vkk_l, vkk_d, catS_nil, catS_i, catS_r, catS_l, catS_d, Nat.reduceAdd, Nat.reduceLeDiff, Nat.zero_le, Nat.le_refl, Option.bind_some, Option.toList_some, Option.toList_none, List.cons_append, List.nil_append, or_true, true_or, if_true, if_false, Int32.reduceLT, Int32.reduceLE, not_true, not_false_iff, true_and, and_true, false_and, and_false]
              first | rfl | decide
            · rw [show n.log2 = 21 from log2_is (by omega) (by omega)]
              simp +decide only [e235_0, e235_1, e235_4, e235_5, e235_8, e235_10, e235_13, e235_14, e235_15, e235_17, e235_18, e235_19, e235_22, e235_25, e235_28, e235_29, e235_31, e235_32, e235_33, e235_34, e235_37, e235_40, e235_43, e235_44, e235_46, e235_47, e235_48, e235_49, e235_51, e235_54, e235_57, e235_58, e235_59, e235_60, e235_61, e235_62, e235_63, e235_66, e235_69, e235_70, e235_71, e235_72, e235_73, e235_74, e235_75, e235_76, e235_77, e235_78, a0, c0, a1, a2, c2, a3, h0, h1, r, cz, vkk_n, vkk_i, vkk_r, vkk_l, vkk_d, catS_nil, catS_i, catS_r, catS_l, catS_d, Nat.reduceAdd, Nat.reduceLeDiff, Nat.zero_le, Nat.le_refl, Option.bind_some, Option.toList_some, Option.toList_none, List.cons_append, List.nil_append, or_true, true_or, if_true, if_false, Int32.reduceLT, Int32.reduceLE, not_true, not_false_iff, true_and, and_true, false_and, and_false]
              first | rfl | decide
          · have a3 : ¬ nI ((n / 65536) / 16) < 4 := nI_nlt (b := 4) (by omega) (by omega)
            have c3 := us2 (n := ((n / 65536) / 16)) (by omega)
            have cz := us1 (n := (((n / 65536) / 16) / 4)) (by omega)
            rcases (show (((n / 65536) / 16) / 4) / 2 = 0 ∨ (((n / 65536) / 16) / 4) / 2 = 1 by omega) with r | r
            · rw [show n.log2 = 22 from log2_is (by omega) (by omega)]
              simp +decide only [e235_0, e235_1, e235_4, e235_5, e235_8, e235_10, e235_13, e235_14, e235_15, e235_17, e235_18, e235_19, e235_22, e235_25, e235_28, e235_29, e235_31, e235_32, e235_33, e235_34, e235_37, e235_40, e235_43, e235_44, e235_46, e235_47, e235_48, e235_49, e235_51, e235_54, e235_57, e235_58, e235_59, e235_60, e235_61, e235_62, e235_63, e235_66, e235_69, e235_70, e235_71, e235_72, e235_73, e235_74, e235_75, e235_76, e235_77, e235_78, a0, c0, a1, a2, c2, a3, c3, h0, h1, r, cz, vkk_n, vkk_i, vkk_r, vkk_l, vkk_d, catS_nil, catS_i, catS_r, catS_l, catS_d, Nat.reduceAdd, Nat.reduceLeDiff, Nat.zero_le, Nat.le_refl, Option.bind_some, Option.toList_some, Option.toList_none, List.cons_append, List.nil_append, or_true, true_or, if_true, if_false, Int32.reduceLT, Int32.reduceLE, not_true, not_false_iff, true_and, and_true, false_and, and_false]
              first | rfl | decide
            · rw [show n.log2 = 23 from log2_is (by omega) (by omega)]
              simp +decide only [e235_0, e235_1, e235_4, e235_5, e235_8, e235_10, e235_13, e235_14, e235_15, e235_17, e235_18, e235_19, e235_22, e235_25, e235_28, e235_29, e235_31, e235_32, e235_33, e235_34, e235_37, e235_40, e235_43, e235_44, e235_46, e235_47, e235_48, e235_49, e235_51, e235_54, e235_57, e235_58, e235_59, e235_60, e235_61, e235_62, e235_63, e235_66, e235_69, e235_70, e235_71, e235_72, e235_73, e235_74, e235_75, e235_76, e235_77, e235_78, a0, c0, a1, a2, c2, a3, c3, h0, h1, r, cz, vkk_n, vkk_i, vkk_r, vkk_l, vkk_d, catS_nil, catS_i, catS_r, catS_l, catS_d, Nat.reduceAdd, Nat.reduceLeDiff, Nat.zero_le, Nat.le_refl, Option.bind_some, Option.toList_some, Option.toList_none, List.cons_append, List.nil_append, or_true, true_or, if_true, if_false, Int32.reduceLT, Int32.reduceLE, not_true, not_false_iff, true_and, and_true, false_and, and_false]
              first | rfl | decide
      · have a1 : ¬ nI (n / 65536) < 256 := nI_nlt (b := 256) (by omega) (by omega)
        have c1 := us8 (n := (n / 65536)) (by omega)
        by_cases q2 : ((n / 65536) / 256) < 16
        · have a2 : nI ((n / 65536) / 256) < 16 := nI_lt (b := 16) q2 (by decide)
          by_cases q3 : ((n / 65536) / 256) < 4
          · have a3 : nI ((n / 65536) / 256) < 4 := nI_lt (b := 4) q3 (by decide)
            have cz := us1 (n := ((n / 65536) / 256)) (by omega)
            rcases (show ((n / 65536) / 256) / 2 = 0 ∨ ((n / 65536) / 256) / 2 = 1 by omega) with r | r
            · rw [show n.log2 = 24 from log2_is (by omega) (by omega)]
              simp +decide only [e235_0, e235_1, e235_4, e235_5, e235_8, e235_10, e235_13, e235_14, e235_15, e235_17, e235_18, e235_19, e235_22, e235_25, e235_28, e235_29, e235_31, e235_32, e235_33, e235_34, e235_37, e235_40, e235_43, e235_44, e235_46, e235_47, e235_48, e235_49, e235_51, e235_54, e235_57, e235_58, e235_59, e235_60, e235_61, e235_62, e235_63, e235_66, e235_69, e235_70, e235_71, e235_72, e235_73, e235_74, e235_75, e235_76, e235_77, e235_78, a0, c0, a1, c1, a2, a3, h0, h1, r, cz, vkk_n, vkk_i, vkk_r, vkk_l, vkk_d, catS_nil, catS_i, catS_r, catS_l, catS_d, Nat.reduceAdd, Nat.reduceLeDiff, Nat.zero_le, Nat.le_refl, Option.bind_some, Option.toList_some, Option.toList_none, List.cons_append, List.nil_append, or_true, true_or, if_true, if_false, Int32.reduceLT, Int32.reduceLE, not_true, not_false_iff, true_and, and_true, false_and, and_false]
              first | rfl | decide
            · rw [show n.log2 = 25 from log2_is (by omega) (by omega)]
              simp +decide only [e235_0, e235_1, e235_4, e235_5, e235_8, e235_10, e235_13, e235_14, e235_15, e235_17, e235_18, e235_19, e235_22, e235_25, e235_28, e235_29, e235_31, e235_32, e235_33, e235_34, e235_37, e235_40, e235_43, e235_44, e235_46, e235_47, e235_48, e235_49, e235_51, e235_54, e235_57, e235_58, e235_59, e235_60, e235_61, e235_62, e235_63, e235_66, e235_69, e235_70, e235_71, e235_72, e235_73, e235_74, e235_75, e235_76, e235_77, e235_78, a0, c0, a1, c1, a2, a3, h0, h1, r, cz, vkk_n, vkk_i, vkk_r, vkk_l, vkk_d, catS_nil, catS_i, catS_r, catS_l, catS_d, Nat.reduceAdd, Nat.reduceLeDiff, Nat.zero_le, Nat.le_refl, Option.bind_some, Option.toList_some, Option.toList_none, List.cons_append, List.nil_append, or_true, true_or, if_true, if_false, Int32.reduceLT, Int32.reduceLE, not_true, not_false_iff, true_and, and_true, false_and, and_false]
              first | rfl | decide
          · have a3 : ¬ nI ((n / 65536) / 256) < 4 := nI_nlt (b := 4) (by omega) (by omega)
            have c3 := us2 (n := ((n / 65536) / 256)) (by omega)
            have cz := us1 (n := (((n / 65536) / 256) / 4)) (by omega)
            rcases (show (((n / 65536) / 256) / 4) / 2 = 0 ∨ (((n / 65536) / 256) / 4) / 2 = 1 by omega) with r | r
            · rw [show n.log2 = 26 from log2_is (by omega) (by omega)]
              simp +decide only [e235_0, e235_1, e235_4, e235_5, e235_8, e235_10, e235_13, e235_14, e235_15, e235_17, e235_18, e235_19, e235_22, e235_25, e235_28, e235_29, e235_31, e235_32, e235_33, e235_34, e235_37, e235_40, e235_43, e235_44, e235_46, e235_47, e235_48, e235_49, e235_51, e235_54, e235_57, e235_58, e235_59, e235_60, e235_61, e235_62, e235_63, e235_66, e235_69, e235_70, e235_71, e235_72, e235_73, e235_74, e235_75, e235_76, e235_77, e235_78, a0, c0, a1, c1, a2, a3, c3, h0, h1, r, cz, vkk_n, vkk_i, vkk_r, vkk_l, vkk_d, catS_nil, catS_i, catS_r, catS_l, catS_d, Nat.reduceAdd, Nat.reduceLeDiff, Nat.zero_le, Nat.le_refl, Option.bind_some, Option.toList_some, Option.toList_none, List.cons_append, List.nil_append, or_true, true_or, if_true, if_false, Int32.reduceLT, Int32.reduceLE, not_true, not_false_iff, true_and, and_true, false_and, and_false]
              first | rfl | decide
            · rw [show n.log2 = 27 from log2_is (by omega) (by omega)]
              simp +decide only [e235_0, e235_1, e235_4, e235_5, e235_8, e235_10, e235_13, e235_14, e235_15, e235_17, e235_18, e235_19, e235_22, e235_25, e235_28, e235_29, e235_31, e235_32, e235_33, e235_34, e235_37, e235_40, e235_43, e235_44, e235_46, e235_47, e235_48, e235_49, e235_51, e235_54, e235_57, e235_58, e235_59, e235_60, e235_61, e235_62, e235_63, e235_66, e235_69, e235_70, e235_71, e235_72, e235_73, e235_74, e235_75, e235_76, e235_77, e235_78, a0, c0, a1, c1, a2, a3, c3, h0, h1, r, cz, vkk_n, vkk_i, vkk_r, vkk_l, vkk_d, catS_nil, catS_i, catS_r, catS_l, catS_d, Nat.reduceAdd, Nat.reduceLeDiff, Nat.zero_le, Nat.le_refl, Option.bind_some, Option.toList_some, Option.toList_none, List.cons_append, List.nil_append, or_true, true_or, if_true, if_false, Int32.reduceLT, Int32.reduceLE, not_true, not_false_iff, true_and, and_true, false_and, and_false]
              first | rfl | decide
        · have a2 : ¬ nI ((n / 65536) / 256) < 16 := nI_nlt (b := 16) (by omega) (by omega)
          have c2 := us4 (n := ((n / 65536) / 256)) (by omega)
          by_cases q3 : (((n / 65536) / 256) / 16) < 4
          · have a3 : nI (((n / 65536) / 256) / 16) < 4 := nI_lt (b := 4) q3 (by decide)
            have cz := us1 (n := (((n / 65536) / 256) / 16)) (by omega)
            rcases (show (((n / 65536) / 256) / 16) / 2 = 0 ∨ (((n / 65536) / 256) / 16) / 2 = 1 by omega) with r | r
            · rw [show n.log2 = 28 from log2_is (by omega) (by omega)]
              simp +decide only [e235_0, e235_1, e235_4, e235_5, e235_8, e235_10, e235_13, e235_14, e235_15, e235_17, e235_18, e235_19, e235_22, e235_25, e235_28, e235_29, e235_31, e235_32, e235_33, e235_34, e235_37, e235_40, e235_43, e235_44, e235_46, e235_47, e235_48, e235_49, e235_51, e235_54, e235_57, e235_58, e235_59, e235_60, e235_61, e235_62, e235_63, e235_66, e235_69, e235_70, e235_71, e235_72, e235_73, e235_74, e235_75, e235_76, e235_77, e235_78, a0, c0, a1, c1, a2, c2, a3, h0, h1, r, cz, vkk_n, vkk_i, vkk_r, vkk_l, vkk_d, catS_nil, catS_i, catS_r, catS_l, catS_d, Nat.reduceAdd, Nat.reduceLeDiff, Nat.zero_le, Nat.le_refl, Option.bind_some, Option.toList_some, Option.toList_none, List.cons_append, List.nil_append, or_true, true_or, if_true, if_false, Int32.reduceLT, Int32.reduceLE, not_true, not_false_iff, true_and, and_true, false_and, and_false]
              first | rfl | decide
            · rw [show n.log2 = 29 from log2_is (by omega) (by omega)]
              simp +decide only [e235_0, e235_1, e235_4, e235_5, e235_8, e235_10, e235_13, e235_14, e235_15, e235_17, e235_18, e235_19, e235_22, e235_25, e235_28, e235_29, e235_31, e235_32, e235_33, e235_34, e235_37, e235_40, e235_43, e235_44, e235_46, e235_47, e235_48, e235_49, e235_51, e235_54, e235_57, e235_58, e235_59, e235_60, e235_61, e235_62, e235_63, e235_66, e235_69, e235_70, e235_71, e235_72, e235_73, e235_74, e235_75, e235_76, e235_77, e235_78, a0, c0, a1, c1, a2, c2, a3, h0, h1, r, cz, vkk_n, vkk_i, vkk_r, vkk_l, vkk_d, catS_nil, catS_i, catS_r, catS_l, catS_d, Nat.reduceAdd, Nat.reduceLeDiff, Nat.zero_le, Nat.le_refl, Option.bind_some, Option.toList_some, Option.toList_none, List.cons_append, List.nil_append, or_true, true_or, if_true, if_false, Int32.reduceLT, Int32.reduceLE, not_true, not_false_iff, true_and, and_true, false_and, and_false]
              first | rfl | decide
          · have a3 : ¬ nI (((n / 65536) / 256) / 16) < 4 := nI_nlt (b := 4) (by omega) (by omega)
            have c3 := us2 (n := (((n / 65536) / 256) / 16)) (by omega)
            have cz := us1 (n := ((((n / 65536) / 256) / 16) / 4)) (by omega)
            rcases (show ((((n / 65536) / 256) / 16) / 4) / 2 = 0 ∨ ((((n / 65536) / 256) / 16) / 4) / 2 = 1 by omega) with r | r
            · rw [show n.log2 = 30 from log2_is (by omega) (by omega)]
              simp +decide only [e235_0, e235_1, e235_4, e235_5, e235_8, e235_10, e235_13, e235_14, e235_15, e235_17, e235_18, e235_19, e235_22, e235_25, e235_28, e235_29, e235_31, e235_32, e235_33, e235_34, e235_37, e235_40, e235_43, e235_44, e235_46, e235_47, e235_48, e235_49, e235_51, e235_54, e235_57, e235_58, e235_59, e235_60, e235_61, e235_62, e235_63, e235_66, e235_69, e235_70, e235_71, e235_72, e235_73, e235_74, e235_75, e235_76, e235_77, e235_78, a0, c0, a1, c1, a2, c2, a3, c3, h0, h1, r, cz, vkk_n, vkk_i, vkk_r, vkk_l, vkk_d, catS_nil, catS_i, catS_r, catS_l, catS_d, Nat.reduceAdd, Nat.reduceLeDiff, Nat.zero_le, Nat.le_refl, Option.bind_some, Option.toList_some, Option.toList_none, List.cons_append, List.nil_append, or_true, true_or, if_true, if_false, Int32.reduceLT, Int32.reduceLE, not_true, not_false_iff, true_and, and_true, false_and, and_false]
              first | rfl | decide
            · rw [show n.log2 = 31 from log2_is (by omega) (by omega)]
              simp +decide only [e235_0, e235_1, e235_4, e235_5, e235_8, e235_10, e235_13, e235_14, e235_15, e235_17, e235_18, e235_19, e235_22, e235_25, e235_28, e235_29, e235_31, e235_32, e235_33, e235_34, e235_37, e235_40, e235_43, e235_44, e235_46, e235_47, e235_48, e235_49, e235_51, e235_54, e235_57, e235_58, e235_59, e235_60, e235_61, e235_62, e235_63, e235_66, e235_69, e235_70, e235_71, e235_72, e235_73, e235_74, e235_75, e235_76, e235_77, e235_78, a0, c0, a1, c1, a2, c2, a3, c3, h0, h1, r, cz, vkk_n, vkk_i, vkk_r, vkk_l, vkk_d, catS_nil, catS_i, catS_r, catS_l, catS_d, Nat.reduceAdd, Nat.reduceLeDiff, Nat.zero_le, Nat.le_refl, Option.bind_some, Option.toList_some, Option.toList_none, List.cons_append, List.nil_append, or_true, true_or, if_true, if_false, Int32.reduceLT, Int32.reduceLE, not_true, not_false_iff, true_and, and_true, false_and, and_false]
              first | rfl | decide
theorem c_nlz32 (h : VG) (x : Int32) : ev 235 0 [some (.int x), none] [] h = some (some (.int (nI (nlz32 x.toBitVec.toNat))), h) := by
  by_cases h0 : x < 0
  · have a : ¬ x = 0 := fun z => by rw [z] at h0; exact absurd h0 (by decide)
    have b : x ≤ 0 := Int32.le_of_lt h0
    have c : 2147483648 ≤ x.toBitVec.toNat := by
      have h2 := Int32.lt_iff_toInt_lt.mp h0
      have h3 := BitVec.toInt_eq_toNat_cond x.toBitVec
      have h4 := x.toBitVec.isLt
      have h5 : x.toInt = x.toBitVec.toInt := rfl
      rw [show (0 : Int32).toInt = 0 from rfl, h5, h3] at h2
      split at h2 <;> omega
    have d := x.toBitVec.isLt
    unfold nlz32
    rw [if_neg (by omega), show x.toBitVec.toNat.log2 = 31 from log2_is (by omega) (by omega)]
    simp +decide only [e235_0, e235_1, e235_4, e235_5, e235_8, e235_10, e235_13, e235_14, e235_15, e235_17, e235_18, e235_19, e235_22, e235_25, e235_28, e235_29, e235_31, e235_32, e235_33, e235_34, e235_37, e235_40, e235_43, e235_44, e235_46, e235_47, e235_48, e235_49, e235_51, e235_54, e235_57, e235_58, e235_59, e235_60, e235_61, e235_62, e235_63, e235_66, e235_69, e235_70, e235_71, e235_72, e235_73, e235_74, e235_75, e235_76, e235_77, e235_78, a, b, vkk_n, vkk_i, vkk_r, vkk_l, vkk_d, catS_nil, catS_i, catS_r, catS_l, catS_d, Nat.reduceAdd, Nat.reduceLeDiff, Nat.zero_le, Nat.le_refl, Option.bind_some, Option.toList_some, Option.toList_none, List.cons_append, List.nil_append, or_true, true_or, if_true, if_false, Int32.reduceLT, Int32.reduceLE, not_true, not_false_iff, true_and, and_true, false_and, and_false]
    rfl
  · obtain ⟨n, hn, rfl⟩ := nI_of h0
    rw [pk_tn (by omega)]
    unfold nlz32
    by_cases hz : n = 0
    · subst hz
      have a : (nI 0 : Int32) = 0 := rfl
      simp +decide only [e235_0, e235_1, e235_4, e235_5, e235_8, e235_10, e235_13, e235_14, e235_15, e235_17, e235_18, e235_19, e235_22, e235_25, e235_28, e235_29, e235_31, e235_32, e235_33, e235_34, e235_37, e235_40, e235_43, e235_44, e235_46, e235_47, e235_48, e235_49, e235_51, e235_54, e235_57, e235_58, e235_59, e235_60, e235_61, e235_62, e235_63, e235_66, e235_69, e235_70, e235_71, e235_72, e235_73, e235_74, e235_75, e235_76, e235_77, e235_78, a, if_pos, Int32.reduceLE, vkk_n, vkk_i, vkk_r, vkk_l, vkk_d, catS_nil, catS_i, catS_r, catS_l, catS_d, Nat.reduceAdd, Nat.reduceLeDiff, Nat.zero_le, Nat.le_refl, Option.bind_some, Option.toList_some, Option.toList_none, List.cons_append, List.nil_append, or_true, true_or, if_true, if_false, Int32.reduceLT, Int32.reduceLE, not_true, not_false_iff, true_and, and_true, false_and, and_false]
      rfl
    · rw [if_neg hz]
      exact c_nlz32p h n (by omega) hn
theorem c_nlz (h : VG) (x : Int64) : ev 236 0 [some (.long x), none, none] [] h = some (some (.int (vNlz x)), h) := by
  have e1 : ((ur x 32).toInt32).toBitVec.toNat = uN x / 4294967296 := by
    have h1 := uN_lt x
    have h2 : uN (ur x 32) = uN x / 2 ^ 32 := uN_ur x (k := 32) (by decide)
    rw [i32_low, h2]
    omega
  have e2 : x.toInt32.toBitVec.toNat = uN x % 4294967296 := i32_low x
  have h1 := uN_lt x
  have e0 : (ur x 32).toInt32 = 0 ↔ uN x / 4294967296 = 0 := by
    constructor
    · intro z
      rw [← e1, z]
      rfl
    · intro z
      apply Int32.toBitVec_inj.mp
      apply BitVec.eq_of_toNat_eq
      rw [e1, z]
      rfl
  have f1 := c_nlz32 h (ur x 32).toInt32
  have f2 := c_nlz32 h x.toInt32
  rw [e1] at f1
  rw [e2] at f2
  unfold vNlz
  rw [show x.toUInt64.toNat = uN x from rfl]
  by_cases q : uN x / 4294967296 = 0
  · have q1 := e0.mpr q
    have e3 : (32 : Int32) + nI (nlz32 (uN x % 4294967296)) = nI (if uN x = 0 then 64 else 63 - (uN x).log2) := by
      rw [show (32 : Int32) = nI 32 from rfl, nI_add, show uN x % 4294967296 = uN x by omega]
      unfold nlz32
      congr 1
      split
      · rfl
      · rename_i hz
        have hl : (uN x).log2 < 32 := (Nat.log2_lt hz).mpr (by omega)
        omega
    rw [← e3]
    unfold ur at q1
    simp +decide only [e236_0, e236_1, e236_3, e236_4, e236_5, e236_6, e236_7, e236_10, e236_12, e236_13, e236_14, e236_17, e236_18, e236_21, e236_22, e236_25, q1, f2, vkk_n, vkk_i, vkk_r, vkk_l, vkk_d, catS_nil, catS_i, catS_r, catS_l, catS_d, Nat.reduceAdd, Nat.reduceLeDiff, Nat.zero_le, Nat.le_refl, Option.bind_some, Option.toList_some, Option.toList_none, List.cons_append, List.nil_append, or_true, true_or, if_true, if_false, Int32.reduceLT, Int32.reduceLE, not_true, not_false_iff, true_and, and_true, false_and, and_false]
  · have q1 : ¬ (ur x 32).toInt32 = 0 := fun z => q (e0.mp z)
    have e3 : nI (nlz32 (uN x / 4294967296)) = nI (if uN x = 0 then 64 else 63 - (uN x).log2) := by
      unfold nlz32
      congr 1
      rw [if_neg q, if_neg (by omega)]
      have l1 := Nat.log2_self_le q
      have l2 := Nat.lt_log2_self (n := uN x / 4294967296)
      have hl : (uN x / 4294967296).log2 < 32 := (Nat.log2_lt q).mpr (by omega)
      have l3 : (uN x).log2 = (uN x / 4294967296).log2 + 32 := by
        refine log2_is ?_ ?_
        · rw [Nat.pow_add]
          have := Nat.mul_le_mul_right (2 ^ 32) l1
          omega
        · rw [show (uN x / 4294967296).log2 + 32 + 1 = (uN x / 4294967296).log2 + 1 + 32 by omega, Nat.pow_add]
          have := Nat.mul_le_mul_right (2 ^ 32) (show uN x / 4294967296 + 1 ≤ _ from l2)
          omega
      omega
    rw [← e3]
    unfold ur at q1 f1
    simp +decide only [e236_0, e236_1, e236_3, e236_4, e236_5, e236_6, e236_7, e236_10, e236_12, e236_13, e236_14, e236_17, e236_18, e236_21, e236_22, e236_25, q1, f1, vkk_n, vkk_i, vkk_r, vkk_l, vkk_d, catS_nil, catS_i, catS_r, catS_l, catS_d, Nat.reduceAdd, Nat.reduceLeDiff, Nat.zero_le, Nat.le_refl, Option.bind_some, Option.toList_some, Option.toList_none, List.cons_append, List.nil_append, or_true, true_or, if_true, if_false, Int32.reduceLT, Int32.reduceLE, not_true, not_false_iff, true_and, and_true, false_and, and_false]
theorem c_rounded (h : VG) (s : Int64) (l : Int32) : ev 45 0 [some (.long s), none, some (.int l), none, none, none, none, none, none] [] h = some (some (.long (kRnd s l)), h) := by
  unfold kRnd
  by_cases q : s &&& (sl 1 l - 1) ≤ sl 1 (l - 1)
  · rw [if_neg (Int64.not_lt.mpr q)]
    unfold sl at q ⊢
    unfold ur
    simp +decide only [e45_0, e45_1, e45_2, e45_3, e45_4, e45_5, e45_6, e45_7, e45_8, e45_9, e45_10, e45_11, e45_13, e45_14, e45_15, e45_16, e45_17, e45_18, e45_20, e45_22, e45_24, e45_25, e45_28, e45_30, e45_32, e45_33, e45_36, e45_37, e45_38, e45_39, e45_40, e45_41, e45_44, e45_45, e45_46, e45_47, e45_50, e45_51, lcmp_le, lcmp_eq, lcmp_lt, q, vkk_n, vkk_i, vkk_r, vkk_l, vkk_d, catS_nil, catS_i, catS_r, catS_l, catS_d, Nat.reduceAdd, Nat.reduceLeDiff, Nat.zero_le, Nat.le_refl, Option.bind_some, Option.toList_some, Option.toList_none, List.cons_append, List.nil_append, or_true, true_or, if_true, if_false, Int32.reduceLT, Int32.reduceLE, not_true, not_false_iff, true_and, and_true, false_and, and_false]
    (repeat' split) <;> first | rfl | simp_all
  · rw [if_pos (Int64.not_le.mp q)]
    unfold sl at q
    unfold ur
    simp +decide only [e45_0, e45_1, e45_2, e45_3, e45_4, e45_5, e45_6, e45_7, e45_8, e45_9, e45_10, e45_11, e45_13, e45_14, e45_15, e45_16, e45_17, e45_18, e45_20, e45_22, e45_24, e45_25, e45_28, e45_30, e45_32, e45_33, e45_36, e45_37, e45_38, e45_39, e45_40, e45_41, e45_44, e45_45, e45_46, e45_47, e45_50, e45_51, lcmp_le, lcmp_eq, lcmp_lt, q, vkk_n, vkk_i, vkk_r, vkk_l, vkk_d, catS_nil, catS_i, catS_r, catS_l, catS_d, Nat.reduceAdd, Nat.reduceLeDiff, Nat.zero_le, Nat.le_refl, Option.bind_some, Option.toList_some, Option.toList_none, List.cons_append, List.nil_append, or_true, true_or, if_true, if_false, Int32.reduceLT, Int32.reduceLE, not_true, not_false_iff, true_and, and_true, false_and, and_false]
theorem c_nearest (h : VG) (v : Int64) (f b : Int32) : ev 44 0 [some (.long v), none, some (.int f), some (.int b), none, none, none, none, none, none] [] h = some (some (.long (kNea v f b)), h) := by
  unfold kNea kTop kAbs sl
  simp +decide only [e44_0, e44_1, e44_2, e44_3, e44_6, e44_7, e44_8, e44_9, e44_10, e44_11, e44_14, e44_15, e44_16, e44_19, e44_20, e44_22, e44_24, e44_26, e44_29, e44_30, e44_32, e44_34, e44_35, e44_36, e44_38, e44_40, e44_43, e44_45, e44_47, e44_50, e44_53, e44_55, e44_57, e44_58, e44_59, e44_61, e44_63, e44_64, e44_65, e44_66, e44_67, e44_68, e44_70, e44_71, e44_72, e44_73, e44_74, e44_75, lcmp_le, lcmp_eq, lcmp_lt, c_nlz, c_rounded, vkk_n, vkk_i, vkk_r, vkk_l, vkk_d, catS_nil, catS_i, catS_r, catS_l, catS_d, Nat.reduceAdd, Nat.reduceLeDiff, Nat.zero_le, Nat.le_refl, Option.bind_some, Option.toList_some, Option.toList_none, List.cons_append, List.nil_append, or_true, true_or, if_true, if_false, Int32.reduceLT, Int32.reduceLE, not_true, not_false_iff, true_and, and_true, false_and, and_false]
  (repeat' split) <;> first | rfl | simp_all
theorem c_floatBits (h : VG) (v : Int64) : ev 42 0 [some (.long v), none] [] h = some (some (.long (kFlt v)), h) := by
  unfold kFlt
  simp +decide only [e42_0, e42_1, e42_2, e42_3, e42_6, e42_9, e42_12, e42_13, e42_14, e42_16, e42_18, e42_21, e42_22, lcmp_le, lcmp_eq, lcmp_lt, c_nearest, vkk_n, vkk_i, vkk_r, vkk_l, vkk_d, catS_nil, catS_i, catS_r, catS_l, catS_d, Nat.reduceAdd, Nat.reduceLeDiff, Nat.zero_le, Nat.le_refl, Option.bind_some, Option.toList_some, Option.toList_none, List.cons_append, List.nil_append, or_true, true_or, if_true, if_false, Int32.reduceLT, Int32.reduceLE, not_true, not_false_iff, true_and, and_true, false_and, and_false]
  (repeat' split) <;> first | rfl | simp_all
theorem c_doubleBits (h : VG) (v : Int64) : ev 43 0 [some (.long v), none] [] h = some (some (.long (kDbl v)), h) := by
  unfold kDbl
  simp +decide only [e43_0, e43_1, e43_2, e43_3, e43_6, e43_9, e43_12, e43_13, e43_14, e43_16, e43_19, e43_22, e43_23, lcmp_le, lcmp_eq, lcmp_lt, c_nearest, vkk_n, vkk_i, vkk_r, vkk_l, vkk_d, catS_nil, catS_i, catS_r, catS_l, catS_d, Nat.reduceAdd, Nat.reduceLeDiff, Nat.zero_le, Nat.le_refl, Option.bind_some, Option.toList_some, Option.toList_none, List.cons_append, List.nil_append, or_true, true_or, if_true, if_false, Int32.reduceLT, Int32.reduceLE, not_true, not_false_iff, true_and, and_true, false_and, and_false]
  (repeat' split) <;> first | rfl | simp_all
theorem c_tinyFloat (h : VG) (f : Int64) : ev 47 0 [some (.long f), none, none, none, none] [] h = some (some (.long (kTin f)), h) := by
  unfold kTin sl
  simp +decide only [e47_0, e47_2, e47_3, e47_6, e47_7, e47_8, e47_9, e47_11, e47_12, e47_13, e47_14, e47_16, e47_17, e47_20, e47_21, e47_22, e47_23, e47_24, e47_26, e47_27, e47_28, e47_30, e47_31, e47_32, e47_33, e47_34, e47_37, e47_38, c_nlz, vkk_n, vkk_i, vkk_r, vkk_l, vkk_d, catS_nil, catS_i, catS_r, catS_l, catS_d, Nat.reduceAdd, Nat.reduceLeDiff, Nat.zero_le, Nat.le_refl, Option.bind_some, Option.toList_some, Option.toList_none, List.cons_append, List.nil_append, or_true, true_or, if_true, if_false, Int32.reduceLT, Int32.reduceLE, not_true, not_false_iff, true_and, and_true, false_and, and_false]
theorem c_doubleOfFloat (h : VG) (b : Int64) : ev 46 0 [some (.long b), none, none, none, none, none, none, none, none, none] [] h = some (some (.long (kDof b)), h) := by
  unfold kDof sl ur
  simp +decide only [e46_0, e46_1, e46_3, e46_4, e46_5, e46_6, e46_8, e46_9, e46_10, e46_11, e46_13, e46_14, e46_15, e46_18, e46_19, e46_21, e46_22, e46_25, e46_26, e46_28, e46_30, e46_32, e46_34, e46_37, e46_40, e46_41, e46_44, e46_45, e46_47, e46_49, e46_50, e46_51, e46_52, e46_54, e46_57, e46_59, e46_61, e46_62, e46_65, e46_66, e46_67, e46_69, e46_70, e46_72, e46_74, e46_75, e46_76, e46_78, e46_80, e46_81, e46_82, e46_83, e46_85, e46_86, e46_87, e46_90, e46_91, e46_94, e46_95, e46_97, e46_100, e46_101, lcmp_le, lcmp_eq, lcmp_lt, c_tinyFloat, vkk_n, vkk_i, vkk_r, vkk_l, vkk_d, catS_nil, catS_i, catS_r, catS_l, catS_d, Nat.reduceAdd, Nat.reduceLeDiff, Nat.zero_le, Nat.le_refl, Option.bind_some, Option.toList_some, Option.toList_none, List.cons_append, List.nil_append, or_true, true_or, if_true, if_false, Int32.reduceLT, Int32.reduceLE, not_true, not_false_iff, true_and, and_true, false_and, and_false]
  (repeat' split) <;> first | rfl | simp_all
theorem c_cutDouble (h : VG) (b : Int64) : ev 48 0 [some (.long b), none, none, none, none, none, none, none] [] h = some (some (.long (kCut b)), h) := by
  unfold kCut kMag kSig kExp sl ur
  simp +decide only [e48_0, e48_1, e48_3, e48_4, e48_5, e48_8, e48_9, e48_12, e48_13, e48_14, e48_15, e48_18, e48_19, e48_20, e48_21, e48_23, e48_26, e48_27, e48_28, e48_29, e48_32, e48_35, e48_38, e48_41, e48_42, e48_43, e48_46, e48_47, e48_50, e48_51, e48_52, e48_54, e48_55, e48_56, e48_58, e48_60, e48_63, e48_64, e48_66, e48_67, e48_70, e48_71, e48_73, e48_74, e48_75, e48_77, e48_78, e48_79, e48_80, e48_83, e48_85, e48_86, e48_89, e48_91, lcmp_le, lcmp_eq, lcmp_lt, vkk_n, vkk_i, vkk_r, vkk_l, vkk_d, catS_nil, catS_i, catS_r, catS_l, catS_d, Nat.reduceAdd, Nat.reduceLeDiff, Nat.zero_le, Nat.le_refl, Option.bind_some, Option.toList_some, Option.toList_none, List.cons_append, List.nil_append, or_true, true_or, if_true, if_false, Int32.reduceLT, Int32.reduceLE, not_true, not_false_iff, true_and, and_true, false_and, and_false]
  (repeat' split) <;> first | rfl | simp_all
def kMade (v : Int64) (k : Int32) : Int64 := if k = 0 then (if v = 0 then 0 else 1) else if k = 1 then v.toInt32.toInt8.toInt32.toInt64 else if k = 2 then (v.toInt32.toUInt32 % 65536).toInt32.toInt64 else if k = 3 then v.toInt32.toInt16.toInt32.toInt64 else if k = 4 then v.toInt32.toInt64 else if k = 6 then kFlt v else if k = 7 then kDbl v else v
def kTold (x : Int64) (k : Int32) : Int64 := if k = 6 then kCut (kDof x) else if k = 7 then kCut x else x
def kWdn (x : Int64) (f t : Int32) : Int64 := if f = t then x else if t < 6 then x else if t = 6 then kFlt x else if f = 6 then kDof x else kDbl x
def kNan (x : Int64) (k : Int32) : Int32 := if k = 6 then (if x &&& 2147483647 ≤ 2139095040 then 0 else 1) else if k = 7 then (if x &&& 9223372036854775807 ≤ 9218868437227405312 then 0 else 1) else 0
theorem c_made (h : VG) (v : Int64) (k : Int32) : ev 37 0 [some (.long v), none, some (.int k)] [] h = some (some (.long (kMade v k)), h) := by
  unfold kMade
  by_cases k0 : k = 0
  · subst k0
    simp +decide only [e37_0, e37_1, e37_48, e37_49, e37_50, e37_51, e37_54, e37_55, e37_58, e37_59, e37_60, e37_61, e37_62, e37_63, e37_64, e37_65, e37_66, e37_67, e37_68, e37_69, e37_70, e37_71, e37_72, e37_73, e37_74, e37_75, e37_76, e37_77, e37_78, e37_79, e37_80, e37_83, e37_84, e37_85, e37_88, e37_89, e37_90, lcmp_eq, vkk_n, vkk_i, vkk_r, vkk_l, vkk_d, catS_nil, catS_i, catS_r, catS_l, catS_d, Nat.reduceAdd, Nat.reduceLeDiff, Nat.zero_le, Nat.le_refl, Option.bind_some, Option.toList_some, Option.toList_none, List.cons_append, List.nil_append, or_true, true_or, if_true, if_false, Int32.reduceLT, Int32.reduceLE, not_true, not_false_iff, true_and, and_true, false_and, and_false]
    (repeat' split) <;> first | rfl | simp_all
  by_cases k1 : k = 1
  · subst k1
    simp +decide only [e37_0, e37_1, e37_48, e37_49, e37_50, e37_51, e37_54, e37_55, e37_58, e37_59, e37_60, e37_61, e37_62, e37_63, e37_64, e37_65, e37_66, e37_67, e37_68, e37_69, e37_70, e37_71, e37_72, e37_73, e37_74, e37_75, e37_76, e37_77, e37_78, e37_79, e37_80, e37_83, e37_84, e37_85, e37_88, e37_89, e37_90, c_floatBits, c_doubleBits, vkk_n, vkk_i, vkk_r, vkk_l, vkk_d, catS_nil, catS_i, catS_r, catS_l, catS_d, Nat.reduceAdd, Nat.reduceLeDiff, Nat.zero_le, Nat.le_refl, Option.bind_some, Option.toList_some, Option.toList_none, List.cons_append, List.nil_append, or_true, true_or, if_true, if_false, Int32.reduceLT, Int32.reduceLE, not_true, not_false_iff, true_and, and_true, false_and, and_false]
    try (first | rfl | decide)
  by_cases k2 : k = 2
  · subst k2
    simp +decide only [e37_0, e37_1, e37_48, e37_49, e37_50, e37_51, e37_54, e37_55, e37_58, e37_59, e37_60, e37_61, e37_62, e37_63, e37_64, e37_65, e37_66, e37_67, e37_68, e37_69, e37_70, e37_71, e37_72, e37_73, e37_74, e37_75, e37_76, e37_77, e37_78, e37_79, e37_80, e37_83, e37_84, e37_85, e37_88, e37_89, e37_90, c_floatBits, c_doubleBits, vkk_n, vkk_i, vkk_r, vkk_l, vkk_d, catS_nil, catS_i, catS_r, catS_l, catS_d, Nat.reduceAdd, Nat.reduceLeDiff, Nat.zero_le, Nat.le_refl, Option.bind_some, Option.toList_some, Option.toList_none, List.cons_append, List.nil_append, or_true, true_or, if_true, if_false, Int32.reduceLT, Int32.reduceLE, not_true, not_false_iff, true_and, and_true, false_and, and_false]
    try (first | rfl | decide)
  by_cases k3 : k = 3
  · subst k3
    simp +decide only [e37_0, e37_1, e37_48, e37_49, e37_50, e37_51, e37_54, e37_55, e37_58, e37_59, e37_60, e37_61, e37_62, e37_63, e37_64, e37_65, e37_66, e37_67, e37_68, e37_69, e37_70, e37_71, e37_72, e37_73, e37_74, e37_75, e37_76, e37_77, e37_78, e37_79, e37_80, e37_83, e37_84, e37_85, e37_88, e37_89, e37_90, c_floatBits, c_doubleBits, vkk_n, vkk_i, vkk_r, vkk_l, vkk_d, catS_nil, catS_i, catS_r, catS_l, catS_d, Nat.reduceAdd, Nat.reduceLeDiff, Nat.zero_le, Nat.le_refl, Option.bind_some, Option.toList_some, Option.toList_none, List.cons_append, List.nil_append, or_true, true_or, if_true, if_false, Int32.reduceLT, Int32.reduceLE, not_true, not_false_iff, true_and, and_true, false_and, and_false]
    try (first | rfl | decide)
  by_cases k4 : k = 4
  · subst k4
    simp +decide only [e37_0, e37_1, e37_48, e37_49, e37_50, e37_51, e37_54, e37_55, e37_58, e37_59, e37_60, e37_61, e37_62, e37_63, e37_64, e37_65, e37_66, e37_67, e37_68, e37_69, e37_70, e37_71, e37_72, e37_73, e37_74, e37_75, e37_76, e37_77, e37_78, e37_79, e37_80, e37_83, e37_84, e37_85, e37_88, e37_89, e37_90, c_floatBits, c_doubleBits, vkk_n, vkk_i, vkk_r, vkk_l, vkk_d, catS_nil, catS_i, catS_r, catS_l, catS_d, Nat.reduceAdd, Nat.reduceLeDiff, Nat.zero_le, Nat.le_refl, Option.bind_some, Option.toList_some, Option.toList_none, List.cons_append, List.nil_append, or_true, true_or, if_true, if_false, Int32.reduceLT, Int32.reduceLE, not_true, not_false_iff, true_and, and_true, false_and, and_false]
    try (first | rfl | decide)
  by_cases k5 : k = 5
  · subst k5
    simp +decide only [e37_0, e37_1, e37_48, e37_49, e37_50, e37_51, e37_54, e37_55, e37_58, e37_59, e37_60, e37_61, e37_62, e37_63, e37_64, e37_65, e37_66, e37_67, e37_68, e37_69, e37_70, e37_71, e37_72, e37_73, e37_74, e37_75, e37_76, e37_77, e37_78, e37_79, e37_80, e37_83, e37_84, e37_85, e37_88, e37_89, e37_90, c_floatBits, c_doubleBits, vkk_n, vkk_i, vkk_r, vkk_l, vkk_d, catS_nil, catS_i, catS_r, catS_l, catS_d, Nat.reduceAdd, Nat.reduceLeDiff, Nat.zero_le, Nat.le_refl, Option.bind_some, Option.toList_some, Option.toList_none, List.cons_append, List.nil_append, or_true, true_or, if_true, if_false, Int32.reduceLT, Int32.reduceLE, not_true, not_false_iff, true_and, and_true, false_and, and_false]
    try (first | rfl | decide)
  by_cases k6 : k = 6
  · subst k6
    simp +decide only [e37_0, e37_1, e37_48, e37_49, e37_50, e37_51, e37_54, e37_55, e37_58, e37_59, e37_60, e37_61, e37_62, e37_63, e37_64, e37_65, e37_66, e37_67, e37_68, e37_69, e37_70, e37_71, e37_72, e37_73, e37_74, e37_75, e37_76, e37_77, e37_78, e37_79, e37_80, e37_83, e37_84, e37_85, e37_88, e37_89, e37_90, c_floatBits, c_doubleBits, vkk_n, vkk_i, vkk_r, vkk_l, vkk_d, catS_nil, catS_i, catS_r, catS_l, catS_d, Nat.reduceAdd, Nat.reduceLeDiff, Nat.zero_le, Nat.le_refl, Option.bind_some, Option.toList_some, Option.toList_none, List.cons_append, List.nil_append, or_true, true_or, if_true, if_false, Int32.reduceLT, Int32.reduceLE, not_true, not_false_iff, true_and, and_true, false_and, and_false]
    try (first | rfl | decide)
  by_cases k7 : k = 7
  · subst k7
    simp +decide only [e37_0, e37_1, e37_48, e37_49, e37_50, e37_51, e37_54, e37_55, e37_58, e37_59, e37_60, e37_61, e37_62, e37_63, e37_64, e37_65, e37_66, e37_67, e37_68, e37_69, e37_70, e37_71, e37_72, e37_73, e37_74, e37_75, e37_76, e37_77, e37_78, e37_79, e37_80, e37_83, e37_84, e37_85, e37_88, e37_89, e37_90, c_floatBits, c_doubleBits, vkk_n, vkk_i, vkk_r, vkk_l, vkk_d, catS_nil, catS_i, catS_r, catS_l, catS_d, Nat.reduceAdd, Nat.reduceLeDiff, Nat.zero_le, Nat.le_refl, Option.bind_some, Option.toList_some, Option.toList_none, List.cons_append, List.nil_append, or_true, true_or, if_true, if_false, Int32.reduceLT, Int32.reduceLE, not_true, not_false_iff, true_and, and_true, false_and, and_false]
    try (first | rfl | decide)
  simp +decide only [e37_0, e37_1, e37_48, e37_49, e37_50, e37_51, e37_54, e37_55, e37_58, e37_59, e37_60, e37_61, e37_62, e37_63, e37_64, e37_65, e37_66, e37_67, e37_68, e37_69, e37_70, e37_71, e37_72, e37_73, e37_74, e37_75, e37_76, e37_77, e37_78, e37_79, e37_80, e37_83, e37_84, e37_85, e37_88, e37_89, e37_90, k0, k1, k2, k3, k4, k5, k6, k7, vkk_n, vkk_i, vkk_r, vkk_l, vkk_d, catS_nil, catS_i, catS_r, catS_l, catS_d, Nat.reduceAdd, Nat.reduceLeDiff, Nat.zero_le, Nat.le_refl, Option.bind_some, Option.toList_some, Option.toList_none, List.cons_append, List.nil_append, or_true, true_or, if_true, if_false, Int32.reduceLT, Int32.reduceLE, not_true, not_false_iff, true_and, and_true, false_and, and_false]
theorem c_toldOf (h : VG) (x : Int64) (k : Int32) : ev 38 0 [some (.long x), none, some (.int k)] [] h = some (some (.long (kTold x k)), h) := by
  unfold kTold
  simp +decide only [e38_0, e38_1, e38_28, e38_29, e38_32, e38_35, e38_36, e38_37, e38_40, e38_41, e38_42, c_doubleOfFloat, c_cutDouble, vkk_n, vkk_i, vkk_r, vkk_l, vkk_d, catS_nil, catS_i, catS_r, catS_l, catS_d, Nat.reduceAdd, Nat.reduceLeDiff, Nat.zero_le, Nat.le_refl, Option.bind_some, Option.toList_some, Option.toList_none, List.cons_append, List.nil_append, or_true, true_or, if_true, if_false, Int32.reduceLT, Int32.reduceLE, not_true, not_false_iff, true_and, and_true, false_and, and_false]
  (repeat' split) <;> first | rfl | simp_all
theorem c_widened (h : VG) (x : Int64) (f t : Int32) : ev 39 0 [some (.long x), none, some (.int f), some (.int t)] [] h = some (some (.long (kWdn x f t)), h) := by
  unfold kWdn
  simp +decide only [e39_0, e39_1, e39_2, e39_5, e39_6, e39_8, e39_11, e39_12, e39_13, e39_14, e39_16, e39_19, e39_20, e39_23, e39_24, e39_25, e39_27, e39_30, e39_31, e39_34, e39_37, e39_38, e39_41, c_doubleOfFloat, c_floatBits, c_doubleBits, vkk_n, vkk_i, vkk_r, vkk_l, vkk_d, catS_nil, catS_i, catS_r, catS_l, catS_d, Nat.reduceAdd, Nat.reduceLeDiff, Nat.zero_le, Nat.le_refl, Option.bind_some, Option.toList_some, Option.toList_none, List.cons_append, List.nil_append, or_true, true_or, if_true, if_false, Int32.reduceLT, Int32.reduceLE, not_true, not_false_iff, true_and, and_true, false_and, and_false]
  (repeat' split) <;> first | rfl | simp_all
theorem c_isNoNumber (h : VG) (x : Int64) (k : Int32) : ev 40 0 [some (.long x), none, some (.int k)] [] h = some (some (.int (kNan x k)), h) := by
  unfold kNan
  simp +decide only [e40_0, e40_1, e40_3, e40_6, e40_7, e40_10, e40_11, e40_14, e40_15, e40_18, e40_19, e40_22, e40_23, e40_24, e40_25, e40_27, e40_30, e40_31, e40_34, e40_35, e40_38, e40_39, e40_42, e40_43, e40_46, e40_47, lcmp_le, vkk_n, vkk_i, vkk_r, vkk_l, vkk_d, catS_nil, catS_i, catS_r, catS_l, catS_d, Nat.reduceAdd, Nat.reduceLeDiff, Nat.zero_le, Nat.le_refl, Option.bind_some, Option.toList_some, Option.toList_none, List.cons_append, List.nil_append, or_true, true_or, if_true, if_false, Int32.reduceLT, Int32.reduceLE, not_true, not_false_iff, true_and, and_true, false_and, and_false]
  (repeat' split) <;> first | rfl | simp_all
theorem c_isSame (h : VG) (x y : Int64) : ev 41 0 [some (.long x), none, some (.long y), none] [] h = some (some (.int (@ite Int32 (kSame x y) (Classical.propDecidable _) 1 0)), h) := by
  by_cases q : x = y
  · have z : kSame x y := Or.inl q
    rw [if_pos z]
    simp +decide only [e41_0, e41_1, e41_2, e41_3, e41_6, e41_7, e41_8, e41_9, e41_12, e41_13, e41_14, e41_15, e41_18, e41_19, e41_22, e41_23, lcmp_eq, q, vkk_n, vkk_i, vkk_r, vkk_l, vkk_d, catS_nil, catS_i, catS_r, catS_l, catS_d, Nat.reduceAdd, Nat.reduceLeDiff, Nat.zero_le, Nat.le_refl, Option.bind_some, Option.toList_some, Option.toList_none, List.cons_append, List.nil_append, or_true, true_or, if_true, if_false, Int32.reduceLT, Int32.reduceLE, not_true, not_false_iff, true_and, and_true, false_and, and_false]
  · by_cases q2 : (x ||| y) &&& 9223372036854775807 = 0
    · have z : kSame x y := Or.inr q2
      rw [if_pos z]
      simp +decide only [e41_0, e41_1, e41_2, e41_3, e41_6, e41_7, e41_8, e41_9, e41_12, e41_13, e41_14, e41_15, e41_18, e41_19, e41_22, e41_23, lcmp_eq, q, q2, vkk_n, vkk_i, vkk_r, vkk_l, vkk_d, catS_nil, catS_i, catS_r, catS_l, catS_d, Nat.reduceAdd, Nat.reduceLeDiff, Nat.zero_le, Nat.le_refl, Option.bind_some, Option.toList_some, Option.toList_none, List.cons_append, List.nil_append, or_true, true_or, if_true, if_false, Int32.reduceLT, Int32.reduceLE, not_true, not_false_iff, true_and, and_true, false_and, and_false]
    · have z : ¬ kSame x y := fun z => z.elim q q2
      rw [if_neg z]
      simp +decide only [e41_0, e41_1, e41_2, e41_3, e41_6, e41_7, e41_8, e41_9, e41_12, e41_13, e41_14, e41_15, e41_18, e41_19, e41_22, e41_23, lcmp_eq, q, q2, vkk_n, vkk_i, vkk_r, vkk_l, vkk_d, catS_nil, catS_i, catS_r, catS_l, catS_d, Nat.reduceAdd, Nat.reduceLeDiff, Nat.zero_le, Nat.le_refl, Option.bind_some, Option.toList_some, Option.toList_none, List.cons_append, List.nil_append, or_true, true_or, if_true, if_false, Int32.reduceLT, Int32.reduceLE, not_true, not_false_iff, true_and, and_true, false_and, and_false]
