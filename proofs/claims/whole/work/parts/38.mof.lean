/-! the model puts floating numbers together and takes them apart -/
theorem lN_or (s : Bool) (k : Nat) : True := trivial
theorem toInt32_lN {n : Nat} (hn : n < 2147483648) : (Int64.ofNat n).toInt32 = nI n := by
  apply Int32.toBitVec_inj.mp
  apply BitVec.eq_of_toNat_eq
  rw [i32_low, lN_u (by omega), pk_tn (by omega)]
  omega
theorem nI_toL {n : Nat} (hn : n < 2147483648) : (nI n).toInt64 = Int64.ofNat n := by
  apply uN_inj
  rw [uN_nI hn, lN_u (by omega)]
theorem fN_eq {a b : Nat} (ha : a < 18446744073709551616) (hb : b < 18446744073709551616) : Int64.ofNat a = Int64.ofNat b ↔ a = b := by
  rw [uN_eq_iff, lN_u ha, lN_u hb]
theorem q1_32 : ((1 : Int64) <<< ((8 : Int32).toInt64 &&& 63)) - 1 = 255 := by decide
theorem q2_32 : (8388608 : Int64) - 1 = 8388607 := by decide
theorem q3_32 : (1 : Int64) <<< ((23 : Int32).toInt64 &&& 63) = 8388608 := by decide
theorem q4_32 : ((255 : Int64) / 2).toInt32 + (23 : Int32) = 150 := by decide
theorem q5_32 : (1 : Int64) <<< (((23 : Int32) + (8 : Int32)).toInt64 &&& 63) = 2147483648 := by decide
theorem q6_32 : (255 : Int64) <<< ((23 : Int32).toInt64 &&& 63) = 2139095040 := by decide
set_option maxHeartbeats 4000000 in
theorem c_madeOf32 (h : VG) (m : Nat) (x : Int64) (ho : ob h m 11) (hx : uN x < 4294967296) : ev 209 0 [some (.ref m), some (.long x), none, some (.int 23), some (.int 8), none, none, none, none, none, none, none] [] h = some (none, pD (pI h m 41 (if (uN x / 8388608 % 256) = 255 ∧ ¬ (uN x % 8388608) = 0 then 1 else 0)) m 40 (sgD (decide (2147483648 ≤ uN x)) (mvD 23 255 150 (uN x / 8388608 % 256) (uN x % 8388608)))) := by
  have hxl := uN_lt x
  have a2 : x >>> ((23 : Int32).toInt64 &&& 63) &&& 255 = Int64.ofNat (uN x / 8388608 % 256) := by
    apply uN_inj
    rw [sr_mask x 255 23 (k := 23) (j := 8) (by decide) (by decide) (by decide), lN_u (by omega)]
  have a3 : x &&& 8388607 = Int64.ofNat (uN x % 8388608) := by
    apply uN_inj
    rw [uN_mask x 8388607 (k := 23) (by decide), lN_u (by omega)]
  have a5 : x >>> (((23 : Int32) + (8 : Int32)).toInt64 &&& 63) &&& 1 = Int64.ofNat (uN x / 2147483648 % 2) := by
    apply uN_inj
    rw [sr_mask x 1 (23 + 8) (k := 31) (j := 1) (by decide) (by decide) (by decide), lN_u (by omega)]
  have es : 2147483648 ≤ uN x ↔ uN x / 2147483648 % 2 = 1 := by omega
  have eb : (uN x / 8388608 % 256) ≤ 255 := by omega
  have tb : (uN x % 8388608) < 8388608 := by omega
  generalize (uN x / 8388608 % 256) = e at a2 eb ⊢
  generalize (uN x % 8388608) = t at a3 tb ⊢
  have y1 : Int64.ofNat e = 255 ↔ e = 255 := fN_eq (b := 255) (by omega) (by decide)
  have y2 : Int64.ofNat t = 0 ↔ t = 0 := fN_eq (b := 0) (by omega) (by decide)
  have y3 : Int64.ofNat e = 0 ↔ e = 0 := fN_eq (b := 0) (by omega) (by decide)
  have y4 : (Int64.ofNat e).toInt32 = nI e := toInt32_lN (by omega)
  have y5 : Int64.ofNat t + 8388608 = Int64.ofNat (t + 8388608) := (Int64.ofNat_add t 8388608).symm
  have y6 : FP.l2d (Int64.ofNat t) = vD t 0 := by
    have := vD_int (Int64.ofNat t) (by rw [lN_u (by omega)]; omega)
    rw [lN_u (by omega)] at this
    exact this
  have y7 : FP.l2d (Int64.ofNat (t + 8388608)) = vD (t + 8388608) 0 := by
    have := vD_int (Int64.ofNat (t + 8388608)) (by rw [lN_u (by omega)]; omega)
    rw [lN_u (by omega)] at this
    exact this
  have oD := (isD_ob ho rfl : isD h m 40)
  have key : ∀ (W : UInt64) (z : Int32), ev 209 122 [some (.ref m), some (.long x), none, some (.int 23), some (.int 8), some (.long 255), none, some (.long (Int64.ofNat e)), none, some (.long (Int64.ofNat t)), none, some (.int 150)] [] (pD (pI h m 41 z) m 40 W) = some (none, pD (pI h m 41 z) m 40 (sgD (decide (2147483648 ≤ uN x)) W)) := by
    intro W z
    by_cases qs : uN x / 2147483648 % 2 = 1
    · rw [qs] at a5
      rw [decide_eq_true (es.mpr qs)]
      have q7 : (Int64.ofNat 1) = (1 : Int64) := rfl
      simp +decide only [e209_122, e209_123, e209_124, e209_126, e209_127, e209_128, e209_129, e209_130, e209_131, e209_132, e209_135, e209_136, e209_137, e209_140, e209_141, e209_144, lcmp_eq, a5, q7, ho, pD_same, (eq_true oD), ob_pI, rf_pI, isR_pI, isI_pI, isL_pI, arI_pI, arL_pI, arR_pI, aln_pI, rdI_pI, rdB_pI, rdR_pI, aR_pI, pI_2, gI_pI, gL_pI, gD_pI, gR_pI, aI_pI, aL_pI, aD_pI, ob_pD, rf_pD, isR_pD, isI_pD, isL_pD, arI_pD, arL_pD, arR_pD, aln_pD, rdI_pD, rdB_pD, rdR_pD, aR_pD, pD_2, gI_pD, gL_pD, gD_pD, gR_pD, aI_pD, aL_pD, aD_pD, ob_pL, rf_pL, isR_pL, isI_pL, isL_pL, arI_pL, arL_pL, arR_pL, aln_pL, rdI_pL, rdB_pL, rdR_pL, aR_pL, pL_2, gI_pL, gL_pL, gD_pL, gR_pL, aI_pL, aL_pL, aD_pL, gD_pD, isD_pI, isD_pD, vkk_n, vkk_i, vkk_r, vkk_l, vkk_d, catS_nil, catS_i, catS_r, catS_l, catS_d, Nat.reduceAdd, Nat.reduceLeDiff, Nat.zero_le, Nat.le_refl, Option.bind_some, Option.toList_some, Option.toList_none, List.cons_append, List.nil_append, or_true, true_or, if_true, if_false, Int32.reduceLT, Int32.reduceLE, not_true, not_false_iff, true_and, and_true, false_and, and_false]
      rfl
    · rw [show uN x / 2147483648 % 2 = 0 by omega] at a5
      rw [decide_eq_false (fun z => qs (es.mp z))]
      have q7 : ¬ (Int64.ofNat 0) = (1 : Int64) := by decide
      simp +decide only [e209_122, e209_123, e209_124, e209_126, e209_127, e209_128, e209_129, e209_130, e209_131, e209_132, e209_135, e209_136, e209_137, e209_140, e209_141, e209_144, lcmp_eq, a5, q7, ho, pD_same, (eq_true oD), ob_pI, rf_pI, isR_pI, isI_pI, isL_pI, arI_pI, arL_pI, arR_pI, aln_pI, rdI_pI, rdB_pI, rdR_pI, aR_pI, pI_2, gI_pI, gL_pI, gD_pI, gR_pI, aI_pI, aL_pI, aD_pI, ob_pD, rf_pD, isR_pD, isI_pD, isL_pD, arI_pD, arL_pD, arR_pD, aln_pD, rdI_pD, rdB_pD, rdR_pD, aR_pD, pD_2, gI_pD, gL_pD, gD_pD, gR_pD, aI_pD, aL_pD, aD_pD, ob_pL, rf_pL, isR_pL, isI_pL, isL_pL, arI_pL, arL_pL, arR_pL, aln_pL, rdI_pL, rdB_pL, rdR_pL, aR_pL, pL_2, gI_pL, gL_pL, gD_pL, gR_pL, aI_pL, aL_pL, aD_pL, gD_pD, isD_pI, isD_pD, vkk_n, vkk_i, vkk_r, vkk_l, vkk_d, catS_nil, catS_i, catS_r, catS_l, catS_d, Nat.reduceAdd, Nat.reduceLeDiff, Nat.zero_le, Nat.le_refl, Option.bind_some, Option.toList_some, Option.toList_none, List.cons_append, List.nil_append, or_true, true_or, if_true, if_false, Int32.reduceLT, Int32.reduceLE, not_true, not_false_iff, true_and, and_true, false_and, and_false]
      rfl
  unfold mvD
  by_cases e1 : e = 255
  · have f1 := y1.mpr e1
    rw [if_pos e1]
    by_cases t1 : t = 0
    · have f2 := y2.mpr t1
      rw [if_neg (fun z => z.2 t1)]
      rw [f2] at a3 key
      rw [f1] at a2 key
      have := key vInf 0
      simp +decide only [e209_0, e209_1, e209_3, e209_4, e209_5, e209_6, e209_8, e209_9, e209_10, e209_11, e209_13, e209_14, e209_16, e209_17, e209_18, e209_19, e209_20, e209_21, e209_22, e209_23, e209_25, e209_26, e209_28, e209_30, e209_31, e209_34, e209_36, e209_37, e209_38, e209_41, e209_42, e209_45, e209_46, e209_49, e209_51, e209_54, e209_55, e209_56, e209_57, e209_58, e209_60, e209_62, e209_64, e209_65, e209_68, e209_69, e209_72, e209_75, e209_78, e209_80, e209_81, e209_82, e209_85, e209_86, e209_88, e209_89, e209_90, e209_92, e209_93, e209_96, e209_99, e209_102, e209_103, e209_105, e209_106, e209_107, e209_108, e209_109, e209_110, e209_112, e209_113, e209_115, e209_116, e209_119, lcmp_eq, q1_32, q2_32, q4_32, a2, a3, ho, (eq_true oD), f2, not_true, q3_32, ob_pI, rf_pI, isR_pI, isI_pI, isL_pI, arI_pI, arL_pI, arR_pI, aln_pI, rdI_pI, rdB_pI, rdR_pI, aR_pI, pI_2, gI_pI, gL_pI, gD_pI, gR_pI, aI_pI, aL_pI, aD_pI, ob_pD, rf_pD, isR_pD, isI_pD, isL_pD, arI_pD, arL_pD, arR_pD, aln_pD, rdI_pD, rdB_pD, rdR_pD, aR_pD, pD_2, gI_pD, gL_pD, gD_pD, gR_pD, aI_pD, aL_pD, aD_pD, ob_pL, rf_pL, isR_pL, isI_pL, isL_pL, arI_pL, arL_pL, arR_pL, aln_pL, rdI_pL, rdB_pL, rdR_pL, aR_pL, pL_2, gI_pL, gL_pL, gD_pL, gR_pL, aI_pL, aL_pL, aD_pL, gD_pD, isD_pI, isD_pD, vkk_n, vkk_i, vkk_r, vkk_l, vkk_d, catS_nil, catS_i, catS_r, catS_l, catS_d, Nat.reduceAdd, Nat.reduceLeDiff, Nat.zero_le, Nat.le_refl, Option.bind_some, Option.toList_some, Option.toList_none, List.cons_append, List.nil_append, or_true, true_or, if_true, if_false, Int32.reduceLT, Int32.reduceLE, not_true, not_false_iff, true_and, and_true, false_and, and_false]
      exact this
    · have f2 : ¬ Int64.ofNat t = 0 := fun z => t1 (y2.mp z)
      rw [if_pos ⟨e1, t1⟩]
      rw [f1] at a2 key
      have := key vInf 1
      simp +decide only [e209_0, e209_1, e209_3, e209_4, e209_5, e209_6, e209_8, e209_9, e209_10, e209_11, e209_13, e209_14, e209_16, e209_17, e209_18, e209_19, e209_20, e209_21, e209_22, e209_23, e209_25, e209_26, e209_28, e209_30, e209_31, e209_34, e209_36, e209_37, e209_38, e209_41, e209_42, e209_45, e209_46, e209_49, e209_51, e209_54, e209_55, e209_56, e209_57, e209_58, e209_60, e209_62, e209_64, e209_65, e209_68, e209_69, e209_72, e209_75, e209_78, e209_80, e209_81, e209_82, e209_85, e209_86, e209_88, e209_89, e209_90, e209_92, e209_93, e209_96, e209_99, e209_102, e209_103, e209_105, e209_106, e209_107, e209_108, e209_109, e209_110, e209_112, e209_113, e209_115, e209_116, e209_119, lcmp_eq, q1_32, q2_32, q4_32, a2, a3, ho, (eq_true oD), f2, q3_32, ob_pI, rf_pI, isR_pI, isI_pI, isL_pI, arI_pI, arL_pI, arR_pI, aln_pI, rdI_pI, rdB_pI, rdR_pI, aR_pI, pI_2, gI_pI, gL_pI, gD_pI, gR_pI, aI_pI, aL_pI, aD_pI, ob_pD, rf_pD, isR_pD, isI_pD, isL_pD, arI_pD, arL_pD, arR_pD, aln_pD, rdI_pD, rdB_pD, rdR_pD, aR_pD, pD_2, gI_pD, gL_pD, gD_pD, gR_pD, aI_pD, aL_pD, aD_pD, ob_pL, rf_pL, isR_pL, isI_pL, isL_pL, arI_pL, arL_pL, arR_pL, aln_pL, rdI_pL, rdB_pL, rdR_pL, aR_pL, pL_2, gI_pL, gL_pL, gD_pL, gR_pL, aI_pL, aL_pL, aD_pL, gD_pD, isD_pI, isD_pD, vkk_n, vkk_i, vkk_r, vkk_l, vkk_d, catS_nil, catS_i, catS_r, catS_l, catS_d, Nat.reduceAdd, Nat.reduceLeDiff, Nat.zero_le, Nat.le_refl, Option.bind_some, Option.toList_some, Option.toList_none, List.cons_append, List.nil_append, or_true, true_or, if_true, if_false, Int32.reduceLT, Int32.reduceLE, not_true, not_false_iff, true_and, and_true, false_and, and_false]
      exact this
  · have f1 : ¬ Int64.ofNat e = 255 := fun z => e1 (y1.mp z)
    rw [if_neg e1, if_neg (fun z => e1 z.1)]
    by_cases e2 : e = 0
    · have f3 := y3.mpr e2
      rw [if_pos e2]
      rw [f3] at a2 key
      have f1' : ¬ (0 : Int64) = 255 := by decide
      by_cases t1 : t = 0
      · subst t1
        rw [if_pos rfl]
        have f2 : Int64.ofNat 0 = (0 : Int64) := rfl
        rw [f2] at a3 key
        have f4 : FP.l2d 0 = 0 := by decide +kernel
        have f5 : (1 : Int32) - 150 = -(nI 149) := by decide
        have f6 := fun h => c_times0 h 149 (by decide)
        have := key 0 0
        simp +decide only [e209_0, e209_1, e209_3, e209_4, e209_5, e209_6, e209_8, e209_9, e209_10, e209_11, e209_13, e209_14, e209_16, e209_17, e209_18, e209_19, e209_20, e209_21, e209_22, e209_23, e209_25, e209_26, e209_28, e209_30, e209_31, e209_34, e209_36, e209_37, e209_38, e209_41, e209_42, e209_45, e209_46, e209_49, e209_51, e209_54, e209_55, e209_56, e209_57, e209_58, e209_60, e209_62, e209_64, e209_65, e209_68, e209_69, e209_72, e209_75, e209_78, e209_80, e209_81, e209_82, e209_85, e209_86, e209_88, e209_89, e209_90, e209_92, e209_93, e209_96, e209_99, e209_102, e209_103, e209_105, e209_106, e209_107, e209_108, e209_109, e209_110, e209_112, e209_113, e209_115, e209_116, e209_119, lcmp_eq, q1_32, q2_32, q4_32, a2, a3, ho, (eq_true oD), f1', f4, f5, f6, q3_32, ob_pI, rf_pI, isR_pI, isI_pI, isL_pI, arI_pI, arL_pI, arR_pI, aln_pI, rdI_pI, rdB_pI, rdR_pI, aR_pI, pI_2, gI_pI, gL_pI, gD_pI, gR_pI, aI_pI, aL_pI, aD_pI, ob_pD, rf_pD, isR_pD, isI_pD, isL_pD, arI_pD, arL_pD, arR_pD, aln_pD, rdI_pD, rdB_pD, rdR_pD, aR_pD, pD_2, gI_pD, gL_pD, gD_pD, gR_pD, aI_pD, aL_pD, aD_pD, ob_pL, rf_pL, isR_pL, isI_pL, isL_pL, arI_pL, arL_pL, arR_pL, aln_pL, rdI_pL, rdB_pL, rdR_pL, aR_pL, pL_2, gI_pL, gL_pL, gD_pL, gR_pL, aI_pL, aL_pL, aD_pL, gD_pD, isD_pI, isD_pD, vkk_n, vkk_i, vkk_r, vkk_l, vkk_d, catS_nil, catS_i, catS_r, catS_l, catS_d, Nat.reduceAdd, Nat.reduceLeDiff, Nat.zero_le, Nat.le_refl, Option.bind_some, Option.toList_some, Option.toList_none, List.cons_append, List.nil_append, or_true, true_or, if_true, if_false, Int32.reduceLT, Int32.reduceLE, not_true, not_false_iff, true_and, and_true, false_and, and_false]
        exact this
      · rw [if_neg t1]
        have f6 := fun h => c_times h t (1 - ((150 : Nat) : Int)) (by omega) (by omega) (by omega) (by omega) (1 - 150) (by decide)
        have := key (vD t (1 - ((150 : Nat) : Int))) 0
        simp +decide only [e209_0, e209_1, e209_3, e209_4, e209_5, e209_6, e209_8, e209_9, e209_10, e209_11, e209_13, e209_14, e209_16, e209_17, e209_18, e209_19, e209_20, e209_21, e209_22, e209_23, e209_25, e209_26, e209_28, e209_30, e209_31, e209_34, e209_36, e209_37, e209_38, e209_41, e209_42, e209_45, e209_46, e209_49, e209_51, e209_54, e209_55, e209_56, e209_57, e209_58, e209_60, e209_62, e209_64, e209_65, e209_68, e209_69, e209_72, e209_75, e209_78, e209_80, e209_81, e209_82, e209_85, e209_86, e209_88, e209_89, e209_90, e209_92, e209_93, e209_96, e209_99, e209_102, e209_103, e209_105, e209_106, e209_107, e209_108, e209_109, e209_110, e209_112, e209_113, e209_115, e209_116, e209_119, lcmp_eq, q1_32, q2_32, q4_32, a2, a3, ho, (eq_true oD), f1', y6, f6, q3_32, ob_pI, rf_pI, isR_pI, isI_pI, isL_pI, arI_pI, arL_pI, arR_pI, aln_pI, rdI_pI, rdB_pI, rdR_pI, aR_pI, pI_2, gI_pI, gL_pI, gD_pI, gR_pI, aI_pI, aL_pI, aD_pI, ob_pD, rf_pD, isR_pD, isI_pD, isL_pD, arI_pD, arL_pD, arR_pD, aln_pD, rdI_pD, rdB_pD, rdR_pD, aR_pD, pD_2, gI_pD, gL_pD, gD_pD, gR_pD, aI_pD, aL_pD, aD_pD, ob_pL, rf_pL, isR_pL, isI_pL, isL_pL, arI_pL, arL_pL, arR_pL, aln_pL, rdI_pL, rdB_pL, rdR_pL, aR_pL, pL_2, gI_pL, gL_pL, gD_pL, gR_pL, aI_pL, aL_pL, aD_pL, gD_pD, isD_pI, isD_pD, vkk_n, vkk_i, vkk_r, vkk_l, vkk_d, catS_nil, catS_i, catS_r, catS_l, catS_d, Nat.reduceAdd, Nat.reduceLeDiff, Nat.zero_le, Nat.le_refl, Option.bind_some, Option.toList_some, Option.toList_none, List.cons_append, List.nil_append, or_true, true_or, if_true, if_false, Int32.reduceLT, Int32.reduceLE, not_true, not_false_iff, true_and, and_true, false_and, and_false]
        exact this
    · have f3 : ¬ Int64.ofNat e = 0 := fun z => e2 (y3.mp z)
      rw [if_neg e2]
      have f6 := fun h => c_times h (t + 2 ^ 23) ((e : Int) - ((150 : Nat) : Int)) (by omega) (by omega) (by omega) (by omega) (nI e - 150) (by
        by_cases z : 150 ≤ e
        · rw [if_pos (by omega), show (150 : Int32) = nI 150 from rfl, pk_sub z, show ((e : Int) - ((150 : Nat) : Int)).toNat = e - 150 by omega]
        · rw [if_neg (by omega), show (-((e : Int) - ((150 : Nat) : Int))).toNat = 150 - e by omega, show (150 : Int32) = nI 150 from rfl, ← Int32.neg_sub, pk_sub (by omega)])
      have f7 : (t + 2 ^ 23) = (t + 8388608) := rfl
      rw [f7] at f6 ⊢
      have := key (vD (t + 8388608) ((e : Int) - ((150 : Nat) : Int))) 0
      simp +decide only [e209_0, e209_1, e209_3, e209_4, e209_5, e209_6, e209_8, e209_9, e209_10, e209_11, e209_13, e209_14, e209_16, e209_17, e209_18, e209_19, e209_20, e209_21, e209_22, e209_23, e209_25, e209_26, e209_28, e209_30, e209_31, e209_34, e209_36, e209_37, e209_38, e209_41, e209_42, e209_45, e209_46, e209_49, e209_51, e209_54, e209_55, e209_56, e209_57, e209_58, e209_60, e209_62, e209_64, e209_65, e209_68, e209_69, e209_72, e209_75, e209_78, e209_80, e209_81, e209_82, e209_85, e209_86, e209_88, e209_89, e209_90, e209_92, e209_93, e209_96, e209_99, e209_102, e209_103, e209_105, e209_106, e209_107, e209_108, e209_109, e209_110, e209_112, e209_113, e209_115, e209_116, e209_119, lcmp_eq, q1_32, q2_32, q4_32, a2, a3, ho, (eq_true oD), f1, f3, y4, y5, y7, f6, q3_32, ob_pI, rf_pI, isR_pI, isI_pI, isL_pI, arI_pI, arL_pI, arR_pI, aln_pI, rdI_pI, rdB_pI, rdR_pI, aR_pI, pI_2, gI_pI, gL_pI, gD_pI, gR_pI, aI_pI, aL_pI, aD_pI, ob_pD, rf_pD, isR_pD, isI_pD, isL_pD, arI_pD, arL_pD, arR_pD, aln_pD, rdI_pD, rdB_pD, rdR_pD, aR_pD, pD_2, gI_pD, gL_pD, gD_pD, gR_pD, aI_pD, aL_pD, aD_pD, ob_pL, rf_pL, isR_pL, isI_pL, isL_pL, arI_pL, arL_pL, arR_pL, aln_pL, rdI_pL, rdB_pL, rdR_pL, aR_pL, pL_2, gI_pL, gL_pL, gD_pL, gR_pL, aI_pL, aL_pL, aD_pL, gD_pD, isD_pI, isD_pD, vkk_n, vkk_i, vkk_r, vkk_l, vkk_d, catS_nil, catS_i, catS_r, catS_l, catS_d, Nat.reduceAdd, Nat.reduceLeDiff, Nat.zero_le, Nat.le_refl, Option.bind_some, Option.toList_some, Option.toList_none, List.cons_append, List.nil_append, or_true, true_or, if_true, if_false, Int32.reduceLT, Int32.reduceLE, not_true, not_false_iff, true_and, and_true, false_and, and_false]
      exact this
theorem q1_64 : ((1 : Int64) <<< ((11 : Int32).toInt64 &&& 63)) - 1 = 2047 := by decide
theorem q2_64 : (4503599627370496 : Int64) - 1 = 4503599627370495 := by decide
theorem q3_64 : (1 : Int64) <<< ((52 : Int32).toInt64 &&& 63) = 4503599627370496 := by decide
theorem q4_64 : ((2047 : Int64) / 2).toInt32 + (52 : Int32) = 1075 := by decide
theorem q5_64 : (1 : Int64) <<< (((52 : Int32) + (11 : Int32)).toInt64 &&& 63) = -9223372036854775808 := by decide
theorem q6_64 : (2047 : Int64) <<< ((52 : Int32).toInt64 &&& 63) = 9218868437227405312 := by decide
set_option maxHeartbeats 4000000 in
theorem c_madeOf64 (h : VG) (m : Nat) (x : Int64) (ho : ob h m 11) : ev 209 0 [some (.ref m), some (.long x), none, some (.int 52), some (.int 11), none, none, none, none, none, none, none] [] h = some (none, pD (pI h m 41 (if (uN x / 4503599627370496 % 2048) = 2047 ∧ ¬ (uN x % 4503599627370496) = 0 then 1 else 0)) m 40 (sgD (decide (9223372036854775808 ≤ uN x)) (mvD 52 2047 1075 (uN x / 4503599627370496 % 2048) (uN x % 4503599627370496)))) := by
  have hxl := uN_lt x
  have a2 : x >>> ((52 : Int32).toInt64 &&& 63) &&& 2047 = Int64.ofNat (uN x / 4503599627370496 % 2048) := by
    apply uN_inj
    rw [sr_mask x 2047 52 (k := 52) (j := 11) (by decide) (by decide) (by decide), lN_u (by omega)]
  have a3 : x &&& 4503599627370495 = Int64.ofNat (uN x % 4503599627370496) := by
    apply uN_inj
    rw [uN_mask x 4503599627370495 (k := 52) (by decide), lN_u (by omega)]
  have a5 : x >>> (((52 : Int32) + (11 : Int32)).toInt64 &&& 63) &&& 1 = Int64.ofNat (uN x / 9223372036854775808 % 2) := by
    apply uN_inj
    rw [sr_mask x 1 (52 + 11) (k := 63) (j := 1) (by decide) (by decide) (by decide), lN_u (by omega)]
  have es : 9223372036854775808 ≤ uN x ↔ uN x / 9223372036854775808 % 2 = 1 := by omega
  have eb : (uN x / 4503599627370496 % 2048) ≤ 2047 := by omega
  have tb : (uN x % 4503599627370496) < 4503599627370496 := by omega
  generalize (uN x / 4503599627370496 % 2048) = e at a2 eb ⊢
  generalize (uN x % 4503599627370496) = t at a3 tb ⊢
  have y1 : Int64.ofNat e = 2047 ↔ e = 2047 := fN_eq (b := 2047) (by omega) (by decide)
  have y2 : Int64.ofNat t = 0 ↔ t = 0 := fN_eq (b := 0) (by omega) (by decide)
  have y3 : Int64.ofNat e = 0 ↔ e = 0 := fN_eq (b := 0) (by omega) (by decide)
  have y4 : (Int64.ofNat e).toInt32 = nI e := toInt32_lN (by omega)
  have y5 : Int64.ofNat t + 4503599627370496 = Int64.ofNat (t + 4503599627370496) := (Int64.ofNat_add t 4503599627370496).symm
  have y6 : FP.l2d (Int64.ofNat t) = vD t 0 := by
    have := vD_int (Int64.ofNat t) (by rw [lN_u (by omega)]; omega)
    rw [lN_u (by omega)] at this
    exact this
  have y7 : FP.l2d (Int64.ofNat (t + 4503599627370496)) = vD (t + 4503599627370496) 0 := by
    have := vD_int (Int64.ofNat (t + 4503599627370496)) (by rw [lN_u (by omega)]; omega)
    rw [lN_u (by omega)] at this
    exact this
  have oD := (isD_ob ho rfl : isD h m 40)
  have key : ∀ (W : UInt64) (z : Int32), ev 209 122 [some (.ref m), some (.long x), none, some (.int 52), some (.int 11), some (.long 2047), none, some (.long (Int64.ofNat e)), none, some (.long (Int64.ofNat t)), none, some (.int 1075)] [] (pD (pI h m 41 z) m 40 W) = some (none, pD (pI h m 41 z) m 40 (sgD (decide (9223372036854775808 ≤ uN x)) W)) := by
    intro W z
    by_cases qs : uN x / 9223372036854775808 % 2 = 1
    · rw [qs] at a5
      rw [decide_eq_true (es.mpr qs)]
      have q7 : (Int64.ofNat 1) = (1 : Int64) := rfl
      simp +decide only [e209_122, e209_123, e209_124, e209_126, e209_127, e209_128, e209_129, e209_130, e209_131, e209_132, e209_135, e209_136, e209_137, e209_140, e209_141, e209_144, lcmp_eq, a5, q7, ho, pD_same, (eq_true oD), ob_pI, rf_pI, isR_pI, isI_pI, isL_pI, arI_pI, arL_pI, arR_pI, aln_pI, rdI_pI, rdB_pI, rdR_pI, aR_pI, pI_2, gI_pI, gL_pI, gD_pI, gR_pI, aI_pI, aL_pI, aD_pI, ob_pD, rf_pD, isR_pD, isI_pD, isL_pD, arI_pD, arL_pD, arR_pD, aln_pD, rdI_pD, rdB_pD, rdR_pD, aR_pD, pD_2, gI_pD, gL_pD, gD_pD, gR_pD, aI_pD, aL_pD, aD_pD, ob_pL, rf_pL, isR_pL, isI_pL, isL_pL, arI_pL, arL_pL, arR_pL, aln_pL, rdI_pL, rdB_pL, rdR_pL, aR_pL, pL_2, gI_pL, gL_pL, gD_pL, gR_pL, aI_pL, aL_pL, aD_pL, gD_pD, isD_pI, isD_pD, vkk_n, vkk_i, vkk_r, vkk_l, vkk_d, catS_nil, catS_i, catS_r, catS_l, catS_d, Nat.reduceAdd, Nat.reduceLeDiff, Nat.zero_le, Nat.le_refl, Option.bind_some, Option.toList_some, Option.toList_none, List.cons_append, List.nil_append, or_true, true_or, if_true, if_false, Int32.reduceLT, Int32.reduceLE, not_true, not_false_iff, true_and, and_true, false_and, and_false]
      rfl
    · rw [show uN x / 9223372036854775808 % 2 = 0 by omega] at a5
      rw [decide_eq_false (fun z => qs (es.mp z))]
      have q7 : ¬ (Int64.ofNat 0) = (1 : Int64) := by decide
      simp +decide only [e209_122, e209_123, e209_124, e209_126, e209_127, e209_128, e209_129, e209_130, e209_131, e209_132, e209_135, e209_136, e209_137, e209_140, e209_141, e209_144, lcmp_eq, a5, q7, ho, pD_same, (eq_true oD), ob_pI, rf_pI, isR_pI, isI_pI, isL_pI, arI_pI, arL_pI, arR_pI, aln_pI, rdI_pI, rdB_pI, rdR_pI, aR_pI, pI_2, gI_pI, gL_pI, gD_pI, gR_pI, aI_pI, aL_pI, aD_pI, ob_pD, rf_pD, isR_pD, isI_pD, isL_pD, arI_pD, arL_pD, arR_pD, aln_pD, rdI_pD, rdB_pD, rdR_pD, aR_pD, pD_2, gI_pD, gL_pD, gD_pD, gR_pD, aI_pD, aL_pD, aD_pD, ob_pL, rf_pL, isR_pL, isI_pL, isL_pL, arI_pL, arL_pL, arR_pL, aln_pL, rdI_pL, rdB_pL, rdR_pL, aR_pL, pL_2, gI_pL, gL_pL, gD_pL, gR_pL, aI_pL, aL_pL, aD_pL, gD_pD, isD_pI, isD_pD, vkk_n, vkk_i, vkk_r, vkk_l, vkk_d, catS_nil, catS_i, catS_r, catS_l, catS_d, Nat.reduceAdd, Nat.reduceLeDiff, Nat.zero_le, Nat.le_refl, Option.bind_some, Option.toList_some, Option.toList_none, List.cons_append, List.nil_append, or_true, true_or, if_true, if_false, Int32.reduceLT, Int32.reduceLE, not_true, not_false_iff, true_and, and_true, false_and, and_false]
      rfl
  unfold mvD
  by_cases e1 : e = 2047
  · have f1 := y1.mpr e1
    rw [if_pos e1]
    by_cases t1 : t = 0
    · have f2 := y2.mpr t1
      rw [if_neg (fun z => z.2 t1)]
      rw [f2] at a3 key
      rw [f1] at a2 key
      have := key vInf 0
      simp +decide only [e209_0, e209_1, e209_3, e209_4, e209_5, e209_6, e209_8, e209_9, e209_10, e209_11, e209_13, e209_14, e209_16, e209_17, e209_18, e209_19, e209_20, e209_21, e209_22, e209_23, e209_25, e209_26, e209_28, e209_30, e209_31, e209_34, e209_36, e209_37, e209_38, e209_41, e209_42, e209_45, e209_46, e209_49, e209_51, e209_54, e209_55, e209_56, e209_57, e209_58, e209_60, e209_62, e209_64, e209_65, e209_68, e209_69, e209_72, e209_75, e209_78, e209_80, e209_81, e209_82, e209_85, e209_86, e209_88, e209_89, e209_90, e209_92, e209_93, e209_96, e209_99, e209_102, e209_103, e209_105, e209_106, e209_107, e209_108, e209_109, e209_110, e209_112, e209_113, e209_115, e209_116, e209_119, lcmp_eq, q1_64, q2_64, q4_64, a2, a3, ho, (eq_true oD), f2, not_true, q3_64, ob_pI, rf_pI, isR_pI, isI_pI, isL_pI, arI_pI, arL_pI, arR_pI, aln_pI, rdI_pI, rdB_pI, rdR_pI, aR_pI, pI_2, gI_pI, gL_pI, gD_pI, gR_pI, aI_pI, aL_pI, aD_pI, ob_pD, rf_pD, isR_pD, isI_pD, isL_pD, arI_pD, arL_pD, arR_pD, aln_pD, rdI_pD, rdB_pD, rdR_pD, aR_pD, pD_2, gI_pD, gL_pD, gD_pD, gR_pD, aI_pD, aL_pD, aD_pD, ob_pL, rf_pL, isR_pL, isI_pL, isL_pL, arI_pL, arL_pL, arR_pL, aln_pL, rdI_pL, rdB_pL, rdR_pL, aR_pL, pL_2, gI_pL, gL_pL, gD_pL, gR_pL, aI_pL, aL_pL, aD_pL, gD_pD, isD_pI, isD_pD, vkk_n, vkk_i, vkk_r, vkk_l, vkk_d, catS_nil, catS_i, catS_r, catS_l, catS_d, Nat.reduceAdd, Nat.reduceLeDiff, Nat.zero_le, Nat.le_refl, Option.bind_some, Option.toList_some, Option.toList_none, List.cons_append, List.nil_append, or_true, true_or, if_true, if_false, Int32.reduceLT, Int32.reduceLE, not_true, not_false_iff, true_and, and_true, false_and, and_false]
      exact this
    · have f2 : ¬ Int64.ofNat t = 0 := fun z => t1 (y2.mp z)
      rw [if_pos ⟨e1, t1⟩]
      rw [f1] at a2 key
      have := key vInf 1
      simp +decide only [e209_0, e209_1, e209_3, e209_4, e209_5, e209_6, e209_8, e209_9, e209_10, e209_11, e209_13, e209_14, e209_16, e209_17, e209_18, e209_19, e209_20, e209_21, e209_22, e209_23, e209_25, e209_26, e209_28, e209_30, e209_31, e209_34, e209_36, e209_37, e209_38, e209_41, e209_42, e209_45, e209_46, e209_49, e209_51, e209_54, e209_55, e209_56, e209_57, e209_58, e209_60, e209_62, e209_64, e209_65, e209_68, e209_69, e209_72, e209_75, e209_78, e209_80, e209_81, e209_82, e209_85, e209_86, e209_88, e209_89, e209_90, e209_92, e209_93, e209_96, e209_99, e209_102, e209_103, e209_105, e209_106, e209_107, e209_108, e209_109, e209_110, e209_112, e209_113, e209_115, e209_116, e209_119, lcmp_eq, q1_64, q2_64, q4_64, a2, a3, ho, (eq_true oD), f2, q3_64, ob_pI, rf_pI, isR_pI, isI_pI, isL_pI, arI_pI, arL_pI, arR_pI, aln_pI, rdI_pI, rdB_pI, rdR_pI, aR_pI, pI_2, gI_pI, gL_pI, gD_pI, gR_pI, aI_pI, aL_pI, aD_pI, ob_pD, rf_pD, isR_pD, isI_pD, isL_pD, arI_pD, arL_pD, arR_pD, aln_pD, rdI_pD, rdB_pD, rdR_pD, aR_pD, pD_2, gI_pD, gL_pD, gD_pD, gR_pD, aI_pD, aL_pD, aD_pD, ob_pL, rf_pL, isR_pL, isI_pL, isL_pL, arI_pL, arL_pL, arR_pL, aln_pL, rdI_pL, rdB_pL, rdR_pL, aR_pL, pL_2, gI_pL, gL_pL, gD_pL, gR_pL, aI_pL, aL_pL, aD_pL, gD_pD, isD_pI, isD_pD, vkk_n, vkk_i, vkk_r, vkk_l, vkk_d, catS_nil, catS_i, catS_r, catS_l, catS_d, Nat.reduceAdd, Nat.reduceLeDiff, Nat.zero_le, Nat.le_refl, Option.bind_some, Option.toList_some, Option.toList_none, List.cons_append, List.nil_append, or_true, true_or, if_true, if_false, Int32.reduceLT, Int32.reduceLE, not_true, not_false_iff, true_and, and_true, false_and, and_false]
      exact this
  · have f1 : ¬ Int64.ofNat e = 2047 := fun z => e1 (y1.mp z)
    rw [if_neg e1, if_neg (fun z => e1 z.1)]
    by_cases e2 : e = 0
    · have f3 := y3.mpr e2
      rw [if_pos e2]
      rw [f3] at a2 key
      have f1' : ¬ (0 : Int64) = 2047 := by decide
      by_cases t1 : t = 0
      · subst t1
        rw [if_pos rfl]
        have f2 : Int64.ofNat 0 = (0 : Int64) := rfl
        rw [f2] at a3 key
        have f4 : FP.l2d 0 = 0 := by decide +kernel
        have f5 : (1 : Int32) - 1075 = -(nI 1074) := by decide
        have f6 := fun h => c_times0 h 1074 (by decide)
        have := key 0 0
        simp +decide only [e209_0, e209_1, e209_3, e209_4, e209_5, e209_6, e209_8, e209_9, e209_10, e209_11, e209_13, e209_14, e209_16, e209_17, e209_18, e209_19, e209_20, e209_21, e209_22, e209_23, e209_25, e209_26, e209_28, e209_30, e209_31, e209_34, e209_36, e209_37, e209_38, e209_41, e209_42, e209_45, e209_46, e209_49, e209_51, e209_54, e209_55, e209_56, e209_57, e209_58, e209_60, e209_62, e209_64, e209_65, e209_68, e209_69, e209_72, e209_75, e209_78, e209_80, e209_81, e209_82, e209_85, e209_86, e209_88, e209_89, e209_90, e209_92, e209_93, e209_96, e209_99, e209_102, e209_103, e209_105, e209_106, e209_107, e209_108, e209_109, e209_110, e209_112, e209_113, e209_115, e209_116, e209_119, lcmp_eq, q1_64, q2_64, q4_64, a2, a3, ho, (eq_true oD), f1', f4, f5, f6, q3_64, ob_pI, rf_pI, isR_pI, isI_pI, isL_pI, arI_pI, arL_pI, arR_pI, aln_pI, rdI_pI, rdB_pI, rdR_pI, aR_pI, pI_2, gI_pI, gL_pI, gD_pI, gR_pI, aI_pI, aL_pI, aD_pI, ob_pD, rf_pD, isR_pD, isI_pD, isL_pD, arI_pD, arL_pD, arR_pD, aln_pD, rdI_pD, rdB_pD, rdR_pD, aR_pD, pD_2, gI_pD, gL_pD, gD_pD, gR_pD, aI_pD, aL_pD, aD_pD, ob_pL, rf_pL, isR_pL, isI_pL, isL_pL, arI_pL, arL_pL, arR_pL, aln_pL, rdI_pL, rdB_pL, rdR_pL, aR_pL, pL_2, gI_pL, gL_pL, gD_pL, gR_pL, aI_pL, aL_pL, aD_pL, gD_pD, isD_pI, isD_pD, vkk_n, vkk_i, vkk_r, vkk_l, vkk_d, catS_nil, catS_i, catS_r, catS_l, catS_d, Nat.reduceAdd, Nat.reduceLeDiff, Nat.zero_le, Nat.le_refl, Option.bind_some, Option.toList_some, Option.toList_none, List.cons_append, List.nil_append, or_true, true_or, if_true, if_false, Int32.reduceLT, Int32.reduceLE, not_true, not_false_iff, true_and, and_true, false_and, and_false]
        exact this
      · rw [if_neg t1]
        have f6 := fun h => c_times h t (1 - ((1075 : Nat) : Int)) (by omega) (by omega) (by omega) (by omega) (1 - 1075) (by decide)
        have := key (vD t (1 - ((1075 : Nat) : Int))) 0
        simp +decide only [e209_0, e209_1, e209_3, e209_4, e209_5, e209_6, e209_8, e209_9, e209_10, e209_11, e209_13, e209_14, e209_16, e209_17, e209_18, e209_19, e209_20, e209_21, e209_22, e209_23, e209_25, e209_26, e209_28, e209_30, e209_31, e209_34, e209_36, e209_37, e209_38, e209_41, e209_42, e209_45, e209_46, e209_49, e209_51, e209_54, e209_55, e209_56, e209_57, e209_58, e209_60, e209_62, e209_64, e209_65, e209_68, e209_69, e209_72, e209_75, e209_78, e209_80, e209_81, e209_82, e209_85, e209_86, e209_88, e209_89, e209_90, e209_92, e209_93, e209_96, e209_99, e209_102, e209_103, e209_105, e209_106, e209_107, e209_108, e209_109, e209_110, e209_112, e209_113, e209_115, e209_116, e209_119, lcmp_eq, q1_64, q2_64, q4_64, a2, a3, ho, (eq_true oD), f1', y6, f6, q3_64, ob_pI, rf_pI, isR_pI, isI_pI, isL_pI, arI_pI, arL_pI, arR_pI, aln_pI, rdI_pI, rdB_pI, rdR_pI, aR_pI, pI_2, gI_pI, gL_pI, gD_pI, gR_pI, aI_pI, aL_pI, aD_pI, ob_pD, rf_pD, isR_pD, isI_pD, isL_pD, arI_pD, arL_pD, arR_pD, aln_pD, rdI_pD, rdB_pD, rdR_pD, aR_pD, pD_2, gI_pD, gL_pD, gD_pD, gR_pD, aI_pD, aL_pD, aD_pD, ob_pL, rf_pL, isR_pL, isI_pL, isL_pL, arI_pL, arL_pL, arR_pL, aln_pL, rdI_pL, rdB_pL, rdR_pL, aR_pL, pL_2, gI_pL, gL_pL, gD_pL, gR_pL, aI_pL, aL_pL, aD_pL, gD_pD, isD_pI, isD_pD, vkk_n, vkk_i, vkk_r, vkk_l, vkk_d, catS_nil, catS_i, catS_r, catS_l, catS_d, Nat.reduceAdd, Nat.reduceLeDiff, Nat.zero_le, Nat.le_refl, Option.bind_some, Option.toList_some, Option.toList_none, List.cons_append, List.nil_append, or_true, true_or, if_true, if_false, Int32.reduceLT, Int32.reduceLE, not_true, not_false_iff, true_and, and_true, false_and, and_false]
        exact this
    · have f3 : ¬ Int64.ofNat e = 0 := fun z => e2 (y3.mp z)
      rw [if_neg e2]
      have f6 := fun h => c_times h (t + 2 ^ 52) ((e : Int) - ((1075 : Nat) : Int)) (by omega) (by omega) (by omega) (by omega) (nI e - 1075) (by
        by_cases z : 1075 ≤ e
        · rw [if_pos (by omega), show (1075 : Int32) = nI 1075 from rfl, pk_sub z, show ((e : Int) - ((1075 : Nat) : Int)).toNat = e - 1075 by omega]
        · rw [if_neg (by omega), show (-((e : Int) - ((1075 : Nat) : Int))).toNat = 1075 - e by omega, show (1075 : Int32) = nI 1075 from rfl, ← Int32.neg_sub, pk_sub (by omega)])
      have f7 : (t + 2 ^ 52) = (t + 4503599627370496) := rfl
      rw [f7] at f6 ⊢
      have := key (vD (t + 4503599627370496) ((e : Int) - ((1075 : Nat) : Int))) 0
      simp +decide only [e209_0, e209_1, e209_3, e209_4, e209_5, e209_6, e209_8, e209_9, e209_10, e209_11, e209_13, e209_14, e209_16, e209_17, e209_18, e209_19, e209_20, e209_21, e209_22, e209_23, e209_25, e209_26, e209_28, e209_30, e209_31, e209_34, e209_36, e209_37, e209_38, e209_41, e209_42, e209_45, e209_46, e209_49, e209_51, e209_54, e209_55, e209_56, e209_57, e209_58, e209_60, e209_62, e209_64, e209_65, e209_68, e209_69, e209_72, e209_75, e209_78, e209_80, e209_81, e209_82, e209_85, e209_86, e209_88, e209_89, e209_90, e209_92, e209_93, e209_96, e209_99, e209_102, e209_103, e209_105, e209_106, e209_107, e209_108, e209_109, e209_110, e209_112, e209_113, e209_115, e209_116, e209_119, lcmp_eq, q1_64, q2_64, q4_64, a2, a3, ho, (eq_true oD), f1, f3, y4, y5, y7, f6, q3_64, ob_pI, rf_pI, isR_pI, isI_pI, isL_pI, arI_pI, arL_pI, arR_pI, aln_pI, rdI_pI, rdB_pI, rdR_pI, aR_pI, pI_2, gI_pI, gL_pI, gD_pI, gR_pI, aI_pI, aL_pI, aD_pI, ob_pD, rf_pD, isR_pD, isI_pD, isL_pD, arI_pD, arL_pD, arR_pD, aln_pD, rdI_pD, rdB_pD, rdR_pD, aR_pD, pD_2, gI_pD, gL_pD, gD_pD, gR_pD, aI_pD, aL_pD, aD_pD, ob_pL, rf_pL, isR_pL, isI_pL, isL_pL, arI_pL, arL_pL, arR_pL, aln_pL, rdI_pL, rdB_pL, rdR_pL, aR_pL, pL_2, gI_pL, gL_pL, gD_pL, gR_pL, aI_pL, aL_pL, aD_pL, gD_pD, isD_pI, isD_pD, vkk_n, vkk_i, vkk_r, vkk_l, vkk_d, catS_nil, catS_i, catS_r, catS_l, catS_d, Nat.reduceAdd, Nat.reduceLeDiff, Nat.zero_le, Nat.le_refl, Option.bind_some, Option.toList_some, Option.toList_none, List.cons_append, List.nil_append, or_true, true_or, if_true, if_false, Int32.reduceLT, Int32.reduceLE, not_true, not_false_iff, true_and, and_true, false_and, and_false]
      exact this
theorem c_bo0_32 (h : VG) (σ : Bool) (c : Nat) (q : Int) (h0 : 0 < c) (h1 : c < 9007199254740992) (h2 : -1074 ≤ q) (h3 : q ≤ 971) : ev 210 0 [some (.double (sgD σ (vD c q))), none, some (.int 23), some (.int 8), none, none, none, none, none, none, none, none, none, none, none] [] h = ev 210 111 [some (.double (sgD σ (vD c q))), none, some (.int 23), some (.int 8), some (.long 255), none, some (.int 150), some (.int (if σ then 1 else 0)), some (.double (vD c q)), none, some (.long (if σ then 2147483648 else 0)), none, some (.int (150)), some (.double 4710765210229538816), none] [] h := by
  have l1 := vD_lt63 h0 h1 h2 h3
  have z0 : FP.dconst0.toNat = 0 := rfl
  have c3 : ¬ Op.cmpValue (FP.dcmp (vD c q) 9218868437227405312) .l = 0 := fun z => by
    have := (cmp_n (by omega) (by decide) .l).2.mp z
    rw [show (9218868437227405312 : UInt64).toNat = 9218868437227405312 from rfl] at this
    omega
  have c4 : ¬ Op.cmpValue (FP.dcmp (vD c q) FP.dconst0) .l = 0 := fun z => by
    have := (cmp_n (by omega) (by decide) .l).2.mp z
    omega
  cases σ
  · have c1 : ¬ Op.cmpValue (FP.dcmp (vD c q) FP.dconst0) .g < 0 := fun z => by
      have := (cmp_n (by omega) (by decide) .g).1.mp z
      omega
    have s1 : sgD false (vD c q) = vD c q := rfl
    rw [s1]
    simp +decide only [e210_0, e210_1, e210_2, e210_3, e210_4, e210_5, e210_7, e210_9, e210_12, e210_13, e210_14, e210_15, e210_16, e210_18, e210_19, e210_20, e210_21, e210_24, e210_25, e210_26, e210_27, e210_30, e210_31, e210_32, e210_33, e210_34, e210_35, e210_38, e210_39, e210_42, e210_43, e210_45, e210_47, e210_50, e210_51, e210_52, e210_55, e210_56, e210_58, e210_60, e210_63, e210_64, e210_65, e210_66, e210_67, e210_68, e210_71, e210_72, e210_74, e210_76, e210_79, e210_80, e210_83, e210_85, e210_87, e210_88, e210_89, e210_90, e210_91, e210_93, e210_94, e210_95, e210_98, e210_100, e210_101, e210_103, e210_105, e210_106, e210_107, e210_108, e210_109, q1_32, q4_32, q5_32, q3_32, one_32, q6_32, c1, c3, c4, vkk_n, vkk_i, vkk_r, vkk_l, vkk_d, catS_nil, catS_i, catS_r, catS_l, catS_d, Nat.reduceAdd, Nat.reduceLeDiff, Nat.zero_le, Nat.le_refl, Option.bind_some, Option.toList_some, Option.toList_none, List.cons_append, List.nil_append, or_true, true_or, if_true, if_false, Int32.reduceLT, Int32.reduceLE, not_true, not_false_iff, true_and, and_true, false_and, and_false]
  · have s1 : sgD true (vD c q) = FP.dneg (vD c q) := rfl
    have s2 := dneg_n (a := vD c q) (by omega)
    have s3 : FP.Core.val64 (FP.dneg (vD c q)) ≠ .nan := by
      refine (FP.Core.notNaN_iff _).mp ?_
      cases hq : FP.Core.dIsNaN (FP.dneg (vD c q)) with
      | false => rfl
      | true =>
        have h1 := (FP.Core.isNaN_bits _).mp hq
        rw [s2] at h1
        omega
    have c1 : Op.cmpValue (FP.dcmp (FP.dneg (vD c q)) FP.dconst0) .g < 0 := by
      refine (cmp_key s3 (bits_nn (by decide)) .g).1.mpr ?_
      unfold FP.Core.dkey
      rw [if_pos (by omega), if_neg (by decide), s2, z0]
      omega
    rw [s1]
    simp +decide only [e210_0, e210_1, e210_2, e210_3, e210_4, e210_5, e210_7, e210_9, e210_12, e210_13, e210_14, e210_15, e210_16, e210_18, e210_19, e210_20, e210_21, e210_24, e210_25, e210_26, e210_27, e210_30, e210_31, e210_32, e210_33, e210_34, e210_35, e210_38, e210_39, e210_42, e210_43, e210_45, e210_47, e210_50, e210_51, e210_52, e210_55, e210_56, e210_58, e210_60, e210_63, e210_64, e210_65, e210_66, e210_67, e210_68, e210_71, e210_72, e210_74, e210_76, e210_79, e210_80, e210_83, e210_85, e210_87, e210_88, e210_89, e210_90, e210_91, e210_93, e210_94, e210_95, e210_98, e210_100, e210_101, e210_103, e210_105, e210_106, e210_107, e210_108, e210_109, q1_32, q4_32, q5_32, q3_32, one_32, q6_32, c1, c3, c4, dneg2, vkk_n, vkk_i, vkk_r, vkk_l, vkk_d, catS_nil, catS_i, catS_r, catS_l, catS_d, Nat.reduceAdd, Nat.reduceLeDiff, Nat.zero_le, Nat.le_refl, Option.bind_some, Option.toList_some, Option.toList_none, List.cons_append, List.nil_append, or_true, true_or, if_true, if_false, Int32.reduceLT, Int32.reduceLE, not_true, not_false_iff, true_and, and_true, false_and, and_false]
theorem l_bo3_32 (h : VG) (v : UInt64) (bl pw : Int32) (sg : Int64) (c : Nat) (h0 : 0 < c) (h1 : c < 9007199254740992) (hb : c.log2 = 23) : ev 210 137 [some (.double v), none, some (.int 23), some (.int 8), some (.long 255), none, some (.int 150), some (.int bl), some (.double (vD c 0)), none, some (.long sg), none, some (.int pw), some (.double 4710765210229538816), none] [] h = some (some (.long ((sg ||| pw.toInt64 <<< ((23 : Int32).toInt64 &&& 63)) ||| (FP.d2l (vD c 0) - 8388608))), h) := by
  have l1 := vD_lt63 (q := 0) h0 h1 (by decide) (by decide)
  have g1 := vD_ge (m := 23) (q := 0) h0 h1 (by decide) (by decide)
  have c1 : ¬ Op.cmpValue (FP.dcmp (vD c 0) 4710765210229538816) .g < 0 := fun z => by
    have := (cmp_n (by omega) (by decide) .g).1.mp z
    rw [one_n32] at this
    omega
  simp +decide only [e210_137, e210_139, e210_141, e210_142, e210_165, e210_167, e210_169, e210_170, e210_173, e210_175, e210_177, e210_178, e210_179, e210_180, e210_182, e210_184, e210_185, e210_186, e210_187, e210_188, e210_190, e210_191, e210_192, e210_193, e210_194, e210_195, e210_196, c1, q3_32, vkk_n, vkk_i, vkk_r, vkk_l, vkk_d, catS_nil, catS_i, catS_r, catS_l, catS_d, Nat.reduceAdd, Nat.reduceLeDiff, Nat.zero_le, Nat.le_refl, Option.bind_some, Option.toList_some, Option.toList_none, List.cons_append, List.nil_append, or_true, true_or, if_true, if_false, Int32.reduceLT, Int32.reduceLE, not_true, not_false_iff, true_and, and_true, false_and, and_false]
theorem l_bo4_32 (h : VG) (v : UInt64) (bl pw : Int32) (sg : Int64) (c : Nat) (h0 : 0 < c) (h1 : c < 9007199254740992) (hb : c.log2 < 23) : ev 210 165 [some (.double v), none, some (.int 23), some (.int 8), some (.long 255), none, some (.int 150), some (.int bl), some (.double (vD c 0)), none, some (.long sg), none, some (.int pw), some (.double 4710765210229538816), none] [] h = some (some (.long (sg ||| FP.d2l (vD c 0))), h) := by
  have l1 := vD_lt63 (q := 0) h0 h1 (by decide) (by decide)
  have g1 := vD_ge (m := 23) (q := 0) h0 h1 (by decide) (by decide)
  have c1 : Op.cmpValue (FP.dcmp (vD c 0) 4710765210229538816) .g < 0 := (cmp_n (by omega) (by decide) .g).1.mpr (by rw [one_n32]; omega)
  simp +decide only [e210_165, e210_167, e210_169, e210_170, e210_173, e210_175, e210_177, e210_178, e210_179, e210_180, e210_182, e210_184, e210_185, e210_186, e210_187, e210_188, e210_190, e210_191, e210_192, e210_193, e210_194, e210_195, e210_196, c1, vkk_n, vkk_i, vkk_r, vkk_l, vkk_d, catS_nil, catS_i, catS_r, catS_l, catS_d, Nat.reduceAdd, Nat.reduceLeDiff, Nat.zero_le, Nat.le_refl, Option.bind_some, Option.toList_some, Option.toList_none, List.cons_append, List.nil_append, or_true, true_or, if_true, if_false, Int32.reduceLT, Int32.reduceLE, not_true, not_false_iff, true_and, and_true, false_and, and_false]
theorem l_bo5_32 (h : VG) (v : UInt64) (bl pw : Int32) (sg : Int64) (c : Nat) (h0 : 0 < c) (h1 : c < 9007199254740992) (hb : c.log2 = 23) : ev 210 165 [some (.double v), none, some (.int 23), some (.int 8), some (.long 255), none, some (.int 150), some (.int bl), some (.double (vD c 0)), none, some (.long sg), none, some (.int pw), some (.double 4710765210229538816), none] [] h = some (some (.long ((sg ||| pw.toInt64 <<< ((23 : Int32).toInt64 &&& 63)) ||| (FP.d2l (vD c 0) - 8388608))), h) := by
  have l1 := vD_lt63 (q := 0) h0 h1 (by decide) (by decide)
  have g1 := vD_ge (m := 23) (q := 0) h0 h1 (by decide) (by decide)
  have c1 : ¬ Op.cmpValue (FP.dcmp (vD c 0) 4710765210229538816) .g < 0 := fun z => by
    have := (cmp_n (by omega) (by decide) .g).1.mp z
    rw [one_n32] at this
    omega
  simp +decide only [e210_165, e210_167, e210_169, e210_170, e210_173, e210_175, e210_177, e210_178, e210_179, e210_180, e210_182, e210_184, e210_185, e210_186, e210_187, e210_188, e210_190, e210_191, e210_192, e210_193, e210_194, e210_195, e210_196, c1, q3_32, vkk_n, vkk_i, vkk_r, vkk_l, vkk_d, catS_nil, catS_i, catS_r, catS_l, catS_d, Nat.reduceAdd, Nat.reduceLeDiff, Nat.zero_le, Nat.le_refl, Option.bind_some, Option.toList_some, Option.toList_none, List.cons_append, List.nil_append, or_true, true_or, if_true, if_false, Int32.reduceLT, Int32.reduceLE, not_true, not_false_iff, true_and, and_true, false_and, and_false]
theorem fin_32 (σ : Bool) (e t : Nat) (he : e < 256) (ht : t < 8388608) (u : Int64) (hu : uN u = t) : ((if σ then (2147483648 : Int64) else 0) ||| (nI e).toInt64 <<< ((23 : Int32).toInt64 &&& 63)) ||| u = Int64.ofNat (σ.toNat * 2147483648 + e * 8388608 + t) := by
  apply uN_inj
  have h1 : uN ((nI e).toInt64 <<< ((23 : Int32).toInt64 &&& 63)) = e * 8388608 := by
    have : uN (sl (nI e).toInt64 (nI 23)) = uN (nI e).toInt64 * 2 ^ 23 % 18446744073709551616 := uN_sl _ (by decide)
    rw [uN_nI (by omega), Nat.mod_eq_of_lt (by omega)] at this
    exact this
  have h2 : uN (if σ then (2147483648 : Int64) else 0) = σ.toNat * 2147483648 := by cases σ <;> rfl
  have h3 : σ.toNat ≤ 1 := by cases σ <;> decide
  rw [lN_u (by omega), uN_orA _ _ (k := 23) ?_ (by rw [hu]; exact ht), uN_orA _ _ (k := 31) (by rw [h2]; omega) (by rw [h1]; omega), h1, h2, hu]
  rw [uN_orA _ _ (k := 31) (by rw [h2]; omega) (by rw [h1]; omega), h1, h2]
  omega
theorem c_bitsOf32 (h : VG) (σ : Bool) (e t : Nat) (he : e ≤ 255) (ht : t < 8388608) (hm : e = 255 → t = 0) : ev 210 0 [some (.double (sgD σ (mvD 23 255 150 e t))), none, some (.int 23), some (.int 8), none, none, none, none, none, none, none, none, none, none, none] [] h = some (some (.long (Int64.ofNat (σ.toNat * 2147483648 + e * 8388608 + t))), h) := by
  have u0 : uN 0 = 0 := rfl
  by_cases e1 : e = 255
  · have t1 := hm e1
    have r := fin_32 σ e t (by omega) ht 0 (by rw [u0, t1])
    rw [← r]
    subst e1 t1
    have m1 : mvD 23 255 150 255 0 = 9218868437227405312 := rfl
    rw [m1]
    have x0 : (nI 255).toInt64 = (255 : Int64) := by decide
    have c3 : Op.cmpValue (FP.dcmp 9218868437227405312 9218868437227405312) .l = 0 := by decide +kernel
    rw [x0, Int64.or_zero]
    cases σ
    · have c1 : ¬ Op.cmpValue (FP.dcmp 9218868437227405312 FP.dconst0) .g < 0 := by decide +kernel
      have c2 : ¬ Op.cmpValue (FP.dcmp 9218868437227405312 FP.dconst0) .l = 0 := by decide +kernel
      have s1 : sgD false 9218868437227405312 = 9218868437227405312 := rfl
      rw [s1]
      simp +decide only [e210_0, e210_1, e210_2, e210_3, e210_4, e210_5, e210_7, e210_9, e210_12, e210_13, e210_14, e210_15, e210_16, e210_18, e210_19, e210_20, e210_21, e210_24, e210_25, e210_26, e210_27, e210_30, e210_31, e210_32, e210_33, e210_34, e210_35, e210_38, e210_39, e210_42, e210_43, e210_45, e210_47, e210_50, e210_51, e210_52, e210_55, e210_56, e210_58, e210_60, e210_63, e210_64, e210_65, e210_66, e210_67, e210_68, e210_71, e210_72, e210_74, e210_76, e210_79, e210_80, e210_83, e210_85, e210_87, e210_88, e210_89, e210_90, e210_91, e210_93, e210_94, e210_95, e210_98, e210_100, e210_101, e210_103, e210_105, e210_106, e210_107, e210_108, e210_109, q1_32, q4_32, q5_32, q3_32, one_32, q6_32, c1, c2, c3, vkk_n, vkk_i, vkk_r, vkk_l, vkk_d, catS_nil, catS_i, catS_r, catS_l, catS_d, Nat.reduceAdd, Nat.reduceLeDiff, Nat.zero_le, Nat.le_refl, Option.bind_some, Option.toList_some, Option.toList_none, List.cons_append, List.nil_append, or_true, true_or, if_true, if_false, Int32.reduceLT, Int32.reduceLE, not_true, not_false_iff, true_and, and_true, false_and, and_false]
    · have s1 : sgD true 9218868437227405312 = 18442240474082181120 := by decide +kernel
      have c1 : Op.cmpValue (FP.dcmp 18442240474082181120 FP.dconst0) .g < 0 := by decide +kernel
      have s2 : FP.dneg 18442240474082181120 = 9218868437227405312 := by decide +kernel
      rw [s1]
      simp +decide only [e210_0, e210_1, e210_2, e210_3, e210_4, e210_5, e210_7, e210_9, e210_12, e210_13, e210_14, e210_15, e210_16, e210_18, e210_19, e210_20, e210_21, e210_24, e210_25, e210_26, e210_27, e210_30, e210_31, e210_32, e210_33, e210_34, e210_35, e210_38, e210_39, e210_42, e210_43, e210_45, e210_47, e210_50, e210_51, e210_52, e210_55, e210_56, e210_58, e210_60, e210_63, e210_64, e210_65, e210_66, e210_67, e210_68, e210_71, e210_72, e210_74, e210_76, e210_79, e210_80, e210_83, e210_85, e210_87, e210_88, e210_89, e210_90, e210_91, e210_93, e210_94, e210_95, e210_98, e210_100, e210_101, e210_103, e210_105, e210_106, e210_107, e210_108, e210_109, q1_32, q4_32, q5_32, q3_32, one_32, q6_32, c1, c3, s2, vkk_n, vkk_i, vkk_r, vkk_l, vkk_d, catS_nil, catS_i, catS_r, catS_l, catS_d, Nat.reduceAdd, Nat.reduceLeDiff, Nat.zero_le, Nat.le_refl, Option.bind_some, Option.toList_some, Option.toList_none, List.cons_append, List.nil_append, or_true, true_or, if_true, if_false, Int32.reduceLT, Int32.reduceLE, not_true, not_false_iff, true_and, and_true, false_and, and_false]
  · by_cases e2 : e = 0
    · subst e2
      by_cases t1 : t = 0
      · subst t1
        have m1 : mvD 23 255 150 0 0 = 0 := rfl
        rw [m1]
        have c3 : ¬ Op.cmpValue (FP.dcmp 0 9218868437227405312) .l = 0 := by decide +kernel
        have c4 : Op.cmpValue (FP.dcmp 0 FP.dconst0) .l = 0 := by decide +kernel
        cases σ
        · have c1 : ¬ Op.cmpValue (FP.dcmp 0 FP.dconst0) .g < 0 := by decide +kernel
          have d1 : FP.ddiv FP.dconst1 0 = 9218868437227405312 := by decide +kernel
          have d2 : vf_n64 9218868437227405312 := by
            show (9218868437227405312 : UInt64) &&& 0x7fffffffffffffff ≤ 0x7ff0000000000000
            decide
          have c5 : ¬ Op.cmpValue (FP.dcmp 9218868437227405312 FP.dconst0) .g < 0 := by decide +kernel
          have s1 : sgD false 0 = 0 := rfl
          rw [s1]
          simp +decide only [e210_0, e210_1, e210_2, e210_3, e210_4, e210_5, e210_7, e210_9, e210_12, e210_13, e210_14, e210_15, e210_16, e210_18, e210_19, e210_20, e210_21, e210_24, e210_25, e210_26, e210_27, e210_30, e210_31, e210_32, e210_33, e210_34, e210_35, e210_38, e210_39, e210_42, e210_43, e210_45, e210_47, e210_50, e210_51, e210_52, e210_55, e210_56, e210_58, e210_60, e210_63, e210_64, e210_65, e210_66, e210_67, e210_68, e210_71, e210_72, e210_74, e210_76, e210_79, e210_80, e210_83, e210_85, e210_87, e210_88, e210_89, e210_90, e210_91, e210_93, e210_94, e210_95, e210_98, e210_100, e210_101, e210_103, e210_105, e210_106, e210_107, e210_108, e210_109, q1_32, q4_32, q5_32, q3_32, one_32, q6_32, c1, c3, c4, c5, d1, d2, vkk_n, vkk_i, vkk_r, vkk_l, vkk_d, catS_nil, catS_i, catS_r, catS_l, catS_d, Nat.reduceAdd, Nat.reduceLeDiff, Nat.zero_le, Nat.le_refl, Option.bind_some, Option.toList_some, Option.toList_none, List.cons_append, List.nil_append, or_true, true_or, if_true, if_false, Int32.reduceLT, Int32.reduceLE, not_true, not_false_iff, true_and, and_true, false_and, and_false]
          rfl
        · have s1 : sgD true 0 = 9223372036854775808 := by decide +kernel
          have c1 : ¬ Op.cmpValue (FP.dcmp 9223372036854775808 FP.dconst0) .g < 0 := by decide +kernel
          have c2 : Op.cmpValue (FP.dcmp 9223372036854775808 FP.dconst0) .l = 0 := by decide +kernel
          have d1 : FP.ddiv FP.dconst1 9223372036854775808 = 18442240474082181120 := by decide +kernel
          have d2 : vf_n64 18442240474082181120 := by
            show (18442240474082181120 : UInt64) &&& 0x7fffffffffffffff ≤ 0x7ff0000000000000
            decide
          have c5 : Op.cmpValue (FP.dcmp 18442240474082181120 FP.dconst0) .g < 0 := by decide +kernel
          have s2 : FP.dneg 9223372036854775808 = 0 := by decide +kernel
          rw [s1]
          simp +decide only [e210_0, e210_1, e210_2, e210_3, e210_4, e210_5, e210_7, e210_9, e210_12, e210_13, e210_14, e210_15, e210_16, e210_18, e210_19, e210_20, e210_21, e210_24, e210_25, e210_26, e210_27, e210_30, e210_31, e210_32, e210_33, e210_34, e210_35, e210_38, e210_39, e210_42, e210_43, e210_45, e210_47, e210_50, e210_51, e210_52, e210_55, e210_56, e210_58, e210_60, e210_63, e210_64, e210_65, e210_66, e210_67, e210_68, e210_71, e210_72, e210_74, e210_76, e210_79, e210_80, e210_83, e210_85, e210_87, e210_88, e210_89, e210_90, e210_91, e210_93, e210_94, e210_95, e210_98, e210_100, e210_101, e210_103, e210_105, e210_106, e210_107, e210_108, e210_109, q1_32, q4_32, q5_32, q3_32, one_32, q6_32, c1, c2, c3, c4, c5, d1, d2, s2, vkk_n, vkk_i, vkk_r, vkk_l, vkk_d, catS_nil, catS_i, catS_r, catS_l, catS_d, Nat.reduceAdd, Nat.reduceLeDiff, Nat.zero_le, Nat.le_refl, Option.bind_some, Option.toList_some, Option.toList_none, List.cons_append, List.nil_append, or_true, true_or, if_true, if_false, Int32.reduceLT, Int32.reduceLE, not_true, not_false_iff, true_and, and_true, false_and, and_false]
          rfl
      · have hl : t.log2 < 23 := (Nat.log2_lt t1).mpr ht
        have m1 : mvD 23 255 150 0 t = vD t (((0 : Nat) : Int) - ((149 : Nat) : Int)) := by
          unfold mvD
          rw [if_neg (by decide), if_pos rfl, if_neg t1]
          congr 1
        rw [m1, c_bo0_32 h σ t _ (by omega) (by omega) (by omega) (by omega), l_bo1n_32 h _ _ _ _ t _ (by omega) (by omega) (by omega) (by omega) (by omega)]
        have r1 := l_bo2_32 h (sgD σ (vD t (((0 : Nat) : Int) - ((149 : Nat) : Int)))) (if σ then 1 else 0) (if σ then 2147483648 else 0) t 149 (by omega) (by omega) (by omega) (by omega) (Or.inl rfl) 149 0 (by omega)
        refine r1.trans ?_
        rw [l_bo4_32 h _ _ _ _ t (by omega) (by omega) hl]
        have u1 : FP.d2l (vD t 0) = Int64.ofNat t := by
          have := vD_cut (Int64.ofNat t) (by rw [lN_u (by omega)]; omega)
          rw [lN_u (by omega)] at this
          exact this
        rw [u1]
        have r := fin_32 σ 0 t (by omega) ht (Int64.ofNat t) (lN_u (by omega))
        have z0 : (nI 0).toInt64 <<< ((23 : Int32).toInt64 &&& 63) = 0 := by decide
        rw [z0, Int64.or_zero] at r
        rw [r]
    · have hl : (t + 8388608).log2 = 23 := by
        rw [Nat.log2_eq_iff (by omega)]
        omega
      have m1 : mvD 23 255 150 e t = vD (t + 8388608) ((e : Int) - ((150 : Nat) : Int)) := by
        unfold mvD
        rw [if_neg e1, if_neg e2]
      have u1 : FP.d2l (vD (t + 8388608) 0) - 8388608 = Int64.ofNat t := by
        have := vD_cut (Int64.ofNat (t + 8388608)) (by rw [lN_u (by omega)]; omega)
        rw [lN_u (by omega)] at this
        rw [this]
        apply uN_inj
        rw [uN_sub, lN_u (by omega), lN_u (by omega), show uN 8388608 = 8388608 by decide]
        omega
      have r := fin_32 σ e t (by omega) ht (Int64.ofNat t) (lN_u (by omega))
      rw [← r, ← u1]
      rw [m1, c_bo0_32 h σ (t + 8388608) _ (by omega) (by omega) (by omega) (by omega)]
      by_cases hq : 150 ≤ e
      · have r1 := l_bo1_32 h (sgD σ (vD (t + 8388608) ((e : Int) - ((150 : Nat) : Int)))) (if σ then 1 else 0) (if σ then 2147483648 else 0) (t + 8388608) (e - 150) (by omega) (by omega) hl (by omega) (e - 150) 0 (by omega)
        rw [show ((e - 150 : Nat) : Int) - ((0 : Nat) : Int) = (e : Int) - ((150 : Nat) : Int) by omega] at r1
        refine r1.trans ?_
        rw [l_bo3_32 h _ _ _ _ (t + 8388608) (by omega) (by omega) hl, show 150 + (e - 150) = e by omega]
      · rw [l_bo1n_32 h _ _ _ _ (t + 8388608) _ (by omega) (by omega) (by omega) (by omega) (by omega)]
        have r1 := l_bo2_32 h (sgD σ (vD (t + 8388608) ((e : Int) - ((150 : Nat) : Int)))) (if σ then 1 else 0) (if σ then 2147483648 else 0) (t + 8388608) (150 - e) (by omega) (by omega) (by omega) (by omega) (Or.inr hl) (150 - e) 0 (by omega)
        rw [show ((0 : Nat) : Int) - ((150 - e : Nat) : Int) = (e : Int) - ((150 : Nat) : Int) by omega] at r1
        refine r1.trans ?_
        rw [l_bo5_32 h _ _ _ _ (t + 8388608) (by omega) (by omega) hl, show 150 - (150 - e) = e by omega]
theorem c_bo0_64 (h : VG) (σ : Bool) (c : Nat) (q : Int) (h0 : 0 < c) (h1 : c < 9007199254740992) (h2 : -1074 ≤ q) (h3 : q ≤ 971) : ev 210 0 [some (.double (sgD σ (vD c q))), none, some (.int 52), some (.int 11), none, none, none, none, none, none, none, none, none, none, none] [] h = ev 210 111 [some (.double (sgD σ (vD c q))), none, some (.int 52), some (.int 11), some (.long 2047), none, some (.int 1075), some (.int (if σ then 1 else 0)), some (.double (vD c q)), none, some (.long (if σ then -9223372036854775808 else 0)), none, some (.int (1075)), some (.double 4841369599423283200), none] [] h := by
  have l1 := vD_lt63 h0 h1 h2 h3
  have z0 : FP.dconst0.toNat = 0 := rfl
  have c3 : ¬ Op.cmpValue (FP.dcmp (vD c q) 9218868437227405312) .l = 0 := fun z => by
    have := (cmp_n (by omega) (by decide) .l).2.mp z
    rw [show (9218868437227405312 : UInt64).toNat = 9218868437227405312 from rfl] at this
    omega
  have c4 : ¬ Op.cmpValue (FP.dcmp (vD c q) FP.dconst0) .l = 0 := fun z => by
    have := (cmp_n (by omega) (by decide) .l).2.mp z
    omega
  cases σ
  · have c1 : ¬ Op.cmpValue (FP.dcmp (vD c q) FP.dconst0) .g < 0 := fun z => by
      have := (cmp_n (by omega) (by decide) .g).1.mp z
      omega
    have s1 : sgD false (vD c q) = vD c q := rfl
    rw [s1]
    simp +decide only [e210_0, e210_1, e210_2, e210_3, e210_4, e210_5, e210_7, e210_9, e210_12, e210_13, e210_14, e210_15, e210_16, e210_18, e210_19, e210_20, e210_21, e210_24, e210_25, e210_26, e210_27, e210_30, e210_31, e210_32, e210_33, e210_34, e210_35, e210_38, e210_39, e210_42, e210_43, e210_45, e210_47, e210_50, e210_51, e210_52, e210_55, e210_56, e210_58, e210_60, e210_63, e210_64, e210_65, e210_66, e210_67, e210_68, e210_71, e210_72, e210_74, e210_76, e210_79, e210_80, e210_83, e210_85, e210_87, e210_88, e210_89, e210_90, e210_91, e210_93, e210_94, e210_95, e210_98, e210_100, e210_101, e210_103, e210_105, e210_106, e210_107, e210_108, e210_109, q1_64, q4_64, q5_64, q3_64, one_64, q6_64, c1, c3, c4, vkk_n, vkk_i, vkk_r, vkk_l, vkk_d, catS_nil, catS_i, catS_r, catS_l, catS_d, Nat.reduceAdd, Nat.reduceLeDiff, Nat.zero_le, Nat.le_refl, Option.bind_some, Option.toList_some, Option.toList_none, List.cons_append, List.nil_append, or_true, true_or, if_true, if_false, Int32.reduceLT, Int32.reduceLE, not_true, not_false_iff, true_and, and_true, false_and, and_false]
  · have s1 : sgD true (vD c q) = FP.dneg (vD c q) := rfl
    have s2 := dneg_n (a := vD c q) (by omega)
    have s3 : FP.Core.val64 (FP.dneg (vD c q)) ≠ .nan := by
      refine (FP.Core.notNaN_iff _).mp ?_
      cases hq : FP.Core.dIsNaN (FP.dneg (vD c q)) with
      | false => rfl
      | true =>
        have h1 := (FP.Core.isNaN_bits _).mp hq
        rw [s2] at h1
        omega
    have c1 : Op.cmpValue (FP.dcmp (FP.dneg (vD c q)) FP.dconst0) .g < 0 := by
      refine (cmp_key s3 (bits_nn (by decide)) .g).1.mpr ?_
      unfold FP.Core.dkey
      rw [if_pos (by omega), if_neg (by decide), s2, z0]
      omega
    rw [s1]
    simp +decide only [e210_0, e210_1, e210_2, e210_3, e210_4, e210_5, e210_7, e210_9, e210_12, e210_13, e210_14, e210_15, e210_16, e210_18, e210_19, e210_20, e210_21, e210_24, e210_25, e210_26, e210_27, e210_30, e210_31, e210_32, e210_33, e210_34, e210_35, e210_38, e210_39, e210_42, e210_43, e210_45, e210_47, e210_50, e210_51, e210_52, e210_55, e210_56, e210_58, e210_60, e210_63, e210_64, e210_65, e210_66, e210_67, e210_68, e210_71, e210_72, e210_74, e210_76, e210_79, e210_80, e210_83, e210_85, e210_87, e210_88, e210_89, e210_90, e210_91, e210_93, e210_94, e210_95, e210_98, e210_100, e210_101, e210_103, e210_105, e210_106, e210_107, e210_108, e210_109, q1_64, q4_64, q5_64, q3_64, one_64, q6_64, c1, c3, c4, dneg2, vkk_n, vkk_i, vkk_r, vkk_l, vkk_d, catS_nil, catS_i, catS_r, catS_l, catS_d, Nat.reduceAdd, Nat.reduceLeDiff, Nat.zero_le, Nat.le_refl, Option.bind_some, Option.toList_some, Option.toList_none, List.cons_append, List.nil_append, or_true, true_or, if_true, if_false, Int32.reduceLT, Int32.reduceLE, not_true, not_false_iff, true_and, and_true, false_and, and_false]
theorem l_bo3_64 (h : VG) (v : UInt64) (bl pw : Int32) (sg : Int64) (c : Nat) (h0 : 0 < c) (h1 : c < 9007199254740992) (hb : c.log2 = 52) : ev 210 137 [some (.double v), none, some (.int 52), some (.int 11), some (.long 2047), none, some (.int 1075), some (.int bl), some (.double (vD c 0)), none, some (.long sg), none, some (.int pw), some (.double 4841369599423283200), none] [] h = some (some (.long ((sg ||| pw.toInt64 <<< ((52 : Int32).toInt64 &&& 63)) ||| (FP.d2l (vD c 0) - 4503599627370496))), h) := by
  have l1 := vD_lt63 (q := 0) h0 h1 (by decide) (by decide)
  have g1 := vD_ge (m := 52) (q := 0) h0 h1 (by decide) (by decide)
  have c1 : ¬ Op.cmpValue (FP.dcmp (vD c 0) 4841369599423283200) .g < 0 := fun z => by
    have := (cmp_n (by omega) (by decide) .g).1.mp z
    rw [one_n64] at this
    omega
  simp +decide only [e210_137, e210_139, e210_141, e210_142, e210_165, e210_167, e210_169, e210_170, e210_173, e210_175, e210_177, e210_178, e210_179, e210_180, e210_182, e210_184, e210_185, e210_186, e210_187, e210_188, e210_190, e210_191, e210_192, e210_193, e210_194, e210_195, e210_196, c1, q3_64, vkk_n, vkk_i, vkk_r, vkk_l, vkk_d, catS_nil, catS_i, catS_r, catS_l, catS_d, Nat.reduceAdd, Nat.reduceLeDiff, Nat.zero_le, Nat.le_refl, Option.bind_some, Option.toList_some, Option.toList_none, List.cons_append, List.nil_append, or_true, true_or, if_true, if_false, Int32.reduceLT, Int32.reduceLE, not_true, not_false_iff, true_and, and_true, false_and, and_false]
theorem l_bo4_64 (h : VG) (v : UInt64) (bl pw : Int32) (sg : Int64) (c : Nat) (h0 : 0 < c) (h1 : c < 9007199254740992) (hb : c.log2 < 52) : ev 210 165 [some (.double v), none, some (.int 52), some (.int 11), some (.long 2047), none, some (.int 1075), some (.int bl), some (.double (vD c 0)), none, some (.long sg), none, some (.int pw), some (.double 4841369599423283200), none] [] h = some (some (.long (sg ||| FP.d2l (vD c 0))), h) := by
  have l1 := vD_lt63 (q := 0) h0 h1 (by decide) (by decide)
  have g1 := vD_ge (m := 52) (q := 0) h0 h1 (by decide) (by decide)
  have c1 : Op.cmpValue (FP.dcmp (vD c 0) 4841369599423283200) .g < 0 := (cmp_n (by omega) (by decide) .g).1.mpr (by rw [one_n64]; omega)
  simp +decide only [e210_165, e210_167, e210_169, e210_170, e210_173, e210_175, e210_177, e210_178, e210_179, e210_180, e210_182, e210_184, e210_185, e210_186, e210_187, e210_188, e210_190, e210_191, e210_192, e210_193, e210_194, e210_195, e210_196, c1, vkk_n, vkk_i, vkk_r, vkk_l, vkk_d, catS_nil, catS_i, catS_r, catS_l, catS_d, Nat.reduceAdd, Nat.reduceLeDiff, Nat.zero_le, Nat.le_refl, Option.bind_some, Option.toList_some, Option.toList_none, List.cons_append, List.nil_append, or_true, true_or, if_true, if_false, Int32.reduceLT, Int32.reduceLE, not_true, not_false_iff, true_and, and_true, false_and, and_false]
theorem l_bo5_64 (h : VG) (v : UInt64) (bl pw : Int32) (sg : Int64) (c : Nat) (h0 : 0 < c) (h1 : c < 9007199254740992) (hb : c.log2 = 52) : ev 210 165 [some (.double v), none, some (.int 52), some (.int 11), some (.long 2047), none, some (.int 1075), some (.int bl), some (.double (vD c 0)), none, some (.long sg), none, some (.int pw), some (.double 4841369599423283200), none] [] h = some (some (.long ((sg ||| pw.toInt64 <<< ((52 : Int32).toInt64 &&& 63)) ||| (FP.d2l (vD c 0) - 4503599627370496))), h) := by
  have l1 := vD_lt63 (q := 0) h0 h1 (by decide) (by decide)
  have g1 := vD_ge (m := 52) (q := 0) h0 h1 (by decide) (by decide)
  have c1 : ¬ Op.cmpValue (FP.dcmp (vD c 0) 4841369599423283200) .g < 0 := fun z => by
    have := (cmp_n (by omega) (by decide) .g).1.mp z
    rw [one_n64] at this
    omega
  simp +decide only [e210_165, e210_167, e210_169, e210_170, e210_173, e210_175, e210_177, e210_178, e210_179, e210_180, e210_182, e210_184, e210_185, e210_186, e210_187, e210_188, e210_190, e210_191, e210_192, e210_193, e210_194, e210_195, e210_196, c1, q3_64, vkk_n, vkk_i, vkk_r, vkk_l, vkk_d, catS_nil, catS_i, catS_r, catS_l, catS_d, Nat.reduceAdd, Nat.reduceLeDiff, Nat.zero_le, Nat.le_refl, Option.bind_some, Option.toList_some, Option.toList_none, List.cons_append, List.nil_append, or_true, true_or, if_true, if_false, Int32.reduceLT, Int32.reduceLE, not_true, not_false_iff, true_and, and_true, false_and, and_false]
theorem fin_64 (σ : Bool) (e t : Nat) (he : e < 2048) (ht : t < 4503599627370496) (u : Int64) (hu : uN u = t) : ((if σ then (-9223372036854775808 : Int64) else 0) ||| (nI e).toInt64 <<< ((52 : Int32).toInt64 &&& 63)) ||| u = Int64.ofNat (σ.toNat * 9223372036854775808 + e * 4503599627370496 + t) := by
  apply uN_inj
  have h1 : uN ((nI e).toInt64 <<< ((52 : Int32).toInt64 &&& 63)) = e * 4503599627370496 := by
    have : uN (sl (nI e).toInt64 (nI 52)) = uN (nI e).toInt64 * 2 ^ 52 % 18446744073709551616 := uN_sl _ (by decide)
    rw [uN_nI (by omega), Nat.mod_eq_of_lt (by omega)] at this
    exact this
  have h2 : uN (if σ then (-9223372036854775808 : Int64) else 0) = σ.toNat * 9223372036854775808 := by cases σ <;> rfl
  have h3 : σ.toNat ≤ 1 := by cases σ <;> decide
  rw [lN_u (by omega), uN_orA _ _ (k := 52) ?_ (by rw [hu]; exact ht), uN_orA _ _ (k := 63) (by rw [h2]; omega) (by rw [h1]; omega), h1, h2, hu]
  rw [uN_orA _ _ (k := 63) (by rw [h2]; omega) (by rw [h1]; omega), h1, h2]
  omega
theorem c_bitsOf64 (h : VG) (σ : Bool) (e t : Nat) (he : e ≤ 2047) (ht : t < 4503599627370496) (hm : e = 2047 → t = 0) : ev 210 0 [some (.double (sgD σ (mvD 52 2047 1075 e t))), none, some (.int 52), some (.int 11), none, none, none, none, none, none, none, none, none, none, none] [] h = some (some (.long (Int64.ofNat (σ.toNat * 9223372036854775808 + e * 4503599627370496 + t))), h) := by
  have u0 : uN 0 = 0 := rfl
  by_cases e1 : e = 2047
  · have t1 := hm e1
    have r := fin_64 σ e t (by omega) ht 0 (by rw [u0, t1])
    rw [← r]
    subst e1 t1
    have m1 : mvD 52 2047 1075 2047 0 = 9218868437227405312 := rfl
    rw [m1]
    have x0 : (nI 2047).toInt64 = (2047 : Int64) := by decide
    have c3 : Op.cmpValue (FP.dcmp 9218868437227405312 9218868437227405312) .l = 0 := by decide +kernel
    rw [x0, Int64.or_zero]
    cases σ
    · have c1 : ¬ Op.cmpValue (FP.dcmp 9218868437227405312 FP.dconst0) .g < 0 := by decide +kernel
      have c2 : ¬ Op.cmpValue (FP.dcmp 9218868437227405312 FP.dconst0) .l = 0 := by decide +kernel
      have s1 : sgD false 9218868437227405312 = 9218868437227405312 := rfl
      rw [s1]
      simp +decide only [e210_0, e210_1, e210_2, e210_3, e210_4, e210_5, e210_7, e210_9, e210_12, e210_13, e210_14, e210_15, e210_16, e210_18, e210_19, e210_20, e210_21, e210_24, e210_25, e210_26, e210_27, e210_30, e210_31, e210_32, e210_33, e210_34, e210_35, e210_38, e210_39, e210_42, e210_43, e210_45, e210_47, e210_50, e210_51, e210_52, e210_55, e210_56, e210_58, e210_60, e210_63, e210_64, e210_65, e210_66, e210_67, e210_68, e210_71, e210_72, e210_74, e210_76, e210_79, e210_80, e210_83, e210_85, e210_87, e210_88, e210_89, e210_90, e210_91, e210_93, e210_94, e210_95, e210_98, e210_100, e210_101, e210_103, e210_105, e210_106, e210_107, e210_108, e210_109, q1_64, q4_64, q5_64, q3_64, one_64, q6_64, c1, c2, c3, vkk_n, vkk_i, vkk_r, vkk_l, vkk_d, catS_nil, catS_i, catS_r, catS_l, catS_d, Nat.reduceAdd, Nat.reduceLeDiff, Nat.zero_le, Nat.le_refl, Option.bind_some, Option.toList_some, Option.toList_none, List.cons_append, List.nil_append, or_true, true_or, if_true, if_false, Int32.reduceLT, Int32.reduceLE, not_true, not_false_iff, true_and, and_true, false_and, and_false]
    · have s1 : sgD true 9218868437227405312 = 18442240474082181120 := by decide +kernel
      have c1 : Op.cmpValue (FP.dcmp 18442240474082181120 FP.dconst0) .g < 0 := by decide +kernel
      have s2 : FP.dneg 18442240474082181120 = 9218868437227405312 := by decide +kernel
      rw [s1]
      simp +decide only [e210_0, e210_1, e210_2, e210_3, e210_4, e210_5, e210_7, e210_9, e210_12, e210_13, e210_14, e210_15, e210_16, e210_18, e210_19, e210_20, e210_21, e210_24, e210_25, e210_26, e210_27, e210_30, e210_31, e210_32, e210_33, e210_34, e210_35, e210_38, e210_39, e210_42, e210_43, e210_45, e210_47, e210_50, e210_51, e210_52, e210_55, e210_56, e210_58, e210_60, e210_63, e210_64, e210_65, e210_66, e210_67, e210_68, e210_71, e210_72, e210_74, e210_76, e210_79, e210_80, e210_83, e210_85, e210_87, e210_88, e210_89, e210_90, e210_91, e210_93, e210_94, e210_95, e210_98, e210_100, e210_101, e210_103, e210_105, e210_106, e210_107, e210_108, e210_109, q1_64, q4_64, q5_64, q3_64, one_64, q6_64, c1, c3, s2, vkk_n, vkk_i, vkk_r, vkk_l, vkk_d, catS_nil, catS_i, catS_r, catS_l, catS_d, Nat.reduceAdd, Nat.reduceLeDiff, Nat.zero_le, Nat.le_refl, Option.bind_some, Option.toList_some, Option.toList_none, List.cons_append, List.nil_append, or_true, true_or, if_true, if_false, Int32.reduceLT, Int32.reduceLE, not_true, not_false_iff, true_and, and_true, false_and, and_false]
  · by_cases e2 : e = 0
    · subst e2
      by_cases t1 : t = 0
      · subst t1
        have m1 : mvD 52 2047 1075 0 0 = 0 := rfl
        rw [m1]
        have c3 : ¬ Op.cmpValue (FP.dcmp 0 9218868437227405312) .l = 0 := by decide +kernel
        have c4 : Op.cmpValue (FP.dcmp 0 FP.dconst0) .l = 0 := by decide +kernel
        cases σ
        · have c1 : ¬ Op.cmpValue (FP.dcmp 0 FP.dconst0) .g < 0 := by decide +kernel
          have d1 : FP.ddiv FP.dconst1 0 = 9218868437227405312 := by decide +kernel
          have d2 : vf_n64 9218868437227405312 := by
            show (9218868437227405312 : UInt64) &&& 0x7fffffffffffffff ≤ 0x7ff0000000000000
            decide
          have c5 : ¬ Op.cmpValue (FP.dcmp 9218868437227405312 FP.dconst0) .g < 0 := by decide +kernel
          have s1 : sgD false 0 = 0 := rfl
          rw [s1]
          simp +decide only [e210_0, e210_1, e210_2, e210_3, e210_4, e210_5, e210_7, e210_9, e210_12, e210_13, e210_14, e210_15, e210_16, e210_18, e210_19, e210_20, e210_21, e210_24, e210_25, e210_26, e210_27, e210_30, e210_31, e210_32, e210_33, e210_34, e210_35, e210_38, e210_39, e210_42, e210_43, e210_45, e210_47, e210_50, e210_51, e210_52, e210_55, e210_56, e210_58, e210_60, e210_63, e210_64, e210_65, e210_66, e210_67, e210_68, e210_71, e210_72, e210_74, e210_76, e210_79, e210_80, e210_83, e210_85, e210_87, e210_88, e210_89, e210_90, e210_91, e210_93, e210_94, e210_95, e210_98, e210_100, e210_101, e210_103, e210_105, e210_106, e210_107, e210_108, e210_109, q1_64, q4_64, q5_64, q3_64, one_64, q6_64, c1, c3, c4, c5, d1, d2, vkk_n, vkk_i, vkk_r, vkk_l, vkk_d, catS_nil, catS_i, catS_r, catS_l, catS_d, Nat.reduceAdd, Nat.reduceLeDiff, Nat.zero_le, Nat.le_refl, Option.bind_some, Option.toList_some, Option.toList_none, List.cons_append, List.nil_append, or_true, true_or, if_true, if_false, Int32.reduceLT, Int32.reduceLE, not_true, not_false_iff, true_and, and_true, false_and, and_false]
          rfl
        · have s1 : sgD true 0 = 9223372036854775808 := by decide +kernel
          have c1 : ¬ Op.cmpValue (FP.dcmp 9223372036854775808 FP.dconst0) .g < 0 := by decide +kernel
          have c2 : Op.cmpValue (FP.dcmp 9223372036854775808 FP.dconst0) .l = 0 := by decide +kernel
          have d1 : FP.ddiv FP.dconst1 9223372036854775808 = 18442240474082181120 := by decide +kernel
          have d2 : vf_n64 18442240474082181120 := by
            show (18442240474082181120 : UInt64) &&& 0x7fffffffffffffff ≤ 0x7ff0000000000000
            decide
          have c5 : Op.cmpValue (FP.dcmp 18442240474082181120 FP.dconst0) .g < 0 := by decide +kernel
          have s2 : FP.dneg 9223372036854775808 = 0 := by decide +kernel
          rw [s1]
          simp +decide only [e210_0, e210_1, e210_2, e210_3, e210_4, e210_5, e210_7, e210_9, e210_12, e210_13, e210_14, e210_15, e210_16, e210_18, e210_19, e210_20, e210_21, e210_24, e210_25, e210_26, e210_27, e210_30, e210_31, e210_32, e210_33, e210_34, e210_35, e210_38, e210_39, e210_42, e210_43, e210_45, e210_47, e210_50, e210_51, e210_52, e210_55, e210_56, e210_58, e210_60, e210_63, e210_64, e210_65, e210_66, e210_67, e210_68, e210_71, e210_72, e210_74, e210_76, e210_79, e210_80, e210_83, e210_85, e210_87, e210_88, e210_89, e210_90, e210_91, e210_93, e210_94, e210_95, e210_98, e210_100, e210_101, e210_103, e210_105, e210_106, e210_107, e210_108, e210_109, q1_64, q4_64, q5_64, q3_64, one_64, q6_64, c1, c2, c3, c4, c5, d1, d2, s2, vkk_n, vkk_i, vkk_r, vkk_l, vkk_d, catS_nil, catS_i, catS_r, catS_l, catS_d, Nat.reduceAdd, Nat.reduceLeDiff, Nat.zero_le, Nat.le_refl, Option.bind_some, Option.toList_some, Option.toList_none, List.cons_append, List.nil_append, or_true, true_or, if_true, if_false, Int32.reduceLT, Int32.reduceLE, not_true, not_false_iff, true_and, and_true, false_and, and_false]
          rfl
      · have hl : t.log2 < 52 := (Nat.log2_lt t1).mpr ht
        have m1 : mvD 52 2047 1075 0 t = vD t (((0 : Nat) : Int) - ((1074 : Nat) : Int)) := by
          unfold mvD
          rw [if_neg (by decide), if_pos rfl, if_neg t1]
          congr 1
        rw [m1, c_bo0_64 h σ t _ (by omega) (by omega) (by omega) (by omega), l_bo1n_64 h _ _ _ _ t _ (by omega) (by omega) (by omega) (by omega) (by omega)]
        have r1 := l_bo2_64 h (sgD σ (vD t (((0 : Nat) : Int) - ((1074 : Nat) : Int)))) (if σ then 1 else 0) (if σ then -9223372036854775808 else 0) t 1074 (by omega) (by omega) (by omega) (by omega) (Or.inl rfl) 1074 0 (by omega)
        refine r1.trans ?_
        rw [l_bo4_64 h _ _ _ _ t (by omega) (by omega) hl]
        have u1 : FP.d2l (vD t 0) = Int64.ofNat t := by
          have := vD_cut (Int64.ofNat t) (by rw [lN_u (by omega)]; omega)
          rw [lN_u (by omega)] at this
          exact this
        rw [u1]
        have r := fin_64 σ 0 t (by omega) ht (Int64.ofNat t) (lN_u (by omega))
        have z0 : (nI 0).toInt64 <<< ((52 : Int32).toInt64 &&& 63) = 0 := by decide
        rw [z0, Int64.or_zero] at r
        rw [r]
    · have hl : (t + 4503599627370496).log2 = 52 := by
        rw [Nat.log2_eq_iff (by omega)]
        omega
      have m1 : mvD 52 2047 1075 e t = vD (t + 4503599627370496) ((e : Int) - ((1075 : Nat) : Int)) := by
        unfold mvD
        rw [if_neg e1, if_neg e2]
      have u1 : FP.d2l (vD (t + 4503599627370496) 0) - 4503599627370496 = Int64.ofNat t := by
        have := vD_cut (Int64.ofNat (t + 4503599627370496)) (by rw [lN_u (by omega)]; omega)
        rw [lN_u (by omega)] at this
        rw [this]
        apply uN_inj
        rw [uN_sub, lN_u (by omega), lN_u (by omega), show uN 4503599627370496 = 4503599627370496 by decide]
        omega
      have r := fin_64 σ e t (by omega) ht (Int64.ofNat t) (lN_u (by omega))
      rw [← r, ← u1]
      rw [m1, c_bo0_64 h σ (t + 4503599627370496) _ (by omega) (by omega) (by omega) (by omega)]
      by_cases hq : 1075 ≤ e
      · have r1 := l_bo1_64 h (sgD σ (vD (t + 4503599627370496) ((e : Int) - ((1075 : Nat) : Int)))) (if σ then 1 else 0) (if σ then -9223372036854775808 else 0) (t + 4503599627370496) (e - 1075) (by omega) (by omega) hl (by omega) (e - 1075) 0 (by omega)
        rw [show ((e - 1075 : Nat) : Int) - ((0 : Nat) : Int) = (e : Int) - ((1075 : Nat) : Int) by omega] at r1
        refine r1.trans ?_
        rw [l_bo3_64 h _ _ _ _ (t + 4503599627370496) (by omega) (by omega) hl, show 1075 + (e - 1075) = e by omega]
      · rw [l_bo1n_64 h _ _ _ _ (t + 4503599627370496) _ (by omega) (by omega) (by omega) (by omega) (by omega)]
        have r1 := l_bo2_64 h (sgD σ (vD (t + 4503599627370496) ((e : Int) - ((1075 : Nat) : Int)))) (if σ then 1 else 0) (if σ then -9223372036854775808 else 0) (t + 4503599627370496) (1075 - e) (by omega) (by omega) (by omega) (by omega) (Or.inr hl) (1075 - e) 0 (by omega)
        rw [show ((0 : Nat) : Int) - ((1075 - e : Nat) : Int) = (e : Int) - ((1075 : Nat) : Int) by omega] at r1
        refine r1.trans ?_
        rw [l_bo5_64 h _ _ _ _ (t + 4503599627370496) (by omega) (by omega) hl, show 1075 - (1075 - e) = e by omega]
