/-! read: a line that begins with 'fill', by the class -/
def rFil (T : Nat → Nat) : Nat → Nat → Nat → Nat × Nat
  | 0, _, s => (0, s)
  | d + 1, i, s => if T s = 3 then (if i = 16 then (2, s) else rB (rP T 3 s) fun s1 => rFil T d (i + 1) s1) else (if i = 0 then (1, s) else (0, s))
def rFll (T : Nat → Nat) (s : Nat) : Nat × Nat := rB (rP T 9 s) fun s1 => rB (rP T 3 s1) fun s2 => rB (rFil T 17 0 s2) fun s3 => rP T 4 s3
def okF (V : Nat → Nat) (A s2 i : Nat) : Prop := V (s2 + i) ≤ 255 ∧ A + i ≤ 255
def wFb (V : Nat → Nat) (A s2 : Nat) (W : Nat × Nat) : Nat → Nat × Nat
  | 0 => W
  | i + 1 => if V (s2 + i) ≤ 255 ∧ A + i ≤ 255 then wFb V A s2 W i else wN (wFb V A s2 W i) 5 (s2 + i)
def mFb (V : Nat → Nat) (A s2 : Nat) (M : Nat → Nat) : Nat → Nat → Nat
  | 0 => M
  | i + 1 => fun j => if (V (s2 + i) ≤ 255 ∧ A + i ≤ 255) ∧ j = A + i then V (s2 + i) else mFb V A s2 M i j
def MB (h : VG) (P : Nat) (M : Nat → Nat) : Prop := ∀ j, j < 256 → M j < 256 ∧ aI h (P + 2) j = sB (M j)
theorem MB_fr {R : Nat → Prop} {F : Nat → Nat → Prop} {h h1 : VG} {P : Nat} {M : Nat → Nat} (x : Fr R F h h1) (c : ¬ R (P + 2)) (q : MB h P M) : MB h1 P M := fun j hj => ⟨(q j hj).1, (x.I c j).trans (q j hj).2⟩
def INTS (T : Nat → Nat) (s2 c : Nat) : Prop := ∀ x, x < c → T (s2 + x) = 3
theorem c_fillByte {h : VG} {g P L TT A s2 i : Nat} {b : Nat → Nat} {W : Nat × Nat} {M : Nat → Nat} (hP : P = g + 8 ∨ P = g + 90) (q : RD h g P b L TT (s2 + i + 1)) (hw : WF h g b L (wFb (vC b L) A s2 W i)) (hm : MB h P (mFb (vC b L) A s2 M i)) (hA : A < 10000) (hi : i ≤ 16) (hv : vC b L (s2 + i) < 10000) : ∃ h1, ev 78 0 [some (.ref (g + 2)), some (.int (nI (A + i))), some (.int (nI (vC b L (s2 + i))))] [] h = some (none, h1) ∧ Fr (fun a => a = P + 2) (GF g) h h1 ∧ RD h1 g P b L TT (s2 + i + 1) ∧ WF h1 g b L (wFb (vC b L) A s2 W (i + 1)) ∧ MB h1 P (mFb (vC b L) A s2 M (i + 1)) := by
  have o7 : ob h (g + 2) 7 := Cls_11 q.1.1
  have hPl := pl_of q.1 hP
  have rP0 := q.2.1
  have eW : wFb (vC b L) A s2 W (i + 1) = if vC b L (s2 + i) ≤ 255 ∧ A + i ≤ 255 then wFb (vC b L) A s2 W i else wN (wFb (vC b L) A s2 W i) 5 (s2 + i) := rfl
  have eM : ∀ j, mFb (vC b L) A s2 M (i + 1) j = if (vC b L (s2 + i) ≤ 255 ∧ A + i ≤ 255) ∧ j = A + i then vC b L (s2 + i) else mFb (vC b L) A s2 M i j := fun _ => rfl
  rw [eW]
  by_cases ok : vC b L (s2 + i) ≤ 255 ∧ A + i ≤ 255
  · rw [if_pos ok]
    have y1 : nI (vC b L (s2 + i)) ≤ 255 := nI_le (b := 255) ok.1 (by decide)
    have y2 : nI (A + i) < 256 := nI_lt (b := 256) (by omega) (by decide)
    have v1 : vp_in (nI (A + i)) 256 := vp_in_nI (by omega) (by decide)
    have v2 : (nI (A + i)).toNatClampNeg = A + i := nI_clamp (by omega)
    have x1 : Fr (fun a => a = P + 2) (GF g) h (wI h (P + 2) (A + i) (sB (vC b L (s2 + i)))) := Fr_wI _ _ _ _ rfl
    have x2 : Fr (fun a => a = P + 2) NF h (wI h (P + 2) (A + i) (sB (vC b L (s2 + i)))) := Fr_wI _ _ _ _ rfl
    refine ⟨wI h (P + 2) (A + i) (sB (vC b L (s2 + i))), ?_, x1, RD_fr x2 (fun a z => by omega) ((x2.gI (fun z => z)).trans q.2.2.2.1) q.2.2.2.2.1 q, WF_fr x2 (fun k z => z.elim) hw, fun j hj => ?_⟩
    · have nr : vp_nar .byte (nI (vC b L (s2 + i))) = sB (vC b L (s2 + i)) := rfl
      simp +decide only [e78_0, e78_1, e78_4, e78_7, e78_8, e78_11, e78_14, e78_15, e78_16, e78_19, e78_22, e78_23, e78_26, e78_29, e78_32, e78_33, e78_34, e78_35, e78_35z, e78_36, o7, y1, y2, v1, v2, rf_g rP0, rf_is rP0, nar_i8, nr, (Plan_0 hPl : ob h P 6), (eq_true (isI_ob (Plan_0 hPl : ob h P 6) rfl : isI h P 2)), (rf_g (Plan_1 hPl : rf h P 0 (P + 1)) : gR h P 0 = (P + 1)), (rf_is (Plan_1 hPl : rf h P 0 (P + 1)) : isR h P 0), (rf_g (Plan_2 hPl : rf h P 1 (P + 3)) : gR h P 1 = (P + 3)), (rf_is (Plan_2 hPl : rf h P 1 (P + 3)) : isR h P 1), (Plan_4 hPl : arR h (P + 3) 6), (rdR_6 (Plan_4 hPl : arR h (P + 3) 6) : rdR h (P + 3)), (Plan_5 hPl : aln h (P + 3) = 6), (Mem_0 (Plan_3 hPl) : ob h (P + 1) 5), (eq_true (isI_ob (Mem_0 (Plan_3 hPl) : ob h (P + 1) 5) rfl : isI h (P + 1) 1)), (eq_true (isI_ob (Mem_0 (Plan_3 hPl) : ob h (P + 1) 5) rfl : isI h (P + 1) 2)), (rf_g (Mem_1 (Plan_3 hPl) : rf h (P + 1) 0 (P + 2)) : gR h (P + 1) 0 = (P + 2)), (rf_is (Mem_1 (Plan_3 hPl) : rf h (P + 1) 0 (P + 2)) : isR h (P + 1) 0), (Mem_2 (Plan_3 hPl) : arI h (P + 2) 2), (rdB_2 (Mem_2 (Plan_3 hPl) : arI h (P + 2) 2) : rdB h (P + 2)), (Mem_3 (Plan_3 hPl) : aln h (P + 2) = 256), vkk_n, vkk_i, vkk_r, vkk_l, vkk_d, catS_nil, catS_i, catS_r, catS_l, catS_d, Nat.reduceAdd, Nat.reduceLeDiff, Nat.zero_le, Nat.le_refl, Option.bind_some, Option.toList_some, Option.toList_none, List.cons_append, List.nil_append, or_true, true_or, if_true, if_false, Int32.reduceLT, Int32.reduceLE, not_true, not_false_iff, true_and, and_true, false_and, and_false]
    · rw [eM j, aI_wI2 _ _ _ _ _ _ (Mem_2 (Plan_3 hPl))]
      by_cases z : j = A + i
      · rw [if_pos ⟨ok, z⟩, if_pos ⟨rfl, z⟩]
        exact ⟨by omega, rfl⟩
      · rw [if_neg (fun y => z y.2), if_neg (fun y => z y.2)]
        exact hm j hj
  · rw [if_neg ok]
    obtain ⟨h1, n1, n2, n3, n4⟩ := c_note (c := 5) q hw (Or.inr rfl)
    have n1 : ev 71 0 [some (.ref (g + 2)), some (.int 5)] [] h = _ := n1
    refine ⟨h1, ?_, n2.mo (fun a z => z.elim) (fun a k z => by unfold GF; omega), n4, n3, fun j hj => ?_⟩
    · by_cases k1 : vC b L (s2 + i) ≤ 255
      · have y1 : nI (vC b L (s2 + i)) ≤ 255 := nI_le (b := 255) k1 (by decide)
        have y2 : ¬ nI (A + i) < 256 := fun z => by
          have := (nI_ltI (b := 256) (by omega) (by decide)).mp z
          exact ok ⟨k1, by omega⟩
        simp +decide only [e78_0, e78_1, e78_4, e78_7, e78_8, e78_11, e78_14, e78_15, e78_16, e78_19, e78_22, e78_23, e78_26, e78_29, e78_32, e78_33, e78_34, e78_35, e78_35z, e78_36, o7, y1, y2, n1, vkk_n, vkk_i, vkk_r, vkk_l, vkk_d, catS_nil, catS_i, catS_r, catS_l, catS_d, Nat.reduceAdd, Nat.reduceLeDiff, Nat.zero_le, Nat.le_refl, Option.bind_some, Option.toList_some, Option.toList_none, List.cons_append, List.nil_append, or_true, true_or, if_true, if_false, Int32.reduceLT, Int32.reduceLE, not_true, not_false_iff, true_and, and_true, false_and, and_false]
      · have y1 : ¬ nI (vC b L (s2 + i)) ≤ 255 := fun z => k1 ((nI_leI (b := 255) (by omega) (by decide)).mp z)
        simp +decide only [e78_0, e78_1, e78_4, e78_7, e78_8, e78_11, e78_14, e78_15, e78_16, e78_19, e78_22, e78_23, e78_26, e78_29, e78_32, e78_33, e78_34, e78_35, e78_35z, e78_36, o7, y1, n1, vkk_n, vkk_i, vkk_r, vkk_l, vkk_d, catS_nil, catS_i, catS_r, catS_l, catS_d, Nat.reduceAdd, Nat.reduceLeDiff, Nat.zero_le, Nat.le_refl, Option.bind_some, Option.toList_some, Option.toList_none, List.cons_append, List.nil_append, or_true, true_or, if_true, if_false, Int32.reduceLT, Int32.reduceLE, not_true, not_false_iff, true_and, and_true, false_and, and_false]
    · rw [eM j, if_neg (fun y => ok y.1), n2.I (fun z => z)]
      exact hm j hj
set_option maxHeartbeats 4000000 in
theorem l_fil (g P L TT A s2 : Nat) (b : Nat → Nat) (W : Nat × Nat) (M : Nat → Nat) (hP : P = g + 8 ∨ P = g + 90) (hA : A < 10000) : ∀ d i h, i + d = 17 → i ≤ 16 → RD h g P b L TT (s2 + i) → WF h g b L (wFb (vC b L) A s2 W i) → MB h P (mFb (vC b L) A s2 M i) → INTS (tyC b L) s2 i → ((rFil (tyC b L) d i (s2 + i)).1 = 0 → ∃ (h1 : VG) (c : Nat), ev 77 37 [some (.ref (g + 2)), some (.int (nI A)), some (.int (nI i))] [] h = ev 77 88 [some (.ref (g + 2)), some (.int (nI A)), some (.int (nI c))] [] h1 ∧ Fr (fun a => a = P + 2) (GF g) h h1 ∧ 1 ≤ c ∧ c ≤ 16 ∧ rFil (tyC b L) d i (s2 + i) = (0, s2 + c) ∧ RD h1 g P b L TT (s2 + c) ∧ WF h1 g b L (wFb (vC b L) A s2 W c) ∧ MB h1 P (mFb (vC b L) A s2 M c) ∧ INTS (tyC b L) s2 c ∧ ¬ tyC b L (s2 + c) = 3) ∧ (¬ (rFil (tyC b L) d i (s2 + i)).1 = 0 → ∃ h1, ev 77 37 [some (.ref (g + 2)), some (.int (nI A)), some (.int (nI i))] [] h = some (none, h1) ∧ Fr (fun a => a = P + 2) (GF g) h h1 ∧ ST h1 g (rFil (tyC b L) d i (s2 + i)).1 (tPl b L (rFil (tyC b L) d i (s2 + i)).2)) := by
  intro d
  induction d with
  | zero =>
    intro i h hd hi
    omega
  | succ d ih =>
    intro i h hd hi q wf mb h3
    have e : rFil (tyC b L) (d + 1) i (s2 + i) = if tyC b L (s2 + i) = 3 then (if i = 16 then (2, s2 + i) else rB (rP (tyC b L) 3 (s2 + i)) fun s1 => rFil (tyC b L) d (i + 1) s1) else (if i = 0 then (1, s2 + i) else (0, s2 + i)) := rfl
    rw [e]
    have nx := c_isNext (y := 3) q (by decide)
    have nx : ev 67 0 [some (.ref (g + 2)), some (.int 3)] [] h = _ := nx
    have ps := c_pass (y := 3) q (by decide) (by decide)
    have o7 : ob h (g + 2) 7 := Cls_11 q.1.1
    have i0 : nI i = 0 ↔ i = 0 := nI_eq (b := 0) (by omega) (by decide)
    have i16 : nI i = 16 ↔ i = 16 := nI_eq (b := 16) (by omega) (by decide)
    have inG : ∀ {h h1 : VG} {F : Nat → Nat → Prop}, Fr NR F h h1 → (∀ a k, F a k → a = g + 2 ∧ ¬ k = 1 ∧ ¬ k = 2) → Fr (fun a => a = P + 2) (GF g) h h1 := fun x c => x.mo (fun a z => z.elim) (fun a k z => c a k z)
    by_cases z3 : tyC b L (s2 + i) = 3
    case neg =>
      rw [if_neg z3]
      by_cases z0 : i = 0
      · rw [if_pos z0]
        refine ⟨fun z => absurd z (by show ¬ (1 : Nat) = 0; decide), fun _ => ?_⟩
        rcases ps with ⟨h1, u1, u2, -⟩ | ⟨h1, ff, u1, u2, u3, u4, u5⟩
        · exact absurd u2 z3
        · have ff1 : ff = 1 := by
            unfold rP at u1
            rw [if_neg z3] at u1
            exact (Prod.mk.inj u1).1.symm
          subst ff1
          have u3 : ev 68 0 [some (.ref (g + 2)), some (.int 3)] [] h = _ := u3
          refine ⟨h1, ?_, inG u4 (fun a k z => by omega), u5⟩
          have z0' := i0.mpr z0
          rw [z0']
          simp +decide only [e77_37, e77_38, e77_41, e77_42, e77_43, e77_46, e77_49, e77_50, e77_52, e77_55, e77_56, e77_57, e77_60, e77_60b, e77_61, e77_62, e77_63, e77_64, e77_67, e77_70, e77_71, e77_72, e77_73, e77_74, e77_75, e77_76, e77_79, e77_82, e77_85, o7, u3, vkk_n, vkk_i, vkk_r, vkk_l, vkk_d, catS_nil, catS_i, catS_r, catS_l, catS_d, Nat.reduceAdd, Nat.reduceLeDiff, Nat.zero_le, Nat.le_refl, Option.bind_some, Option.toList_some, Option.toList_none, List.cons_append, List.nil_append, or_true, true_or, if_true, if_false, Int32.reduceLT, Int32.reduceLE, not_true, not_false_iff, true_and, and_true, false_and, and_false]
      · rw [if_neg z0]
        rw [if_neg z3] at nx
        have z0' : ¬ nI i = 0 := fun y => z0 (i0.mp y)
        refine ⟨fun _ => ⟨h, i, ?_, Fr.rfl _, by omega, hi, rfl, q, wf, mb, h3, z3⟩, fun z => absurd rfl z⟩
        simp +decide only [e77_37, e77_38, e77_41, e77_42, e77_43, e77_46, z0', o7, nx, vkk_n, vkk_i, vkk_r, vkk_l, vkk_d, catS_nil, catS_i, catS_r, catS_l, catS_d, Nat.reduceAdd, Nat.reduceLeDiff, Nat.zero_le, Nat.le_refl, Option.bind_some, Option.toList_some, Option.toList_none, List.cons_append, List.nil_append, or_true, true_or, if_true, if_false, Int32.reduceLT, Int32.reduceLE, not_true, not_false_iff, true_and, and_true, false_and, and_false]
    rw [if_pos z3]
    rw [if_pos z3] at nx
    have ent : ev 77 37 [some (.ref (g + 2)), some (.int (nI A)), some (.int (nI i))] [] h = ev 77 49 [some (.ref (g + 2)), some (.int (nI A)), some (.int (nI i))] [] h := by
      by_cases z0 : i = 0
      · have z0' := i0.mpr z0
        rw [z0']
        simp +decide only [e77_37, e77_38, e77_41, e77_42, e77_43, e77_46, vkk_n, vkk_i, vkk_r, vkk_l, vkk_d, catS_nil, catS_i, catS_r, catS_l, catS_d, Nat.reduceAdd, Nat.reduceLeDiff, Nat.zero_le, Nat.le_refl, Option.bind_some, Option.toList_some, Option.toList_none, List.cons_append, List.nil_append, or_true, true_or, if_true, if_false, Int32.reduceLT, Int32.reduceLE, not_true, not_false_iff, true_and, and_true, false_and, and_false]
      · have z0' : ¬ nI i = 0 := fun y => z0 (i0.mp y)
        simp +decide only [e77_37, e77_38, e77_41, e77_42, e77_43, e77_46, z0', o7, nx, vkk_n, vkk_i, vkk_r, vkk_l, vkk_d, catS_nil, catS_i, catS_r, catS_l, catS_d, Nat.reduceAdd, Nat.reduceLeDiff, Nat.zero_le, Nat.le_refl, Option.bind_some, Option.toList_some, Option.toList_none, List.cons_append, List.nil_append, or_true, true_or, if_true, if_false, Int32.reduceLT, Int32.reduceLE, not_true, not_false_iff, true_and, and_true, false_and, and_false]
    rw [ent]
    by_cases z16 : i = 16
    · rw [if_pos z16]
      refine ⟨fun z => absurd z (by show ¬ (2 : Nat) = 0; decide), fun _ => ?_⟩
      obtain ⟨h1, u1, u2, u3⟩ := c_stop (f := 2) q
      have u1 : ev 70 0 [some (.ref (g + 2)), some (.int 2)] [] h = some (some (.int 0), h1) := u1
      refine ⟨h1, ?_, inG u2 (fun a k z => by omega), u3⟩
      have z16' := i16.mpr z16
      simp +decide only [e77_49, e77_50, e77_52, e77_55, e77_56, e77_57, e77_60, e77_60b, e77_61, e77_62, e77_63, e77_64, e77_67, e77_70, e77_71, e77_72, e77_73, e77_74, e77_75, e77_76, e77_79, e77_82, e77_85, z16', o7, u1, vkk_n, vkk_i, vkk_r, vkk_l, vkk_d, catS_nil, catS_i, catS_r, catS_l, catS_d, Nat.reduceAdd, Nat.reduceLeDiff, Nat.zero_le, Nat.le_refl, Option.bind_some, Option.toList_some, Option.toList_none, List.cons_append, List.nil_append, or_true, true_or, if_true, if_false, Int32.reduceLT, Int32.reduceLE, not_true, not_false_iff, true_and, and_true, false_and, and_false]
    rw [if_neg z16]
    have z16' : ¬ nI i = 16 := fun y => z16 (i16.mp y)
    rcases ps with ⟨h1, u1, u2, u3, u4, u5⟩ | ⟨h1, ff, u1, u2, u3, u4, u5⟩
    case inr =>
      have u3 : ev 68 0 [some (.ref (g + 2)), some (.int 3)] [] h = _ := u3
      rw [u1, rB_n _ _ u2]
      refine ⟨fun z => absurd z (by show ¬ ff = 0; omega), fun _ => ⟨h1, ?_, inG u4 (fun a k z => by omega), u5⟩⟩
      simp +decide only [e77_49, e77_50, e77_52, e77_55, e77_56, e77_57, e77_60, e77_60b, e77_61, e77_62, e77_63, e77_64, e77_67, e77_70, e77_71, e77_72, e77_73, e77_74, e77_75, e77_76, e77_79, e77_82, e77_85, z16', o7, u3, vkk_n, vkk_i, vkk_r, vkk_l, vkk_d, catS_nil, catS_i, catS_r, catS_l, catS_d, Nat.reduceAdd, Nat.reduceLeDiff, Nat.zero_le, Nat.le_refl, Option.bind_some, Option.toList_some, Option.toList_none, List.cons_append, List.nil_append, or_true, true_or, if_true, if_false, Int32.reduceLT, Int32.reduceLE, not_true, not_false_iff, true_and, and_true, false_and, and_false]
    have u3 : ev 68 0 [some (.ref (g + 2)), some (.int 3)] [] h = _ := u3
    rw [u1, rB_0]
    obtain ⟨pd, p4⟩ := (c_passed u5).1 z3
    have o71 : ob h1 (g + 2) 7 := Cls_11 u5.1.1
    obtain ⟨h2, a1, a2, a3, a4, a5⟩ := c_fillByte (W := W) (M := M) hP u5 (WF_fr u4 (fun k z => by omega) wf) (MB_fr u4 (fun z => z) mb) hA hi p4
    obtain ⟨n0, n1⟩ := ih (i + 1) h2 (by omega) (by omega) a3 a4 a5 (fun x hx => by
      by_cases ex : x = i
      · rw [ex]
        exact z3
      · exact h3 x (by omega))
    have F2 : Fr (fun a => a = P + 2) (GF g) h h2 := (inG u4 (fun a k z => by omega)).tr a2
    have stp_ : ev 77 49 [some (.ref (g + 2)), some (.int (nI A)), some (.int (nI i))] [] h = ev 77 37 [some (.ref (g + 2)), some (.int (nI A)), some (.int (nI (i + 1)))] [] h2 := by
      generalize hZ : ev 77 37 [some (.ref (g + 2)), some (.int (nI A)), some (.int (nI (i + 1)))] [] h2 = Z
      simp +decide only [e77_49, e77_50, e77_52, e77_55, e77_56, e77_57, e77_60, e77_60b, e77_61, e77_62, e77_63, e77_64, e77_67, e77_70, e77_71, e77_72, e77_73, e77_74, e77_75, e77_76, e77_79, e77_82, e77_85, z16', o7, u3, o71, pd, nI_add, a1, nI_1, vkk_n, vkk_i, vkk_r, vkk_l, vkk_d, catS_nil, catS_i, catS_r, catS_l, catS_d, Nat.reduceAdd, Nat.reduceLeDiff, Nat.zero_le, Nat.le_refl, Option.bind_some, Option.toList_some, Option.toList_none, List.cons_append, List.nil_append, or_true, true_or, if_true, if_false, Int32.reduceLT, Int32.reduceLE, not_true, not_false_iff, true_and, and_true, false_and, and_false]
      exact hZ
    rw [stp_]
    refine ⟨fun z => ?_, fun z => ?_⟩
    · obtain ⟨h5_, c, k1, k2, k3⟩ := n0 z
      exact ⟨h5_, c, k1, F2.tr k2, k3⟩
    · obtain ⟨h5_, k1, k2, k3⟩ := n1 z
      exact ⟨h5_, k1, F2.tr k2, k3⟩
theorem c_readFill {h : VG} {g P L TT s : Nat} {b : Nat → Nat} {W : Nat × Nat} {M : Nat → Nat} (hP : P = g + 8 ∨ P = g + 90) (q : RD h g P b L TT s) (hw : WF h g b L W) (hm : MB h P M) : ((rFll (tyC b L) s).1 = 0 → ∃ (h1 : VG) (c : Nat), ev 77 0 [some (.ref (g + 2)), none, none] [] h = some (none, h1) ∧ 1 ≤ c ∧ c ≤ 16 ∧ rFll (tyC b L) s = (0, s + 2 + c + 1) ∧ tyC b L s = 9 ∧ tyC b L (s + 1) = 3 ∧ INTS (tyC b L) (s + 2) c ∧ tyC b L (s + 2 + c) = 4 ∧ Fr (fun a => a = P + 2) (GF g) h h1 ∧ RD h1 g P b L TT (s + 2 + c + 1) ∧ WF h1 g b L (wFb (vC b L) (vC b L (s + 1)) (s + 2) (if 255 < vC b L (s + 1) then wN W 5 (s + 1) else W) c) ∧ MB h1 P (mFb (vC b L) (vC b L (s + 1)) (s + 2) M c)) ∧ (¬ (rFll (tyC b L) s).1 = 0 → ∃ h1, ev 77 0 [some (.ref (g + 2)), none, none] [] h = some (none, h1) ∧ Fr (fun a => a = P + 2) (GF g) h h1 ∧ ST h1 g (rFll (tyC b L) s).1 (tPl b L (rFll (tyC b L) s).2)) := by
  have o7 : ob h (g + 2) 7 := Cls_11 q.1.1
  have inG : ∀ {h h1 : VG} {F : Nat → Nat → Prop}, Fr NR F h h1 → (∀ a k, F a k → a = g + 2 ∧ ¬ k = 1 ∧ ¬ k = 2) → Fr (fun a => a = P + 2) (GF g) h h1 := fun x c => x.mo (fun a z => z.elim) (fun a k z => c a k z)
  unfold rFll
  rcases c_pass (y := 9) q (by decide) (by decide) with ⟨h1, u1, u2, u3, u4, u5⟩ | ⟨h1, ff, u1, u2, u3, u4, u5⟩
  case inr =>
    have u3 : ev 68 0 [some (.ref (g + 2)), some (.int 9)] [] h = _ := u3
    rw [u1, rB_n _ _ u2]
    refine ⟨fun z => absurd z (by show ¬ ff = 0; omega), fun _ => ⟨h1, ?_, inG u4 (fun a k z => by omega), u5⟩⟩
    simp +decide only [e77_0, e77_1, e77_3, e77_6, e77_9, e77_10, e77_11, e77_14, e77_17, o7, u3, vkk_n, vkk_i, vkk_r, vkk_l, vkk_d, catS_nil, catS_i, catS_r, catS_l, catS_d, Nat.reduceAdd, Nat.reduceLeDiff, Nat.zero_le, Nat.le_refl, Option.bind_some, Option.toList_some, Option.toList_none, List.cons_append, List.nil_append, or_true, true_or, if_true, if_false, Int32.reduceLT, Int32.reduceLE, not_true, not_false_iff, true_and, and_true, false_and, and_false]
  have u3 : ev 68 0 [some (.ref (g + 2)), some (.int 9)] [] h = _ := u3
  rw [u1, rB_0]
  have o71 : ob h1 (g + 2) 7 := Cls_11 u5.1.1
  rcases c_pass (y := 3) u5 (by decide) (by decide) with ⟨h2, w1, w2, w3, w4, w5⟩ | ⟨h2, ff, w1, w2, w3, w4, w5⟩
  case inr =>
    have w3 : ev 68 0 [some (.ref (g + 2)), some (.int 3)] [] h1 = _ := w3
    rw [w1, rB_n _ _ w2]
    refine ⟨fun z => absurd z (by show ¬ ff = 0; omega), fun _ => ⟨h2, ?_, (inG u4 (fun a k z => by omega)).tr (inG w4 (fun a k z => by omega)), w5⟩⟩
    simp +decide only [e77_0, e77_1, e77_3, e77_6, e77_9, e77_10, e77_11, e77_14, e77_17, o7, u3, o71, w3, vkk_n, vkk_i, vkk_r, vkk_l, vkk_d, catS_nil, catS_i, catS_r, catS_l, catS_d, Nat.reduceAdd, Nat.reduceLeDiff, Nat.zero_le, Nat.le_refl, Option.bind_some, Option.toList_some, Option.toList_none, List.cons_append, List.nil_append, or_true, true_or, if_true, if_false, Int32.reduceLT, Int32.reduceLE, not_true, not_false_iff, true_and, and_true, false_and, and_false]
  have w3 : ev 68 0 [some (.ref (g + 2)), some (.int 3)] [] h1 = _ := w3
  rw [w1, rB_0]
  have o72 : ob h2 (g + 2) 7 := Cls_11 w5.1.1
  obtain ⟨pd, p4⟩ := (c_passed w5).1 w2
  have F2 := (inG u4 (fun a k z => by omega)).tr (inG w4 (fun a k z => by omega))
  have wf2 : WF h2 g b L W := WF_fr w4 (fun k z => by omega) (WF_fr u4 (fun k z => by omega) hw)
  have mb2 : MB h2 P M := MB_fr w4 (fun z => z) (MB_fr u4 (fun z => z) hm)
  have mid : ∃ h3, ev 77 0 [some (.ref (g + 2)), none, none] [] h = ev 77 37 [some (.ref (g + 2)), some (.int (nI (vC b L (s + 1)))), some (.int 0)] [] h3 ∧ Fr NR (fun a k => a = g + 2 ∧ (k = 0 ∨ k = 4)) h2 h3 ∧ RD h3 g P b L TT (s + 1 + 1) ∧ WF h3 g b L (if 255 < vC b L (s + 1) then wN W 5 (s + 1) else W) := by
    by_cases k1 : 255 < vC b L (s + 1)
    · have y1 : ¬ nI (vC b L (s + 1)) < 256 := fun z => by have := (nI_ltI (b := 256) (by omega) (by decide)).mp z; omega
      obtain ⟨h3, n1, n2, n3, n4⟩ := c_note (c := 5) w5 wf2 (Or.inr rfl)
      have n1 : ev 71 0 [some (.ref (g + 2)), some (.int 5)] [] h2 = _ := n1
      rw [if_pos k1]
      refine ⟨h3, ?_, n2, n4, n3⟩
      simp +decide only [e77_0, e77_1, e77_3, e77_6, e77_9, e77_10, e77_11, e77_14, e77_17, e77_18, e77_19, e77_22, e77_23, e77_24, e77_27, e77_30, e77_31, e77_32, e77_35, e77_36, o7, u3, o71, w3, o72, pd, y1, n1, vkk_n, vkk_i, vkk_r, vkk_l, vkk_d, catS_nil, catS_i, catS_r, catS_l, catS_d, Nat.reduceAdd, Nat.reduceLeDiff, Nat.zero_le, Nat.le_refl, Option.bind_some, Option.toList_some, Option.toList_none, List.cons_append, List.nil_append, or_true, true_or, if_true, if_false, Int32.reduceLT, Int32.reduceLE, not_true, not_false_iff, true_and, and_true, false_and, and_false]
    · have y1 : nI (vC b L (s + 1)) < 256 := (nI_ltI (b := 256) (by omega) (by decide)).mpr (by omega)
      rw [if_neg k1]
      refine ⟨h2, ?_, Fr.rfl _, w5, wf2⟩
      simp +decide only [e77_0, e77_1, e77_3, e77_6, e77_9, e77_10, e77_11, e77_14, e77_17, e77_18, e77_19, e77_22, e77_23, e77_24, e77_27, e77_30, e77_31, e77_32, e77_35, e77_36, o7, u3, o71, w3, o72, pd, y1, vkk_n, vkk_i, vkk_r, vkk_l, vkk_d, catS_nil, catS_i, catS_r, catS_l, catS_d, Nat.reduceAdd, Nat.reduceLeDiff, Nat.zero_le, Nat.le_refl, Option.bind_some, Option.toList_some, Option.toList_none, List.cons_append, List.nil_append, or_true, true_or, if_true, if_false, Int32.reduceLT, Int32.reduceLE, not_true, not_false_iff, true_and, and_true, false_and, and_false]
  obtain ⟨h3, m1, m2, m3, m4⟩ := mid
  rw [m1]
  have F3 := F2.tr (inG m2 (fun a k z => by omega))
  obtain ⟨r0, r1⟩ := l_fil g P L TT (vC b L (s + 1)) (s + 2) b (if 255 < vC b L (s + 1) then wN W 5 (s + 1) else W) M hP p4 17 0 h3 rfl (by decide) m3 m4 (MB_fr m2 (fun z => z) mb2) (fun x hx => absurd hx (Nat.not_lt_zero _))
  by_cases ok : (rFil (tyC b L) 17 0 (s + 2)).1 = 0
  case neg =>
    obtain ⟨h5, k1, k2, k3⟩ := r1 ok
    have k1 : ev 77 37 [some (.ref (g + 2)), some (.int (nI (vC b L (s + 1)))), some (.int 0)] [] h3 = _ := k1
    have e : rB (rFil (tyC b L) 17 0 (s + 1 + 1)) (fun s3 => rP (tyC b L) 4 s3) = rFil (tyC b L) 17 0 (s + 2) := if_neg ok
    rw [e]
    exact ⟨fun z => absurd z ok, fun _ => ⟨h5, k1, F3.tr k2, k3⟩⟩
  obtain ⟨h5, c, k1, k2, c1, c16, k3, k4, k5, k6, k7, k8⟩ := r0 ok
  clear r0 r1
  have k1 : ev 77 37 [some (.ref (g + 2)), some (.int (nI (vC b L (s + 1)))), some (.int 0)] [] h3 = _ := k1
  have k3 : rFil (tyC b L) 17 0 (s + 1 + 1) = (0, s + 2 + c) := k3
  rw [k1, k3, rB_0]
  have o75 : ob h5 (g + 2) 7 := Cls_11 k4.1.1
  have F5 := F3.tr k2
  rcases c_pass (y := 4) k4 (by decide) (by decide) with ⟨h6, x1, x2, x3, x4, x5⟩ | ⟨h6, ff, x1, x2, x3, x4, x5⟩
  case inr =>
    have x3 : ev 68 0 [some (.ref (g + 2)), some (.int 4)] [] h5 = _ := x3
    rw [x1]
    refine ⟨fun z => absurd z (by show ¬ ff = 0; omega), fun _ => ⟨h6, ?_, F5.tr (inG x4 (fun a k z => by omega)), x5⟩⟩
    simp +decide only [e77_88, e77_89, e77_90, e77_93, e77_93b, e77_94, o75, x3, vkk_n, vkk_i, vkk_r, vkk_l, vkk_d, catS_nil, catS_i, catS_r, catS_l, catS_d, Nat.reduceAdd, Nat.reduceLeDiff, Nat.zero_le, Nat.le_refl, Option.bind_some, Option.toList_some, Option.toList_none, List.cons_append, List.nil_append, or_true, true_or, if_true, if_false, Int32.reduceLT, Int32.reduceLE, not_true, not_false_iff, true_and, and_true, false_and, and_false]
  have x3 : ev 68 0 [some (.ref (g + 2)), some (.int 4)] [] h5 = _ := x3
  rw [x1]
  refine ⟨fun _ => ⟨h6, c, ?_, c1, c16, rfl, u2, w2, k7, x2, F5.tr (inG x4 (fun a k z => by omega)), x5, WF_fr x4 (fun k z => by omega) k5, MB_fr x4 (fun z => z) k6⟩, fun z => absurd rfl z⟩
  simp +decide only [e77_88, e77_89, e77_90, e77_93, e77_93b, e77_94, o75, x3, vkk_n, vkk_i, vkk_r, vkk_l, vkk_d, catS_nil, catS_i, catS_r, catS_l, catS_d, Nat.reduceAdd, Nat.reduceLeDiff, Nat.zero_le, Nat.le_refl, Option.bind_some, Option.toList_some, Option.toList_none, List.cons_append, List.nil_append, or_true, true_or, if_true, if_false, Int32.reduceLT, Int32.reduceLE, not_true, not_false_iff, true_and, and_true, false_and, and_false]
