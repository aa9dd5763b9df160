/-! copy -/
theorem CA_rfs {h0 hc : VG} {g : Nat} {f : Int32} (e : Int32) (ho : ob hc g 10) (ca : CA h0 hc g f) : CA h0 (rfs hc g e) g (if f = 0 then e else f) ∧ Fr NR (AC g) hc (rfs hc g e) := by
  have i9 := isI_ob ho (k := 9) rfl
  have i10 := isI_ob ho (k := 10) rfl
  unfold rfs
  by_cases e0 : e = 0
  · rw [if_pos e0]
    refine ⟨?_, Fr.rfl _⟩
    by_cases f0 : f = 0
    · rw [if_pos f0, e0, ← f0]
      exact ca
    · rw [if_neg f0]
      exact ca
  · rw [if_neg e0]
    unfold CA at ca ⊢
    rw [ca.1]
    by_cases f0 : f = 0
    · rw [if_pos f0, if_pos f0, if_neg e0]
      rw [if_pos f0] at ca
      refine ⟨⟨?_, ?_⟩, (Fr_pI _ _ _ _ ⟨rfl, Or.inl rfl⟩).tr (Fr_pI _ _ _ _ ⟨rfl, Or.inr rfl⟩)⟩
      · simp +decide only [gI_pI, isI_pI, (eq_true i9), true_and, and_true, false_and, and_false, if_true, if_false]
      · rw [gI_pI, if_pos ⟨rfl, rfl, (isI_pI ..).mpr i10⟩, ca.2, Int32.add_zero]
    · rw [if_neg f0, if_neg f0]
      exact ⟨ca, Fr.rfl _⟩
theorem RBins2_at {h m : VG} {g b s n : Nat} (hh : RBins2 h m g) (hb : b < 8) (hs : s < 12) (hn : n ≤ 40) (bs : gI h (g + (177 + 3 * b)) 0 = nI s) (bn : gI h (g + (177 + 3 * b)) 1 = nI n) : aI m (g + 285) b = nI s ∧ aI m (g + 286) b = nI n ∧ ∀ i, i < n → cOk s (aI h (g + (177 + 3 * b) + 1) i) ∧ aI m (g + 287) (40 * b + i) = aI h (g + (177 + 3 * b) + 1) i ∧ RNm (aI h (g + (177 + 3 * b) + 1) i) (aL h (g + (177 + 3 * b) + 2) i) (aL m (g + 288) (40 * b + i)) (aD m (g + 289) (40 * b + i)) := by
  obtain ⟨s', n', e1, e2, e3, e4, e5, e6, e7, e8⟩ := hh b hb
  have q1 : s' = s := (nI_eq (by omega) (by omega)).mp (e4.symm.trans bs)
  have q2 : n' = n := (nI_eq (by omega) (by omega)).mp (e6.symm.trans bn)
  subst q1 q2
  rw [Nat.zero_add] at e5 e7
  refine ⟨e5, e7, fun i hi => ?_⟩
  have := e8 i hi
  rw [Nat.zero_add] at this
  exact this
def f03 (f : Int32) : Prop := f = 0 ∨ f = 1 ∨ f = 2 ∨ f = 3
theorem f03_up {f e : Int32} (h1 : f03 f) (h2 : f03 e) : f03 (if f = 0 then e else f) := by
  split
  · exact h2
  · exact h1
theorem l_copy (h0 : VG) (g b t s1 n1 s2 n2 n k : Nat) (i j : Int32) (hb : b < 8) (ht : t < 8) (hk : k < 8) (hn : n ≤ 40) (hs1 : s1 < 12) (hn1 : n1 ≤ 40) (hs2 : s2 < 12) (hn2 : n2 ≤ 40) : ∀ (d c dn : Nat) (f : Int32) (hc : VG), c + d = n → Sh hc g → gI hc (g + (177 + 3 * b)) 0 = nI s1 → gI hc (g + (177 + 3 * b)) 1 = nI n1 → gI hc (g + (177 + 3 * t)) 0 = nI s2 → gI hc (g + (177 + 3 * t)) 1 = nI n2 → (s2 < 8 → ∀ i, i < n2 → aI hc (g + (177 + 3 * t) + 1) i = nI s2) → CA h0 hc g f → f03 f → ∃ (hc1 : VG) (dn1 : Nat) (f1 : Int32), ev 117 69 [some (.ref g), some (.int (nI b)), some (.int i), some (.int (nI t)), some (.int j), some (.int (nI n)), some (.int (nI k)), some (.ref (g + (177 + 3 * b))), some (.ref (g + (177 + 3 * t))), some (.int (nI dn)), some (.int (nI c))] [] hc = some (some (.int (nI dn1)), hc1) ∧ Fr (fun a => a = g + (177 + 3 * t) + 1 ∨ a = g + (177 + 3 * t) + 2) (AC g) hc hc1 ∧ CA h0 hc1 g f1 ∧ f03 f1 ∧ ∀ (m : VG) (l : Option Value), Sh m g → RBins2 hc m g → ∃ (m1 : VG) (l1 : Option Value), ev 196 49 [some (.ref (g + 266)), some (.int (nI b)), some (.int i), some (.int (nI t)), some (.int j), some (.int (nI n)), some (.int (nI k)), some (.int (nI dn)), some (.int (f)), some (.int (nI c)), l] [] m = ev 196 112 [some (.ref (g + 266)), some (.int (nI b)), some (.int i), some (.int (nI t)), some (.int j), some (.int (nI n)), some (.int (nI k)), some (.int (nI dn1)), some (.int (f1)), some (.int (nI n)), l1] [] m1 ∧ Fr (LR g) (VF (g + 266)) m m1 ∧ RBins2 hc1 m1 g := by
  intro d
  induction d with
  | zero =>
    intro c dn f hc hcd sh a0 a1 b0 b1 co ca hf
    obtain rfl : c = n := by omega
    have q : ¬ nI c < nI c := nI_nlt (Nat.le_refl _) (by omega)
    refine ⟨hc, dn, f, ?_, Fr.rfl _, ca, hf, fun m l sm rb => ⟨m, l, ?_, Fr.rfl _, rb⟩⟩
    · simp +decide only [e117_69, e117_71, e117_73, e117_145, e117_147, q, vkk_n, vkk_i, vkk_r, vkk_l, vkk_d, catS_nil, catS_i, catS_r, catS_l, catS_d, Nat.reduceAdd, Nat.reduceLeDiff, Nat.zero_le, Nat.le_refl, Option.bind_some, Option.toList_some, Option.toList_none, List.cons_append, List.nil_append, or_true, true_or, if_true, if_false, Int32.reduceLT, Int32.reduceLE, not_true, not_false_iff, true_and, and_true, false_and, and_false]
    · simp +decide only [e196_49, e196_51, e196_53, q, if_false]
  | succ d ih =>
    intro c dn f hc hcd sh a0 a1 b0 b1 co ca hf
    have q : nI c < nI n := nI_lt (by omega) (by omega)
    have ho : ob hc g 10 := Cls_0 sh.1
    obtain ⟨hA, -⟩ := bin_sh sh hb
    obtain ⟨hB, -⟩ := bin_sh sh ht
    have oA : ob hc (g + (177 + 3 * b)) 1 := Bin_0 hA
    have oB : ob hc (g + (177 + 3 * t)) 1 := Bin_0 hB
    have r1 := c_readRefusal hc _ (i + nI c) (nI k) oA
    rw [a0, a1] at r1
    have z0 := c_refuses hc g 0 ho
    have e0 : rfs hc g 0 = hc := if_pos rfl
    rw [if_pos rfl, e0] at z0
    by_cases x1 : reaRef (nI s1) (nI n1) (i + nI c) (nI k) = 0
    · obtain ⟨h8, ⟨ii, hii, eii⟩, w1⟩ := rea_ok hs1 hn1 x1
      rw [x1] at r1
      have r2 := c_writeRefusal hc _ (j + nI c) (nI k) oB
      rw [b0, b1] at r2
      by_cases x2 : wriRef (nI s2) (nI n2) (j + nI c) (nI k) = 0
      · obtain ⟨g8, ⟨jj, hjj, ejj⟩, w2⟩ := wri_ok hs2 hn2 x2
        rw [x2, ejj] at r2
        rw [eii] at r1
        have nA := c_numberAs hc _ ii (nI k) hA (by omega)
        rw [a0] at nA
        have fC := c_fillCell hc _ jj (nI k) (kWdn (aL hc (g + (177 + 3 * b) + 2) ii) (nI s1) (nI k)) hB (by omega)
        have fl := fil_lo (h := hc) (B := g + (177 + 3 * t)) (i := jj) (s := s2) (c := nI k) (x := kWdn (aL hc (g + (177 + 3 * b) + 2) ii) (nI s1) (nI k)) hB b0 g8 (co g8 jj hjj)
        generalize fil hc (g + (177 + 3 * t)) jj (nI k) (kWdn (aL hc (g + (177 + 3 * b) + 2) ii) (nI s1) (nI k)) = hd at fC fl
        have F := fl.1
        obtain ⟨hc1, dn1, f1, u1, u2, u3, u4, u5⟩ := ih (c + 1) (dn + 1) f hd (by omega) (Sh_fr F (fun a z => by omega) sh) ((F.gI (fun z => z)).trans a0) ((F.gI (fun z => z)).trans a1) ((F.gI (fun z => z)).trans b0) ((F.gI (fun z => z)).trans b1) (fun _ y hy => by
          by_cases e : y = jj
          · rw [e]
            exact fl.2.2.1
          · rw [(fl.2.1 y e).1]
            exact co g8 y hy) (by
          unfold CA at ca ⊢
          rw [F.gI (fun z => z), F.gI (fun z => z)]
          exact ca) hf
        refine ⟨hc1, dn1, f1, ?_, (F.mo (fun _ z => z) (fun _ _ z => z.elim)).tr u2, u3, u4, fun m l sm rb => ?_⟩
        · simp +decide only [e117_69, e117_71, e117_73, q, if_true]
          simp +decide only [e117_76, e117_77, e117_79, e117_80, e117_82, e117_83, e117_85, e117_88, e117_91, e117_94, e117_95, e117_97, e117_99, e117_101, e117_102, e117_104, e117_107, e117_110, e117_113, e117_115, e117_117, e117_119, e117_120, e117_122, e117_124, e117_125, e117_127, e117_128, e117_130, e117_133, e117_136, e117_139, e117_142, ho, oA, oB, r1, r2, z0, eii, ejj, nA, fC, nI_1, vkk_n, vkk_i, vkk_r, vkk_l, vkk_d, catS_nil, catS_i, catS_r, catS_l, catS_d, Nat.reduceAdd, Nat.reduceLeDiff, Nat.zero_le, Nat.le_refl, Option.bind_some, Option.toList_some, Option.toList_none, List.cons_append, List.nil_append, or_true, true_or, if_true, if_false, Int32.reduceLT, Int32.reduceLE, not_true, not_false_iff, true_and, and_true, false_and, and_false]
          exact u1
        · obtain ⟨m5, m6, m7⟩ := RBins2_at rb hb hs1 hn1 a0 a1
          obtain ⟨p5, p6, p7⟩ := RBins2_at rb ht hs2 hn2 b0 b1
          have m8 := m7 ii hii
          have kk := m8.1.1 h8
          rw [kk] at m8
          obtain ⟨ma, v1, v2, v3⟩ := c_m_reads_ok m g b s1 n1 k ii (aL hc (g + (177 + 3 * b) + 2) ii) sm hb m5 m6 hs1 hn1 h8 hk hii w1 m8.2.1 m8.2.2
          have sa : Sh ma g := Sh_fr v2 (fun _ z => z.elim) sm
          obtain ⟨mb, y1, y2⟩ := c_m_writes_ok ma g t s2 n2 k jj _ sa ht ((v2.I (fun z => z) _).trans p5) ((v2.I (fun z => z) _).trans p6) hs2 hn2 g8 hk hjj w2 v3
          have sb : Sh mb g := Sh_fr y2.1 (fun a z => by unfold LR at z; omega) sa
          have rb1 : RBins2 hc ma g := RBins2_fr (Fr.rfl (R := NR) (F := NF) _) v2 (fun _ z => z.elim) (fun _ _ z => z.elim) (fun _ z => z.elim) rb
          have rb2 : RBins2 hd mb g := RBins2_lay ht hjj hn2 hs2 b0 b1 (cOk_lo g8) fl y2 rb1
          obtain ⟨m1, l1, k1, k2, k3⟩ := u5 mb (some (.int 0)) sb rb2
          have om : ob m (g + 266) 11 := Mod_0 sm.2.1
          have oa : ob ma (g + 266) 11 := Mod_0 sa.2.1
          have ob_ : ob mb (g + 266) 11 := Mod_0 sb.2.1
          refine ⟨m1, l1, ?_, ((v2.mo (fun _ z => z.elim) (fun _ _ z => z)).tr y2.1).tr k2, k3⟩
          simp +decide only [e196_49, e196_51, e196_53, q, if_true]
          simp +decide only [e196_56, e196_57, e196_58, e196_59, e196_61, e196_62, e196_64, e196_67, e196_69, e196_71, e196_74, e196_75, e196_76, e196_78, e196_80, e196_81, e196_84, e196_86, e196_88, e196_91, e196_94, e196_97, e196_99, e196_102, e196_104, e196_106, e196_109, om, oa, ob_, eii, ejj, v1, y1, nI_1, vkk_n, vkk_i, vkk_r, vkk_l, vkk_d, catS_nil, catS_i, catS_r, catS_l, catS_d, Nat.reduceAdd, Nat.reduceLeDiff, Nat.zero_le, Nat.le_refl, Option.bind_some, Option.toList_some, Option.toList_none, List.cons_append, List.nil_append, or_true, true_or, if_true, if_false, Int32.reduceLT, Int32.reduceLE, not_true, not_false_iff, true_and, and_true, false_and, and_false]
          exact k1
      · have cr := c_refuses hc g (wriRef (nI s2) (nI n2) (j + nI c) (nI k)) ho
        rw [if_neg x2] at cr
        obtain ⟨ca1, F⟩ := CA_rfs (wriRef (nI s2) (nI n2) (j + nI c) (nI k)) ho ca
        have f1' := f03_up hf (wri_b (nI s2) (nI n2) (j + nI c) (nI k))
        generalize hR : wriRef (nI s2) (nI n2) (j + nI c) (nI k) = r at *
        generalize rfs hc g r = hd at cr ca1 F
        obtain ⟨hc1, dn1, f1, u1, u2, u3, u4, u5⟩ := ih (c + 1) dn (if f = 0 then r else f) hd (by omega) (Sh_fr F (fun _ z => z.elim) sh) ((F.gI (fun z => by unfold AC at z; omega)).trans a0) ((F.gI (fun z => by unfold AC at z; omega)).trans a1) ((F.gI (fun z => by unfold AC at z; omega)).trans b0) ((F.gI (fun z => by unfold AC at z; omega)).trans b1) (fun q8 y hy => (F.I (fun z => z) _).trans (co q8 y hy)) ca1 f1'
        refine ⟨hc1, dn1, f1, ?_, (F.mo (fun _ z => z.elim) (fun _ _ z => z)).tr u2, u3, u4, fun m l sm rb => ?_⟩
        · simp +decide only [e117_69, e117_71, e117_73, q, if_true]
          simp +decide only [e117_76, e117_77, e117_79, e117_80, e117_82, e117_83, e117_85, e117_88, e117_91, e117_94, e117_95, e117_97, e117_99, e117_101, e117_102, e117_104, e117_107, e117_110, e117_113, e117_115, e117_117, e117_119, e117_120, e117_122, e117_124, e117_125, e117_127, e117_128, e117_130, e117_133, e117_136, e117_139, e117_142, ho, oA, oB, r1, r2, z0, cr, nI_1, vkk_n, vkk_i, vkk_r, vkk_l, vkk_d, catS_nil, catS_i, catS_r, catS_l, catS_d, Nat.reduceAdd, Nat.reduceLeDiff, Nat.zero_le, Nat.le_refl, Option.bind_some, Option.toList_some, Option.toList_none, List.cons_append, List.nil_append, or_true, true_or, if_true, if_false, Int32.reduceLT, Int32.reduceLE, not_true, not_false_iff, true_and, and_true, false_and, and_false]
          exact u1
        · obtain ⟨m5, m6, m7⟩ := RBins2_at rb hb hs1 hn1 a0 a1
          obtain ⟨p5, p6, p7⟩ := RBins2_at rb ht hs2 hn2 b0 b1
          have m8 := m7 ii hii
          have kk := m8.1.1 h8
          rw [kk] at m8
          obtain ⟨ma, v1, v2, v3⟩ := c_m_reads_ok m g b s1 n1 k ii (aL hc (g + (177 + 3 * b) + 2) ii) sm hb m5 m6 hs1 hn1 h8 hk hii w1 m8.2.1 m8.2.2
          have sa : Sh ma g := Sh_fr v2 (fun _ z => z.elim) sm
          have y1 := c_m_writes_no ma g t s2 n2 k (j + nI c) sa ht ((v2.I (fun z => z) _).trans p5) ((v2.I (fun z => z) _).trans p6) hs2 hn2 (by omega) v3.2.1 v3.1 (by rw [hR]; exact x2)
          rw [hR] at y1
          have rb1 : RBins2 hd ma g := RBins2_fr F v2 (fun _ z => z.elim) (fun a k z => by unfold AC at z; omega) (fun _ z => z.elim) rb
          obtain ⟨m1, l1, k1, k2, k3⟩ := u5 ma (some (.int r)) sa rb1
          have om : ob m (g + 266) 11 := Mod_0 sm.2.1
          have oa : ob ma (g + 266) 11 := Mod_0 sa.2.1
          refine ⟨m1, l1, ?_, (v2.mo (fun _ z => z.elim) (fun _ _ z => z)).tr k2, k3⟩
          by_cases f0 : f = 0
          · subst f0
            rw [if_pos rfl] at k1
            simp +decide only [e196_49, e196_51, e196_53, q, if_true]
            simp +decide only [e196_56, e196_57, e196_58, e196_59, e196_61, e196_62, e196_64, e196_67, e196_69, e196_71, e196_74, e196_75, e196_76, e196_78, e196_80, e196_81, e196_84, e196_86, e196_88, e196_91, e196_94, e196_97, e196_99, e196_102, e196_104, e196_106, e196_109, om, oa, eii, v1, y1, x2, nI_1, vkk_n, vkk_i, vkk_r, vkk_l, vkk_d, catS_nil, catS_i, catS_r, catS_l, catS_d, Nat.reduceAdd, Nat.reduceLeDiff, Nat.zero_le, Nat.le_refl, Option.bind_some, Option.toList_some, Option.toList_none, List.cons_append, List.nil_append, or_true, true_or, if_true, if_false, Int32.reduceLT, Int32.reduceLE, not_true, not_false_iff, true_and, and_true, false_and, and_false]
            exact k1
          · rw [if_neg f0] at k1
            simp +decide only [e196_49, e196_51, e196_53, q, if_true]
            simp +decide only [e196_56, e196_57, e196_58, e196_59, e196_61, e196_62, e196_64, e196_67, e196_69, e196_71, e196_74, e196_75, e196_76, e196_78, e196_80, e196_81, e196_84, e196_86, e196_88, e196_91, e196_94, e196_97, e196_99, e196_102, e196_104, e196_106, e196_109, om, oa, eii, v1, y1, x2, f0, nI_1, vkk_n, vkk_i, vkk_r, vkk_l, vkk_d, catS_nil, catS_i, catS_r, catS_l, catS_d, Nat.reduceAdd, Nat.reduceLeDiff, Nat.zero_le, Nat.le_refl, Option.bind_some, Option.toList_some, Option.toList_none, List.cons_append, List.nil_append, or_true, true_or, if_true, if_false, Int32.reduceLT, Int32.reduceLE, not_true, not_false_iff, true_and, and_true, false_and, and_false]
            exact k1
    · have cr := c_refuses hc g (reaRef (nI s1) (nI n1) (i + nI c) (nI k)) ho
      rw [if_neg x1] at cr
      obtain ⟨ca1, F⟩ := CA_rfs (reaRef (nI s1) (nI n1) (i + nI c) (nI k)) ho ca
      have f1' := f03_up hf (rea_b (nI s1) (nI n1) (i + nI c) (nI k))
      generalize hR : reaRef (nI s1) (nI n1) (i + nI c) (nI k) = r at *
      generalize rfs hc g r = hd at cr ca1 F
      obtain ⟨hc1, dn1, f1, u1, u2, u3, u4, u5⟩ := ih (c + 1) dn (if f = 0 then r else f) hd (by omega) (Sh_fr F (fun _ z => z.elim) sh) ((F.gI (fun z => by unfold AC at z; omega)).trans a0) ((F.gI (fun z => by unfold AC at z; omega)).trans a1) ((F.gI (fun z => by unfold AC at z; omega)).trans b0) ((F.gI (fun z => by unfold AC at z; omega)).trans b1) (fun q8 y hy => (F.I (fun z => z) _).trans (co q8 y hy)) ca1 f1'
      refine ⟨hc1, dn1, f1, ?_, (F.mo (fun _ z => z.elim) (fun _ _ z => z)).tr u2, u3, u4, fun m l sm rb => ?_⟩
      · simp +decide only [e117_69, e117_71, e117_73, q, if_true]
        simp +decide only [e117_76, e117_77, e117_79, e117_80, e117_82, e117_83, e117_85, e117_88, e117_91, e117_94, e117_95, e117_97, e117_99, e117_101, e117_102, e117_104, e117_107, e117_110, e117_113, e117_115, e117_117, e117_119, e117_120, e117_122, e117_124, e117_125, e117_127, e117_128, e117_130, e117_133, e117_136, e117_139, e117_142, ho, oA, oB, r1, cr, nI_1, vkk_n, vkk_i, vkk_r, vkk_l, vkk_d, catS_nil, catS_i, catS_r, catS_l, catS_d, Nat.reduceAdd, Nat.reduceLeDiff, Nat.zero_le, Nat.le_refl, Option.bind_some, Option.toList_some, Option.toList_none, List.cons_append, List.nil_append, or_true, true_or, if_true, if_false, Int32.reduceLT, Int32.reduceLE, not_true, not_false_iff, true_and, and_true, false_and, and_false]
        exact u1
      · obtain ⟨m5, m6, m7⟩ := RBins2_at rb hb hs1 hn1 a0 a1
        have y1 := c_m_reads_no m g b s1 n1 k (i + nI c) sm hb m5 m6 hs1 hn1 hk (by rw [hR]; exact x1)
        rw [hR] at y1
        have rb1 : RBins2 hd m g := RBins2_fr F (Fr.rfl (R := NR) (F := NF) _) (fun _ z => z.elim) (fun a k z => by unfold AC at z; omega) (fun _ z => z.elim) rb
        obtain ⟨m1, l1, k1, k2, k3⟩ := u5 m (some (.int r)) sm rb1
        have om : ob m (g + 266) 11 := Mod_0 sm.2.1
        refine ⟨m1, l1, ?_, k2, k3⟩
        by_cases f0 : f = 0
        · subst f0
          rw [if_pos rfl] at k1
          simp +decide only [e196_49, e196_51, e196_53, q, if_true]
          simp +decide only [e196_56, e196_57, e196_58, e196_59, e196_61, e196_62, e196_64, e196_67, e196_69, e196_71, e196_74, e196_75, e196_76, e196_78, e196_80, e196_81, e196_84, e196_86, e196_88, e196_91, e196_94, e196_97, e196_99, e196_102, e196_104, e196_106, e196_109, om, y1, x1, nI_1, vkk_n, vkk_i, vkk_r, vkk_l, vkk_d, catS_nil, catS_i, catS_r, catS_l, catS_d, Nat.reduceAdd, Nat.reduceLeDiff, Nat.zero_le, Nat.le_refl, Option.bind_some, Option.toList_some, Option.toList_none, List.cons_append, List.nil_append, or_true, true_or, if_true, if_false, Int32.reduceLT, Int32.reduceLE, not_true, not_false_iff, true_and, and_true, false_and, and_false]
          exact k1
        · rw [if_neg f0] at k1
          simp +decide only [e196_49, e196_51, e196_53, q, if_true]
          simp +decide only [e196_56, e196_57, e196_58, e196_59, e196_61, e196_62, e196_64, e196_67, e196_69, e196_71, e196_74, e196_75, e196_76, e196_78, e196_80, e196_81, e196_84, e196_86, e196_88, e196_91, e196_94, e196_97, e196_99, e196_102, e196_104, e196_106, e196_109, om, y1, x1, f0, nI_1, vkk_n, vkk_i, vkk_r, vkk_l, vkk_d, catS_nil, catS_i, catS_r, catS_l, catS_d, Nat.reduceAdd, Nat.reduceLeDiff, Nat.zero_le, Nat.le_refl, Option.bind_some, Option.toList_some, Option.toList_none, List.cons_append, List.nil_append, or_true, true_or, if_true, if_false, Int32.reduceLT, Int32.reduceLE, not_true, not_false_iff, true_and, and_true, false_and, and_false]
          exact k1
theorem k_copy (h : VG) (g : Nat) (R : Inv h g) (b i t j n k : Int32) : CalI h g 117 [some (.ref g), some (.int b), some (.int i), some (.int t), some (.int j), some (.int n), some (.int k), none, none, none, none] 196 [some (.ref (g + 266)), some (.int b), some (.int i), some (.int t), some (.int j), some (.int n), some (.int k), none, none, none, none] := by
  have ho : ob h g 10 := Cls_0 R.cls
  have hm : ob h (g + 266) 11 := Mod_0 R.mod
  have om0 : ob (cRf h g 0) (g + 266) 11 := cRf_ob.mpr hm
  rcases c_bn (b := b) with ⟨b, hb, rfl⟩ | ⟨q1, q2⟩
  · have i1 := fun h => isBin_c (h := h) (c_bn1 hb).1
    have j1 := fun h => mBin_c (h := h) (c_bn1 hb).2
    rcases c_bn (b := t) with ⟨t, ht, rfl⟩ | ⟨q1, q2⟩
    · have i2 := fun h => isBin_c (h := h) (c_bn1 ht).1
      have j2 := fun h => mBin_c (h := h) (c_bn1 ht).2
      rcases bin_n (s := n) with ⟨n, hn, rfl⟩ | ⟨q1, q2⟩
      · have n0 : ¬ nI n < 0 := nI_pos (by omega)
        have n40 : nI n ≤ 40 := nI_le (b := 40) (by omega) (by decide)
        have j3 := fun h => mIn_c (h := h) (mIn_t n0 n40)
        rcases c_kd (k := k) with ⟨k, hk, rfl⟩ | ⟨q1, q2⟩
        · have i4 := fun h => isNum_c (h := h) (c_kd1 hk).1
          have j4 := fun h => mNum_c (h := h) (c_kd1 hk).2
          have v1 : vp_in (nI b) 8 := vp_in_nI hb (by decide)
          have c1 : (nI b).toNatClampNeg = b := nI_clamp (by omega)
          have v2 : vp_in (nI t) 8 := vp_in_nI ht (by decide)
          have c2 : (nI t).toNatClampNeg = t := nI_clamp (by omega)
          obtain ⟨hA, eA⟩ := bin_sh R.sh hb
          obtain ⟨hB, eB⟩ := bin_sh R.sh ht
          obtain ⟨s1, n1, e1, e2, e3, e4, e5, e6, e7, e8⟩ := R.bins b hb
          obtain ⟨s2, n2, f1, f2, f3, f4, f5, f6, f7, f8⟩ := R.bins t ht
          have F0 := cRf_fr h g 0
          have gg : ∀ a k, a = g + (177 + 3 * b) ∨ a = g + (177 + 3 * t) → gI (cRf h g 0) a k = gI h a k := fun a k ha => F0.gI (fun z => by unfold AC at z; omega)
          obtain ⟨h1, dn, f, u1, u2, u3, u4, u5⟩ := l_copy h g b t s1 n1 s2 n2 n k i j hb ht hk (by omega) e1 e2 f1 f2 n 0 0 0 (cRf h g 0) (by omega) (cRf_sh R.sh) ((gg _ _ (Or.inl rfl)).trans e4) ((gg _ _ (Or.inl rfl)).trans e6) ((gg _ _ (Or.inr rfl)).trans f4) ((gg _ _ (Or.inr rfl)).trans f6) (fun s8 y hy => (F0.I (fun z => z) _).trans ((f8 y hy).1.1 s8)) (cRf_CA 0 ho) (Or.inl rfl)
          have s1' : Sh h1 g := Sh_fr u2 (fun a z => by omega) (cRf_sh R.sh)
          have om1 : ob h1 (g + 266) 11 := Mod_0 s1'.2.1
          have sm := m0_sh s1'
          have X := F0.un u2
          have m0f := m0_fr h1 (g + 266)
          have rb0 : RBins2 (cRf h g 0) (pI h1 (g + 266) 31 0) g := by
            have a := RBins2_fr F0 (X.un m0f) (fun _ z => z.elim) (fun a k z => by unfold AC at z; omega) (fun a z => by rcases z with (z | z) | z; exact z.elim; omega; exact z.elim) (RBins_2.mp R.bins)
            exact a
          obtain ⟨m1, l1, k1, k2, k3⟩ := u5 (pI h1 (g + 266) 31 0) none sm rb0
          have om2 : ob m1 (g + 266) 11 := (ob_kp k2.1 ..).mpr (Mod_0 sm.2.1)
          have m2 := (msy_0 m1 (g + 266) f (ref_nn u4) om2).2
          have E1 : ev 117 0 [some (.ref g), some (.int (nI b)), some (.int i), some (.int (nI t)), some (.int j), some (.int (nI n)), some (.int (nI k)), none, none, none, none] [] h = some (some (.int (nI dn)), h1) := by
            rw [show nI 0 = (0 : Int32) from rfl] at u1
            rw [cRf_0] at u1
            simp +decide only [e117_0, e117_1, e117_2, e117_5, e117_6, e117_9, e117_12, e117_13, e117_16, e117_19, e117_21, e117_24, e117_26, e117_28, e117_31, e117_33, e117_36, e117_39, e117_40, e117_41, e117_42, e117_45, e117_48, e117_49, e117_50, e117_52, e117_53, e117_56, e117_59, e117_60, e117_61, e117_63, e117_64, e117_66, e117_67, ho, i1, i2, i4, n0, n40, v1, c1, v2, c2, eA, eB, vrf_some, (Cls_0 R.cls : ob h g 10), (rf_g (Cls_3 R.cls : rf h g 6 (g + 172)) : gR h g 6 = (g + 172)), (rf_is (Cls_3 R.cls : rf h g 6 (g + 172)) : isR h g 6), (State_0 (Cls_17 R.cls) : ob h (g + 172) 8), (eq_true (isI_ob (State_0 (Cls_17 R.cls) : ob h (g + 172) 8) rfl : isI h (g + 172) 3)), (rf_g (State_2 (Cls_17 R.cls) : rf h (g + 172) 1 (g + 175)) : gR h (g + 172) 1 = (g + 175)), (rf_is (State_2 (Cls_17 R.cls) : rf h (g + 172) 1 (g + 175)) : isR h (g + 172) 1), (State_5 (Cls_17 R.cls) : arR h (g + 175) 5), (rdR_5 (State_5 (Cls_17 R.cls) : arR h (g + 175) 5) : rdR h (g + 175)), (State_6 (Cls_17 R.cls) : aln h (g + 175) = 8), ob_pI, rf_pI, isR_pI, isI_pI, isL_pI, arI_pI, arL_pI, arR_pI, arD_pI, aln_pI, rdI_pI, rdB_pI, rdR_pI, aR_pI, pI_2, gI_pI, gL_pI, gD_pI, gR_pI, aI_pI, aL_pI, aD_pI, ob_pL, rf_pL, isR_pL, isI_pL, isL_pL, arI_pL, arL_pL, arR_pL, arD_pL, aln_pL, rdI_pL, rdB_pL, rdR_pL, aR_pL, pL_2, gI_pL, gL_pL, gD_pL, gR_pL, aI_pL, aL_pL, aD_pL, ob_wI, rf_wI, isR_wI, isI_wI, isL_wI, arI_wI, arL_wI, arR_wI, arD_wI, aln_wI, rdI_wI, rdB_wI, rdR_wI, aR_wI, wI_2, gI_wI, gL_wI, gD_wI, gR_wI, aL_wI, aD_wI, aI_wI_ne, ob_wL, rf_wL, isR_wL, isI_wL, isL_wL, arI_wL, arL_wL, arR_wL, arD_wL, aln_wL, rdI_wL, rdB_wL, rdR_wL, aR_wL, wL_2, gI_wL, gL_wL, gD_wL, gR_wL, aI_wL, aD_wL, aL_wL_ne, ob_bI, rf_bI, isR_bI, isI_bI, isL_bI, arI_bI, arL_bI, arR_bI, arD_bI, aln_bI, rdI_bI, rdB_bI, rdR_bI, aR_bI, bI_2, gI_bI, gL_bI, gD_bI, gR_bI, aL_bI, aD_bI, aI_bI_ne, ob_bL, rf_bL, isR_bL, isI_bL, isL_bL, arI_bL, arL_bL, arR_bL, arD_bL, aln_bL, rdI_bL, rdB_bL, rdR_bL, aR_bL, bL_2, gI_bL, gL_bL, gD_bL, gR_bL, aI_bL, aD_bL, aL_bL_ne, vkk_n, vkk_i, vkk_r, vkk_l, vkk_d, catS_nil, catS_i, catS_r, catS_l, catS_d, Nat.reduceAdd, Nat.reduceLeDiff, Nat.zero_le, Nat.le_refl, Option.bind_some, Option.toList_some, Option.toList_none, List.cons_append, List.nil_append, or_true, true_or, if_true, if_false, Int32.reduceLT, Int32.reduceLE, not_true, not_false_iff, true_and, and_true, false_and, and_false, Nat.add_assoc, Nat.reduceAdd, Nat.add_left_cancel_iff, Nat.reduceEqDiff, Nat.add_eq_left, Nat.left_eq_add]
            exact u1
          have E2 : ev 196 0 [some (.ref (g + 266)), some (.int (nI b)), some (.int i), some (.int (nI t)), some (.int j), some (.int (nI n)), some (.int (nI k)), none, none, none, none] [] h1 = some (some (.int (nI dn)), mRf m1 (g + 266) f) := by
            rw [show nI 0 = (0 : Int32) from rfl] at k1
            simp +decide only [e196_0, e196_1, e196_2, e196_5, e196_6, e196_9, e196_12, e196_13, e196_16, e196_19, e196_21, e196_22, e196_24, e196_27, e196_30, e196_32, e196_35, e196_38, e196_39, e196_40, e196_41, e196_43, e196_44, e196_46, e196_47, om1, j1, j2, j3, j4, vkk_n, vkk_i, vkk_r, vkk_l, vkk_d, catS_nil, catS_i, catS_r, catS_l, catS_d, Nat.reduceAdd, Nat.reduceLeDiff, Nat.zero_le, Nat.le_refl, Option.bind_some, Option.toList_some, Option.toList_none, List.cons_append, List.nil_append, or_true, true_or, if_true, if_false, Int32.reduceLT, Int32.reduceLE, not_true, not_false_iff, true_and, and_true, false_and, and_false]
            refine k1.trans ?_
            simp +decide only [e196_112, e196_113, e196_115, e196_118, e196_118b, e196_119, e196_121, om2, c_m_says, m2, vkk_n, vkk_i, vkk_r, vkk_l, vkk_d, catS_nil, catS_i, catS_r, catS_l, catS_d, Nat.reduceAdd, Nat.reduceLeDiff, Nat.zero_le, Nat.le_refl, Option.bind_some, Option.toList_some, Option.toList_none, List.cons_append, List.nil_append, or_true, true_or, if_true, if_false, Int32.reduceLT, Int32.reduceLE, not_true, not_false_iff, true_and, and_true, false_and, and_false]
          refine ⟨nI dn, h1, mRf m1 (g + 266) f, E1, E2, ?_, (mRf_fr ..).two.trans (k2.two.trans (m0f.two.trans (u2.two.trans F0.two)))⟩
          have mf := mRf_fr m1 (g + 266) f
          have Y := (m0f.un k2).un mf
          have zz := X.un Y
          have ma : MA h1 (mRf m1 (g + 266) f) (g + 266) f := fr_ma (R1 := NR) (F1 := NF) f k2 VM_32 om2
          have cc : ∀ a, ((NR a ∨ (a = g + (177 + 3 * t) + 1 ∨ a = g + (177 + 3 * t) + 2)) ∨ ((NR a ∨ LR g a) ∨ NR a)) → (g + 177 ≤ a ∧ a ≤ g + 200) ∨ (g + 287 ≤ a ∧ a ≤ g + 289) := by
            intro a z
            rcases z with (z | z) | ((z | z) | z)
            · exact z.elim
            · omega
            · exact z.elim
            · unfold LR at z
              omega
            · exact z.elim
          have dd : ∀ a y, ((AC g a y ∨ AC g a y) ∨ ((AM (g + 266) a y ∨ VF (g + 266) a y) ∨ AM (g + 266) a y)) → (a = g ∧ (y = 9 ∨ y = 10)) ∨ (a = g + 266 ∧ (y = 31 ∨ y = 32 ∨ (38 ≤ y ∧ y ≤ 41))) := by
            intro a y z
            unfold AC AM VF at z
            omega
          have rb : RBins (mRf m1 (g + 266) f) g := by
            have a : RBins2 (mRf m1 (g + 266) f) (mRf m1 (g + 266) f) g := RBins2_fr Y mf (fun a z => by rcases z with (z | z) | z; exact z.elim; (unfold LR at z; omega); exact z.elim) (fun a y z => by unfold AM VF at z; omega) (fun _ z => z.elim) k3
            exact a
          refine Inv_now X Y ?_ ?_ ?_ ?_ u3 ma (RHd_fr zz ?_ R.hd) (RMem_fr zz ?_ R.mem) (RReg_fr zz ?_ R.reg) rb R
          · intro a z
            have := cc a (Or.inl z)
            unfold NwR
            rcases z with z | z
            · exact z.elim
            · omega
          · intro a y z
            unfold NwF
            unfold AC at z
            omega
          · intro a z
            unfold NwR
            rcases z with (z | z) | z
            · exact z.elim
            · unfold LR at z
              omega
            · exact z.elim
          · intro a y z
            unfold NwF SF
            unfold AM VF at z
            omega
          · intro a y z
            have := dd a y z
            omega
          · intro a z
            have := cc a z
            omega
          · intro a z
            have := cc a z
            omega
        · have i4 := fun h => isNum_c (h := h) q1
          have j4 := fun h => mNum_c (h := h) q2
          refine ⟨-1, cRf h g 0, mRf (cRf h g 0) (g + 266) 0, ?_, ?_, Inv_bad R, rfl⟩
          · simp +decide only [e117_0, e117_1, e117_2, e117_5, e117_6, e117_9, e117_12, e117_13, e117_16, e117_19, e117_21, e117_24, e117_26, e117_28, e117_31, e117_33, e117_36, e117_39, e117_40, e117_41, e117_42, e117_45, e117_48, e117_49, e117_50, e117_52, e117_53, e117_56, e117_59, e117_60, e117_61, e117_63, e117_64, e117_66, e117_67, e117_69, e117_71, e117_73, e117_76, e117_77, e117_79, e117_80, e117_82, e117_83, e117_85, e117_88, e117_91, e117_94, e117_95, e117_97, e117_99, e117_101, e117_102, e117_104, e117_107, e117_110, e117_113, e117_115, e117_117, e117_119, e117_120, e117_122, e117_124, e117_125, e117_127, e117_128, e117_130, e117_133, e117_136, e117_139, e117_142, e117_145, e117_147, ho, i1, i2, i4, n0, n40, cRf_0, vkk_n, vkk_i, vkk_r, vkk_l, vkk_d, catS_nil, catS_i, catS_r, catS_l, catS_d, Nat.reduceAdd, Nat.reduceLeDiff, Nat.zero_le, Nat.le_refl, Option.bind_some, Option.toList_some, Option.toList_none, List.cons_append, List.nil_append, or_true, true_or, if_true, if_false, Int32.reduceLT, Int32.reduceLE, not_true, not_false_iff, true_and, and_true, false_and, and_false]
          · simp +decide only [e196_0, e196_1, e196_2, e196_5, e196_6, e196_9, e196_12, e196_13, e196_16, e196_19, e196_21, e196_22, e196_24, e196_27, e196_30, e196_32, e196_35, e196_38, e196_39, e196_40, e196_41, e196_43, e196_44, e196_46, e196_47, e196_49, e196_51, e196_53, e196_56, e196_57, e196_58, e196_59, e196_61, e196_62, e196_64, e196_67, e196_69, e196_71, e196_74, e196_75, e196_76, e196_78, e196_80, e196_81, e196_84, e196_86, e196_88, e196_91, e196_94, e196_97, e196_99, e196_102, e196_104, e196_106, e196_109, e196_112, e196_113, e196_115, e196_118, e196_118b, e196_119, e196_121, om0, j1, j2, j3, j4, mRf_0, vkk_n, vkk_i, vkk_r, vkk_l, vkk_d, catS_nil, catS_i, catS_r, catS_l, catS_d, Nat.reduceAdd, Nat.reduceLeDiff, Nat.zero_le, Nat.le_refl, Option.bind_some, Option.toList_some, Option.toList_none, List.cons_append, List.nil_append, or_true, true_or, if_true, if_false, Int32.reduceLT, Int32.reduceLE, not_true, not_false_iff, true_and, and_true, false_and, and_false]
      · have j3 := fun h => mIn_c (h := h) q2
        refine ⟨-1, cRf h g 0, mRf (cRf h g 0) (g + 266) 0, ?_, ?_, Inv_bad R, rfl⟩
        · rcases q1 with p1 | ⟨p0, p1⟩
          · simp +decide only [e117_0, e117_1, e117_2, e117_5, e117_6, e117_9, e117_12, e117_13, e117_16, e117_19, e117_21, e117_24, e117_26, e117_28, e117_31, e117_33, e117_36, e117_39, e117_40, e117_41, e117_42, e117_45, e117_48, e117_49, e117_50, e117_52, e117_53, e117_56, e117_59, e117_60, e117_61, e117_63, e117_64, e117_66, e117_67, e117_69, e117_71, e117_73, e117_76, e117_77, e117_79, e117_80, e117_82, e117_83, e117_85, e117_88, e117_91, e117_94, e117_95, e117_97, e117_99, e117_101, e117_102, e117_104, e117_107, e117_110, e117_113, e117_115, e117_117, e117_119, e117_120, e117_122, e117_124, e117_125, e117_127, e117_128, e117_130, e117_133, e117_136, e117_139, e117_142, e117_145, e117_147, ho, i1, i2, p1, cRf_0, vkk_n, vkk_i, vkk_r, vkk_l, vkk_d, catS_nil, catS_i, catS_r, catS_l, catS_d, Nat.reduceAdd, Nat.reduceLeDiff, Nat.zero_le, Nat.le_refl, Option.bind_some, Option.toList_some, Option.toList_none, List.cons_append, List.nil_append, or_true, true_or, if_true, if_false, Int32.reduceLT, Int32.reduceLE, not_true, not_false_iff, true_and, and_true, false_and, and_false]
          · simp +decide only [e117_0, e117_1, e117_2, e117_5, e117_6, e117_9, e117_12, e117_13, e117_16, e117_19, e117_21, e117_24, e117_26, e117_28, e117_31, e117_33, e117_36, e117_39, e117_40, e117_41, e117_42, e117_45, e117_48, e117_49, e117_50, e117_52, e117_53, e117_56, e117_59, e117_60, e117_61, e117_63, e117_64, e117_66, e117_67, e117_69, e117_71, e117_73, e117_76, e117_77, e117_79, e117_80, e117_82, e117_83, e117_85, e117_88, e117_91, e117_94, e117_95, e117_97, e117_99, e117_101, e117_102, e117_104, e117_107, e117_110, e117_113, e117_115, e117_117, e117_119, e117_120, e117_122, e117_124, e117_125, e117_127, e117_128, e117_130, e117_133, e117_136, e117_139, e117_142, e117_145, e117_147, ho, i1, i2, p0, p1, cRf_0, vkk_n, vkk_i, vkk_r, vkk_l, vkk_d, catS_nil, catS_i, catS_r, catS_l, catS_d, Nat.reduceAdd, Nat.reduceLeDiff, Nat.zero_le, Nat.le_refl, Option.bind_some, Option.toList_some, Option.toList_none, List.cons_append, List.nil_append, or_true, true_or, if_true, if_false, Int32.reduceLT, Int32.reduceLE, not_true, not_false_iff, true_and, and_true, false_and, and_false]
        · simp +decide only [e196_0, e196_1, e196_2, e196_5, e196_6, e196_9, e196_12, e196_13, e196_16, e196_19, e196_21, e196_22, e196_24, e196_27, e196_30, e196_32, e196_35, e196_38, e196_39, e196_40, e196_41, e196_43, e196_44, e196_46, e196_47, e196_49, e196_51, e196_53, e196_56, e196_57, e196_58, e196_59, e196_61, e196_62, e196_64, e196_67, e196_69, e196_71, e196_74, e196_75, e196_76, e196_78, e196_80, e196_81, e196_84, e196_86, e196_88, e196_91, e196_94, e196_97, e196_99, e196_102, e196_104, e196_106, e196_109, e196_112, e196_113, e196_115, e196_118, e196_118b, e196_119, e196_121, om0, j1, j2, j3, mRf_0, vkk_n, vkk_i, vkk_r, vkk_l, vkk_d, catS_nil, catS_i, catS_r, catS_l, catS_d, Nat.reduceAdd, Nat.reduceLeDiff, Nat.zero_le, Nat.le_refl, Option.bind_some, Option.toList_some, Option.toList_none, List.cons_append, List.nil_append, or_true, true_or, if_true, if_false, Int32.reduceLT, Int32.reduceLE, not_true, not_false_iff, true_and, and_true, false_and, and_false]
    · have i2 := fun h => isBin_c (h := h) q1
      have j2 := fun h => mBin_c (h := h) q2
      refine ⟨-1, cRf h g 0, mRf (cRf h g 0) (g + 266) 0, ?_, ?_, Inv_bad R, rfl⟩
      · simp +decide only [e117_0, e117_1, e117_2, e117_5, e117_6, e117_9, e117_12, e117_13, e117_16, e117_19, e117_21, e117_24, e117_26, e117_28, e117_31, e117_33, e117_36, e117_39, e117_40, e117_41, e117_42, e117_45, e117_48, e117_49, e117_50, e117_52, e117_53, e117_56, e117_59, e117_60, e117_61, e117_63, e117_64, e117_66, e117_67, e117_69, e117_71, e117_73, e117_76, e117_77, e117_79, e117_80, e117_82, e117_83, e117_85, e117_88, e117_91, e117_94, e117_95, e117_97, e117_99, e117_101, e117_102, e117_104, e117_107, e117_110, e117_113, e117_115, e117_117, e117_119, e117_120, e117_122, e117_124, e117_125, e117_127, e117_128, e117_130, e117_133, e117_136, e117_139, e117_142, e117_145, e117_147, ho, i1, i2, cRf_0, vkk_n, vkk_i, vkk_r, vkk_l, vkk_d, catS_nil, catS_i, catS_r, catS_l, catS_d, Nat.reduceAdd, Nat.reduceLeDiff, Nat.zero_le, Nat.le_refl, Option.bind_some, Option.toList_some, Option.toList_none, List.cons_append, List.nil_append, or_true, true_or, if_true, if_false, Int32.reduceLT, Int32.reduceLE, not_true, not_false_iff, true_and, and_true, false_and, and_false]
      · simp +decide only [e196_0, e196_1, e196_2, e196_5, e196_6, e196_9, e196_12, e196_13, e196_16, e196_19, e196_21, e196_22, e196_24, e196_27, e196_30, e196_32, e196_35, e196_38, e196_39, e196_40, e196_41, e196_43, e196_44, e196_46, e196_47, e196_49, e196_51, e196_53, e196_56, e196_57, e196_58, e196_59, e196_61, e196_62, e196_64, e196_67, e196_69, e196_71, e196_74, e196_75, e196_76, e196_78, e196_80, e196_81, e196_84, e196_86, e196_88, e196_91, e196_94, e196_97, e196_99, e196_102, e196_104, e196_106, e196_109, e196_112, e196_113, e196_115, e196_118, e196_118b, e196_119, e196_121, om0, j1, j2, mRf_0, vkk_n, vkk_i, vkk_r, vkk_l, vkk_d, catS_nil, catS_i, catS_r, catS_l, catS_d, Nat.reduceAdd, Nat.reduceLeDiff, Nat.zero_le, Nat.le_refl, Option.bind_some, Option.toList_some, Option.toList_none, List.cons_append, List.nil_append, or_true, true_or, if_true, if_false, Int32.reduceLT, Int32.reduceLE, not_true, not_false_iff, true_and, and_true, false_and, and_false]
  · have i1 := fun h => isBin_c (h := h) q1
    have j1 := fun h => mBin_c (h := h) q2
    refine ⟨-1, cRf h g 0, mRf (cRf h g 0) (g + 266) 0, ?_, ?_, Inv_bad R, rfl⟩
    · simp +decide only [e117_0, e117_1, e117_2, e117_5, e117_6, e117_9, e117_12, e117_13, e117_16, e117_19, e117_21, e117_24, e117_26, e117_28, e117_31, e117_33, e117_36, e117_39, e117_40, e117_41, e117_42, e117_45, e117_48, e117_49, e117_50, e117_52, e117_53, e117_56, e117_59, e117_60, e117_61, e117_63, e117_64, e117_66, e117_67, e117_69, e117_71, e117_73, e117_76, e117_77, e117_79, e117_80, e117_82, e117_83, e117_85, e117_88, e117_91, e117_94, e117_95, e117_97, e117_99, e117_101, e117_102, e117_104, e117_107, e117_110, e117_113, e117_115, e117_117, e117_119, e117_120, e117_122, e117_124, e117_125, e117_127, e117_128, e117_130, e117_133, e117_136, e117_139, e117_142, e117_145, e117_147, ho, i1, cRf_0, vkk_n, vkk_i, vkk_r, vkk_l, vkk_d, catS_nil, catS_i, catS_r, catS_l, catS_d, Nat.reduceAdd, Nat.reduceLeDiff, Nat.zero_le, Nat.le_refl, Option.bind_some, Option.toList_some, Option.toList_none, List.cons_append, List.nil_append, or_true, true_or, if_true, if_false, Int32.reduceLT, Int32.reduceLE, not_true, not_false_iff, true_and, and_true, false_and, and_false]
    · simp +decide only [e196_0, e196_1, e196_2, e196_5, e196_6, e196_9, e196_12, e196_13, e196_16, e196_19, e196_21, e196_22, e196_24, e196_27, e196_30, e196_32, e196_35, e196_38, e196_39, e196_40, e196_41, e196_43, e196_44, e196_46, e196_47, e196_49, e196_51, e196_53, e196_56, e196_57, e196_58, e196_59, e196_61, e196_62, e196_64, e196_67, e196_69, e196_71, e196_74, e196_75, e196_76, e196_78, e196_80, e196_81, e196_84, e196_86, e196_88, e196_91, e196_94, e196_97, e196_99, e196_102, e196_104, e196_106, e196_109, e196_112, e196_113, e196_115, e196_118, e196_118b, e196_119, e196_121, om0, j1, mRf_0, vkk_n, vkk_i, vkk_r, vkk_l, vkk_d, catS_nil, catS_i, catS_r, catS_l, catS_d, Nat.reduceAdd, Nat.reduceLeDiff, Nat.zero_le, Nat.le_refl, Option.bind_some, Option.toList_some, Option.toList_none, List.cons_append, List.nil_append, or_true, true_or, if_true, if_false, Int32.reduceLT, Int32.reduceLE, not_true, not_false_iff, true_and, and_true, false_and, and_false]
