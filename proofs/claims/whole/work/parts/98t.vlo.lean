/-! the law, whole -/
theorem law_ini {h ha hc hd hm : VG} {g b : Nat} (n0 : h.2.1 = g) (n1 : hnew h (.inr (10, vDef 10)) (vNsl 10) = ha) (k1 : ev 92 0 [some (.ref g)] [] ha = some (none, hc)) (n2 : hc.2.1 = g + 266) (n3 : hnew hc (.inr (11, vDef 11)) (vNsl 11) = hd) (k2 : ev 136 0 [some (.ref (g + 266)), none] [] hd = some (none, hm)) : ev 234 0 [some (.ref b), none, none, none] [] h = ev 234 18 [some (.ref b), some (.ref g), some (.ref (g + 266)), some (.int (nI 0))] [] hm := by
  generalize hZ : ev 234 18 [some (.ref b), some (.ref g), some (.ref (g + 266)), some (.int (nI 0))] [] hm = Z
  have hZ : ev 234 18 [some (.ref b), some (.ref g), some (.ref (g + 266)), some (.int 0)] [] hm = Z := hZ
  simp +decide only [e234_0, e234_3b, e234_3, e234_4, e234_7, e234_8, e234_11b, e234_11, e234_12, e234_15, e234_16, e234_17, n0, n1, k1, n2, n3, k2, hZ, vkk_n, vkk_i, vkk_r, vkk_l, vkk_d, catS_nil, catS_i, catS_r, catS_l, catS_d, Nat.reduceAdd, Nat.reduceLeDiff, Nat.zero_le, Nat.le_refl, Option.bind_some, Option.toList_some, Option.toList_none, List.cons_append, List.nil_append, or_true, true_or, if_true, if_false, Int32.reduceLT, Int32.reduceLE, not_true, not_false_iff, true_and, and_true, false_and, and_false]
theorem vs_new (h : VG) (c : VE) (n g : Nat) (hg : h.2.1 = g) : hnew h c n = hbk h g [c] n := by rw [hbk_first, hg]
set_option maxRecDepth 40000 in
theorem law_made {h : VG} {b L q w : Nat} {xs : Nat → Int32} (hb : b < h.2.1) (hx : h.1 b = .inl (20, L, .inl xs)) (S : STR h q w) (hw : w < h.2.1) (hst : St h h.2.1) (hz : h.2.2.1 = 0) : ∃ hm, ev 234 0 [some (.ref b), none, none, none] [] h = ev 234 18 [some (.ref b), some (.ref h.2.1), some (.ref (h.2.1 + 266)), some (.int (nI 0))] [] hm ∧ Inv hm h.2.1 ∧ hm.2.1 = h.2.1 + 308 ∧ hm.2.2.1 = 22901 ∧ SC hm b L xs := by
  generalize hg : h.2.1 = g at *
  have n1 := vs_new h (.inr (10, vDef 10)) (vNsl 10) g hg
  have S1 := STR_hbk (l := [.inr (10, vDef 10)]) (s := vNsl 10) S hw
  have k1 := ini_cls (hbk h g [.inr (10, vDef 10)] (vNsl 10)) g q w S1 hw rfl (hbk_get (i := 0) rfl)
  rw [clsC_O] at k1
  generalize hha : hbk h g [.inr (10, vDef 10)] (vNsl 10) = ha at n1 k1
  generalize hhb : hbk ha g (clsO g) 7558 = hb1 at k1
  generalize hhc : hbk hb1 (g + 201) (clsL (g + 201)) (2 + 951 + 951 + 2 + 32 + 6 + 16 + 256) = hc at k1
  have n2 : hc.2.1 = g + 266 := by rw [← hhc, hbk_n]; rfl
  have n3 := vs_new hc (.inr (11, vDef 11)) (vNsl 11) (g + 266) n2
  obtain ⟨f, f1, k2⟩ := ini_mod (hbk hc (g + 266) [.inr (11, vDef 11)] (vNsl 11)) (g + 266) rfl (hbk_get (i := 0) rfl)
  generalize hhd : hbk hc (g + 266) [.inr (11, vDef 11)] (vNsl 11) = hd at n3 k2
  generalize hhm : hbk hd (g + 266) (.inr (11, modF (g + 266)) :: modK f) 13046 = hm at k2
  have B1 : Blk hb1 g (clsO g) := by rw [← hhb]; exact fun i c e => hbk_get e
  have lB : (clsO g).length = 201 := rfl
  have B2 : Blk hc g (clsO g) := by rw [← hhc]; exact B1.lo (by rw [lB]; omega)
  have B3 : Blk hd g (clsO g) := by rw [← hhd]; exact B2.lo (by rw [lB]; omega)
  have B4 : Blk hm g (clsO g) := by rw [← hhm]; exact B3.lo (by rw [lB]; omega)
  have C1 : Blk hc (g + 201) (clsL (g + 201)) := by rw [← hhc]; exact fun i c e => hbk_get e
  have lC : (clsL (g + 201)).length = 65 := rfl
  have C2 : Blk hd (g + 201) (clsL (g + 201)) := by rw [← hhd]; exact C1.lo (by rw [lC]; omega)
  have C3 : Blk hm (g + 201) (clsL (g + 201)) := by rw [← hhm]; exact C2.lo (by rw [lC]; omega)
  have M1 : Blk hm (g + 266) (.inr (11, modF (g + 266)) :: modK f) := by rw [← hhm]; exact fun i c e => hbk_get e
  have low : ∀ x, x < g → hm.1 x = h.1 x := fun x hx => by
    rw [← hhm, hbk_lt (by omega), ← hhd, hbk_lt (by omega), ← hhc, hbk_lt (by omega), ← hhb, hbk_lt hx, ← hha, hbk_lt hx]
  have sts : hm.2.2.2 = h.2.2.2 := by rw [← hhm, hbk_st, ← hhd, hbk_st, ← hhc, hbk_st, ← hhb, hbk_st, ← hha, hbk_st]
  have hs : St hm g := by
    obtain ⟨sa, wa, a1, a2, a3, a4, a5, a6, a7, a8, a9, a10⟩ := hst
    refine ⟨sa, wa, by rw [sts]; exact a1, by rw [sts]; exact a2, a3, a4, ?_, ?_, ?_, ?_, fun j hj => ?_, fun j hj => ?_⟩
    · unfold rdI arI at a5 ⊢
      rw [low _ a3]
      exact a5
    · unfold rdI arI at a6 ⊢
      rw [low _ a4]
      exact a6
    · unfold aln at a7 ⊢
      rw [low _ a3]
      exact a7
    · unfold aln at a8 ⊢
      rw [low _ a4]
      exact a8
    · rw [← a9 j hj]
      unfold aI
      rw [low _ a3]
    · rw [← a10 j hj]
      unfold aI
      rw [low _ a4]
  have e1 : hm.2.1 = g + 308 := by rw [← hhm, hbk_n]; rfl
  have v10 : vNsl 10 = 14 := by decide +kernel
  have v11 : vNsl 11 = 67 := by decide +kernel
  have e2 : hm.2.2.1 = 22901 := by
    rw [← hhm]
    show hd.2.2.1 + 13046 = _
    rw [← hhd]
    show hc.2.2.1 + vNsl 11 + 13046 = _
    rw [← hhc]
    show hb1.2.2.1 + (2 + 951 + 951 + 2 + 32 + 6 + 16 + 256) + vNsl 11 + 13046 = _
    rw [← hhb]
    show ha.2.2.1 + 7558 + (2 + 951 + 951 + 2 + 32 + 6 + 16 + 256) + vNsl 11 + 13046 = _
    rw [← hha]
    show h.2.2.1 + vNsl 10 + 7558 + (2 + 951 + 951 + 2 + 32 + 6 + 16 + 256) + vNsl 11 + 13046 = _
    rw [hz, v10, v11]
  exact ⟨hm, law_ini hg n1 k1 n2 n3 k2, ini_Inv B4 C3 M1 f1 hs, e1, e2, by rw [e1]; omega, by rw [low b hb]; exact hx⟩
theorem vlw : vLaw = 234 := by decide +kernel
theorem ven (b : Nat) : vEnt [.ref b] 4 = [some (.ref b), none, none, none] := rfl
theorem vlaw_ok : vLawOk := by
  intro h b L xs hS
  obtain ⟨hL, hb, hx, ⟨sa, fs, a1, a2, a3, a4⟩, ⟨wa, fw, b1, b2, b3, b4⟩, c1, c2, ⟨q, w, fc, d1, d2, d3, d4, d5⟩, hz⟩ := hS
  have S : STR h q w := ⟨d1, d2, ⟨fc, d4, d5⟩, c1, c2⟩
  have hst : St h h.2.1 := by
    refine ⟨sa, wa, a1, b1, a2, b2, Or.inr ⟨_, _, a3⟩, Or.inr ⟨_, _, b3⟩, ?_, ?_, fun j hj => ?_, fun j hj => ?_⟩
    · unfold aln
      rw [a3]
    · unfold aln
      rw [b3]
    · unfold aI
      rw [a3]
      exact a4 j hj
    · unfold aI
      rw [b3]
      exact b4 j hj
  obtain ⟨hm, m1, m2, m3, m4, m5⟩ := law_made hb hx S d3 hst hz
  obtain ⟨h2, r1, r2⟩ := l_law h.2.1 b L xs hL L 0 hm (by omega) (Nat.zero_le _) m2 (by rw [m3]; exact Nat.le_refl _) m5
  rw [← m1] at r1
  obtain ⟨n, hn⟩ := ev_some.mp r1
  refine ⟨n, h2, ?_, ?_, ?_⟩
  · rw [vlw, ven]
    exact hn
  · rw [r2, m3]
    omega
  · rw [r2, m4]
    omega

