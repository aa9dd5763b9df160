/-! objects made: shapes out of blocks of cells -/
def Blk (h : VG) (b : Nat) (l : List VE) : Prop := ∀ i c, l[i]? = some c → h.1 (b + i) = c
theorem Blk.hb (h : VG) (a : Nat) (l : List VE) (s : Nat) : Blk (hbk h a l s) a l := fun i c e => hbk_get e
theorem Blk.lo {h : VG} {a b : Nat} {l m : List VE} {s : Nat} (B : Blk h b m) (hm : b + m.length ≤ a) : Blk (hbk h a l s) b m := fun i c e => by
  have := (List.getElem?_eq_some_iff.mp e).1
  rw [hbk_lt (by omega)]
  exact B i c e
theorem Blk.l {h : VG} {b : Nat} {l m : List VE} (B : Blk h b (l ++ m)) : Blk h b l := fun i c e => B i c (by rw [List.getElem?_append_left (List.getElem?_eq_some_iff.mp e).1]; exact e)
theorem Blk.r {h : VG} {b : Nat} {l m : List VE} (B : Blk h b (l ++ m)) (n : Nat) (hn : l.length = n) : Blk h (b + n) m := fun i c e => by
  have := B (n + i) c (by rw [List.getElem?_append_right (by omega), hn, Nat.add_sub_cancel_left]; exact e)
  rw [Nat.add_assoc]
  exact this
theorem Blk.t {h : VG} {b : Nat} {x : VE} {l : List VE} (B : Blk h b (x :: l)) : Blk h (b + 1) l := fun i c e => by
  have := B (i + 1) c (by rw [List.getElem?_cons_succ]; exact e)
  rw [Nat.add_assoc, Nat.add_comm 1 i]
  exact this
theorem Blk.bs {h : VG} {G : Nat → List VE} {a off sz : Nat} (hG : ∀ x, (G x).length = sz) : ∀ f, Blk h (a + off) (blks G a off sz f) → ∀ i, i < f → Blk h (a + (off + sz * i)) (G (a + (off + sz * i))) := by
  intro f
  induction f with
  | zero => intro _ i hi; omega
  | succ f ih =>
    intro B i hi
    have B : Blk h (a + off) (blks G a off sz f ++ G (a + (off + sz * f))) := B
    by_cases y : i = f
    · subst y
      have := B.r (sz * i) (blks_n G a off sz hG i)
      rw [Nat.add_assoc] at this
      exact this
    · exact ih B.l i (by omega)
theorem ob_c {h : VG} {x c : Nat} {fs : List Value} (e : h.1 x = .inr (c, fs)) (t : fs.map vtag = vShape c) : ob h x c := ⟨fs, e, t⟩
theorem gV_c {h : VG} {x c k : Nat} {fs : List Value} {v : Value} (e : h.1 x = .inr (c, fs)) (q : fs.getD k .null = v) : gV h x k = v := by
  unfold gV
  rw [e]
  exact q
theorem rf_c {h : VG} {x c k t : Nat} {fs : List Value} (e : h.1 x = .inr (c, fs)) (q : fs.getD k .null = .ref t) : rf h x k t := gV_c e q
theorem gI_c {h : VG} {x c k : Nat} {fs : List Value} {v : Int32} (e : h.1 x = .inr (c, fs)) (q : fs.getD k .null = .int v) : gI h x k = v := by
  unfold gI
  rw [gV_c e q]
theorem arI_c {h : VG} {x t n : Nat} {f : Nat → Int32} (e : h.1 x = .inl (t, n, .inl f)) : arI h x t := ⟨n, f, e⟩
theorem arL_c {h : VG} {x n : Nat} {f : Nat → Int64} (e : h.1 x = .inl (1, n, .inr (.inl f))) : arL h x := ⟨n, f, e⟩
theorem aln_c {h : VG} {x : Nat} {r} (e : h.1 x = .inl r) : aln h x = r.2.1 := by
  unfold aln
  rw [e]
theorem aI_c {h : VG} {x t n : Nat} {f : Nat → Int32} (e : h.1 x = .inl (t, n, .inl f)) (i : Nat) : aI h x i = f i := by
  unfold aI
  rw [e]
theorem aL_c {h : VG} {x n : Nat} {f : Nat → Int64} (e : h.1 x = .inl (1, n, .inr (.inl f))) (i : Nat) : aL h x i = f i := by
  unfold aL
  rw [e]
theorem aR_c {h : VG} {x t n : Nat} {f : Nat → Option Nat} (e : h.1 x = .inl (t, n, .inr (.inr (.inr (.inr f))))) (i : Nat) : aR h x i = f i := by
  unfold aR
  rw [e]

set_option maxRecDepth 40000 in
set_option maxHeartbeats 4000000 in
theorem shBin {h : VG} {a : Nat} (B : Blk h a (binB a)) : ShBin h a := by
  exact ⟨ob_c (B 0 _ rfl) rfl, rf_c (B 0 _ rfl) rfl, rf_c (B 0 _ rfl) rfl, arI_c (B 1 _ rfl), aln_c (B 1 _ rfl), arL_c (B 2 _ rfl), aln_c (B 2 _ rfl)⟩
theorem shMem {h : VG} {a : Nat} (B : Blk h a [.inr (5, [.ref (a + 1), .int 256, .int 0]), .inl (2, 256, .inl fun _ => 0)]) : ShMem h a := ⟨ob_c (B 0 _ rfl) rfl, rf_c (B 0 _ rfl) rfl, arI_c (B 1 _ rfl), aln_c (B 1 _ rfl)⟩
set_option maxRecDepth 40000 in
set_option maxHeartbeats 4000000 in
theorem shState {h : VG} {a : Nat} (B : Blk h a (statL a 8)) : ShState h a := by
  have Bm : ShMem h (a + 1) := shMem (Blk.l (l := [_, _]) (m := .inl (5, 8, .inr (.inr (.inr (.inr (rowf a 5 3 8))))) :: .inl (1, 8, .inr (.inl fun _ => 0)) :: blks binB a 5 3 8) (Blk.t (show Blk h a (_ :: ([_, _] ++ _)) from B)))
  have r1 : ∀ b, b < 8 → aR h (a + 3) b = some (a + 5 + 3 * b) := fun b hb => by
    rw [aR_c (B 3 _ rfl)]
    unfold rowf
    rw [if_pos hb, Nat.add_assoc]
  have B5 : Blk h (a + 5) (blks binB a 5 3 8) := Blk.r B 5 rfl
  have r2 : ∀ b, b < 8 → ShBin h (a + 5 + 3 * b) := fun b hb => by
    rw [Nat.add_assoc]
    exact shBin (Blk.bs (G := binB) (sz := 3) (fun _ => rfl) 8 B5 b hb)
  exact ⟨ob_c (B 0 _ rfl) rfl, rf_c (B 0 _ rfl) rfl, rf_c (B 0 _ rfl) rfl, rf_c (B 0 _ rfl) rfl, Bm, ⟨_, _, B 3 _ rfl⟩, aln_c (B 3 _ rfl), r1, arL_c (B 4 _ rfl), aln_c (B 4 _ rfl), r2⟩
set_option maxRecDepth 40000 in
set_option maxHeartbeats 4000000 in
theorem shForm {h : VG} {a : Nat} (B : Blk h a (formB a)) : ShForm h a := by
  exact ⟨ob_c (B 0 _ rfl) rfl, rf_c (B 0 _ rfl) rfl, rf_c (B 0 _ rfl) rfl, rf_c (B 0 _ rfl) rfl, rf_c (B 0 _ rfl) rfl, rf_c (B 0 _ rfl) rfl, rf_c (B 0 _ rfl) rfl, rf_c (B 0 _ rfl) rfl, arI_c (B 1 _ rfl), aln_c (B 1 _ rfl), arI_c (B 2 _ rfl), aln_c (B 2 _ rfl), arI_c (B 3 _ rfl), aln_c (B 3 _ rfl), arI_c (B 4 _ rfl), aln_c (B 4 _ rfl), ob_c (B 5 _ rfl) rfl, rf_c (B 5 _ rfl) rfl, arI_c (B 6 _ rfl), aln_c (B 6 _ rfl), ob_c (B 7 _ rfl) rfl, rf_c (B 7 _ rfl) rfl, arI_c (B 8 _ rfl), aln_c (B 8 _ rfl), ob_c (B 9 _ rfl) rfl, rf_c (B 9 _ rfl) rfl, rf_c (B 9 _ rfl) rfl, rf_c (B 9 _ rfl) rfl, arI_c (B 10 _ rfl), aln_c (B 10 _ rfl), arI_c (B 11 _ rfl), aln_c (B 11 _ rfl), arI_c (B 12 _ rfl), aln_c (B 12 _ rfl)⟩
set_option maxRecDepth 40000 in
set_option maxHeartbeats 4000000 in
theorem shPlan {h : VG} {a : Nat} (B : Blk h a (planL a 6)) : ShPlan h a := by
  have Bm : ShMem h (a + 1) := shMem (Blk.l (l := [_, _]) (m := .inl (6, 6, .inr (.inr (.inr (.inr (rowf a 4 13 6))))) :: blks formB a 4 13 6) (Blk.t (show Blk h a (_ :: ([_, _] ++ _)) from B)))
  have r1 : ∀ f, f < 6 → aR h (a + 3) f = some (a + 4 + 13 * f) := fun f hf => by
    rw [aR_c (B 3 _ rfl)]
    unfold rowf
    rw [if_pos hf, Nat.add_assoc]
  have B4 : Blk h (a + 4) (blks formB a 4 13 6) := Blk.r B 4 rfl
  have r2 : ∀ f, f < 6 → ShForm h (a + 4 + 13 * f) := fun f hf => by
    rw [Nat.add_assoc]
    exact shForm (Blk.bs (G := formB) (sz := 13) (fun _ => rfl) 6 B4 f hf)
  exact ⟨ob_c (B 0 _ rfl) rfl, rf_c (B 0 _ rfl) rfl, rf_c (B 0 _ rfl) rfl, Bm, ⟨_, _, B 3 _ rfl⟩, aln_c (B 3 _ rfl), r1, r2⟩
set_option maxRecDepth 40000 in
set_option maxHeartbeats 4000000 in
theorem shTok {h : VG} {a : Nat} (B : Blk h a (tokB a)) : ShTok h a := by
  exact ⟨ob_c (B 0 _ rfl) rfl, rf_c (B 0 _ rfl) rfl, rf_c (B 0 _ rfl) rfl, rf_c (B 0 _ rfl) rfl, rf_c (B 0 _ rfl) rfl, arI_c (B 1 _ rfl), aln_c (B 1 _ rfl), arI_c (B 2 _ rfl), aln_c (B 2 _ rfl), arL_c (B 3 _ rfl), aln_c (B 3 _ rfl), arL_c (B 4 _ rfl), aln_c (B 4 _ rfl)⟩
def clsO (a : Nat) : List VE := .inr (10, [.ref (a + 1), .int 0, .ref (a + 2), .ref (a + 8), .ref (a + 90), .int (-1), .ref (a + 172), .ref (a + 201), .ref (a + 260), .int 0, .int 0, .ref (a + 261), .ref (a + 262), .ref (a + 265)]) :: .inl (2, 2000, .inl fun _ => 0) :: (((rdrB (a + 2) ++ planL (a + 8) 6) ++ planL (a + 90) 6) ++ statL (a + 172) 8)
set_option maxRecDepth 40000 in
theorem clsC_O (h : VG) (a s : Nat) : clsC (hbk h a (clsA a) s) a (a + 201) = hbk h a (clsO a) s := by
  unfold clsC clsA
  rw [hbk_pR, hbk_pR, hbk_pR, hbk_pR, hbk_pR]
  rfl
set_option maxRecDepth 40000 in
theorem clsO_b {h : VG} {g : Nat} (B : Blk h g (clsO g)) : Blk h (g + 3) (tokB (g + 3)) ∧ Blk h (g + 8) (planL (g + 8) 6) ∧ Blk h (g + 90) (planL (g + 90) 6) ∧ Blk h (g + 172) (statL (g + 172) 8) := by
  have B2 : Blk h (g + 2) (((rdrB (g + 2) ++ planL (g + 8) 6) ++ planL (g + 90) 6) ++ statL (g + 172) 8) := B.t.t
  exact ⟨B2.l.l.l.t, B2.l.l.r 6 rfl, B2.l.r 88 rfl, B2.r 170 rfl⟩
set_option maxRecDepth 40000 in
theorem clsL_b {h : VG} {g : Nat} (C : Blk h (g + 201) (clsL (g + 201))) : Blk h (g + 202) (statL (g + 202) 8) ∧ Blk h (g + 231) (statL (g + 231) 8) := by
  have B4 : Blk h (g + 202) (statL (g + 202) 8 ++ statL (g + 231) 8 ++ [.inl (3, 2, .inl fun _ => 0)] ++ [.inl (1, 32, .inr (.inl fun _ => 0))] ++ bufB (g + 201 + 61) ++ [.inl (2, 256, .inl fun _ => 0)]) := C.t
  exact ⟨B4.l.l.l.l.l, B4.l.l.l.l.r 29 rfl⟩
set_option maxRecDepth 40000 in
set_option maxHeartbeats 4000000 in
theorem shCls {h : VG} {g : Nat} (B : Blk h g (clsO g)) (C : Blk h (g + 201) (clsL (g + 201))) : ShCls h g := by
  obtain ⟨B0, B1, B2, B3⟩ := clsO_b B
  obtain ⟨C1, C2⟩ := clsL_b C
  exact ⟨ob_c (B 0 _ rfl) rfl, rf_c (B 0 _ rfl) rfl, rf_c (B 0 _ rfl) rfl, rf_c (B 0 _ rfl) rfl, rf_c (B 0 _ rfl) rfl, rf_c (B 0 _ rfl) rfl, rf_c (B 0 _ rfl) rfl, rf_c (B 0 _ rfl) rfl, rf_c (B 0 _ rfl) rfl, arI_c (B 1 _ rfl), aln_c (B 1 _ rfl), ob_c (B 2 _ rfl) rfl, rf_c (B 2 _ rfl) rfl, shTok B0, shPlan B1, shPlan B2, Or.inl ⟨rf_c (B 0 _ rfl) rfl, rf_c (B 0 _ rfl) rfl⟩, shState B3, ⟨_, _, C 0 _ rfl⟩, aln_c (C 0 _ rfl), aR_c (C 0 _ rfl) 0, aR_c (C 0 _ rfl) 1, shState C1, shState C2, arI_c (C 59 _ rfl), aln_c (C 59 _ rfl), arL_c (C 60 _ rfl), aln_c (C 60 _ rfl), ob_c (C 61 _ rfl) rfl, rf_c (C 61 _ rfl) rfl, rf_c (C 61 _ rfl) rfl, arI_c (C 62 _ rfl), aln_c (C 62 _ rfl), arI_c (C 63 _ rfl), aln_c (C 63 _ rfl), arI_c (C 64 _ rfl), aln_c (C 64 _ rfl)⟩
set_option maxRecDepth 40000 in
set_option maxHeartbeats 4000000 in
theorem shMod {h : VG} {m : Nat} {f : Nat → Int32} (B : Blk h m (.inr (11, modF m) :: modK f)) : ShMod h m := by
  exact ⟨ob_c (B 0 _ rfl) rfl, rf_c (B 0 _ rfl) rfl, arI_c (B 1 _ rfl), aln_c (B 1 _ rfl), rf_c (B 0 _ rfl) rfl, arI_c (B 2 _ rfl), aln_c (B 2 _ rfl), rf_c (B 0 _ rfl) rfl, arI_c (B 3 _ rfl), aln_c (B 3 _ rfl), rf_c (B 0 _ rfl) rfl, arI_c (B 4 _ rfl), aln_c (B 4 _ rfl), rf_c (B 0 _ rfl) rfl, arI_c (B 5 _ rfl), aln_c (B 5 _ rfl), rf_c (B 0 _ rfl) rfl, arL_c (B 6 _ rfl), aln_c (B 6 _ rfl), rf_c (B 0 _ rfl) rfl, arL_c (B 7 _ rfl), aln_c (B 7 _ rfl), rf_c (B 0 _ rfl) rfl, arI_c (B 8 _ rfl), aln_c (B 8 _ rfl), rf_c (B 0 _ rfl) rfl, arI_c (B 9 _ rfl), aln_c (B 9 _ rfl), rf_c (B 0 _ rfl) rfl, arI_c (B 10 _ rfl), aln_c (B 10 _ rfl), rf_c (B 0 _ rfl) rfl, arI_c (B 11 _ rfl), aln_c (B 11 _ rfl), rf_c (B 0 _ rfl) rfl, arI_c (B 12 _ rfl), aln_c (B 12 _ rfl), rf_c (B 0 _ rfl) rfl, arI_c (B 13 _ rfl), aln_c (B 13 _ rfl), rf_c (B 0 _ rfl) rfl, arI_c (B 14 _ rfl), aln_c (B 14 _ rfl), rf_c (B 0 _ rfl) rfl, arI_c (B 15 _ rfl), aln_c (B 15 _ rfl), rf_c (B 0 _ rfl) rfl, arI_c (B 16 _ rfl), aln_c (B 16 _ rfl), rf_c (B 0 _ rfl) rfl, arI_c (B 17 _ rfl), aln_c (B 17 _ rfl), rf_c (B 0 _ rfl) rfl, arI_c (B 18 _ rfl), aln_c (B 18 _ rfl), rf_c (B 0 _ rfl) rfl, arI_c (B 19 _ rfl), aln_c (B 19 _ rfl), rf_c (B 0 _ rfl) rfl, arI_c (B 20 _ rfl), aln_c (B 20 _ rfl), rf_c (B 0 _ rfl) rfl, arI_c (B 21 _ rfl), aln_c (B 21 _ rfl), rf_c (B 0 _ rfl) rfl, arL_c (B 22 _ rfl), aln_c (B 22 _ rfl), rf_c (B 0 _ rfl) rfl, ⟨_, _, B 23 _ rfl⟩, aln_c (B 23 _ rfl), rf_c (B 0 _ rfl) rfl, arI_c (B 24 _ rfl), aln_c (B 24 _ rfl), rf_c (B 0 _ rfl) rfl, arL_c (B 25 _ rfl), aln_c (B 25 _ rfl), rf_c (B 0 _ rfl) rfl, ⟨_, _, B 26 _ rfl⟩, aln_c (B 26 _ rfl), rf_c (B 0 _ rfl) rfl, arI_c (B 27 _ rfl), aln_c (B 27 _ rfl), rf_c (B 0 _ rfl) rfl, arI_c (B 28 _ rfl), aln_c (B 28 _ rfl), rf_c (B 0 _ rfl) rfl, arI_c (B 29 _ rfl), aln_c (B 29 _ rfl), rf_c (B 0 _ rfl) rfl, arI_c (B 30 _ rfl), aln_c (B 30 _ rfl), rf_c (B 0 _ rfl) rfl, arI_c (B 31 _ rfl), aln_c (B 31 _ rfl), rf_c (B 0 _ rfl) rfl, arL_c (B 32 _ rfl), aln_c (B 32 _ rfl), rf_c (B 0 _ rfl) rfl, arI_c (B 33 _ rfl), aln_c (B 33 _ rfl), rf_c (B 0 _ rfl) rfl, arI_c (B 34 _ rfl), aln_c (B 34 _ rfl), rf_c (B 0 _ rfl) rfl, arI_c (B 35 _ rfl), aln_c (B 35 _ rfl), rf_c (B 0 _ rfl) rfl, arI_c (B 36 _ rfl), aln_c (B 36 _ rfl), rf_c (B 0 _ rfl) rfl, arI_c (B 37 _ rfl), aln_c (B 37 _ rfl), rf_c (B 0 _ rfl) rfl, arL_c (B 38 _ rfl), aln_c (B 38 _ rfl), rf_c (B 0 _ rfl) rfl, ⟨_, _, B 39 _ rfl⟩, aln_c (B 39 _ rfl), rf_c (B 0 _ rfl) rfl, arL_c (B 40 _ rfl), aln_c (B 40 _ rfl), rf_c (B 0 _ rfl) rfl, arI_c (B 41 _ rfl), aln_c (B 41 _ rfl)⟩
