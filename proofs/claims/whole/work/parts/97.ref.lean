/-! references that change: the reader's plan, the plans that are exchanged -/
def Ag (N : Nat → Nat → Prop) (h h1 : VG) : Prop := (∀ b c, ob h1 b c ↔ ob h b c) ∧ (∀ b t, arI h1 b t ↔ arI h b t) ∧ (∀ b, arL h1 b ↔ arL h b) ∧ (∀ b, arD h1 b ↔ arD h b) ∧ (∀ b t, arR h1 b t ↔ arR h b t) ∧ (∀ b, aln h1 b = aln h b) ∧ (∀ b i, aR h1 b i = aR h b i) ∧ (∀ b j, ¬ N b j → gV h1 b j = gV h b j) ∧ (∀ b j, aI h1 b j = aI h b j ∧ aL h1 b j = aL h b j ∧ aD h1 b j = aD h b j) ∧ h1.2 = h.2
theorem Ag.rfe {N : Nat → Nat → Prop} {h h1 : VG} (A : Ag N h h1) {b j t : Nat} (hn : ¬ N b j) : rf h1 b j t ↔ rf h b j t := by
  unfold rf
  rw [A.2.2.2.2.2.2.2.1 b j hn]
theorem Ag.gIe {N : Nat → Nat → Prop} {h h1 : VG} (A : Ag N h h1) {b j : Nat} (hn : ¬ N b j) : gI h1 b j = gI h b j := by
  unfold gI
  rw [A.2.2.2.2.2.2.2.1 b j hn]
theorem Ag.gLe {N : Nat → Nat → Prop} {h h1 : VG} (A : Ag N h h1) {b j : Nat} (hn : ¬ N b j) : gL h1 b j = gL h b j := by
  unfold gL
  rw [A.2.2.2.2.2.2.2.1 b j hn]
theorem Ag.gDe {N : Nat → Nat → Prop} {h h1 : VG} (A : Ag N h h1) {b j : Nat} (hn : ¬ N b j) : gD h1 b j = gD h b j := by
  unfold gD
  rw [A.2.2.2.2.2.2.2.1 b j hn]
theorem Ag.obe {N : Nat → Nat → Prop} {h h1 : VG} (A : Ag N h h1) {b c : Nat} : ob h1 b c ↔ ob h b c := A.1 b c
theorem Ag.arIe {N : Nat → Nat → Prop} {h h1 : VG} (A : Ag N h h1) {b c : Nat} : arI h1 b c ↔ arI h b c := A.2.1 b c
theorem Ag.arLe {N : Nat → Nat → Prop} {h h1 : VG} (A : Ag N h h1) {b : Nat} : arL h1 b ↔ arL h b := A.2.2.1 b
theorem Ag.arDe {N : Nat → Nat → Prop} {h h1 : VG} (A : Ag N h h1) {b : Nat} : arD h1 b ↔ arD h b := A.2.2.2.1 b
theorem Ag.arRe {N : Nat → Nat → Prop} {h h1 : VG} (A : Ag N h h1) {b c : Nat} : arR h1 b c ↔ arR h b c := A.2.2.2.2.1 b c
theorem Ag.ln {N : Nat → Nat → Prop} {h h1 : VG} (A : Ag N h h1) {b : Nat} : aln h1 b = aln h b := A.2.2.2.2.2.1 b
theorem Ag.aRe {N : Nat → Nat → Prop} {h h1 : VG} (A : Ag N h h1) {b i : Nat} : aR h1 b i = aR h b i := A.2.2.2.2.2.2.1 b i
theorem Ag.I {N : Nat → Nat → Prop} {h h1 : VG} (A : Ag N h h1) (b j : Nat) : aI h1 b j = aI h b j := (A.2.2.2.2.2.2.2.2.1 b j).1
theorem Ag.L {N : Nat → Nat → Prop} {h h1 : VG} (A : Ag N h h1) (b j : Nat) : aL h1 b j = aL h b j := (A.2.2.2.2.2.2.2.2.1 b j).2.1
theorem Ag.D {N : Nat → Nat → Prop} {h h1 : VG} (A : Ag N h h1) (b j : Nat) : aD h1 b j = aD h b j := (A.2.2.2.2.2.2.2.2.1 b j).2.2
theorem Ag.two {N : Nat → Nat → Prop} {h h1 : VG} (A : Ag N h h1) : h1.2 = h.2 := A.2.2.2.2.2.2.2.2.2
theorem Ag.tr {N : Nat → Nat → Prop} {h h1 h2 : VG} (A : Ag N h h1) (B : Ag N h1 h2) : Ag N h h2 :=
  ⟨fun b c => (B.1 b c).trans (A.1 b c), fun b c => (B.2.1 b c).trans (A.2.1 b c), fun b => B.arLe.trans A.arLe, fun b => B.arDe.trans A.arDe, fun b c => B.arRe.trans A.arRe, fun b => B.ln.trans A.ln, fun b i => B.aRe.trans A.aRe, fun b j hn => (B.2.2.2.2.2.2.2.1 b j hn).trans (A.2.2.2.2.2.2.2.1 b j hn), fun b j => ⟨(B.I b j).trans (A.I b j), (B.L b j).trans (A.L b j), (B.D b j).trans (A.D b j)⟩, B.two.trans A.two⟩
theorem Ag.mo {N N1 : Nat → Nat → Prop} {h h1 : VG} (A : Ag N h h1) (m : ∀ b j, N b j → N1 b j) : Ag N1 h h1 :=
  ⟨A.1, A.2.1, A.2.2.1, A.2.2.2.1, A.2.2.2.2.1, A.2.2.2.2.2.1, A.2.2.2.2.2.2.1, fun b j hn => A.2.2.2.2.2.2.2.1 b j (fun z => hn (m b j z)), A.2.2.2.2.2.2.2.2⟩
theorem pR_1 (h : VG) (a k x b : Nat) (hb : ¬ b = a) : (pR h a k x).1 b = h.1 b := by
  unfold pR pV
  rw [hset_1, if_neg hb]
theorem pR_o {h : VG} {a c : Nat} {fs : List Value} (k x : Nat) (e : h.1 a = .inr (c, fs)) : (pR h a k x).1 a = .inr (c, vset fs k (.ref x)) := by
  unfold pR pV
  rw [hset_1, if_pos rfl, e]
theorem pR_ag {N : Nat → Nat → Prop} (h : VG) (a k x ci : Nat) (ho : ob h a ci) (hn : N a k) : Ag N h (pR h a k x) := by
  obtain ⟨fs, e1, e2⟩ := ho
  have e3 := pR_o k x e1
  have ne := pR_1 h a k x
  refine ⟨fun b c => ob_pV h a k _ b c, fun b t => ?_, fun b => ?_, fun b => ?_, fun b t => ?_, fun b => ?_, fun b i => ?_, fun b j hj => ?_, fun b j => ⟨?_, ?_, ?_⟩, rfl⟩
  · by_cases hb : b = a
    · subst hb
      unfold arI
      rw [e3, e1]
      exact ⟨fun ⟨_, _, z⟩ => (by cases z), fun ⟨_, _, z⟩ => (by cases z)⟩
    · unfold arI
      rw [ne b hb]
  · by_cases hb : b = a
    · subst hb
      unfold arL
      rw [e3, e1]
      exact ⟨fun ⟨_, _, z⟩ => (by cases z), fun ⟨_, _, z⟩ => (by cases z)⟩
    · unfold arL
      rw [ne b hb]
  · by_cases hb : b = a
    · subst hb
      unfold arD
      rw [e3, e1]
      exact ⟨fun ⟨_, _, z⟩ => (by cases z), fun ⟨_, _, z⟩ => (by cases z)⟩
    · unfold arD
      rw [ne b hb]
  · by_cases hb : b = a
    · subst hb
      unfold arR
      rw [e3, e1]
      exact ⟨fun ⟨_, _, z⟩ => (by cases z), fun ⟨_, _, z⟩ => (by cases z)⟩
    · unfold arR
      rw [ne b hb]
  · by_cases hb : b = a
    · subst hb
      unfold aln
      rw [e3, e1]
    · unfold aln
      rw [ne b hb]
  · by_cases hb : b = a
    · subst hb
      unfold aR
      rw [e3, e1]
    · unfold aR
      rw [ne b hb]
  · by_cases hb : b = a
    · subst hb
      have hk : ¬ j = k := fun z => hj (by rw [z]; exact hn)
      unfold gV
      rw [e3, e1]
      show (vset fs k (.ref x)).getD j .null = fs.getD j .null
      unfold vset
      split
      · rw [List.getD_eq_getElem?_getD, List.getD_eq_getElem?_getD, List.getElem?_set_ne (fun z => hk z.symm)]
      · rfl
    · unfold gV
      rw [ne b hb]
  · by_cases hb : b = a
    · subst hb
      unfold aI
      rw [e3, e1]
    · unfold aI
      rw [ne b hb]
  · by_cases hb : b = a
    · subst hb
      unfold aL
      rw [e3, e1]
    · unfold aL
      rw [ne b hb]
  · by_cases hb : b = a
    · subst hb
      unfold aD
      rw [e3, e1]
    · unfold aD
      rw [ne b hb]
theorem pR_rf (h : VG) (a k x ci : Nat) (ho : ob h a ci) (hs : (vShape ci)[k]? = some 3) : rf (pR h a k x) a k x := by
  obtain ⟨fs, v, e1, e2, e3, -⟩ := ob_at ho hs
  unfold rf gV
  rw [pR_o k x e1]
  show (vset fs k (.ref x)).getD k .null = .ref x
  unfold vset
  rw [if_pos (by rw [e2]; show some (vtag v) = _; rw [e3]; rfl), List.getD_eq_getElem?_getD, List.getElem?_set_self (List.getElem?_eq_some_iff.mp e2).1]
  rfl
theorem ShBin_ag {N : Nat → Nat → Prop} {h h1 : VG} {g a : Nat} (A : Ag N h h1) (hN : ∀ b j, N b j → b ≤ g + 2) (ha : g + 2 < a) (q : ShBin h a) : ShBin h1 a := by
  obtain ⟨c0, c1, c2, c3, c4, c5, c6⟩ := q
  exact ⟨(A.obe).mpr c0, (A.rfe (fun z => by have := hN _ _ z; omega)).mpr c1, (A.rfe (fun z => by have := hN _ _ z; omega)).mpr c2, (A.arIe).mpr c3, (A.ln).trans c4, (A.arLe).mpr c5, (A.ln).trans c6⟩
theorem ShMem_ag {N : Nat → Nat → Prop} {h h1 : VG} {g a : Nat} (A : Ag N h h1) (hN : ∀ b j, N b j → b ≤ g + 2) (ha : g + 2 < a) (q : ShMem h a) : ShMem h1 a := by
  obtain ⟨c0, c1, c2, c3⟩ := q
  exact ⟨(A.obe).mpr c0, (A.rfe (fun z => by have := hN _ _ z; omega)).mpr c1, (A.arIe).mpr c2, (A.ln).trans c3⟩
theorem ShTok_ag {N : Nat → Nat → Prop} {h h1 : VG} {g a : Nat} (A : Ag N h h1) (hN : ∀ b j, N b j → b ≤ g + 2) (ha : g + 2 < a) (q : ShTok h a) : ShTok h1 a := by
  obtain ⟨c0, c1, c2, c3, c4, c5, c6, c7, c8, c9, c10, c11, c12⟩ := q
  exact ⟨(A.obe).mpr c0, (A.rfe (fun z => by have := hN _ _ z; omega)).mpr c1, (A.rfe (fun z => by have := hN _ _ z; omega)).mpr c2, (A.rfe (fun z => by have := hN _ _ z; omega)).mpr c3, (A.rfe (fun z => by have := hN _ _ z; omega)).mpr c4, (A.arIe).mpr c5, (A.ln).trans c6, (A.arIe).mpr c7, (A.ln).trans c8, (A.arLe).mpr c9, (A.ln).trans c10, (A.arLe).mpr c11, (A.ln).trans c12⟩
theorem ShForm_ag {N : Nat → Nat → Prop} {h h1 : VG} {g a : Nat} (A : Ag N h h1) (hN : ∀ b j, N b j → b ≤ g + 2) (ha : g + 2 < a) (q : ShForm h a) : ShForm h1 a := by
  obtain ⟨c0, c1, c2, c3, c4, c5, c6, c7, c8, c9, c10, c11, c12, c13, c14, c15, c16, c17, c18, c19, c20, c21, c22, c23, c24, c25, c26, c27, c28, c29, c30, c31, c32, c33⟩ := q
  exact ⟨(A.obe).mpr c0, (A.rfe (fun z => by have := hN _ _ z; omega)).mpr c1, (A.rfe (fun z => by have := hN _ _ z; omega)).mpr c2, (A.rfe (fun z => by have := hN _ _ z; omega)).mpr c3, (A.rfe (fun z => by have := hN _ _ z; omega)).mpr c4, (A.rfe (fun z => by have := hN _ _ z; omega)).mpr c5, (A.rfe (fun z => by have := hN _ _ z; omega)).mpr c6, (A.rfe (fun z => by have := hN _ _ z; omega)).mpr c7, (A.arIe).mpr c8, (A.ln).trans c9, (A.arIe).mpr c10, (A.ln).trans c11, (A.arIe).mpr c12, (A.ln).trans c13, (A.arIe).mpr c14, (A.ln).trans c15, (A.obe).mpr c16, (A.rfe (fun z => by have := hN _ _ z; omega)).mpr c17, (A.arIe).mpr c18, (A.ln).trans c19, (A.obe).mpr c20, (A.rfe (fun z => by have := hN _ _ z; omega)).mpr c21, (A.arIe).mpr c22, (A.ln).trans c23, (A.obe).mpr c24, (A.rfe (fun z => by have := hN _ _ z; omega)).mpr c25, (A.rfe (fun z => by have := hN _ _ z; omega)).mpr c26, (A.rfe (fun z => by have := hN _ _ z; omega)).mpr c27, (A.arIe).mpr c28, (A.ln).trans c29, (A.arIe).mpr c30, (A.ln).trans c31, (A.arIe).mpr c32, (A.ln).trans c33⟩
theorem ShState_ag {N : Nat → Nat → Prop} {h h1 : VG} {g a : Nat} (A : Ag N h h1) (hN : ∀ b j, N b j → b ≤ g + 2) (ha : g + 2 < a) (q : ShState h a) : ShState h1 a := by
  obtain ⟨c0, c1, c2, c3, c4, c5, c6, c7, c8, c9, c10⟩ := q
  exact ⟨(A.obe).mpr c0, (A.rfe (fun z => by have := hN _ _ z; omega)).mpr c1, (A.rfe (fun z => by have := hN _ _ z; omega)).mpr c2, (A.rfe (fun z => by have := hN _ _ z; omega)).mpr c3, ShMem_ag A hN (by omega) c4, (A.arRe).mpr c5, (A.ln).trans c6, fun b hb => (A.aRe).trans (c7 b hb), (A.arLe).mpr c8, (A.ln).trans c9, fun b hb => ShBin_ag A hN (by omega) (c10 b hb)⟩
theorem ShPlan_ag {N : Nat → Nat → Prop} {h h1 : VG} {g a : Nat} (A : Ag N h h1) (hN : ∀ b j, N b j → b ≤ g + 2) (ha : g + 2 < a) (q : ShPlan h a) : ShPlan h1 a := by
  obtain ⟨c0, c1, c2, c3, c4, c5, c6, c7⟩ := q
  exact ⟨(A.obe).mpr c0, (A.rfe (fun z => by have := hN _ _ z; omega)).mpr c1, (A.rfe (fun z => by have := hN _ _ z; omega)).mpr c2, ShMem_ag A hN (by omega) c3, (A.arRe).mpr c4, (A.ln).trans c5, fun b hb => (A.aRe).trans (c6 b hb), fun b hb => ShForm_ag A hN (by omega) (c7 b hb)⟩
set_option maxRecDepth 4000 in
theorem ShMod_ag {N : Nat → Nat → Prop} {h h1 : VG} {g a : Nat} (A : Ag N h h1) (hN : ∀ b j, N b j → b ≤ g + 2) (ha : g + 2 < a) (q : ShMod h a) : ShMod h1 a := by
  obtain ⟨c0, c1, c2, c3, c4, c5, c6, c7, c8, c9, c10, c11, c12, c13, c14, c15, c16, c17, c18, c19, c20, c21, c22, c23, c24, c25, c26, c27, c28, c29, c30, c31, c32, c33, c34, c35, c36, c37, c38, c39, c40, c41, c42, c43, c44, c45, c46, c47, c48, c49, c50, c51, c52, c53, c54, c55, c56, c57, c58, c59, c60, c61, c62, c63, c64, c65, c66, c67, c68, c69, c70, c71, c72, c73, c74, c75, c76, c77, c78, c79, c80, c81, c82, c83, c84, c85, c86, c87, c88, c89, c90, c91, c92, c93, c94, c95, c96, c97, c98, c99, c100, c101, c102, c103, c104, c105, c106, c107, c108, c109, c110, c111, c112, c113, c114, c115, c116, c117, c118, c119, c120, c121, c122, c123⟩ := q
  exact ⟨(A.obe).mpr c0, (A.rfe (fun z => by have := hN _ _ z; omega)).mpr c1, (A.arIe).mpr c2, (A.ln).trans c3, (A.rfe (fun z => by have := hN _ _ z; omega)).mpr c4, (A.arIe).mpr c5, (A.ln).trans c6, (A.rfe (fun z => by have := hN _ _ z; omega)).mpr c7, (A.arIe).mpr c8, (A.ln).trans c9, (A.rfe (fun z => by have := hN _ _ z; omega)).mpr c10, (A.arIe).mpr c11, (A.ln).trans c12, (A.rfe (fun z => by have := hN _ _ z; omega)).mpr c13, (A.arIe).mpr c14, (A.ln).trans c15, (A.rfe (fun z => by have := hN _ _ z; omega)).mpr c16, (A.arLe).mpr c17, (A.ln).trans c18, (A.rfe (fun z => by have := hN _ _ z; omega)).mpr c19, (A.arLe).mpr c20, (A.ln).trans c21, (A.rfe (fun z => by have := hN _ _ z; omega)).mpr c22, (A.arIe).mpr c23, (A.ln).trans c24, (A.rfe (fun z => by have := hN _ _ z; omega)).mpr c25, (A.arIe).mpr c26, (A.ln).trans c27, (A.rfe (fun z => by have := hN _ _ z; omega)).mpr c28, (A.arIe).mpr c29, (A.ln).trans c30, (A.rfe (fun z => by have := hN _ _ z; omega)).mpr c31, (A.arIe).mpr c32, (A.ln).trans c33, (A.rfe (fun z => by have := hN _ _ z; omega)).mpr c34, (A.arIe).mpr c35, (A.ln).trans c36, (A.rfe (fun z => by have := hN _ _ z; omega)).mpr c37, (A.arIe).mpr c38, (A.ln).trans c39, (A.rfe (fun z => by have := hN _ _ z; omega)).mpr c40, (A.arIe).mpr c41, (A.ln).trans c42, (A.rfe (fun z => by have := hN _ _ z; omega)).mpr c43, (A.arIe).mpr c44, (A.ln).trans c45, (A.rfe (fun z => by have := hN _ _ z; omega)).mpr c46, (A.arIe).mpr c47, (A.ln).trans c48, (A.rfe (fun z => by have := hN _ _ z; omega)).mpr c49, (A.arIe).mpr c50, (A.ln).trans c51, (A.rfe (fun z => by have := hN _ _ z; omega)).mpr c52, (A.arIe).mpr c53, (A.ln).trans c54, (A.rfe (fun z => by have := hN _ _ z; omega)).mpr c55, (A.arIe).mpr c56, (A.ln).trans c57, (A.rfe (fun z => by have := hN _ _ z; omega)).mpr c58, (A.arIe).mpr c59, (A.ln).trans c60, (A.rfe (fun z => by have := hN _ _ z; omega)).mpr c61, (A.arIe).mpr c62, (A.ln).trans c63, (A.rfe (fun z => by have := hN _ _ z; omega)).mpr c64, (A.arLe).mpr c65, (A.ln).trans c66, (A.rfe (fun z => by have := hN _ _ z; omega)).mpr c67, (A.arDe).mpr c68, (A.ln).trans c69, (A.rfe (fun z => by have := hN _ _ z; omega)).mpr c70, (A.arIe).mpr c71, (A.ln).trans c72, (A.rfe (fun z => by have := hN _ _ z; omega)).mpr c73, (A.arLe).mpr c74, (A.ln).trans c75, (A.rfe (fun z => by have := hN _ _ z; omega)).mpr c76, (A.arDe).mpr c77, (A.ln).trans c78, (A.rfe (fun z => by have := hN _ _ z; omega)).mpr c79, (A.arIe).mpr c80, (A.ln).trans c81, (A.rfe (fun z => by have := hN _ _ z; omega)).mpr c82, (A.arIe).mpr c83, (A.ln).trans c84, (A.rfe (fun z => by have := hN _ _ z; omega)).mpr c85, (A.arIe).mpr c86, (A.ln).trans c87, (A.rfe (fun z => by have := hN _ _ z; omega)).mpr c88, (A.arIe).mpr c89, (A.ln).trans c90, (A.rfe (fun z => by have := hN _ _ z; omega)).mpr c91, (A.arIe).mpr c92, (A.ln).trans c93, (A.rfe (fun z => by have := hN _ _ z; omega)).mpr c94, (A.arLe).mpr c95, (A.ln).trans c96, (A.rfe (fun z => by have := hN _ _ z; omega)).mpr c97, (A.arIe).mpr c98, (A.ln).trans c99, (A.rfe (fun z => by have := hN _ _ z; omega)).mpr c100, (A.arIe).mpr c101, (A.ln).trans c102, (A.rfe (fun z => by have := hN _ _ z; omega)).mpr c103, (A.arIe).mpr c104, (A.ln).trans c105, (A.rfe (fun z => by have := hN _ _ z; omega)).mpr c106, (A.arIe).mpr c107, (A.ln).trans c108, (A.rfe (fun z => by have := hN _ _ z; omega)).mpr c109, (A.arIe).mpr c110, (A.ln).trans c111, (A.rfe (fun z => by have := hN _ _ z; omega)).mpr c112, (A.arLe).mpr c113, (A.ln).trans c114, (A.rfe (fun z => by have := hN _ _ z; omega)).mpr c115, (A.arDe).mpr c116, (A.ln).trans c117, (A.rfe (fun z => by have := hN _ _ z; omega)).mpr c118, (A.arLe).mpr c119, (A.ln).trans c120, (A.rfe (fun z => by have := hN _ _ z; omega)).mpr c121, (A.arIe).mpr c122, (A.ln).trans c123⟩
theorem ShCls_ag {N : Nat → Nat → Prop} {h h1 : VG} {g : Nat} (A : Ag N h h1) (hN : ∀ b j, N b j → (b = g ∧ (j = 3 ∨ j = 4)) ∨ (b = g + 2 ∧ j = 2)) (hd : (rf h1 g 3 (g + 8) ∧ rf h1 g 4 (g + 90)) ∨ (rf h1 g 3 (g + 90) ∧ rf h1 g 4 (g + 8))) (q : ShCls h g) : ShCls h1 g := by
  have hM : ∀ b j, N b j → b ≤ g + 2 := fun b j z => by have := hN b j z; omega
  obtain ⟨c0, c1, c2, c3, c4, c5, c6, c7, c8, c9, c10, c11, c12, c13, c14, c15, c16, c17, c18, c19, c20, c21, c22, c23, c24, c25, c26, c27, c28, c29, c30, c31, c32, c33, c34, c35, c36⟩ := q
  exact ⟨(A.obe).mpr c0, (A.rfe (fun z => by have := hN _ _ z; omega)).mpr c1, (A.rfe (fun z => by have := hN _ _ z; omega)).mpr c2, (A.rfe (fun z => by have := hN _ _ z; omega)).mpr c3, (A.rfe (fun z => by have := hN _ _ z; omega)).mpr c4, (A.rfe (fun z => by have := hN _ _ z; omega)).mpr c5, (A.rfe (fun z => by have := hN _ _ z; omega)).mpr c6, (A.rfe (fun z => by have := hN _ _ z; omega)).mpr c7, (A.rfe (fun z => by have := hN _ _ z; omega)).mpr c8, (A.arIe).mpr c9, (A.ln).trans c10, (A.obe).mpr c11, (A.rfe (fun z => by have := hN _ _ z; omega)).mpr c12, ShTok_ag A hM (by omega) c13, ShPlan_ag A hM (by omega) c14, ShPlan_ag A hM (by omega) c15, hd, ShState_ag A hM (by omega) c17, (A.arRe).mpr c18, (A.ln).trans c19, (A.aRe).trans c20, (A.aRe).trans c21, ShState_ag A hM (by omega) c22, ShState_ag A hM (by omega) c23, (A.arIe).mpr c24, (A.ln).trans c25, (A.arLe).mpr c26, (A.ln).trans c27, (A.obe).mpr c28, (A.rfe (fun z => by have := hN _ _ z; omega)).mpr c29, (A.rfe (fun z => by have := hN _ _ z; omega)).mpr c30, (A.arIe).mpr c31, (A.ln).trans c32, (A.arIe).mpr c33, (A.ln).trans c34, (A.arIe).mpr c35, (A.ln).trans c36⟩
theorem Sh_ag {N : Nat → Nat → Prop} {h h1 : VG} {g : Nat} (A : Ag N h h1) (hN : ∀ b j, N b j → (b = g ∧ (j = 3 ∨ j = 4)) ∨ (b = g + 2 ∧ j = 2)) (hd : (rf h1 g 3 (g + 8) ∧ rf h1 g 4 (g + 90)) ∨ (rf h1 g 3 (g + 90) ∧ rf h1 g 4 (g + 8))) (q : Sh h g) : Sh h1 g := by
  obtain ⟨q1, q2, sa, wa, e1, e2, e3, e4, e5, e6, e7, e8, e9, e10⟩ := q
  have hM : ∀ b j, N b j → b ≤ g + 2 := fun b j z => by have := hN b j z; omega
  have t := A.two
  have rd : ∀ b, rdI h b → rdI h1 b := fun b z => z.imp A.arIe.mpr A.arIe.mpr
  refine ⟨ShCls_ag A hN hd q1, ShMod_ag A hM (by omega) q2, sa, wa, ?_, ?_, e3, e4, rd _ e5, rd _ e6, (A.ln).trans e7, (A.ln).trans e8, fun j hj => (A.I _ _).trans (e9 j hj), fun j hj => (A.I _ _).trans (e10 j hj)⟩
  · rw [t]
    exact e1
  · rw [t]
    exact e2
