/-! forms: what calls take of them; cells by number -/
def FQ (h : VG) (Q N : Nat) (C : Nat → Nat) : Prop := ShForm h Q ∧ gI h Q 2 = nI N ∧ gI h (Q + 5) 0 = 0 ∧ gI h (Q + 7) 0 = 1 ∧ gI h (Q + 5) 3 = nI (lSiz 0 C N) ∧ gI h (Q + 7) 3 = nI (lSiz 1 C N) ∧ ∀ i, i < N → aI h (Q + 4) i = nI (C i) ∧ aI h (Q + 6) i = nI (lOff 0 C i) ∧ aI h (Q + 8) i = nI (lOff 1 C i)
theorem FQ_fr {R : Nat → Prop} {F : Nat → Nat → Prop} {h h1 : VG} {Q N : Nat} {C : Nat → Nat} (x : Fr R F h h1) (c : ∀ a, R a → a < Q ∨ Q + 12 < a) (d : ∀ a k, F a k → a < Q ∨ Q + 12 < a) (q : FQ h Q N C) : FQ h1 Q N C := by
  obtain ⟨q1, q2, q3, q4, q5, q6, q7⟩ := q
  refine ⟨(ShForm_kp x.1 Q).mpr q1, (x.gI (fun z => by have := d _ _ z; omega)).trans q2, (x.gI (fun z => by have := d _ _ z; omega)).trans q3, (x.gI (fun z => by have := d _ _ z; omega)).trans q4, (x.gI (fun z => by have := d _ _ z; omega)).trans q5, (x.gI (fun z => by have := d _ _ z; omega)).trans q6, fun i hi => ?_⟩
  obtain ⟨a1, a2, a3⟩ := q7 i hi
  exact ⟨(x.I (fun z => by have := c _ z; omega) i).trans a1, (x.I (fun z => by have := c _ z; omega) i).trans a2, (x.I (fun z => by have := c _ z; omega) i).trans a3⟩
/-- the model's form f of N cells -/
def MQf (h : VG) (g f N : Nat) (C : Nat → Nat) : Prop := Sh h g ∧ Kb h g ∧ ∃ (m : Nat) (K R : Nat → Nat), (∀ j, j < m → K j < 10 ∧ 1 ≤ R j ∧ R j ≤ 4) ∧ (∀ j i, j < m → i < R j → C (pre R j + i) = K j) ∧ FM h g f m K R ∧ N = pre R m
/-- and the layout that is laid out -/
def MLf (h : VG) (g f N : Nat) (C : Nat → Nat) (w : Int32) : Prop := Sh h g ∧ Kb h g ∧ ∃ (m : Nat) (K R : Nat → Nat), (∀ j, j < m → K j < 10 ∧ 1 ≤ R j ∧ R j ≤ 4) ∧ (∀ j i, j < m → i < R j → C (pre R j + i) = K j) ∧ FM h g f m K R ∧ N = pre R m ∧ ∀ i, i < m → aI h (g + 284) i = nI (lOff w C (pre R i))
theorem MLf.mq {h : VG} {g f N : Nat} {C : Nat → Nat} {w : Int32} (q : MLf h g f N C w) : MQf h g f N C := by
  obtain ⟨a1, a2, m, K, R, a3, a4, a5, a6, a7⟩ := q
  exact ⟨a1, a2, m, K, R, a3, a4, a5, a6⟩
theorem MQf_fr {Q : Nat → Prop} {F : Nat → Nat → Prop} {h h1 : VG} {g f N : Nat} {C : Nat → Nat} (x : Fr Q F h h1) (c : ∀ a, Q a → g ≤ a ∧ ¬ (g + 273 < a ∧ a < g + 277) ∧ ¬ a = g + 282 ∧ ¬ a = g + 283) (q : MQf h g f N C) : MQf h1 g f N C := by
  obtain ⟨a1, a2, m, K, R, a3, a4, a5, a6⟩ := q
  exact ⟨Sh_fr x (fun a z => (c a z).1) a1, Kb_fr x (fun z => (c _ z).2.2.1 rfl) (fun z => (c _ z).2.2.2 rfl) a2, m, K, R, a3, a4, FM_fr x (fun a z => (c a z).2.1) a5, a6⟩
theorem MLf_fr {Q : Nat → Prop} {F : Nat → Nat → Prop} {h h1 : VG} {g f N : Nat} {C : Nat → Nat} {w : Int32} (x : Fr Q F h h1) (c : ∀ a, Q a → g ≤ a ∧ ¬ (g + 273 < a ∧ a < g + 277) ∧ ¬ a = g + 282 ∧ ¬ a = g + 283 ∧ ¬ a = g + 284) (q : MLf h g f N C w) : MLf h1 g f N C w := by
  obtain ⟨a1, a2, m, K, R, a3, a4, a5, a6, a7⟩ := q
  exact ⟨Sh_fr x (fun a z => (c a z).1) a1, Kb_fr x (fun z => (c _ z).2.2.1 rfl) (fun z => (c _ z).2.2.2.1 rfl) a2, m, K, R, a3, a4, FM_fr x (fun a z => (c a z).2.1) a5, a6, fun i hi => (x.I (fun z => (c _ z).2.2.2.2 rfl) i).trans (a7 i hi)⟩
theorem mq_cells {h : VG} {g f N : Nat} {C : Nat → Nat} (q : MQf h g f N C) : ev 170 0 [some (.ref (g + 266)), some (.int (nI f)), none, none] [] h = some (some (.int (nI N)), h) := by
  obtain ⟨a1, a2, m, K, R, a3, a4, a5, rfl⟩ := q
  exact c_cells h g f m K R a1 a5
theorem mq_kind {h : VG} {g f N c : Nat} {C : Nat → Nat} (q : MQf h g f N C) (hc : c < N) : ev 174 0 [some (.ref (g + 266)), some (.int (nI f)), some (.int (nI c))] [] h = some (some (.int (nI (C c))), h) := by
  obtain ⟨a1, a2, m, K, R, a3, a4, a5, rfl⟩ := q
  obtain ⟨j, i, hj, hi, rfl⟩ := pre_cell R m c hc
  rw [a4 j i hj hi]
  exact (c_kindAt g f m j i K R h a1 a5 (fun j hj => (a3 j hj).2) hj hi).1
theorem ml_off {h : VG} {g f N c : Nat} {C : Nat → Nat} {w : Int32} (q : MLf h g f N C w) (hc : c < N) : ev 175 0 [some (.ref (g + 266)), some (.int (nI f)), some (.int (nI c)), some (.int w), none, none, none] [] h = some (some (.int (nI (lOff w C c))), h) := by
  obtain ⟨a1, a2, m, K, R, a3, a4, a5, rfl, a7⟩ := q
  obtain ⟨j, i, hj, hi, rfl⟩ := pre_cell R m c hc
  exact c_offsetAt g f m j i w K R C h a1 a2 a5 a3 a4 a7 hj hi
theorem mq_lays {h : VG} {g f N : Nat} {C : Nat → Nat} (w : Int32) (q : MQf h g f N C) : ∃ h1, ev 169 0 [some (.ref (g + 266)), some (.int (nI f)), some (.int w), none, none, none, none] [] h = some (none, h1) ∧ Fr (fun a => a = g + 284) (fun a k => a = g + 266 ∧ (k = 36 ∨ k = 37)) h h1 ∧ gI h1 (g + 266) 36 = nI (lSiz w C N) ∧ MLf h1 g f N C w := by
  obtain ⟨a1, a2, m, K, R, a3, a4, a5, rfl⟩ := q
  obtain ⟨h1, u1, u2, u3, u4, u5⟩ := c_laysOut h g f m w K R C a3 a4 a1 a2 a5
  exact ⟨h1, u1, u2, u4, Sh_fr u2 (fun a z => by omega) a1, Kb_fr u2 (fun z => by omega) (fun z => by omega) a2, m, K, R, a3, a4, FM_fr u2 (fun a z => by omega) a5, rfl, u5⟩
theorem lEnd_up (w : Int32) (C : Nat → Nat) (N : Nat) (hC : ∀ i, i < N → C i < 10) : ∀ d c, c + d = N → lEnd w C c ≤ lEnd w C N
  | 0, c, h => by
    obtain rfl : c = N := by omega
    exact Nat.le_refl _
  | d + 1, c, h => by
    have ih := lEnd_up w C N hC d (c + 1) (by omega)
    have e : lEnd w C (c + 1) = upN (lEnd w C c) (mBy (C c) w) + nBy (C c) w := rfl
    have := (upN_le (v := lEnd w C c) (mBy_ok w (C c) (hC c (by omega))).1).1
    omega
theorem lCell_le (w : Int32) (C : Nat → Nat) (N c : Nat) (hC : ∀ i, i < N → C i < 10) (hc : c < N) : lOff w C c + nBy (C c) w ≤ lSiz w C N := by
  have e : lEnd w C (c + 1) = lOff w C c + nBy (C c) w := rfl
  have a := lEnd_up w C N hC (N - (c + 1)) (c + 1) (by omega)
  have b := (upN_le (v := lEnd w C N) (lEnd_le w C N hC).2.1).1
  have : lSiz w C N = upN (lEnd w C N) (lMul w C N) := rfl
  omega
theorem lSiz_le (w : Int32) (C : Nat → Nat) (N : Nat) (hC : ∀ i, i < N → C i < 10) (hN : N ≤ 32) : lSiz w C N ≤ 520 := by
  obtain ⟨a1, a2, a3⟩ := lEnd_le w C N hC
  have b := (upN_le (v := lEnd w C N) a2).2
  have : lSiz w C N = upN (lEnd w C N) (lMul w C N) := rfl
  omega
theorem form_ok (h : VG) (g : Nat) (f : Int32) (hs : Sh h g) (hp : RPl h g) (hb : Kb h g) : (ev 101 0 [some (.ref g), some (.int f)] [] h = some (some (.int 0), h) ∧ ∀ m, Sh m g → gI m (g + 266) 19 = gI h (g + 266) 19 → ev 171 0 [some (.ref (g + 266)), some (.int f)] [] m = some (some (.int 0), m)) ∨ ∃ (fN P Q N : Nat) (C : Nat → Nat), f = nI fN ∧ fN < 6 ∧ ev 101 0 [some (.ref g), some (.int f)] [] h = some (some (.int 1), h) ∧ (∀ m, Sh m g → gI m (g + 266) 19 = gI h (g + 266) 19 → ev 171 0 [some (.ref (g + 266)), some (.int f)] [] m = some (some (.int 1), m)) ∧ rf h g 3 P ∧ ShPlan h P ∧ aR h (P + 3) fN = some Q ∧ g + 8 ≤ Q ∧ Q + 12 < g + 172 ∧ FQ h Q N C ∧ (∀ i, i < N → C i < 10) ∧ 1 ≤ N ∧ N ≤ 32 ∧ MQf h g fN N C := by
  have ho : ob h g 10 := Cls_0 hs.1
  obtain ⟨c, c1, c2, n, n6, p2, p19, pf⟩ := hp
  have hP : ShPlan h (g + c) := by
    rcases c1 with rfl | rfl
    · exact Cls_14 hs.1
    · exact Cls_15 hs.1
  have iC := c_isForm h g (g + c) f ho c2 (Plan_0 hP)
  have iM : ∀ m, Sh m g → gI m (g + 266) 19 = gI h (g + 266) 19 → ev 171 0 [some (.ref (g + 266)), some (.int f)] [] m = some (some (.int (if f < 0 then 0 else if f < nI n then 1 else 0)), m) := by
    intro m sm em
    have := c_m_isForm m g sm f
    rw [em, p19, mform f n n6] at this
    exact this
  rw [p2] at iC
  by_cases f0 : f < 0
  · rw [if_pos f0] at iC
    simp only [if_pos f0] at iM
    exact Or.inl ⟨iC, iM⟩
  by_cases f1 : f < nI n
  case neg =>
    rw [if_neg f0, if_neg f1] at iC
    simp only [if_neg f0, if_neg f1] at iM
    exact Or.inl ⟨iC, iM⟩
  rw [if_neg f0, if_pos f1] at iC
  simp only [if_neg f0, if_pos f1] at iM
  obtain ⟨fN, hfn, rfl⟩ := vnat (n := n) (by omega) f0 f1
  obtain ⟨Q, hQ⟩ : ∃ Q, Q = g + c + 4 + 13 * fN := ⟨_, rfl⟩
  have hS : ShForm h Q := by rw [hQ]; exact Plan_7 hP fN (by omega)
  have aRow : aR h (g + c + 3) fN = some Q := by rw [hQ]; exact Plan_6 hP fN (by omega)
  have q0 : g + (c + 4 + 13 * fN) = Q := by omega
  have q : ∀ i, g + (c + 4 + 13 * fN + i) = Q + i := fun i => by omega
  have RF := pf fN hfn
  unfold RFm at RF
  simp only [q0, q] at RF
  obtain ⟨m, K, R', C, m1, m8', hKR, hC, r1, r2, r3, r4, r5, r6, r7, r8, r9, r10, r11⟩ := RF
  have hf : FM h g fN m K R' := ⟨by omega, m8', r2, fun j hj => ⟨(r4 j hj).2.1, (r4 j hj).2.2.2.1⟩⟩
  have C10 : ∀ i, i < pre R' m → C i < 10 := fun i hi => by
    obtain ⟨j, x, hj, hx, rfl⟩ := pre_cell R' m i hi
    rw [hC j x hj hx]
    exact (hKR j hj).1
  have pl := pre_le R' m (fun j hj => (hKR j hj).2) m (Nat.le_refl _)
  have p1 : 1 ≤ pre R' m := by
    have a := pre_lt R' m 0 (by omega)
    have b := (hKR 0 (by omega)).2.1
    omega
  refine Or.inr ⟨fN, g + c, Q, pre R' m, C, rfl, by omega, iC, iM, c2, hP, aRow, by omega, by omega, ⟨hS, r3, r5, r6, r8, r10, fun i hi => ?_⟩, C10, p1, by omega, hs, hb, m, K, R', hKR, hC, hf, rfl⟩
  obtain ⟨z1, z2, z3, -⟩ := r11 i hi
  exact ⟨z1, z2, z3⟩
