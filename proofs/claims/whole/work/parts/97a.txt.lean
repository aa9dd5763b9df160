/-! read: texts, tokens: what both sides find -/
def sB (n : Nat) : Int32 := vp_nar .byte (nI n)
def isBl (n : Nat) : Bool := n == 9 || n == 10 || n == 13 || n == 32
def isLe (n : Nat) : Bool := Nat.ble 97 n && Nat.ble n 122
def isDi (n : Nat) : Bool := Nat.ble 48 n && Nat.ble n 57
def b01 (b : Bool) : Int32 := if b then 1 else 0
theorem b01_or (b : Bool) : b01 b = 0 ∨ b01 b = 1 := by cases b <;> simp [b01]
theorem sB_bl : ∀ n : Fin 256, (if sB n.val = 9 then (1 : Int32) else if sB n.val = 10 then 1 else if sB n.val = 13 then 1 else if sB n.val = 32 then 1 else 0) = b01 (isBl n.val) := by decide +kernel
theorem sB_le : ∀ n : Fin 256, (if sB n.val < 97 then (0 : Int32) else if sB n.val ≤ 122 then 1 else 0) = b01 (isLe n.val) := by decide +kernel
theorem sB_di : ∀ n : Fin 256, (if sB n.val < 48 then (0 : Int32) else if sB n.val ≤ 57 then 1 else 0) = b01 (isDi n.val) := by decide +kernel
theorem sB_59 : ∀ n : Fin 256, sB n.val = 59 ↔ n.val = 59 := by decide +kernel
theorem nI_le_ : ∀ n : Fin 256, (if nI n.val < 97 then (0 : Int32) else if nI n.val ≤ 122 then 1 else 0) = b01 (isLe n.val) := by decide +kernel
theorem nI_di : ∀ n : Fin 256, (if nI n.val < 48 then (0 : Int32) else if nI n.val ≤ 57 then 1 else 0) = b01 (isDi n.val) := by decide +kernel
theorem nI_bl : ∀ n : Fin 256, (nI n.val = 9 ∨ nI n.val = 10 ∨ nI n.val = 13 ∨ nI n.val = 32) ↔ isBl n.val = true := by decide +kernel
theorem sB_255 : ∀ n : Fin 256, sB n.val &&& 255 = nI n.val := by decide +kernel
theorem sB_lo : ∀ n : Fin 128, sB n.val = nI n.val := by decide +kernel
theorem isLe_b {n : Nat} (h : isLe n = true) : 97 ≤ n ∧ n ≤ 122 := by
  unfold isLe at h
  rw [Bool.and_eq_true] at h
  exact ⟨Nat.le_of_ble_eq_true h.1, Nat.le_of_ble_eq_true h.2⟩
theorem isDi_b {n : Nat} (h : isDi n = true) : 48 ≤ n ∧ n ≤ 57 := by
  unfold isDi at h
  rw [Bool.and_eq_true] at h
  exact ⟨Nat.le_of_ble_eq_true h.1, Nat.le_of_ble_eq_true h.2⟩
theorem c_isBlank (h : VG) {n : Nat} (hn : n < 256) : ev 89 0 [some (.int (sB n))] [] h = some (some (.int (b01 (isBl n))), h) := by
  rw [← sB_bl ⟨n, hn⟩]
  generalize sB n = x
  simp +decide only [e89_0, e89_1, e89_3, e89_6, e89_7, e89_9, e89_12, e89_13, e89_15, e89_18, e89_19, e89_21, e89_24, e89_25, e89_28, e89_29, vkk_n, vkk_i, vkk_r, vkk_l, vkk_d, catS_nil, catS_i, catS_r, catS_l, catS_d, Nat.reduceAdd, Nat.reduceLeDiff, Nat.zero_le, Nat.le_refl, Option.bind_some, Option.toList_some, Option.toList_none, List.cons_append, List.nil_append, or_true, true_or, if_true, if_false, Int32.reduceLT, Int32.reduceLE, not_true, not_false_iff, true_and, and_true, false_and, and_false]
  (repeat' split) <;> first | rfl | simp_all
theorem c_isLetter (h : VG) (x : Int32) : ev 90 0 [some (.int x)] [] h = some (some (.int (if x < 97 then 0 else if x ≤ 122 then 1 else 0)), h) := by
  simp +decide only [e90_0, e90_1, e90_3, e90_6, e90_7, e90_9, e90_12, e90_13, e90_16, e90_17, vkk_n, vkk_i, vkk_r, vkk_l, vkk_d, catS_nil, catS_i, catS_r, catS_l, catS_d, Nat.reduceAdd, Nat.reduceLeDiff, Nat.zero_le, Nat.le_refl, Option.bind_some, Option.toList_some, Option.toList_none, List.cons_append, List.nil_append, or_true, true_or, if_true, if_false, Int32.reduceLT, Int32.reduceLE, not_true, not_false_iff, true_and, and_true, false_and, and_false]
  (repeat' split) <;> first | rfl | simp_all
theorem c_isDigit (h : VG) (x : Int32) : ev 91 0 [some (.int x)] [] h = some (some (.int (if x < 48 then 0 else if x ≤ 57 then 1 else 0)), h) := by
  simp +decide only [e91_0, e91_1, e91_3, e91_6, e91_7, e91_9, e91_12, e91_13, e91_16, e91_17, vkk_n, vkk_i, vkk_r, vkk_l, vkk_d, catS_nil, catS_i, catS_r, catS_l, catS_d, Nat.reduceAdd, Nat.reduceLeDiff, Nat.zero_le, Nat.le_refl, Option.bind_some, Option.toList_some, Option.toList_none, List.cons_append, List.nil_append, or_true, true_or, if_true, if_false, Int32.reduceLT, Int32.reduceLE, not_true, not_false_iff, true_and, and_true, false_and, and_false]
  (repeat' split) <;> first | rfl | simp_all
theorem c_m_isLetter (h : VG) (x : Int32) : ev 142 0 [some (.int x)] [] h = some (some (.int (if x < 97 then 0 else if x ≤ 122 then 1 else 0)), h) := by
  simp +decide only [e142_0, e142_1, e142_3, e142_6, e142_7, e142_9, e142_12, e142_13, e142_16, e142_17, vkk_n, vkk_i, vkk_r, vkk_l, vkk_d, catS_nil, catS_i, catS_r, catS_l, catS_d, Nat.reduceAdd, Nat.reduceLeDiff, Nat.zero_le, Nat.le_refl, Option.bind_some, Option.toList_some, Option.toList_none, List.cons_append, List.nil_append, or_true, true_or, if_true, if_false, Int32.reduceLT, Int32.reduceLE, not_true, not_false_iff, true_and, and_true, false_and, and_false]
  (repeat' split) <;> first | rfl | simp_all
theorem c_m_isDigit (h : VG) (x : Int32) : ev 141 0 [some (.int x)] [] h = some (some (.int (if x < 48 then 0 else if x ≤ 57 then 1 else 0)), h) := by
  simp +decide only [e141_0, e141_1, e141_3, e141_6, e141_7, e141_9, e141_12, e141_13, e141_16, e141_17, vkk_n, vkk_i, vkk_r, vkk_l, vkk_d, catS_nil, catS_i, catS_r, catS_l, catS_d, Nat.reduceAdd, Nat.reduceLeDiff, Nat.zero_le, Nat.le_refl, Option.bind_some, Option.toList_some, Option.toList_none, List.cons_append, List.nil_append, or_true, true_or, if_true, if_false, Int32.reduceLT, Int32.reduceLE, not_true, not_false_iff, true_and, and_true, false_and, and_false]
  (repeat' split) <;> first | rfl | simp_all
theorem c_le (h : VG) {n : Nat} (hn : n < 256) : ev 90 0 [some (.int (sB n))] [] h = some (some (.int (b01 (isLe n))), h) := by rw [c_isLetter, sB_le ⟨n, hn⟩]
theorem c_di (h : VG) {n : Nat} (hn : n < 256) : ev 91 0 [some (.int (sB n))] [] h = some (some (.int (b01 (isDi n))), h) := by rw [c_isDigit, sB_di ⟨n, hn⟩]
theorem c_m_le (h : VG) {n : Nat} (hn : n < 256) : ev 142 0 [some (.int (nI n))] [] h = some (some (.int (b01 (isLe n))), h) := by rw [c_m_isLetter, nI_le_ ⟨n, hn⟩]
theorem c_m_di (h : VG) {n : Nat} (hn : n < 256) : ev 141 0 [some (.int (nI n))] [] h = some (some (.int (b01 (isDi n))), h) := by rw [c_m_isDigit, nI_di ⟨n, hn⟩]
/-- where a run ends -/
def spn (p : Nat → Bool) (b : Nat → Nat) : Nat → Nat → Nat
  | 0, a => a
  | d + 1, a => if p (b a) then spn p b d (a + 1) else a
theorem spn_b (p : Nat → Bool) (b : Nat → Nat) : ∀ d a, a ≤ spn p b d a ∧ spn p b d a ≤ a + d ∧ (∀ x, a ≤ x → x < spn p b d a → p (b x) = true) ∧ (spn p b d a < a + d → p (b (spn p b d a)) = false) := by
  intro d
  induction d with
  | zero =>
    intro a
    refine ⟨Nat.le_refl _, Nat.le_refl _, fun x h1 h2 => ?_, fun z => ?_⟩
    · have : spn p b 0 a = a := rfl
      omega
    · have : spn p b 0 a = a := rfl
      omega
  | succ d ih =>
    intro a
    have e : spn p b (d + 1) a = if p (b a) then spn p b d (a + 1) else a := rfl
    rw [e]
    cases q : p (b a) with
    | true =>
      simp only [if_true]
      obtain ⟨i1, i2, i3, i4⟩ := ih (a + 1)
      refine ⟨by omega, by omega, fun x h1 h2 => ?_, fun z => i4 (by omega)⟩
      by_cases y : x = a
      · rw [y]
        exact q
      · exact i3 x (by omega) h2
    | false =>
      simp only [Bool.false_eq_true, if_false]
      exact ⟨Nat.le_refl _, by omega, fun x h1 h2 => by omega, fun _ => q⟩
/-- a run's end is known by what lies in it -/
theorem spn_is (p : Nat → Bool) (b : Nat → Nat) (d a e : Nat) (h1 : a ≤ e) (h2 : e ≤ a + d) (h3 : ∀ x, a ≤ x → x < e → p (b x) = true) (h4 : e < a + d → p (b e) = false) : spn p b d a = e := by
  obtain ⟨i1, i2, i3, i4⟩ := spn_b p b d a
  rcases Nat.lt_trichotomy (spn p b d a) e with q | q | q
  · have := h3 _ i1 q
    rw [i4 (by omega)] at this
    cases this
  · exact q
  · have := i3 e h1 q
    rw [h4 (by omega)] at this
    cases this
def tEnd (b : Nat → Nat) (L p : Nat) : Nat := if L ≤ p then p else if isLe (b p) then spn isLe b (L - p) p else if isDi (b p) then spn isDi b (L - p) p else p + 1
def tAt (b : Nat → Nat) (L : Nat) : Nat → Nat
  | 0 => 0
  | t + 1 => tEnd b L (spn isBl b (L - tAt b L t) (tAt b L t))
def tPl (b : Nat → Nat) (L t : Nat) : Nat := spn isBl b (L - tAt b L t) (tAt b L t)
def vl (B : Nat) (d : Nat → Nat) : Nat → Nat
  | 0 => 0
  | n + 1 => B * vl B d n + d n
theorem vl_inj {B : Nat} (hB : 27 ≤ B) : ∀ n n' (d d' : Nat → Nat), (∀ i, i < n → 1 ≤ d i ∧ d i ≤ 26) → (∀ i, i < n' → 1 ≤ d' i ∧ d' i ≤ 26) → vl B d n = vl B d' n' → n = n' ∧ ∀ i, i < n → d i = d' i := by
  intro n
  induction n with
  | zero =>
    intro n' d d' _ h2 e
    cases n' with
    | zero => exact ⟨rfl, fun i hi => absurd hi (Nat.not_lt_zero _)⟩
    | succ n' =>
      exfalso
      have := (h2 n' (by omega)).1
      have e' : 0 = B * vl B d' n' + d' n' := e
      omega
  | succ n ih =>
    intro n' d d' h1 h2 e
    cases n' with
    | zero =>
      exfalso
      have := (h1 n (by omega)).1
      have e' : B * vl B d n + d n = 0 := e
      omega
    | succ n' =>
      have e' : B * vl B d n + d n = B * vl B d' n' + d' n' := e
      have a1 := h1 n (by omega)
      have a2 := h2 n' (by omega)
      have m1 : (B * vl B d n + d n) % B = d n := by rw [Nat.mul_add_mod, Nat.mod_eq_of_lt (by omega)]
      have m2 : (B * vl B d' n' + d' n') % B = d' n' := by rw [Nat.mul_add_mod, Nat.mod_eq_of_lt (by omega)]
      have dd : d n = d' n' := by rw [← m1, ← m2, e']
      have vv : vl B d n = vl B d' n' := by
        have : B * vl B d n = B * vl B d' n' := by omega
        exact Nat.eq_of_mul_eq_mul_left (by omega) this
      obtain ⟨i1, i2⟩ := ih n' d d' (fun i hi => h1 i (by omega)) (fun i hi => h2 i (by omega)) vv
      subst i1
      refine ⟨rfl, fun i hi => ?_⟩
      by_cases q : i = n
      · rw [q]
        exact dd
      · exact i2 i (by omega)
theorem vl_same {n n' : Nat} {d d' : Nat → Nat} (h1 : ∀ i, i < n → 1 ≤ d i ∧ d i ≤ 26) (h2 : ∀ i, i < n' → 1 ≤ d' i ∧ d' i ≤ 26) : vl 32 d n = vl 32 d' n' ↔ vl 27 d n = vl 27 d' n' := by
  have cg : ∀ B n, (∀ i, i < n → d i = d' i) → vl B d n = vl B d' n := by
    intro B n
    induction n with
    | zero =>
      intro _
      rfl
    | succ n ih =>
      intro h
      show B * vl B d n + d n = B * vl B d' n + d' n
      rw [ih (fun i hi => h i (by omega)), h n (by omega)]
  constructor
  · intro e
    obtain ⟨i1, i2⟩ := vl_inj (by decide) n n' d d' h1 h2 e
    subst i1
    exact cg 27 n i2
  · intro e
    obtain ⟨i1, i2⟩ := vl_inj (by decide) n n' d d' h1 h2 e
    subst i1
    exact cg 32 n i2
theorem vl_lt {B : Nat} (hB : 27 ≤ B) : ∀ n (d : Nat → Nat), (∀ i, i < n → 1 ≤ d i ∧ d i ≤ 26) → vl B d n < B ^ n := by
  intro n
  induction n with
  | zero =>
    intro d _
    exact Nat.one_pos
  | succ n ih =>
    intro d h
    have i := ih d (fun i hi => h i (by omega))
    have a := h n (by omega)
    show B * vl B d n + d n < B ^ n * B
    have : B * vl B d n + B ≤ B ^ n * B := by
      rw [Nat.mul_comm B, ← Nat.succ_mul]
      exact Nat.mul_le_mul_right B i
    omega
/-! words -/
def cwN (w : Nat) : Nat := [208935, 91781, 106546, 20201044, 9684, 409031, 6700084, 150636933, 578596, 17042, 2343, 402885, 212557, 206220].getD w 0
def mkN (w : Nat) : Nat := [1708, 243140, 129532, 124995, 126880, 58136, 64926, 10266284, 6959, 247516, 3435824, 65782373, 349951, 12222].getD w 0
def tau (w : Nat) : Nat := if w < 10 then w + 4 else w - 10
def wLt (w : Nat) : List Nat := [[6, 12, 1, 7], [2, 25, 20, 5], [3, 8, 1, 18], [19, 8, 15, 18, 20], [9, 14, 20], [12, 15, 14, 7], [6, 12, 15, 1, 20], [4, 15, 21, 2, 12, 5], [17, 21, 1, 4], [16, 20, 18], [2, 9, 7], [12, 9, 14, 5], [6, 15, 18, 13], [6, 9, 12, 12]].getD w []
theorem cWord_n : ∀ w : Fin 14, cWord w.val = Int64.ofNat (cwN w.val) ∧ mKey w.val = Int64.ofNat (mkN w.val) := by decide +kernel
theorem wLt_ok : ∀ w : Fin 14, vl 32 (fun i => (wLt w.val).getD i 0) (wLt w.val).length = cwN w.val ∧ vl 27 (fun i => (wLt w.val).getD i 0) (wLt w.val).length = mkN (tau w.val) ∧ ∀ i : Fin 8, i.val < (wLt w.val).length → 1 ≤ (wLt w.val).getD i.val 0 ∧ (wLt w.val).getD i.val 0 ≤ 26 := by decide +kernel
theorem wLt_8 : ∀ w : Fin 14, (wLt w.val).length ≤ 8 := by decide +kernel
/-- the first word that it is, from w on, d to look at (14: none) -/
def wF (v : Nat) : Nat → Nat → Nat
  | 0, _ => 14
  | d + 1, w => if cwN w = v then w else wF v d (w + 1)
def wKd (v : Nat) : Nat := if wF v 14 0 < 10 then 24 + wF v 14 0 else if wF v 14 0 < 14 then 10 + wF v 14 0 else 1
def kF (u : Nat) : Nat → Nat → Nat → Nat
  | 0, _, c => c
  | d + 1, k, c => kF u d (k + 1) (if mkN k = u then 20 + k else c)
theorem wF_le (v : Nat) : ∀ d w, w + d = 14 → w ≤ wF v d w ∧ wF v d w ≤ 14 ∧ (wF v d w < 14 → cwN (wF v d w) = v) ∧ (wF v d w = 14 → ∀ x, w ≤ x → x < 14 → ¬ cwN x = v) := by
  intro d
  induction d with
  | zero =>
    intro w hw
    refine ⟨by have : wF v 0 w = 14 := rfl; omega, Nat.le_refl _, fun z => absurd z (Nat.lt_irrefl _), fun _ x h1 h2 => by omega⟩
  | succ d ih =>
    intro w hw
    have e : wF v (d + 1) w = if cwN w = v then w else wF v d (w + 1) := rfl
    rw [e]
    by_cases q : cwN w = v
    · rw [if_pos q]
      exact ⟨Nat.le_refl _, by omega, fun _ => q, fun z => by omega⟩
    · rw [if_neg q]
      obtain ⟨i1, i2, i3, i4⟩ := ih (w + 1) (by omega)
      refine ⟨by omega, i2, i3, fun z x h1 h2 => ?_⟩
      by_cases y : x = w
      · rw [y]
        exact q
      · exact i4 z x (by omega) h2
theorem kF_no (u : Nat) : ∀ d k c, (∀ x, k ≤ x → x < k + d → ¬ mkN x = u) → kF u d k c = c := by
  intro d
  induction d with
  | zero =>
    intro k c _
    rfl
  | succ d ih =>
    intro k c h
    show kF u d (k + 1) (if mkN k = u then 20 + k else c) = c
    rw [if_neg (h k (Nat.le_refl _) (by omega))]
    exact ih (k + 1) c (fun x h1 h2 => h x (by omega) (by omega))
theorem kF_at : ∀ w : Fin 14, kF (mkN (tau w.val)) 14 0 1 = wKd (cwN w.val) := by decide +kernel
theorem tau_on : ∀ x : Fin 14, ∃ w : Fin 14, tau w.val = x.val := by decide +kernel
theorem word_both {n : Nat} {d : Nat → Nat} (h : ∀ i, i < n → 1 ≤ d i ∧ d i ≤ 26) : kF (vl 27 d n) 14 0 1 = wKd (vl 32 d n) := by
  have eq : ∀ w, w < 14 → (cwN w = vl 32 d n ↔ mkN (tau w) = vl 27 d n) := by
    intro w hw
    obtain ⟨e1, e2, e3⟩ := wLt_ok ⟨w, hw⟩
    have l8 := wLt_8 ⟨w, hw⟩
    rw [← e1, ← e2]
    exact vl_same (fun i hi => e3 ⟨i, by simp only at l8 hi; omega⟩ hi) h
  obtain ⟨-, f2, f3, f4⟩ := wF_le (vl 32 d n) 14 0 rfl
  by_cases q : wF (vl 32 d n) 14 0 < 14
  · have a := f3 q
    have b := (eq _ q).mp a
    have c := kF_at ⟨_, q⟩
    rw [← b]
    exact c.trans (congrArg wKd a)
  · have z : wF (vl 32 d n) 14 0 = 14 := by omega
    have no := f4 z
    have r : wKd (vl 32 d n) = 1 := by
      unfold wKd
      rw [z]
      rfl
    rw [r]
    refine kF_no _ 14 0 1 (fun x _ hx => ?_)
    obtain ⟨w, hw⟩ := tau_on ⟨x, by omega⟩
    intro y
    refine no w.val (Nat.zero_le _) w.isLt ((eq w.val w.isLt).mpr ?_)
    rw [hw]
    exact y
/-- the kind of the token at p; digits of its name, of its number -/
def dgL (b : Nat → Nat) (p i : Nat) : Nat := b (p + i) - 96
def dgD (b : Nat → Nat) (p i : Nat) : Nat := b (p + i) - 48
def tKd (b : Nat → Nat) (L p : Nat) : Nat := if L ≤ p then 0 else if isLe (b p) then (if 8 < spn isLe b (L - p) p - p then 3 else wKd (vl 32 (dgL b p) (spn isLe b (L - p) p - p))) else if isDi (b p) then (if 4 < spn isDi b (L - p) p - p then 3 else 2) else if b p = 59 then 4 else 3
def tNm (b : Nat → Nat) (L p : Nat) : Nat := vl 32 (dgL b p) (spn isLe b (L - p) p - p)
def tN7 (b : Nat → Nat) (L p : Nat) : Nat := vl 27 (dgL b p) (spn isLe b (L - p) p - p)
def tIv (b : Nat → Nat) (L p : Nat) : Nat := vl 10 (dgD b p) (spn isDi b (L - p) p - p)
/-- the class's types -/
def cTy (k : Nat) : Nat := if k = 0 then 0 else if k = 3 then 1 else if k = 1 then 2 else if k = 2 then 3 else if k = 4 then 4 else if 24 ≤ k then 5 else k - 14
theorem dgL_ok {b : Nat → Nat} {p d i : Nat} (hi : p + i < spn isLe b d p) : 1 ≤ dgL b p i ∧ dgL b p i ≤ 26 := by
  have := isLe_b ((spn_b isLe b d p).2.2.1 (p + i) (by omega) hi)
  unfold dgL
  omega
theorem wKd_or (v : Nat) : wKd v = 1 ∨ (20 ≤ wKd v ∧ wKd v ≤ 33) := by
  have := (wF_le v 14 0 rfl).2.1
  unfold wKd
  (repeat' split) <;> omega
theorem tKd_or (b : Nat → Nat) (L p : Nat) : tKd b L p ≤ 4 ∨ (20 ≤ tKd b L p ∧ tKd b L p ≤ 33) := by
  unfold tKd
  (repeat' split) <;> first | omega | skip
  rcases wKd_or (vl 32 (dgL b p) (spn isLe b (L - p) p - p)) with z | z <;> omega
theorem tPl_b (b : Nat → Nat) (L t : Nat) (h : tAt b L t ≤ L) : tAt b L t ≤ tPl b L t ∧ tPl b L t ≤ L := by
  obtain ⟨i1, i2, -⟩ := spn_b isBl b (L - tAt b L t) (tAt b L t)
  unfold tPl
  omega
theorem tEnd_b (b : Nat → Nat) (L p : Nat) (h : p ≤ L) : p ≤ tEnd b L p ∧ tEnd b L p ≤ L ∧ (p < L → p < tEnd b L p) := by
  unfold tEnd
  by_cases q : L ≤ p
  · rw [if_pos q]
    omega
  · rw [if_neg q]
    cases q1 : isLe (b p) with
    | true =>
      simp only [if_true]
      obtain ⟨i1, i2, i3, i4⟩ := spn_b isLe b (L - p) p
      refine ⟨i1, by omega, fun _ => ?_⟩
      rcases Nat.lt_or_ge p (spn isLe b (L - p) p) with z | z
      · exact z
      · have e : spn isLe b (L - p) p = p := by omega
        have := i4 (by omega)
        rw [e, q1] at this
        cases this
    | false =>
      simp only [Bool.false_eq_true, if_false]
      cases q2 : isDi (b p) with
      | true =>
        simp only [if_true]
        obtain ⟨i1, i2, i3, i4⟩ := spn_b isDi b (L - p) p
        refine ⟨i1, by omega, fun _ => ?_⟩
        rcases Nat.lt_or_ge p (spn isDi b (L - p) p) with z | z
        · exact z
        · have e : spn isDi b (L - p) p = p := by omega
          have := i4 (by omega)
          rw [e, q2] at this
          cases this
      | false =>
        simp only [Bool.false_eq_true, if_false]
        omega
theorem tAt_le (b : Nat → Nat) (L : Nat) : ∀ t, tAt b L t ≤ L
  | 0 => Nat.zero_le _
  | t + 1 => (tEnd_b b L _ (tPl_b b L t (tAt_le b L t)).2).2.1
theorem tPl_le (b : Nat → Nat) (L t : Nat) : tPl b L t ≤ L := (tPl_b b L t (tAt_le b L t)).2
theorem tPl_up (b : Nat → Nat) (L t : Nat) (h : ¬ tKd b L (tPl b L t) = 0) : tPl b L t < tPl b L (t + 1) := by
  have q : ¬ L ≤ tPl b L t := fun z => h (if_pos z)
  have a := (tEnd_b b L (tPl b L t) (tPl_le b L t)).2.2 (by omega)
  have e : tAt b L (t + 1) = tEnd b L (tPl b L t) := rfl
  have c := (tPl_b b L (t + 1) (tAt_le b L (t + 1))).1
  omega
