/-! skeletons of heaps: what no write changes; frames -/
def skv (v : Value) : Value := match v with
  | .int _ => .int 0
  | .long _ => .long 0
  | .double _ => .double 0
  | v => v
def ske (c : VE) : VE := match c with
  | .inl (t, n, .inl _) => .inl (t, n, .inl (fun _ => 0))
  | .inl (t, n, .inr (.inl _)) => .inl (t, n, .inr (.inl (fun _ => 0)))
  | .inl (t, n, .inr (.inr (.inr (.inl _)))) => .inl (t, n, .inr (.inr (.inr (.inl (fun _ => 0)))))
  | .inr q => .inr (q.1, q.2.map skv)
  | c => c
def skh (h : VG) : VG := (fun a => ske (h.1 a), h.2)
theorem skv_tag {v w : Value} (h1 : vtag w = vtag v) (h3 : vtag v < 3) : skv w = skv v := by
  cases v <;> cases w <;> first | rfl | (exfalso; revert h1; decide) | (exfalso; revert h3; decide) | (simp [vtag] at h1 h3)
theorem tag_skv (v : Value) : vtag (skv v) = vtag v := by cases v <;> rfl
theorem vset_skv (fs : List Value) (k : Nat) (v : Value) (h3 : vtag v < 3) : (vset fs k v).map skv = fs.map skv := by
  unfold vset
  split
  · rename_i hc
    apply List.ext_getElem?
    intro i
    rw [List.getElem?_map, List.getElem?_set, List.getElem?_map]
    by_cases hi : k = i
    · subst hi
      rw [if_pos rfl]
      cases hv : fs[k]? with
      | none => rw [hv] at hc; cases hc
      | some w =>
        rw [hv] at hc
        rw [if_pos (List.getElem?_eq_some_iff.mp hv).1]
        show some (skv v) = some (skv w)
        rw [skv_tag (Option.some.inj hc) h3]
    · rw [if_neg hi]
  · rfl
theorem skh_set (h : VG) (a : Nat) (c : VE) (hc : ske c = ske (h.1 a)) : skh (hset h a c) = skh h := by
  unfold skh
  refine Prod.ext ?_ rfl
  funext b
  show ske ((hset h a c).1 b) = ske (h.1 b)
  rw [hset_1]
  by_cases hb : b = a
  · rw [if_pos hb, hb, hc]
  · rw [if_neg hb]
theorem skh_pV (h : VG) (a k : Nat) (v : Value) (h3 : vtag v < 3) : skh (pV h a k v) = skh h := by
  refine skh_set h a _ ?_
  cases hc : h.1 a with
  | inl y => rfl
  | inr q =>
    show (Sum.inr (q.1, (vset q.2 k v).map skv) : VE) = .inr (q.1, q.2.map skv)
    rw [vset_skv _ _ _ h3]
theorem skh_pI (h : VG) (a k : Nat) (x : Int32) : skh (pI h a k x) = skh h := skh_pV h a k _ (Nat.le_of_ble_eq_true rfl)
theorem skh_pL (h : VG) (a k : Nat) (x : Int64) : skh (pL h a k x) = skh h := skh_pV h a k _ (Nat.le_of_ble_eq_true rfl)
theorem skh_pD (h : VG) (a k : Nat) (x : UInt64) : skh (pD h a k x) = skh h := skh_pV h a k _ (Nat.le_of_ble_eq_true rfl)
theorem skh_wI (h : VG) (a : Nat) (i : Nat) (x : Int32) : skh (wI h a i x) = skh h := by
  refine skh_set h a _ ?_
  cases hc : h.1 a with
  | inr y => rfl
  | inl y =>
    obtain ⟨t, n, r⟩ := y
    rcases r with f | f | f | f | f <;> rfl
theorem skh_wL (h : VG) (a : Nat) (i : Nat) (x : Int64) : skh (wL h a i x) = skh h := by
  refine skh_set h a _ ?_
  cases hc : h.1 a with
  | inr y => rfl
  | inl y =>
    obtain ⟨t, n, r⟩ := y
    rcases r with f | f | f | f | f <;> rfl
theorem skh_wD (h : VG) (a : Nat) (i : Nat) (x : UInt64) : skh (wD h a i x) = skh h := by
  refine skh_set h a _ ?_
  cases hc : h.1 a with
  | inr y => rfl
  | inl y =>
    obtain ⟨t, n, r⟩ := y
    rcases r with f | f | f | f | f <;> rfl
theorem skh_bI (h : VG) (a : Nat) (F : Nat → Int32) : skh (bI h a F) = skh h := by
  refine skh_set h a _ ?_
  cases hc : h.1 a with
  | inr y => rfl
  | inl y =>
    obtain ⟨t, n, r⟩ := y
    rcases r with f | f | f | f | f <;> rfl
theorem skh_bL (h : VG) (a : Nat) (F : Nat → Int64) : skh (bL h a F) = skh h := by
  refine skh_set h a _ ?_
  cases hc : h.1 a with
  | inr y => rfl
  | inl y =>
    obtain ⟨t, n, r⟩ := y
    rcases r with f | f | f | f | f <;> rfl
theorem skh_bD (h : VG) (a : Nat) (F : Nat → UInt64) : skh (bD h a F) = skh h := by
  refine skh_set h a _ ?_
  cases hc : h.1 a with
  | inr y => rfl
  | inl y =>
    obtain ⟨t, n, r⟩ := y
    rcases r with f | f | f | f | f <;> rfl
theorem gV_sk (h : VG) (a k : Nat) : gV (skh h) a k = skv (gV h a k) := by
  unfold gV skh
  dsimp only
  cases hc : h.1 a with
  | inl y =>
    obtain ⟨t, n, r⟩ := y
    rcases r with f | f | f | f | f <;> rfl
  | inr q =>
    show (q.2.map skv).getD k .null = skv (q.2.getD k .null)
    rw [List.getD_eq_getElem?_getD, List.getD_eq_getElem?_getD, List.getElem?_map]
    cases q.2[k]? <;> rfl
theorem rf_sk (h : VG) (a k t : Nat) : rf (skh h) a k t ↔ rf h a k t := by
  unfold rf
  rw [gV_sk]
  cases gV h a k <;> simp [skv]
theorem ob_sk (h : VG) (a c : Nat) : ob (skh h) a c ↔ ob h a c := by
  unfold ob skh
  dsimp only
  cases hc : h.1 a with
  | inl y =>
    obtain ⟨t, n, r⟩ := y
    rcases r with f | f | f | f | f <;> exact ⟨fun ⟨_, z, _⟩ => (by cases z), fun ⟨_, z, _⟩ => (by cases z)⟩
  | inr q =>
    have hm : (q.2.map skv).map vtag = q.2.map vtag := by
      rw [List.map_map]
      exact congrArg (fun f => q.2.map f) (funext fun v => tag_skv v)
    constructor
    · rintro ⟨fs, z1, z2⟩
      have z3 := Sum.inr.inj z1
      refine ⟨q.2, ?_, ?_⟩
      · rw [← (Prod.mk.inj z3).1]
      · rw [← hm, ← z2, ← (Prod.mk.inj z3).2]
    · rintro ⟨fs, z1, z2⟩
      have z3 := Sum.inr.inj z1
      refine ⟨q.2.map skv, ?_, ?_⟩
      · show (Sum.inr (q.1, q.2.map skv) : VE) = .inr (c, q.2.map skv)
        rw [z3]
      · rw [hm, ← z2, z3]
theorem aln_sk (h : VG) (a : Nat) : aln (skh h) a = aln h a := by
  unfold aln skh
  dsimp only
  cases hc : h.1 a with
  | inr y => rfl
  | inl y =>
    obtain ⟨t, n, r⟩ := y
    rcases r with f | f | f | f | f <;> rfl
theorem aR_sk (h : VG) (a i : Nat) : aR (skh h) a i = aR h a i := by
  unfold aR skh
  dsimp only
  cases hc : h.1 a with
  | inr y => rfl
  | inl y =>
    obtain ⟨t, n, r⟩ := y
    rcases r with f | f | f | f | f <;> rfl
theorem arI_sk (h : VG) (a : Nat) (t : Nat) : arI (skh h) a t ↔ arI h a t := by
  unfold arI skh
  dsimp only
  cases hc : h.1 a with
  | inr y => exact ⟨fun ⟨_, _, z⟩ => (by cases z), fun ⟨_, _, z⟩ => (by cases z)⟩
  | inl y =>
    obtain ⟨t0, n, r⟩ := y
    rcases r with f | f | f | f | f <;> first | exact Iff.rfl | exact ⟨fun ⟨n, g, z⟩ => (by cases z; exact ⟨_, _, rfl⟩), fun ⟨n, g, z⟩ => (by cases z; exact ⟨_, _, rfl⟩)⟩ | exact ⟨fun ⟨_, _, z⟩ => (by cases z), fun ⟨_, _, z⟩ => (by cases z)⟩
theorem arL_sk (h : VG) (a : Nat) : arL (skh h) a ↔ arL h a := by
  unfold arL skh
  dsimp only
  cases hc : h.1 a with
  | inr y => exact ⟨fun ⟨_, _, z⟩ => (by cases z), fun ⟨_, _, z⟩ => (by cases z)⟩
  | inl y =>
    obtain ⟨t0, n, r⟩ := y
    rcases r with f | f | f | f | f <;> first | exact Iff.rfl | exact ⟨fun ⟨n, g, z⟩ => (by cases z; exact ⟨_, _, rfl⟩), fun ⟨n, g, z⟩ => (by cases z; exact ⟨_, _, rfl⟩)⟩ | exact ⟨fun ⟨_, _, z⟩ => (by cases z), fun ⟨_, _, z⟩ => (by cases z)⟩
theorem arD_sk (h : VG) (a : Nat) : arD (skh h) a ↔ arD h a := by
  unfold arD skh
  dsimp only
  cases hc : h.1 a with
  | inr y => exact ⟨fun ⟨_, _, z⟩ => (by cases z), fun ⟨_, _, z⟩ => (by cases z)⟩
  | inl y =>
    obtain ⟨t0, n, r⟩ := y
    rcases r with f | f | f | f | f <;> first | exact Iff.rfl | exact ⟨fun ⟨n, g, z⟩ => (by cases z; exact ⟨_, _, rfl⟩), fun ⟨n, g, z⟩ => (by cases z; exact ⟨_, _, rfl⟩)⟩ | exact ⟨fun ⟨_, _, z⟩ => (by cases z), fun ⟨_, _, z⟩ => (by cases z)⟩
theorem arR_sk (h : VG) (a : Nat) (t : Nat) : arR (skh h) a t ↔ arR h a t := by
  unfold arR skh
  dsimp only
  cases hc : h.1 a with
  | inr y => exact ⟨fun ⟨_, _, z⟩ => (by cases z), fun ⟨_, _, z⟩ => (by cases z)⟩
  | inl y =>
    obtain ⟨t0, n, r⟩ := y
    rcases r with f | f | f | f | f <;> first | exact Iff.rfl | exact ⟨fun ⟨n, g, z⟩ => (by cases z; exact ⟨_, _, rfl⟩), fun ⟨n, g, z⟩ => (by cases z; exact ⟨_, _, rfl⟩)⟩ | exact ⟨fun ⟨_, _, z⟩ => (by cases z), fun ⟨_, _, z⟩ => (by cases z)⟩
theorem rdI_sk (h : VG) (a : Nat) : rdI (skh h) a ↔ rdI h a := by unfold rdI; simp only [arI_sk]
theorem rdB_sk (h : VG) (a : Nat) : rdB (skh h) a ↔ rdB h a := by unfold rdB; simp only [arI_sk]
theorem rdR_sk (h : VG) (a : Nat) : rdR (skh h) a ↔ rdR h a := by unfold rdR; simp only [arR_sk]
theorem ShBin_sk (h : VG) (a : Nat) : ShBin (skh h) a ↔ ShBin h a := by unfold ShBin; simp only [ob_sk, rf_sk, arI_sk, arL_sk, arD_sk, arR_sk, aln_sk, aR_sk]
theorem ShMem_sk (h : VG) (a : Nat) : ShMem (skh h) a ↔ ShMem h a := by unfold ShMem; simp only [ob_sk, rf_sk, arI_sk, arL_sk, arD_sk, arR_sk, aln_sk, aR_sk]
theorem ShState_sk (h : VG) (a : Nat) : ShState (skh h) a ↔ ShState h a := by unfold ShState; simp only [ob_sk, rf_sk, arI_sk, arL_sk, arD_sk, arR_sk, aln_sk, aR_sk, ShMem_sk, ShBin_sk]
theorem ShForm_sk (h : VG) (a : Nat) : ShForm (skh h) a ↔ ShForm h a := by unfold ShForm; simp only [ob_sk, rf_sk, arI_sk, arL_sk, arD_sk, arR_sk, aln_sk, aR_sk]
theorem ShPlan_sk (h : VG) (a : Nat) : ShPlan (skh h) a ↔ ShPlan h a := by unfold ShPlan; simp only [ob_sk, rf_sk, arI_sk, arL_sk, arD_sk, arR_sk, aln_sk, aR_sk, ShMem_sk, ShForm_sk]
theorem ShTok_sk (h : VG) (a : Nat) : ShTok (skh h) a ↔ ShTok h a := by unfold ShTok; simp only [ob_sk, rf_sk, arI_sk, arL_sk, arD_sk, arR_sk, aln_sk, aR_sk]
theorem ShCls_sk (h : VG) (a : Nat) : ShCls (skh h) a ↔ ShCls h a := by unfold ShCls; simp only [ob_sk, rf_sk, arI_sk, arL_sk, arD_sk, arR_sk, aln_sk, aR_sk, ShTok_sk, ShPlan_sk, ShState_sk]
theorem ShMod_sk (h : VG) (a : Nat) : ShMod (skh h) a ↔ ShMod h a := by unfold ShMod; simp only [ob_sk, rf_sk, arI_sk, arL_sk, arD_sk, arR_sk, aln_sk, aR_sk]
theorem ShBin_kp {h h1 : VG} (e : skh h1 = skh h) (a : Nat) : ShBin h1 a ↔ ShBin h a := by rw [← ShBin_sk h1, e, ShBin_sk]
theorem ShMem_kp {h h1 : VG} (e : skh h1 = skh h) (a : Nat) : ShMem h1 a ↔ ShMem h a := by rw [← ShMem_sk h1, e, ShMem_sk]
theorem ShState_kp {h h1 : VG} (e : skh h1 = skh h) (a : Nat) : ShState h1 a ↔ ShState h a := by rw [← ShState_sk h1, e, ShState_sk]
theorem ShForm_kp {h h1 : VG} (e : skh h1 = skh h) (a : Nat) : ShForm h1 a ↔ ShForm h a := by rw [← ShForm_sk h1, e, ShForm_sk]
theorem ShPlan_kp {h h1 : VG} (e : skh h1 = skh h) (a : Nat) : ShPlan h1 a ↔ ShPlan h a := by rw [← ShPlan_sk h1, e, ShPlan_sk]
theorem ShTok_kp {h h1 : VG} (e : skh h1 = skh h) (a : Nat) : ShTok h1 a ↔ ShTok h a := by rw [← ShTok_sk h1, e, ShTok_sk]
theorem ShCls_kp {h h1 : VG} (e : skh h1 = skh h) (a : Nat) : ShCls h1 a ↔ ShCls h a := by rw [← ShCls_sk h1, e, ShCls_sk]
theorem ShMod_kp {h h1 : VG} (e : skh h1 = skh h) (a : Nat) : ShMod h1 a ↔ ShMod h a := by rw [← ShMod_sk h1, e, ShMod_sk]
theorem arL_kp {h h1 : VG} (e : skh h1 = skh h) (a : Nat) : arL h1 a ↔ arL h a := by rw [← arL_sk h1, e, arL_sk]
theorem arD_kp {h h1 : VG} (e : skh h1 = skh h) (a : Nat) : arD h1 a ↔ arD h a := by rw [← arD_sk h1, e, arD_sk]
theorem rdI_kp {h h1 : VG} (e : skh h1 = skh h) (a : Nat) : rdI h1 a ↔ rdI h a := by rw [← rdI_sk h1, e, rdI_sk]
theorem rdB_kp {h h1 : VG} (e : skh h1 = skh h) (a : Nat) : rdB h1 a ↔ rdB h a := by rw [← rdB_sk h1, e, rdB_sk]
theorem rdR_kp {h h1 : VG} (e : skh h1 = skh h) (a : Nat) : rdR h1 a ↔ rdR h a := by rw [← rdR_sk h1, e, rdR_sk]
theorem ob_kp {h h1 : VG} (e : skh h1 = skh h) (a : Nat) (c : Nat) : ob h1 a c ↔ ob h a c := by rw [← ob_sk h1, e, ob_sk]
theorem arI_kp {h h1 : VG} (e : skh h1 = skh h) (a : Nat) (c : Nat) : arI h1 a c ↔ arI h a c := by rw [← arI_sk h1, e, arI_sk]
theorem arR_kp {h h1 : VG} (e : skh h1 = skh h) (a : Nat) (c : Nat) : arR h1 a c ↔ arR h a c := by rw [← arR_sk h1, e, arR_sk]
theorem rf_kp {h h1 : VG} (e : skh h1 = skh h) (a k t : Nat) : rf h1 a k t ↔ rf h a k t := by rw [← rf_sk h1, e, rf_sk]
theorem aln_kp {h h1 : VG} (e : skh h1 = skh h) (a : Nat) : aln h1 a = aln h a := by rw [← aln_sk h1, e, aln_sk]
theorem aR_kp {h h1 : VG} (e : skh h1 = skh h) (a i : Nat) : aR h1 a i = aR h a i := by rw [← aR_sk h1, e, aR_sk]
theorem two_kp {h h1 : VG} (e : skh h1 = skh h) : h1.2 = h.2 := by
  have q := congrArg Prod.snd e
  exact q
/-- nothing but the rows R and the fields F has changed -/
def Fr (R : Nat → Prop) (F : Nat → Nat → Prop) (h h1 : VG) : Prop := skh h1 = skh h ∧ (∀ a, ¬ R a → ∀ j, aI h1 a j = aI h a j ∧ aL h1 a j = aL h a j ∧ aD h1 a j = aD h a j) ∧ ∀ a k, ¬ F a k → gV h1 a k = gV h a k
theorem Fr.rfl {R : Nat → Prop} {F : Nat → Nat → Prop} (h : VG) : Fr R F h h := ⟨Eq.refl _, fun _ _ _ => ⟨Eq.refl _, Eq.refl _, Eq.refl _⟩, fun _ _ _ => Eq.refl _⟩
theorem Fr.tr {R : Nat → Prop} {F : Nat → Nat → Prop} {h h1 h2 : VG} (x : Fr R F h h1) (y : Fr R F h1 h2) : Fr R F h h2 :=
  ⟨y.1.trans x.1, fun a ha j => ⟨((y.2.1 a ha j).1).trans (x.2.1 a ha j).1, ((y.2.1 a ha j).2.1).trans (x.2.1 a ha j).2.1, ((y.2.1 a ha j).2.2).trans (x.2.1 a ha j).2.2⟩, fun a k hk => (y.2.2 a k hk).trans (x.2.2 a k hk)⟩
theorem Fr.mo {R R1 : Nat → Prop} {F F1 : Nat → Nat → Prop} {h h1 : VG} (x : Fr R F h h1) (hr : ∀ a, R a → R1 a) (hf : ∀ a k, F a k → F1 a k) : Fr R1 F1 h h1 :=
  ⟨x.1, fun a ha => x.2.1 a (fun z => ha (hr a z)), fun a k hk => x.2.2 a k (fun z => hk (hf a k z))⟩
section
variable {R : Nat → Prop} {F : Nat → Nat → Prop} {h h1 : VG}
theorem Fr.I (x : Fr R F h h1) {a : Nat} (ha : ¬ R a) (j : Nat) : aI h1 a j = aI h a j := (x.2.1 a ha j).1
theorem Fr.L (x : Fr R F h h1) {a : Nat} (ha : ¬ R a) (j : Nat) : aL h1 a j = aL h a j := (x.2.1 a ha j).2.1
theorem Fr.D (x : Fr R F h h1) {a : Nat} (ha : ¬ R a) (j : Nat) : aD h1 a j = aD h a j := (x.2.1 a ha j).2.2
theorem Fr.gI (x : Fr R F h h1) {a k : Nat} (hk : ¬ F a k) : gI h1 a k = gI h a k := by unfold Jvm.Pilot.@@N@@.gI; rw [x.2.2 a k hk]
theorem Fr.gL (x : Fr R F h h1) {a k : Nat} (hk : ¬ F a k) : gL h1 a k = gL h a k := by unfold Jvm.Pilot.@@N@@.gL; rw [x.2.2 a k hk]
theorem Fr.gD (x : Fr R F h h1) {a k : Nat} (hk : ¬ F a k) : gD h1 a k = gD h a k := by unfold Jvm.Pilot.@@N@@.gD; rw [x.2.2 a k hk]
theorem Fr.two (x : Fr R F h h1) : h1.2 = h.2 := two_kp x.1
end
theorem Fr_pI {R : Nat → Prop} {F : Nat → Nat → Prop} (h : VG) (a k : Nat) (x : Int32) (hf : F a k) : Fr R F h (pI h a k x) :=
  ⟨skh_pI h a k x, fun b _ j => ⟨aI_pI h a k x b j, aL_pI h a k x b j, aD_pI h a k x b j⟩, fun b j hj => by
    show gV (pV h a k _) b j = gV h b j
    rw [gV_pV _ _ _ _ _ _ (fun z => absurd z (by intro w; cases w)), if_neg]
    intro z
    rw [z.1, z.2.1] at hj
    exact hj hf⟩
theorem Fr_pL {R : Nat → Prop} {F : Nat → Nat → Prop} (h : VG) (a k : Nat) (x : Int64) (hf : F a k) : Fr R F h (pL h a k x) :=
  ⟨skh_pL h a k x, fun b _ j => ⟨aI_pL h a k x b j, aL_pL h a k x b j, aD_pL h a k x b j⟩, fun b j hj => by
    show gV (pV h a k _) b j = gV h b j
    rw [gV_pV _ _ _ _ _ _ (fun z => absurd z (by intro w; cases w)), if_neg]
    intro z
    rw [z.1, z.2.1] at hj
    exact hj hf⟩
theorem Fr_pD {R : Nat → Prop} {F : Nat → Nat → Prop} (h : VG) (a k : Nat) (x : UInt64) (hf : F a k) : Fr R F h (pD h a k x) :=
  ⟨skh_pD h a k x, fun b _ j => ⟨aI_pD h a k x b j, aL_pD h a k x b j, aD_pD h a k x b j⟩, fun b j hj => by
    show gV (pV h a k _) b j = gV h b j
    rw [gV_pV _ _ _ _ _ _ (fun z => absurd z (by intro w; cases w)), if_neg]
    intro z
    rw [z.1, z.2.1] at hj
    exact hj hf⟩
theorem Fr_wI {R : Nat → Prop} {F : Nat → Nat → Prop} (h : VG) (a : Nat) (i : Nat) (x : Int32) (hr : R a) : Fr R F h (wI h a i x) :=
  ⟨skh_wI h a i x, fun c hc j => ⟨aI_wI_ne h a _ _ c j (fun z => hc (z ▸ hr)), aL_wI h a _ _ c j, aD_wI h a _ _ c j⟩, fun c j _ => gV_wI h a _ _ c j⟩
theorem Fr_bI {R : Nat → Prop} {F : Nat → Nat → Prop} (h : VG) (a : Nat) (G : Nat → Int32) (hr : R a) : Fr R F h (bI h a G) :=
  ⟨skh_bI h a G, fun c hc j => ⟨aI_bI_ne h a _ c j (fun z => hc (z ▸ hr)), aL_bI h a _ c j, aD_bI h a _ c j⟩, fun c j _ => gV_bI h a _ c j⟩
theorem Fr_wL {R : Nat → Prop} {F : Nat → Nat → Prop} (h : VG) (a : Nat) (i : Nat) (x : Int64) (hr : R a) : Fr R F h (wL h a i x) :=
  ⟨skh_wL h a i x, fun c hc j => ⟨aI_wL h a _ _ c j, aL_wL_ne h a _ _ c j (fun z => hc (z ▸ hr)), aD_wL h a _ _ c j⟩, fun c j _ => gV_wL h a _ _ c j⟩
theorem Fr_bL {R : Nat → Prop} {F : Nat → Nat → Prop} (h : VG) (a : Nat) (G : Nat → Int64) (hr : R a) : Fr R F h (bL h a G) :=
  ⟨skh_bL h a G, fun c hc j => ⟨aI_bL h a _ c j, aL_bL_ne h a _ c j (fun z => hc (z ▸ hr)), aD_bL h a _ c j⟩, fun c j _ => gV_bL h a _ c j⟩
theorem Fr_wD {R : Nat → Prop} {F : Nat → Nat → Prop} (h : VG) (a : Nat) (i : Nat) (x : UInt64) (hr : R a) : Fr R F h (wD h a i x) :=
  ⟨skh_wD h a i x, fun c hc j => ⟨aI_wD h a _ _ c j, aL_wD h a _ _ c j, aD_wD_ne h a _ _ c j (fun z => hc (z ▸ hr))⟩, fun c j _ => gV_wD h a _ _ c j⟩
theorem Fr_bD {R : Nat → Prop} {F : Nat → Nat → Prop} (h : VG) (a : Nat) (G : Nat → UInt64) (hr : R a) : Fr R F h (bD h a G) :=
  ⟨skh_bD h a G, fun c hc j => ⟨aI_bD h a _ c j, aL_bD h a _ c j, aD_bD_ne h a _ c j (fun z => hc (z ▸ hr))⟩, fun c j _ => gV_bD h a _ c j⟩
theorem Sh_fr {R : Nat → Prop} {F : Nat → Nat → Prop} {h h1 : VG} {g : Nat} (x : Fr R F h h1) (c : ∀ a, R a → g ≤ a) (hs : Sh h g) : Sh h1 g := by
  refine ⟨(ShCls_kp x.1 g).mpr hs.1, (ShMod_kp x.1 _).mpr hs.2.1, ?_⟩
  obtain ⟨sa, wa, e1, e2, l1, l2, r1, r2, n1, n2, s1, s2⟩ := hs.2.2
  have n1' : ¬ R sa := fun z => Nat.not_lt.mpr (c sa z) l1
  have n2' : ¬ R wa := fun z => Nat.not_lt.mpr (c wa z) l2
  refine ⟨sa, wa, ?_, ?_, l1, l2, (rdI_kp x.1 sa).mpr r1, (rdI_kp x.1 wa).mpr r2, (aln_kp x.1 sa).trans n1, (aln_kp x.1 wa).trans n2, fun j hj => ((x.I n1' j).trans (s1 j hj)), fun j hj => ((x.I n2' j).trans (s2 j hj))⟩
  · rw [x.two]
    exact e1
  · rw [x.two]
    exact e2
theorem RTape_fr {R : Nat → Prop} {F : Nat → Nat → Prop} {h h1 : VG} {g : Nat} (x : Fr R F h h1) (c : ∀ a, R a → a ≠ g + 1 ∧ a ≠ g + 267) (d : ∀ a k, F a k → ¬ (a = g ∧ k = 1) ∧ ¬ (a = g + 266 ∧ k = 2)) (hh : RTape h g) : RTape h1 g := by
  unfold RTape at hh ⊢
  rw [x.gI (a := g) (k := 1) (fun z => by have := d _ _ z; omega), x.gI (a := g + 266) (k := 2) (fun z => by have := d _ _ z; omega)]
  refine ⟨hh.1, fun i hi => ?_⟩
  rw [x.I (a := g + 1) (fun z => by have := c _ z; omega), x.I (a := g + 267) (fun z => by have := c _ z; omega)]
  exact hh.2 i hi
theorem RAns_fr {R : Nat → Prop} {F : Nat → Nat → Prop} {h h1 : VG} {g : Nat} (x : Fr R F h h1) (d : ∀ a k, F a k → ¬ (a = g ∧ (k = 5 ∨ k = 9 ∨ k = 10)) ∧ ¬ (a = g + 266 ∧ (k = 16 ∨ k = 31 ∨ k = 32))) (hh : RAns h g) : RAns h1 g := by
  unfold RAns at hh ⊢
  rw [x.gI (a := g) (k := 5) (fun z => by have := d _ _ z; omega), x.gI (a := g) (k := 9) (fun z => by have := d _ _ z; omega), x.gI (a := g) (k := 10) (fun z => by have := d _ _ z; omega), x.gI (a := g + 266) (k := 16) (fun z => by have := d _ _ z; omega), x.gI (a := g + 266) (k := 31) (fun z => by have := d _ _ z; omega), x.gI (a := g + 266) (k := 32) (fun z => by have := d _ _ z; omega)]
  exact hh
theorem RHd_fr {R : Nat → Prop} {F : Nat → Nat → Prop} {h h1 : VG} {g : Nat} (x : Fr R F h h1) (d : ∀ a k, F a k → ¬ (a = g + 173 ∧ (k = 1 ∨ k = 2)) ∧ ¬ (a = g + 172 ∧ k = 3) ∧ ¬ (a = g + 266 ∧ (k = 17 ∨ k = 18 ∨ k = 57))) (hh : RHd h g) : RHd h1 g := by
  unfold RHd at hh ⊢
  rw [x.gI (a := g + 173) (k := 1) (fun z => by have := d _ _ z; omega), x.gI (a := g + 173) (k := 2) (fun z => by have := d _ _ z; omega), x.gI (a := g + 172) (k := 3) (fun z => by have := d _ _ z; omega), x.gI (a := g + 266) (k := 17) (fun z => by have := d _ _ z; omega), x.gI (a := g + 266) (k := 18) (fun z => by have := d _ _ z; omega), x.gI (a := g + 266) (k := 57) (fun z => by have := d _ _ z; omega)]
  exact hh
theorem RMm_fr {R : Nat → Prop} {F : Nat → Nat → Prop} {h h1 : VG} (x : Fr R F h h1) {A M o : Nat} (c1 : ¬ R A) (c2 : ¬ R M) (hh : RMm h A M o) : RMm h1 A M o := by
  intro i hi
  rw [x.I c1, x.I c2]
  exact hh i hi
theorem RRg_fr {R : Nat → Prop} {F : Nat → Nat → Prop} {h h1 : VG} (x : Fr R F h h1) {A M o : Nat} (c1 : ¬ R A) (c2 : ¬ R M) (hh : RRg h A M o) : RRg h1 A M o := by
  intro i hi
  rw [x.L c1, x.L c2]
  exact hh i hi
theorem RBn_fr {R : Nat → Prop} {F : Nat → Nat → Prop} {h h1 : VG} (x : Fr R F h h1) {B SR so MR CK CW CR co b : Nat} (c1 : ¬ R (B + 1)) (c2 : ¬ R (B + 2)) (c3 : ¬ R SR) (c4 : ¬ R MR) (c5 : ¬ R CK) (c6 : ¬ R CW) (c7 : ¬ R CR) (d1 : ¬ F B 0) (d2 : ¬ F B 1) (hh : RBn h B SR so MR CK CW CR co b) : RBn h1 B SR so MR CK CW CR co b := by
  obtain ⟨s, n, e1, e2, e3, e4, e5, e6, e7, e8⟩ := hh
  refine ⟨s, n, e1, e2, e3, (x.gI d1).trans e4, (x.I c3 _).trans e5, (x.gI d2).trans e6, (x.I c4 _).trans e7, fun i hi => ?_⟩
  rw [x.I c1, x.I c5, x.L c2, x.L c6, x.D c7]
  exact e8 i hi
theorem RMem_fr {R : Nat → Prop} {F : Nat → Nat → Prop} {h h1 : VG} {g : Nat} (x : Fr R F h h1) (c : ∀ a, R a → a ≠ g + 174 ∧ a ≠ g + 277) (hh : RMem h g) : RMem h1 g := RMm_fr x (fun z => by have := c _ z; omega) (fun z => by have := c _ z; omega) hh
theorem RReg_fr {R : Nat → Prop} {F : Nat → Nat → Prop} {h h1 : VG} {g : Nat} (x : Fr R F h h1) (c : ∀ a, R a → a ≠ g + 176 ∧ a ≠ g + 298) (hh : RReg h g) : RReg h1 g := RRg_fr x (fun z => by have := c _ z; omega) (fun z => by have := c _ z; omega) hh
theorem RBins_fr {R : Nat → Prop} {F : Nat → Nat → Prop} {h h1 : VG} {g : Nat} (x : Fr R F h h1) (c : ∀ a, R a → (a < g + 177 ∨ g + 200 < a) ∧ (a < g + 285 ∨ g + 289 < a)) (d : ∀ a k, F a k → a < g + 177 ∨ g + 200 < a) (hh : RBins h g) : RBins h1 g := fun b hb => RBn_fr x (fun z => by have := c _ z; omega) (fun z => by have := c _ z; omega) (fun z => by have := c _ z; omega) (fun z => by have := c _ z; omega) (fun z => by have := c _ z; omega) (fun z => by have := c _ z; omega) (fun z => by have := c _ z; omega) (fun z => by have := d _ _ z; omega) (fun z => by have := d _ _ z; omega) (hh b hb)
theorem RSl_fr {R : Nat → Prop} {F : Nat → Nat → Prop} {h h1 : VG} {g σ : Nat} (hσ : σ < 2) (x : Fr R F h h1) (c : ∀ a, R a → (a < g + 202 ∨ g + 260 < a) ∧ (a < g + 299 ∨ g + 307 < a) ∧ ¬ a = g + 260) (d : ∀ a k, F a k → (a < g + 202 ∨ g + 260 < a) ∧ ¬ (a = g + 173 ∧ (k = 1 ∨ k = 2))) (hh : RSl h g σ) : RSl h1 g σ := by
  obtain ⟨q1, q2, q3⟩ := hh
  unfold RSl
  rw [x.I (a := g + 260) (fun z => by have := c _ z; omega), x.I (a := g + 299) (fun z => by have := c _ z; omega)]
  refine ⟨q1, q2, fun z => ?_⟩
  obtain ⟨⟨l, fr, t1, t2, t3, t4, t5, t6⟩, s2, s3, s4⟩ := q3 z
  refine ⟨⟨l, fr, (x.gI (fun z => by have := d _ _ z; omega)).trans t1, t2, (x.gI (fun z => by have := d _ _ z; omega)).trans t3, ?_, (x.gI (fun z => by have := d _ _ z; omega)).trans t5, (x.I (fun z => by have := c _ z; omega) _).trans t6⟩, RMm_fr x (fun z => by have := c _ z; omega) (fun z => by have := c _ z; omega) s2, RRg_fr x (fun z => by have := c _ z; omega) (fun z => by have := c _ z; omega) s3, fun b hb => RBn_fr x (fun z => by have := c _ z; omega) (fun z => by have := c _ z; omega) (fun z => by have := c _ z; omega) (fun z => by have := c _ z; omega) (fun z => by have := c _ z; omega) (fun z => by have := c _ z; omega) (fun z => by have := c _ z; omega) (fun z => by have := d _ _ z; omega) (fun z => by have := d _ _ z; omega) (s4 b hb)⟩
  rw [x.gI (a := g + (203 + 29 * σ)) (k := 2) (fun z => by have := d _ _ z; omega), x.gI (a := g + 173) (k := 2) (fun z => by have := d _ _ z; omega)]
  exact t4
theorem RFm_fr {R : Nat → Prop} {F : Nat → Nat → Prop} {h h1 : VG} {g : Nat} (x : Fr R F h h1) {c f : Nat} (hr : ∀ e, 1 ≤ e → e < 13 → ¬ R (g + (c + e))) (hf : ∀ k, ¬ F (g + c) k ∧ ¬ F (g + (c + 5)) k ∧ ¬ F (g + (c + 7)) k) (m1 : ¬ R (g + 274)) (m2 : ¬ R (g + 275)) (m3 : ¬ R (g + 276)) (hh : RFm h g c f) : RFm h1 g c f := by
  obtain ⟨m, K, Q, C, a1, a2, a3, a4, a5, a6, a7, a8, b1, b2, b3, b4, b5, b6, b7⟩ := hh
  refine ⟨m, K, Q, C, a1, a2, a3, a4, (x.gI (hf _).1).trans a5, (x.I m1 _).trans a6, (x.gI (hf _).1).trans a7, fun j hj => ?_, (x.gI (hf _).2.1).trans b1, (x.gI (hf _).2.2).trans b2, (x.gI (hf _).2.1).trans b3, (x.gI (hf _).2.1).trans b4, (x.gI (hf _).2.2).trans b5, (x.gI (hf _).2.2).trans b6, fun i hi => ?_⟩
  · rw [x.I (hr 1 (by decide) (by decide)), x.I (hr 2 (by decide) (by decide)), x.I (hr 3 (by decide) (by decide)), x.I m2, x.I m3]
    exact a8 j hj
  · rw [x.I (hr 4 (by decide) (by decide)), x.I (hr 6 (by decide) (by decide)), x.I (hr 8 (by decide) (by decide)), x.I (hr 10 (by decide) (by decide)), x.I (hr 11 (by decide) (by decide)), x.I (hr 12 (by decide) (by decide))]
    exact b7 i hi
theorem RPl_fr {R : Nat → Prop} {F : Nat → Nat → Prop} {h h1 : VG} {g : Nat} (x : Fr R F h h1) (c : ∀ a, R a → (a < g + 12 ∨ g + 171 < a) ∧ (a < g + 274 ∨ g + 276 < a)) (d : ∀ a k, F a k → (a < g + 8 ∨ g + 171 < a) ∧ ¬ (a = g + 266 ∧ k = 19)) (hh : RPl h g) : RPl h1 g := by
  obtain ⟨c0, q1, q2, n, q3, q4, q5, q6⟩ := hh
  refine ⟨c0, q1, (rf_kp x.1 ..).mpr q2, n, q3, (x.gI (fun z => by have := d _ _ z; omega)).trans q4, (x.gI (fun z => by have := d _ _ z; omega)).trans q5, fun f hf => RFm_fr x (fun e e1 e2 => (fun z => by have := c _ z; omega)) (fun k => ⟨(fun z => by have := d _ _ z; omega), (fun z => by have := d _ _ z; omega), (fun z => by have := d _ _ z; omega)⟩) (fun z => by have := c _ z; omega) (fun z => by have := c _ z; omega) (fun z => by have := c _ z; omega) (q6 f hf)⟩
/-- all groups but those that a call answers for itself -/
theorem Rel_fr {R : Nat → Prop} {F : Nat → Nat → Prop} {h h1 : VG} {g : Nat} (x : Fr R F h h1) (c0 : ∀ a, R a → g ≤ a) (c : ∀ a, R a → (g + 3 < a ∧ a < g + 8) ∨ a = g + 261 ∨ (g + 262 < a ∧ a < g + 266) ∨ (g + 267 < a ∧ a < g + 274) ∨ (g + 277 < a ∧ a < g + 285) ∨ (g + 289 < a ∧ a < g + 298)) (d : ∀ a k, F a k → (g < a ∧ a < g + 8) ∨ a = g + 262 ∨ (a = g + 266 ∧ (k = 4 ∨ k = 10 ∨ k = 11 ∨ k = 12 ∨ k = 13 ∨ k = 14 ∨ k = 15 ∨ k = 24 ∨ k = 25 ∨ k = 26 ∨ k = 36 ∨ k = 37 ∨ k = 38 ∨ k = 39 ∨ k = 40 ∨ k = 41 ∨ k = 54))) (hh : Rel h g) : Rel h1 g := by
  obtain ⟨r1, r2, r3, r4, r5, r6, r7, r8, r9, r10⟩ := hh
  refine ⟨Sh_fr x c0 r1, RTape_fr x ?_ ?_ r2, RAns_fr x ?_ r3, RHd_fr x ?_ r4, RMem_fr x ?_ r5, RReg_fr x ?_ r6, RBins_fr x ?_ ?_ r7, RSl_fr (by decide) x ?_ ?_ r8, RSl_fr (by decide) x ?_ ?_ r9, RPl_fr x ?_ ?_ r10⟩
  all_goals intros
  all_goals first | (have := c _ (by assumption); omega) | (have := d _ _ (by assumption); omega)
