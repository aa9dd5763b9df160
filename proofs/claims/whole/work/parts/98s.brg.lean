/-! the bridge: from the law's entry to the little machine's run of the law -/
def vChr (j : Nat) : Int32 := Int32.ofNat ((vTxt.toList.getD j ' ').toNat)
/-- the start, as the little machine sees it -/
def vStart (h : VG) (b L : Nat) (xs : Nat → Int32) : Prop := L ≤ 3584 ∧ b < h.2.1 ∧ h.1 b = .inl (20, L, .inl xs) ∧ (∃ a f, h.2.2.2 0 = .ref a ∧ a < h.2.1 ∧ h.1 a = .inl (20, 10, .inl f) ∧ ∀ j, j < 10 → f j = vSmall j) ∧ (∃ a f, h.2.2.2 1 = .ref a ∧ a < h.2.1 ∧ h.1 a = .inl (20, 10, .inl f) ∧ ∀ j, j < 10 → f j = vWide j) ∧ h.2.2.2 2 = .int 1 ∧ (h.2.2.2 3).category = 1 ∧ (∃ q w f, h.2.2.2 4 = .ref q ∧ h.2.2.2 5 = .ref w ∧ w < h.2.1 ∧ h.1 w = .inl (21, 71, .inl f) ∧ ∀ j, j < 71 → f j = vChr j) ∧ h.2.2.1 = 0
/-- what is to be shown of the law, of the little machine alone -/
def vLawOk : Prop := ∀ (h : VG) (b L : Nat) (xs : Nat → Int32), vStart h b L xs → ∃ n h1, run n vLaw 0 (vEnt [.ref b] 4) [] h = some (some (.int 1), h1) ∧ h1.2.1 - h.2.1 ≤ 600000 ∧ h1.2.2.1 ≤ 7302250
theorem vst_nar {s : State} {a : Array Value} (h : (Jvm.Cond.and given_1 narrow_1).before a s = true) : ∀ w ∈ flatC narrow_1, w.before a s = true := fun w hw => flat_of_before _ (by rw [Cond.before_and, Bool.and_eq_true] at h; exact h.2) w hw
theorem vst_arr {s : State} {a : Array Value} {C d : String} {V : Nat → Int32} (hA : ∀ q : Nat, q < s.heap.size → ¬ vA s.heap.size q) (h1 : (Cond.arrayOf (.static C d "[I") .int).before a s = true) (h2 : (Cond.eq (.length (.static C d "[I")) (.int 10)).before a s = true) (h3 : ∀ j : Nat, j < 10 → (Cond.eq (.elem (.static C d "[I") (.int (Int32.ofNat j))) (.int (V j))).before a s = true) : ∃ t : Nat, (Term.static C d "[I").eval a s none [] s = some (.ref t) ∧ va_T .int t 10 (fun j => .int (V j)) (vA s.heap.size) s s.heap :=
  va_Tof (by decide) h1 (va_eqt h2) (fun j hj => va_eqt (h3 j hj)) hA
theorem vst_two {s : State} {t N M : Nat} {f g : Nat → Value} {A : Nat → Prop} {ty ty' : FieldType} (h : va_T ty t N f A s s.heap) (h' : va_T ty' t M g A s s.heap) : ty = ty' := by
  obtain ⟨c1, a1, ⟨-, k1, b1, m1, e1⟩, -⟩ := h
  obtain ⟨c2, a2, ⟨-, k2, b2, m2, e2⟩, -⟩ := h'
  cases a1.symm.trans a2
  cases b1.symm.trans b2
  rw [e1] at e2
  cases e2
  rfl
theorem vst_ids {s : State} {a : Array Value} (hts : ∀ w ∈ lw_tbl, w.before a s = true) : ∃ D : va_G, ∀ (k : Nat) (q : vw_C), vwCl[k]? = some q → u_Kn s q.1 q.2.1 q.2.2 (D.1 k) (D.2 k) := by
  have h0 : ∀ k : Nat, ∃ x : ClassId × (Nat → Nat), ∀ q : vw_C, vwCl[k]? = some q → u_Kn s q.1 q.2.1 q.2.2 x.1 x.2 := by
    intro k
    cases hq : vwCl[k]? with
    | none => exact ⟨(0, fun _ => 0), fun q h => by cases h⟩
    | some q =>
      obtain ⟨c, i, h1⟩ := u_known (C := q.1) (T := q.2.1) (N := q.2.2) (n := q.2.2) hts (fun w hw => (List.mem_filter.mp (vCl_in hq w hw)).1) (hts _ (List.mem_filter.mp (vCl_ini hq).1).1)
      exact ⟨(c, i), fun q' h => by cases h; exact h1⟩
  exact ⟨(fun k => (Classical.choose (h0 k)).1, fun k => (Classical.choose (h0 k)).2), fun k q hq => Classical.choose_spec (h0 k) q hq⟩
theorem vOv_ok : [RX1, RX3, RX9].all (fun C => decide (Cond.arrayOver (.object C) ∈ lw_tbl)) = true := by decide +kernel
theorem vst_ov {s : State} {a : Array Value} (hts : ∀ w ∈ lw_tbl, w.before a s = true) (C : String) (hC : C ∈ [RX1, RX3, RX9]) : va_AO C s := va_AO.of (hts _ (of_decide_eq_true (List.all_eq_true.mp vOv_ok C hC)))
theorem vst_cls {s : State} {a : Array Value} (hts : ∀ w ∈ lw_tbl, w.before a s = true) (t : Nat) (ht : t < 8) : ∃ c : ClassId, ArrOfT s c (vTag.getD t .int) ∧ va_RA s c (vTag.getD t .int) := by
  have prim : ∀ ty : FieldType, ty ∈ [FieldType.int, .long, .byte, .boolean, .double] → ∃ c : ClassId, ArrOfT s c ty ∧ s.vm.findClass ("[" ++ ty.toString) = some c := by
    intro ty hty
    obtain ⟨c, k, comp, h1, h2, h3⟩ := Cond.arrayClass_spec (hts _ (List.mem_filter.mp (vHas_mem (List.all_eq_true.mp vArr_ok ty hty))).1)
    exact ⟨c, fun N z => ⟨(fun k h => by cases h), k, h2, comp, h3⟩, h1⟩
  have obj : ∀ C : String, C ∈ [RX1, RX3, RX9] → ∃ c : ClassId, ArrOfT s c (.object C) ∧ va_RA s c (.object C) := by
    intro C hC
    obtain ⟨comp, c, k, h1, h2, h3, h4, h5⟩ := Cond.arrayOver_spec (va_AO.use (A := a) (vst_ov hts C hC))
    exact ⟨c, fun N z => ⟨(fun k h => by cases h), k, h3, comp, h4⟩, k, comp, h3, h4, h1, h5⟩
  match t, ht with
  | 0, _ => exact prim .int (by decide)
  | 1, _ => exact prim .long (by decide)
  | 2, _ => exact prim .byte (by decide)
  | 3, _ => exact prim .boolean (by decide)
  | 4, _ => exact prim .double (by decide)
  | 5, _ => exact obj RX1 (by decide)
  | 6, _ => exact obj RX3 (by decide)
  | 7, _ => exact obj RX9 (by decide)
theorem vst_K {s : State} {a : Array Value} (hts : ∀ w ∈ lw_tbl, w.before a s = true) : ∃ (D : va_G) (cy : Nat → ClassId), va_K D vwCl (vtys cy) s := by
  obtain ⟨D, hD⟩ := vst_ids hts
  have h0 : ∀ t : Nat, ∃ c : ClassId, t < 8 → ArrOfT s c (vTag.getD t .int) ∧ va_RA s c (vTag.getD t .int) := by
    intro t
    by_cases ht : t < 8
    · obtain ⟨c, h⟩ := vst_cls hts t ht
      exact ⟨c, fun _ => h⟩
    · exact ⟨0, fun h => absurd h ht⟩
  refine ⟨D, fun t => Classical.choose (h0 t), hD, fun k q hk => ?_⟩
  by_cases hk8 : k < 8
  · rw [vtys_at _ hk8] at hk
    cases hk
    exact Classical.choose_spec (h0 k) hk8
  · rw [List.getElem?_eq_none (by simp [vtys]; omega)] at hk
    cases hk
theorem vst_Nst {s : State} {a : Array Value} (hts : ∀ w ∈ lw_tbl, w.before a s = true) : vNst s := by
  intro e he hk
  have h1 := vCt_ok e he
  unfold vKok at h1
  rw [if_neg (by omega), if_neg (by omega), if_neg (by omega), if_neg (by omega)] at h1
  rw [Bool.and_eq_true, Bool.and_eq_true, if_neg (by omega), if_pos hk] at h1
  exact va_Nw.of rfl (hts _ (List.mem_of_getElem? (of_decide_eq_true h1.1.2)))
theorem vSmall_ok : (List.range 10).all (fun j => decide (Cond.eq (.elem (.static "GuestCalls$Kinds" "SMALL_BYTES" "[I") (.int (Int32.ofNat j))) (.int (vSmall j)) ∈ flatC narrow_1)) = true := by decide +kernel
theorem vWide_ok : (List.range 10).all (fun j => decide (Cond.eq (.elem (.static "GuestCalls$Kinds" "WIDE_BYTES" "[I") (.int (Int32.ofNat j))) (.int (vWide j)) ∈ flatC narrow_1)) = true := by decide +kernel
theorem vChr_ok : (List.range 71).all (fun j => decide (Cond.eq (.elem (.field (.string "GuestCalls$Tokens" 25) "java/lang/String" "value" "[B") (.int (Int32.ofNat j))) (.int (vChr j)) ∈ flatC narrow_1)) = true := by decide +kernel
theorem vst_txt {s : State} {a : Array Value} (hA : ∀ q : Nat, q < s.heap.size → ¬ vA s.heap.size q) (hn : ∀ w ∈ flatC narrow_1, w.before a s = true) : ∃ q w : Nat, (Term.string "GuestCalls$Tokens" 25).eval a s none [] s = some (.ref q) ∧ va_O RJ0 q (vA s.heap.size) s s.heap ∧ va_OF RJ0 "value" "[B" (.ref w) q (vA s.heap.size) s s.heap ∧ va_OF RJ0 "coder" "B" (.int 0) q (vA s.heap.size) s s.heap ∧ va_T .byte w 71 (fun j => .int (vChr j)) (vA s.heap.size) s s.heap := by
  obtain ⟨adK, adV, h1, h2⟩ := vk_Sof (N := 1) (tm := fun _ => .string "GuestCalls$Tokens" 25) (len := [71]) (byt := [(List.range 71).map vChr]) (A := vA s.heap.size) (args := a) (s := s)
    (fun i hi => by rw [show i = 0 by omega]; decide) (fun i hi => hn _ (by decide +kernel)) (fun i hi => hn _ (by decide +kernel)) (fun i hi => hn _ (by decide +kernel)) (fun i hi => by rw [show i = 0 by omega]; exact hn _ (by decide +kernel))
    (fun i hi j hj => by
      rw [show i = 0 by omega] at hj ⊢
      have hj2 : j < 71 := hj
      have h3 : ([(List.range 71).map vChr].getD 0 []).getD j 0 = vChr j := by
        show ((List.range 71).map vChr).getD j 0 = vChr j
        rw [List.getD_eq_getElem?_getD, List.getElem?_map, List.getElem?_range hj2]
        rfl
      rw [h3]
      exact hn _ (of_decide_eq_true (List.all_eq_true.mp vChr_ok j (List.mem_range.mpr hj2))))
    (fun i j hi hj hij => absurd (by omega : i = j) hij) hA
  obtain ⟨b1, b2, b3, b4⟩ := h1.1 0 (by decide)
  refine ⟨adK 0, adV 0, h2 0 (by decide), b1, b3, b2, ?_⟩
  obtain ⟨cell, c1, c2, c3, c4, c5, c6, c7⟩ := b4
  refine ⟨cell, c1, c2, c3, c4, c5, fun j hj => ?_, c7⟩
  rw [c6 j hj]
  show some (Value.int (([(List.range 71).map vChr].getD 0 []).getD j 0)) = _
  congr 2
  show ((List.range 71).map vChr).getD j 0 = vChr j
  rw [List.getD_eq_getElem?_getD, List.getElem?_map, List.getElem?_range hj]
  rfl
theorem vst_nb {s : State} {b t : Nat} {C d : String} (h : (Cond.not (Cond.eq (.arg 0) (.static C d "[I"))).before #[Value.ref b] s = true) (ht : (Term.static C d "[I").eval #[Value.ref b] s none [] s = some (.ref t)) : t ≠ b := by
  intro e
  subst e
  have h1 : (Cond.eq (.arg 0) (.static C d "[I")).holds #[Value.ref t] s none s [] = true := Cond.eq_of_worth (y := .ref t) rfl ht (Or.inr (Or.inr rfl))
  unfold Cond.before Cond.holds at h
  unfold Cond.holds at h1
  simp only [Cond.value] at h h1
  cases hv : (Cond.eq (.arg 0) (.static C d "[I")).value #[Value.ref t] s none s [] with
  | none => simp [Cond.value, hv] at h h1; simp_all
  | some z => simp [Cond.value, hv] at h h1; simp_all
def vH0 (g b L sa wa w : Nat) (xs : Nat → Int32) (sio : Value) (q : Nat) : VG := (fun a => if a = b then .inl (20, L, .inl xs) else if a = sa then .inl (20, 10, .inl vSmall) else if a = wa then .inl (20, 10, .inl vWide) else if a = w then .inl (21, 71, .inl vChr) else .inr (1000, []), g, 0, fun k => if k = 0 then .ref sa else if k = 1 then .ref wa else if k = 2 then .int 1 else if k = 3 then sio else if k = 4 then .ref q else .ref w)
theorem vXT {b L : Nat} {xs : Nat → Int32} {s : State} {A : Nat → Prop} (h : va_X b L xs s s.heap) (hn : ¬ A b) : va_T .int b L (fun j => .int (xs j)) A s s.heap := by
  obtain ⟨scr, h1, h2, h3, h4, h5⟩ := h
  exact ⟨scr, h1, h2, h3, Nat.le_of_eq h4.symm, by rw [h4] <;> rfl, h5, hn⟩
theorem vT_lt {ty : FieldType} {t N : Nat} {f : Nat → Value} {A : Nat → Prop} {s : State} (h : va_T ty t N f A s s.heap) : t < s.heap.size := (Array.getElem?_eq_some_iff.mp h.choose_spec.1).1
theorem vKlaw : mdep vLaw ≤ 10 ∧ mlw vLaw ≤ 402 ∧ mmax vLaw = 4 ∧ (mnm vLaw).name ≠ "<init>" ∧ mret vLaw = some .boolean ∧ vCname (mcl vLaw) = R_law := by decide +kernel
set_option maxHeartbeats 1000000 in
theorem vbridge (hlaw : vLawOk) {p : Program} {e : Env} {s : State} {m : MethodId} {below : List Frame} {meth : Method} {c : Code} (l : Launch) (hflags : l.flags = flags0) {b L : Nat} {xs : Nat → Int32} (hL : L ≤ 3584) (C0 : lw_At p s m meth c b L xs) : W p l e room_1 s m #[Value.ref b] below meth c s.heap [] 0 0 (lw_Z below #[Value.ref b] s) (entryFrame m ([Value.ref b] : List Value).toArray 4) := by
  obtain ⟨hx, hb, hr, hml, hown, hts, hX, hbl, hlocks, hgv⟩ := C0
  obtain ⟨D, cy, hK⟩ := vst_K hts
  have hA : ∀ q : Nat, q < s.heap.size → ¬ vA s.heap.size q := fun q h z => Nat.lt_irrefl _ (Nat.lt_of_lt_of_le h z)
  have hn := vst_nar hgv
  obtain ⟨sa, e1, t1⟩ := vst_arr (V := vSmall) hA (hn _ (by decide +kernel)) (hn _ (by decide +kernel)) (fun j hj => hn _ (of_decide_eq_true (List.all_eq_true.mp vSmall_ok j (List.mem_range.mpr hj))))
  obtain ⟨wa, e2, t2⟩ := vst_arr (V := vWide) hA (hn _ (by decide +kernel)) (hn _ (by decide +kernel)) (fun j hj => hn _ (of_decide_eq_true (List.all_eq_true.mp vWide_ok j (List.mem_range.mpr hj))))
  obtain ⟨q, w, e3, o1, o2, o3, t3⟩ := vst_txt hA hn
  have t0 := vXT hX (hA b hbl)
  have n1 : sa ≠ b := vst_nb (hn _ (by decide +kernel)) e1
  have n2 : wa ≠ b := vst_nb (hn _ (by decide +kernel)) e2
  have n3 : wa ≠ sa := by
    intro z
    subst z
    obtain ⟨c1, a1, -, -, -, -, f1, -⟩ := t1
    obtain ⟨c2, a2, -, -, -, -, f2, -⟩ := t2
    cases a1.symm.trans a2
    have := (f1 5 (by decide)).symm.trans (f2 5 (by decide))
    revert this
    decide
  have n4 : w ≠ b := fun z => by subst z; cases vst_two t3 t0
  have n5 : w ≠ sa := fun z => by subst z; cases vst_two t3 t1
  have n6 : w ≠ wa := fun z => by subst z; cases vst_two t3 t2
  have z0 : va_Z "GuestCalls$Kinds" "SMALL_BYTES" "[I" (.ref sa) (vA s.heap.size) s s.heap := va_Zof (hts _ (by decide +kernel)) (hts _ (by decide +kernel)) e1 hA
  have z1 : va_Z "GuestCalls$Kinds" "WIDE_BYTES" "[I" (.ref wa) (vA s.heap.size) s s.heap := va_Zof (hts _ (by decide +kernel)) (hts _ (by decide +kernel)) e2 hA
  have z2 : va_Z "java/lang/String" "COMPACT_STRINGS" "Z" (.int 1) (vA s.heap.size) s s.heap := va_Zof (hts _ (by decide +kernel)) (hts _ (by decide +kernel)) (va_eqi (hn _ (by decide +kernel))) hA
  obtain ⟨sio, hsc, z3⟩ : ∃ v : Value, v.category = 1 ∧ va_Z "jdk/internal/util/Preconditions" "SIOOBE_FORMATTER" "Ljava/util/function/BiFunction;" v (vA s.heap.size) s s.heap := by
    rcases va_Zqof (hts (.laysStatic "jdk/internal/util/Preconditions" "SIOOBE_FORMATTER" "Ljava/util/function/BiFunction;") (by decide +kernel)) (hts _ (by decide +kernel)) (hn _ (by decide +kernel)) hA with h | ⟨t, h⟩
    · exact ⟨.null, rfl, h⟩
    · exact ⟨.ref t, rfl, h⟩
  have hR : vk_R RX10 25 vTxt q s := vk_R.of (hts _ (by decide +kernel)) e3
  generalize hh : vH0 s.heap.size b L sa wa w xs sio q = h
  have h21 : h.2.1 = s.heap.size := by rw [← hh]; rfl
  have hc1 : h.1 b = .inl (20, L, .inl xs) := by rw [← hh]; simp [vH0]
  have hc2 : h.1 sa = .inl (20, 10, .inl vSmall) := by rw [← hh]; simp [vH0, n1]
  have hc3 : h.1 wa = .inl (20, 10, .inl vWide) := by rw [← hh]; simp [vH0, n2, n3]
  have hc4 : h.1 w = .inl (21, 71, .inl vChr) := by rw [← hh]; simp [vH0, n4, n5, n6]
  have hst : vStart h b L xs := by
    refine ⟨hL, by rw [h21]; exact hbl, hc1, ⟨sa, vSmall, by rw [← hh]; rfl, by rw [h21]; exact vT_lt t1, hc2, fun _ _ => rfl⟩, ⟨wa, vWide, by rw [← hh]; rfl, by rw [h21]; exact vT_lt t2, hc3, fun _ _ => rfl⟩, by rw [← hh]; rfl, by rw [← hh]; exact hsc, ⟨q, w, vChr, by rw [← hh]; rfl, by rw [← hh]; rfl, by rw [h21]; exact vT_lt t3, hc4, fun _ _ => rfl⟩, by rw [← hh]; rfl⟩
  obtain ⟨n, h1, hrun, b1, b2⟩ := hlaw h b L xs hst
  have hdom : vDom s.heap.size h := by
    intro a
    rw [← hh]
    refine ⟨fun t x e3 e4 => ?_, fun c fs e3 e4 => ?_⟩
    · simp only [vH0] at e3
      split at e3
      · cases e3; omega
      · split at e3
        · cases e3; omega
        · split at e3
          · cases e3; omega
          · split at e3
            · cases e3; omega
            · cases e3
    · simp only [vH0] at e3
      split at e3
      · cases e3
      · split at e3
        · cases e3
        · split at e3
          · cases e3
          · split at e3
            · cases e3
            · cases e3; omega
  have hold : vOld s.heap.size h s s.heap := by
    intro a
    rw [← hh]
    refine ⟨fun t n f e3 e4 => ?_, trivial⟩
    simp only [vH0] at e3
    split at e3
    · rename_i hz
      cases e3
      subst hz
      exact ⟨xs, rfl, fun _ => t0, fun z => by omega⟩
    · split at e3
      · rename_i hz
        cases e3
        subst hz
        exact ⟨vSmall, rfl, fun _ => t1, fun z => by omega⟩
      · split at e3
        · rename_i hz
          cases e3
          subst hz
          exact ⟨vWide, rfl, fun _ => t2, fun z => by omega⟩
        · split at e3
          · rename_i hz
            cases e3
            subst hz
            exact ⟨vChr, rfl, fun z => by omega, fun _ => t3⟩
          · cases e3
  have hsts : vSts s.heap.size h s s.heap := by
    rw [← hh]
    refine ⟨fun k hk => ?_, q, w, rfl, rfl, hR, o1, o2, o3⟩
    match k, hk with
    | 0, _ => exact z0
    | 1, _ => exact z1
    | 2, _ => exact z2
    | 3, _ => exact z3
  have hI : VI s.heap.size cy D s h s.heap [] := ⟨by rw [h21]; exact Nat.le_refl _, by rw [h21]; exact Nat.le_refl _, Nat.le_refl _, (fun k z hz => by rw [vWs_at, h21, if_neg (by omega)] at hz; cases hz), va_S.rf, hdom, hold, hsts⟩
  obtain ⟨k1, k2, k3, k4, k5, k6⟩ := vKlaw
  have hC : VC cy D p s m meth c vLaw room_1 #[Value.ref b] := ⟨hx, by rw [hb]; rfl, by rw [hml, k3], by rw [k6]; exact hown, fun w hw => hts w (List.mem_filter.mp hw).1, vst_Nst hts, fun z => absurd z k4, k1, k2, hK, vst_ov hts RX1 (by decide), vst_ov hts RX3 (by decide), vst_ov hts RX9 (by decide)⟩
  have hen := lv_entry [Value.ref b] (n := 4) (Nat.le_of_ble_eq_true rfl)
  rw [lg_entry_eq]
  have key := (vsnd l s.heap.size cy D n vLaw 0 (vEnt [.ref b] 4) [] h _ h1 hrun).2 p e room_1 s m #[Value.ref b] below meth c s.heap [] _ (lw_Z below #[Value.ref b] s) 0 hC hI (by rw [k3]; exact LH.entry (show catS [Value.ref b] ≤ 4 from Nat.le_of_ble_eq_true rfl) hen) (Nat.zero_le _) (by rw [← h21]; exact b1) (by rw [Nat.sub_zero]; exact b2) (fun i pc1 st1 H1 locs1 ls1 hd hvr hI1 => ?_)
  · have e5 : h.2.1 - s.heap.size = 0 := by omega
    have e6 : h.2.2.1 - 0 = 0 := by rw [← hh]; rfl
    rw [e5, e6] at key
    exact key
  · refine va_forget (fun z hz => hI1.2.2.2.2.1.2.2 z hz) ?_
    refine W.widen (k := 600000) (n := 7302250) (by rw [← h21]; exact b1) (by rw [Nat.sub_zero]; exact b2) ?_
    have hd0 := Drawn.sameBut.refl s.drawn lw_cs
    refine W.base ?_
    have hd2 : decode code pc1 = .ok (i, 1) := hd
    unfold vret at hvr
    split at hvr
    · split at hvr
      · split at hvr
        · split at hvr
          · cases hvr
            exact lw_ret hd0 hx hb hr hlocks hd2
          · cases hvr
        · cases hvr
      · cases hvr
    · split at hvr
      · split at hvr <;> cases hvr
      · cases hvr
    · split at hvr
      · split at hvr <;> cases hvr
      · cases hvr
    · split at hvr
      · split at hvr <;> cases hvr
      · cases hvr
    · cases hvr
