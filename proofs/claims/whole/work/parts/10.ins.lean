/-! the JDK's own small rows; every instruction; and the whole: what the little machine answers, the kit's machine answers -/
theorem vRow_ok : [Cond.instanceMethod objectInit, .code objectInit ⟨#[0xb1]⟩ 1 none, .static Lib.Math.max.name, .static Lib.Math.min.name, .initialized "java/lang/Math", .native arraycopyName, .static arraycopyName, .initialized "java/lang/System"].all vHas = true := by decide +kernel
theorem vMax_ok : vHas (.code Lib.Math.max.name Lib.Math.max.code 2 (some .int)) = true := by decide +kernel
theorem vMin_ok : vHas (.code Lib.Math.min.name Lib.Math.min.code 2 (some .int)) = true := by decide +kernel
theorem vRow_mem {w : Cond} (h : w ∈ [Cond.instanceMethod objectInit, .code objectInit ⟨#[0xb1]⟩ 1 none, .static Lib.Math.max.name, .static Lib.Math.min.name, .initialized "java/lang/Math", .native arraycopyName, .static arraycopyName, .initialized "java/lang/System"]) : w ∈ vW0 := vHas_mem (List.all_eq_true.mp vRow_ok _ h)
theorem vAllM : ∀ m, m < 247 → vMok m = true := by
  intro m hm
  have key : ∀ a n, (vRng a n).all vMok = true → a ≤ m → m < a + n → vMok m = true := fun a n h h1 h2 => List.all_eq_true.mp h m (List.mem_map.mpr ⟨m - a, List.mem_range.mpr (by omega), by omega⟩)
  rcases Nat.lt_or_ge m 125 with h | h
  · rcases Nat.lt_or_ge m 50 with h | h
    · rcases Nat.lt_or_ge m 25 with h | h
      · exact key _ _ vM_ok_0 (by omega) (by omega)
      · exact key _ _ vM_ok_1 (by omega) (by omega)
    · rcases Nat.lt_or_ge m 75 with h | h
      · exact key _ _ vM_ok_2 (by omega) (by omega)
      · rcases Nat.lt_or_ge m 100 with h | h
        · exact key _ _ vM_ok_3 (by omega) (by omega)
        · exact key _ _ vM_ok_4 (by omega) (by omega)
  · rcases Nat.lt_or_ge m 175 with h | h
    · rcases Nat.lt_or_ge m 150 with h | h
      · exact key _ _ vM_ok_5 (by omega) (by omega)
      · exact key _ _ vM_ok_6 (by omega) (by omega)
    · rcases Nat.lt_or_ge m 200 with h | h
      · exact key _ _ vM_ok_7 (by omega) (by omega)
      · rcases Nat.lt_or_ge m 225 with h | h
        · exact key _ _ vM_ok_8 (by omega) (by omega)
        · exact key _ _ vM_ok_9 (by omega) (by omega)
theorem vCt_len : vCt.length = 280 := by decide +kernel
theorem vCt_ok : ∀ e ∈ vCt, vKok e = true := by
  intro e he
  obtain ⟨i, hi⟩ := List.getElem?_of_mem he
  have hl : i < 280 := by rw [← vCt_len]; exact (List.getElem?_eq_some_iff.mp hi).1
  have key : ∀ d, ((vCt.drop d).take 40).all vKok = true → d ≤ i → i < d + 40 → vKok e = true := fun d h h1 h2 => by
    refine List.all_eq_true.mp h e (List.mem_of_getElem? (i := i - d) ?_)
    rw [List.getElem?_take, if_pos (by omega), List.getElem?_drop, show d + (i - d) = i by omega]
    exact hi
  rcases Nat.lt_or_ge i 160 with h | h
  · rcases Nat.lt_or_ge i 80 with h | h
    · rcases Nat.lt_or_ge i 40 with h | h
      · exact key 0 vCt_ok_0 (by omega) (by omega)
      · exact key 40 vCt_ok_1 (by omega) (by omega)
    · rcases Nat.lt_or_ge i 120 with h | h
      · exact key 80 vCt_ok_2 (by omega) (by omega)
      · exact key 120 vCt_ok_3 (by omega) (by omega)
  · rcases Nat.lt_or_ge i 240 with h | h
    · rcases Nat.lt_or_ge i 200 with h | h
      · exact key 160 vCt_ok_4 (by omega) (by omega)
      · exact key 200 vCt_ok_5 (by omega) (by omega)
    · exact key 240 vCt_ok_6 (by omega) (by omega)
theorem vCal_ok {oc idx k y p : Nat} (h : vCal oc idx = some (k, y, p)) : vKok (oc, idx, k, y, p) = true := vCt_ok _ (vfind h)
theorem vK10 {oc idx y p : Nat} (h : vCal oc idx = some (10, y, p)) : Cond.methodLink (vCname oc) idx objectInit ∈ vW0 := vAt_mem (vCal_ok h)
theorem vK11 {oc idx y p : Nat} (h : vCal oc idx = some (11, y, p)) : Cond.methodLink (vCname oc) idx Lib.Math.max.name ∈ vW0 := vAt_mem (vCal_ok h)
theorem vK12 {oc idx y p : Nat} (h : vCal oc idx = some (12, y, p)) : Cond.methodLink (vCname oc) idx Lib.Math.min.name ∈ vW0 := vAt_mem (vCal_ok h)
theorem vK13 {oc idx y p : Nat} (h : vCal oc idx = some (13, y, p)) : Cond.methodLink (vCname oc) idx arraycopyName ∈ vW0 := vAt_mem (vCal_ok h)
theorem vRoom {cy : Nat → ClassId} {D : va_G} {p : Program} {s : State} {mi : MethodId} {meth : Method} {c : Code} {m : Nat} {R : Room} {args : Array Value} (hC : VC cy D p s mi meth c m R args) : 1 ≤ R.frames ∧ 40 ≤ R.locals := ⟨Nat.le_trans (Nat.le_max_left 1 _) hC.2.2.2.2.2.2.2.1, Nat.le_trans (Nat.le_max_left 40 _) hC.2.2.2.2.2.2.2.2.1⟩
theorem t_copy_ {m pc idx y pl : Nat} {st0 : List Value} {L : VL} {h h2 : VG} {a d : Nat} {sp dp n : Int32} (hk : vCal (mcl m) idx = some (13, y, pl)) (hst : catS st0 ≤ 8) (hg : vcopy h a d sp dp n = some h2) : VT (.invokestatic idx) 3 m pc (.int n :: .int dp :: .ref d :: .int sp :: .ref a :: st0) L h (pc + 3) L st0 h2 := by
  unfold vcopy at hg
  split at hg
  · rename_i t n0 f ha
    split at hg
    · rename_i t' n1 f2 hd0
      split at hg
      · rename_i hc
        cases hg
        obtain ⟨e1, e2, e3, e4, e5, e6, e7, e8⟩ := hc
        subst e1
        refine ⟨⟨Nat.le_refl _, Nat.le_refl _, rfl⟩, fun p l e R s mi args below meth c H locs ls Q g cy D k0 hd hC hI hl _ _ _ kk => ?_⟩
        have hr := vRoom hC
        have ht8 : t < 8 := by rcases e2 with rfl | rfl <;> decide
        have hsm : vsame (h.1 d) (.inl (t, n1, .inl (va_cpy f f2 sp.toNatClampNeg dp.toNatClampNeg n.toNatClampNeg))) := Or.inl ⟨t, _, _, hd0, rfl, ht8⟩
        have h1 := vWs_get (cy := cy) (g := g) (h := h) ((hI.2.2.2.2.2.1 a).1 t _ ha ht8)
        rw [ha] at h1
        have h3 := vWs_get (cy := cy) (g := g) (h := h) (vsame_in hI.2.2.2.2.2.1 hsm)
        rw [hd0] at h3
        have hrest : (st0.map fun v => v.category).sum ≤ 8 := hst
        refine va_copyi (ty := vTag.getD t .int) hC.1 hC.2.1 (hC.2.2.1.trans hl.1.symm) hC.2.2.2.1 (hC.2.2.2.2.1 _ (vK13 hk)) (hC.2.2.2.2.1 _ (vRow_mem (by decide))) (hC.2.2.2.2.1 _ (vRow_mem (by decide))) (hC.2.2.2.2.1 _ (vRow_mem (by decide))) (vht hC) hI.2.2.2.1 (vWs_D cy g h) hI.2.2.2.2.1 (a - g) (d - g) t t h1 h3 (vtys_at cy ht8) (vtys_at cy ht8) (by rcases e2 with rfl | rfl <;> rfl) e3 e4 e5 e6 e7 (fun i hi => ?_) hr.1 (by simp only [nativeFrameWords]; simp; omega) hd (fun H1 locs1 hP hD hS => kk H1 locs1 ls (hI.put hsm hP hS) hl)
        have := e8 i hi
        rcases e2 with rfl | rfl
        · exact this
        · exact this
      · cases hg
    · cases hg
  · rename_i t n0 f ha
    split at hg
    · rename_i t' n1 f2 hd0
      split at hg
      · rename_i hc
        cases hg
        obtain ⟨e1, e2, e3, e4, e5, e6, e7⟩ := hc
        subst e1
        subst e2
        refine ⟨⟨Nat.le_refl _, Nat.le_refl _, rfl⟩, fun p l e R s mi args below meth c H locs ls Q g cy D k0 hd hC hI hl _ _ _ kk => ?_⟩
        have hr := vRoom hC
        have hsm : vsame (h.1 d) (.inl (1, n1, .inr (.inl (va_cpy f f2 sp.toNatClampNeg dp.toNatClampNeg n.toNatClampNeg)))) := Or.inl ⟨1, _, _, hd0, rfl, by decide⟩
        have h1 := vWs_get (cy := cy) (g := g) (h := h) ((hI.2.2.2.2.2.1 a).1 1 _ ha (by decide))
        rw [ha] at h1
        have h3 := vWs_get (cy := cy) (g := g) (h := h) (vsame_in hI.2.2.2.2.2.1 hsm)
        rw [hd0] at h3
        have hrest : (st0.map fun v => v.category).sum ≤ 8 := hst
        exact va_copyl (ty := .long) hC.1 hC.2.1 (hC.2.2.1.trans hl.1.symm) hC.2.2.2.1 (hC.2.2.2.2.1 _ (vK13 hk)) (hC.2.2.2.2.1 _ (vRow_mem (by decide))) (hC.2.2.2.2.1 _ (vRow_mem (by decide))) (hC.2.2.2.2.1 _ (vRow_mem (by decide))) (vht hC) hI.2.2.2.1 (vWs_D cy g h) hI.2.2.2.2.1 (a - g) (d - g) 1 1 h1 h3 (vtys_at cy (by decide)) (vtys_at cy (by decide)) rfl e3 e4 e5 e6 e7 (fun i hi => rfl) hr.1 (by simp only [nativeFrameWords]; simp; omega) hd (fun H1 locs1 hP hD hS => kk H1 locs1 ls (hI.put hsm hP hS) hl)
      · cases hg
    · cases hg
  · cases hg
theorem t_invokestatic_ {len m pc pc1 : Nat} {st st1 : List Value} {L L1 : VL} {h h1 : VG} {idx : Nat} (hc0 : vcall (.invokestatic idx) m st h = none) (hv : vlen (.invokestatic idx) len = true) (hs : stp (.invokestatic idx) m pc L st h = some (pc1, L1, st1, h1)) : VT (.invokestatic idx) len m pc st L h pc1 L1 st1 h1 := by
  obtain rfl : len = 3 := by simpa [vlen] using hv
  simp only [stp] at hs
  split at hs
  · rename_i k y pl hk
    split at hs
    · cases hs
    rename_i hne
    unfold vprim at hs
    split at hs
    · exact absurd rfl hne
    · split at hs
      · rename_i y2 x2 st0
        split at hs
        · rename_i hst
          cases hs
          refine ⟨⟨Nat.le_refl _, Nat.le_refl _, rfl⟩, fun p l e R s mi args below meth c H locs ls Q g cy D k0 hd hC hI hl hk1 hcb hsb kk => ?_⟩
          have hr := vRoom hC
          have hrest : (st0.map fun v => v.category).sum ≤ 8 := hst
          exact va_mmax hC.1 hC.2.1 (hC.2.2.1.trans hl.1.symm) hC.2.2.2.1 (hC.2.2.2.2.1 _ (vK11 hk)) (hC.2.2.2.2.1 _ (vRow_mem (by decide))) (hC.2.2.2.2.1 _ (vRow_mem (by decide))) (hC.2.2.2.2.1 _ (vHas_mem vMax_ok)) hr.1 (by omega) hcb hsb hd (kk H locs ls hI hl)
        · cases hs
      · cases hs
    · split at hs
      · rename_i y2 x2 st0
        split at hs
        · rename_i hst
          cases hs
          refine ⟨⟨Nat.le_refl _, Nat.le_refl _, rfl⟩, fun p l e R s mi args below meth c H locs ls Q g cy D k0 hd hC hI hl hk1 hcb hsb kk => ?_⟩
          have hr := vRoom hC
          have hrest : (st0.map fun v => v.category).sum ≤ 8 := hst
          exact va_mmin hC.1 hC.2.1 (hC.2.2.1.trans hl.1.symm) hC.2.2.2.1 (hC.2.2.2.2.1 _ (vK12 hk)) (hC.2.2.2.2.1 _ (vRow_mem (by decide))) (hC.2.2.2.2.1 _ (vRow_mem (by decide))) (hC.2.2.2.2.1 _ (vHas_mem vMin_ok)) hr.1 (by omega) hcb hsb hd (kk H locs ls hI hl)
        · cases hs
      · cases hs
    · split at hs
      · split at hs
        · rename_i hst
          split at hs
          · rename_i h2 hg
            cases hs
            exact t_copy_ hk hst hg
          · cases hs
        · cases hs
      · cases hs
    · cases hs
  · cases hs
theorem vprim10 {pc : Nat} {L : VL} {st : List Value} {h : VG} {q : Nat × VL × List Value × VG} (hs : vprim 10 pc L st h = some q) : ∃ a st0, st = .ref a :: st0 ∧ catS st0 ≤ 8 ∧ q = (pc + 3, L, st0, h) := by
  cases st with
  | nil => simp [vprim] at hs
  | cons v st0 =>
    cases v with
    | ref a =>
      by_cases hc : catS st0 ≤ 8
      · simp [vprim, hc] at hs
        exact ⟨a, st0, rfl, hc, hs.symm⟩
      · simp [vprim, hc] at hs
    | _ => simp [vprim] at hs
theorem t_invokespecial_ {len m pc pc1 : Nat} {st st1 : List Value} {L L1 : VL} {h h1 : VG} {idx : Nat} (hv : vlen (.invokespecial idx) len = true) (hs : stp (.invokespecial idx) m pc L st h = some (pc1, L1, st1, h1)) : VT (.invokespecial idx) len m pc st L h pc1 L1 st1 h1 := by
  obtain rfl : len = 3 := by simpa [vlen] using hv
  simp only [stp] at hs
  split at hs
  · rename_i k y pl hk
    split at hs
    · rename_i h10
      subst h10
      obtain ⟨a, st0, rfl, hst, e1⟩ := vprim10 hs
      cases e1
      refine ⟨⟨Nat.le_refl _, Nat.le_refl _, rfl⟩, fun p l e R s mi args below meth c H locs ls Q g cy D k0 hd hC hI hl hk1 hcb hsb kk => ?_⟩
      have hr := vRoom hC
      have hrest : (st1.map fun v => v.category).sum ≤ 8 := hst
      have hroom := lv_room (m := mi) (pc := pc) (ls := ls) (rest := st1) hrest
      exact W.objInit hC.1 hC.2.1 (g := F0 mi pc ls (.ref a :: st1)) hC.2.2.2.1 (hC.2.2.2.2.1 _ (vK10 hk)) (hC.2.2.2.2.1 _ (vRow_mem (by decide))) (hC.2.2.2.2.1 _ (vRow_mem (by decide))) rfl (hl.1.trans hC.2.2.1.symm) rfl hd hr.1 (by have h2 : 2 * (F0 mi pc ls (.ref a :: st1)).monitorRoom = 2 * (F0 mi pc ls st1).monitorRoom := rfl; omega) (kk H locs ls hI hl)
    · cases hs
  · cases hs
/-- an instruction that is none of the little machine's: its step is none -/
theorem vstep {i : Instr} {len m pc pc1 : Nat} {st st1 : List Value} {L L1 : VL} {h h1 : VG} (hc0 : vcall i m st h = none) (hv : vlen i len = true) (hs : stp i m pc L st h = some (pc1, L1, st1, h1)) : VT i len m pc st L h pc1 L1 st1 h1 := by
  cases i with
  | iconst n => exact t_iconst_ hv hs
  | bipush n => exact t_bipush_ hv hs
  | sipush n => exact t_sipush_ hv hs
  | lconst n => exact t_lconst_ hv hs
  | dconst n => exact t_dconst_ hv hs
  | ldc n => exact t_ldc_ hv hs
  | ldc_w n => exact t_ldc_w_ hv hs
  | ldc2_w n => exact t_ldc2_w_ hv hs
  | iload j => exact t_iload_ hv hs
  | iload_n j => exact t_iload_n_ hv hs
  | lload j => exact t_lload_ hv hs
  | lload_n j => exact t_lload_n_ hv hs
  | dload j => exact t_dload_ hv hs
  | dload_n j => exact t_dload_n_ hv hs
  | aload j => exact t_aload_ hv hs
  | aload_n j => exact t_aload_n_ hv hs
  | istore j => exact t_istore_ hv hs
  | istore_n j => exact t_istore_n_ hv hs
  | lstore j => exact t_lstore_ hv hs
  | lstore_n j => exact t_lstore_n_ hv hs
  | dstore j => exact t_dstore_ hv hs
  | dstore_n j => exact t_dstore_n_ hv hs
  | astore j => exact t_astore_ hv hs
  | astore_n j => exact t_astore_n_ hv hs
  | iinc j n => exact t_iinc_ hv hs
  | iadd => exact t_iadd_ hv hs
  | isub => exact t_isub_ hv hs
  | imul => exact t_imul_ hv hs
  | iand => exact t_iand_ hv hs
  | ior => exact t_ior_ hv hs
  | ishl => exact t_ishl_ hv hs
  | ishr => exact t_ishr_ hv hs
  | iushr => exact t_iushr_ hv hs
  | idiv => exact t_idiv_ hv hs
  | ineg => exact t_ineg_ hv hs
  | i2l => exact t_i2l_ hv hs
  | i2b => exact t_i2b_ hv hs
  | i2s => exact t_i2s_ hv hs
  | i2c => exact t_i2c_ hv hs
  | ladd => exact t_ladd_ hv hs
  | lsub => exact t_lsub_ hv hs
  | lmul => exact t_lmul_ hv hs
  | land => exact t_land_ hv hs
  | lor => exact t_lor_ hv hs
  | lcmp => exact t_lcmp_ hv hs
  | ldiv => exact t_ldiv_ hv hs
  | lneg => exact t_lneg_ hv hs
  | l2i => exact t_l2i_ hv hs
  | l2d => exact t_l2d_ hv hs
  | l2f => exact t_l2f_ hv hs
  | lshl => exact t_lshl_ hv hs
  | lshr => exact t_lshr_ hv hs
  | lushr => exact t_lushr_ hv hs
  | dmul => exact t_dmul_ hv hs
  | ddiv => exact t_ddiv_ hv hs
  | dneg => exact t_dneg_ hv hs
  | d2l => exact t_d2l_ hv hs
  | dcmp op => exact t_dcmp_ hv hs
  | f2d => exact t_f2d_ hv hs
  | dup => exact t_dup_ hv hs
  | pop => exact t_pop_ hv hs
  | goto o => exact t_goto_ hv hs
  | getfield n => exact t_getfield_ hv hs
  | putfield n => exact t_putfield_ hv hs
  | getstatic n => exact t_getstatic_ hv hs
  | iaload => exact t_iaload_ hv hs
  | baload => exact t_baload_ hv hs
  | laload => exact t_laload_ hv hs
  | daload => exact t_daload_ hv hs
  | aaload => exact t_aaload_ hv hs
  | arraylength => exact t_arraylength_ hv hs
  | iastore => exact t_iastore_ hv hs
  | bastore => exact t_bastore_ hv hs
  | lastore => exact t_lastore_ hv hs
  | dastore => exact t_dastore_ hv hs
  | aastore => exact t_aastore_ hv hs
  | new n => exact t_new_ hv hs
  | newarray n => exact t_newarray_ hv hs
  | anewarray n => exact t_anewarray_ hv hs
  | invokespecial n => exact t_invokespecial_ hv hs
  | ifCond cc o => exact t_if_ hv hs
  | if_icmp cc o => exact t_icmp_ hv hs
  | tableswitch d lo hi offs => exact t_tableswitch_ hs
  | lookupswitch d ps => exact t_lookupswitch_ hs
  | invokestatic n => exact t_invokestatic_ hc0 hv hs
  | _ => cases hs
