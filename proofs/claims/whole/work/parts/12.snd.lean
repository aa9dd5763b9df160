/-! calls, and the induction -/
theorem vK_low {oc idx k y p : Nat} (h : vCal oc idx = some (k, y, p)) (hk : k = 0 ∨ k = 1 ∨ k = 2 ∨ k = 3 ∨ k = 4 ∨ k = 5) : y < 247 ∧ y ≠ vLaw ∧ (if k < 3 then vAt p (.methodLink (vCname oc) idx (mnm y)) else if k = 3 ∨ k = 5 then decide (lw_tbl[p]? = some (.methodLinkNest (vCname oc) idx (mnm y) "GuestCalls")) else false) = true ∧ (if k = 0 ∨ k = 3 then vAt ((vMp.getD y (0, 0, 0, 0)).2.2.1) (.static (mnm y)) else
  if k = 2 ∨ k = 5 then vAt ((vMp.getD y (0, 0, 0, 0)).2.2.1) (.instanceMethod (mnm y)) && (mnm y).name == "<init>" && mret y == none else
  vAt ((vMp.getD y (0, 0, 0, 0)).2.2.1) (.instanceMethod (mnm y)) && vAt ((vMp.getD y (0, 0, 0, 0)).2.2.2) (.selects (mnm y).cls (mnm y) (mnm y)) && decide ((vwCl.map (fun q => q.1) ++ [RJ0])[vmc y]? = some (mnm y).cls)) = true := by
  have h1 := vCal_ok h
  unfold vKok at h1
  dsimp only at h1
  rw [if_neg (by omega), if_neg (by omega), if_neg (by omega), if_neg (by omega)] at h1
  rw [Bool.and_eq_true, Bool.and_eq_true, Bool.and_eq_true] at h1
  exact ⟨of_decide_eq_true h1.1.1.1, by simpa using h1.1.1.2, h1.1.2, h1.2⟩
theorem vGood {y : Nat} (hc : Cond.code (mnm y) (mcode y) (mmax y) (mret y) ∈ vW0) : GoodIn vW0 (vWd y) := by
  intro w hw
  rcases List.mem_cons.mp hw with rfl | hw
  · exact ⟨hc, good_of_word (List.mem_filter.mp hc).2⟩
  · exact ⟨hw, good_of_word (List.mem_filter.mp hw).2⟩
theorem vsplit {st : List Value} {n : Nat} : st = (st.take n).reverse.reverse ++ st.drop n := by rw [List.reverse_reverse, List.take_append_drop]
theorem vcat_rev (l : List Value) : catS l.reverse = catS l := by
  unfold catS
  rw [List.map_reverse, List.sum_reverse]
theorem vDp_ok {m y : Nat} (h : vDp m y = true) : mdep y + 1 ≤ mdep m ∧ 8 + (mmax y + 11) + mlw y ≤ mlw m := by
  unfold vDp at h
  rw [Bool.and_eq_true] at h
  exact ⟨of_decide_eq_true h.1, of_decide_eq_true h.2⟩
theorem vrun_row {l : Launch} {p : Program} {e : Env} {R : Room} {s : State} {mi : MethodId} {args : Array Value} {below : List Frame} {meth : Method} {c : Code} {H : Heap} {locs : List Loc} {cells slots pc : Nat} {ls : Array Slot} {g : Nat} {cy : Nat → ClassId} {D : va_G} {h h1 : VG} {rest st ars : List Value} {v : Option Value} {i : Instr} {len m y : Nat} {L : VL} (hc : vcall i m st h = some (y, ars, rest)) (hd : decode (mcode m) pc = .ok (i, len)) (hv : vlen i len = true) (hC : VC cy D p s mi meth c m R args) (hI : VI g cy D s h H locs) (hl : LH ls L (mmax m)) (hsz : H.size = h.2.1) : (y < 247 ∧ y ≠ vLaw ∧ catS ars ≤ mmax y) ∧ ∀ (mc ms : Nat), Met l (mnm y) (vWd y) (vRm y mc ms) (va_Pc ars (VW g cy D h)) (vQ g cy D v h1) mc ms (vA g) → cells + mc ≤ R.cells → slots + ms ≤ R.slots → va_Run p l e R s mi args below meth c H locs cells slots mc ms (F0 mi pc ls st) rest (vQ g cy D v h1 ars.toArray) (vA g) := by
  have hPre : ∀ U : State, U.heap = H → s.WarmedH U.vm → va_Pc ars (VW g cy D h) ars.toArray U := fun U hU hW => ⟨rfl, hI.world hC hsz hU hW⟩
  have hS : CallFix p mi c (mcode m) (mmax m) s args vW0 (vCname (mcl m)) := ⟨hC.1, hC.2.1, hC.2.2.1, hC.2.2.2.1, hC.2.2.2.2.1⟩
  unfold vcall at hc
  split at hc
  · rename_i idx
    obtain rfl : len = 3 := by simpa [vlen] using hv
    split at hc
    · rename_i k y0 p0 hk
      split at hc
      · rename_i hg
        obtain ⟨hk03, hdp, hna, hca, hrest⟩ := hg
        cases hc
        obtain ⟨b1, b2, b3, b4⟩ := vK_low hk (by omega)
        obtain ⟨k1, k2, k3, k4, k5, -⟩ := vmcode b1 b2
        obtain ⟨d1, d2⟩ := vDp_ok hdp
        refine ⟨⟨b1, b2, by rw [vcat_rev]; exact hca⟩, fun mc ms hM hf1 hf2 => ?_⟩
        have hR : (vRm y mc ms).frames + 1 ≤ R.frames ∧ 8 + (mmax y + 11) + (vRm y mc ms).locals ≤ R.locals := ⟨Nat.le_trans d1 hC.2.2.2.2.2.2.2.1, Nat.le_trans d2 hC.2.2.2.2.2.2.2.2.1⟩
        rw [if_pos hk03] at b4
        have hst := hC.2.2.2.2.1 _ (vAt_mem b4)
        have hn : ((st.take (mna y)).reverse).length = mna y := by rw [List.length_reverse, List.length_take]; omega
        rcases hk03 with rfl | rfl
        · have hlk := vAt_mem (show vAt p0 (.methodLink (vCname (mcl m)) idx (mnm y)) = true from b3)
          exact va_runS hS hM ⟨callB_of (mna y) hC.2.2.2.2.1 (vGood k1) rfl rfl rfl (hC.2.2.2.2.1 _ k2) (hC.2.2.2.2.1 _ hlk) k5 hR, hst⟩ ⟨vPc_blind g cy D h _, hPre⟩ rfl hn hl.1 vsplit (lv_room hrest) hd ⟨hf1, hf2⟩
        · have hnw := hC.2.2.2.2.2.1 _ (vfind hk) (Or.inl rfl)
          exact va_runSN hS hM ⟨va_cnB (mna y) hC.2.2.2.2.1 (vGood k1) rfl rfl rfl hnw (hC.2.2.2.2.1 _ k2) k5 hR, hst, trivial⟩ ⟨vPc_blind g cy D h _, hPre⟩ rfl hn hl.1 vsplit (lv_room hrest) hd ⟨hf1, hf2⟩
      · cases hc
    · cases hc
  · rename_i idx
    obtain rfl : len = 3 := by simpa [vlen] using hv
    split at hc
    · rename_i k y0 p0 hk
      split at hc
      · rename_i b rest0 hdr
        split at hc
        · rename_i hg
          obtain ⟨hk14, hdp, hna, hcl, hca, hrest⟩ := hg
          cases hc
          obtain ⟨b1, b2, b3, b4⟩ := vK_low hk (by omega)
          obtain ⟨k1, k2, k3, k4, k5, -⟩ := vmcode b1 b2
          obtain ⟨d1, d2⟩ := vDp_ok hdp
          have hcat : catS (.ref b :: (st.take (mna y)).reverse) = 1 + catS (st.take (mna y)).reverse := rfl
          refine ⟨⟨b1, b2, by rw [hcat, vcat_rev]; exact hca⟩, fun mc ms hM hf1 hf2 => ?_⟩
          have hR : (vRm y mc ms).frames + 1 ≤ R.frames ∧ 8 + (mmax y + 11) + (vRm y mc ms).locals ≤ R.locals := ⟨Nat.le_trans d1 hC.2.2.2.2.2.2.2.1, Nat.le_trans d2 hC.2.2.2.2.2.2.2.2.1⟩
          rw [if_neg (by omega), if_neg (by omega)] at b4
          rw [Bool.and_eq_true, Bool.and_eq_true] at b4
          have hn : ((st.take (mna y)).reverse).length = mna y := by rw [List.length_reverse, List.length_take]; omega
          have hstk : st = (st.take (mna y)).reverse.reverse ++ .ref b :: rest := by rw [← hdr]; exact vsplit
          rcases hk14 with rfl | rfl
          · have hlk := vAt_mem (show vAt p0 (.methodLink (vCname (mcl m)) idx (mnm y)) = true from b3)
            have hrc : ∃ cellB : Cell, H[b]? = some cellB ∧ cellB.vm.isStatics = false ∧ s.vm.findClass (mnm y).cls = some cellB.cls := by
              have hw := of_decide_eq_true b4.2
              unfold vcls at hcl
              by_cases h12 : vmc y = 12
              · rw [if_pos h12] at hcl
                rw [h12] at hw
                have hq2 : RJ0 = (mnm y).cls := Option.some.inj hw
                obtain ⟨q, w, e1, -, -, ⟨cell, z1, z2, z3, z4⟩, -⟩ := hI.2.2.2.2.2.2.2.2
                rw [e1] at hcl
                have hqb : q = b := by simpa using hcl
                subst hqb
                rw [← hq2]
                exact ⟨cell, by rw [hI.2.2.2.2.1.2.1 q (Array.getElem?_eq_some_iff.mp z1).1 z4]; exact z1, z2, z3⟩
              · rw [if_neg h12] at hcl
                split at hcl
                · rename_i c0 fs hb
                  have hcc : c0 = vmc y := by simpa using hcl
                  subst hcc
                  have hlt : vmc y < 12 := by
                    have h13 := (List.getElem?_eq_some_iff.mp hw).1
                    have h14 : (vwCl.map (fun q => q.1) ++ [RJ0]).length = 13 := rfl
                    rw [h14] at h13
                    omega
                  obtain ⟨q, hq⟩ := vwCl_lt hlt
                  have he := vWs_get (cy := cy) (g := g) (h := h) ((hI.2.2.2.2.2.1 b).2 _ _ hb hlt)
                  rw [hb] at he
                  have hq2 : q.1 = (mnm y).cls := by
                    rw [List.getElem?_append_left (by simpa using hlt), List.getElem?_map, hq] at hw
                    exact Option.some.inj hw
                  rw [← hq2]
                  exact va_recv (vht hC) hI.2.2.2.1 hq he
                · cases hcl
            exact va_runV (C := (mnm y).cls) hS hM ⟨callB_of (mna y) hC.2.2.2.2.1 (vGood k1) rfl rfl rfl (hC.2.2.2.2.1 _ k2) (hC.2.2.2.2.1 _ hlk) k5 hR, hC.2.2.2.2.1 _ (vAt_mem b4.1.1), hC.2.2.2.2.1 _ (vAt_mem b4.1.2)⟩ ⟨vPc_blind g cy D h _, hrc, hPre⟩ rfl hn hl.1 hstk (lv_room hrest) hd ⟨hf1, hf2⟩
          · rw [if_neg (by decide), if_neg (by decide)] at b3
            cases b3
        · cases hc
      · cases hc
    · cases hc
  · rename_i idx
    obtain rfl : len = 3 := by simpa [vlen] using hv
    split at hc
    · rename_i k y0 p0 hk
      split at hc
      · rename_i b rest0 hdr
        split at hc
        · rename_i hg
          obtain ⟨hk25, hdp, hna, hca, hrest⟩ := hg
          cases hc
          obtain ⟨b1, b2, b3, b4⟩ := vK_low hk (by omega)
          obtain ⟨k1, k2, k3, k4, k5, -⟩ := vmcode b1 b2
          obtain ⟨d1, d2⟩ := vDp_ok hdp
          have hcat : catS (.ref b :: (st.take (mna y)).reverse) = 1 + catS (st.take (mna y)).reverse := rfl
          refine ⟨⟨b1, b2, by rw [hcat, vcat_rev]; exact hca⟩, fun mc ms hM hf1 hf2 => ?_⟩
          have hR : (vRm y mc ms).frames + 1 ≤ R.frames ∧ 8 + (mmax y + 11) + (vRm y mc ms).locals ≤ R.locals := ⟨Nat.le_trans d1 hC.2.2.2.2.2.2.2.1, Nat.le_trans d2 hC.2.2.2.2.2.2.2.2.1⟩
          rw [if_neg (by omega), if_pos hk25] at b4
          rw [Bool.and_eq_true, Bool.and_eq_true] at b4
          have hnm : (mnm y).name = "<init>" := by simpa using b4.1.2
          have hrt : mret y = none := by simpa using b4.2
          have hwd : vWd y = .code (mnm y) (mcode y) (mmax y) none :: vW0 := by unfold vWd; rw [hrt]
          have hn : ((st.take (mna y)).reverse).length = mna y := by rw [List.length_reverse, List.length_take]; omega
          have hstk : st = (st.take (mna y)).reverse.reverse ++ .ref b :: rest := by rw [← hdr]; exact vsplit
          rcases hk25 with rfl | rfl
          · have hlk := vAt_mem (show vAt p0 (.methodLink (vCname (mcl m)) idx (mnm y)) = true from b3)
            exact va_runI hS hM ⟨callB_of (mna y) hC.2.2.2.2.1 (vGood k1) hwd rfl rfl (hC.2.2.2.2.1 _ k2) (hC.2.2.2.2.1 _ hlk) k5 hR, hnm, hC.2.2.2.2.1 _ (vAt_mem b4.1.1)⟩ ⟨vPc_blind g cy D h _, hPre⟩ rfl hn hl.1 hstk (lv_room hrest) hd ⟨hf1, hf2⟩
          · have hnw := hC.2.2.2.2.2.1 _ (vfind hk) (Or.inr rfl)
            exact va_runIN hS hM ⟨va_cnB (mna y) hC.2.2.2.2.1 (vGood k1) hwd rfl rfl hnw (hC.2.2.2.2.1 _ k2) k5 hR, hnm, hC.2.2.2.2.1 _ (vAt_mem b4.1.1)⟩ ⟨vPc_blind g cy D h _, hPre⟩ rfl hn hl.1 hstk (lv_room hrest) hd ⟨hf1, hf2⟩
        · cases hc
      · cases hc
    · cases hc
  · cases hc
theorem vsnd (l : Launch) (g : Nat) (cy : Nat → ClassId) (D : va_G) : ∀ n, VSnd l g cy D n
  | 0 => fun _ _ _ _ _ _ _ hr => by simp [run] at hr
  | n + 1 => by
    have IH := vsnd l g cy D n
    intro m pc L st h v h1 hr
    simp only [run] at hr
    cases hf : fetch m pc with
    | none => rw [hf] at hr; cases hr
    | some x =>
      obtain ⟨i, len⟩ := x
      rw [hf] at hr
      dsimp only at hr
      obtain ⟨hd, hv⟩ := fetch_dec hf
      cases hvr : vret i m st with
      | some w =>
        rw [hvr] at hr
        dsimp only at hr
        cases hr
        obtain rfl := vret_len hvr hv
        exact ⟨⟨Nat.le_refl _, Nat.le_refl _, rfl⟩, fun p e R s mi args below meth c H locs ls Q k0 hC hI hl hk hcb hsb kk => kk i pc st H locs ls hd hvr hI⟩
      | none =>
        rw [hvr] at hr
        dsimp only at hr
        cases hc : vcall i m st h with
        | none =>
          rw [hc] at hr
          dsimp only at hr
          cases hs : stp i m pc L st h with
          | none => rw [hs] at hr; cases hr
          | some q =>
            obtain ⟨pc1, L1, st1, h2⟩ := q
            rw [hs] at hr
            dsimp only at hr
            obtain ⟨m1, w1⟩ := vstep hc hv hs
            obtain ⟨m2, w2⟩ := IH _ _ _ _ _ _ _ hr
            refine ⟨⟨Nat.le_trans m1.1 m2.1, Nat.le_trans m1.2.1 m2.2.1, m2.2.2.trans m1.2.2⟩, fun p e R s mi args below meth c H locs ls Q k0 hC hI hl hk hcb hsb kk => ?_⟩
            have n1 := m2.1
            have n2 := m2.2.1
            exact w1 p l e R s mi args below meth c H locs ls Q g cy D k0 hd hC hI hl hk (by omega) (by omega) (fun H1 locs1 ls1 hI1 hl1 => w2 p e R s mi args below meth c H1 locs1 ls1 Q k0 hC hI1 hl1 (Nat.le_trans hk m1.2.1) hcb hsb kk)
        | some q =>
          obtain ⟨y, ars, rest⟩ := q
          rw [hc] at hr
          dsimp only at hr
          cases hq : run n y 0 (vEnt ars (mmax y)) [] h with
          | none => rw [hq] at hr; cases hr
          | some z =>
            obtain ⟨v1, h2⟩ := z
            rw [hq] at hr
            dsimp only at hr
            obtain ⟨m1, -⟩ := IH _ _ _ _ _ _ _ hq
            obtain ⟨m2, w2⟩ := IH _ _ _ _ _ _ _ hr
            refine ⟨⟨Nat.le_trans m1.1 m2.1, Nat.le_trans m1.2.1 m2.2.1, m2.2.2.trans m1.2.2⟩, fun p e R s mi args below meth c H locs ls Q k0 hC hI hl hk hcb hsb kk => ?_⟩
            refine vsz hI (fun hsz => ?_)
            have a1 := m1.1
            have a2 := m1.2.1
            have a3 := m2.1
            have a4 := m2.2.1
            have a5 := hI.2.1
            obtain ⟨⟨b1, b2, b3⟩, row⟩ := vrun_row (l := l) (e := e) (below := below) (cells := h.2.1 - s.heap.size) (slots := h.2.2.1 - k0) (v := v1) (h1 := h2) hc hd hv hC hI hl hsz
            refine vcallW (row _ _ (vMet IH b1 b2 b3 hq) (by omega) (by omega)) hI m1.2.2 m1.1 (fun H1 locs1 hI1 => ?_)
            rw [show h.2.1 - s.heap.size + (h2.2.1 - h.2.1) = h2.2.1 - s.heap.size by omega, show h.2.2.1 - k0 + (h2.2.2.1 - h.2.2.1) = h2.2.2.1 - k0 by omega]
            exact w2 p e R s mi args below meth c H1 locs1 ls Q k0 hC hI1 hl (Nat.le_trans hk m1.2.1) hcb hsb kk
