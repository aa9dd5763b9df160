/-! objects made: a heap with a block of new cells behind a -/
def hbk (h : VG) (a : Nat) (l : List VE) (s : Nat) : VG := (fun x => if x < a then h.1 x else (l[x - a]?).getD (h.1 x), a + l.length, h.2.2.1 + s, h.2.2.2)
theorem hbk_n (h : VG) (a : Nat) (l : List VE) (s : Nat) : (hbk h a l s).2.1 = a + l.length := rfl
theorem hbk_st (h : VG) (a : Nat) (l : List VE) (s : Nat) : (hbk h a l s).2.2.2 = h.2.2.2 := rfl
theorem hbk_new (h : VG) (a : Nat) (l : List VE) (s : Nat) (c : VE) (n : Nat) : hnew (hbk h a l s) c n = hbk h a (l ++ [c]) (s + n) := by
  unfold hnew hbk
  refine Prod.ext ?_ (Prod.ext ?_ (Prod.ext ?_ rfl))
  · funext x
    show (if x = a + l.length then c else if x < a then h.1 x else (l[x - a]?).getD (h.1 x)) = if x < a then h.1 x else ((l ++ [c])[x - a]?).getD (h.1 x)
    by_cases y : x < a
    · rw [if_neg (by omega), if_pos y, if_pos y]
    · rw [if_neg y, if_neg y]
      by_cases z : x = a + l.length
      · rw [if_pos z, z, List.getElem?_append_right (by omega), show a + l.length - a - l.length = 0 by omega]
        rfl
      · rw [if_neg z]
        by_cases w : x - a < l.length
        · rw [List.getElem?_append_left w]
        · rw [List.getElem?_eq_none (by omega), List.getElem?_eq_none (by rw [List.length_append]; show l.length + 1 ≤ _; omega)]
  · show a + l.length + 1 = a + (l ++ [c]).length
    rw [List.length_append]
    rfl
  · show h.2.2.1 + s + n = h.2.2.1 + (s + n)
    omega
theorem hbk_get {h : VG} {a i : Nat} {l : List VE} {s : Nat} {c : VE} (e : l[i]? = some c) : (hbk h a l s).1 (a + i) = c := by
  show (if a + i < a then h.1 (a + i) else (l[a + i - a]?).getD (h.1 (a + i))) = c
  rw [if_neg (by omega), show a + i - a = i by omega, e]
  rfl
theorem hbk_set {h : VG} {a i : Nat} {l : List VE} {s : Nat} (c : VE) (hi : i < l.length) : hset (hbk h a l s) (a + i) c = hbk h a (l.set i c) s := by
  unfold hset
  refine Prod.ext ?_ (Prod.ext ?_ rfl)
  · funext x
    show (if x = a + i then c else if x < a then h.1 x else (l[x - a]?).getD (h.1 x)) = if x < a then h.1 x else ((l.set i c)[x - a]?).getD (h.1 x)
    by_cases y : x < a
    · rw [if_neg (by omega), if_pos y, if_pos y]
    · rw [if_neg y, if_neg y]
      by_cases z : x = a + i
      · rw [if_pos z, z, show a + i - a = i by omega, List.getElem?_set_self hi]
        rfl
      · rw [if_neg z, List.getElem?_set_ne (by omega)]
  · show a + l.length = a + (l.set i c).length
    rw [List.length_set]
theorem hbk_pV {h : VG} {a c : Nat} {fs : List Value} {l : List VE} {s : Nat} (k : Nat) (v : Value) : pV (hbk h a (.inr (c, fs) :: l) s) a k v = hbk h a (.inr (c, vset fs k v) :: l) s := by
  unfold pV
  have e : (hbk h a (.inr (c, fs) :: l) s).1 a = .inr (c, fs) := hbk_get (i := 0) rfl
  rw [e]
  exact hbk_set (i := 0) _ (Nat.zero_lt_succ _)
theorem hbk_pR {h : VG} {a c : Nat} {fs : List Value} {l : List VE} {s : Nat} (k x : Nat) : pR (hbk h a (.inr (c, fs) :: l) s) a k x = hbk h a (.inr (c, vset fs k (.ref x)) :: l) s := hbk_pV k _
theorem hbk_pI {h : VG} {a c : Nat} {fs : List Value} {l : List VE} {s : Nat} (k : Nat) (x : Int32) : pI (hbk h a (.inr (c, fs) :: l) s) a k x = hbk h a (.inr (c, vset fs k (.int x)) :: l) s := hbk_pV k _
theorem hbk_ob {h : VG} {a c : Nat} {fs : List Value} {l : List VE} {s : Nat} (e : fs.map vtag = vShape c) : ob (hbk h a (.inr (c, fs) :: l) s) a c := ⟨fs, hbk_get (i := 0) rfl, e⟩
theorem hbk_one {h : VG} {a : Nat} {c : VE} (h1 : h.2.1 = a + 1) (h2 : h.1 a = c) : hbk h a [c] 0 = h := by
  unfold hbk
  refine Prod.ext ?_ (Prod.ext ?_ (Prod.ext rfl rfl))
  · funext x
    show (if x < a then h.1 x else ([c][x - a]?).getD (h.1 x)) = h.1 x
    by_cases y : x < a
    · rw [if_pos y]
    · rw [if_neg y]
      by_cases z : x = a
      · rw [z, Nat.sub_self, h2]
        rfl
      · rw [List.getElem?_eq_none (by show 1 ≤ x - a; omega)]
        rfl
  · exact h1.symm
theorem hbk_two {h : VG} {a s s1 : Nat} {l : List VE} {c d : VE} {m : List VE} : hbk (hbk h a (l ++ [c]) s) (a + l.length) (d :: m) s1 = hbk h a (l ++ (d :: m)) (s + s1) := by
  unfold hbk
  refine Prod.ext ?_ (Prod.ext ?_ (Prod.ext ?_ rfl))
  · funext x
    show (if x < a + l.length then (if x < a then h.1 x else ((l ++ [c])[x - a]?).getD (h.1 x)) else ((d :: m)[x - (a + l.length)]?).getD (if x < a then h.1 x else ((l ++ [c])[x - a]?).getD (h.1 x))) = if x < a then h.1 x else ((l ++ (d :: m))[x - a]?).getD (h.1 x)
    by_cases y : x < a
    · rw [if_pos (by omega), if_pos y, if_pos y]
    · rw [if_neg y, if_neg y]
      by_cases z : x < a + l.length
      · rw [if_pos z, List.getElem?_append_left (by omega), List.getElem?_append_left (by omega)]
      · rw [if_neg z, List.getElem?_append_right (l₁ := l) (l₂ := d :: m) (by omega), show x - (a + l.length) = x - a - l.length by omega]
        by_cases w : x - a - l.length < (d :: m).length
        · rw [List.getElem?_eq_getElem w]
          rfl
        · have w2 : (d :: m).length = m.length + 1 := rfl
          rw [List.getElem?_eq_none (l := d :: m) (by omega), List.getElem?_eq_none (by rw [List.length_append]; show l.length + 1 ≤ _; omega)]
          rfl
  · show a + l.length + (d :: m).length = a + (l ++ d :: m).length
    rw [List.length_append]
    omega
  · show h.2.2.1 + s + s1 = h.2.2.1 + (s + s1)
    omega
theorem vset_0 {u v : Value} {fs : List Value} (e : vtag u = vtag v) : vset (u :: fs) 0 v = v :: fs := by
  unfold vset
  rw [if_pos (by show some (vtag u) = _; rw [e])]
  rfl
theorem vset_s {u v : Value} {fs : List Value} (k : Nat) : vset (u :: fs) (k + 1) v = u :: vset fs k v := by
  unfold vset
  by_cases e : fs[k]?.map vtag = some (vtag v)
  · rw [if_pos e, if_pos (by show (fs[k]?).map vtag = _; exact e)]
    rfl
  · rw [if_neg e, if_neg (by show ¬ (fs[k]?).map vtag = _; exact e)]
theorem vtag_r (x : Nat) : vtag (.ref x) = 3 := rfl
theorem vtag_n : vtag .null = 3 := rfl
theorem vtag_i (x : Int32) : vtag (.int x) = 0 := rfl
theorem vtag_l (x : Int64) : vtag (.long x) = 1 := rfl
theorem vtag_d (x : UInt64) : vtag (.double x) = 2 := rfl
theorem vdef_0 : vDef 0 = [.null, .null, .null] := by decide +kernel
theorem vsh_0 : vShape 0 = [3, 3, 3] := rfl
theorem obk_0 {h : VG} {a : Nat} {l : List VE} {s : Nat} {v0 v1 v2 : Value} (e0 : vtag v0 = 3) (e1 : vtag v1 = 3) (e2 : vtag v2 = 3) : ob (hbk h a (.inr (0, [v0, v1, v2]) :: l) s) a 0 := hbk_ob (by show [vtag v0, vtag v1, vtag v2] = [3, 3, 3]; rw [e0, e1, e2])
theorem vnsl_0 : vNsl 0 = 3 := by decide +kernel
theorem vdef_1 : vDef 1 = [.int 0, .int 0, .null, .null] := by decide +kernel
theorem vsh_1 : vShape 1 = [0, 0, 3, 3] := rfl
theorem obk_1 {h : VG} {a : Nat} {l : List VE} {s : Nat} {v0 v1 v2 v3 : Value} (e0 : vtag v0 = 0) (e1 : vtag v1 = 0) (e2 : vtag v2 = 3) (e3 : vtag v3 = 3) : ob (hbk h a (.inr (1, [v0, v1, v2, v3]) :: l) s) a 1 := hbk_ob (by show [vtag v0, vtag v1, vtag v2, vtag v3] = [0, 0, 3, 3]; rw [e0, e1, e2, e3])
theorem vnsl_1 : vNsl 1 = 4 := by decide +kernel
theorem vdef_2 : vDef 2 = [.null, .null, .int 0, .int 0, .int 0, .int 0] := by decide +kernel
theorem vsh_2 : vShape 2 = [3, 3, 0, 0, 0, 0] := rfl
theorem obk_2 {h : VG} {a : Nat} {l : List VE} {s : Nat} {v0 v1 v2 v3 v4 v5 : Value} (e0 : vtag v0 = 3) (e1 : vtag v1 = 3) (e2 : vtag v2 = 0) (e3 : vtag v3 = 0) (e4 : vtag v4 = 0) (e5 : vtag v5 = 0) : ob (hbk h a (.inr (2, [v0, v1, v2, v3, v4, v5]) :: l) s) a 2 := hbk_ob (by show [vtag v0, vtag v1, vtag v2, vtag v3, vtag v4, vtag v5] = [3, 3, 0, 0, 0, 0]; rw [e0, e1, e2, e3, e4, e5])
theorem vnsl_2 : vNsl 2 = 6 := by decide +kernel
theorem vdef_3 : vDef 3 = [.long 0, .int 0, .int 0, .null, .null, .null, .null, .null, .null, .null] := by decide +kernel
theorem vsh_3 : vShape 3 = [1, 0, 0, 3, 3, 3, 3, 3, 3, 3] := rfl
theorem obk_3 {h : VG} {a : Nat} {l : List VE} {s : Nat} {v0 v1 v2 v3 v4 v5 v6 v7 v8 v9 : Value} (e0 : vtag v0 = 1) (e1 : vtag v1 = 0) (e2 : vtag v2 = 0) (e3 : vtag v3 = 3) (e4 : vtag v4 = 3) (e5 : vtag v5 = 3) (e6 : vtag v6 = 3) (e7 : vtag v7 = 3) (e8 : vtag v8 = 3) (e9 : vtag v9 = 3) : ob (hbk h a (.inr (3, [v0, v1, v2, v3, v4, v5, v6, v7, v8, v9]) :: l) s) a 3 := hbk_ob (by show [vtag v0, vtag v1, vtag v2, vtag v3, vtag v4, vtag v5, vtag v6, vtag v7, vtag v8, vtag v9] = [1, 0, 0, 3, 3, 3, 3, 3, 3, 3]; rw [e0, e1, e2, e3, e4, e5, e6, e7, e8, e9])
theorem vnsl_3 : vNsl 3 = 10 := by decide +kernel
theorem vdef_4 : vDef 4 = [.int 0, .null, .int 0, .int 0] := by decide +kernel
theorem vsh_4 : vShape 4 = [0, 3, 0, 0] := rfl
theorem obk_4 {h : VG} {a : Nat} {l : List VE} {s : Nat} {v0 v1 v2 v3 : Value} (e0 : vtag v0 = 0) (e1 : vtag v1 = 3) (e2 : vtag v2 = 0) (e3 : vtag v3 = 0) : ob (hbk h a (.inr (4, [v0, v1, v2, v3]) :: l) s) a 4 := hbk_ob (by show [vtag v0, vtag v1, vtag v2, vtag v3] = [0, 3, 0, 0]; rw [e0, e1, e2, e3])
theorem vnsl_4 : vNsl 4 = 4 := by decide +kernel
theorem vdef_5 : vDef 5 = [.null, .int 0, .int 0] := by decide +kernel
theorem vsh_5 : vShape 5 = [3, 0, 0] := rfl
theorem obk_5 {h : VG} {a : Nat} {l : List VE} {s : Nat} {v0 v1 v2 : Value} (e0 : vtag v0 = 3) (e1 : vtag v1 = 0) (e2 : vtag v2 = 0) : ob (hbk h a (.inr (5, [v0, v1, v2]) :: l) s) a 5 := hbk_ob (by show [vtag v0, vtag v1, vtag v2] = [3, 0, 0]; rw [e0, e1, e2])
theorem vnsl_5 : vNsl 5 = 3 := by decide +kernel
theorem vdef_6 : vDef 6 = [.null, .null, .int 0] := by decide +kernel
theorem vsh_6 : vShape 6 = [3, 3, 0] := rfl
theorem obk_6 {h : VG} {a : Nat} {l : List VE} {s : Nat} {v0 v1 v2 : Value} (e0 : vtag v0 = 3) (e1 : vtag v1 = 3) (e2 : vtag v2 = 0) : ob (hbk h a (.inr (6, [v0, v1, v2]) :: l) s) a 6 := hbk_ob (by show [vtag v0, vtag v1, vtag v2] = [3, 3, 0]; rw [e0, e1, e2])
theorem vnsl_6 : vNsl 6 = 3 := by decide +kernel
theorem vdef_7 : vDef 7 = [.int 0, .null, .null, .int 0, .int 0, .int 0] := by decide +kernel
theorem vsh_7 : vShape 7 = [0, 3, 3, 0, 0, 0] := rfl
theorem obk_7 {h : VG} {a : Nat} {l : List VE} {s : Nat} {v0 v1 v2 v3 v4 v5 : Value} (e0 : vtag v0 = 0) (e1 : vtag v1 = 3) (e2 : vtag v2 = 3) (e3 : vtag v3 = 0) (e4 : vtag v4 = 0) (e5 : vtag v5 = 0) : ob (hbk h a (.inr (7, [v0, v1, v2, v3, v4, v5]) :: l) s) a 7 := hbk_ob (by show [vtag v0, vtag v1, vtag v2, vtag v3, vtag v4, vtag v5] = [0, 3, 3, 0, 0, 0]; rw [e0, e1, e2, e3, e4, e5])
theorem vnsl_7 : vNsl 7 = 6 := by decide +kernel
theorem vdef_8 : vDef 8 = [.null, .null, .null, .int 0] := by decide +kernel
theorem vsh_8 : vShape 8 = [3, 3, 3, 0] := rfl
theorem obk_8 {h : VG} {a : Nat} {l : List VE} {s : Nat} {v0 v1 v2 v3 : Value} (e0 : vtag v0 = 3) (e1 : vtag v1 = 3) (e2 : vtag v2 = 3) (e3 : vtag v3 = 0) : ob (hbk h a (.inr (8, [v0, v1, v2, v3]) :: l) s) a 8 := hbk_ob (by show [vtag v0, vtag v1, vtag v2, vtag v3] = [3, 3, 3, 0]; rw [e0, e1, e2, e3])
theorem vnsl_8 : vNsl 8 = 4 := by decide +kernel
theorem vdef_9 : vDef 9 = [.null, .null, .null, .null] := by decide +kernel
theorem vsh_9 : vShape 9 = [3, 3, 3, 3] := rfl
theorem obk_9 {h : VG} {a : Nat} {l : List VE} {s : Nat} {v0 v1 v2 v3 : Value} (e0 : vtag v0 = 3) (e1 : vtag v1 = 3) (e2 : vtag v2 = 3) (e3 : vtag v3 = 3) : ob (hbk h a (.inr (9, [v0, v1, v2, v3]) :: l) s) a 9 := hbk_ob (by show [vtag v0, vtag v1, vtag v2, vtag v3] = [3, 3, 3, 3]; rw [e0, e1, e2, e3])
theorem vnsl_9 : vNsl 9 = 4 := by decide +kernel
theorem vdef_10 : vDef 10 = [.null, .int 0, .null, .null, .null, .int 0, .null, .null, .null, .int 0, .int 0, .null, .null, .null] := by decide +kernel
theorem vsh_10 : vShape 10 = [3, 0, 3, 3, 3, 0, 3, 3, 3, 0, 0, 3, 3, 3] := rfl
theorem obk_10 {h : VG} {a : Nat} {l : List VE} {s : Nat} {v0 v1 v2 v3 v4 v5 v6 v7 v8 v9 v10 v11 v12 v13 : Value} (e0 : vtag v0 = 3) (e1 : vtag v1 = 0) (e2 : vtag v2 = 3) (e3 : vtag v3 = 3) (e4 : vtag v4 = 3) (e5 : vtag v5 = 0) (e6 : vtag v6 = 3) (e7 : vtag v7 = 3) (e8 : vtag v8 = 3) (e9 : vtag v9 = 0) (e10 : vtag v10 = 0) (e11 : vtag v11 = 3) (e12 : vtag v12 = 3) (e13 : vtag v13 = 3) : ob (hbk h a (.inr (10, [v0, v1, v2, v3, v4, v5, v6, v7, v8, v9, v10, v11, v12, v13]) :: l) s) a 10 := hbk_ob (by show [vtag v0, vtag v1, vtag v2, vtag v3, vtag v4, vtag v5, vtag v6, vtag v7, vtag v8, vtag v9, vtag v10, vtag v11, vtag v12, vtag v13] = [3, 0, 3, 3, 3, 0, 3, 3, 3, 0, 0, 3, 3, 3]; rw [e0, e1, e2, e3, e4, e5, e6, e7, e8, e9, e10, e11, e12, e13])
theorem vnsl_10 : vNsl 10 = 14 := by decide +kernel
theorem vdef_11 : vDef 11 = [.int 0, .null, .int 0, .null, .int 0, .null, .null, .null, .null, .null, .int 0, .int 0, .int 0, .int 0, .int 0, .int 0, .int 0, .int 0, .int 0, .int 0, .null, .null, .null, .null, .int 0, .int 0, .int 0, .null, .null, .null, .null, .int 0, .int 0, .null, .null, .null, .int 0, .int 0, .int 0, .long 0, .double 0, .int 0, .null, .null, .null, .null, .null, .null, .null, .null, .null, .null, .null, .null, .int 0, .null, .null, .int 0, .null, .null, .null, .null, .null, .null, .null, .null, .null] := by decide +kernel
theorem vsh_11 : vShape 11 = [0, 3, 0, 3, 0, 3, 3, 3, 3, 3, 0, 0, 0, 0, 0, 0, 0, 0, 0, 0, 3, 3, 3, 3, 0, 0, 0, 3, 3, 3, 3, 0, 0, 3, 3, 3, 0, 0, 0, 1, 2, 0, 3, 3, 3, 3, 3, 3, 3, 3, 3, 3, 3, 3, 0, 3, 3, 0, 3, 3, 3, 3, 3, 3, 3, 3, 3] := rfl
theorem obk_11 {h : VG} {a : Nat} {l : List VE} {s : Nat} {v0 v1 v2 v3 v4 v5 v6 v7 v8 v9 v10 v11 v12 v13 v14 v15 v16 v17 v18 v19 v20 v21 v22 v23 v24 v25 v26 v27 v28 v29 v30 v31 v32 v33 v34 v35 v36 v37 v38 v39 v40 v41 v42 v43 v44 v45 v46 v47 v48 v49 v50 v51 v52 v53 v54 v55 v56 v57 v58 v59 v60 v61 v62 v63 v64 v65 v66 : Value} (e0 : vtag v0 = 0) (e1 : vtag v1 = 3) (e2 : vtag v2 = 0) (e3 : vtag v3 = 3) (e4 : vtag v4 = 0) (e5 : vtag v5 = 3) (e6 : vtag v6 = 3) (e7 : vtag v7 = 3) (e8 : vtag v8 = 3) (e9 : vtag v9 = 3) (e10 : vtag v10 = 0) (e11 : vtag v11 = 0) (e12 : vtag v12 = 0) (e13 : vtag v13 = 0) (e14 : vtag v14 = 0) (e15 : vtag v15 = 0) (e16 : vtag v16 = 0) (e17 : vtag v17 = 0) (e18 : vtag v18 = 0) (e19 : vtag v19 = 0) (e20 : vtag v20 = 3) (e21 : vtag v21 = 3) (e22 : vtag v22 = 3) (e23 : vtag v23 = 3) (e24 : vtag v24 = 0) (e25 : vtag v25 = 0) (e26 : vtag v26 = 0) (e27 : vtag v27 = 3) (e28 : vtag v28 = 3) (e29 : vtag v29 = 3) (e30 : vtag v30 = 3) (e31 : vtag v31 = 0) (e32 : vtag v32 = 0) (e33 : vtag v33 = 3) (e34 : vtag v34 = 3) (e35 : vtag v35 = 3) (e36 : vtag v36 = 0) (e37 : vtag v37 = 0) (e38 : vtag v38 = 0) (e39 : vtag v39 = 1) (e40 : vtag v40 = 2) (e41 : vtag v41 = 0) (e42 : vtag v42 = 3) (e43 : vtag v43 = 3) (e44 : vtag v44 = 3) (e45 : vtag v45 = 3) (e46 : vtag v46 = 3) (e47 : vtag v47 = 3) (e48 : vtag v48 = 3) (e49 : vtag v49 = 3) (e50 : vtag v50 = 3) (e51 : vtag v51 = 3) (e52 : vtag v52 = 3) (e53 : vtag v53 = 3) (e54 : vtag v54 = 0) (e55 : vtag v55 = 3) (e56 : vtag v56 = 3) (e57 : vtag v57 = 0) (e58 : vtag v58 = 3) (e59 : vtag v59 = 3) (e60 : vtag v60 = 3) (e61 : vtag v61 = 3) (e62 : vtag v62 = 3) (e63 : vtag v63 = 3) (e64 : vtag v64 = 3) (e65 : vtag v65 = 3) (e66 : vtag v66 = 3) : ob (hbk h a (.inr (11, [v0, v1, v2, v3, v4, v5, v6, v7, v8, v9, v10, v11, v12, v13, v14, v15, v16, v17, v18, v19, v20, v21, v22, v23, v24, v25, v26, v27, v28, v29, v30, v31, v32, v33, v34, v35, v36, v37, v38, v39, v40, v41, v42, v43, v44, v45, v46, v47, v48, v49, v50, v51, v52, v53, v54, v55, v56, v57, v58, v59, v60, v61, v62, v63, v64, v65, v66]) :: l) s) a 11 := hbk_ob (by show [vtag v0, vtag v1, vtag v2, vtag v3, vtag v4, vtag v5, vtag v6, vtag v7, vtag v8, vtag v9, vtag v10, vtag v11, vtag v12, vtag v13, vtag v14, vtag v15, vtag v16, vtag v17, vtag v18, vtag v19, vtag v20, vtag v21, vtag v22, vtag v23, vtag v24, vtag v25, vtag v26, vtag v27, vtag v28, vtag v29, vtag v30, vtag v31, vtag v32, vtag v33, vtag v34, vtag v35, vtag v36, vtag v37, vtag v38, vtag v39, vtag v40, vtag v41, vtag v42, vtag v43, vtag v44, vtag v45, vtag v46, vtag v47, vtag v48, vtag v49, vtag v50, vtag v51, vtag v52, vtag v53, vtag v54, vtag v55, vtag v56, vtag v57, vtag v58, vtag v59, vtag v60, vtag v61, vtag v62, vtag v63, vtag v64, vtag v65, vtag v66] = [0, 3, 0, 3, 0, 3, 3, 3, 3, 3, 0, 0, 0, 0, 0, 0, 0, 0, 0, 0, 3, 3, 3, 3, 0, 0, 0, 3, 3, 3, 3, 0, 0, 3, 3, 3, 0, 0, 0, 1, 2, 0, 3, 3, 3, 3, 3, 3, 3, 3, 3, 3, 3, 3, 0, 3, 3, 0, 3, 3, 3, 3, 3, 3, 3, 3, 3]; rw [e0, e1, e2, e3, e4, e5, e6, e7, e8, e9, e10, e11, e12, e13, e14, e15, e16, e17, e18, e19, e20, e21, e22, e23, e24, e25, e26, e27, e28, e29, e30, e31, e32, e33, e34, e35, e36, e37, e38, e39, e40, e41, e42, e43, e44, e45, e46, e47, e48, e49, e50, e51, e52, e53, e54, e55, e56, e57, e58, e59, e60, e61, e62, e63, e64, e65, e66])
theorem vnsl_11 : vNsl 11 = 67 := by decide +kernel
def memB (a : Nat) : List VE := [.inr (5, [.ref (a + 1), .int 256, .int 0]), .inl (2, 256, .inl fun _ => 0)]
theorem ini_mem (h : VG) (a : Nat) (h1 : h.2.1 = a + 1) (h2 : h.1 a = .inr (5, vDef 5)) : ev 51 0 [some (.ref a)] [] h = some (none, hbk h a (memB a) 256) := by
  have e := hbk_one h1 h2
  rw [vdef_5] at e
  have key : ev 51 0 [some (.ref a)] [] (hbk h a [.inr (5, [.null, .int 0, .int 0])] 0) = some (none, hbk h a (memB a) 256) := by
    unfold memB
    have c256 : (256 : Int32).toNatClampNeg = 256 := by decide
    have o0 : ∀ (l : List VE) (s : Nat), ob (hbk h a (.inr (5, [.null, .int 0, .int 0]) :: l) s) a 5 := fun l s => obk_5 rfl rfl rfl
    have p0 : ∀ (l : List VE) (s : Nat), pR (hbk h a (.inr (5, [.null, .int 0, .int 0]) :: l) s) a 0 (a + 1) = hbk h a (.inr (5, [.ref (a + 1), .int 0, .int 0]) :: l) s := fun l s => by rw [hbk_pR]; rfl
    have o1 : ∀ (l : List VE) (s : Nat), ob (hbk h a (.inr (5, [.ref (a + 1), .int 0, .int 0]) :: l) s) a 5 := fun l s => obk_5 rfl rfl rfl
    have p1 : ∀ (l : List VE) (s : Nat), pI (hbk h a (.inr (5, [.ref (a + 1), .int 0, .int 0]) :: l) s) a 1 256 = hbk h a (.inr (5, [.ref (a + 1), .int 256, .int 0]) :: l) s := fun l s => by rw [hbk_pI]; rfl
    have o2 : ∀ (l : List VE) (s : Nat), ob (hbk h a (.inr (5, [.ref (a + 1), .int 256, .int 0]) :: l) s) a 5 := fun l s => obk_5 rfl rfl rfl
    simp +decide only [e51_0, e51_1, e51_4, e51_5, e51_8, e51_10, e51_13, e51_14, e51_17, e51_20, o0, p0, o1, p1, o2, hbk_n, hbk_new, List.length_cons, List.length_nil, List.cons_append, List.nil_append, Nat.zero_add, Nat.reduceAdd, c256, vkk_n, vkk_i, vkk_r, vkk_l, vkk_d, catS_nil, catS_i, catS_r, catS_l, catS_d, Nat.reduceAdd, Nat.reduceLeDiff, Nat.zero_le, Nat.le_refl, Option.bind_some, Option.toList_some, Option.toList_none, List.cons_append, List.nil_append, or_true, true_or, if_true, if_false, Int32.reduceLT, Int32.reduceLE, not_true, not_false_iff, true_and, and_true, false_and, and_false]
  rw [e] at key
  exact key
def binB (a : Nat) : List VE := [.inr (1, [.int 11, .int 0, .ref (a + 1), .ref (a + 2)]), .inl (0, 40, .inl fun _ => 0), .inl (1, 40, .inr (.inl fun _ => 0))]
theorem ini_bin (h : VG) (a : Nat) (h1 : h.2.1 = a + 1) (h2 : h.1 a = .inr (1, vDef 1)) : ev 2 0 [some (.ref a)] [] h = some (none, hbk h a (binB a) 80) := by
  have e := hbk_one h1 h2
  rw [vdef_1] at e
  have key : ev 2 0 [some (.ref a)] [] (hbk h a [.inr (1, [.int 0, .int 0, .null, .null])] 0) = some (none, hbk h a (binB a) 80) := by
    unfold binB
    have c40 : (40 : Int32).toNatClampNeg = 40 := by decide
    have o0 : ∀ (l : List VE) (s : Nat), ob (hbk h a (.inr (1, [.int 0, .int 0, .null, .null]) :: l) s) a 1 := fun l s => obk_1 rfl rfl rfl rfl
    have p0 : ∀ (l : List VE) (s : Nat), pI (hbk h a (.inr (1, [.int 0, .int 0, .null, .null]) :: l) s) a 0 11 = hbk h a (.inr (1, [.int 11, .int 0, .null, .null]) :: l) s := fun l s => by rw [hbk_pI]; rfl
    have o1 : ∀ (l : List VE) (s : Nat), ob (hbk h a (.inr (1, [.int 11, .int 0, .null, .null]) :: l) s) a 1 := fun l s => obk_1 rfl rfl rfl rfl
    have p1 : ∀ (l : List VE) (s : Nat), pR (hbk h a (.inr (1, [.int 11, .int 0, .null, .null]) :: l) s) a 2 (a + 1) = hbk h a (.inr (1, [.int 11, .int 0, .ref (a + 1), .null]) :: l) s := fun l s => by rw [hbk_pR]; rfl
    have o2 : ∀ (l : List VE) (s : Nat), ob (hbk h a (.inr (1, [.int 11, .int 0, .ref (a + 1), .null]) :: l) s) a 1 := fun l s => obk_1 rfl rfl rfl rfl
    have p2 : ∀ (l : List VE) (s : Nat), pR (hbk h a (.inr (1, [.int 11, .int 0, .ref (a + 1), .null]) :: l) s) a 3 (a + 2) = hbk h a (.inr (1, [.int 11, .int 0, .ref (a + 1), .ref (a + 2)]) :: l) s := fun l s => by rw [hbk_pR]; rfl
    have o3 : ∀ (l : List VE) (s : Nat), ob (hbk h a (.inr (1, [.int 11, .int 0, .ref (a + 1), .ref (a + 2)]) :: l) s) a 1 := fun l s => obk_1 rfl rfl rfl rfl
    simp +decide only [e2_0, e2_1, e2_4, e2_5, e2_7, e2_10, e2_11, e2_13, e2_15, e2_18, e2_19, e2_21, e2_23, e2_26, o0, p0, o1, p1, o2, p2, o3, hbk_n, hbk_new, List.length_cons, List.length_nil, List.cons_append, List.nil_append, Nat.zero_add, Nat.reduceAdd, c40, vkk_n, vkk_i, vkk_r, vkk_l, vkk_d, catS_nil, catS_i, catS_r, catS_l, catS_d, Nat.reduceAdd, Nat.reduceLeDiff, Nat.zero_le, Nat.le_refl, Option.bind_some, Option.toList_some, Option.toList_none, List.cons_append, List.nil_append, or_true, true_or, if_true, if_false, Int32.reduceLT, Int32.reduceLE, not_true, not_false_iff, true_and, and_true, false_and, and_false]
  rw [e] at key
  exact key
def argB (a : Nat) : List VE := [.inr (0, [.ref (a + 1), .ref (a + 2), .ref (a + 3)]), .inl (0, 32, .inl fun _ => 0), .inl (0, 32, .inl fun _ => 0), .inl (0, 32, .inl fun _ => 0)]
theorem ini_arg (h : VG) (a : Nat) (h1 : h.2.1 = a + 1) (h2 : h.1 a = .inr (0, vDef 0)) : ev 0 0 [some (.ref a)] [] h = some (none, hbk h a (argB a) 96) := by
  have e := hbk_one h1 h2
  rw [vdef_0] at e
  have key : ev 0 0 [some (.ref a)] [] (hbk h a [.inr (0, [.null, .null, .null])] 0) = some (none, hbk h a (argB a) 96) := by
    unfold argB
    have c32 : (32 : Int32).toNatClampNeg = 32 := by decide
    have o0 : ∀ (l : List VE) (s : Nat), ob (hbk h a (.inr (0, [.null, .null, .null]) :: l) s) a 0 := fun l s => obk_0 rfl rfl rfl
    have p0 : ∀ (l : List VE) (s : Nat), pR (hbk h a (.inr (0, [.null, .null, .null]) :: l) s) a 0 (a + 1) = hbk h a (.inr (0, [.ref (a + 1), .null, .null]) :: l) s := fun l s => by rw [hbk_pR]; rfl
    have o1 : ∀ (l : List VE) (s : Nat), ob (hbk h a (.inr (0, [.ref (a + 1), .null, .null]) :: l) s) a 0 := fun l s => obk_0 rfl rfl rfl
    have p1 : ∀ (l : List VE) (s : Nat), pR (hbk h a (.inr (0, [.ref (a + 1), .null, .null]) :: l) s) a 1 (a + 2) = hbk h a (.inr (0, [.ref (a + 1), .ref (a + 2), .null]) :: l) s := fun l s => by rw [hbk_pR]; rfl
    have o2 : ∀ (l : List VE) (s : Nat), ob (hbk h a (.inr (0, [.ref (a + 1), .ref (a + 2), .null]) :: l) s) a 0 := fun l s => obk_0 rfl rfl rfl
    have p2 : ∀ (l : List VE) (s : Nat), pR (hbk h a (.inr (0, [.ref (a + 1), .ref (a + 2), .null]) :: l) s) a 2 (a + 3) = hbk h a (.inr (0, [.ref (a + 1), .ref (a + 2), .ref (a + 3)]) :: l) s := fun l s => by rw [hbk_pR]; rfl
    have o3 : ∀ (l : List VE) (s : Nat), ob (hbk h a (.inr (0, [.ref (a + 1), .ref (a + 2), .ref (a + 3)]) :: l) s) a 0 := fun l s => obk_0 rfl rfl rfl
    simp +decide only [e0_0, e0_1, e0_4, e0_5, e0_7, e0_9, e0_12, e0_13, e0_15, e0_17, e0_20, e0_21, e0_23, e0_25, e0_28, o0, p0, o1, p1, o2, p2, o3, hbk_n, hbk_new, List.length_cons, List.length_nil, List.cons_append, List.nil_append, Nat.zero_add, Nat.reduceAdd, c32, vkk_n, vkk_i, vkk_r, vkk_l, vkk_d, catS_nil, catS_i, catS_r, catS_l, catS_d, Nat.reduceAdd, Nat.reduceLeDiff, Nat.zero_le, Nat.le_refl, Option.bind_some, Option.toList_some, Option.toList_none, List.cons_append, List.nil_append, or_true, true_or, if_true, if_false, Int32.reduceLT, Int32.reduceLE, not_true, not_false_iff, true_and, and_true, false_and, and_false]
  rw [e] at key
  exact key
def bufB (a : Nat) : List VE := [.inr (2, [.ref (a + 1), .ref (a + 2), .int 0, .int 0, .int 0, .int 0]), .inl (0, 8, .inl fun _ => 0), .inl (0, 8, .inl fun _ => 0)]
theorem ini_buf (h : VG) (a : Nat) (h1 : h.2.1 = a + 1) (h2 : h.1 a = .inr (2, vDef 2)) : ev 21 0 [some (.ref a)] [] h = some (none, hbk h a (bufB a) 16) := by
  have e := hbk_one h1 h2
  rw [vdef_2] at e
  have key : ev 21 0 [some (.ref a)] [] (hbk h a [.inr (2, [.null, .null, .int 0, .int 0, .int 0, .int 0])] 0) = some (none, hbk h a (bufB a) 16) := by
    unfold bufB
    have c8 : (8 : Int32).toNatClampNeg = 8 := by decide
    have o0 : ∀ (l : List VE) (s : Nat), ob (hbk h a (.inr (2, [.null, .null, .int 0, .int 0, .int 0, .int 0]) :: l) s) a 2 := fun l s => obk_2 rfl rfl rfl rfl rfl rfl
    have p0 : ∀ (l : List VE) (s : Nat), pR (hbk h a (.inr (2, [.null, .null, .int 0, .int 0, .int 0, .int 0]) :: l) s) a 0 (a + 1) = hbk h a (.inr (2, [.ref (a + 1), .null, .int 0, .int 0, .int 0, .int 0]) :: l) s := fun l s => by rw [hbk_pR]; rfl
    have o1 : ∀ (l : List VE) (s : Nat), ob (hbk h a (.inr (2, [.ref (a + 1), .null, .int 0, .int 0, .int 0, .int 0]) :: l) s) a 2 := fun l s => obk_2 rfl rfl rfl rfl rfl rfl
    have p1 : ∀ (l : List VE) (s : Nat), pR (hbk h a (.inr (2, [.ref (a + 1), .null, .int 0, .int 0, .int 0, .int 0]) :: l) s) a 1 (a + 2) = hbk h a (.inr (2, [.ref (a + 1), .ref (a + 2), .int 0, .int 0, .int 0, .int 0]) :: l) s := fun l s => by rw [hbk_pR]; rfl
    have o2 : ∀ (l : List VE) (s : Nat), ob (hbk h a (.inr (2, [.ref (a + 1), .ref (a + 2), .int 0, .int 0, .int 0, .int 0]) :: l) s) a 2 := fun l s => obk_2 rfl rfl rfl rfl rfl rfl
    simp +decide only [e21_0, e21_1, e21_4, e21_5, e21_7, e21_9, e21_12, e21_13, e21_15, e21_17, e21_20, o0, p0, o1, p1, o2, hbk_n, hbk_new, List.length_cons, List.length_nil, List.cons_append, List.nil_append, Nat.zero_add, Nat.reduceAdd, c8, vkk_n, vkk_i, vkk_r, vkk_l, vkk_d, catS_nil, catS_i, catS_r, catS_l, catS_d, Nat.reduceAdd, Nat.reduceLeDiff, Nat.zero_le, Nat.le_refl, Option.bind_some, Option.toList_some, Option.toList_none, List.cons_append, List.nil_append, or_true, true_or, if_true, if_false, Int32.reduceLT, Int32.reduceLE, not_true, not_false_iff, true_and, and_true, false_and, and_false]
  rw [e] at key
  exact key
def layB (a : Nat) (z : Int32) : List VE := [.inr (4, [.int z, .ref (a + 1), .int 0, .int 0]), .inl (0, 32, .inl fun _ => 0)]
theorem ini_lay (h : VG) (a : Nat) (z : Int32) (hz : z = 0 ∨ z = 1) (h1 : h.2.1 = a + 1) (h2 : h.1 a = .inr (4, vDef 4)) : ev 49 0 [some (.ref a), some (.int z)] [] h = some (none, hbk h a (layB a z) 32) := by
  have e := hbk_one h1 h2
  rw [vdef_4] at e
  have key : ev 49 0 [some (.ref a), some (.int z)] [] (hbk h a [.inr (4, [.int 0, .null, .int 0, .int 0])] 0) = some (none, hbk h a (layB a z) 32) := by
    unfold layB
    have c32 : (32 : Int32).toNatClampNeg = 32 := by decide
    have o0 : ∀ (l : List VE) (s : Nat), ob (hbk h a (.inr (4, [.int 0, .null, .int 0, .int 0]) :: l) s) a 4 := fun l s => obk_4 rfl rfl rfl rfl
    have p0 : ∀ (l : List VE) (s : Nat), pR (hbk h a (.inr (4, [.int 0, .null, .int 0, .int 0]) :: l) s) a 1 (a + 1) = hbk h a (.inr (4, [.int 0, .ref (a + 1), .int 0, .int 0]) :: l) s := fun l s => by rw [hbk_pR]; rfl
    have o1 : ∀ (l : List VE) (s : Nat), ob (hbk h a (.inr (4, [.int 0, .ref (a + 1), .int 0, .int 0]) :: l) s) a 4 := fun l s => obk_4 rfl rfl rfl rfl
    have p1 : ∀ (l : List VE) (s : Nat), pI (hbk h a (.inr (4, [.int 0, .ref (a + 1), .int 0, .int 0]) :: l) s) a 0 z = hbk h a (.inr (4, [.int z, .ref (a + 1), .int 0, .int 0]) :: l) s := fun l s => by rw [hbk_pI]; rfl
    have o2 : ∀ (l : List VE) (s : Nat), ob (hbk h a (.inr (4, [.int z, .ref (a + 1), .int 0, .int 0]) :: l) s) a 4 := fun l s => obk_4 rfl rfl rfl rfl
    simp +decide only [e49_0, e49_1, e49_4, e49_5, e49_7, e49_9, e49_12, e49_13, e49_14, e49_17, o0, p0, o1, p1, o2, hbk_n, hbk_new, List.length_cons, List.length_nil, List.cons_append, List.nil_append, Nat.zero_add, Nat.reduceAdd, c32, hz, vkk_n, vkk_i, vkk_r, vkk_l, vkk_d, catS_nil, catS_i, catS_r, catS_l, catS_d, Nat.reduceAdd, Nat.reduceLeDiff, Nat.zero_le, Nat.le_refl, Option.bind_some, Option.toList_some, Option.toList_none, List.cons_append, List.nil_append, or_true, true_or, if_true, if_false, Int32.reduceLT, Int32.reduceLE, not_true, not_false_iff, true_and, and_true, false_and, and_false]
  rw [e] at key
  exact key
