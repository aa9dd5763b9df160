set_option maxHeartbeats 4000000 in
/-! objects made: the class, its rest -/
theorem hbk_first (H : VG) (c : VE) (n : Nat) : hnew H c n = hbk H H.2.1 [c] n := by
  unfold hnew hbk
  refine Prod.ext ?_ (Prod.ext rfl (Prod.ext rfl rfl))
  funext x
  show (if x = H.2.1 then c else H.1 x) = if x < H.2.1 then H.1 x else ([c][x - H.2.1]?).getD (H.1 x)
  by_cases y : x < H.2.1
  · rw [if_neg (by omega), if_pos y]
  · rw [if_neg y]
    by_cases z : x = H.2.1
    · rw [if_pos z, z, Nat.sub_self]
      rfl
    · rw [if_neg z, List.getElem?_eq_none (by show 1 ≤ _; omega)]
      rfl
theorem hbk_lt {H : VG} {N a s : Nat} {l : List VE} (ha : a < N) : (hbk H N l s).1 a = H.1 a := if_pos ha
theorem hbk_set_lt {H : VG} {N a s : Nat} {l : List VE} (c : VE) (ha : a < N) : hset (hbk H N l s) a c = hbk (hset H a c) N l s := by
  unfold hset hbk
  refine Prod.ext ?_ rfl
  funext y
  show (if y = a then c else if y < N then H.1 y else (l[y - N]?).getD (H.1 y)) = if y < N then (if y = a then c else H.1 y) else (l[y - N]?).getD (if y = a then c else H.1 y)
  by_cases e : y = a
  · rw [if_pos e, if_pos (by omega), if_pos e]
  · rw [if_neg e, if_neg e]
theorem hbk_pR_lt {H : VG} {N a s : Nat} {l : List VE} (k x : Nat) (ha : a < N) : pR (hbk H N l s) a k x = hbk (pR H a k x) N l s := by
  unfold pR pV
  rw [hbk_lt ha]
  exact hbk_set_lt _ ha
theorem hbk_ob_lt {H : VG} {N a s c : Nat} {l : List VE} (ha : a < N) (q : ob H a c) : ob (hbk H N l s) a c := by
  obtain ⟨fs, e, t⟩ := q
  exact ⟨fs, (hbk_lt ha).trans e, t⟩
theorem f92_76 : fetch 92 76 = some (.aastore, 1) := by decide +kernel
theorem f92_86 : fetch 92 86 = some (.aastore, 1) := by decide +kernel
set_option maxRecDepth 40000 in
theorem ini_clsB (H : VG) (a N : Nat) (hN : H.2.1 = N) (ha : a < N) (oo : ob H a 10) : ev 92 62 [some (.ref a)] [] H = ev 92 87 [some (.ref a)] [.ref N, .ref a] (hbk H N (.inl (7, 2, .inr (.inr (.inr (.inr (rowf N 1 29 2))))) :: (statL (N + 1) 8 ++ statL (N + 30) 8)) (2 + 951 + 951)) := by
  have hf : ∀ (c : VE) (n : Nat), hnew H c n = hbk H N [c] n := fun c n => by rw [hbk_first, hN]
  have c2 : (2 : Int32).toNatClampNeg = 2 := by decide
  have k1 : ∀ (r : VE) (s : Nat), ev 79 0 [some (.ref (N + 1)), none] [] (hbk H N [r, .inr (8, vDef 8)] s) = some (none, hbk H N (r :: statL (N + 1) 8) (s + 947)) := fun r s => (ini_stat (hbk H N [r, .inr (8, vDef 8)] s) (N + 1) rfl (hbk_get (i := 1) rfl)).trans (congrArg (fun x => some (none, x)) (hbk_two (l := [r])))
  have k2 : ∀ (r : VE) (s : Nat), ev 79 0 [some (.ref (N + 30)), none] [] (hbk H N (r :: (statL (N + 1) 8 ++ [.inr (8, vDef 8)])) s) = some (none, hbk H N (r :: (statL (N + 1) 8 ++ statL (N + 30) 8)) (s + 947)) := fun r s => (ini_stat (hbk H N (r :: (statL (N + 1) 8 ++ [.inr (8, vDef 8)])) s) (N + 30) rfl (hbk_get (i := 30) rfl)).trans (congrArg (fun x => some (none, x)) (hbk_two (l := r :: statL (N + 1) 8)))
  have n1 : ∀ r : VE, (r :: statL (N + 1) 8).length = 30 := fun r => rfl
  have st1 : ev 92 62 [some (.ref a)] [] H = ev 92 76 [some (.ref a)] [.ref (N + 1), .int 0, .ref N, .ref N, .ref a] (hbk H N (.inl (7, 2, .inr (.inr (.inr (.inr (rowf N 1 29 0))))) :: statL (N + 1) 8) (2 + 4 + 947)) := by
    rw [rowf_0]
    simp +decide only [e92_62, e92_63, e92_64, e92_67b, e92_67, e92_68, e92_69, e92_72b, e92_72, e92_73, c2, hf, hN, hbk_n, hbk_new, List.length_cons, List.length_nil, List.cons_append, List.nil_append, Nat.zero_add, Nat.reduceAdd, vnsl_8, k1, vkk_n, vkk_i, vkk_r, vkk_l, vkk_d, catS_nil, catS_i, catS_r, catS_l, catS_d, Nat.reduceAdd, Nat.reduceLeDiff, Nat.zero_le, Nat.le_refl, Option.bind_some, Option.toList_some, Option.toList_none, List.cons_append, List.nil_append, or_true, true_or, if_true, if_false, Int32.reduceLT, Int32.reduceLE, not_true, not_false_iff, true_and, and_true, false_and, and_false]
  have r1 : ∀ f : Nat, va_up (rowf N 1 29 f) f (some (N + (1 + 29 * f))) = rowf N 1 29 (f + 1) := rowf_s N 1 29
  have st2 : ev 92 76 [some (.ref a)] [.ref (N + 1), .int 0, .ref N, .ref N, .ref a] (hbk H N (.inl (7, 2, .inr (.inr (.inr (.inr (rowf N 1 29 0))))) :: statL (N + 1) 8) (2 + 4 + 947)) = ev 92 77 [some (.ref a)] [.ref N, .ref a] (hbk H N (.inl (7, 2, .inr (.inr (.inr (.inr (rowf N 1 29 1))))) :: statL (N + 1) 8) (2 + 4 + 947)) := by
    have y1 : (hbk H N (.inl (7, 2, .inr (.inr (.inr (.inr (rowf N 1 29 0))))) :: statL (N + 1) 8) (2 + 4 + 947)).1 N = .inl (7, 2, .inr (.inr (.inr (.inr (rowf N 1 29 0))))) := hbk_get (i := 0) rfl
    have y2 : ∃ vs, (hbk H N (.inl (7, 2, .inr (.inr (.inr (.inr (rowf N 1 29 0))))) :: statL (N + 1) 8) (2 + 4 + 947)).1 (N + 1) = .inr (8, vs) := ⟨_, hbk_get (i := 1) rfl⟩
    obtain ⟨vs, y2⟩ := y2
    have v1 : vp_in (nI 0) 2 := vp_in_nI (by omega) (by decide)
    have v1 : vp_in 0 2 := v1
    have c0 : (0 : Int32).toNatClampNeg = 0 := by decide
    have q := G_aast (L := [some (.ref a)]) (st := [.ref N, .ref a]) f92_76 y1 y2 (by decide) v1
    rw [c0] at q
    have hs := hbk_set (h := H) (a := N) (i := 0) (l := .inl (7, 2, .inr (.inr (.inr (.inr (rowf N 1 29 0))))) :: statL (N + 1) 8) (s := 2 + 4 + 947) (.inl (7, 2, .inr (.inr (.inr (.inr (va_up (rowf N 1 29 0) 0 (some (N + 1)))))))) (Nat.zero_lt_succ _)
    have hs2 : va_up (rowf N 1 29 0) 0 (some (N + 1)) = rowf N 1 29 1 := r1 0
    rw [hs2] at hs q
    exact q.trans (congrArg (fun x => ev 92 77 [some (.ref a)] [.ref N, .ref a] x) hs)
  have st3 : ev 92 77 [some (.ref a)] [.ref N, .ref a] (hbk H N (.inl (7, 2, .inr (.inr (.inr (.inr (rowf N 1 29 1))))) :: statL (N + 1) 8) (2 + 4 + 947)) = ev 92 86 [some (.ref a)] [.ref (N + 30), .int 1, .ref N, .ref N, .ref a] (hbk H N (.inl (7, 2, .inr (.inr (.inr (.inr (rowf N 1 29 1))))) :: (statL (N + 1) 8 ++ statL (N + 30) 8)) (2 + 4 + 947 + 4 + 947)) := by
    simp +decide only [e92_77b, e92_77, e92_78, e92_79, e92_82b, e92_82, e92_83, hbk_n, hbk_new, n1, List.cons_append, List.nil_append, vnsl_8, k2, vkk_n, vkk_i, vkk_r, vkk_l, vkk_d, catS_nil, catS_i, catS_r, catS_l, catS_d, Nat.reduceAdd, Nat.reduceLeDiff, Nat.zero_le, Nat.le_refl, Option.bind_some, Option.toList_some, Option.toList_none, List.cons_append, List.nil_append, or_true, true_or, if_true, if_false, Int32.reduceLT, Int32.reduceLE, not_true, not_false_iff, true_and, and_true, false_and, and_false]
  have st4 : ev 92 86 [some (.ref a)] [.ref (N + 30), .int 1, .ref N, .ref N, .ref a] (hbk H N (.inl (7, 2, .inr (.inr (.inr (.inr (rowf N 1 29 1))))) :: (statL (N + 1) 8 ++ statL (N + 30) 8)) (2 + 4 + 947 + 4 + 947)) = ev 92 87 [some (.ref a)] [.ref N, .ref a] (hbk H N (.inl (7, 2, .inr (.inr (.inr (.inr (rowf N 1 29 2))))) :: (statL (N + 1) 8 ++ statL (N + 30) 8)) (2 + 4 + 947 + 4 + 947)) := by
    have y1 : (hbk H N (.inl (7, 2, .inr (.inr (.inr (.inr (rowf N 1 29 1))))) :: (statL (N + 1) 8 ++ statL (N + 30) 8)) (2 + 4 + 947 + 4 + 947)).1 N = .inl (7, 2, .inr (.inr (.inr (.inr (rowf N 1 29 1))))) := hbk_get (i := 0) rfl
    have y2 : ∃ vs, (hbk H N (.inl (7, 2, .inr (.inr (.inr (.inr (rowf N 1 29 1))))) :: (statL (N + 1) 8 ++ statL (N + 30) 8)) (2 + 4 + 947 + 4 + 947)).1 (N + 30) = .inr (8, vs) := ⟨_, hbk_get (i := 30) rfl⟩
    obtain ⟨vs, y2⟩ := y2
    have v1 : vp_in (nI 1) 2 := vp_in_nI (by omega) (by decide)
    have v1 : vp_in 1 2 := v1
    have c0 : (1 : Int32).toNatClampNeg = 1 := by decide
    have q := G_aast (L := [some (.ref a)]) (st := [.ref N, .ref a]) f92_86 y1 y2 (by decide) v1
    rw [c0] at q
    have hs := hbk_set (h := H) (a := N) (i := 0) (l := .inl (7, 2, .inr (.inr (.inr (.inr (rowf N 1 29 1))))) :: (statL (N + 1) 8 ++ statL (N + 30) 8)) (s := 2 + 4 + 947 + 4 + 947) (.inl (7, 2, .inr (.inr (.inr (.inr (va_up (rowf N 1 29 1) 1 (some (N + 30)))))))) (Nat.zero_lt_succ _)
    have hs2 : va_up (rowf N 1 29 1) 1 (some (N + 30)) = rowf N 1 29 2 := r1 1
    rw [hs2] at hs q
    exact q.trans (congrArg (fun x => ev 92 87 [some (.ref a)] [.ref N, .ref a] x) hs)
  rw [st1, st2, st3, st4]
