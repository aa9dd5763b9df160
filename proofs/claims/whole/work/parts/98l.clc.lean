set_option maxHeartbeats 4000000 in
/-! objects made: the class, its end -/
theorem ini_clsC (H : VG) (a N : Nat) (ha : a < N) (oo : ob H a 10) (r : VE) (Y : List VE) (hY : Y.length = 58) (s : Nat) : ev 92 87 [some (.ref a)] [.ref N, .ref a] (hbk H N (r :: Y) s) = some (none, hbk (pR (pR (pR (pR (pR H a 7 N) a 8 (N + 59)) a 11 (N + 60)) a 12 (N + 61)) a 13 (N + 64)) N (r :: (Y ++ [.inl (3, 2, .inl fun _ => 0)] ++ [.inl (1, 32, .inr (.inl fun _ => 0))] ++ bufB (N + 61) ++ [.inl (2, 256, .inl fun _ => 0)])) (s + 2 + 32 + 6 + 16 + 256)) := by
  have c2 : (2 : Int32).toNatClampNeg = 2 := by decide
  have c32 : (32 : Int32).toNatClampNeg = 32 := by decide
  have c256 : (256 : Int32).toNatClampNeg = 256 := by decide
  have o0 : ∀ (l : List VE) (s : Nat), ob (hbk H N l s) a 10 := fun l s => hbk_ob_lt ha oo
  have o1 : ∀ (l : List VE) (s : Nat), ob (hbk (pR H a 7 N) N l s) a 10 := fun l s => hbk_ob_lt ha ((ob_pV ..).mpr oo)
  have o2 : ∀ (l : List VE) (s : Nat), ob (hbk (pR (pR H a 7 N) a 8 (N + 59)) N l s) a 10 := fun l s => hbk_ob_lt ha ((ob_pV ..).mpr ((ob_pV ..).mpr oo))
  have o3 : ∀ (l : List VE) (s : Nat), ob (hbk (pR (pR (pR H a 7 N) a 8 (N + 59)) a 11 (N + 60)) N l s) a 10 := fun l s => hbk_ob_lt ha ((ob_pV ..).mpr ((ob_pV ..).mpr ((ob_pV ..).mpr oo)))
  have o4 : ∀ (l : List VE) (s : Nat), ob (hbk (pR (pR (pR (pR H a 7 N) a 8 (N + 59)) a 11 (N + 60)) a 12 (N + 61)) N l s) a 10 := fun l s => hbk_ob_lt ha ((ob_pV ..).mpr ((ob_pV ..).mpr ((ob_pV ..).mpr ((ob_pV ..).mpr oo))))
  have o5 : ∀ (l : List VE) (s : Nat), ob (hbk (pR (pR (pR (pR (pR H a 7 N) a 8 (N + 59)) a 11 (N + 60)) a 12 (N + 61)) a 13 (N + 64)) N l s) a 10 := fun l s => hbk_ob_lt ha ((ob_pV ..).mpr ((ob_pV ..).mpr ((ob_pV ..).mpr ((ob_pV ..).mpr ((ob_pV ..).mpr oo)))))
  have p0 : ∀ (l : List VE) (s : Nat), pR (hbk H N l s) a 7 N = hbk (pR H a 7 N) N l s := fun l s => hbk_pR_lt 7 N ha
  have p1 : ∀ (l : List VE) (s : Nat), pR (hbk (pR H a 7 N) N l s) a 8 (N + 59) = hbk (pR (pR H a 7 N) a 8 (N + 59)) N l s := fun l s => hbk_pR_lt 8 (N + 59) ha
  have p2 : ∀ (l : List VE) (s : Nat), pR (hbk (pR (pR H a 7 N) a 8 (N + 59)) N l s) a 11 (N + 60) = hbk (pR (pR (pR H a 7 N) a 8 (N + 59)) a 11 (N + 60)) N l s := fun l s => hbk_pR_lt 11 (N + 60) ha
  have p3 : ∀ (l : List VE) (s : Nat), pR (hbk (pR (pR (pR H a 7 N) a 8 (N + 59)) a 11 (N + 60)) N l s) a 12 (N + 61) = hbk (pR (pR (pR (pR H a 7 N) a 8 (N + 59)) a 11 (N + 60)) a 12 (N + 61)) N l s := fun l s => hbk_pR_lt 12 (N + 61) ha
  have p4 : ∀ (l : List VE) (s : Nat), pR (hbk (pR (pR (pR (pR H a 7 N) a 8 (N + 59)) a 11 (N + 60)) a 12 (N + 61)) N l s) a 13 (N + 64) = hbk (pR (pR (pR (pR (pR H a 7 N) a 8 (N + 59)) a 11 (N + 60)) a 12 (N + 61)) a 13 (N + 64)) N l s := fun l s => hbk_pR_lt 13 (N + 64) ha
  have n0 : (r :: Y).length = 59 := by rw [List.length_cons, hY]
  have n1 : (r :: (Y ++ [.inl (3, 2, .inl fun _ => 0)])).length = 60 := by simp only [List.length_cons, List.length_append, hY, List.length_nil]
  have n2 : (r :: (Y ++ [.inl (3, 2, .inl fun _ => 0)] ++ [.inl (1, 32, .inr (.inl fun _ => 0))])).length = 61 := by simp only [List.length_cons, List.length_append, hY, List.length_nil]
  have n3 : (r :: (Y ++ [.inl (3, 2, .inl fun _ => 0)] ++ [.inl (1, 32, .inr (.inl fun _ => 0))] ++ bufB (N + 61))).length = 64 := by simp only [List.length_cons, List.length_append, hY, List.length_nil]; rfl
  have k1 : ∀ (s : Nat), ev 21 0 [some (.ref (N + 61))] [] (hbk (pR (pR (pR H a 7 N) a 8 (N + 59)) a 11 (N + 60)) N (r :: ((Y ++ [.inl (3, 2, .inl fun _ => 0)] ++ [.inl (1, 32, .inr (.inl fun _ => 0))]) ++ [.inr (2, vDef 2)])) s) = some (none, hbk (pR (pR (pR H a 7 N) a 8 (N + 59)) a 11 (N + 60)) N (r :: (Y ++ [.inl (3, 2, .inl fun _ => 0)] ++ [.inl (1, 32, .inr (.inl fun _ => 0))] ++ bufB (N + 61))) (s + 16)) := fun s => by
    have q := ini_buf (hbk (pR (pR (pR H a 7 N) a 8 (N + 59)) a 11 (N + 60)) N (r :: ((Y ++ [.inl (3, 2, .inl fun _ => 0)] ++ [.inl (1, 32, .inr (.inl fun _ => 0))]) ++ [.inr (2, vDef 2)])) s) (N + 61) (by
      have := n2
      rw [List.length_cons] at this
      rw [hbk_n, List.length_cons, List.length_append]
      show N + (_ + 1 + 1) = _
      omega) (hbk_get (i := 61) (by
      have e : (r :: ((Y ++ [.inl (3, 2, .inl fun _ => 0)] ++ [.inl (1, 32, .inr (.inl fun _ => 0))]) ++ [.inr (2, vDef 2)]))[61]? = ((r :: (Y ++ [.inl (3, 2, .inl fun _ => 0)] ++ [.inl (1, 32, .inr (.inl fun _ => 0))])) ++ [.inr (2, vDef 2)])[61]? := rfl
      rw [e, List.getElem?_append_right (by rw [n2]; decide), n2]
      rfl))
    rw [q]
    have two := hbk_two (h := (pR (pR (pR H a 7 N) a 8 (N + 59)) a 11 (N + 60))) (a := N) (s := s) (s1 := 16) (l := r :: (Y ++ [.inl (3, 2, .inl fun _ => 0)] ++ [.inl (1, 32, .inr (.inl fun _ => 0))])) (c := .inr (2, vDef 2)) (d := .inr (2, [.ref (N + 61 + 1), .ref (N + 61 + 2), .int 0, .int 0, .int 0, .int 0])) (m := [.inl (0, 8, .inl fun _ => 0), .inl (0, 8, .inl fun _ => 0)])
    rw [n2] at two
    exact congrArg (fun x => some (none, x)) two
  simp +decide only [e92_87, e92_90, e92_91, e92_92, e92_94, e92_97, e92_98, e92_100, e92_102, e92_105, e92_106, e92_109b, e92_109, e92_110, e92_113, e92_116, e92_117, e92_120, e92_122, e92_125, o0, o1, o2, o3, o4, o5, p0, p1, p2, p3, p4, n0, n1, n2, n3, k1, c2, c32, c256, vnsl_2, hbk_n, hbk_new, List.cons_append, vkk_n, vkk_i, vkk_r, vkk_l, vkk_d, catS_nil, catS_i, catS_r, catS_l, catS_d, Nat.reduceAdd, Nat.reduceLeDiff, Nat.zero_le, Nat.le_refl, Option.bind_some, Option.toList_some, Option.toList_none, List.cons_append, List.nil_append, or_true, true_or, if_true, if_false, Int32.reduceLT, Int32.reduceLE, not_true, not_false_iff, true_and, and_true, false_and, and_false]
