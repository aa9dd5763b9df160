/-! objects made: the class, whole -/
def clsC (H : VG) (a N : Nat) : VG := pR (pR (pR (pR (pR H a 7 N) a 8 (N + 59)) a 11 (N + 60)) a 12 (N + 61)) a 13 (N + 64)
def clsL (N : Nat) : List VE := .inl (7, 2, .inr (.inr (.inr (.inr (rowf N 1 29 2))))) :: (statL (N + 1) 8 ++ statL (N + 30) 8 ++ [.inl (3, 2, .inl fun _ => 0)] ++ [.inl (1, 32, .inr (.inl fun _ => 0))] ++ bufB (N + 61) ++ [.inl (2, 256, .inl fun _ => 0)])
set_option maxRecDepth 40000 in
theorem ini_cls (h : VG) (a q wb : Nat) (S : STR h q wb) (hw : wb < a) (h1 : h.2.1 = a + 1) (h2 : h.1 a = .inr (10, vDef 10)) : ev 92 0 [some (.ref a)] [] h = some (none, hbk (clsC (hbk h a (clsA a) 7558) a (a + 201)) (a + 201) (clsL (a + 201)) (2 + 951 + 951 + 2 + 32 + 6 + 16 + 256)) := by
  have oo : ob (hbk h a (clsA a) 7558) a 10 := obk_10 rfl rfl rfl rfl rfl rfl rfl rfl rfl rfl rfl rfl rfl rfl
  have hN : (hbk h a (clsA a) 7558).2.1 = a + 201 := rfl
  rw [ini_clsA h a q wb S hw h1 h2, ini_clsB _ a (a + 201) hN (by omega) oo, ini_clsC _ a (a + 201) (by omega) oo _ _ (by rw [List.length_append, statL_n, statL_n])]
  rfl
