/-! the law: one step of a script -/
theorem lg_self (x : Int64) : lg_cmp x x = 0 := (lcmp_eq x x).mpr rfl
theorem SC_a {h : VG} {b L : Nat} {xs : Nat → Int32} (q : SC h b L xs) (k : Nat) : aI h b k = xs k := by
  unfold aI
  rw [q.2]
theorem law_1 {h h1 : VG} {g b L m pc : Nat} {xs : Nat → Int32} {A : VL} {st : List Value} {x : Option Value} (R : Inv h g) (hg : g + 308 ≤ h.2.1) (q : SC h b L xs) (c1 : ev m pc A st h = some (x, h1)) : SC h1 b L xs ∧ vcls h1 (g + 266) 11 = true := ⟨SC_k (ev_20 c1) q, K20_cls (ev_20 c1) (by omega) (by decide) (Mod_0 R.mod)⟩
theorem lwf_1 (i Ln : Nat) (hi : i + 7 ≤ Ln) (hL : Ln ≤ 3584) : nI i + (1 : Int32) = nI (i + 1) := by rw [show (1 : Int32) = nI 1 from rfl, nI_add]
theorem lwv_1 (i Ln : Nat) (hi : i + 7 ≤ Ln) (hL : Ln ≤ 3584) : vp_in (nI (i + 1)) Ln := vp_in_nI (by omega) (by omega)
theorem lwu_1 (i Ln : Nat) (hi : i + 7 ≤ Ln) (hL : Ln ≤ 3584) : (nI (i + 1)).toNatClampNeg = i + 1 := nI_clamp (by omega)
theorem lwf_2 (i Ln : Nat) (hi : i + 7 ≤ Ln) (hL : Ln ≤ 3584) : nI i + (2 : Int32) = nI (i + 2) := by rw [show (2 : Int32) = nI 2 from rfl, nI_add]
theorem lwv_2 (i Ln : Nat) (hi : i + 7 ≤ Ln) (hL : Ln ≤ 3584) : vp_in (nI (i + 2)) Ln := vp_in_nI (by omega) (by omega)
theorem lwu_2 (i Ln : Nat) (hi : i + 7 ≤ Ln) (hL : Ln ≤ 3584) : (nI (i + 2)).toNatClampNeg = i + 2 := nI_clamp (by omega)
theorem lwf_3 (i Ln : Nat) (hi : i + 7 ≤ Ln) (hL : Ln ≤ 3584) : nI i + (3 : Int32) = nI (i + 3) := by rw [show (3 : Int32) = nI 3 from rfl, nI_add]
theorem lwv_3 (i Ln : Nat) (hi : i + 7 ≤ Ln) (hL : Ln ≤ 3584) : vp_in (nI (i + 3)) Ln := vp_in_nI (by omega) (by omega)
theorem lwu_3 (i Ln : Nat) (hi : i + 7 ≤ Ln) (hL : Ln ≤ 3584) : (nI (i + 3)).toNatClampNeg = i + 3 := nI_clamp (by omega)
theorem lwf_4 (i Ln : Nat) (hi : i + 7 ≤ Ln) (hL : Ln ≤ 3584) : nI i + (4 : Int32) = nI (i + 4) := by rw [show (4 : Int32) = nI 4 from rfl, nI_add]
theorem lwv_4 (i Ln : Nat) (hi : i + 7 ≤ Ln) (hL : Ln ≤ 3584) : vp_in (nI (i + 4)) Ln := vp_in_nI (by omega) (by omega)
theorem lwu_4 (i Ln : Nat) (hi : i + 7 ≤ Ln) (hL : Ln ≤ 3584) : (nI (i + 4)).toNatClampNeg = i + 4 := nI_clamp (by omega)
theorem lwf_5 (i Ln : Nat) (hi : i + 7 ≤ Ln) (hL : Ln ≤ 3584) : nI i + (5 : Int32) = nI (i + 5) := by rw [show (5 : Int32) = nI 5 from rfl, nI_add]
theorem lwv_5 (i Ln : Nat) (hi : i + 7 ≤ Ln) (hL : Ln ≤ 3584) : vp_in (nI (i + 5)) Ln := vp_in_nI (by omega) (by omega)
theorem lwu_5 (i Ln : Nat) (hi : i + 7 ≤ Ln) (hL : Ln ≤ 3584) : (nI (i + 5)).toNatClampNeg = i + 5 := nI_clamp (by omega)
theorem lwf_6 (i Ln : Nat) (hi : i + 7 ≤ Ln) (hL : Ln ≤ 3584) : nI i + (6 : Int32) = nI (i + 6) := by rw [show (6 : Int32) = nI 6 from rfl, nI_add]
theorem lwv_6 (i Ln : Nat) (hi : i + 7 ≤ Ln) (hL : Ln ≤ 3584) : vp_in (nI (i + 6)) Ln := vp_in_nI (by omega) (by omega)
theorem lwu_6 (i Ln : Nat) (hi : i + 7 ≤ Ln) (hL : Ln ≤ 3584) : (nI (i + 6)).toNatClampNeg = i + 6 := nI_clamp (by omega)
theorem y234_223 (L : VL) (st : List Value) (h : VG) (b : Nat) (x0 : Int32) (x1 : Int32) (x2 : Int32) (x3 : Int32) (x4 : Int32) (ho : vcls h b 11 = true) (hs : catS st ≤ 8) : ev 234 223 L (.int x4 :: .int x3 :: .int x2 :: .int x1 :: .int x0 :: .ref b :: st) h = (ev 137 0 [some (.ref b), some (.int x0), some (.int x1), some (.int x2), some (.int x3), some (.int x4)] [] h).bind fun q => ev 234 226 L (q.1.toList ++ st) q.2 := G_callv (k := 1) (p := 1216) (ars := [.int x0, .int x1, .int x2, .int x3, .int x4]) f234_223 lkC_13_17 (by decide) (by decide +kernel) rfl ho (Nat.le_of_ble_eq_true rfl) hs rfl
theorem y234_246 (L : VL) (st : List Value) (h : VG) (b : Nat) (x0 : Int32) (ho : vcls h b 11 = true) (hs : catS st ≤ 8) : ev 234 246 L (.int x0 :: .ref b :: st) h = (ev 139 0 [some (.ref b), some (.int x0)] [] h).bind fun q => ev 234 249 L (q.1.toList ++ st) q.2 := G_callv (k := 1) (p := 1224) (ars := [.int x0]) f234_246 lkC_13_22 (by decide) (by decide +kernel) rfl ho (Nat.le_of_ble_eq_true rfl) hs rfl
theorem y234_259 (L : VL) (st : List Value) (h : VG) (b : Nat)  (ho : vcls h b 11 = true) (hs : catS st ≤ 8) : ev 234 259 L (.ref b :: st) h = (ev 153 0 [some (.ref b), none] [] h).bind fun q => ev 234 262 L (q.1.toList ++ st) q.2 := G_callv (k := 1) (p := 1228) (ars := []) f234_259 lkC_13_27 (by decide) (by decide +kernel) rfl ho (Nat.le_of_ble_eq_true rfl) hs rfl
theorem y234_272 (L : VL) (st : List Value) (h : VG) (b : Nat)  (ho : vcls h b 11 = true) (hs : catS st ≤ 8) : ev 234 272 L (.ref b :: st) h = (ev 155 0 [some (.ref b)] [] h).bind fun q => ev 234 275 L (q.1.toList ++ st) q.2 := G_callv (k := 1) (p := 1305) (ars := []) f234_272 lkC_13_31 (by decide) (by decide +kernel) rfl ho (Nat.le_of_ble_eq_true rfl) hs rfl
theorem y234_285 (L : VL) (st : List Value) (h : VG) (b : Nat)  (ho : vcls h b 11 = true) (hs : catS st ≤ 8) : ev 234 285 L (.ref b :: st) h = (ev 165 0 [some (.ref b)] [] h).bind fun q => ev 234 288 L (q.1.toList ++ st) q.2 := G_callv (k := 1) (p := 1309) (ars := []) f234_285 lkC_13_35 (by decide) (by decide +kernel) rfl ho (Nat.le_of_ble_eq_true rfl) hs rfl
theorem y234_354 (L : VL) (st : List Value) (h : VG) (b : Nat) (x0 : Int32) (x1 : Int32) (x2 : Int32) (x3 : Int32) (ho : vcls h b 11 = true) (hs : catS st ≤ 8) : ev 234 354 L (.int x3 :: .int x2 :: .int x1 :: .int x0 :: .ref b :: st) h = (ev 172 0 [some (.ref b), some (.int x0), some (.int x1), some (.int x2), some (.int x3), none] [] h).bind fun q => ev 234 357 L (q.1.toList ++ st) q.2 := G_callv (k := 1) (p := 1313) (ars := [.int x0, .int x1, .int x2, .int x3]) f234_354 lkC_13_40 (by decide) (by decide +kernel) rfl ho (Nat.le_of_ble_eq_true rfl) hs rfl
theorem y234_397 (L : VL) (st : List Value) (h : VG) (b : Nat) (x0 : Int32) (x1 : Int32) (x2 : Int32) (ho : vcls h b 11 = true) (hs : catS st ≤ 8) : ev 234 397 L (.int x2 :: .int x1 :: .int x0 :: .ref b :: st) h = (ev 176 0 [some (.ref b), some (.int x0), some (.int x1), some (.int x2), none, none, none, none, none, none, none, none, none] [] h).bind fun q => ev 234 400 L (q.1.toList ++ st) q.2 := G_callv (k := 1) (p := 1343) (ars := [.int x0, .int x1, .int x2]) f234_397 lkC_13_45 (by decide) (by decide +kernel) rfl ho (Nat.le_of_ble_eq_true rfl) hs rfl
theorem y234_420 (L : VL) (st : List Value) (h : VG) (b : Nat) (x0 : Int32) (ho : vcls h b 11 = true) (hs : catS st ≤ 8) : ev 234 420 L (.int x0 :: .ref b :: st) h = (ev 222 0 [some (.ref b), some (.int x0)] [] h).bind fun q => ev 234 423 L (q.1.toList ++ st) q.2 := G_callv (k := 1) (p := 1543) (ars := [.int x0]) f234_420 lkC_13_49 (by decide) (by decide +kernel) rfl ho (Nat.le_of_ble_eq_true rfl) hs rfl
theorem y234_453 (L : VL) (st : List Value) (h : VG) (b : Nat) (x0 : Int32) (x1 : Int32) (ho : vcls h b 11 = true) (hs : catS st ≤ 8) : ev 234 453 L (.int x1 :: .int x0 :: .ref b :: st) h = (ev 223 0 [some (.ref b), some (.int x0), some (.int x1)] [] h).bind fun q => ev 234 456 L (q.1.toList ++ st) q.2 := G_callv (k := 1) (p := 1547) (ars := [.int x0, .int x1]) f234_453 lkC_13_54 (by decide) (by decide +kernel) rfl ho (Nat.le_of_ble_eq_true rfl) hs rfl
theorem y234_496 (L : VL) (st : List Value) (h : VG) (b : Nat) (x0 : Int32) (x1 : Int32) (x2 : Int32) (ho : vcls h b 11 = true) (hs : catS st ≤ 8) : ev 234 496 L (.int x2 :: .int x1 :: .int x0 :: .ref b :: st) h = (ev 183 0 [some (.ref b), some (.int x0), some (.int x1), some (.int x2), none] [] h).bind fun q => ev 234 499 L (q.1.toList ++ st) q.2 := G_callv (k := 1) (p := 1355) (ars := [.int x0, .int x1, .int x2]) f234_496 lkC_13_59 (by decide) (by decide +kernel) rfl ho (Nat.le_of_ble_eq_true rfl) hs rfl
theorem y234_519 (L : VL) (st : List Value) (h : VG) (b : Nat) (x0 : Int32) (ho : vcls h b 11 = true) (hs : catS st ≤ 8) : ev 234 519 L (.int x0 :: .ref b :: st) h = (ev 190 0 [some (.ref b), some (.int x0)] [] h).bind fun q => ev 234 522 L (q.1.toList ++ st) q.2 := G_callv (k := 1) (p := 1362) (ars := [.int x0]) f234_519 lkC_13_63 (by decide) (by decide +kernel) rfl ho (Nat.le_of_ble_eq_true rfl) hs rfl
theorem y234_562 (L : VL) (st : List Value) (h : VG) (b : Nat) (x0 : Int32) (x1 : Int32) (x2 : Int32) (ho : vcls h b 11 = true) (hs : catS st ≤ 8) : ev 234 562 L (.int x2 :: .int x1 :: .int x0 :: .ref b :: st) h = (ev 191 0 [some (.ref b), some (.int x0), some (.int x1), some (.int x2)] [] h).bind fun q => ev 234 565 L (q.1.toList ++ st) q.2 := G_callv (k := 1) (p := 1370) (ars := [.int x0, .int x1, .int x2]) f234_562 lkC_13_68 (by decide) (by decide +kernel) rfl ho (Nat.le_of_ble_eq_true rfl) hs rfl
theorem y234_646 (L : VL) (st : List Value) (h : VG) (b : Nat) (x0 : Int32) (x1 : Int32) (x2 : Int32) (x3 : Int64) (ho : vcls h b 11 = true) (hs : catS st ≤ 8) : ev 234 646 L (.long x3 :: .int x2 :: .int x1 :: .int x0 :: .ref b :: st) h = (ev 192 0 [some (.ref b), some (.int x0), some (.int x1), some (.int x2), some (.long x3), none] [] h).bind fun q => ev 234 649 L (q.1.toList ++ st) q.2 := G_callv (k := 1) (p := 1404) (ars := [.int x0, .int x1, .int x2, .long x3]) f234_646 lkC_13_75 (by decide) (by decide +kernel) rfl ho (Nat.le_of_ble_eq_true rfl) hs rfl
theorem y234_689 (L : VL) (st : List Value) (h : VG) (b : Nat) (x0 : Int32) (x1 : Int32) (x2 : Int32) (ho : vcls h b 11 = true) (hs : catS st ≤ 8) : ev 234 689 L (.int x2 :: .int x1 :: .int x0 :: .ref b :: st) h = (ev 193 0 [some (.ref b), some (.int x0), some (.int x1), some (.int x2)] [] h).bind fun q => ev 234 692 L (q.1.toList ++ st) q.2 := G_callv (k := 1) (p := 1421) (ars := [.int x0, .int x1, .int x2]) f234_689 lkC_13_79 (by decide) (by decide +kernel) rfl ho (Nat.le_of_ble_eq_true rfl) hs rfl
theorem y234_773 (L : VL) (st : List Value) (h : VG) (b : Nat) (x0 : Int32) (x1 : Int32) (x2 : Int32) (x3 : Int64) (ho : vcls h b 11 = true) (hs : catS st ≤ 8) : ev 234 773 L (.long x3 :: .int x2 :: .int x1 :: .int x0 :: .ref b :: st) h = (ev 195 0 [some (.ref b), some (.int x0), some (.int x1), some (.int x2), some (.long x3), none] [] h).bind fun q => ev 234 776 L (q.1.toList ++ st) q.2 := G_callv (k := 1) (p := 1426) (ars := [.int x0, .int x1, .int x2, .long x3]) f234_773 lkC_13_83 (by decide) (by decide +kernel) rfl ho (Nat.le_of_ble_eq_true rfl) hs rfl
theorem y234_848 (L : VL) (st : List Value) (h : VG) (b : Nat) (x0 : Int32) (x1 : Int32) (x2 : Int32) (x3 : Int32) (x4 : Int32) (x5 : Int32) (ho : vcls h b 11 = true) (hs : catS st ≤ 8) : ev 234 848 L (.int x5 :: .int x4 :: .int x3 :: .int x2 :: .int x1 :: .int x0 :: .ref b :: st) h = (ev 196 0 [some (.ref b), some (.int x0), some (.int x1), some (.int x2), some (.int x3), some (.int x4), some (.int x5), none, none, none, none] [] h).bind fun q => ev 234 851 L (q.1.toList ++ st) q.2 := G_callv (k := 1) (p := 1435) (ars := [.int x0, .int x1, .int x2, .int x3, .int x4, .int x5]) f234_848 lkC_13_88 (by decide) (by decide +kernel) rfl ho (Nat.le_of_ble_eq_true rfl) hs rfl
theorem y234_911 (L : VL) (st : List Value) (h : VG) (b : Nat) (x0 : Int32) (x1 : Int32) (x2 : Int32) (x3 : Int32) (x4 : Int32) (ho : vcls h b 11 = true) (hs : catS st ≤ 8) : ev 234 911 L (.int x4 :: .int x3 :: .int x2 :: .int x1 :: .int x0 :: .ref b :: st) h = (ev 198 0 [some (.ref b), some (.int x0), some (.int x1), some (.int x2), some (.int x3), some (.int x4)] [] h).bind fun q => ev 234 914 L (q.1.toList ++ st) q.2 := G_callv (k := 1) (p := 1439) (ars := [.int x0, .int x1, .int x2, .int x3, .int x4]) f234_911 lkC_13_93 (by decide) (by decide +kernel) rfl ho (Nat.le_of_ble_eq_true rfl) hs rfl
theorem y234_944 (L : VL) (st : List Value) (h : VG) (b : Nat) (x0 : Int32) (x1 : Int32) (ho : vcls h b 11 = true) (hs : catS st ≤ 8) : ev 234 944 L (.int x1 :: .int x0 :: .ref b :: st) h = (ev 201 0 [some (.ref b), some (.int x0), some (.int x1), none, none, none] [] h).bind fun q => ev 234 947 L (q.1.toList ++ st) q.2 := G_callv (k := 1) (p := 1447) (ars := [.int x0, .int x1]) f234_944 lkC_13_98 (by decide) (by decide +kernel) rfl ho (Nat.le_of_ble_eq_true rfl) hs rfl
theorem y234_987 (L : VL) (st : List Value) (h : VG) (b : Nat) (x0 : Int32) (x1 : Int32) (x2 : Int32) (ho : vcls h b 11 = true) (hs : catS st ≤ 8) : ev 234 987 L (.int x2 :: .int x1 :: .int x0 :: .ref b :: st) h = (ev 212 0 [some (.ref b), some (.int x0), some (.int x1), some (.int x2), none, none, none, none] [] h).bind fun q => ev 234 990 L (q.1.toList ++ st) q.2 := G_callv (k := 1) (p := 1459) (ars := [.int x0, .int x1, .int x2]) f234_987 lkC_13_102 (by decide) (by decide +kernel) rfl ho (Nat.le_of_ble_eq_true rfl) hs rfl
theorem y234_1030 (L : VL) (st : List Value) (h : VG) (b : Nat) (x0 : Int32) (x1 : Int32) (x2 : Int32) (ho : vcls h b 11 = true) (hs : catS st ≤ 8) : ev 234 1030 L (.int x2 :: .int x1 :: .int x0 :: .ref b :: st) h = (ev 216 0 [some (.ref b), some (.int x0), some (.int x1), some (.int x2), none, none, none] [] h).bind fun q => ev 234 1033 L (q.1.toList ++ st) q.2 := G_callv (k := 1) (p := 1492) (ars := [.int x0, .int x1, .int x2]) f234_1030 lkC_13_106 (by decide) (by decide +kernel) rfl ho (Nat.le_of_ble_eq_true rfl) hs rfl
theorem y234_1099 (L : VL) (st : List Value) (h : VG) (b : Nat) (x0 : Int32) (x1 : Int32) (x2 : Int32) (x3 : Int32) (ho : vcls h b 11 = true) (hs : catS st ≤ 8) : ev 234 1099 L (.int x3 :: .int x2 :: .int x1 :: .int x0 :: .ref b :: st) h = (ev 217 0 [some (.ref b), some (.int x0), some (.int x1), some (.int x2), some (.int x3), none, none, none, none] [] h).bind fun q => ev 234 1102 L (q.1.toList ++ st) q.2 := G_callv (k := 1) (p := 1523) (ars := [.int x0, .int x1, .int x2, .int x3]) f234_1099 lkC_13_111 (by decide) (by decide +kernel) rfl ho (Nat.le_of_ble_eq_true rfl) hs rfl
theorem y234_1142 (L : VL) (st : List Value) (h : VG) (b : Nat) (x0 : Int32) (x1 : Int32) (x2 : Int32) (ho : vcls h b 11 = true) (hs : catS st ≤ 8) : ev 234 1142 L (.int x2 :: .int x1 :: .int x0 :: .ref b :: st) h = (ev 220 0 [some (.ref b), some (.int x0), some (.int x1), some (.int x2), none, none, none] [] h).bind fun q => ev 234 1145 L (q.1.toList ++ st) q.2 := G_callv (k := 1) (p := 1531) (ars := [.int x0, .int x1, .int x2]) f234_1142 lkC_13_115 (by decide) (by decide +kernel) rfl ho (Nat.le_of_ble_eq_true rfl) hs rfl
theorem y234_1211 (L : VL) (st : List Value) (h : VG) (b : Nat) (x0 : Int32) (x1 : Int32) (x2 : Int32) (x3 : Int32) (ho : vcls h b 11 = true) (hs : catS st ≤ 8) : ev 234 1211 L (.int x3 :: .int x2 :: .int x1 :: .int x0 :: .ref b :: st) h = (ev 221 0 [some (.ref b), some (.int x0), some (.int x1), some (.int x2), some (.int x3), none, none, none, none] [] h).bind fun q => ev 234 1214 L (q.1.toList ++ st) q.2 := G_callv (k := 1) (p := 1539) (ars := [.int x0, .int x1, .int x2, .int x3]) f234_1211 lkC_13_119 (by decide) (by decide +kernel) rfl ho (Nat.le_of_ble_eq_true rfl) hs rfl
theorem y234_1234 (L : VL) (st : List Value) (h : VG) (b : Nat) (x0 : Int32) (ho : vcls h b 11 = true) (hs : catS st ≤ 8) : ev 234 1234 L (.int x0 :: .ref b :: st) h = (ev 224 0 [some (.ref b), some (.int x0)] [] h).bind fun q => ev 234 1237 L (q.1.toList ++ st) q.2 := G_callv (k := 1) (p := 1551) (ars := [.int x0]) f234_1234 lkC_13_124 (by decide) (by decide +kernel) rfl ho (Nat.le_of_ble_eq_true rfl) hs rfl
theorem y234_1298 (L : VL) (st : List Value) (h : VG) (b : Nat) (x0 : Int32) (x1 : Int64) (ho : vcls h b 11 = true) (hs : catS st ≤ 8) : ev 234 1298 L (.long x1 :: .int x0 :: .ref b :: st) h = (ev 225 0 [some (.ref b), some (.int x0), some (.long x1), none] [] h).bind fun q => ev 234 1301 L (q.1.toList ++ st) q.2 := G_callv (k := 1) (p := 1555) (ars := [.int x0, .long x1]) f234_1298 lkC_13_129 (by decide) (by decide +kernel) rfl ho (Nat.le_of_ble_eq_true rfl) hs rfl
theorem y234_1311 (L : VL) (st : List Value) (h : VG) (b : Nat)  (ho : vcls h b 11 = true) (hs : catS st ≤ 8) : ev 234 1311 L (.ref b :: st) h = (ev 227 0 [some (.ref b), none, none] [] h).bind fun q => ev 234 1314 L (q.1.toList ++ st) q.2 := G_callv (k := 1) (p := 1559) (ars := []) f234_1311 lkC_13_133 (by decide) (by decide +kernel) rfl ho (Nat.le_of_ble_eq_true rfl) hs rfl
theorem y234_1324 (L : VL) (st : List Value) (h : VG) (b : Nat)  (ho : vcls h b 11 = true) (hs : catS st ≤ 8) : ev 234 1324 L (.ref b :: st) h = (ev 228 0 [some (.ref b), none, none] [] h).bind fun q => ev 234 1327 L (q.1.toList ++ st) q.2 := G_callv (k := 1) (p := 1567) (ars := []) f234_1324 lkC_13_137 (by decide) (by decide +kernel) rfl ho (Nat.le_of_ble_eq_true rfl) hs rfl
theorem y234_1347 (L : VL) (st : List Value) (h : VG) (b : Nat) (x0 : Int32) (ho : vcls h b 11 = true) (hs : catS st ≤ 8) : ev 234 1347 L (.int x0 :: .ref b :: st) h = (ev 229 0 [some (.ref b), some (.int x0), none] [] h).bind fun q => ev 234 1350 L (q.1.toList ++ st) q.2 := G_callv (k := 1) (p := 1571) (ars := [.int x0]) f234_1347 lkC_13_142 (by decide) (by decide +kernel) rfl ho (Nat.le_of_ble_eq_true rfl) hs rfl
theorem y234_1370 (L : VL) (st : List Value) (h : VG) (b : Nat) (x0 : Int32) (ho : vcls h b 11 = true) (hs : catS st ≤ 8) : ev 234 1370 L (.int x0 :: .ref b :: st) h = (ev 230 0 [some (.ref b), some (.int x0), none] [] h).bind fun q => ev 234 1373 L (q.1.toList ++ st) q.2 := G_callv (k := 1) (p := 1575) (ars := [.int x0]) f234_1370 lkC_13_146 (by decide) (by decide +kernel) rfl ho (Nat.le_of_ble_eq_true rfl) hs rfl
theorem y234_1393 (L : VL) (st : List Value) (h : VG) (b : Nat) (x0 : Int32) (ho : vcls h b 11 = true) (hs : catS st ≤ 8) : ev 234 1393 L (.int x0 :: .ref b :: st) h = (ev 233 0 [some (.ref b), some (.int x0)] [] h).bind fun q => ev 234 1396 L (q.1.toList ++ st) q.2 := G_callv (k := 1) (p := 1579) (ars := [.int x0]) f234_1393 lkC_13_150 (by decide) (by decide +kernel) rfl ho (Nat.le_of_ble_eq_true rfl) hs rfl
def LV (x y : Int32) : Int64 := (x.toInt64 <<< ((32 : Int32).toInt64 &&& 63)) ||| (y.toInt64 &&& 4294967295)
set_option maxHeartbeats 4000000 in
theorem w_feed {h : VG} {g b i Ln : Nat} {xs : Nat → Int32} (R : Inv h g) (hg : g + 308 ≤ h.2.1) (q : SC h b Ln xs) (hi : i + 7 ≤ Ln) (hL : Ln ≤ 3584) : ∃ h2, ev 234 168 [some (.ref b), some (.ref g), some (.ref (g + 266)), some (.int (nI i))] [] h = ev 234 1401 [some (.ref b), some (.ref g), some (.ref (g + 266)), some (.int (nI i))] [] h2 ∧ Inv h2 g ∧ h2.2 = h.2 ∧ SC h2 b Ln xs := by
  have og : ob h g 10 := Cls_0 R.cls
  obtain ⟨rd0, ln0⟩ := SC_rd q
  obtain ⟨x, h1, h2, c1, c2, R2, t2⟩ := k_feed h g R (xs (i + 1)) (xs (i + 2)) (xs (i + 3)) (xs (i + 4)) (xs (i + 5))
  obtain ⟨q1, vm⟩ := law_1 R hg q c1
  have q2 := SC_k (ev_20 c2) q1
  obtain ⟨rd1, ln1⟩ := SC_rd q1
  refine ⟨h2, ?_, R2, t2, q2⟩
  simp +decide only [e234_168, e234_169, e234_170, e234_171, e234_172, e234_173, e234_174, e234_175, e234_176, e234_177, e234_178, e234_179, e234_180, e234_181, e234_182, e234_183, e234_184, e234_185, e234_186, e234_187, e234_188, e234_189, e234_190, e234_191, e234_192, e234_193, e234_194, e234_197, e234_198, e234_199, e234_200, e234_201, e234_202, e234_203, e234_204, e234_205, e234_206, e234_207, e234_208, e234_209, e234_210, e234_211, e234_212, e234_213, e234_214, e234_215, e234_216, e234_217, e234_218, e234_219, e234_220, e234_221, e234_222, e234_226, e234_229, e234_230, y234_223, og, vm, rd0, ln0, rd1, ln1, lwf_1 i Ln hi hL, lwv_1 i Ln hi hL, lwu_1 i Ln hi hL, SC_a q (i + 1), SC_a q1 (i + 1), lwf_2 i Ln hi hL, lwv_2 i Ln hi hL, lwu_2 i Ln hi hL, SC_a q (i + 2), SC_a q1 (i + 2), lwf_3 i Ln hi hL, lwv_3 i Ln hi hL, lwu_3 i Ln hi hL, SC_a q (i + 3), SC_a q1 (i + 3), lwf_4 i Ln hi hL, lwv_4 i Ln hi hL, lwu_4 i Ln hi hL, SC_a q (i + 4), SC_a q1 (i + 4), lwf_5 i Ln hi hL, lwv_5 i Ln hi hL, lwu_5 i Ln hi hL, SC_a q (i + 5), SC_a q1 (i + 5), c1, c2, eq_self, vkk_n, vkk_i, vkk_r, vkk_l, vkk_d, catS_nil, catS_i, catS_r, catS_l, catS_d, Nat.reduceAdd, Nat.reduceLeDiff, Nat.zero_le, Nat.le_refl, Option.bind_some, Option.toList_some, Option.toList_none, List.cons_append, List.nil_append, or_true, true_or, if_true, if_false, Int32.reduceLT, Int32.reduceLE, not_true, not_false_iff, true_and, and_true, false_and, and_false]
set_option maxHeartbeats 4000000 in
theorem w_back {h : VG} {g b i Ln : Nat} {xs : Nat → Int32} (R : Inv h g) (hg : g + 308 ≤ h.2.1) (q : SC h b Ln xs) (hi : i + 7 ≤ Ln) (hL : Ln ≤ 3584) : ∃ h2, ev 234 231 [some (.ref b), some (.ref g), some (.ref (g + 266)), some (.int (nI i))] [] h = ev 234 1401 [some (.ref b), some (.ref g), some (.ref (g + 266)), some (.int (nI i))] [] h2 ∧ Inv h2 g ∧ h2.2 = h.2 ∧ SC h2 b Ln xs := by
  have og : ob h g 10 := Cls_0 R.cls
  obtain ⟨rd0, ln0⟩ := SC_rd q
  obtain ⟨x, h1, h2, c1, c2, R2, t2⟩ := k_back h g R (xs (i + 1))
  obtain ⟨q1, vm⟩ := law_1 R hg q c1
  have q2 := SC_k (ev_20 c2) q1
  obtain ⟨rd1, ln1⟩ := SC_rd q1
  refine ⟨h2, ?_, R2, t2, q2⟩
  simp +decide only [e234_231, e234_232, e234_233, e234_234, e234_235, e234_236, e234_237, e234_240, e234_241, e234_242, e234_243, e234_244, e234_245, e234_249, e234_252, e234_253, y234_246, og, vm, rd0, ln0, rd1, ln1, lwf_1 i Ln hi hL, lwv_1 i Ln hi hL, lwu_1 i Ln hi hL, SC_a q (i + 1), SC_a q1 (i + 1), c1, c2, eq_self, vkk_n, vkk_i, vkk_r, vkk_l, vkk_d, catS_nil, catS_i, catS_r, catS_l, catS_d, Nat.reduceAdd, Nat.reduceLeDiff, Nat.zero_le, Nat.le_refl, Option.bind_some, Option.toList_some, Option.toList_none, List.cons_append, List.nil_append, or_true, true_or, if_true, if_false, Int32.reduceLT, Int32.reduceLE, not_true, not_false_iff, true_and, and_true, false_and, and_false]
set_option maxHeartbeats 4000000 in
theorem w_read {h : VG} {g b i Ln : Nat} {xs : Nat → Int32} (R : Inv h g) (hg : g + 308 ≤ h.2.1) (q : SC h b Ln xs) (hi : i + 7 ≤ Ln) (hL : Ln ≤ 3584) : ∃ h2, ev 234 254 [some (.ref b), some (.ref g), some (.ref (g + 266)), some (.int (nI i))] [] h = ev 234 1401 [some (.ref b), some (.ref g), some (.ref (g + 266)), some (.int (nI i))] [] h2 ∧ Inv h2 g ∧ h2.2 = h.2 ∧ SC h2 b Ln xs := by
  have og : ob h g 10 := Cls_0 R.cls
  obtain ⟨rd0, ln0⟩ := SC_rd q
  obtain ⟨x, h1, h2, c1, c2, R2, t2⟩ := k_read h g R 
  obtain ⟨q1, vm⟩ := law_1 R hg q c1
  have q2 := SC_k (ev_20 c2) q1
  obtain ⟨rd1, ln1⟩ := SC_rd q1
  refine ⟨h2, ?_, R2, t2, q2⟩
  simp +decide only [e234_254, e234_255, e234_258, e234_262, e234_265, e234_266, y234_259, og, vm, rd0, ln0, rd1, ln1, c1, c2, eq_self, vkk_n, vkk_i, vkk_r, vkk_l, vkk_d, catS_nil, catS_i, catS_r, catS_l, catS_d, Nat.reduceAdd, Nat.reduceLeDiff, Nat.zero_le, Nat.le_refl, Option.bind_some, Option.toList_some, Option.toList_none, List.cons_append, List.nil_append, or_true, true_or, if_true, if_false, Int32.reduceLT, Int32.reduceLE, not_true, not_false_iff, true_and, and_true, false_and, and_false]
set_option maxHeartbeats 4000000 in
theorem w_place {h : VG} {g b i Ln : Nat} {xs : Nat → Int32} (R : Inv h g) (hg : g + 308 ≤ h.2.1) (q : SC h b Ln xs) (hi : i + 7 ≤ Ln) (hL : Ln ≤ 3584) : ∃ h2, ev 234 267 [some (.ref b), some (.ref g), some (.ref (g + 266)), some (.int (nI i))] [] h = ev 234 1401 [some (.ref b), some (.ref g), some (.ref (g + 266)), some (.int (nI i))] [] h2 ∧ Inv h2 g ∧ h2.2 = h.2 ∧ SC h2 b Ln xs := by
  have og : ob h g 10 := Cls_0 R.cls
  obtain ⟨rd0, ln0⟩ := SC_rd q
  obtain ⟨x, h1, h2, c1, c2, R2, t2⟩ := k_place h g R 
  obtain ⟨q1, vm⟩ := law_1 R hg q c1
  have q2 := SC_k (ev_20 c2) q1
  obtain ⟨rd1, ln1⟩ := SC_rd q1
  refine ⟨h2, ?_, R2, t2, q2⟩
  simp +decide only [e234_267, e234_268, e234_271, e234_275, e234_278, e234_279, y234_272, og, vm, rd0, ln0, rd1, ln1, c1, c2, eq_self, vkk_n, vkk_i, vkk_r, vkk_l, vkk_d, catS_nil, catS_i, catS_r, catS_l, catS_d, Nat.reduceAdd, Nat.reduceLeDiff, Nat.zero_le, Nat.le_refl, Option.bind_some, Option.toList_some, Option.toList_none, List.cons_append, List.nil_append, or_true, true_or, if_true, if_false, Int32.reduceLT, Int32.reduceLE, not_true, not_false_iff, true_and, and_true, false_and, and_false]
set_option maxHeartbeats 4000000 in
theorem w_why {h : VG} {g b i Ln : Nat} {xs : Nat → Int32} (R : Inv h g) (hg : g + 308 ≤ h.2.1) (q : SC h b Ln xs) (hi : i + 7 ≤ Ln) (hL : Ln ≤ 3584) : ∃ h2, ev 234 280 [some (.ref b), some (.ref g), some (.ref (g + 266)), some (.int (nI i))] [] h = ev 234 1401 [some (.ref b), some (.ref g), some (.ref (g + 266)), some (.int (nI i))] [] h2 ∧ Inv h2 g ∧ h2.2 = h.2 ∧ SC h2 b Ln xs := by
  have og : ob h g 10 := Cls_0 R.cls
  obtain ⟨rd0, ln0⟩ := SC_rd q
  obtain ⟨x, h1, h2, c1, c2, R2, t2⟩ := k_why h g R 
  obtain ⟨q1, vm⟩ := law_1 R hg q c1
  have q2 := SC_k (ev_20 c2) q1
  obtain ⟨rd1, ln1⟩ := SC_rd q1
  refine ⟨h2, ?_, R2, t2, q2⟩
  simp +decide only [e234_280, e234_281, e234_284, e234_288, e234_291, e234_292, y234_285, og, vm, rd0, ln0, rd1, ln1, c1, c2, eq_self, vkk_n, vkk_i, vkk_r, vkk_l, vkk_d, catS_nil, catS_i, catS_r, catS_l, catS_d, Nat.reduceAdd, Nat.reduceLeDiff, Nat.zero_le, Nat.le_refl, Option.bind_some, Option.toList_some, Option.toList_none, List.cons_append, List.nil_append, or_true, true_or, if_true, if_false, Int32.reduceLT, Int32.reduceLE, not_true, not_false_iff, true_and, and_true, false_and, and_false]
set_option maxHeartbeats 4000000 in
theorem w_layout {h : VG} {g b i Ln : Nat} {xs : Nat → Int32} (R : Inv h g) (hg : g + 308 ≤ h.2.1) (q : SC h b Ln xs) (hi : i + 7 ≤ Ln) (hL : Ln ≤ 3584) : ∃ h2, ev 234 293 [some (.ref b), some (.ref g), some (.ref (g + 266)), some (.int (nI i))] [] h = ev 234 1401 [some (.ref b), some (.ref g), some (.ref (g + 266)), some (.int (nI i))] [] h2 ∧ Inv h2 g ∧ h2.2 = h.2 ∧ SC h2 b Ln xs := by
  have og : ob h g 10 := Cls_0 R.cls
  obtain ⟨rd0, ln0⟩ := SC_rd q
  by_cases z : xs (i + 2) = 0
  · obtain ⟨x, h1, h2, c1, c2, R2, t2⟩ := k_layout h g R (xs (i + 1)) 0 (xs (i + 3)) (xs (i + 4)) (by decide)
    obtain ⟨q1, vm⟩ := law_1 R hg q c1
    have q2 := SC_k (ev_20 c2) q1
    obtain ⟨rd1, ln1⟩ := SC_rd q1
    refine ⟨h2, ?_, R2, t2, q2⟩
    simp +decide only [e234_293, e234_294, e234_295, e234_296, e234_297, e234_298, e234_299, e234_300, e234_301, e234_302, e234_303, e234_304, e234_307, e234_308, e234_311, e234_312, e234_313, e234_314, e234_315, e234_316, e234_317, e234_318, e234_319, e234_320, e234_321, e234_322, e234_325, e234_326, e234_327, e234_328, e234_329, e234_330, e234_331, e234_332, e234_333, e234_334, e234_335, e234_336, e234_339, e234_340, e234_343, e234_344, e234_345, e234_346, e234_347, e234_348, e234_349, e234_350, e234_351, e234_352, e234_353, e234_357, e234_360, e234_361, y234_354, og, vm, rd0, ln0, rd1, ln1, lwf_1 i Ln hi hL, lwv_1 i Ln hi hL, lwu_1 i Ln hi hL, SC_a q (i + 1), SC_a q1 (i + 1), lwf_2 i Ln hi hL, lwv_2 i Ln hi hL, lwu_2 i Ln hi hL, SC_a q (i + 2), SC_a q1 (i + 2), lwf_3 i Ln hi hL, lwv_3 i Ln hi hL, lwu_3 i Ln hi hL, SC_a q (i + 3), SC_a q1 (i + 3), lwf_4 i Ln hi hL, lwv_4 i Ln hi hL, lwu_4 i Ln hi hL, SC_a q (i + 4), SC_a q1 (i + 4), c1, c2, z, eq_self, vkk_n, vkk_i, vkk_r, vkk_l, vkk_d, catS_nil, catS_i, catS_r, catS_l, catS_d, Nat.reduceAdd, Nat.reduceLeDiff, Nat.zero_le, Nat.le_refl, Option.bind_some, Option.toList_some, Option.toList_none, List.cons_append, List.nil_append, or_true, true_or, if_true, if_false, Int32.reduceLT, Int32.reduceLE, not_true, not_false_iff, true_and, and_true, false_and, and_false]
  · obtain ⟨x, h1, h2, c1, c2, R2, t2⟩ := k_layout h g R (xs (i + 1)) 1 (xs (i + 3)) (xs (i + 4)) (by decide)
    obtain ⟨q1, vm⟩ := law_1 R hg q c1
    have q2 := SC_k (ev_20 c2) q1
    obtain ⟨rd1, ln1⟩ := SC_rd q1
    refine ⟨h2, ?_, R2, t2, q2⟩
    simp +decide only [e234_293, e234_294, e234_295, e234_296, e234_297, e234_298, e234_299, e234_300, e234_301, e234_302, e234_303, e234_304, e234_307, e234_308, e234_311, e234_312, e234_313, e234_314, e234_315, e234_316, e234_317, e234_318, e234_319, e234_320, e234_321, e234_322, e234_325, e234_326, e234_327, e234_328, e234_329, e234_330, e234_331, e234_332, e234_333, e234_334, e234_335, e234_336, e234_339, e234_340, e234_343, e234_344, e234_345, e234_346, e234_347, e234_348, e234_349, e234_350, e234_351, e234_352, e234_353, e234_357, e234_360, e234_361, y234_354, og, vm, rd0, ln0, rd1, ln1, lwf_1 i Ln hi hL, lwv_1 i Ln hi hL, lwu_1 i Ln hi hL, SC_a q (i + 1), SC_a q1 (i + 1), lwf_2 i Ln hi hL, lwv_2 i Ln hi hL, lwu_2 i Ln hi hL, SC_a q (i + 2), SC_a q1 (i + 2), lwf_3 i Ln hi hL, lwv_3 i Ln hi hL, lwu_3 i Ln hi hL, SC_a q (i + 3), SC_a q1 (i + 3), lwf_4 i Ln hi hL, lwv_4 i Ln hi hL, lwu_4 i Ln hi hL, SC_a q (i + 4), SC_a q1 (i + 4), c1, c2, z, eq_self, vkk_n, vkk_i, vkk_r, vkk_l, vkk_d, catS_nil, catS_i, catS_r, catS_l, catS_d, Nat.reduceAdd, Nat.reduceLeDiff, Nat.zero_le, Nat.le_refl, Option.bind_some, Option.toList_some, Option.toList_none, List.cons_append, List.nil_append, or_true, true_or, if_true, if_false, Int32.reduceLT, Int32.reduceLE, not_true, not_false_iff, true_and, and_true, false_and, and_false]
set_option maxHeartbeats 4000000 in
theorem w_argument {h : VG} {g b i Ln : Nat} {xs : Nat → Int32} (R : Inv h g) (hg : g + 308 ≤ h.2.1) (q : SC h b Ln xs) (hi : i + 7 ≤ Ln) (hL : Ln ≤ 3584) : ∃ h2, ev 234 362 [some (.ref b), some (.ref g), some (.ref (g + 266)), some (.int (nI i))] [] h = ev 234 1401 [some (.ref b), some (.ref g), some (.ref (g + 266)), some (.int (nI i))] [] h2 ∧ Inv h2 g ∧ h2.2 = h.2 ∧ SC h2 b Ln xs := by
  have og : ob h g 10 := Cls_0 R.cls
  obtain ⟨rd0, ln0⟩ := SC_rd q
  obtain ⟨x, h1, h2, c1, c2, R2, t2⟩ := k_argument h g R (xs (i + 1)) (xs (i + 2)) (xs (i + 3))
  obtain ⟨q1, vm⟩ := law_1 R hg q c1
  have q2 := SC_k (ev_20 c2) q1
  obtain ⟨rd1, ln1⟩ := SC_rd q1
  refine ⟨h2, ?_, R2, t2, q2⟩
  simp +decide only [e234_362, e234_363, e234_364, e234_365, e234_366, e234_367, e234_368, e234_369, e234_370, e234_371, e234_372, e234_373, e234_374, e234_375, e234_376, e234_377, e234_378, e234_381, e234_382, e234_383, e234_384, e234_385, e234_386, e234_387, e234_388, e234_389, e234_390, e234_391, e234_392, e234_393, e234_394, e234_395, e234_396, e234_400, e234_403, e234_404, y234_397, og, vm, rd0, ln0, rd1, ln1, lwf_1 i Ln hi hL, lwv_1 i Ln hi hL, lwu_1 i Ln hi hL, SC_a q (i + 1), SC_a q1 (i + 1), lwf_2 i Ln hi hL, lwv_2 i Ln hi hL, lwu_2 i Ln hi hL, SC_a q (i + 2), SC_a q1 (i + 2), lwf_3 i Ln hi hL, lwv_3 i Ln hi hL, lwu_3 i Ln hi hL, SC_a q (i + 3), SC_a q1 (i + 3), c1, c2, eq_self, vkk_n, vkk_i, vkk_r, vkk_l, vkk_d, catS_nil, catS_i, catS_r, catS_l, catS_d, Nat.reduceAdd, Nat.reduceLeDiff, Nat.zero_le, Nat.le_refl, Option.bind_some, Option.toList_some, Option.toList_none, List.cons_append, List.nil_append, or_true, true_or, if_true, if_false, Int32.reduceLT, Int32.reduceLE, not_true, not_false_iff, true_and, and_true, false_and, and_false]
set_option maxHeartbeats 4000000 in
theorem w_byteAt {h : VG} {g b i Ln : Nat} {xs : Nat → Int32} (R : Inv h g) (hg : g + 308 ≤ h.2.1) (q : SC h b Ln xs) (hi : i + 7 ≤ Ln) (hL : Ln ≤ 3584) : ∃ h2, ev 234 405 [some (.ref b), some (.ref g), some (.ref (g + 266)), some (.int (nI i))] [] h = ev 234 1401 [some (.ref b), some (.ref g), some (.ref (g + 266)), some (.int (nI i))] [] h2 ∧ Inv h2 g ∧ h2.2 = h.2 ∧ SC h2 b Ln xs := by
  have og : ob h g 10 := Cls_0 R.cls
  obtain ⟨rd0, ln0⟩ := SC_rd q
  obtain ⟨x, h1, h2, c1, c2, R2, t2⟩ := k_byteAt h g R (xs (i + 1))
  obtain ⟨q1, vm⟩ := law_1 R hg q c1
  have q2 := SC_k (ev_20 c2) q1
  obtain ⟨rd1, ln1⟩ := SC_rd q1
  refine ⟨h2, ?_, R2, t2, q2⟩
  simp +decide only [e234_405, e234_406, e234_407, e234_408, e234_409, e234_410, e234_411, e234_414, e234_415, e234_416, e234_417, e234_418, e234_419, e234_423, e234_426, e234_427, y234_420, og, vm, rd0, ln0, rd1, ln1, lwf_1 i Ln hi hL, lwv_1 i Ln hi hL, lwu_1 i Ln hi hL, SC_a q (i + 1), SC_a q1 (i + 1), c1, c2, eq_self, vkk_n, vkk_i, vkk_r, vkk_l, vkk_d, catS_nil, catS_i, catS_r, catS_l, catS_d, Nat.reduceAdd, Nat.reduceLeDiff, Nat.zero_le, Nat.le_refl, Option.bind_some, Option.toList_some, Option.toList_none, List.cons_append, List.nil_append, or_true, true_or, if_true, if_false, Int32.reduceLT, Int32.reduceLE, not_true, not_false_iff, true_and, and_true, false_and, and_false]
set_option maxHeartbeats 4000000 in
theorem w_poke {h : VG} {g b i Ln : Nat} {xs : Nat → Int32} (R : Inv h g) (hg : g + 308 ≤ h.2.1) (q : SC h b Ln xs) (hi : i + 7 ≤ Ln) (hL : Ln ≤ 3584) : ∃ h2, ev 234 428 [some (.ref b), some (.ref g), some (.ref (g + 266)), some (.int (nI i))] [] h = ev 234 1401 [some (.ref b), some (.ref g), some (.ref (g + 266)), some (.int (nI i))] [] h2 ∧ Inv h2 g ∧ h2.2 = h.2 ∧ SC h2 b Ln xs := by
  have og : ob h g 10 := Cls_0 R.cls
  obtain ⟨rd0, ln0⟩ := SC_rd q
  obtain ⟨x, h1, h2, c1, c2, R2, t2⟩ := k_poke h g R (xs (i + 1)) (xs (i + 2))
  obtain ⟨q1, vm⟩ := law_1 R hg q c1
  have q2 := SC_k (ev_20 c2) q1
  obtain ⟨rd1, ln1⟩ := SC_rd q1
  refine ⟨h2, ?_, R2, t2, q2⟩
  simp +decide only [e234_428, e234_429, e234_430, e234_431, e234_432, e234_433, e234_434, e234_435, e234_436, e234_437, e234_438, e234_439, e234_442, e234_443, e234_444, e234_445, e234_446, e234_447, e234_448, e234_449, e234_450, e234_451, e234_452, e234_456, e234_459, e234_460, y234_453, og, vm, rd0, ln0, rd1, ln1, lwf_1 i Ln hi hL, lwv_1 i Ln hi hL, lwu_1 i Ln hi hL, SC_a q (i + 1), SC_a q1 (i + 1), lwf_2 i Ln hi hL, lwv_2 i Ln hi hL, lwu_2 i Ln hi hL, SC_a q (i + 2), SC_a q1 (i + 2), c1, c2, eq_self, vkk_n, vkk_i, vkk_r, vkk_l, vkk_d, catS_nil, catS_i, catS_r, catS_l, catS_d, Nat.reduceAdd, Nat.reduceLeDiff, Nat.zero_le, Nat.le_refl, Option.bind_some, Option.toList_some, Option.toList_none, List.cons_append, List.nil_append, or_true, true_or, if_true, if_false, Int32.reduceLT, Int32.reduceLE, not_true, not_false_iff, true_and, and_true, false_and, and_false]
set_option maxHeartbeats 4000000 in
theorem w_bin {h : VG} {g b i Ln : Nat} {xs : Nat → Int32} (R : Inv h g) (hg : g + 308 ≤ h.2.1) (q : SC h b Ln xs) (hi : i + 7 ≤ Ln) (hL : Ln ≤ 3584) : ∃ h2, ev 234 461 [some (.ref b), some (.ref g), some (.ref (g + 266)), some (.int (nI i))] [] h = ev 234 1401 [some (.ref b), some (.ref g), some (.ref (g + 266)), some (.int (nI i))] [] h2 ∧ Inv h2 g ∧ h2.2 = h.2 ∧ SC h2 b Ln xs := by
  have og : ob h g 10 := Cls_0 R.cls
  obtain ⟨rd0, ln0⟩ := SC_rd q
  obtain ⟨x, h1, h2, c1, c2, R2, t2⟩ := k_bin h g R (xs (i + 1)) (xs (i + 2)) (xs (i + 3))
  obtain ⟨q1, vm⟩ := law_1 R hg q c1
  have q2 := SC_k (ev_20 c2) q1
  obtain ⟨rd1, ln1⟩ := SC_rd q1
  refine ⟨h2, ?_, R2, t2, q2⟩
  simp +decide only [e234_461, e234_462, e234_463, e234_464, e234_465, e234_466, e234_467, e234_468, e234_469, e234_470, e234_471, e234_472, e234_473, e234_474, e234_475, e234_476, e234_477, e234_480, e234_481, e234_482, e234_483, e234_484, e234_485, e234_486, e234_487, e234_488, e234_489, e234_490, e234_491, e234_492, e234_493, e234_494, e234_495, e234_499, e234_502, e234_503, y234_496, og, vm, rd0, ln0, rd1, ln1, lwf_1 i Ln hi hL, lwv_1 i Ln hi hL, lwu_1 i Ln hi hL, SC_a q (i + 1), SC_a q1 (i + 1), lwf_2 i Ln hi hL, lwv_2 i Ln hi hL, lwu_2 i Ln hi hL, SC_a q (i + 2), SC_a q1 (i + 2), lwf_3 i Ln hi hL, lwv_3 i Ln hi hL, lwu_3 i Ln hi hL, SC_a q (i + 3), SC_a q1 (i + 3), c1, c2, eq_self, vkk_n, vkk_i, vkk_r, vkk_l, vkk_d, catS_nil, catS_i, catS_r, catS_l, catS_d, Nat.reduceAdd, Nat.reduceLeDiff, Nat.zero_le, Nat.le_refl, Option.bind_some, Option.toList_some, Option.toList_none, List.cons_append, List.nil_append, or_true, true_or, if_true, if_false, Int32.reduceLT, Int32.reduceLE, not_true, not_false_iff, true_and, and_true, false_and, and_false]
set_option maxHeartbeats 4000000 in
theorem w_length {h : VG} {g b i Ln : Nat} {xs : Nat → Int32} (R : Inv h g) (hg : g + 308 ≤ h.2.1) (q : SC h b Ln xs) (hi : i + 7 ≤ Ln) (hL : Ln ≤ 3584) : ∃ h2, ev 234 504 [some (.ref b), some (.ref g), some (.ref (g + 266)), some (.int (nI i))] [] h = ev 234 1401 [some (.ref b), some (.ref g), some (.ref (g + 266)), some (.int (nI i))] [] h2 ∧ Inv h2 g ∧ h2.2 = h.2 ∧ SC h2 b Ln xs := by
  have og : ob h g 10 := Cls_0 R.cls
  obtain ⟨rd0, ln0⟩ := SC_rd q
  obtain ⟨x, h1, h2, c1, c2, R2, t2⟩ := k_length h g R (xs (i + 1))
  obtain ⟨q1, vm⟩ := law_1 R hg q c1
  have q2 := SC_k (ev_20 c2) q1
  obtain ⟨rd1, ln1⟩ := SC_rd q1
  refine ⟨h2, ?_, R2, t2, q2⟩
  simp +decide only [e234_504, e234_505, e234_506, e234_507, e234_508, e234_509, e234_510, e234_513, e234_514, e234_515, e234_516, e234_517, e234_518, e234_522, e234_525, e234_526, y234_519, og, vm, rd0, ln0, rd1, ln1, lwf_1 i Ln hi hL, lwv_1 i Ln hi hL, lwu_1 i Ln hi hL, SC_a q (i + 1), SC_a q1 (i + 1), c1, c2, eq_self, vkk_n, vkk_i, vkk_r, vkk_l, vkk_d, catS_nil, catS_i, catS_r, catS_l, catS_d, Nat.reduceAdd, Nat.reduceLeDiff, Nat.zero_le, Nat.le_refl, Option.bind_some, Option.toList_some, Option.toList_none, List.cons_append, List.nil_append, or_true, true_or, if_true, if_false, Int32.reduceLT, Int32.reduceLE, not_true, not_false_iff, true_and, and_true, false_and, and_false]
set_option maxHeartbeats 4000000 in
theorem w_cell {h : VG} {g b i Ln : Nat} {xs : Nat → Int32} (R : Inv h g) (hg : g + 308 ≤ h.2.1) (q : SC h b Ln xs) (hi : i + 7 ≤ Ln) (hL : Ln ≤ 3584) : ∃ h2, ev 234 527 [some (.ref b), some (.ref g), some (.ref (g + 266)), some (.int (nI i))] [] h = ev 234 1401 [some (.ref b), some (.ref g), some (.ref (g + 266)), some (.int (nI i))] [] h2 ∧ Inv h2 g ∧ h2.2 = h.2 ∧ SC h2 b Ln xs := by
  have og : ob h g 10 := Cls_0 R.cls
  obtain ⟨rd0, ln0⟩ := SC_rd q
  obtain ⟨x, h1, h2, c1, c2, R2, t2⟩ := k_cell h g R (xs (i + 1)) (xs (i + 2)) (xs (i + 3))
  obtain ⟨q1, vm⟩ := law_1 R hg q c1
  have q2 := SC_k (ev_20 c2) q1
  obtain ⟨rd1, ln1⟩ := SC_rd q1
  refine ⟨h2, ?_, R2, t2, q2⟩
  simp +decide only [e234_527, e234_528, e234_529, e234_530, e234_531, e234_532, e234_533, e234_534, e234_535, e234_536, e234_537, e234_538, e234_539, e234_540, e234_541, e234_542, e234_543, e234_546, e234_547, e234_548, e234_549, e234_550, e234_551, e234_552, e234_553, e234_554, e234_555, e234_556, e234_557, e234_558, e234_559, e234_560, e234_561, e234_565, e234_566, e234_569, e234_570, y234_562, og, vm, rd0, ln0, rd1, ln1, lwf_1 i Ln hi hL, lwv_1 i Ln hi hL, lwu_1 i Ln hi hL, SC_a q (i + 1), SC_a q1 (i + 1), lwf_2 i Ln hi hL, lwv_2 i Ln hi hL, lwu_2 i Ln hi hL, SC_a q (i + 2), SC_a q1 (i + 2), lwf_3 i Ln hi hL, lwv_3 i Ln hi hL, lwu_3 i Ln hi hL, SC_a q (i + 3), SC_a q1 (i + 3), c1, c2, lg_self x, eq_self, vkk_n, vkk_i, vkk_r, vkk_l, vkk_d, catS_nil, catS_i, catS_r, catS_l, catS_d, Nat.reduceAdd, Nat.reduceLeDiff, Nat.zero_le, Nat.le_refl, Option.bind_some, Option.toList_some, Option.toList_none, List.cons_append, List.nil_append, or_true, true_or, if_true, if_false, Int32.reduceLT, Int32.reduceLE, not_true, not_false_iff, true_and, and_true, false_and, and_false]
set_option maxHeartbeats 4000000 in
theorem w_write {h : VG} {g b i Ln : Nat} {xs : Nat → Int32} (R : Inv h g) (hg : g + 308 ≤ h.2.1) (q : SC h b Ln xs) (hi : i + 7 ≤ Ln) (hL : Ln ≤ 3584) : ∃ h2, ev 234 571 [some (.ref b), some (.ref g), some (.ref (g + 266)), some (.int (nI i))] [] h = ev 234 1401 [some (.ref b), some (.ref g), some (.ref (g + 266)), some (.int (nI i))] [] h2 ∧ Inv h2 g ∧ h2.2 = h.2 ∧ SC h2 b Ln xs := by
  have og : ob h g 10 := Cls_0 R.cls
  obtain ⟨rd0, ln0⟩ := SC_rd q
  obtain ⟨x, h1, h2, c1, c2, R2, t2⟩ := k_write h g R (xs (i + 1)) (xs (i + 2)) (xs (i + 3)) (LV (xs (i + 4)) (xs (i + 5)))
  obtain ⟨q1, vm⟩ := law_1 R hg q c1
  have q2 := SC_k (ev_20 c2) q1
  obtain ⟨rd1, ln1⟩ := SC_rd q1
  unfold LV at c1 c2
  refine ⟨h2, ?_, R2, t2, q2⟩
  simp +decide only [e234_571, e234_572, e234_573, e234_574, e234_575, e234_576, e234_577, e234_578, e234_579, e234_580, e234_581, e234_582, e234_583, e234_584, e234_585, e234_586, e234_587, e234_588, e234_589, e234_590, e234_591, e234_592, e234_593, e234_595, e234_596, e234_597, e234_598, e234_599, e234_600, e234_601, e234_602, e234_605, e234_606, e234_607, e234_610, e234_611, e234_612, e234_613, e234_614, e234_615, e234_616, e234_617, e234_618, e234_619, e234_620, e234_621, e234_622, e234_623, e234_624, e234_625, e234_626, e234_627, e234_628, e234_629, e234_630, e234_631, e234_632, e234_634, e234_635, e234_636, e234_637, e234_638, e234_639, e234_640, e234_641, e234_644, e234_645, e234_649, e234_652, e234_653, y234_646, og, vm, rd0, ln0, rd1, ln1, lwf_1 i Ln hi hL, lwv_1 i Ln hi hL, lwu_1 i Ln hi hL, SC_a q (i + 1), SC_a q1 (i + 1), lwf_2 i Ln hi hL, lwv_2 i Ln hi hL, lwu_2 i Ln hi hL, SC_a q (i + 2), SC_a q1 (i + 2), lwf_3 i Ln hi hL, lwv_3 i Ln hi hL, lwu_3 i Ln hi hL, SC_a q (i + 3), SC_a q1 (i + 3), lwf_4 i Ln hi hL, lwv_4 i Ln hi hL, lwu_4 i Ln hi hL, SC_a q (i + 4), SC_a q1 (i + 4), lwf_5 i Ln hi hL, lwv_5 i Ln hi hL, lwu_5 i Ln hi hL, SC_a q (i + 5), SC_a q1 (i + 5), c1, c2, eq_self, vkk_n, vkk_i, vkk_r, vkk_l, vkk_d, catS_nil, catS_i, catS_r, catS_l, catS_d, Nat.reduceAdd, Nat.reduceLeDiff, Nat.zero_le, Nat.le_refl, Option.bind_some, Option.toList_some, Option.toList_none, List.cons_append, List.nil_append, or_true, true_or, if_true, if_false, Int32.reduceLT, Int32.reduceLE, not_true, not_false_iff, true_and, and_true, false_and, and_false]
set_option maxHeartbeats 4000000 in
theorem w_box {h : VG} {g b i Ln : Nat} {xs : Nat → Int32} (R : Inv h g) (hg : g + 308 ≤ h.2.1) (q : SC h b Ln xs) (hi : i + 7 ≤ Ln) (hL : Ln ≤ 3584) : ∃ h2, ev 234 654 [some (.ref b), some (.ref g), some (.ref (g + 266)), some (.int (nI i))] [] h = ev 234 1401 [some (.ref b), some (.ref g), some (.ref (g + 266)), some (.int (nI i))] [] h2 ∧ Inv h2 g ∧ h2.2 = h.2 ∧ SC h2 b Ln xs := by
  have og : ob h g 10 := Cls_0 R.cls
  obtain ⟨rd0, ln0⟩ := SC_rd q
  obtain ⟨x, h1, h2, c1, c2, R2, t2⟩ := k_box h g R (xs (i + 1)) (xs (i + 2)) (xs (i + 3))
  obtain ⟨q1, vm⟩ := law_1 R hg q c1
  have q2 := SC_k (ev_20 c2) q1
  obtain ⟨rd1, ln1⟩ := SC_rd q1
  refine ⟨h2, ?_, R2, t2, q2⟩
  simp +decide only [e234_654, e234_655, e234_656, e234_657, e234_658, e234_659, e234_660, e234_661, e234_662, e234_663, e234_664, e234_665, e234_666, e234_667, e234_668, e234_669, e234_670, e234_673, e234_674, e234_675, e234_676, e234_677, e234_678, e234_679, e234_680, e234_681, e234_682, e234_683, e234_684, e234_685, e234_686, e234_687, e234_688, e234_692, e234_693, e234_696, e234_697, y234_689, og, vm, rd0, ln0, rd1, ln1, lwf_1 i Ln hi hL, lwv_1 i Ln hi hL, lwu_1 i Ln hi hL, SC_a q (i + 1), SC_a q1 (i + 1), lwf_2 i Ln hi hL, lwv_2 i Ln hi hL, lwu_2 i Ln hi hL, SC_a q (i + 2), SC_a q1 (i + 2), lwf_3 i Ln hi hL, lwv_3 i Ln hi hL, lwu_3 i Ln hi hL, SC_a q (i + 3), SC_a q1 (i + 3), c1, c2, lg_self x, eq_self, vkk_n, vkk_i, vkk_r, vkk_l, vkk_d, catS_nil, catS_i, catS_r, catS_l, catS_d, Nat.reduceAdd, Nat.reduceLeDiff, Nat.zero_le, Nat.le_refl, Option.bind_some, Option.toList_some, Option.toList_none, List.cons_append, List.nil_append, or_true, true_or, if_true, if_false, Int32.reduceLT, Int32.reduceLE, not_true, not_false_iff, true_and, and_true, false_and, and_false]
set_option maxHeartbeats 4000000 in
theorem w_put {h : VG} {g b i Ln : Nat} {xs : Nat → Int32} (R : Inv h g) (hg : g + 308 ≤ h.2.1) (q : SC h b Ln xs) (hi : i + 7 ≤ Ln) (hL : Ln ≤ 3584) : ∃ h2, ev 234 698 [some (.ref b), some (.ref g), some (.ref (g + 266)), some (.int (nI i))] [] h = ev 234 1401 [some (.ref b), some (.ref g), some (.ref (g + 266)), some (.int (nI i))] [] h2 ∧ Inv h2 g ∧ h2.2 = h.2 ∧ SC h2 b Ln xs := by
  have og : ob h g 10 := Cls_0 R.cls
  obtain ⟨rd0, ln0⟩ := SC_rd q
  obtain ⟨x, h1, h2, c1, c2, R2, t2⟩ := k_put h g R (xs (i + 1)) (xs (i + 2)) (xs (i + 3)) (LV (xs (i + 4)) (xs (i + 5)))
  obtain ⟨q1, vm⟩ := law_1 R hg q c1
  have q2 := SC_k (ev_20 c2) q1
  obtain ⟨rd1, ln1⟩ := SC_rd q1
  unfold LV at c1 c2
  refine ⟨h2, ?_, R2, t2, q2⟩
  simp +decide only [e234_698, e234_699, e234_700, e234_701, e234_702, e234_703, e234_704, e234_705, e234_706, e234_707, e234_708, e234_709, e234_710, e234_711, e234_712, e234_713, e234_714, e234_715, e234_716, e234_717, e234_718, e234_719, e234_720, e234_722, e234_723, e234_724, e234_725, e234_726, e234_727, e234_728, e234_729, e234_732, e234_733, e234_734, e234_737, e234_738, e234_739, e234_740, e234_741, e234_742, e234_743, e234_744, e234_745, e234_746, e234_747, e234_748, e234_749, e234_750, e234_751, e234_752, e234_753, e234_754, e234_755, e234_756, e234_757, e234_758, e234_759, e234_761, e234_762, e234_763, e234_764, e234_765, e234_766, e234_767, e234_768, e234_771, e234_772, e234_776, e234_779, e234_780, y234_773, og, vm, rd0, ln0, rd1, ln1, lwf_1 i Ln hi hL, lwv_1 i Ln hi hL, lwu_1 i Ln hi hL, SC_a q (i + 1), SC_a q1 (i + 1), lwf_2 i Ln hi hL, lwv_2 i Ln hi hL, lwu_2 i Ln hi hL, SC_a q (i + 2), SC_a q1 (i + 2), lwf_3 i Ln hi hL, lwv_3 i Ln hi hL, lwu_3 i Ln hi hL, SC_a q (i + 3), SC_a q1 (i + 3), lwf_4 i Ln hi hL, lwv_4 i Ln hi hL, lwu_4 i Ln hi hL, SC_a q (i + 4), SC_a q1 (i + 4), lwf_5 i Ln hi hL, lwv_5 i Ln hi hL, lwu_5 i Ln hi hL, SC_a q (i + 5), SC_a q1 (i + 5), c1, c2, eq_self, vkk_n, vkk_i, vkk_r, vkk_l, vkk_d, catS_nil, catS_i, catS_r, catS_l, catS_d, Nat.reduceAdd, Nat.reduceLeDiff, Nat.zero_le, Nat.le_refl, Option.bind_some, Option.toList_some, Option.toList_none, List.cons_append, List.nil_append, or_true, true_or, if_true, if_false, Int32.reduceLT, Int32.reduceLE, not_true, not_false_iff, true_and, and_true, false_and, and_false]
set_option maxHeartbeats 4000000 in
theorem w_copy {h : VG} {g b i Ln : Nat} {xs : Nat → Int32} (R : Inv h g) (hg : g + 308 ≤ h.2.1) (q : SC h b Ln xs) (hi : i + 7 ≤ Ln) (hL : Ln ≤ 3584) : ∃ h2, ev 234 781 [some (.ref b), some (.ref g), some (.ref (g + 266)), some (.int (nI i))] [] h = ev 234 1401 [some (.ref b), some (.ref g), some (.ref (g + 266)), some (.int (nI i))] [] h2 ∧ Inv h2 g ∧ h2.2 = h.2 ∧ SC h2 b Ln xs := by
  have og : ob h g 10 := Cls_0 R.cls
  obtain ⟨rd0, ln0⟩ := SC_rd q
  obtain ⟨x, h1, h2, c1, c2, R2, t2⟩ := k_copy h g R (xs (i + 1)) (xs (i + 2)) (xs (i + 3)) (xs (i + 4)) (xs (i + 5)) (xs (i + 6))
  obtain ⟨q1, vm⟩ := law_1 R hg q c1
  have q2 := SC_k (ev_20 c2) q1
  obtain ⟨rd1, ln1⟩ := SC_rd q1
  refine ⟨h2, ?_, R2, t2, q2⟩
  simp +decide only [e234_781, e234_782, e234_783, e234_784, e234_785, e234_786, e234_787, e234_788, e234_789, e234_790, e234_791, e234_792, e234_793, e234_794, e234_795, e234_796, e234_797, e234_798, e234_799, e234_800, e234_801, e234_802, e234_803, e234_804, e234_805, e234_806, e234_807, e234_808, e234_809, e234_811, e234_812, e234_813, e234_816, e234_817, e234_818, e234_819, e234_820, e234_821, e234_822, e234_823, e234_824, e234_825, e234_826, e234_827, e234_828, e234_829, e234_830, e234_831, e234_832, e234_833, e234_834, e234_835, e234_836, e234_837, e234_838, e234_839, e234_840, e234_841, e234_842, e234_843, e234_844, e234_846, e234_847, e234_851, e234_854, e234_855, y234_848, og, vm, rd0, ln0, rd1, ln1, lwf_1 i Ln hi hL, lwv_1 i Ln hi hL, lwu_1 i Ln hi hL, SC_a q (i + 1), SC_a q1 (i + 1), lwf_2 i Ln hi hL, lwv_2 i Ln hi hL, lwu_2 i Ln hi hL, SC_a q (i + 2), SC_a q1 (i + 2), lwf_3 i Ln hi hL, lwv_3 i Ln hi hL, lwu_3 i Ln hi hL, SC_a q (i + 3), SC_a q1 (i + 3), lwf_4 i Ln hi hL, lwv_4 i Ln hi hL, lwu_4 i Ln hi hL, SC_a q (i + 4), SC_a q1 (i + 4), lwf_5 i Ln hi hL, lwv_5 i Ln hi hL, lwu_5 i Ln hi hL, SC_a q (i + 5), SC_a q1 (i + 5), lwf_6 i Ln hi hL, lwv_6 i Ln hi hL, lwu_6 i Ln hi hL, SC_a q (i + 6), SC_a q1 (i + 6), c1, c2, eq_self, vkk_n, vkk_i, vkk_r, vkk_l, vkk_d, catS_nil, catS_i, catS_r, catS_l, catS_d, Nat.reduceAdd, Nat.reduceLeDiff, Nat.zero_le, Nat.le_refl, Option.bind_some, Option.toList_some, Option.toList_none, List.cons_append, List.nil_append, or_true, true_or, if_true, if_false, Int32.reduceLT, Int32.reduceLE, not_true, not_false_iff, true_and, and_true, false_and, and_false]
set_option maxHeartbeats 4000000 in
theorem w_paste {h : VG} {g b i Ln : Nat} {xs : Nat → Int32} (R : Inv h g) (hg : g + 308 ≤ h.2.1) (q : SC h b Ln xs) (hi : i + 7 ≤ Ln) (hL : Ln ≤ 3584) : ∃ h2, ev 234 856 [some (.ref b), some (.ref g), some (.ref (g + 266)), some (.int (nI i))] [] h = ev 234 1401 [some (.ref b), some (.ref g), some (.ref (g + 266)), some (.int (nI i))] [] h2 ∧ Inv h2 g ∧ h2.2 = h.2 ∧ SC h2 b Ln xs := by
  have og : ob h g 10 := Cls_0 R.cls
  obtain ⟨rd0, ln0⟩ := SC_rd q
  obtain ⟨x, h1, h2, c1, c2, R2, t2⟩ := k_paste h g R (xs (i + 1)) (xs (i + 2)) (xs (i + 3)) (xs (i + 4)) (xs (i + 5))
  obtain ⟨q1, vm⟩ := law_1 R hg q c1
  have q2 := SC_k (ev_20 c2) q1
  obtain ⟨rd1, ln1⟩ := SC_rd q1
  refine ⟨h2, ?_, R2, t2, q2⟩
  simp +decide only [e234_856, e234_857, e234_858, e234_859, e234_860, e234_861, e234_862, e234_863, e234_864, e234_865, e234_866, e234_867, e234_868, e234_869, e234_870, e234_871, e234_872, e234_873, e234_874, e234_875, e234_876, e234_877, e234_878, e234_879, e234_880, e234_881, e234_882, e234_885, e234_886, e234_887, e234_888, e234_889, e234_890, e234_891, e234_892, e234_893, e234_894, e234_895, e234_896, e234_897, e234_898, e234_899, e234_900, e234_901, e234_902, e234_903, e234_904, e234_905, e234_906, e234_907, e234_908, e234_909, e234_910, e234_914, e234_917, e234_918, y234_911, og, vm, rd0, ln0, rd1, ln1, lwf_1 i Ln hi hL, lwv_1 i Ln hi hL, lwu_1 i Ln hi hL, SC_a q (i + 1), SC_a q1 (i + 1), lwf_2 i Ln hi hL, lwv_2 i Ln hi hL, lwu_2 i Ln hi hL, SC_a q (i + 2), SC_a q1 (i + 2), lwf_3 i Ln hi hL, lwv_3 i Ln hi hL, lwu_3 i Ln hi hL, SC_a q (i + 3), SC_a q1 (i + 3), lwf_4 i Ln hi hL, lwv_4 i Ln hi hL, lwu_4 i Ln hi hL, SC_a q (i + 4), SC_a q1 (i + 4), lwf_5 i Ln hi hL, lwv_5 i Ln hi hL, lwu_5 i Ln hi hL, SC_a q (i + 5), SC_a q1 (i + 5), c1, c2, eq_self, vkk_n, vkk_i, vkk_r, vkk_l, vkk_d, catS_nil, catS_i, catS_r, catS_l, catS_d, Nat.reduceAdd, Nat.reduceLeDiff, Nat.zero_le, Nat.le_refl, Option.bind_some, Option.toList_some, Option.toList_none, List.cons_append, List.nil_append, or_true, true_or, if_true, if_false, Int32.reduceLT, Int32.reduceLE, not_true, not_false_iff, true_and, and_true, false_and, and_false]
set_option maxHeartbeats 4000000 in
theorem w_unlike {h : VG} {g b i Ln : Nat} {xs : Nat → Int32} (R : Inv h g) (hg : g + 308 ≤ h.2.1) (q : SC h b Ln xs) (hi : i + 7 ≤ Ln) (hL : Ln ≤ 3584) : ∃ h2, ev 234 919 [some (.ref b), some (.ref g), some (.ref (g + 266)), some (.int (nI i))] [] h = ev 234 1401 [some (.ref b), some (.ref g), some (.ref (g + 266)), some (.int (nI i))] [] h2 ∧ Inv h2 g ∧ h2.2 = h.2 ∧ SC h2 b Ln xs := by
  have og : ob h g 10 := Cls_0 R.cls
  obtain ⟨rd0, ln0⟩ := SC_rd q
  obtain ⟨x, h1, h2, c1, c2, R2, t2⟩ := k_unlike h g R (xs (i + 1)) (xs (i + 2))
  obtain ⟨q1, vm⟩ := law_1 R hg q c1
  have q2 := SC_k (ev_20 c2) q1
  obtain ⟨rd1, ln1⟩ := SC_rd q1
  refine ⟨h2, ?_, R2, t2, q2⟩
  simp +decide only [e234_919, e234_920, e234_921, e234_922, e234_923, e234_924, e234_925, e234_926, e234_927, e234_928, e234_929, e234_930, e234_933, e234_934, e234_935, e234_936, e234_937, e234_938, e234_939, e234_940, e234_941, e234_942, e234_943, e234_947, e234_950, e234_951, y234_944, og, vm, rd0, ln0, rd1, ln1, lwf_1 i Ln hi hL, lwv_1 i Ln hi hL, lwu_1 i Ln hi hL, SC_a q (i + 1), SC_a q1 (i + 1), lwf_2 i Ln hi hL, lwv_2 i Ln hi hL, lwu_2 i Ln hi hL, SC_a q (i + 2), SC_a q1 (i + 2), c1, c2, eq_self, vkk_n, vkk_i, vkk_r, vkk_l, vkk_d, catS_nil, catS_i, catS_r, catS_l, catS_d, Nat.reduceAdd, Nat.reduceLeDiff, Nat.zero_le, Nat.le_refl, Option.bind_some, Option.toList_some, Option.toList_none, List.cons_append, List.nil_append, or_true, true_or, if_true, if_false, Int32.reduceLT, Int32.reduceLE, not_true, not_false_iff, true_and, and_true, false_and, and_false]
set_option maxHeartbeats 4000000 in
theorem w_load {h : VG} {g b i Ln : Nat} {xs : Nat → Int32} (R : Inv h g) (hg : g + 308 ≤ h.2.1) (q : SC h b Ln xs) (hi : i + 7 ≤ Ln) (hL : Ln ≤ 3584) : ∃ h2, ev 234 952 [some (.ref b), some (.ref g), some (.ref (g + 266)), some (.int (nI i))] [] h = ev 234 1401 [some (.ref b), some (.ref g), some (.ref (g + 266)), some (.int (nI i))] [] h2 ∧ Inv h2 g ∧ h2.2 = h.2 ∧ SC h2 b Ln xs := by
  have og : ob h g 10 := Cls_0 R.cls
  obtain ⟨rd0, ln0⟩ := SC_rd q
  obtain ⟨x, h1, h2, c1, c2, R2, t2⟩ := k_load h g R (xs (i + 1)) (xs (i + 2)) (xs (i + 3))
  obtain ⟨q1, vm⟩ := law_1 R hg q c1
  have q2 := SC_k (ev_20 c2) q1
  obtain ⟨rd1, ln1⟩ := SC_rd q1
  refine ⟨h2, ?_, R2, t2, q2⟩
  simp +decide only [e234_952, e234_953, e234_954, e234_955, e234_956, e234_957, e234_958, e234_959, e234_960, e234_961, e234_962, e234_963, e234_964, e234_965, e234_966, e234_967, e234_968, e234_971, e234_972, e234_973, e234_974, e234_975, e234_976, e234_977, e234_978, e234_979, e234_980, e234_981, e234_982, e234_983, e234_984, e234_985, e234_986, e234_990, e234_993, e234_994, y234_987, og, vm, rd0, ln0, rd1, ln1, lwf_1 i Ln hi hL, lwv_1 i Ln hi hL, lwu_1 i Ln hi hL, SC_a q (i + 1), SC_a q1 (i + 1), lwf_2 i Ln hi hL, lwv_2 i Ln hi hL, lwu_2 i Ln hi hL, SC_a q (i + 2), SC_a q1 (i + 2), lwf_3 i Ln hi hL, lwv_3 i Ln hi hL, lwu_3 i Ln hi hL, SC_a q (i + 3), SC_a q1 (i + 3), c1, c2, eq_self, vkk_n, vkk_i, vkk_r, vkk_l, vkk_d, catS_nil, catS_i, catS_r, catS_l, catS_d, Nat.reduceAdd, Nat.reduceLeDiff, Nat.zero_le, Nat.le_refl, Option.bind_some, Option.toList_some, Option.toList_none, List.cons_append, List.nil_append, or_true, true_or, if_true, if_false, Int32.reduceLT, Int32.reduceLE, not_true, not_false_iff, true_and, and_true, false_and, and_false]
set_option maxHeartbeats 4000000 in
theorem w_store {h : VG} {g b i Ln : Nat} {xs : Nat → Int32} (R : Inv h g) (hg : g + 308 ≤ h.2.1) (q : SC h b Ln xs) (hi : i + 7 ≤ Ln) (hL : Ln ≤ 3584) : ∃ h2, ev 234 995 [some (.ref b), some (.ref g), some (.ref (g + 266)), some (.int (nI i))] [] h = ev 234 1401 [some (.ref b), some (.ref g), some (.ref (g + 266)), some (.int (nI i))] [] h2 ∧ Inv h2 g ∧ h2.2 = h.2 ∧ SC h2 b Ln xs := by
  have og : ob h g 10 := Cls_0 R.cls
  obtain ⟨rd0, ln0⟩ := SC_rd q
  obtain ⟨x, h1, h2, c1, c2, R2, t2⟩ := k_store h g R (xs (i + 1)) (xs (i + 2)) (xs (i + 3))
  obtain ⟨q1, vm⟩ := law_1 R hg q c1
  have q2 := SC_k (ev_20 c2) q1
  obtain ⟨rd1, ln1⟩ := SC_rd q1
  refine ⟨h2, ?_, R2, t2, q2⟩
  simp +decide only [e234_995, e234_996, e234_997, e234_998, e234_999, e234_1000, e234_1001, e234_1002, e234_1003, e234_1004, e234_1005, e234_1006, e234_1007, e234_1008, e234_1009, e234_1010, e234_1011, e234_1014, e234_1015, e234_1016, e234_1017, e234_1018, e234_1019, e234_1020, e234_1021, e234_1022, e234_1023, e234_1024, e234_1025, e234_1026, e234_1027, e234_1028, e234_1029, e234_1033, e234_1036, e234_1037, y234_1030, og, vm, rd0, ln0, rd1, ln1, lwf_1 i Ln hi hL, lwv_1 i Ln hi hL, lwu_1 i Ln hi hL, SC_a q (i + 1), SC_a q1 (i + 1), lwf_2 i Ln hi hL, lwv_2 i Ln hi hL, lwu_2 i Ln hi hL, SC_a q (i + 2), SC_a q1 (i + 2), lwf_3 i Ln hi hL, lwv_3 i Ln hi hL, lwu_3 i Ln hi hL, SC_a q (i + 3), SC_a q1 (i + 3), c1, c2, eq_self, vkk_n, vkk_i, vkk_r, vkk_l, vkk_d, catS_nil, catS_i, catS_r, catS_l, catS_d, Nat.reduceAdd, Nat.reduceLeDiff, Nat.zero_le, Nat.le_refl, Option.bind_some, Option.toList_some, Option.toList_none, List.cons_append, List.nil_append, or_true, true_or, if_true, if_false, Int32.reduceLT, Int32.reduceLE, not_true, not_false_iff, true_and, and_true, false_and, and_false]
set_option maxHeartbeats 4000000 in
theorem w_turn {h : VG} {g b i Ln : Nat} {xs : Nat → Int32} (R : Inv h g) (hg : g + 308 ≤ h.2.1) (q : SC h b Ln xs) (hi : i + 7 ≤ Ln) (hL : Ln ≤ 3584) : ∃ h2, ev 234 1038 [some (.ref b), some (.ref g), some (.ref (g + 266)), some (.int (nI i))] [] h = ev 234 1401 [some (.ref b), some (.ref g), some (.ref (g + 266)), some (.int (nI i))] [] h2 ∧ Inv h2 g ∧ h2.2 = h.2 ∧ SC h2 b Ln xs := by
  have og : ob h g 10 := Cls_0 R.cls
  obtain ⟨rd0, ln0⟩ := SC_rd q
  by_cases z : xs (i + 4) = 0
  · obtain ⟨x, h1, h2, c1, c2, R2, t2⟩ := k_turn h g R (xs (i + 1)) (xs (i + 2)) (xs (i + 3)) 0 (by decide)
    obtain ⟨q1, vm⟩ := law_1 R hg q c1
    have q2 := SC_k (ev_20 c2) q1
    obtain ⟨rd1, ln1⟩ := SC_rd q1
    refine ⟨h2, ?_, R2, t2, q2⟩
    simp +decide only [e234_1038, e234_1039, e234_1040, e234_1041, e234_1042, e234_1043, e234_1044, e234_1045, e234_1046, e234_1047, e234_1048, e234_1049, e234_1050, e234_1051, e234_1052, e234_1053, e234_1054, e234_1055, e234_1056, e234_1057, e234_1058, e234_1059, e234_1062, e234_1063, e234_1066, e234_1067, e234_1070, e234_1071, e234_1072, e234_1073, e234_1074, e234_1075, e234_1076, e234_1077, e234_1078, e234_1079, e234_1080, e234_1081, e234_1082, e234_1083, e234_1084, e234_1085, e234_1086, e234_1087, e234_1088, e234_1089, e234_1090, e234_1091, e234_1094, e234_1095, e234_1098, e234_1102, e234_1105, e234_1106, y234_1099, og, vm, rd0, ln0, rd1, ln1, lwf_1 i Ln hi hL, lwv_1 i Ln hi hL, lwu_1 i Ln hi hL, SC_a q (i + 1), SC_a q1 (i + 1), lwf_2 i Ln hi hL, lwv_2 i Ln hi hL, lwu_2 i Ln hi hL, SC_a q (i + 2), SC_a q1 (i + 2), lwf_3 i Ln hi hL, lwv_3 i Ln hi hL, lwu_3 i Ln hi hL, SC_a q (i + 3), SC_a q1 (i + 3), lwf_4 i Ln hi hL, lwv_4 i Ln hi hL, lwu_4 i Ln hi hL, SC_a q (i + 4), SC_a q1 (i + 4), c1, c2, z, eq_self, vkk_n, vkk_i, vkk_r, vkk_l, vkk_d, catS_nil, catS_i, catS_r, catS_l, catS_d, Nat.reduceAdd, Nat.reduceLeDiff, Nat.zero_le, Nat.le_refl, Option.bind_some, Option.toList_some, Option.toList_none, List.cons_append, List.nil_append, or_true, true_or, if_true, if_false, Int32.reduceLT, Int32.reduceLE, not_true, not_false_iff, true_and, and_true, false_and, and_false]
  · obtain ⟨x, h1, h2, c1, c2, R2, t2⟩ := k_turn h g R (xs (i + 1)) (xs (i + 2)) (xs (i + 3)) 1 (by decide)
    obtain ⟨q1, vm⟩ := law_1 R hg q c1
    have q2 := SC_k (ev_20 c2) q1
    obtain ⟨rd1, ln1⟩ := SC_rd q1
    refine ⟨h2, ?_, R2, t2, q2⟩
    simp +decide only [e234_1038, e234_1039, e234_1040, e234_1041, e234_1042, e234_1043, e234_1044, e234_1045, e234_1046, e234_1047, e234_1048, e234_1049, e234_1050, e234_1051, e234_1052, e234_1053, e234_1054, e234_1055, e234_1056, e234_1057, e234_1058, e234_1059, e234_1062, e234_1063, e234_1066, e234_1067, e234_1070, e234_1071, e234_1072, e234_1073, e234_1074, e234_1075, e234_1076, e234_1077, e234_1078, e234_1079, e234_1080, e234_1081, e234_1082, e234_1083, e234_1084, e234_1085, e234_1086, e234_1087, e234_1088, e234_1089, e234_1090, e234_1091, e234_1094, e234_1095, e234_1098, e234_1102, e234_1105, e234_1106, y234_1099, og, vm, rd0, ln0, rd1, ln1, lwf_1 i Ln hi hL, lwv_1 i Ln hi hL, lwu_1 i Ln hi hL, SC_a q (i + 1), SC_a q1 (i + 1), lwf_2 i Ln hi hL, lwv_2 i Ln hi hL, lwu_2 i Ln hi hL, SC_a q (i + 2), SC_a q1 (i + 2), lwf_3 i Ln hi hL, lwv_3 i Ln hi hL, lwu_3 i Ln hi hL, SC_a q (i + 3), SC_a q1 (i + 3), lwf_4 i Ln hi hL, lwv_4 i Ln hi hL, lwu_4 i Ln hi hL, SC_a q (i + 4), SC_a q1 (i + 4), c1, c2, z, eq_self, vkk_n, vkk_i, vkk_r, vkk_l, vkk_d, catS_nil, catS_i, catS_r, catS_l, catS_d, Nat.reduceAdd, Nat.reduceLeDiff, Nat.zero_le, Nat.le_refl, Option.bind_some, Option.toList_some, Option.toList_none, List.cons_append, List.nil_append, or_true, true_or, if_true, if_false, Int32.reduceLT, Int32.reduceLE, not_true, not_false_iff, true_and, and_true, false_and, and_false]
set_option maxHeartbeats 4000000 in
theorem w_list {h : VG} {g b i Ln : Nat} {xs : Nat → Int32} (R : Inv h g) (hg : g + 308 ≤ h.2.1) (q : SC h b Ln xs) (hi : i + 7 ≤ Ln) (hL : Ln ≤ 3584) : ∃ h2, ev 234 1107 [some (.ref b), some (.ref g), some (.ref (g + 266)), some (.int (nI i))] [] h = ev 234 1401 [some (.ref b), some (.ref g), some (.ref (g + 266)), some (.int (nI i))] [] h2 ∧ Inv h2 g ∧ h2.2 = h.2 ∧ SC h2 b Ln xs := by
  have og : ob h g 10 := Cls_0 R.cls
  obtain ⟨rd0, ln0⟩ := SC_rd q
  obtain ⟨x, h1, h2, c1, c2, R2, t2⟩ := k_list h g R (xs (i + 1)) (xs (i + 2)) (xs (i + 3))
  obtain ⟨q1, vm⟩ := law_1 R hg q c1
  have q2 := SC_k (ev_20 c2) q1
  obtain ⟨rd1, ln1⟩ := SC_rd q1
  refine ⟨h2, ?_, R2, t2, q2⟩
  simp +decide only [e234_1107, e234_1108, e234_1109, e234_1110, e234_1111, e234_1112, e234_1113, e234_1114, e234_1115, e234_1116, e234_1117, e234_1118, e234_1119, e234_1120, e234_1121, e234_1122, e234_1123, e234_1126, e234_1127, e234_1128, e234_1129, e234_1130, e234_1131, e234_1132, e234_1133, e234_1134, e234_1135, e234_1136, e234_1137, e234_1138, e234_1139, e234_1140, e234_1141, e234_1145, e234_1148, e234_1149, y234_1142, og, vm, rd0, ln0, rd1, ln1, lwf_1 i Ln hi hL, lwv_1 i Ln hi hL, lwu_1 i Ln hi hL, SC_a q (i + 1), SC_a q1 (i + 1), lwf_2 i Ln hi hL, lwv_2 i Ln hi hL, lwu_2 i Ln hi hL, SC_a q (i + 2), SC_a q1 (i + 2), lwf_3 i Ln hi hL, lwv_3 i Ln hi hL, lwu_3 i Ln hi hL, SC_a q (i + 3), SC_a q1 (i + 3), c1, c2, eq_self, vkk_n, vkk_i, vkk_r, vkk_l, vkk_d, catS_nil, catS_i, catS_r, catS_l, catS_d, Nat.reduceAdd, Nat.reduceLeDiff, Nat.zero_le, Nat.le_refl, Option.bind_some, Option.toList_some, Option.toList_none, List.cons_append, List.nil_append, or_true, true_or, if_true, if_false, Int32.reduceLT, Int32.reduceLE, not_true, not_false_iff, true_and, and_true, false_and, and_false]
set_option maxHeartbeats 4000000 in
theorem w_move {h : VG} {g b i Ln : Nat} {xs : Nat → Int32} (R : Inv h g) (hg : g + 308 ≤ h.2.1) (q : SC h b Ln xs) (hi : i + 7 ≤ Ln) (hL : Ln ≤ 3584) : ∃ h2, ev 234 1150 [some (.ref b), some (.ref g), some (.ref (g + 266)), some (.int (nI i))] [] h = ev 234 1401 [some (.ref b), some (.ref g), some (.ref (g + 266)), some (.int (nI i))] [] h2 ∧ Inv h2 g ∧ h2.2 = h.2 ∧ SC h2 b Ln xs := by
  have og : ob h g 10 := Cls_0 R.cls
  obtain ⟨rd0, ln0⟩ := SC_rd q
  by_cases z : xs (i + 4) = 0
  · obtain ⟨x, h1, h2, c1, c2, R2, t2⟩ := k_move h g R (xs (i + 1)) (xs (i + 2)) (xs (i + 3)) 0
    obtain ⟨q1, vm⟩ := law_1 R hg q c1
    have q2 := SC_k (ev_20 c2) q1
    obtain ⟨rd1, ln1⟩ := SC_rd q1
    refine ⟨h2, ?_, R2, t2, q2⟩
    simp +decide only [e234_1150, e234_1151, e234_1152, e234_1153, e234_1154, e234_1155, e234_1156, e234_1157, e234_1158, e234_1159, e234_1160, e234_1161, e234_1162, e234_1163, e234_1164, e234_1165, e234_1166, e234_1167, e234_1168, e234_1169, e234_1170, e234_1171, e234_1174, e234_1175, e234_1178, e234_1179, e234_1182, e234_1183, e234_1184, e234_1185, e234_1186, e234_1187, e234_1188, e234_1189, e234_1190, e234_1191, e234_1192, e234_1193, e234_1194, e234_1195, e234_1196, e234_1197, e234_1198, e234_1199, e234_1200, e234_1201, e234_1202, e234_1203, e234_1206, e234_1207, e234_1210, e234_1214, e234_1217, e234_1218, y234_1211, og, vm, rd0, ln0, rd1, ln1, lwf_1 i Ln hi hL, lwv_1 i Ln hi hL, lwu_1 i Ln hi hL, SC_a q (i + 1), SC_a q1 (i + 1), lwf_2 i Ln hi hL, lwv_2 i Ln hi hL, lwu_2 i Ln hi hL, SC_a q (i + 2), SC_a q1 (i + 2), lwf_3 i Ln hi hL, lwv_3 i Ln hi hL, lwu_3 i Ln hi hL, SC_a q (i + 3), SC_a q1 (i + 3), lwf_4 i Ln hi hL, lwv_4 i Ln hi hL, lwu_4 i Ln hi hL, SC_a q (i + 4), SC_a q1 (i + 4), c1, c2, z, eq_self, vkk_n, vkk_i, vkk_r, vkk_l, vkk_d, catS_nil, catS_i, catS_r, catS_l, catS_d, Nat.reduceAdd, Nat.reduceLeDiff, Nat.zero_le, Nat.le_refl, Option.bind_some, Option.toList_some, Option.toList_none, List.cons_append, List.nil_append, or_true, true_or, if_true, if_false, Int32.reduceLT, Int32.reduceLE, not_true, not_false_iff, true_and, and_true, false_and, and_false]
  · obtain ⟨x, h1, h2, c1, c2, R2, t2⟩ := k_move h g R (xs (i + 1)) (xs (i + 2)) (xs (i + 3)) 1
    obtain ⟨q1, vm⟩ := law_1 R hg q c1
    have q2 := SC_k (ev_20 c2) q1
    obtain ⟨rd1, ln1⟩ := SC_rd q1
    refine ⟨h2, ?_, R2, t2, q2⟩
    simp +decide only [e234_1150, e234_1151, e234_1152, e234_1153, e234_1154, e234_1155, e234_1156, e234_1157, e234_1158, e234_1159, e234_1160, e234_1161, e234_1162, e234_1163, e234_1164, e234_1165, e234_1166, e234_1167, e234_1168, e234_1169, e234_1170, e234_1171, e234_1174, e234_1175, e234_1178, e234_1179, e234_1182, e234_1183, e234_1184, e234_1185, e234_1186, e234_1187, e234_1188, e234_1189, e234_1190, e234_1191, e234_1192, e234_1193, e234_1194, e234_1195, e234_1196, e234_1197, e234_1198, e234_1199, e234_1200, e234_1201, e234_1202, e234_1203, e234_1206, e234_1207, e234_1210, e234_1214, e234_1217, e234_1218, y234_1211, og, vm, rd0, ln0, rd1, ln1, lwf_1 i Ln hi hL, lwv_1 i Ln hi hL, lwu_1 i Ln hi hL, SC_a q (i + 1), SC_a q1 (i + 1), lwf_2 i Ln hi hL, lwv_2 i Ln hi hL, lwu_2 i Ln hi hL, SC_a q (i + 2), SC_a q1 (i + 2), lwf_3 i Ln hi hL, lwv_3 i Ln hi hL, lwu_3 i Ln hi hL, SC_a q (i + 3), SC_a q1 (i + 3), lwf_4 i Ln hi hL, lwv_4 i Ln hi hL, lwu_4 i Ln hi hL, SC_a q (i + 4), SC_a q1 (i + 4), c1, c2, z, eq_self, vkk_n, vkk_i, vkk_r, vkk_l, vkk_d, catS_nil, catS_i, catS_r, catS_l, catS_d, Nat.reduceAdd, Nat.reduceLeDiff, Nat.zero_le, Nat.le_refl, Option.bind_some, Option.toList_some, Option.toList_none, List.cons_append, List.nil_append, or_true, true_or, if_true, if_false, Int32.reduceLT, Int32.reduceLE, not_true, not_false_iff, true_and, and_true, false_and, and_false]
set_option maxHeartbeats 4000000 in
theorem w_register {h : VG} {g b i Ln : Nat} {xs : Nat → Int32} (R : Inv h g) (hg : g + 308 ≤ h.2.1) (q : SC h b Ln xs) (hi : i + 7 ≤ Ln) (hL : Ln ≤ 3584) : ∃ h2, ev 234 1219 [some (.ref b), some (.ref g), some (.ref (g + 266)), some (.int (nI i))] [] h = ev 234 1401 [some (.ref b), some (.ref g), some (.ref (g + 266)), some (.int (nI i))] [] h2 ∧ Inv h2 g ∧ h2.2 = h.2 ∧ SC h2 b Ln xs := by
  have og : ob h g 10 := Cls_0 R.cls
  obtain ⟨rd0, ln0⟩ := SC_rd q
  obtain ⟨x, h1, h2, c1, c2, R2, t2⟩ := k_register h g R (xs (i + 1))
  obtain ⟨q1, vm⟩ := law_1 R hg q c1
  have q2 := SC_k (ev_20 c2) q1
  obtain ⟨rd1, ln1⟩ := SC_rd q1
  refine ⟨h2, ?_, R2, t2, q2⟩
  simp +decide only [e234_1219, e234_1220, e234_1221, e234_1222, e234_1223, e234_1224, e234_1225, e234_1228, e234_1229, e234_1230, e234_1231, e234_1232, e234_1233, e234_1237, e234_1238, e234_1241, e234_1242, y234_1234, og, vm, rd0, ln0, rd1, ln1, lwf_1 i Ln hi hL, lwv_1 i Ln hi hL, lwu_1 i Ln hi hL, SC_a q (i + 1), SC_a q1 (i + 1), c1, c2, lg_self x, eq_self, vkk_n, vkk_i, vkk_r, vkk_l, vkk_d, catS_nil, catS_i, catS_r, catS_l, catS_d, Nat.reduceAdd, Nat.reduceLeDiff, Nat.zero_le, Nat.le_refl, Option.bind_some, Option.toList_some, Option.toList_none, List.cons_append, List.nil_append, or_true, true_or, if_true, if_false, Int32.reduceLT, Int32.reduceLE, not_true, not_false_iff, true_and, and_true, false_and, and_false]
set_option maxHeartbeats 4000000 in
theorem w_sets {h : VG} {g b i Ln : Nat} {xs : Nat → Int32} (R : Inv h g) (hg : g + 308 ≤ h.2.1) (q : SC h b Ln xs) (hi : i + 7 ≤ Ln) (hL : Ln ≤ 3584) : ∃ h2, ev 234 1243 [some (.ref b), some (.ref g), some (.ref (g + 266)), some (.int (nI i))] [] h = ev 234 1401 [some (.ref b), some (.ref g), some (.ref (g + 266)), some (.int (nI i))] [] h2 ∧ Inv h2 g ∧ h2.2 = h.2 ∧ SC h2 b Ln xs := by
  have og : ob h g 10 := Cls_0 R.cls
  obtain ⟨rd0, ln0⟩ := SC_rd q
  obtain ⟨x, h1, h2, c1, c2, R2, t2⟩ := k_sets h g R (xs (i + 1)) (LV (xs (i + 2)) (xs (i + 3)))
  obtain ⟨q1, vm⟩ := law_1 R hg q c1
  have q2 := SC_k (ev_20 c2) q1
  obtain ⟨rd1, ln1⟩ := SC_rd q1
  unfold LV at c1 c2
  refine ⟨h2, ?_, R2, t2, q2⟩
  simp +decide only [e234_1243, e234_1244, e234_1245, e234_1246, e234_1247, e234_1248, e234_1249, e234_1250, e234_1251, e234_1252, e234_1253, e234_1254, e234_1255, e234_1257, e234_1258, e234_1259, e234_1260, e234_1261, e234_1262, e234_1263, e234_1264, e234_1267, e234_1268, e234_1269, e234_1272, e234_1273, e234_1274, e234_1275, e234_1276, e234_1277, e234_1278, e234_1279, e234_1280, e234_1281, e234_1282, e234_1283, e234_1284, e234_1286, e234_1287, e234_1288, e234_1289, e234_1290, e234_1291, e234_1292, e234_1293, e234_1296, e234_1297, e234_1301, e234_1304, e234_1305, y234_1298, og, vm, rd0, ln0, rd1, ln1, lwf_1 i Ln hi hL, lwv_1 i Ln hi hL, lwu_1 i Ln hi hL, SC_a q (i + 1), SC_a q1 (i + 1), lwf_2 i Ln hi hL, lwv_2 i Ln hi hL, lwu_2 i Ln hi hL, SC_a q (i + 2), SC_a q1 (i + 2), lwf_3 i Ln hi hL, lwv_3 i Ln hi hL, lwu_3 i Ln hi hL, SC_a q (i + 3), SC_a q1 (i + 3), c1, c2, eq_self, vkk_n, vkk_i, vkk_r, vkk_l, vkk_d, catS_nil, catS_i, catS_r, catS_l, catS_d, Nat.reduceAdd, Nat.reduceLeDiff, Nat.zero_le, Nat.le_refl, Option.bind_some, Option.toList_some, Option.toList_none, List.cons_append, List.nil_append, or_true, true_or, if_true, if_false, Int32.reduceLT, Int32.reduceLE, not_true, not_false_iff, true_and, and_true, false_and, and_false]
set_option maxHeartbeats 4000000 in
theorem w_frame {h : VG} {g b i Ln : Nat} {xs : Nat → Int32} (R : Inv h g) (hg : g + 308 ≤ h.2.1) (q : SC h b Ln xs) (hi : i + 7 ≤ Ln) (hL : Ln ≤ 3584) : ∃ h2, ev 234 1306 [some (.ref b), some (.ref g), some (.ref (g + 266)), some (.int (nI i))] [] h = ev 234 1401 [some (.ref b), some (.ref g), some (.ref (g + 266)), some (.int (nI i))] [] h2 ∧ Inv h2 g ∧ h2.2 = h.2 ∧ SC h2 b Ln xs := by
  have og : ob h g 10 := Cls_0 R.cls
  obtain ⟨rd0, ln0⟩ := SC_rd q
  obtain ⟨x, h1, h2, c1, c2, R2, t2⟩ := k_frame h g R 
  obtain ⟨q1, vm⟩ := law_1 R hg q c1
  have q2 := SC_k (ev_20 c2) q1
  obtain ⟨rd1, ln1⟩ := SC_rd q1
  refine ⟨h2, ?_, R2, t2, q2⟩
  simp +decide only [e234_1306, e234_1307, e234_1310, e234_1314, e234_1317, e234_1318, y234_1311, og, vm, rd0, ln0, rd1, ln1, c1, c2, eq_self, vkk_n, vkk_i, vkk_r, vkk_l, vkk_d, catS_nil, catS_i, catS_r, catS_l, catS_d, Nat.reduceAdd, Nat.reduceLeDiff, Nat.zero_le, Nat.le_refl, Option.bind_some, Option.toList_some, Option.toList_none, List.cons_append, List.nil_append, or_true, true_or, if_true, if_false, Int32.reduceLT, Int32.reduceLE, not_true, not_false_iff, true_and, and_true, false_and, and_false]
set_option maxHeartbeats 4000000 in
theorem w_returns {h : VG} {g b i Ln : Nat} {xs : Nat → Int32} (R : Inv h g) (hg : g + 308 ≤ h.2.1) (q : SC h b Ln xs) (hi : i + 7 ≤ Ln) (hL : Ln ≤ 3584) : ∃ h2, ev 234 1319 [some (.ref b), some (.ref g), some (.ref (g + 266)), some (.int (nI i))] [] h = ev 234 1401 [some (.ref b), some (.ref g), some (.ref (g + 266)), some (.int (nI i))] [] h2 ∧ Inv h2 g ∧ h2.2 = h.2 ∧ SC h2 b Ln xs := by
  have og : ob h g 10 := Cls_0 R.cls
  obtain ⟨rd0, ln0⟩ := SC_rd q
  obtain ⟨x, h1, h2, c1, c2, R2, t2⟩ := k_returns h g R 
  obtain ⟨q1, vm⟩ := law_1 R hg q c1
  have q2 := SC_k (ev_20 c2) q1
  obtain ⟨rd1, ln1⟩ := SC_rd q1
  refine ⟨h2, ?_, R2, t2, q2⟩
  simp +decide only [e234_1319, e234_1320, e234_1323, e234_1327, e234_1330, e234_1331, y234_1324, og, vm, rd0, ln0, rd1, ln1, c1, c2, eq_self, vkk_n, vkk_i, vkk_r, vkk_l, vkk_d, catS_nil, catS_i, catS_r, catS_l, catS_d, Nat.reduceAdd, Nat.reduceLeDiff, Nat.zero_le, Nat.le_refl, Option.bind_some, Option.toList_some, Option.toList_none, List.cons_append, List.nil_append, or_true, true_or, if_true, if_false, Int32.reduceLT, Int32.reduceLE, not_true, not_false_iff, true_and, and_true, false_and, and_false]
set_option maxHeartbeats 4000000 in
theorem w_hold {h : VG} {g b i Ln : Nat} {xs : Nat → Int32} (R : Inv h g) (hg : g + 308 ≤ h.2.1) (q : SC h b Ln xs) (hi : i + 7 ≤ Ln) (hL : Ln ≤ 3584) : ∃ h2, ev 234 1332 [some (.ref b), some (.ref g), some (.ref (g + 266)), some (.int (nI i))] [] h = ev 234 1401 [some (.ref b), some (.ref g), some (.ref (g + 266)), some (.int (nI i))] [] h2 ∧ Inv h2 g ∧ h2.2 = h.2 ∧ SC h2 b Ln xs := by
  have og : ob h g 10 := Cls_0 R.cls
  obtain ⟨rd0, ln0⟩ := SC_rd q
  obtain ⟨x, h1, h2, c1, c2, R2, t2⟩ := k_hold h g R (xs (i + 1))
  obtain ⟨q1, vm⟩ := law_1 R hg q c1
  have q2 := SC_k (ev_20 c2) q1
  obtain ⟨rd1, ln1⟩ := SC_rd q1
  refine ⟨h2, ?_, R2, t2, q2⟩
  simp +decide only [e234_1332, e234_1333, e234_1334, e234_1335, e234_1336, e234_1337, e234_1338, e234_1341, e234_1342, e234_1343, e234_1344, e234_1345, e234_1346, e234_1350, e234_1353, e234_1354, y234_1347, og, vm, rd0, ln0, rd1, ln1, lwf_1 i Ln hi hL, lwv_1 i Ln hi hL, lwu_1 i Ln hi hL, SC_a q (i + 1), SC_a q1 (i + 1), c1, c2, eq_self, vkk_n, vkk_i, vkk_r, vkk_l, vkk_d, catS_nil, catS_i, catS_r, catS_l, catS_d, Nat.reduceAdd, Nat.reduceLeDiff, Nat.zero_le, Nat.le_refl, Option.bind_some, Option.toList_some, Option.toList_none, List.cons_append, List.nil_append, or_true, true_or, if_true, if_false, Int32.reduceLT, Int32.reduceLE, not_true, not_false_iff, true_and, and_true, false_and, and_false]
set_option maxHeartbeats 4000000 in
theorem w_restore {h : VG} {g b i Ln : Nat} {xs : Nat → Int32} (R : Inv h g) (hg : g + 308 ≤ h.2.1) (q : SC h b Ln xs) (hi : i + 7 ≤ Ln) (hL : Ln ≤ 3584) : ∃ h2, ev 234 1355 [some (.ref b), some (.ref g), some (.ref (g + 266)), some (.int (nI i))] [] h = ev 234 1401 [some (.ref b), some (.ref g), some (.ref (g + 266)), some (.int (nI i))] [] h2 ∧ Inv h2 g ∧ h2.2 = h.2 ∧ SC h2 b Ln xs := by
  have og : ob h g 10 := Cls_0 R.cls
  obtain ⟨rd0, ln0⟩ := SC_rd q
  obtain ⟨x, h1, h2, c1, c2, R2, t2⟩ := k_restore h g R (xs (i + 1))
  obtain ⟨q1, vm⟩ := law_1 R hg q c1
  have q2 := SC_k (ev_20 c2) q1
  obtain ⟨rd1, ln1⟩ := SC_rd q1
  refine ⟨h2, ?_, R2, t2, q2⟩
  simp +decide only [e234_1355, e234_1356, e234_1357, e234_1358, e234_1359, e234_1360, e234_1361, e234_1364, e234_1365, e234_1366, e234_1367, e234_1368, e234_1369, e234_1373, e234_1376, e234_1377, y234_1370, og, vm, rd0, ln0, rd1, ln1, lwf_1 i Ln hi hL, lwv_1 i Ln hi hL, lwu_1 i Ln hi hL, SC_a q (i + 1), SC_a q1 (i + 1), c1, c2, eq_self, vkk_n, vkk_i, vkk_r, vkk_l, vkk_d, catS_nil, catS_i, catS_r, catS_l, catS_d, Nat.reduceAdd, Nat.reduceLeDiff, Nat.zero_le, Nat.le_refl, Option.bind_some, Option.toList_some, Option.toList_none, List.cons_append, List.nil_append, or_true, true_or, if_true, if_false, Int32.reduceLT, Int32.reduceLE, not_true, not_false_iff, true_and, and_true, false_and, and_false]
set_option maxHeartbeats 4000000 in
theorem w_count {h : VG} {g b i Ln : Nat} {xs : Nat → Int32} (R : Inv h g) (hg : g + 308 ≤ h.2.1) (q : SC h b Ln xs) (hi : i + 7 ≤ Ln) (hL : Ln ≤ 3584) : ∃ h2, ev 234 1378 [some (.ref b), some (.ref g), some (.ref (g + 266)), some (.int (nI i))] [] h = ev 234 1401 [some (.ref b), some (.ref g), some (.ref (g + 266)), some (.int (nI i))] [] h2 ∧ Inv h2 g ∧ h2.2 = h.2 ∧ SC h2 b Ln xs := by
  have og : ob h g 10 := Cls_0 R.cls
  obtain ⟨rd0, ln0⟩ := SC_rd q
  obtain ⟨x, h1, h2, c1, c2, R2, t2⟩ := k_count h g R (xs (i + 1))
  obtain ⟨q1, vm⟩ := law_1 R hg q c1
  have q2 := SC_k (ev_20 c2) q1
  obtain ⟨rd1, ln1⟩ := SC_rd q1
  refine ⟨h2, ?_, R2, t2, q2⟩
  simp +decide only [e234_1378, e234_1379, e234_1380, e234_1381, e234_1382, e234_1383, e234_1384, e234_1387, e234_1388, e234_1389, e234_1390, e234_1391, e234_1392, e234_1396, e234_1399, e234_1400, y234_1393, og, vm, rd0, ln0, rd1, ln1, lwf_1 i Ln hi hL, lwv_1 i Ln hi hL, lwu_1 i Ln hi hL, SC_a q (i + 1), SC_a q1 (i + 1), c1, c2, eq_self, vkk_n, vkk_i, vkk_r, vkk_l, vkk_d, catS_nil, catS_i, catS_r, catS_l, catS_d, Nat.reduceAdd, Nat.reduceLeDiff, Nat.zero_le, Nat.le_refl, Option.bind_some, Option.toList_some, Option.toList_none, List.cons_append, List.nil_append, or_true, true_or, if_true, if_false, Int32.reduceLT, Int32.reduceLE, not_true, not_false_iff, true_and, and_true, false_and, and_false]
