/-! 124 GuestCalls.list(III)I -/
def tb124 : List (Nat × Instr × Nat) := [(0, .aload_n 0, 1), (1, .iconst 0, 1), (2, .putfield 86, 3), (5, .iload_n 2, 1), (6, .ifCond .lt 27, 3), (9, .iload_n 2, 1), (10, .bipush 8, 2), (12, .if_icmp .gt 21, 3), (15, .iload_n 3, 1), (16, .ifCond .lt 17, 3), (19, .iload_n 3, 1), (20, .iconst 2, 1), (21, .if_icmp .gt 12, 3), (24, .aload_n 0, 1), (25, .iload_n 1, 1), (26, .iload_n 2, 1), (27, .invokevirtual 302, 3), (30, .ifCond .ne 5, 3), (33, .iconst (-1), 1), (34, .ireturn, 1), (35, .iload_n 3, 1), (36, .lookupswitch 44 #[(0, 28), (1, 36)], 28), (64, .aload_n 0, 1), (65, .getfield 56, 3), (68, .getfield 306, 3), (71, .ireturn, 1), (72, .aload_n 0, 1), (73, .getfield 56, 3), (76, .getfield 309, 3), (79, .ireturn, 1), (80, .aload_n 0, 1), (81, .getfield 56, 3), (84, .getfield 312, 3), (87, .ireturn, 1)]
theorem tk124 : tb124.all (fun q => decide (fetch 124 q.1 = some q.2)) = true := by decide +kernel
theorem f124_0 : fetch 124 0 = some (.aload_n 0, 1) := vtab tk124 0 rfl
theorem e124_0 (L : VL) (st : List Value) (h : VG) (x : Nat) : ev 124 0 (some (.ref x) :: L) (st) h = ev 124 1 (some (.ref x) :: L) (.ref x :: st) h := G_aload_n f124_0 rfl
theorem f124_1 : fetch 124 1 = some (.iconst 0, 1) := vtab tk124 1 rfl
theorem e124_1 (L : VL) (st : List Value) (h : VG) : ev 124 1 L (st) h = ev 124 2 L (.int (0 : Int32) :: st) h := G_iconst f124_1 (by decide)
theorem f124_2 : fetch 124 2 = some (.putfield 86, 3) := vtab tk124 2 rfl
theorem e124_2 (L : VL) (st : List Value) (h : VG) (a : Nat) (x : Int32) (ho : ob h a 10) : ev 124 2 L (.int x :: .ref a :: st) h = ev 124 5 L (st) (pI h a 9 x) := G_putI (p := 438) f124_2 lkF_11_86 (by decide) (by decide) (by decide +kernel) ⟨rfl, rfl⟩ ho
theorem f124_5 : fetch 124 5 = some (.iload_n 2, 1) := vtab tk124 3 rfl
theorem e124_5 (l0 l1 : Option Value) (L : VL) (st : List Value) (h : VG) (x : Int32) : ev 124 5 (l0 :: l1 :: some (.int x) :: L) (st) h = ev 124 6 (l0 :: l1 :: some (.int x) :: L) (.int x :: st) h := G_iload_n f124_5 rfl
theorem f124_6 : fetch 124 6 = some (.ifCond .lt 27, 3) := vtab tk124 4 rfl
theorem e124_6 (L : VL) (st : List Value) (h : VG) (x : Int32) : ev 124 6 L (.int x :: st) h = if x < 0 then ev 124 33 L st h else ev 124 9 L st h := G_if_lt f124_6 (by decide)
theorem f124_9 : fetch 124 9 = some (.iload_n 2, 1) := vtab tk124 5 rfl
theorem e124_9 (l0 l1 : Option Value) (L : VL) (st : List Value) (h : VG) (x : Int32) : ev 124 9 (l0 :: l1 :: some (.int x) :: L) (st) h = ev 124 10 (l0 :: l1 :: some (.int x) :: L) (.int x :: st) h := G_iload_n f124_9 rfl
theorem f124_10 : fetch 124 10 = some (.bipush 8, 2) := vtab tk124 6 rfl
theorem e124_10 (L : VL) (st : List Value) (h : VG) : ev 124 10 L (st) h = ev 124 12 L (.int (8 : Int32) :: st) h := G_bipush f124_10 (by decide)
theorem f124_12 : fetch 124 12 = some (.if_icmp .gt 21, 3) := vtab tk124 7 rfl
theorem e124_12 (L : VL) (st : List Value) (h : VG) (x y : Int32) : ev 124 12 L (.int y :: .int x :: st) h = if x ≤ y then ev 124 15 L st h else ev 124 33 L st h := G_icmp_gt f124_12 (by decide)
theorem f124_15 : fetch 124 15 = some (.iload_n 3, 1) := vtab tk124 8 rfl
theorem e124_15 (l0 l1 l2 : Option Value) (L : VL) (st : List Value) (h : VG) (x : Int32) : ev 124 15 (l0 :: l1 :: l2 :: some (.int x) :: L) (st) h = ev 124 16 (l0 :: l1 :: l2 :: some (.int x) :: L) (.int x :: st) h := G_iload_n f124_15 rfl
theorem f124_16 : fetch 124 16 = some (.ifCond .lt 17, 3) := vtab tk124 9 rfl
theorem e124_16 (L : VL) (st : List Value) (h : VG) (x : Int32) : ev 124 16 L (.int x :: st) h = if x < 0 then ev 124 33 L st h else ev 124 19 L st h := G_if_lt f124_16 (by decide)
theorem f124_19 : fetch 124 19 = some (.iload_n 3, 1) := vtab tk124 10 rfl
theorem e124_19 (l0 l1 l2 : Option Value) (L : VL) (st : List Value) (h : VG) (x : Int32) : ev 124 19 (l0 :: l1 :: l2 :: some (.int x) :: L) (st) h = ev 124 20 (l0 :: l1 :: l2 :: some (.int x) :: L) (.int x :: st) h := G_iload_n f124_19 rfl
theorem f124_20 : fetch 124 20 = some (.iconst 2, 1) := vtab tk124 11 rfl
theorem e124_20 (L : VL) (st : List Value) (h : VG) : ev 124 20 L (st) h = ev 124 21 L (.int (2 : Int32) :: st) h := G_iconst f124_20 (by decide)
theorem f124_21 : fetch 124 21 = some (.if_icmp .gt 12, 3) := vtab tk124 12 rfl
theorem e124_21 (L : VL) (st : List Value) (h : VG) (x y : Int32) : ev 124 21 L (.int y :: .int x :: st) h = if x ≤ y then ev 124 24 L st h else ev 124 33 L st h := G_icmp_gt f124_21 (by decide)
theorem f124_24 : fetch 124 24 = some (.aload_n 0, 1) := vtab tk124 13 rfl
theorem e124_24 (L : VL) (st : List Value) (h : VG) (x : Nat) : ev 124 24 (some (.ref x) :: L) (st) h = ev 124 25 (some (.ref x) :: L) (.ref x :: st) h := G_aload_n f124_24 rfl
theorem f124_25 : fetch 124 25 = some (.iload_n 1, 1) := vtab tk124 14 rfl
theorem e124_25 (l0 : Option Value) (L : VL) (st : List Value) (h : VG) (x : Int32) : ev 124 25 (l0 :: some (.int x) :: L) (st) h = ev 124 26 (l0 :: some (.int x) :: L) (.int x :: st) h := G_iload_n f124_25 rfl
theorem f124_26 : fetch 124 26 = some (.iload_n 2, 1) := vtab tk124 15 rfl
theorem e124_26 (l0 l1 : Option Value) (L : VL) (st : List Value) (h : VG) (x : Int32) : ev 124 26 (l0 :: l1 :: some (.int x) :: L) (st) h = ev 124 27 (l0 :: l1 :: some (.int x) :: L) (.int x :: st) h := G_iload_n f124_26 rfl
theorem f124_27 : fetch 124 27 = some (.invokevirtual 302, 3) := vtab tk124 16 rfl
theorem e124_27 (L : VL) (st : List Value) (h : VG) (b : Nat) (x0 : Int32) (x1 : Int32) (ho : ob h b 10) (hs : catS st ≤ 8) : ev 124 27 L (.int x1 :: .int x0 :: .ref b :: st) h = (ev 125 0 [some (.ref b), some (.int x0), some (.int x1), none, none, none, none, none, none] [] h).bind fun q => ev 124 30 L (q.1.toList ++ st) q.2 := G_callv (k := 1) (p := 919) (ars := [.int x0, .int x1]) f124_27 lkC_11_302 (by decide) (by decide +kernel) rfl (vcls_ob (ci := 10) (by decide) ho) (Nat.le_of_ble_eq_true rfl) hs rfl
theorem f124_30 : fetch 124 30 = some (.ifCond .ne 5, 3) := vtab tk124 17 rfl
theorem e124_30 (L : VL) (st : List Value) (h : VG) (x : Int32) : ev 124 30 L (.int x :: st) h = if x = 0 then ev 124 33 L st h else ev 124 35 L st h := G_if_ne f124_30 (by decide)
theorem f124_33 : fetch 124 33 = some (.iconst (-1), 1) := vtab tk124 18 rfl
theorem e124_33 (L : VL) (st : List Value) (h : VG) : ev 124 33 L (st) h = ev 124 34 L (.int (-1 : Int32) :: st) h := G_iconst f124_33 (by decide)
theorem f124_34 : fetch 124 34 = some (.ireturn, 1) := vtab tk124 19 rfl
theorem e124_34 (L : VL) (h : VG) (x : Int32) : ev 124 34 L [.int x] h = some (some (.int x), h) := G_iret f124_34 (ty := .int) (by decide) rfl
theorem f124_35 : fetch 124 35 = some (.iload_n 3, 1) := vtab tk124 20 rfl
theorem e124_35 (l0 l1 l2 : Option Value) (L : VL) (st : List Value) (h : VG) (x : Int32) : ev 124 35 (l0 :: l1 :: l2 :: some (.int x) :: L) (st) h = ev 124 36 (l0 :: l1 :: l2 :: some (.int x) :: L) (.int x :: st) h := G_iload_n f124_35 rfl
theorem f124_36 : fetch 124 36 = some (.lookupswitch 44 #[(0, 28), (1, 36)], 28) := vtab tk124 21 rfl
theorem e124_36 (L : VL) (st : List Value) (h : VG) (x : Int32) : ev 124 36 L (.int x :: st) h = if x = (0 : Int32) then ev 124 64 L st h else (if x = (1 : Int32) then ev 124 72 L st h else (ev 124 80 L st h)) := (G_lsw f124_36 (by decide) (by decide) (by decide)).trans rfl
theorem f124_64 : fetch 124 64 = some (.aload_n 0, 1) := vtab tk124 22 rfl
theorem e124_64 (L : VL) (st : List Value) (h : VG) (x : Nat) : ev 124 64 (some (.ref x) :: L) (st) h = ev 124 65 (some (.ref x) :: L) (.ref x :: st) h := G_aload_n f124_64 rfl
theorem f124_65 : fetch 124 65 = some (.getfield 56, 3) := vtab tk124 23 rfl
theorem e124_65 (L : VL) (st : List Value) (h : VG) (a : Nat) (ho : ob h a 10) (hr : isR h a 12) : ev 124 65 L (.ref a :: st) h = ev 124 68 L (.ref (gR h a 12) :: st) h := G_getR (p := 441) f124_65 lkF_11_56 (by decide) (by decide) ho hr
theorem f124_68 : fetch 124 68 = some (.getfield 306, 3) := vtab tk124 24 rfl
theorem e124_68 (L : VL) (st : List Value) (h : VG) (a : Nat) (ho : ob h a 2) : ev 124 68 L (.ref a :: st) h = ev 124 71 L (.int (gI h a 3) :: st) h := G_getI (p := 410) f124_68 lkF_11_306 (by decide) (by decide) ho
theorem f124_71 : fetch 124 71 = some (.ireturn, 1) := vtab tk124 25 rfl
theorem e124_71 (L : VL) (h : VG) (x : Int32) : ev 124 71 L [.int x] h = some (some (.int x), h) := G_iret f124_71 (ty := .int) (by decide) rfl
theorem f124_72 : fetch 124 72 = some (.aload_n 0, 1) := vtab tk124 26 rfl
theorem e124_72 (L : VL) (st : List Value) (h : VG) (x : Nat) : ev 124 72 (some (.ref x) :: L) (st) h = ev 124 73 (some (.ref x) :: L) (.ref x :: st) h := G_aload_n f124_72 rfl
theorem f124_73 : fetch 124 73 = some (.getfield 56, 3) := vtab tk124 27 rfl
theorem e124_73 (L : VL) (st : List Value) (h : VG) (a : Nat) (ho : ob h a 10) (hr : isR h a 12) : ev 124 73 L (.ref a :: st) h = ev 124 76 L (.ref (gR h a 12) :: st) h := G_getR (p := 441) f124_73 lkF_11_56 (by decide) (by decide) ho hr
theorem f124_76 : fetch 124 76 = some (.getfield 309, 3) := vtab tk124 28 rfl
theorem e124_76 (L : VL) (st : List Value) (h : VG) (a : Nat) (ho : ob h a 2) : ev 124 76 L (.ref a :: st) h = ev 124 79 L (.int (gI h a 4) :: st) h := G_getI (p := 412) f124_76 lkF_11_309 (by decide) (by decide) ho
theorem f124_79 : fetch 124 79 = some (.ireturn, 1) := vtab tk124 29 rfl
theorem e124_79 (L : VL) (h : VG) (x : Int32) : ev 124 79 L [.int x] h = some (some (.int x), h) := G_iret f124_79 (ty := .int) (by decide) rfl
theorem f124_80 : fetch 124 80 = some (.aload_n 0, 1) := vtab tk124 30 rfl
theorem e124_80 (L : VL) (st : List Value) (h : VG) (x : Nat) : ev 124 80 (some (.ref x) :: L) (st) h = ev 124 81 (some (.ref x) :: L) (.ref x :: st) h := G_aload_n f124_80 rfl
theorem f124_81 : fetch 124 81 = some (.getfield 56, 3) := vtab tk124 31 rfl
theorem e124_81 (L : VL) (st : List Value) (h : VG) (a : Nat) (ho : ob h a 10) (hr : isR h a 12) : ev 124 81 L (.ref a :: st) h = ev 124 84 L (.ref (gR h a 12) :: st) h := G_getR (p := 441) f124_81 lkF_11_56 (by decide) (by decide) ho hr
theorem f124_84 : fetch 124 84 = some (.getfield 312, 3) := vtab tk124 32 rfl
theorem e124_84 (L : VL) (st : List Value) (h : VG) (a : Nat) (ho : ob h a 2) : ev 124 84 L (.ref a :: st) h = ev 124 87 L (.int (gI h a 5) :: st) h := G_getI (p := 414) f124_84 lkF_11_312 (by decide) (by decide) ho
theorem f124_87 : fetch 124 87 = some (.ireturn, 1) := vtab tk124 33 rfl
theorem e124_87 (L : VL) (h : VG) (x : Int32) : ev 124 87 L [.int x] h = some (some (.int x), h) := G_iret f124_87 (ty := .int) (by decide) rfl
/-! 125 GuestCalls.readBuffers(II)Z -/
def tb125 : List (Nat × Instr × Nat) := [(0, .aload_n 0, 1), (1, .getfield 37, 3), (4, .getfield 170, 3), (7, .astore_n 3, 1), (8, .aload_n 0, 1), (9, .getfield 56, 3), (12, .invokevirtual 315, 3), (15, .aload_n 0, 1), (16, .aload_n 3, 1), (17, .iload_n 1, 1), (18, .i2l, 1), (19, .iload_n 2, 1), (20, .bipush 8, 2), (22, .imul, 1), (23, .invokevirtual 176, 3), (26, .invokevirtual 180, 3), (29, .ifCond .eq 5, 3), (32, .iconst 0, 1), (33, .ireturn, 1), (34, .iconst 0, 1), (35, .istore 4, 2), (37, .iload 4, 2), (39, .iload_n 2, 1), (40, .if_icmp .ge 80, 3), (43, .iload_n 1, 1), (44, .iload 4, 2), (46, .bipush 8, 2), (48, .imul, 1), (49, .iadd, 1), (50, .istore 5, 2), (52, .aload_n 3, 1), (53, .iload 5, 2), (55, .bipush 9, 2), (57, .iconst 0, 1), (58, .invokevirtual 276, 3), (61, .lstore 6, 2), (63, .aload_n 3, 1), (64, .iload 5, 2), (66, .iconst 4, 1), (67, .iadd, 1), (68, .iconst 4, 1), (69, .iconst 0, 1), (70, .invokevirtual 276, 3), (73, .l2i, 1), (74, .istore 8, 2), (76, .aload_n 0, 1), (77, .iload 8, 2), (79, .ifCond .ge 8, 3), (82, .bipush 6, 2), (84, .goto 11, 3), (87, .aload_n 3, 1), (88, .lload 6, 2), (90, .iload 8, 2), (92, .invokevirtual 176, 3), (95, .invokevirtual 180, 3), (98, .ifCond .eq 5, 3), (101, .iconst 0, 1), (102, .ireturn, 1), (103, .aload_n 0, 1), (104, .getfield 56, 3), (107, .lload 6, 2), (109, .iload 8, 2), (111, .invokevirtual 317, 3), (114, .iinc 4 1, 3), (117, .goto (-80), 3), (120, .iconst 1, 1), (121, .ireturn, 1)]
theorem tk125 : tb125.all (fun q => decide (fetch 125 q.1 = some q.2)) = true := by decide +kernel
theorem f125_0 : fetch 125 0 = some (.aload_n 0, 1) := vtab tk125 0 rfl
theorem e125_0 (L : VL) (st : List Value) (h : VG) (x : Nat) : ev 125 0 (some (.ref x) :: L) (st) h = ev 125 1 (some (.ref x) :: L) (.ref x :: st) h := G_aload_n f125_0 rfl
theorem f125_1 : fetch 125 1 = some (.getfield 37, 3) := vtab tk125 1 rfl
theorem e125_1 (L : VL) (st : List Value) (h : VG) (a : Nat) (ho : ob h a 10) (hr : isR h a 6) : ev 125 1 L (.ref a :: st) h = ev 125 4 L (.ref (gR h a 6) :: st) h := G_getR (p := 435) f125_1 lkF_11_37 (by decide) (by decide) ho hr
theorem f125_4 : fetch 125 4 = some (.getfield 170, 3) := vtab tk125 2 rfl
theorem e125_4 (L : VL) (st : List Value) (h : VG) (a : Nat) (ho : ob h a 8) (hr : isR h a 0) : ev 125 4 L (.ref a :: st) h = ev 125 7 L (.ref (gR h a 0) :: st) h := G_getR (p := 383) f125_4 lkF_11_170 (by decide) (by decide) ho hr
theorem f125_7 : fetch 125 7 = some (.astore_n 3, 1) := vtab tk125 3 rfl
theorem e125_7 (l0 l1 l2 l3 : Option Value) (L : VL) (st : List Value) (h : VG) (x : Nat) : ev 125 7 (l0 :: l1 :: l2 :: l3 :: L) (.ref x :: st) h = ev 125 8 (l0 :: l1 :: vkk l2 :: some (.ref x) :: L) (st) h := G_astore_n f125_7 rfl (S1_3 l0 l1 l2 l3 L _)
theorem f125_8 : fetch 125 8 = some (.aload_n 0, 1) := vtab tk125 4 rfl
theorem e125_8 (L : VL) (st : List Value) (h : VG) (x : Nat) : ev 125 8 (some (.ref x) :: L) (st) h = ev 125 9 (some (.ref x) :: L) (.ref x :: st) h := G_aload_n f125_8 rfl
theorem f125_9 : fetch 125 9 = some (.getfield 56, 3) := vtab tk125 5 rfl
theorem e125_9 (L : VL) (st : List Value) (h : VG) (a : Nat) (ho : ob h a 10) (hr : isR h a 12) : ev 125 9 L (.ref a :: st) h = ev 125 12 L (.ref (gR h a 12) :: st) h := G_getR (p := 441) f125_9 lkF_11_56 (by decide) (by decide) ho hr
theorem f125_12 : fetch 125 12 = some (.invokevirtual 315, 3) := vtab tk125 6 rfl
theorem e125_12 (L : VL) (st : List Value) (h : VG) (b : Nat)  (ho : ob h b 2) (hs : catS st ≤ 8) : ev 125 12 L (.ref b :: st) h = (ev 22 0 [some (.ref b)] [] h).bind fun q => ev 125 15 L (q.1.toList ++ st) q.2 := G_callv (k := 1) (p := 923) (ars := []) f125_12 lkC_11_315 (by decide) (by decide +kernel) rfl (vcls_ob (ci := 2) (by decide) ho) (Nat.le_of_ble_eq_true rfl) hs rfl
theorem f125_15 : fetch 125 15 = some (.aload_n 0, 1) := vtab tk125 7 rfl
theorem e125_15 (L : VL) (st : List Value) (h : VG) (x : Nat) : ev 125 15 (some (.ref x) :: L) (st) h = ev 125 16 (some (.ref x) :: L) (.ref x :: st) h := G_aload_n f125_15 rfl
theorem f125_16 : fetch 125 16 = some (.aload_n 3, 1) := vtab tk125 8 rfl
theorem e125_16 (l0 l1 l2 : Option Value) (L : VL) (st : List Value) (h : VG) (x : Nat) : ev 125 16 (l0 :: l1 :: l2 :: some (.ref x) :: L) (st) h = ev 125 17 (l0 :: l1 :: l2 :: some (.ref x) :: L) (.ref x :: st) h := G_aload_n f125_16 rfl
theorem f125_17 : fetch 125 17 = some (.iload_n 1, 1) := vtab tk125 9 rfl
theorem e125_17 (l0 : Option Value) (L : VL) (st : List Value) (h : VG) (x : Int32) : ev 125 17 (l0 :: some (.int x) :: L) (st) h = ev 125 18 (l0 :: some (.int x) :: L) (.int x :: st) h := G_iload_n f125_17 rfl
theorem f125_18 : fetch 125 18 = some (.i2l, 1) := vtab tk125 10 rfl
theorem e125_18 (L : VL) (st : List Value) (h : VG) (x : Int32) : ev 125 18 L (.int x :: st) h = ev 125 19 L (.long x.toInt64 :: st) h := G_i2l f125_18
theorem f125_19 : fetch 125 19 = some (.iload_n 2, 1) := vtab tk125 11 rfl
theorem e125_19 (l0 l1 : Option Value) (L : VL) (st : List Value) (h : VG) (x : Int32) : ev 125 19 (l0 :: l1 :: some (.int x) :: L) (st) h = ev 125 20 (l0 :: l1 :: some (.int x) :: L) (.int x :: st) h := G_iload_n f125_19 rfl
theorem f125_20 : fetch 125 20 = some (.bipush 8, 2) := vtab tk125 12 rfl
theorem e125_20 (L : VL) (st : List Value) (h : VG) : ev 125 20 L (st) h = ev 125 22 L (.int (8 : Int32) :: st) h := G_bipush f125_20 (by decide)
theorem f125_22 : fetch 125 22 = some (.imul, 1) := vtab tk125 13 rfl
theorem e125_22 (L : VL) (st : List Value) (h : VG) (x y : Int32) : ev 125 22 L (.int y :: .int x :: st) h = ev 125 23 L (.int (x * y) :: st) h := G_imul f125_22
theorem f125_23 : fetch 125 23 = some (.invokevirtual 176, 3) := vtab tk125 14 rfl
theorem e125_23 (L : VL) (st : List Value) (h : VG) (b : Nat) (x0 : Int64) (x1 : Int32) (ho : ob h b 5) (hs : catS st ≤ 8) : ev 125 23 L (.int x1 :: .long x0 :: .ref b :: st) h = (ev 54 0 [some (.ref b), some (.long x0), none, some (.int x1)] [] h).bind fun q => ev 125 26 L (q.1.toList ++ st) q.2 := G_callv (k := 1) (p := 688) (ars := [.long x0, .int x1]) f125_23 lkC_11_176 (by decide) (by decide +kernel) rfl (vcls_ob (ci := 5) (by decide) ho) (Nat.le_of_ble_eq_true rfl) hs rfl
theorem f125_26 : fetch 125 26 = some (.invokevirtual 180, 3) := vtab tk125 15 rfl
theorem e125_26 (L : VL) (st : List Value) (h : VG) (b : Nat) (x0 : Int32) (ho : ob h b 10) (hs : catS st ≤ 8) : ev 125 26 L (.int x0 :: .ref b :: st) h = (ev 100 0 [some (.ref b), some (.int x0)] [] h).bind fun q => ev 125 29 L (q.1.toList ++ st) q.2 := G_callv (k := 1) (p := 692) (ars := [.int x0]) f125_26 lkC_11_180 (by decide) (by decide +kernel) rfl (vcls_ob (ci := 10) (by decide) ho) (Nat.le_of_ble_eq_true rfl) hs rfl
theorem f125_29 : fetch 125 29 = some (.ifCond .eq 5, 3) := vtab tk125 16 rfl
theorem e125_29 (L : VL) (st : List Value) (h : VG) (x : Int32) : ev 125 29 L (.int x :: st) h = if x = 0 then ev 125 34 L st h else ev 125 32 L st h := G_if_eq f125_29 (by decide)
theorem f125_32 : fetch 125 32 = some (.iconst 0, 1) := vtab tk125 17 rfl
theorem e125_32 (L : VL) (st : List Value) (h : VG) : ev 125 32 L (st) h = ev 125 33 L (.int (0 : Int32) :: st) h := G_iconst f125_32 (by decide)
theorem f125_33 : fetch 125 33 = some (.ireturn, 1) := vtab tk125 18 rfl
theorem e125_33 (L : VL) (h : VG) (x : Int32) (hz : x = 0 ∨ x = 1) : ev 125 33 L [.int x] h = some (some (.int x), h) := G_iret f125_33 (ty := .boolean) (by decide) (vbool hz).1
theorem f125_34 : fetch 125 34 = some (.iconst 0, 1) := vtab tk125 19 rfl
theorem e125_34 (L : VL) (st : List Value) (h : VG) : ev 125 34 L (st) h = ev 125 35 L (.int (0 : Int32) :: st) h := G_iconst f125_34 (by decide)
theorem f125_35 : fetch 125 35 = some (.istore 4, 2) := vtab tk125 20 rfl
theorem e125_35 (l0 l1 l2 l3 l4 : Option Value) (L : VL) (st : List Value) (h : VG) (x : Int32) : ev 125 35 (l0 :: l1 :: l2 :: l3 :: l4 :: L) (.int x :: st) h = ev 125 37 (l0 :: l1 :: l2 :: vkk l3 :: some (.int x) :: L) (st) h := G_istore f125_35 rfl (S1_4 l0 l1 l2 l3 l4 L _)
theorem f125_37 : fetch 125 37 = some (.iload 4, 2) := vtab tk125 21 rfl
theorem e125_37 (l0 l1 l2 l3 : Option Value) (L : VL) (st : List Value) (h : VG) (x : Int32) : ev 125 37 (l0 :: l1 :: l2 :: l3 :: some (.int x) :: L) (st) h = ev 125 39 (l0 :: l1 :: l2 :: l3 :: some (.int x) :: L) (.int x :: st) h := G_iload f125_37 rfl
theorem f125_39 : fetch 125 39 = some (.iload_n 2, 1) := vtab tk125 22 rfl
theorem e125_39 (l0 l1 : Option Value) (L : VL) (st : List Value) (h : VG) (x : Int32) : ev 125 39 (l0 :: l1 :: some (.int x) :: L) (st) h = ev 125 40 (l0 :: l1 :: some (.int x) :: L) (.int x :: st) h := G_iload_n f125_39 rfl
theorem f125_40 : fetch 125 40 = some (.if_icmp .ge 80, 3) := vtab tk125 23 rfl
theorem e125_40 (L : VL) (st : List Value) (h : VG) (x y : Int32) : ev 125 40 L (.int y :: .int x :: st) h = if x < y then ev 125 43 L st h else ev 125 120 L st h := G_icmp_ge f125_40 (by decide)
theorem f125_43 : fetch 125 43 = some (.iload_n 1, 1) := vtab tk125 24 rfl
theorem e125_43 (l0 : Option Value) (L : VL) (st : List Value) (h : VG) (x : Int32) : ev 125 43 (l0 :: some (.int x) :: L) (st) h = ev 125 44 (l0 :: some (.int x) :: L) (.int x :: st) h := G_iload_n f125_43 rfl
theorem f125_44 : fetch 125 44 = some (.iload 4, 2) := vtab tk125 25 rfl
theorem e125_44 (l0 l1 l2 l3 : Option Value) (L : VL) (st : List Value) (h : VG) (x : Int32) : ev 125 44 (l0 :: l1 :: l2 :: l3 :: some (.int x) :: L) (st) h = ev 125 46 (l0 :: l1 :: l2 :: l3 :: some (.int x) :: L) (.int x :: st) h := G_iload f125_44 rfl
theorem f125_46 : fetch 125 46 = some (.bipush 8, 2) := vtab tk125 26 rfl
theorem e125_46 (L : VL) (st : List Value) (h : VG) : ev 125 46 L (st) h = ev 125 48 L (.int (8 : Int32) :: st) h := G_bipush f125_46 (by decide)
theorem f125_48 : fetch 125 48 = some (.imul, 1) := vtab tk125 27 rfl
theorem e125_48 (L : VL) (st : List Value) (h : VG) (x y : Int32) : ev 125 48 L (.int y :: .int x :: st) h = ev 125 49 L (.int (x * y) :: st) h := G_imul f125_48
theorem f125_49 : fetch 125 49 = some (.iadd, 1) := vtab tk125 28 rfl
theorem e125_49 (L : VL) (st : List Value) (h : VG) (x y : Int32) : ev 125 49 L (.int y :: .int x :: st) h = ev 125 50 L (.int (x + y) :: st) h := G_iadd f125_49
theorem f125_50 : fetch 125 50 = some (.istore 5, 2) := vtab tk125 29 rfl
theorem e125_50 (l0 l1 l2 l3 l4 l5 : Option Value) (L : VL) (st : List Value) (h : VG) (x : Int32) : ev 125 50 (l0 :: l1 :: l2 :: l3 :: l4 :: l5 :: L) (.int x :: st) h = ev 125 52 (l0 :: l1 :: l2 :: l3 :: vkk l4 :: some (.int x) :: L) (st) h := G_istore f125_50 rfl (S1_5 l0 l1 l2 l3 l4 l5 L _)
theorem f125_52 : fetch 125 52 = some (.aload_n 3, 1) := vtab tk125 30 rfl
theorem e125_52 (l0 l1 l2 : Option Value) (L : VL) (st : List Value) (h : VG) (x : Nat) : ev 125 52 (l0 :: l1 :: l2 :: some (.ref x) :: L) (st) h = ev 125 53 (l0 :: l1 :: l2 :: some (.ref x) :: L) (.ref x :: st) h := G_aload_n f125_52 rfl
theorem f125_53 : fetch 125 53 = some (.iload 5, 2) := vtab tk125 31 rfl
theorem e125_53 (l0 l1 l2 l3 l4 : Option Value) (L : VL) (st : List Value) (h : VG) (x : Int32) : ev 125 53 (l0 :: l1 :: l2 :: l3 :: l4 :: some (.int x) :: L) (st) h = ev 125 55 (l0 :: l1 :: l2 :: l3 :: l4 :: some (.int x) :: L) (.int x :: st) h := G_iload f125_53 rfl
theorem f125_55 : fetch 125 55 = some (.bipush 9, 2) := vtab tk125 32 rfl
theorem e125_55 (L : VL) (st : List Value) (h : VG) : ev 125 55 L (st) h = ev 125 57 L (.int (9 : Int32) :: st) h := G_bipush f125_55 (by decide)
theorem f125_57 : fetch 125 57 = some (.iconst 0, 1) := vtab tk125 33 rfl
theorem e125_57 (L : VL) (st : List Value) (h : VG) : ev 125 57 L (st) h = ev 125 58 L (.int (0 : Int32) :: st) h := G_iconst f125_57 (by decide)
theorem f125_58 : fetch 125 58 = some (.invokevirtual 276, 3) := vtab tk125 34 rfl
theorem e125_58 (L : VL) (st : List Value) (h : VG) (b : Nat) (x0 : Int32) (x1 : Int32) (x2 : Int32) (ho : ob h b 5) (hs : catS st ≤ 8) : ev 125 58 L (.int x2 :: .int x1 :: .int x0 :: .ref b :: st) h = (ev 56 0 [some (.ref b), some (.int x0), some (.int x1), some (.int x2), none, none, none, none, none] [] h).bind fun q => ev 125 61 L (q.1.toList ++ st) q.2 := G_callv (k := 1) (p := 868) (ars := [.int x0, .int x1, .int x2]) f125_58 lkC_11_276 (by decide) (by decide +kernel) rfl (vcls_ob (ci := 5) (by decide) ho) (Nat.le_of_ble_eq_true rfl) hs rfl
theorem f125_61 : fetch 125 61 = some (.lstore 6, 2) := vtab tk125 35 rfl
theorem e125_61 (l0 l1 l2 l3 l4 l5 l6 l7 : Option Value) (L : VL) (st : List Value) (h : VG) (x : Int64) : ev 125 61 (l0 :: l1 :: l2 :: l3 :: l4 :: l5 :: l6 :: l7 :: L) (.long x :: st) h = ev 125 63 (l0 :: l1 :: l2 :: l3 :: l4 :: vkk l5 :: some (.long x) :: none :: L) (st) h := G_lstore f125_61 rfl (S2_6 l0 l1 l2 l3 l4 l5 l6 l7 L _)
theorem f125_63 : fetch 125 63 = some (.aload_n 3, 1) := vtab tk125 36 rfl
theorem e125_63 (l0 l1 l2 : Option Value) (L : VL) (st : List Value) (h : VG) (x : Nat) : ev 125 63 (l0 :: l1 :: l2 :: some (.ref x) :: L) (st) h = ev 125 64 (l0 :: l1 :: l2 :: some (.ref x) :: L) (.ref x :: st) h := G_aload_n f125_63 rfl
theorem f125_64 : fetch 125 64 = some (.iload 5, 2) := vtab tk125 37 rfl
theorem e125_64 (l0 l1 l2 l3 l4 : Option Value) (L : VL) (st : List Value) (h : VG) (x : Int32) : ev 125 64 (l0 :: l1 :: l2 :: l3 :: l4 :: some (.int x) :: L) (st) h = ev 125 66 (l0 :: l1 :: l2 :: l3 :: l4 :: some (.int x) :: L) (.int x :: st) h := G_iload f125_64 rfl
theorem f125_66 : fetch 125 66 = some (.iconst 4, 1) := vtab tk125 38 rfl
theorem e125_66 (L : VL) (st : List Value) (h : VG) : ev 125 66 L (st) h = ev 125 67 L (.int (4 : Int32) :: st) h := G_iconst f125_66 (by decide)
theorem f125_67 : fetch 125 67 = some (.iadd, 1) := vtab tk125 39 rfl
theorem e125_67 (L : VL) (st : List Value) (h : VG) (x y : Int32) : ev 125 67 L (.int y :: .int x :: st) h = ev 125 68 L (.int (x + y) :: st) h := G_iadd f125_67
theorem f125_68 : fetch 125 68 = some (.iconst 4, 1) := vtab tk125 40 rfl
theorem e125_68 (L : VL) (st : List Value) (h : VG) : ev 125 68 L (st) h = ev 125 69 L (.int (4 : Int32) :: st) h := G_iconst f125_68 (by decide)
theorem f125_69 : fetch 125 69 = some (.iconst 0, 1) := vtab tk125 41 rfl
theorem e125_69 (L : VL) (st : List Value) (h : VG) : ev 125 69 L (st) h = ev 125 70 L (.int (0 : Int32) :: st) h := G_iconst f125_69 (by decide)
theorem f125_70 : fetch 125 70 = some (.invokevirtual 276, 3) := vtab tk125 42 rfl
theorem e125_70 (L : VL) (st : List Value) (h : VG) (b : Nat) (x0 : Int32) (x1 : Int32) (x2 : Int32) (ho : ob h b 5) (hs : catS st ≤ 8) : ev 125 70 L (.int x2 :: .int x1 :: .int x0 :: .ref b :: st) h = (ev 56 0 [some (.ref b), some (.int x0), some (.int x1), some (.int x2), none, none, none, none, none] [] h).bind fun q => ev 125 73 L (q.1.toList ++ st) q.2 := G_callv (k := 1) (p := 868) (ars := [.int x0, .int x1, .int x2]) f125_70 lkC_11_276 (by decide) (by decide +kernel) rfl (vcls_ob (ci := 5) (by decide) ho) (Nat.le_of_ble_eq_true rfl) hs rfl
theorem f125_73 : fetch 125 73 = some (.l2i, 1) := vtab tk125 43 rfl
theorem e125_73 (L : VL) (st : List Value) (h : VG) (x : Int64) : ev 125 73 L (.long x :: st) h = ev 125 74 L (.int x.toInt32 :: st) h := G_l2i f125_73
theorem f125_74 : fetch 125 74 = some (.istore 8, 2) := vtab tk125 44 rfl
theorem e125_74 (l0 l1 l2 l3 l4 l5 l6 l7 l8 : Option Value) (L : VL) (st : List Value) (h : VG) (x : Int32) : ev 125 74 (l0 :: l1 :: l2 :: l3 :: l4 :: l5 :: l6 :: l7 :: l8 :: L) (.int x :: st) h = ev 125 76 (l0 :: l1 :: l2 :: l3 :: l4 :: l5 :: l6 :: vkk l7 :: some (.int x) :: L) (st) h := G_istore f125_74 rfl (S1_8 l0 l1 l2 l3 l4 l5 l6 l7 l8 L _)
theorem f125_76 : fetch 125 76 = some (.aload_n 0, 1) := vtab tk125 45 rfl
theorem e125_76 (L : VL) (st : List Value) (h : VG) (x : Nat) : ev 125 76 (some (.ref x) :: L) (st) h = ev 125 77 (some (.ref x) :: L) (.ref x :: st) h := G_aload_n f125_76 rfl
theorem f125_77 : fetch 125 77 = some (.iload 8, 2) := vtab tk125 46 rfl
theorem e125_77 (l0 l1 l2 l3 l4 l5 l6 l7 : Option Value) (L : VL) (st : List Value) (h : VG) (x : Int32) : ev 125 77 (l0 :: l1 :: l2 :: l3 :: l4 :: l5 :: l6 :: l7 :: some (.int x) :: L) (st) h = ev 125 79 (l0 :: l1 :: l2 :: l3 :: l4 :: l5 :: l6 :: l7 :: some (.int x) :: L) (.int x :: st) h := G_iload f125_77 rfl
theorem f125_79 : fetch 125 79 = some (.ifCond .ge 8, 3) := vtab tk125 47 rfl
theorem e125_79 (L : VL) (st : List Value) (h : VG) (x : Int32) : ev 125 79 L (.int x :: st) h = if x < 0 then ev 125 82 L st h else ev 125 87 L st h := G_if_ge f125_79 (by decide)
theorem f125_82 : fetch 125 82 = some (.bipush 6, 2) := vtab tk125 48 rfl
theorem e125_82 (L : VL) (st : List Value) (h : VG) : ev 125 82 L (st) h = ev 125 84 L (.int (6 : Int32) :: st) h := G_bipush f125_82 (by decide)
theorem f125_84 : fetch 125 84 = some (.goto 11, 3) := vtab tk125 49 rfl
theorem e125_84 (L : VL) (st : List Value) (h : VG) : ev 125 84 L (st) h = ev 125 95 L (st) h := G_goto f125_84 (by decide)
theorem f125_87 : fetch 125 87 = some (.aload_n 3, 1) := vtab tk125 50 rfl
theorem e125_87 (l0 l1 l2 : Option Value) (L : VL) (st : List Value) (h : VG) (x : Nat) : ev 125 87 (l0 :: l1 :: l2 :: some (.ref x) :: L) (st) h = ev 125 88 (l0 :: l1 :: l2 :: some (.ref x) :: L) (.ref x :: st) h := G_aload_n f125_87 rfl
theorem f125_88 : fetch 125 88 = some (.lload 6, 2) := vtab tk125 51 rfl
theorem e125_88 (l0 l1 l2 l3 l4 l5 : Option Value) (L : VL) (st : List Value) (h : VG) (x : Int64) : ev 125 88 (l0 :: l1 :: l2 :: l3 :: l4 :: l5 :: some (.long x) :: L) (st) h = ev 125 90 (l0 :: l1 :: l2 :: l3 :: l4 :: l5 :: some (.long x) :: L) (.long x :: st) h := G_lload f125_88 rfl
theorem f125_90 : fetch 125 90 = some (.iload 8, 2) := vtab tk125 52 rfl
theorem e125_90 (l0 l1 l2 l3 l4 l5 l6 l7 : Option Value) (L : VL) (st : List Value) (h : VG) (x : Int32) : ev 125 90 (l0 :: l1 :: l2 :: l3 :: l4 :: l5 :: l6 :: l7 :: some (.int x) :: L) (st) h = ev 125 92 (l0 :: l1 :: l2 :: l3 :: l4 :: l5 :: l6 :: l7 :: some (.int x) :: L) (.int x :: st) h := G_iload f125_90 rfl
theorem f125_92 : fetch 125 92 = some (.invokevirtual 176, 3) := vtab tk125 53 rfl
theorem e125_92 (L : VL) (st : List Value) (h : VG) (b : Nat) (x0 : Int64) (x1 : Int32) (ho : ob h b 5) (hs : catS st ≤ 8) : ev 125 92 L (.int x1 :: .long x0 :: .ref b :: st) h = (ev 54 0 [some (.ref b), some (.long x0), none, some (.int x1)] [] h).bind fun q => ev 125 95 L (q.1.toList ++ st) q.2 := G_callv (k := 1) (p := 688) (ars := [.long x0, .int x1]) f125_92 lkC_11_176 (by decide) (by decide +kernel) rfl (vcls_ob (ci := 5) (by decide) ho) (Nat.le_of_ble_eq_true rfl) hs rfl
theorem f125_95 : fetch 125 95 = some (.invokevirtual 180, 3) := vtab tk125 54 rfl
theorem e125_95 (L : VL) (st : List Value) (h : VG) (b : Nat) (x0 : Int32) (ho : ob h b 10) (hs : catS st ≤ 8) : ev 125 95 L (.int x0 :: .ref b :: st) h = (ev 100 0 [some (.ref b), some (.int x0)] [] h).bind fun q => ev 125 98 L (q.1.toList ++ st) q.2 := G_callv (k := 1) (p := 692) (ars := [.int x0]) f125_95 lkC_11_180 (by decide) (by decide +kernel) rfl (vcls_ob (ci := 10) (by decide) ho) (Nat.le_of_ble_eq_true rfl) hs rfl
theorem f125_98 : fetch 125 98 = some (.ifCond .eq 5, 3) := vtab tk125 55 rfl
theorem e125_98 (L : VL) (st : List Value) (h : VG) (x : Int32) : ev 125 98 L (.int x :: st) h = if x = 0 then ev 125 103 L st h else ev 125 101 L st h := G_if_eq f125_98 (by decide)
theorem f125_101 : fetch 125 101 = some (.iconst 0, 1) := vtab tk125 56 rfl
theorem e125_101 (L : VL) (st : List Value) (h : VG) : ev 125 101 L (st) h = ev 125 102 L (.int (0 : Int32) :: st) h := G_iconst f125_101 (by decide)
theorem f125_102 : fetch 125 102 = some (.ireturn, 1) := vtab tk125 57 rfl
theorem e125_102 (L : VL) (h : VG) (x : Int32) (hz : x = 0 ∨ x = 1) : ev 125 102 L [.int x] h = some (some (.int x), h) := G_iret f125_102 (ty := .boolean) (by decide) (vbool hz).1
theorem f125_103 : fetch 125 103 = some (.aload_n 0, 1) := vtab tk125 58 rfl
theorem e125_103 (L : VL) (st : List Value) (h : VG) (x : Nat) : ev 125 103 (some (.ref x) :: L) (st) h = ev 125 104 (some (.ref x) :: L) (.ref x :: st) h := G_aload_n f125_103 rfl
theorem f125_104 : fetch 125 104 = some (.getfield 56, 3) := vtab tk125 59 rfl
theorem e125_104 (L : VL) (st : List Value) (h : VG) (a : Nat) (ho : ob h a 10) (hr : isR h a 12) : ev 125 104 L (.ref a :: st) h = ev 125 107 L (.ref (gR h a 12) :: st) h := G_getR (p := 441) f125_104 lkF_11_56 (by decide) (by decide) ho hr
theorem f125_107 : fetch 125 107 = some (.lload 6, 2) := vtab tk125 60 rfl
theorem e125_107 (l0 l1 l2 l3 l4 l5 : Option Value) (L : VL) (st : List Value) (h : VG) (x : Int64) : ev 125 107 (l0 :: l1 :: l2 :: l3 :: l4 :: l5 :: some (.long x) :: L) (st) h = ev 125 109 (l0 :: l1 :: l2 :: l3 :: l4 :: l5 :: some (.long x) :: L) (.long x :: st) h := G_lload f125_107 rfl
theorem f125_109 : fetch 125 109 = some (.iload 8, 2) := vtab tk125 61 rfl
theorem e125_109 (l0 l1 l2 l3 l4 l5 l6 l7 : Option Value) (L : VL) (st : List Value) (h : VG) (x : Int32) : ev 125 109 (l0 :: l1 :: l2 :: l3 :: l4 :: l5 :: l6 :: l7 :: some (.int x) :: L) (st) h = ev 125 111 (l0 :: l1 :: l2 :: l3 :: l4 :: l5 :: l6 :: l7 :: some (.int x) :: L) (.int x :: st) h := G_iload f125_109 rfl
theorem f125_111 : fetch 125 111 = some (.invokevirtual 317, 3) := vtab tk125 62 rfl
theorem e125_111 (L : VL) (st : List Value) (h : VG) (b : Nat) (x0 : Int64) (x1 : Int32) (ho : ob h b 2) (hs : catS st ≤ 8) : ev 125 111 L (.int x1 :: .long x0 :: .ref b :: st) h = (ev 23 0 [some (.ref b), some (.long x0), none, some (.int x1)] [] h).bind fun q => ev 125 114 L (q.1.toList ++ st) q.2 := G_callv (k := 1) (p := 927) (ars := [.long x0, .int x1]) f125_111 lkC_11_317 (by decide) (by decide +kernel) rfl (vcls_ob (ci := 2) (by decide) ho) (Nat.le_of_ble_eq_true rfl) hs rfl
theorem f125_114 : fetch 125 114 = some (.iinc 4 1, 3) := vtab tk125 63 rfl
theorem e125_114 (l0 l1 l2 l3 : Option Value) (L : VL) (st : List Value) (h : VG) (x : Int32) : ev 125 114 (l0 :: l1 :: l2 :: l3 :: some (.int x) :: L) (st) h = ev 125 117 (l0 :: l1 :: l2 :: vkk l3 :: some (.int (x + (1 : Int32))) :: L) (st) h := G_iinc f125_114 rfl (by decide) (S1_4 l0 l1 l2 l3 (some (.int x)) L _)
theorem f125_117 : fetch 125 117 = some (.goto (-80), 3) := vtab tk125 64 rfl
theorem e125_117 (L : VL) (st : List Value) (h : VG) : ev 125 117 L (st) h = ev 125 37 L (st) h := G_goto f125_117 (by decide)
theorem f125_120 : fetch 125 120 = some (.iconst 1, 1) := vtab tk125 65 rfl
theorem e125_120 (L : VL) (st : List Value) (h : VG) : ev 125 120 L (st) h = ev 125 121 L (.int (1 : Int32) :: st) h := G_iconst f125_120 (by decide)
theorem f125_121 : fetch 125 121 = some (.ireturn, 1) := vtab tk125 66 rfl
theorem e125_121 (L : VL) (h : VG) (x : Int32) (hz : x = 0 ∨ x = 1) : ev 125 121 L [.int x] h = some (some (.int x), h) := G_iret f125_121 (ty := .boolean) (by decide) (vbool hz).1
/-! 126 GuestCalls.move(IIIZ)I -/
def tb126 : List (Nat × Instr × Nat) := [(0, .aload_n 0, 1), (1, .iconst 0, 1), (2, .putfield 86, 3), (5, .iload_n 2, 1), (6, .ifCond .lt 18, 3), (9, .iload_n 2, 1), (10, .bipush 8, 2), (12, .if_icmp .gt 12, 3), (15, .aload_n 0, 1), (16, .iload_n 1, 1), (17, .iload_n 2, 1), (18, .invokevirtual 302, 3), (21, .ifCond .ne 5, 3), (24, .iconst (-1), 1), (25, .ireturn, 1), (26, .aload_n 0, 1), (27, .aload_n 0, 1), (28, .getfield 37, 3), (31, .getfield 170, 3), (34, .iload_n 3, 1), (35, .i2l, 1), (36, .aload_n 0, 1), (37, .getfield 56, 3), (40, .getfield 306, 3), (43, .invokevirtual 176, 3), (46, .invokevirtual 180, 3), (49, .ifCond .eq 5, 3), (52, .iconst (-1), 1), (53, .ireturn, 1), (54, .aload_n 0, 1), (55, .getfield 56, 3), (58, .getfield 306, 3), (61, .ifCond .le 105, 3), (64, .iload 4, 2), (66, .ifCond .eq 53, 3), (69, .aload_n 0, 1), (70, .getfield 56, 3), (73, .aload_n 0, 1), (74, .getfield 37, 3), (77, .getfield 170, 3), (80, .getfield 171, 3), (83, .aload_n 0, 1), (84, .getfield 60, 3), (87, .invokevirtual 321, 3), (90, .aload_n 0, 1), (91, .getfield 60, 3), (94, .iconst 0, 1), (95, .aload_n 0, 1), (96, .getfield 37, 3), (99, .getfield 170, 3), (102, .getfield 171, 3), (105, .iload_n 3, 1), (106, .aload_n 0, 1), (107, .getfield 56, 3), (110, .getfield 306, 3), (113, .invokestatic 325, 3), (116, .goto 50, 3), (119, .aload_n 0, 1), (120, .getfield 37, 3), (123, .getfield 170, 3), (126, .getfield 171, 3), (129, .iload_n 3, 1), (130, .aload_n 0, 1), (131, .getfield 60, 3), (134, .iconst 0, 1), (135, .aload_n 0, 1), (136, .getfield 56, 3), (139, .getfield 306, 3), (142, .invokestatic 325, 3), (145, .aload_n 0, 1), (146, .getfield 56, 3), (149, .aload_n 0, 1), (150, .getfield 60, 3), (153, .aload_n 0, 1), (154, .getfield 37, 3), (157, .getfield 170, 3), (160, .getfield 171, 3), (163, .invokevirtual 331, 3), (166, .aload_n 0, 1), (167, .getfield 56, 3), (170, .getfield 306, 3), (173, .ireturn, 1)]
theorem tk126 : tb126.all (fun q => decide (fetch 126 q.1 = some q.2)) = true := by decide +kernel
theorem f126_0 : fetch 126 0 = some (.aload_n 0, 1) := vtab tk126 0 rfl
theorem e126_0 (L : VL) (st : List Value) (h : VG) (x : Nat) : ev 126 0 (some (.ref x) :: L) (st) h = ev 126 1 (some (.ref x) :: L) (.ref x :: st) h := G_aload_n f126_0 rfl
theorem f126_1 : fetch 126 1 = some (.iconst 0, 1) := vtab tk126 1 rfl
theorem e126_1 (L : VL) (st : List Value) (h : VG) : ev 126 1 L (st) h = ev 126 2 L (.int (0 : Int32) :: st) h := G_iconst f126_1 (by decide)
theorem f126_2 : fetch 126 2 = some (.putfield 86, 3) := vtab tk126 2 rfl
theorem e126_2 (L : VL) (st : List Value) (h : VG) (a : Nat) (x : Int32) (ho : ob h a 10) : ev 126 2 L (.int x :: .ref a :: st) h = ev 126 5 L (st) (pI h a 9 x) := G_putI (p := 438) f126_2 lkF_11_86 (by decide) (by decide) (by decide +kernel) ⟨rfl, rfl⟩ ho
theorem f126_5 : fetch 126 5 = some (.iload_n 2, 1) := vtab tk126 3 rfl
theorem e126_5 (l0 l1 : Option Value) (L : VL) (st : List Value) (h : VG) (x : Int32) : ev 126 5 (l0 :: l1 :: some (.int x) :: L) (st) h = ev 126 6 (l0 :: l1 :: some (.int x) :: L) (.int x :: st) h := G_iload_n f126_5 rfl
theorem f126_6 : fetch 126 6 = some (.ifCond .lt 18, 3) := vtab tk126 4 rfl
theorem e126_6 (L : VL) (st : List Value) (h : VG) (x : Int32) : ev 126 6 L (.int x :: st) h = if x < 0 then ev 126 24 L st h else ev 126 9 L st h := G_if_lt f126_6 (by decide)
theorem f126_9 : fetch 126 9 = some (.iload_n 2, 1) := vtab tk126 5 rfl
theorem e126_9 (l0 l1 : Option Value) (L : VL) (st : List Value) (h : VG) (x : Int32) : ev 126 9 (l0 :: l1 :: some (.int x) :: L) (st) h = ev 126 10 (l0 :: l1 :: some (.int x) :: L) (.int x :: st) h := G_iload_n f126_9 rfl
theorem f126_10 : fetch 126 10 = some (.bipush 8, 2) := vtab tk126 6 rfl
theorem e126_10 (L : VL) (st : List Value) (h : VG) : ev 126 10 L (st) h = ev 126 12 L (.int (8 : Int32) :: st) h := G_bipush f126_10 (by decide)
theorem f126_12 : fetch 126 12 = some (.if_icmp .gt 12, 3) := vtab tk126 7 rfl
theorem e126_12 (L : VL) (st : List Value) (h : VG) (x y : Int32) : ev 126 12 L (.int y :: .int x :: st) h = if x ≤ y then ev 126 15 L st h else ev 126 24 L st h := G_icmp_gt f126_12 (by decide)
theorem f126_15 : fetch 126 15 = some (.aload_n 0, 1) := vtab tk126 8 rfl
theorem e126_15 (L : VL) (st : List Value) (h : VG) (x : Nat) : ev 126 15 (some (.ref x) :: L) (st) h = ev 126 16 (some (.ref x) :: L) (.ref x :: st) h := G_aload_n f126_15 rfl
theorem f126_16 : fetch 126 16 = some (.iload_n 1, 1) := vtab tk126 9 rfl
theorem e126_16 (l0 : Option Value) (L : VL) (st : List Value) (h : VG) (x : Int32) : ev 126 16 (l0 :: some (.int x) :: L) (st) h = ev 126 17 (l0 :: some (.int x) :: L) (.int x :: st) h := G_iload_n f126_16 rfl
theorem f126_17 : fetch 126 17 = some (.iload_n 2, 1) := vtab tk126 10 rfl
theorem e126_17 (l0 l1 : Option Value) (L : VL) (st : List Value) (h : VG) (x : Int32) : ev 126 17 (l0 :: l1 :: some (.int x) :: L) (st) h = ev 126 18 (l0 :: l1 :: some (.int x) :: L) (.int x :: st) h := G_iload_n f126_17 rfl
theorem f126_18 : fetch 126 18 = some (.invokevirtual 302, 3) := vtab tk126 11 rfl
theorem e126_18 (L : VL) (st : List Value) (h : VG) (b : Nat) (x0 : Int32) (x1 : Int32) (ho : ob h b 10) (hs : catS st ≤ 8) : ev 126 18 L (.int x1 :: .int x0 :: .ref b :: st) h = (ev 125 0 [some (.ref b), some (.int x0), some (.int x1), none, none, none, none, none, none] [] h).bind fun q => ev 126 21 L (q.1.toList ++ st) q.2 := G_callv (k := 1) (p := 919) (ars := [.int x0, .int x1]) f126_18 lkC_11_302 (by decide) (by decide +kernel) rfl (vcls_ob (ci := 10) (by decide) ho) (Nat.le_of_ble_eq_true rfl) hs rfl
theorem f126_21 : fetch 126 21 = some (.ifCond .ne 5, 3) := vtab tk126 12 rfl
theorem e126_21 (L : VL) (st : List Value) (h : VG) (x : Int32) : ev 126 21 L (.int x :: st) h = if x = 0 then ev 126 24 L st h else ev 126 26 L st h := G_if_ne f126_21 (by decide)
theorem f126_24 : fetch 126 24 = some (.iconst (-1), 1) := vtab tk126 13 rfl
theorem e126_24 (L : VL) (st : List Value) (h : VG) : ev 126 24 L (st) h = ev 126 25 L (.int (-1 : Int32) :: st) h := G_iconst f126_24 (by decide)
theorem f126_25 : fetch 126 25 = some (.ireturn, 1) := vtab tk126 14 rfl
theorem e126_25 (L : VL) (h : VG) (x : Int32) : ev 126 25 L [.int x] h = some (some (.int x), h) := G_iret f126_25 (ty := .int) (by decide) rfl
theorem f126_26 : fetch 126 26 = some (.aload_n 0, 1) := vtab tk126 15 rfl
theorem e126_26 (L : VL) (st : List Value) (h : VG) (x : Nat) : ev 126 26 (some (.ref x) :: L) (st) h = ev 126 27 (some (.ref x) :: L) (.ref x :: st) h := G_aload_n f126_26 rfl
theorem f126_27 : fetch 126 27 = some (.aload_n 0, 1) := vtab tk126 16 rfl
theorem e126_27 (L : VL) (st : List Value) (h : VG) (x : Nat) : ev 126 27 (some (.ref x) :: L) (st) h = ev 126 28 (some (.ref x) :: L) (.ref x :: st) h := G_aload_n f126_27 rfl
theorem f126_28 : fetch 126 28 = some (.getfield 37, 3) := vtab tk126 17 rfl
theorem e126_28 (L : VL) (st : List Value) (h : VG) (a : Nat) (ho : ob h a 10) (hr : isR h a 6) : ev 126 28 L (.ref a :: st) h = ev 126 31 L (.ref (gR h a 6) :: st) h := G_getR (p := 435) f126_28 lkF_11_37 (by decide) (by decide) ho hr
theorem f126_31 : fetch 126 31 = some (.getfield 170, 3) := vtab tk126 18 rfl
theorem e126_31 (L : VL) (st : List Value) (h : VG) (a : Nat) (ho : ob h a 8) (hr : isR h a 0) : ev 126 31 L (.ref a :: st) h = ev 126 34 L (.ref (gR h a 0) :: st) h := G_getR (p := 383) f126_31 lkF_11_170 (by decide) (by decide) ho hr
theorem f126_34 : fetch 126 34 = some (.iload_n 3, 1) := vtab tk126 19 rfl
theorem e126_34 (l0 l1 l2 : Option Value) (L : VL) (st : List Value) (h : VG) (x : Int32) : ev 126 34 (l0 :: l1 :: l2 :: some (.int x) :: L) (st) h = ev 126 35 (l0 :: l1 :: l2 :: some (.int x) :: L) (.int x :: st) h := G_iload_n f126_34 rfl
theorem f126_35 : fetch 126 35 = some (.i2l, 1) := vtab tk126 20 rfl
theorem e126_35 (L : VL) (st : List Value) (h : VG) (x : Int32) : ev 126 35 L (.int x :: st) h = ev 126 36 L (.long x.toInt64 :: st) h := G_i2l f126_35
theorem f126_36 : fetch 126 36 = some (.aload_n 0, 1) := vtab tk126 21 rfl
theorem e126_36 (L : VL) (st : List Value) (h : VG) (x : Nat) : ev 126 36 (some (.ref x) :: L) (st) h = ev 126 37 (some (.ref x) :: L) (.ref x :: st) h := G_aload_n f126_36 rfl
theorem f126_37 : fetch 126 37 = some (.getfield 56, 3) := vtab tk126 22 rfl
theorem e126_37 (L : VL) (st : List Value) (h : VG) (a : Nat) (ho : ob h a 10) (hr : isR h a 12) : ev 126 37 L (.ref a :: st) h = ev 126 40 L (.ref (gR h a 12) :: st) h := G_getR (p := 441) f126_37 lkF_11_56 (by decide) (by decide) ho hr
theorem f126_40 : fetch 126 40 = some (.getfield 306, 3) := vtab tk126 23 rfl
theorem e126_40 (L : VL) (st : List Value) (h : VG) (a : Nat) (ho : ob h a 2) : ev 126 40 L (.ref a :: st) h = ev 126 43 L (.int (gI h a 3) :: st) h := G_getI (p := 410) f126_40 lkF_11_306 (by decide) (by decide) ho
theorem f126_43 : fetch 126 43 = some (.invokevirtual 176, 3) := vtab tk126 24 rfl
theorem e126_43 (L : VL) (st : List Value) (h : VG) (b : Nat) (x0 : Int64) (x1 : Int32) (ho : ob h b 5) (hs : catS st ≤ 8) : ev 126 43 L (.int x1 :: .long x0 :: .ref b :: st) h = (ev 54 0 [some (.ref b), some (.long x0), none, some (.int x1)] [] h).bind fun q => ev 126 46 L (q.1.toList ++ st) q.2 := G_callv (k := 1) (p := 688) (ars := [.long x0, .int x1]) f126_43 lkC_11_176 (by decide) (by decide +kernel) rfl (vcls_ob (ci := 5) (by decide) ho) (Nat.le_of_ble_eq_true rfl) hs rfl
theorem f126_46 : fetch 126 46 = some (.invokevirtual 180, 3) := vtab tk126 25 rfl
theorem e126_46 (L : VL) (st : List Value) (h : VG) (b : Nat) (x0 : Int32) (ho : ob h b 10) (hs : catS st ≤ 8) : ev 126 46 L (.int x0 :: .ref b :: st) h = (ev 100 0 [some (.ref b), some (.int x0)] [] h).bind fun q => ev 126 49 L (q.1.toList ++ st) q.2 := G_callv (k := 1) (p := 692) (ars := [.int x0]) f126_46 lkC_11_180 (by decide) (by decide +kernel) rfl (vcls_ob (ci := 10) (by decide) ho) (Nat.le_of_ble_eq_true rfl) hs rfl
theorem f126_49 : fetch 126 49 = some (.ifCond .eq 5, 3) := vtab tk126 26 rfl
theorem e126_49 (L : VL) (st : List Value) (h : VG) (x : Int32) : ev 126 49 L (.int x :: st) h = if x = 0 then ev 126 54 L st h else ev 126 52 L st h := G_if_eq f126_49 (by decide)
theorem f126_52 : fetch 126 52 = some (.iconst (-1), 1) := vtab tk126 27 rfl
theorem e126_52 (L : VL) (st : List Value) (h : VG) : ev 126 52 L (st) h = ev 126 53 L (.int (-1 : Int32) :: st) h := G_iconst f126_52 (by decide)
theorem f126_53 : fetch 126 53 = some (.ireturn, 1) := vtab tk126 28 rfl
theorem e126_53 (L : VL) (h : VG) (x : Int32) : ev 126 53 L [.int x] h = some (some (.int x), h) := G_iret f126_53 (ty := .int) (by decide) rfl
theorem f126_54 : fetch 126 54 = some (.aload_n 0, 1) := vtab tk126 29 rfl
theorem e126_54 (L : VL) (st : List Value) (h : VG) (x : Nat) : ev 126 54 (some (.ref x) :: L) (st) h = ev 126 55 (some (.ref x) :: L) (.ref x :: st) h := G_aload_n f126_54 rfl
theorem f126_55 : fetch 126 55 = some (.getfield 56, 3) := vtab tk126 30 rfl
theorem e126_55 (L : VL) (st : List Value) (h : VG) (a : Nat) (ho : ob h a 10) (hr : isR h a 12) : ev 126 55 L (.ref a :: st) h = ev 126 58 L (.ref (gR h a 12) :: st) h := G_getR (p := 441) f126_55 lkF_11_56 (by decide) (by decide) ho hr
theorem f126_58 : fetch 126 58 = some (.getfield 306, 3) := vtab tk126 31 rfl
theorem e126_58 (L : VL) (st : List Value) (h : VG) (a : Nat) (ho : ob h a 2) : ev 126 58 L (.ref a :: st) h = ev 126 61 L (.int (gI h a 3) :: st) h := G_getI (p := 410) f126_58 lkF_11_306 (by decide) (by decide) ho
theorem f126_61 : fetch 126 61 = some (.ifCond .le 105, 3) := vtab tk126 32 rfl
theorem e126_61 (L : VL) (st : List Value) (h : VG) (x : Int32) : ev 126 61 L (.int x :: st) h = if x ≤ 0 then ev 126 166 L st h else ev 126 64 L st h := G_if_le f126_61 (by decide)
theorem f126_64 : fetch 126 64 = some (.iload 4, 2) := vtab tk126 33 rfl
theorem e126_64 (l0 l1 l2 l3 : Option Value) (L : VL) (st : List Value) (h : VG) (x : Int32) : ev 126 64 (l0 :: l1 :: l2 :: l3 :: some (.int x) :: L) (st) h = ev 126 66 (l0 :: l1 :: l2 :: l3 :: some (.int x) :: L) (.int x :: st) h := G_iload f126_64 rfl
theorem f126_66 : fetch 126 66 = some (.ifCond .eq 53, 3) := vtab tk126 34 rfl
theorem e126_66 (L : VL) (st : List Value) (h : VG) (x : Int32) : ev 126 66 L (.int x :: st) h = if x = 0 then ev 126 119 L st h else ev 126 69 L st h := G_if_eq f126_66 (by decide)
theorem f126_69 : fetch 126 69 = some (.aload_n 0, 1) := vtab tk126 35 rfl
theorem e126_69 (L : VL) (st : List Value) (h : VG) (x : Nat) : ev 126 69 (some (.ref x) :: L) (st) h = ev 126 70 (some (.ref x) :: L) (.ref x :: st) h := G_aload_n f126_69 rfl
theorem f126_70 : fetch 126 70 = some (.getfield 56, 3) := vtab tk126 36 rfl
theorem e126_70 (L : VL) (st : List Value) (h : VG) (a : Nat) (ho : ob h a 10) (hr : isR h a 12) : ev 126 70 L (.ref a :: st) h = ev 126 73 L (.ref (gR h a 12) :: st) h := G_getR (p := 441) f126_70 lkF_11_56 (by decide) (by decide) ho hr
theorem f126_73 : fetch 126 73 = some (.aload_n 0, 1) := vtab tk126 37 rfl
theorem e126_73 (L : VL) (st : List Value) (h : VG) (x : Nat) : ev 126 73 (some (.ref x) :: L) (st) h = ev 126 74 (some (.ref x) :: L) (.ref x :: st) h := G_aload_n f126_73 rfl
theorem f126_74 : fetch 126 74 = some (.getfield 37, 3) := vtab tk126 38 rfl
theorem e126_74 (L : VL) (st : List Value) (h : VG) (a : Nat) (ho : ob h a 10) (hr : isR h a 6) : ev 126 74 L (.ref a :: st) h = ev 126 77 L (.ref (gR h a 6) :: st) h := G_getR (p := 435) f126_74 lkF_11_37 (by decide) (by decide) ho hr
theorem f126_77 : fetch 126 77 = some (.getfield 170, 3) := vtab tk126 39 rfl
theorem e126_77 (L : VL) (st : List Value) (h : VG) (a : Nat) (ho : ob h a 8) (hr : isR h a 0) : ev 126 77 L (.ref a :: st) h = ev 126 80 L (.ref (gR h a 0) :: st) h := G_getR (p := 383) f126_77 lkF_11_170 (by decide) (by decide) ho hr
theorem f126_80 : fetch 126 80 = some (.getfield 171, 3) := vtab tk126 40 rfl
theorem e126_80 (L : VL) (st : List Value) (h : VG) (a : Nat) (ho : ob h a 5) (hr : isR h a 0) : ev 126 80 L (.ref a :: st) h = ev 126 83 L (.ref (gR h a 0) :: st) h := G_getR (p := 226) f126_80 lkF_11_171 (by decide) (by decide) ho hr
theorem f126_83 : fetch 126 83 = some (.aload_n 0, 1) := vtab tk126 41 rfl
theorem e126_83 (L : VL) (st : List Value) (h : VG) (x : Nat) : ev 126 83 (some (.ref x) :: L) (st) h = ev 126 84 (some (.ref x) :: L) (.ref x :: st) h := G_aload_n f126_83 rfl
theorem f126_84 : fetch 126 84 = some (.getfield 60, 3) := vtab tk126 42 rfl
theorem e126_84 (L : VL) (st : List Value) (h : VG) (a : Nat) (ho : ob h a 10) (hr : isR h a 13) : ev 126 84 L (.ref a :: st) h = ev 126 87 L (.ref (gR h a 13) :: st) h := G_getR (p := 442) f126_84 lkF_11_60 (by decide) (by decide) ho hr
theorem f126_87 : fetch 126 87 = some (.invokevirtual 321, 3) := vtab tk126 43 rfl
theorem e126_87 (L : VL) (st : List Value) (h : VG) (b : Nat) (x0 : Nat) (x1 : Nat) (ho : ob h b 2) (hs : catS st ≤ 8) : ev 126 87 L (.ref x1 :: .ref x0 :: .ref b :: st) h = (ev 24 0 [some (.ref b), some (.ref x0), some (.ref x1), none, none] [] h).bind fun q => ev 126 90 L (q.1.toList ++ st) q.2 := G_callv (k := 1) (p := 936) (ars := [.ref x0, .ref x1]) f126_87 lkC_11_321 (by decide) (by decide +kernel) rfl (vcls_ob (ci := 2) (by decide) ho) (Nat.le_of_ble_eq_true rfl) hs rfl
theorem f126_90 : fetch 126 90 = some (.aload_n 0, 1) := vtab tk126 44 rfl
theorem e126_90 (L : VL) (st : List Value) (h : VG) (x : Nat) : ev 126 90 (some (.ref x) :: L) (st) h = ev 126 91 (some (.ref x) :: L) (.ref x :: st) h := G_aload_n f126_90 rfl
theorem f126_91 : fetch 126 91 = some (.getfield 60, 3) := vtab tk126 45 rfl
theorem e126_91 (L : VL) (st : List Value) (h : VG) (a : Nat) (ho : ob h a 10) (hr : isR h a 13) : ev 126 91 L (.ref a :: st) h = ev 126 94 L (.ref (gR h a 13) :: st) h := G_getR (p := 442) f126_91 lkF_11_60 (by decide) (by decide) ho hr
theorem f126_94 : fetch 126 94 = some (.iconst 0, 1) := vtab tk126 46 rfl
theorem e126_94 (L : VL) (st : List Value) (h : VG) : ev 126 94 L (st) h = ev 126 95 L (.int (0 : Int32) :: st) h := G_iconst f126_94 (by decide)
theorem f126_95 : fetch 126 95 = some (.aload_n 0, 1) := vtab tk126 47 rfl
theorem e126_95 (L : VL) (st : List Value) (h : VG) (x : Nat) : ev 126 95 (some (.ref x) :: L) (st) h = ev 126 96 (some (.ref x) :: L) (.ref x :: st) h := G_aload_n f126_95 rfl
theorem f126_96 : fetch 126 96 = some (.getfield 37, 3) := vtab tk126 48 rfl
theorem e126_96 (L : VL) (st : List Value) (h : VG) (a : Nat) (ho : ob h a 10) (hr : isR h a 6) : ev 126 96 L (.ref a :: st) h = ev 126 99 L (.ref (gR h a 6) :: st) h := G_getR (p := 435) f126_96 lkF_11_37 (by decide) (by decide) ho hr
theorem f126_99 : fetch 126 99 = some (.getfield 170, 3) := vtab tk126 49 rfl
theorem e126_99 (L : VL) (st : List Value) (h : VG) (a : Nat) (ho : ob h a 8) (hr : isR h a 0) : ev 126 99 L (.ref a :: st) h = ev 126 102 L (.ref (gR h a 0) :: st) h := G_getR (p := 383) f126_99 lkF_11_170 (by decide) (by decide) ho hr
theorem f126_102 : fetch 126 102 = some (.getfield 171, 3) := vtab tk126 50 rfl
theorem e126_102 (L : VL) (st : List Value) (h : VG) (a : Nat) (ho : ob h a 5) (hr : isR h a 0) : ev 126 102 L (.ref a :: st) h = ev 126 105 L (.ref (gR h a 0) :: st) h := G_getR (p := 226) f126_102 lkF_11_171 (by decide) (by decide) ho hr
theorem f126_105 : fetch 126 105 = some (.iload_n 3, 1) := vtab tk126 51 rfl
theorem e126_105 (l0 l1 l2 : Option Value) (L : VL) (st : List Value) (h : VG) (x : Int32) : ev 126 105 (l0 :: l1 :: l2 :: some (.int x) :: L) (st) h = ev 126 106 (l0 :: l1 :: l2 :: some (.int x) :: L) (.int x :: st) h := G_iload_n f126_105 rfl
theorem f126_106 : fetch 126 106 = some (.aload_n 0, 1) := vtab tk126 52 rfl
theorem e126_106 (L : VL) (st : List Value) (h : VG) (x : Nat) : ev 126 106 (some (.ref x) :: L) (st) h = ev 126 107 (some (.ref x) :: L) (.ref x :: st) h := G_aload_n f126_106 rfl
theorem f126_107 : fetch 126 107 = some (.getfield 56, 3) := vtab tk126 53 rfl
theorem e126_107 (L : VL) (st : List Value) (h : VG) (a : Nat) (ho : ob h a 10) (hr : isR h a 12) : ev 126 107 L (.ref a :: st) h = ev 126 110 L (.ref (gR h a 12) :: st) h := G_getR (p := 441) f126_107 lkF_11_56 (by decide) (by decide) ho hr
theorem f126_110 : fetch 126 110 = some (.getfield 306, 3) := vtab tk126 54 rfl
theorem e126_110 (L : VL) (st : List Value) (h : VG) (a : Nat) (ho : ob h a 2) : ev 126 110 L (.ref a :: st) h = ev 126 113 L (.int (gI h a 3) :: st) h := G_getI (p := 410) f126_110 lkF_11_306 (by decide) (by decide) ho
theorem f126_113 : fetch 126 113 = some (.invokestatic 325, 3) := vtab tk126 55 rfl
theorem e126_113 (L : VL) (st : List Value) (h : VG) (s d : Nat) (sp dp n : Int32) (h1 : VG) (hs : catS st ≤ 8) (hc : vcopy h s d sp dp n = some h1) : ev 126 113 L (.int n :: .int dp :: .ref d :: .int sp :: .ref s :: st) h = ev 126 116 L (st) h1 := G_copy (q := 0) (p := 941) f126_113 lkC_11_325 hs hc
theorem f126_116 : fetch 126 116 = some (.goto 50, 3) := vtab tk126 56 rfl
theorem e126_116 (L : VL) (st : List Value) (h : VG) : ev 126 116 L (st) h = ev 126 166 L (st) h := G_goto f126_116 (by decide)
theorem f126_119 : fetch 126 119 = some (.aload_n 0, 1) := vtab tk126 57 rfl
theorem e126_119 (L : VL) (st : List Value) (h : VG) (x : Nat) : ev 126 119 (some (.ref x) :: L) (st) h = ev 126 120 (some (.ref x) :: L) (.ref x :: st) h := G_aload_n f126_119 rfl
theorem f126_120 : fetch 126 120 = some (.getfield 37, 3) := vtab tk126 58 rfl
theorem e126_120 (L : VL) (st : List Value) (h : VG) (a : Nat) (ho : ob h a 10) (hr : isR h a 6) : ev 126 120 L (.ref a :: st) h = ev 126 123 L (.ref (gR h a 6) :: st) h := G_getR (p := 435) f126_120 lkF_11_37 (by decide) (by decide) ho hr
theorem f126_123 : fetch 126 123 = some (.getfield 170, 3) := vtab tk126 59 rfl
theorem e126_123 (L : VL) (st : List Value) (h : VG) (a : Nat) (ho : ob h a 8) (hr : isR h a 0) : ev 126 123 L (.ref a :: st) h = ev 126 126 L (.ref (gR h a 0) :: st) h := G_getR (p := 383) f126_123 lkF_11_170 (by decide) (by decide) ho hr
theorem f126_126 : fetch 126 126 = some (.getfield 171, 3) := vtab tk126 60 rfl
theorem e126_126 (L : VL) (st : List Value) (h : VG) (a : Nat) (ho : ob h a 5) (hr : isR h a 0) : ev 126 126 L (.ref a :: st) h = ev 126 129 L (.ref (gR h a 0) :: st) h := G_getR (p := 226) f126_126 lkF_11_171 (by decide) (by decide) ho hr
theorem f126_129 : fetch 126 129 = some (.iload_n 3, 1) := vtab tk126 61 rfl
theorem e126_129 (l0 l1 l2 : Option Value) (L : VL) (st : List Value) (h : VG) (x : Int32) : ev 126 129 (l0 :: l1 :: l2 :: some (.int x) :: L) (st) h = ev 126 130 (l0 :: l1 :: l2 :: some (.int x) :: L) (.int x :: st) h := G_iload_n f126_129 rfl
theorem f126_130 : fetch 126 130 = some (.aload_n 0, 1) := vtab tk126 62 rfl
theorem e126_130 (L : VL) (st : List Value) (h : VG) (x : Nat) : ev 126 130 (some (.ref x) :: L) (st) h = ev 126 131 (some (.ref x) :: L) (.ref x :: st) h := G_aload_n f126_130 rfl
theorem f126_131 : fetch 126 131 = some (.getfield 60, 3) := vtab tk126 63 rfl
theorem e126_131 (L : VL) (st : List Value) (h : VG) (a : Nat) (ho : ob h a 10) (hr : isR h a 13) : ev 126 131 L (.ref a :: st) h = ev 126 134 L (.ref (gR h a 13) :: st) h := G_getR (p := 442) f126_131 lkF_11_60 (by decide) (by decide) ho hr
theorem f126_134 : fetch 126 134 = some (.iconst 0, 1) := vtab tk126 64 rfl
theorem e126_134 (L : VL) (st : List Value) (h : VG) : ev 126 134 L (st) h = ev 126 135 L (.int (0 : Int32) :: st) h := G_iconst f126_134 (by decide)
theorem f126_135 : fetch 126 135 = some (.aload_n 0, 1) := vtab tk126 65 rfl
theorem e126_135 (L : VL) (st : List Value) (h : VG) (x : Nat) : ev 126 135 (some (.ref x) :: L) (st) h = ev 126 136 (some (.ref x) :: L) (.ref x :: st) h := G_aload_n f126_135 rfl
theorem f126_136 : fetch 126 136 = some (.getfield 56, 3) := vtab tk126 66 rfl
theorem e126_136 (L : VL) (st : List Value) (h : VG) (a : Nat) (ho : ob h a 10) (hr : isR h a 12) : ev 126 136 L (.ref a :: st) h = ev 126 139 L (.ref (gR h a 12) :: st) h := G_getR (p := 441) f126_136 lkF_11_56 (by decide) (by decide) ho hr
theorem f126_139 : fetch 126 139 = some (.getfield 306, 3) := vtab tk126 67 rfl
theorem e126_139 (L : VL) (st : List Value) (h : VG) (a : Nat) (ho : ob h a 2) : ev 126 139 L (.ref a :: st) h = ev 126 142 L (.int (gI h a 3) :: st) h := G_getI (p := 410) f126_139 lkF_11_306 (by decide) (by decide) ho
theorem f126_142 : fetch 126 142 = some (.invokestatic 325, 3) := vtab tk126 68 rfl
theorem e126_142 (L : VL) (st : List Value) (h : VG) (s d : Nat) (sp dp n : Int32) (h1 : VG) (hs : catS st ≤ 8) (hc : vcopy h s d sp dp n = some h1) : ev 126 142 L (.int n :: .int dp :: .ref d :: .int sp :: .ref s :: st) h = ev 126 145 L (st) h1 := G_copy (q := 0) (p := 941) f126_142 lkC_11_325 hs hc
theorem f126_145 : fetch 126 145 = some (.aload_n 0, 1) := vtab tk126 69 rfl
theorem e126_145 (L : VL) (st : List Value) (h : VG) (x : Nat) : ev 126 145 (some (.ref x) :: L) (st) h = ev 126 146 (some (.ref x) :: L) (.ref x :: st) h := G_aload_n f126_145 rfl
theorem f126_146 : fetch 126 146 = some (.getfield 56, 3) := vtab tk126 70 rfl
theorem e126_146 (L : VL) (st : List Value) (h : VG) (a : Nat) (ho : ob h a 10) (hr : isR h a 12) : ev 126 146 L (.ref a :: st) h = ev 126 149 L (.ref (gR h a 12) :: st) h := G_getR (p := 441) f126_146 lkF_11_56 (by decide) (by decide) ho hr
theorem f126_149 : fetch 126 149 = some (.aload_n 0, 1) := vtab tk126 71 rfl
theorem e126_149 (L : VL) (st : List Value) (h : VG) (x : Nat) : ev 126 149 (some (.ref x) :: L) (st) h = ev 126 150 (some (.ref x) :: L) (.ref x :: st) h := G_aload_n f126_149 rfl
theorem f126_150 : fetch 126 150 = some (.getfield 60, 3) := vtab tk126 72 rfl
theorem e126_150 (L : VL) (st : List Value) (h : VG) (a : Nat) (ho : ob h a 10) (hr : isR h a 13) : ev 126 150 L (.ref a :: st) h = ev 126 153 L (.ref (gR h a 13) :: st) h := G_getR (p := 442) f126_150 lkF_11_60 (by decide) (by decide) ho hr
theorem f126_153 : fetch 126 153 = some (.aload_n 0, 1) := vtab tk126 73 rfl
theorem e126_153 (L : VL) (st : List Value) (h : VG) (x : Nat) : ev 126 153 (some (.ref x) :: L) (st) h = ev 126 154 (some (.ref x) :: L) (.ref x :: st) h := G_aload_n f126_153 rfl
theorem f126_154 : fetch 126 154 = some (.getfield 37, 3) := vtab tk126 74 rfl
theorem e126_154 (L : VL) (st : List Value) (h : VG) (a : Nat) (ho : ob h a 10) (hr : isR h a 6) : ev 126 154 L (.ref a :: st) h = ev 126 157 L (.ref (gR h a 6) :: st) h := G_getR (p := 435) f126_154 lkF_11_37 (by decide) (by decide) ho hr
theorem f126_157 : fetch 126 157 = some (.getfield 170, 3) := vtab tk126 75 rfl
theorem e126_157 (L : VL) (st : List Value) (h : VG) (a : Nat) (ho : ob h a 8) (hr : isR h a 0) : ev 126 157 L (.ref a :: st) h = ev 126 160 L (.ref (gR h a 0) :: st) h := G_getR (p := 383) f126_157 lkF_11_170 (by decide) (by decide) ho hr
theorem f126_160 : fetch 126 160 = some (.getfield 171, 3) := vtab tk126 76 rfl
theorem e126_160 (L : VL) (st : List Value) (h : VG) (a : Nat) (ho : ob h a 5) (hr : isR h a 0) : ev 126 160 L (.ref a :: st) h = ev 126 163 L (.ref (gR h a 0) :: st) h := G_getR (p := 226) f126_160 lkF_11_171 (by decide) (by decide) ho hr
theorem f126_163 : fetch 126 163 = some (.invokevirtual 331, 3) := vtab tk126 77 rfl
theorem e126_163 (L : VL) (st : List Value) (h : VG) (b : Nat) (x0 : Nat) (x1 : Nat) (ho : ob h b 2) (hs : catS st ≤ 8) : ev 126 163 L (.ref x1 :: .ref x0 :: .ref b :: st) h = (ev 25 0 [some (.ref b), some (.ref x0), some (.ref x1), none, none] [] h).bind fun q => ev 126 166 L (q.1.toList ++ st) q.2 := G_callv (k := 1) (p := 942) (ars := [.ref x0, .ref x1]) f126_163 lkC_11_331 (by decide) (by decide +kernel) rfl (vcls_ob (ci := 2) (by decide) ho) (Nat.le_of_ble_eq_true rfl) hs rfl
theorem f126_166 : fetch 126 166 = some (.aload_n 0, 1) := vtab tk126 78 rfl
theorem e126_166 (L : VL) (st : List Value) (h : VG) (x : Nat) : ev 126 166 (some (.ref x) :: L) (st) h = ev 126 167 (some (.ref x) :: L) (.ref x :: st) h := G_aload_n f126_166 rfl
theorem f126_167 : fetch 126 167 = some (.getfield 56, 3) := vtab tk126 79 rfl
theorem e126_167 (L : VL) (st : List Value) (h : VG) (a : Nat) (ho : ob h a 10) (hr : isR h a 12) : ev 126 167 L (.ref a :: st) h = ev 126 170 L (.ref (gR h a 12) :: st) h := G_getR (p := 441) f126_167 lkF_11_56 (by decide) (by decide) ho hr
theorem f126_170 : fetch 126 170 = some (.getfield 306, 3) := vtab tk126 80 rfl
theorem e126_170 (L : VL) (st : List Value) (h : VG) (a : Nat) (ho : ob h a 2) : ev 126 170 L (.ref a :: st) h = ev 126 173 L (.int (gI h a 3) :: st) h := G_getI (p := 410) f126_170 lkF_11_306 (by decide) (by decide) ho
theorem f126_173 : fetch 126 173 = some (.ireturn, 1) := vtab tk126 81 rfl
theorem e126_173 (L : VL) (h : VG) (x : Int32) : ev 126 173 L [.int x] h = some (some (.int x), h) := G_iret f126_173 (ty := .int) (by decide) rfl
/-! 127 GuestCalls.register(I)J -/
def tb127 : List (Nat × Instr × Nat) := [(0, .iload_n 1, 1), (1, .ifCond .lt 21, 3), (4, .iload_n 1, 1), (5, .bipush 8, 2), (7, .if_icmp .ge 15, 3), (10, .aload_n 0, 1), (11, .getfield 37, 3), (14, .getfield 334, 3), (17, .iload_n 1, 1), (18, .laload, 1), (19, .goto 4, 3), (22, .lconst 0, 1), (23, .lreturn, 1)]
theorem tk127 : tb127.all (fun q => decide (fetch 127 q.1 = some q.2)) = true := by decide +kernel
theorem f127_0 : fetch 127 0 = some (.iload_n 1, 1) := vtab tk127 0 rfl
theorem e127_0 (l0 : Option Value) (L : VL) (st : List Value) (h : VG) (x : Int32) : ev 127 0 (l0 :: some (.int x) :: L) (st) h = ev 127 1 (l0 :: some (.int x) :: L) (.int x :: st) h := G_iload_n f127_0 rfl
theorem f127_1 : fetch 127 1 = some (.ifCond .lt 21, 3) := vtab tk127 1 rfl
theorem e127_1 (L : VL) (st : List Value) (h : VG) (x : Int32) : ev 127 1 L (.int x :: st) h = if x < 0 then ev 127 22 L st h else ev 127 4 L st h := G_if_lt f127_1 (by decide)
theorem f127_4 : fetch 127 4 = some (.iload_n 1, 1) := vtab tk127 2 rfl
theorem e127_4 (l0 : Option Value) (L : VL) (st : List Value) (h : VG) (x : Int32) : ev 127 4 (l0 :: some (.int x) :: L) (st) h = ev 127 5 (l0 :: some (.int x) :: L) (.int x :: st) h := G_iload_n f127_4 rfl
theorem f127_5 : fetch 127 5 = some (.bipush 8, 2) := vtab tk127 3 rfl
theorem e127_5 (L : VL) (st : List Value) (h : VG) : ev 127 5 L (st) h = ev 127 7 L (.int (8 : Int32) :: st) h := G_bipush f127_5 (by decide)
theorem f127_7 : fetch 127 7 = some (.if_icmp .ge 15, 3) := vtab tk127 4 rfl
theorem e127_7 (L : VL) (st : List Value) (h : VG) (x y : Int32) : ev 127 7 L (.int y :: .int x :: st) h = if x < y then ev 127 10 L st h else ev 127 22 L st h := G_icmp_ge f127_7 (by decide)
theorem f127_10 : fetch 127 10 = some (.aload_n 0, 1) := vtab tk127 5 rfl
theorem e127_10 (L : VL) (st : List Value) (h : VG) (x : Nat) : ev 127 10 (some (.ref x) :: L) (st) h = ev 127 11 (some (.ref x) :: L) (.ref x :: st) h := G_aload_n f127_10 rfl
theorem f127_11 : fetch 127 11 = some (.getfield 37, 3) := vtab tk127 6 rfl
theorem e127_11 (L : VL) (st : List Value) (h : VG) (a : Nat) (ho : ob h a 10) (hr : isR h a 6) : ev 127 11 L (.ref a :: st) h = ev 127 14 L (.ref (gR h a 6) :: st) h := G_getR (p := 435) f127_11 lkF_11_37 (by decide) (by decide) ho hr
theorem f127_14 : fetch 127 14 = some (.getfield 334, 3) := vtab tk127 7 rfl
theorem e127_14 (L : VL) (st : List Value) (h : VG) (a : Nat) (ho : ob h a 8) (hr : isR h a 2) : ev 127 14 L (.ref a :: st) h = ev 127 17 L (.ref (gR h a 2) :: st) h := G_getR (p := 387) f127_14 lkF_11_334 (by decide) (by decide) ho hr
theorem f127_17 : fetch 127 17 = some (.iload_n 1, 1) := vtab tk127 8 rfl
theorem e127_17 (l0 : Option Value) (L : VL) (st : List Value) (h : VG) (x : Int32) : ev 127 17 (l0 :: some (.int x) :: L) (st) h = ev 127 18 (l0 :: some (.int x) :: L) (.int x :: st) h := G_iload_n f127_17 rfl
theorem f127_18 : fetch 127 18 = some (.laload, 1) := vtab tk127 9 rfl
theorem e127_18 (L : VL) (st : List Value) (h : VG) (a : Nat) (i : Int32) (ha : arL h a) (hi : vp_in i (aln h a)) : ev 127 18 L (.int i :: .ref a :: st) h = ev 127 19 L (.long (aL h a i.toNatClampNeg) :: st) h := G_lald f127_18 ha hi
theorem f127_19 : fetch 127 19 = some (.goto 4, 3) := vtab tk127 10 rfl
theorem e127_19 (L : VL) (st : List Value) (h : VG) : ev 127 19 L (st) h = ev 127 23 L (st) h := G_goto f127_19 (by decide)
theorem f127_22 : fetch 127 22 = some (.lconst 0, 1) := vtab tk127 11 rfl
theorem e127_22 (L : VL) (st : List Value) (h : VG) : ev 127 22 L (st) h = ev 127 23 L (.long 0 :: st) h := G_lconst f127_22 (by decide)
theorem f127_23 : fetch 127 23 = some (.lreturn, 1) := vtab tk127 12 rfl
theorem e127_23 (L : VL) (h : VG) (x : Int64) : ev 127 23 L [.long x] h = some (some (.long x), h) := G_lret f127_23 (by decide)
/-! 128 GuestCalls.sets(IJ)Z -/
def tb128 : List (Nat × Instr × Nat) := [(0, .iload_n 1, 1), (1, .ifCond .lt 9, 3), (4, .iload_n 1, 1), (5, .bipush 8, 2), (7, .if_icmp .lt 5, 3), (10, .iconst 0, 1), (11, .ireturn, 1), (12, .aload_n 0, 1), (13, .getfield 37, 3), (16, .getfield 334, 3), (19, .iload_n 1, 1), (20, .lload_n 2, 1), (21, .lastore, 1), (22, .iconst 1, 1), (23, .ireturn, 1)]
theorem tk128 : tb128.all (fun q => decide (fetch 128 q.1 = some q.2)) = true := by decide +kernel
theorem f128_0 : fetch 128 0 = some (.iload_n 1, 1) := vtab tk128 0 rfl
theorem e128_0 (l0 : Option Value) (L : VL) (st : List Value) (h : VG) (x : Int32) : ev 128 0 (l0 :: some (.int x) :: L) (st) h = ev 128 1 (l0 :: some (.int x) :: L) (.int x :: st) h := G_iload_n f128_0 rfl
theorem f128_1 : fetch 128 1 = some (.ifCond .lt 9, 3) := vtab tk128 1 rfl
theorem e128_1 (L : VL) (st : List Value) (h : VG) (x : Int32) : ev 128 1 L (.int x :: st) h = if x < 0 then ev 128 10 L st h else ev 128 4 L st h := G_if_lt f128_1 (by decide)
theorem f128_4 : fetch 128 4 = some (.iload_n 1, 1) := vtab tk128 2 rfl
theorem e128_4 (l0 : Option Value) (L : VL) (st : List Value) (h : VG) (x : Int32) : ev 128 4 (l0 :: some (.int x) :: L) (st) h = ev 128 5 (l0 :: some (.int x) :: L) (.int x :: st) h := G_iload_n f128_4 rfl
theorem f128_5 : fetch 128 5 = some (.bipush 8, 2) := vtab tk128 3 rfl
theorem e128_5 (L : VL) (st : List Value) (h : VG) : ev 128 5 L (st) h = ev 128 7 L (.int (8 : Int32) :: st) h := G_bipush f128_5 (by decide)
theorem f128_7 : fetch 128 7 = some (.if_icmp .lt 5, 3) := vtab tk128 4 rfl
theorem e128_7 (L : VL) (st : List Value) (h : VG) (x y : Int32) : ev 128 7 L (.int y :: .int x :: st) h = if x < y then ev 128 12 L st h else ev 128 10 L st h := G_icmp_lt f128_7 (by decide)
theorem f128_10 : fetch 128 10 = some (.iconst 0, 1) := vtab tk128 5 rfl
theorem e128_10 (L : VL) (st : List Value) (h : VG) : ev 128 10 L (st) h = ev 128 11 L (.int (0 : Int32) :: st) h := G_iconst f128_10 (by decide)
theorem f128_11 : fetch 128 11 = some (.ireturn, 1) := vtab tk128 6 rfl
theorem e128_11 (L : VL) (h : VG) (x : Int32) (hz : x = 0 ∨ x = 1) : ev 128 11 L [.int x] h = some (some (.int x), h) := G_iret f128_11 (ty := .boolean) (by decide) (vbool hz).1
theorem f128_12 : fetch 128 12 = some (.aload_n 0, 1) := vtab tk128 7 rfl
theorem e128_12 (L : VL) (st : List Value) (h : VG) (x : Nat) : ev 128 12 (some (.ref x) :: L) (st) h = ev 128 13 (some (.ref x) :: L) (.ref x :: st) h := G_aload_n f128_12 rfl
theorem f128_13 : fetch 128 13 = some (.getfield 37, 3) := vtab tk128 8 rfl
theorem e128_13 (L : VL) (st : List Value) (h : VG) (a : Nat) (ho : ob h a 10) (hr : isR h a 6) : ev 128 13 L (.ref a :: st) h = ev 128 16 L (.ref (gR h a 6) :: st) h := G_getR (p := 435) f128_13 lkF_11_37 (by decide) (by decide) ho hr
theorem f128_16 : fetch 128 16 = some (.getfield 334, 3) := vtab tk128 9 rfl
theorem e128_16 (L : VL) (st : List Value) (h : VG) (a : Nat) (ho : ob h a 8) (hr : isR h a 2) : ev 128 16 L (.ref a :: st) h = ev 128 19 L (.ref (gR h a 2) :: st) h := G_getR (p := 387) f128_16 lkF_11_334 (by decide) (by decide) ho hr
theorem f128_19 : fetch 128 19 = some (.iload_n 1, 1) := vtab tk128 10 rfl
theorem e128_19 (l0 : Option Value) (L : VL) (st : List Value) (h : VG) (x : Int32) : ev 128 19 (l0 :: some (.int x) :: L) (st) h = ev 128 20 (l0 :: some (.int x) :: L) (.int x :: st) h := G_iload_n f128_19 rfl
theorem f128_20 : fetch 128 20 = some (.lload_n 2, 1) := vtab tk128 11 rfl
theorem e128_20 (l0 l1 : Option Value) (L : VL) (st : List Value) (h : VG) (x : Int64) : ev 128 20 (l0 :: l1 :: some (.long x) :: L) (st) h = ev 128 21 (l0 :: l1 :: some (.long x) :: L) (.long x :: st) h := G_lload_n f128_20 rfl
theorem f128_21 : fetch 128 21 = some (.lastore, 1) := vtab tk128 12 rfl
theorem e128_21 (L : VL) (st : List Value) (h : VG) (a : Nat) (i : Int32) (x : Int64) (ha : arL h a) (hi : vp_in i (aln h a)) : ev 128 21 L (.long x :: .int i :: .ref a :: st) h = ev 128 22 L (st) (wL h a i.toNatClampNeg x) := G_last f128_21 ha hi
theorem f128_22 : fetch 128 22 = some (.iconst 1, 1) := vtab tk128 13 rfl
theorem e128_22 (L : VL) (st : List Value) (h : VG) : ev 128 22 L (st) h = ev 128 23 L (.int (1 : Int32) :: st) h := G_iconst f128_22 (by decide)
theorem f128_23 : fetch 128 23 = some (.ireturn, 1) := vtab tk128 14 rfl
theorem e128_23 (L : VL) (h : VG) (x : Int32) (hz : x = 0 ∨ x = 1) : ev 128 23 L [.int x] h = some (some (.int x), h) := G_iret f128_23 (ty := .boolean) (by decide) (vbool hz).1
/-! 129 GuestCalls.stackAddress()I -/
def tb129 : List (Nat × Instr × Nat) := [(0, .aload_n 0, 1), (1, .getfield 37, 3), (4, .getfield 170, 3), (7, .getfield 336, 3), (10, .bipush 36, 2), (12, .aload_n 0, 1), (13, .getfield 37, 3), (16, .getfield 339, 3), (19, .imul, 1), (20, .isub, 1), (21, .ireturn, 1)]
theorem tk129 : tb129.all (fun q => decide (fetch 129 q.1 = some q.2)) = true := by decide +kernel
theorem f129_0 : fetch 129 0 = some (.aload_n 0, 1) := vtab tk129 0 rfl
theorem e129_0 (L : VL) (st : List Value) (h : VG) (x : Nat) : ev 129 0 (some (.ref x) :: L) (st) h = ev 129 1 (some (.ref x) :: L) (.ref x :: st) h := G_aload_n f129_0 rfl
theorem f129_1 : fetch 129 1 = some (.getfield 37, 3) := vtab tk129 1 rfl
theorem e129_1 (L : VL) (st : List Value) (h : VG) (a : Nat) (ho : ob h a 10) (hr : isR h a 6) : ev 129 1 L (.ref a :: st) h = ev 129 4 L (.ref (gR h a 6) :: st) h := G_getR (p := 435) f129_1 lkF_11_37 (by decide) (by decide) ho hr
theorem f129_4 : fetch 129 4 = some (.getfield 170, 3) := vtab tk129 2 rfl
theorem e129_4 (L : VL) (st : List Value) (h : VG) (a : Nat) (ho : ob h a 8) (hr : isR h a 0) : ev 129 4 L (.ref a :: st) h = ev 129 7 L (.ref (gR h a 0) :: st) h := G_getR (p := 383) f129_4 lkF_11_170 (by decide) (by decide) ho hr
theorem f129_7 : fetch 129 7 = some (.getfield 336, 3) := vtab tk129 3 rfl
theorem e129_7 (L : VL) (st : List Value) (h : VG) (a : Nat) (ho : ob h a 5) : ev 129 7 L (.ref a :: st) h = ev 129 10 L (.int (gI h a 1) :: st) h := G_getI (p := 229) f129_7 lkF_11_336 (by decide) (by decide) ho
theorem f129_10 : fetch 129 10 = some (.bipush 36, 2) := vtab tk129 4 rfl
theorem e129_10 (L : VL) (st : List Value) (h : VG) : ev 129 10 L (st) h = ev 129 12 L (.int (36 : Int32) :: st) h := G_bipush f129_10 (by decide)
theorem f129_12 : fetch 129 12 = some (.aload_n 0, 1) := vtab tk129 5 rfl
theorem e129_12 (L : VL) (st : List Value) (h : VG) (x : Nat) : ev 129 12 (some (.ref x) :: L) (st) h = ev 129 13 (some (.ref x) :: L) (.ref x :: st) h := G_aload_n f129_12 rfl
theorem f129_13 : fetch 129 13 = some (.getfield 37, 3) := vtab tk129 6 rfl
theorem e129_13 (L : VL) (st : List Value) (h : VG) (a : Nat) (ho : ob h a 10) (hr : isR h a 6) : ev 129 13 L (.ref a :: st) h = ev 129 16 L (.ref (gR h a 6) :: st) h := G_getR (p := 435) f129_13 lkF_11_37 (by decide) (by decide) ho hr
theorem f129_16 : fetch 129 16 = some (.getfield 339, 3) := vtab tk129 7 rfl
theorem e129_16 (L : VL) (st : List Value) (h : VG) (a : Nat) (ho : ob h a 8) : ev 129 16 L (.ref a :: st) h = ev 129 19 L (.int (gI h a 3) :: st) h := G_getI (p := 389) f129_16 lkF_11_339 (by decide) (by decide) ho
theorem f129_19 : fetch 129 19 = some (.imul, 1) := vtab tk129 8 rfl
theorem e129_19 (L : VL) (st : List Value) (h : VG) (x y : Int32) : ev 129 19 L (.int y :: .int x :: st) h = ev 129 20 L (.int (x * y) :: st) h := G_imul f129_19
theorem f129_20 : fetch 129 20 = some (.isub, 1) := vtab tk129 9 rfl
theorem e129_20 (L : VL) (st : List Value) (h : VG) (x y : Int32) : ev 129 20 L (.int y :: .int x :: st) h = ev 129 21 L (.int (x - y) :: st) h := G_isub f129_20
theorem f129_21 : fetch 129 21 = some (.ireturn, 1) := vtab tk129 10 rfl
theorem e129_21 (L : VL) (h : VG) (x : Int32) : ev 129 21 L [.int x] h = some (some (.int x), h) := G_iret f129_21 (ty := .int) (by decide) rfl
/-! 130 GuestCalls.frame()I -/
def tb130 : List (Nat × Instr × Nat) := [(0, .aload_n 0, 1), (1, .iconst 0, 1), (2, .putfield 86, 3), (5, .iconst 0, 1), (6, .istore_n 1, 1), (7, .iload_n 1, 1), (8, .bipush 8, 2), (10, .if_icmp .ge 39, 3), (13, .aload_n 0, 1), (14, .aload_n 0, 1), (15, .getfield 37, 3), (18, .getfield 334, 3), (21, .iload_n 1, 1), (22, .laload, 1), (23, .invokestatic 342, 3), (26, .ifCond .eq 7, 3), (29, .iconst 0, 1), (30, .goto 5, 3), (33, .bipush 6, 2), (35, .invokevirtual 180, 3), (38, .ifCond .eq 5, 3), (41, .iconst (-1), 1), (42, .ireturn, 1), (43, .iinc 1 1, 3), (46, .goto (-39), 3), (49, .aload_n 0, 1), (50, .invokevirtual 346, 3), (53, .bipush 36, 2), (55, .isub, 1), (56, .istore_n 1, 1), (57, .aload_n 0, 1), (58, .aload_n 0, 1), (59, .getfield 37, 3), (62, .getfield 170, 3), (65, .iload_n 1, 1), (66, .i2l, 1), (67, .bipush 36, 2), (69, .invokevirtual 176, 3), (72, .invokevirtual 180, 3), (75, .ifCond .eq 5, 3), (78, .iconst (-1), 1), (79, .ireturn, 1), (80, .iconst 0, 1), (81, .istore_n 2, 1), (82, .iload_n 2, 1), (83, .bipush 8, 2), (85, .if_icmp .ge 34, 3), (88, .aload_n 0, 1), (89, .getfield 37, 3), (92, .getfield 170, 3), (95, .iload_n 1, 1), (96, .iconst 4, 1), (97, .iload_n 2, 1), (98, .imul, 1), (99, .iadd, 1), (100, .iconst 4, 1), (101, .aload_n 0, 1), (102, .getfield 37, 3), (105, .getfield 334, 3), (108, .iload_n 2, 1), (109, .laload, 1), (110, .invokevirtual 349, 3), (113, .iinc 2 1, 3), (116, .goto (-34), 3), (119, .aload_n 0, 1), (120, .getfield 37, 3), (123, .getfield 170, 3), (126, .iload_n 1, 1), (127, .bipush 32, 2), (129, .iadd, 1), (130, .iconst 4, 1), (131, .aload_n 0, 1), (132, .getfield 37, 3), (135, .getfield 339, 3), (138, .i2l, 1), (139, .invokevirtual 349, 3), (142, .aload_n 0, 1), (143, .getfield 37, 3), (146, .dup, 1), (147, .getfield 339, 3), (150, .iconst 1, 1), (151, .iadd, 1), (152, .putfield 339, 3), (155, .iload_n 1, 1), (156, .ireturn, 1)]
theorem tk130 : tb130.all (fun q => decide (fetch 130 q.1 = some q.2)) = true := by decide +kernel
theorem f130_0 : fetch 130 0 = some (.aload_n 0, 1) := vtab tk130 0 rfl
theorem e130_0 (L : VL) (st : List Value) (h : VG) (x : Nat) : ev 130 0 (some (.ref x) :: L) (st) h = ev 130 1 (some (.ref x) :: L) (.ref x :: st) h := G_aload_n f130_0 rfl
theorem f130_1 : fetch 130 1 = some (.iconst 0, 1) := vtab tk130 1 rfl
theorem e130_1 (L : VL) (st : List Value) (h : VG) : ev 130 1 L (st) h = ev 130 2 L (.int (0 : Int32) :: st) h := G_iconst f130_1 (by decide)
theorem f130_2 : fetch 130 2 = some (.putfield 86, 3) := vtab tk130 2 rfl
theorem e130_2 (L : VL) (st : List Value) (h : VG) (a : Nat) (x : Int32) (ho : ob h a 10) : ev 130 2 L (.int x :: .ref a :: st) h = ev 130 5 L (st) (pI h a 9 x) := G_putI (p := 438) f130_2 lkF_11_86 (by decide) (by decide) (by decide +kernel) ⟨rfl, rfl⟩ ho
theorem f130_5 : fetch 130 5 = some (.iconst 0, 1) := vtab tk130 3 rfl
theorem e130_5 (L : VL) (st : List Value) (h : VG) : ev 130 5 L (st) h = ev 130 6 L (.int (0 : Int32) :: st) h := G_iconst f130_5 (by decide)
theorem f130_6 : fetch 130 6 = some (.istore_n 1, 1) := vtab tk130 4 rfl
theorem e130_6 (l0 l1 : Option Value) (L : VL) (st : List Value) (h : VG) (x : Int32) : ev 130 6 (l0 :: l1 :: L) (.int x :: st) h = ev 130 7 (vkk l0 :: some (.int x) :: L) (st) h := G_istore_n f130_6 rfl (S1_1 l0 l1 L _)
theorem f130_7 : fetch 130 7 = some (.iload_n 1, 1) := vtab tk130 5 rfl
theorem e130_7 (l0 : Option Value) (L : VL) (st : List Value) (h : VG) (x : Int32) : ev 130 7 (l0 :: some (.int x) :: L) (st) h = ev 130 8 (l0 :: some (.int x) :: L) (.int x :: st) h := G_iload_n f130_7 rfl
theorem f130_8 : fetch 130 8 = some (.bipush 8, 2) := vtab tk130 6 rfl
theorem e130_8 (L : VL) (st : List Value) (h : VG) : ev 130 8 L (st) h = ev 130 10 L (.int (8 : Int32) :: st) h := G_bipush f130_8 (by decide)
theorem f130_10 : fetch 130 10 = some (.if_icmp .ge 39, 3) := vtab tk130 7 rfl
theorem e130_10 (L : VL) (st : List Value) (h : VG) (x y : Int32) : ev 130 10 L (.int y :: .int x :: st) h = if x < y then ev 130 13 L st h else ev 130 49 L st h := G_icmp_ge f130_10 (by decide)
theorem f130_13 : fetch 130 13 = some (.aload_n 0, 1) := vtab tk130 8 rfl
theorem e130_13 (L : VL) (st : List Value) (h : VG) (x : Nat) : ev 130 13 (some (.ref x) :: L) (st) h = ev 130 14 (some (.ref x) :: L) (.ref x :: st) h := G_aload_n f130_13 rfl
theorem f130_14 : fetch 130 14 = some (.aload_n 0, 1) := vtab tk130 9 rfl
theorem e130_14 (L : VL) (st : List Value) (h : VG) (x : Nat) : ev 130 14 (some (.ref x) :: L) (st) h = ev 130 15 (some (.ref x) :: L) (.ref x :: st) h := G_aload_n f130_14 rfl
theorem f130_15 : fetch 130 15 = some (.getfield 37, 3) := vtab tk130 10 rfl
theorem e130_15 (L : VL) (st : List Value) (h : VG) (a : Nat) (ho : ob h a 10) (hr : isR h a 6) : ev 130 15 L (.ref a :: st) h = ev 130 18 L (.ref (gR h a 6) :: st) h := G_getR (p := 435) f130_15 lkF_11_37 (by decide) (by decide) ho hr
theorem f130_18 : fetch 130 18 = some (.getfield 334, 3) := vtab tk130 11 rfl
theorem e130_18 (L : VL) (st : List Value) (h : VG) (a : Nat) (ho : ob h a 8) (hr : isR h a 2) : ev 130 18 L (.ref a :: st) h = ev 130 21 L (.ref (gR h a 2) :: st) h := G_getR (p := 387) f130_18 lkF_11_334 (by decide) (by decide) ho hr
theorem f130_21 : fetch 130 21 = some (.iload_n 1, 1) := vtab tk130 12 rfl
theorem e130_21 (l0 : Option Value) (L : VL) (st : List Value) (h : VG) (x : Int32) : ev 130 21 (l0 :: some (.int x) :: L) (st) h = ev 130 22 (l0 :: some (.int x) :: L) (.int x :: st) h := G_iload_n f130_21 rfl
theorem f130_22 : fetch 130 22 = some (.laload, 1) := vtab tk130 13 rfl
theorem e130_22 (L : VL) (st : List Value) (h : VG) (a : Nat) (i : Int32) (ha : arL h a) (hi : vp_in i (aln h a)) : ev 130 22 L (.int i :: .ref a :: st) h = ev 130 23 L (.long (aL h a i.toNatClampNeg) :: st) h := G_lald f130_22 ha hi
theorem f130_23 : fetch 130 23 = some (.invokestatic 342, 3) := vtab tk130 14 rfl
theorem e130_23 (L : VL) (st : List Value) (h : VG) (x0 : Int64) (hs : catS st ≤ 8) : ev 130 23 L (.long x0 :: st) h = (ev 35 0 [some (.long x0), none] [] h).bind fun q => ev 130 26 L (q.1.toList ++ st) q.2 := G_calls (k := 0) (p := 958) (ars := [.long x0]) f130_23 lkC_11_342 (by decide) (by decide +kernel) rfl (Nat.le_of_ble_eq_true rfl) hs rfl
theorem f130_26 : fetch 130 26 = some (.ifCond .eq 7, 3) := vtab tk130 15 rfl
theorem e130_26 (L : VL) (st : List Value) (h : VG) (x : Int32) : ev 130 26 L (.int x :: st) h = if x = 0 then ev 130 33 L st h else ev 130 29 L st h := G_if_eq f130_26 (by decide)
theorem f130_29 : fetch 130 29 = some (.iconst 0, 1) := vtab tk130 16 rfl
theorem e130_29 (L : VL) (st : List Value) (h : VG) : ev 130 29 L (st) h = ev 130 30 L (.int (0 : Int32) :: st) h := G_iconst f130_29 (by decide)
theorem f130_30 : fetch 130 30 = some (.goto 5, 3) := vtab tk130 17 rfl
theorem e130_30 (L : VL) (st : List Value) (h : VG) : ev 130 30 L (st) h = ev 130 35 L (st) h := G_goto f130_30 (by decide)
theorem f130_33 : fetch 130 33 = some (.bipush 6, 2) := vtab tk130 18 rfl
theorem e130_33 (L : VL) (st : List Value) (h : VG) : ev 130 33 L (st) h = ev 130 35 L (.int (6 : Int32) :: st) h := G_bipush f130_33 (by decide)
theorem f130_35 : fetch 130 35 = some (.invokevirtual 180, 3) := vtab tk130 19 rfl
theorem e130_35 (L : VL) (st : List Value) (h : VG) (b : Nat) (x0 : Int32) (ho : ob h b 10) (hs : catS st ≤ 8) : ev 130 35 L (.int x0 :: .ref b :: st) h = (ev 100 0 [some (.ref b), some (.int x0)] [] h).bind fun q => ev 130 38 L (q.1.toList ++ st) q.2 := G_callv (k := 1) (p := 692) (ars := [.int x0]) f130_35 lkC_11_180 (by decide) (by decide +kernel) rfl (vcls_ob (ci := 10) (by decide) ho) (Nat.le_of_ble_eq_true rfl) hs rfl
theorem f130_38 : fetch 130 38 = some (.ifCond .eq 5, 3) := vtab tk130 20 rfl
theorem e130_38 (L : VL) (st : List Value) (h : VG) (x : Int32) : ev 130 38 L (.int x :: st) h = if x = 0 then ev 130 43 L st h else ev 130 41 L st h := G_if_eq f130_38 (by decide)
theorem f130_41 : fetch 130 41 = some (.iconst (-1), 1) := vtab tk130 21 rfl
theorem e130_41 (L : VL) (st : List Value) (h : VG) : ev 130 41 L (st) h = ev 130 42 L (.int (-1 : Int32) :: st) h := G_iconst f130_41 (by decide)
theorem f130_42 : fetch 130 42 = some (.ireturn, 1) := vtab tk130 22 rfl
theorem e130_42 (L : VL) (h : VG) (x : Int32) : ev 130 42 L [.int x] h = some (some (.int x), h) := G_iret f130_42 (ty := .int) (by decide) rfl
theorem f130_43 : fetch 130 43 = some (.iinc 1 1, 3) := vtab tk130 23 rfl
theorem e130_43 (l0 : Option Value) (L : VL) (st : List Value) (h : VG) (x : Int32) : ev 130 43 (l0 :: some (.int x) :: L) (st) h = ev 130 46 (vkk l0 :: some (.int (x + (1 : Int32))) :: L) (st) h := G_iinc f130_43 rfl (by decide) (S1_1 l0 (some (.int x)) L _)
theorem f130_46 : fetch 130 46 = some (.goto (-39), 3) := vtab tk130 24 rfl
theorem e130_46 (L : VL) (st : List Value) (h : VG) : ev 130 46 L (st) h = ev 130 7 L (st) h := G_goto f130_46 (by decide)
theorem f130_49 : fetch 130 49 = some (.aload_n 0, 1) := vtab tk130 25 rfl
theorem e130_49 (L : VL) (st : List Value) (h : VG) (x : Nat) : ev 130 49 (some (.ref x) :: L) (st) h = ev 130 50 (some (.ref x) :: L) (.ref x :: st) h := G_aload_n f130_49 rfl
theorem f130_50 : fetch 130 50 = some (.invokevirtual 346, 3) := vtab tk130 26 rfl
theorem e130_50 (L : VL) (st : List Value) (h : VG) (b : Nat)  (ho : ob h b 10) (hs : catS st ≤ 8) : ev 130 50 L (.ref b :: st) h = (ev 129 0 [some (.ref b)] [] h).bind fun q => ev 130 53 L (q.1.toList ++ st) q.2 := G_callv (k := 1) (p := 959) (ars := []) f130_50 lkC_11_346 (by decide) (by decide +kernel) rfl (vcls_ob (ci := 10) (by decide) ho) (Nat.le_of_ble_eq_true rfl) hs rfl
theorem f130_53 : fetch 130 53 = some (.bipush 36, 2) := vtab tk130 27 rfl
theorem e130_53 (L : VL) (st : List Value) (h : VG) : ev 130 53 L (st) h = ev 130 55 L (.int (36 : Int32) :: st) h := G_bipush f130_53 (by decide)
theorem f130_55 : fetch 130 55 = some (.isub, 1) := vtab tk130 28 rfl
theorem e130_55 (L : VL) (st : List Value) (h : VG) (x y : Int32) : ev 130 55 L (.int y :: .int x :: st) h = ev 130 56 L (.int (x - y) :: st) h := G_isub f130_55
theorem f130_56 : fetch 130 56 = some (.istore_n 1, 1) := vtab tk130 29 rfl
theorem e130_56 (l0 l1 : Option Value) (L : VL) (st : List Value) (h : VG) (x : Int32) : ev 130 56 (l0 :: l1 :: L) (.int x :: st) h = ev 130 57 (vkk l0 :: some (.int x) :: L) (st) h := G_istore_n f130_56 rfl (S1_1 l0 l1 L _)
theorem f130_57 : fetch 130 57 = some (.aload_n 0, 1) := vtab tk130 30 rfl
theorem e130_57 (L : VL) (st : List Value) (h : VG) (x : Nat) : ev 130 57 (some (.ref x) :: L) (st) h = ev 130 58 (some (.ref x) :: L) (.ref x :: st) h := G_aload_n f130_57 rfl
theorem f130_58 : fetch 130 58 = some (.aload_n 0, 1) := vtab tk130 31 rfl
theorem e130_58 (L : VL) (st : List Value) (h : VG) (x : Nat) : ev 130 58 (some (.ref x) :: L) (st) h = ev 130 59 (some (.ref x) :: L) (.ref x :: st) h := G_aload_n f130_58 rfl
theorem f130_59 : fetch 130 59 = some (.getfield 37, 3) := vtab tk130 32 rfl
theorem e130_59 (L : VL) (st : List Value) (h : VG) (a : Nat) (ho : ob h a 10) (hr : isR h a 6) : ev 130 59 L (.ref a :: st) h = ev 130 62 L (.ref (gR h a 6) :: st) h := G_getR (p := 435) f130_59 lkF_11_37 (by decide) (by decide) ho hr
theorem f130_62 : fetch 130 62 = some (.getfield 170, 3) := vtab tk130 33 rfl
theorem e130_62 (L : VL) (st : List Value) (h : VG) (a : Nat) (ho : ob h a 8) (hr : isR h a 0) : ev 130 62 L (.ref a :: st) h = ev 130 65 L (.ref (gR h a 0) :: st) h := G_getR (p := 383) f130_62 lkF_11_170 (by decide) (by decide) ho hr
theorem f130_65 : fetch 130 65 = some (.iload_n 1, 1) := vtab tk130 34 rfl
theorem e130_65 (l0 : Option Value) (L : VL) (st : List Value) (h : VG) (x : Int32) : ev 130 65 (l0 :: some (.int x) :: L) (st) h = ev 130 66 (l0 :: some (.int x) :: L) (.int x :: st) h := G_iload_n f130_65 rfl
theorem f130_66 : fetch 130 66 = some (.i2l, 1) := vtab tk130 35 rfl
theorem e130_66 (L : VL) (st : List Value) (h : VG) (x : Int32) : ev 130 66 L (.int x :: st) h = ev 130 67 L (.long x.toInt64 :: st) h := G_i2l f130_66
theorem f130_67 : fetch 130 67 = some (.bipush 36, 2) := vtab tk130 36 rfl
theorem e130_67 (L : VL) (st : List Value) (h : VG) : ev 130 67 L (st) h = ev 130 69 L (.int (36 : Int32) :: st) h := G_bipush f130_67 (by decide)
theorem f130_69 : fetch 130 69 = some (.invokevirtual 176, 3) := vtab tk130 37 rfl
theorem e130_69 (L : VL) (st : List Value) (h : VG) (b : Nat) (x0 : Int64) (x1 : Int32) (ho : ob h b 5) (hs : catS st ≤ 8) : ev 130 69 L (.int x1 :: .long x0 :: .ref b :: st) h = (ev 54 0 [some (.ref b), some (.long x0), none, some (.int x1)] [] h).bind fun q => ev 130 72 L (q.1.toList ++ st) q.2 := G_callv (k := 1) (p := 688) (ars := [.long x0, .int x1]) f130_69 lkC_11_176 (by decide) (by decide +kernel) rfl (vcls_ob (ci := 5) (by decide) ho) (Nat.le_of_ble_eq_true rfl) hs rfl
theorem f130_72 : fetch 130 72 = some (.invokevirtual 180, 3) := vtab tk130 38 rfl
theorem e130_72 (L : VL) (st : List Value) (h : VG) (b : Nat) (x0 : Int32) (ho : ob h b 10) (hs : catS st ≤ 8) : ev 130 72 L (.int x0 :: .ref b :: st) h = (ev 100 0 [some (.ref b), some (.int x0)] [] h).bind fun q => ev 130 75 L (q.1.toList ++ st) q.2 := G_callv (k := 1) (p := 692) (ars := [.int x0]) f130_72 lkC_11_180 (by decide) (by decide +kernel) rfl (vcls_ob (ci := 10) (by decide) ho) (Nat.le_of_ble_eq_true rfl) hs rfl
theorem f130_75 : fetch 130 75 = some (.ifCond .eq 5, 3) := vtab tk130 39 rfl
theorem e130_75 (L : VL) (st : List Value) (h : VG) (x : Int32) : ev 130 75 L (.int x :: st) h = if x = 0 then ev 130 80 L st h else ev 130 78 L st h := G_if_eq f130_75 (by decide)
theorem f130_78 : fetch 130 78 = some (.iconst (-1), 1) := vtab tk130 40 rfl
theorem e130_78 (L : VL) (st : List Value) (h : VG) : ev 130 78 L (st) h = ev 130 79 L (.int (-1 : Int32) :: st) h := G_iconst f130_78 (by decide)
theorem f130_79 : fetch 130 79 = some (.ireturn, 1) := vtab tk130 41 rfl
theorem e130_79 (L : VL) (h : VG) (x : Int32) : ev 130 79 L [.int x] h = some (some (.int x), h) := G_iret f130_79 (ty := .int) (by decide) rfl
theorem f130_80 : fetch 130 80 = some (.iconst 0, 1) := vtab tk130 42 rfl
theorem e130_80 (L : VL) (st : List Value) (h : VG) : ev 130 80 L (st) h = ev 130 81 L (.int (0 : Int32) :: st) h := G_iconst f130_80 (by decide)
theorem f130_81 : fetch 130 81 = some (.istore_n 2, 1) := vtab tk130 43 rfl
theorem e130_81 (l0 l1 l2 : Option Value) (L : VL) (st : List Value) (h : VG) (x : Int32) : ev 130 81 (l0 :: l1 :: l2 :: L) (.int x :: st) h = ev 130 82 (l0 :: vkk l1 :: some (.int x) :: L) (st) h := G_istore_n f130_81 rfl (S1_2 l0 l1 l2 L _)
theorem f130_82 : fetch 130 82 = some (.iload_n 2, 1) := vtab tk130 44 rfl
theorem e130_82 (l0 l1 : Option Value) (L : VL) (st : List Value) (h : VG) (x : Int32) : ev 130 82 (l0 :: l1 :: some (.int x) :: L) (st) h = ev 130 83 (l0 :: l1 :: some (.int x) :: L) (.int x :: st) h := G_iload_n f130_82 rfl
theorem f130_83 : fetch 130 83 = some (.bipush 8, 2) := vtab tk130 45 rfl
theorem e130_83 (L : VL) (st : List Value) (h : VG) : ev 130 83 L (st) h = ev 130 85 L (.int (8 : Int32) :: st) h := G_bipush f130_83 (by decide)
theorem f130_85 : fetch 130 85 = some (.if_icmp .ge 34, 3) := vtab tk130 46 rfl
theorem e130_85 (L : VL) (st : List Value) (h : VG) (x y : Int32) : ev 130 85 L (.int y :: .int x :: st) h = if x < y then ev 130 88 L st h else ev 130 119 L st h := G_icmp_ge f130_85 (by decide)
theorem f130_88 : fetch 130 88 = some (.aload_n 0, 1) := vtab tk130 47 rfl
theorem e130_88 (L : VL) (st : List Value) (h : VG) (x : Nat) : ev 130 88 (some (.ref x) :: L) (st) h = ev 130 89 (some (.ref x) :: L) (.ref x :: st) h := G_aload_n f130_88 rfl
theorem f130_89 : fetch 130 89 = some (.getfield 37, 3) := vtab tk130 48 rfl
theorem e130_89 (L : VL) (st : List Value) (h : VG) (a : Nat) (ho : ob h a 10) (hr : isR h a 6) : ev 130 89 L (.ref a :: st) h = ev 130 92 L (.ref (gR h a 6) :: st) h := G_getR (p := 435) f130_89 lkF_11_37 (by decide) (by decide) ho hr
theorem f130_92 : fetch 130 92 = some (.getfield 170, 3) := vtab tk130 49 rfl
theorem e130_92 (L : VL) (st : List Value) (h : VG) (a : Nat) (ho : ob h a 8) (hr : isR h a 0) : ev 130 92 L (.ref a :: st) h = ev 130 95 L (.ref (gR h a 0) :: st) h := G_getR (p := 383) f130_92 lkF_11_170 (by decide) (by decide) ho hr
theorem f130_95 : fetch 130 95 = some (.iload_n 1, 1) := vtab tk130 50 rfl
theorem e130_95 (l0 : Option Value) (L : VL) (st : List Value) (h : VG) (x : Int32) : ev 130 95 (l0 :: some (.int x) :: L) (st) h = ev 130 96 (l0 :: some (.int x) :: L) (.int x :: st) h := G_iload_n f130_95 rfl
theorem f130_96 : fetch 130 96 = some (.iconst 4, 1) := vtab tk130 51 rfl
theorem e130_96 (L : VL) (st : List Value) (h : VG) : ev 130 96 L (st) h = ev 130 97 L (.int (4 : Int32) :: st) h := G_iconst f130_96 (by decide)
theorem f130_97 : fetch 130 97 = some (.iload_n 2, 1) := vtab tk130 52 rfl
theorem e130_97 (l0 l1 : Option Value) (L : VL) (st : List Value) (h : VG) (x : Int32) : ev 130 97 (l0 :: l1 :: some (.int x) :: L) (st) h = ev 130 98 (l0 :: l1 :: some (.int x) :: L) (.int x :: st) h := G_iload_n f130_97 rfl
theorem f130_98 : fetch 130 98 = some (.imul, 1) := vtab tk130 53 rfl
theorem e130_98 (L : VL) (st : List Value) (h : VG) (x y : Int32) : ev 130 98 L (.int y :: .int x :: st) h = ev 130 99 L (.int (x * y) :: st) h := G_imul f130_98
theorem f130_99 : fetch 130 99 = some (.iadd, 1) := vtab tk130 54 rfl
theorem e130_99 (L : VL) (st : List Value) (h : VG) (x y : Int32) : ev 130 99 L (.int y :: .int x :: st) h = ev 130 100 L (.int (x + y) :: st) h := G_iadd f130_99
theorem f130_100 : fetch 130 100 = some (.iconst 4, 1) := vtab tk130 55 rfl
theorem e130_100 (L : VL) (st : List Value) (h : VG) : ev 130 100 L (st) h = ev 130 101 L (.int (4 : Int32) :: st) h := G_iconst f130_100 (by decide)
theorem f130_101 : fetch 130 101 = some (.aload_n 0, 1) := vtab tk130 56 rfl
theorem e130_101 (L : VL) (st : List Value) (h : VG) (x : Nat) : ev 130 101 (some (.ref x) :: L) (st) h = ev 130 102 (some (.ref x) :: L) (.ref x :: st) h := G_aload_n f130_101 rfl
theorem f130_102 : fetch 130 102 = some (.getfield 37, 3) := vtab tk130 57 rfl
theorem e130_102 (L : VL) (st : List Value) (h : VG) (a : Nat) (ho : ob h a 10) (hr : isR h a 6) : ev 130 102 L (.ref a :: st) h = ev 130 105 L (.ref (gR h a 6) :: st) h := G_getR (p := 435) f130_102 lkF_11_37 (by decide) (by decide) ho hr
theorem f130_105 : fetch 130 105 = some (.getfield 334, 3) := vtab tk130 58 rfl
theorem e130_105 (L : VL) (st : List Value) (h : VG) (a : Nat) (ho : ob h a 8) (hr : isR h a 2) : ev 130 105 L (.ref a :: st) h = ev 130 108 L (.ref (gR h a 2) :: st) h := G_getR (p := 387) f130_105 lkF_11_334 (by decide) (by decide) ho hr
theorem f130_108 : fetch 130 108 = some (.iload_n 2, 1) := vtab tk130 59 rfl
theorem e130_108 (l0 l1 : Option Value) (L : VL) (st : List Value) (h : VG) (x : Int32) : ev 130 108 (l0 :: l1 :: some (.int x) :: L) (st) h = ev 130 109 (l0 :: l1 :: some (.int x) :: L) (.int x :: st) h := G_iload_n f130_108 rfl
theorem f130_109 : fetch 130 109 = some (.laload, 1) := vtab tk130 60 rfl
theorem e130_109 (L : VL) (st : List Value) (h : VG) (a : Nat) (i : Int32) (ha : arL h a) (hi : vp_in i (aln h a)) : ev 130 109 L (.int i :: .ref a :: st) h = ev 130 110 L (.long (aL h a i.toNatClampNeg) :: st) h := G_lald f130_109 ha hi
theorem f130_110 : fetch 130 110 = some (.invokevirtual 349, 3) := vtab tk130 61 rfl
theorem e130_110 (L : VL) (st : List Value) (h : VG) (b : Nat) (x0 : Int32) (x1 : Int32) (x2 : Int64) (ho : ob h b 5) (hs : catS st ≤ 8) : ev 130 110 L (.long x2 :: .int x1 :: .int x0 :: .ref b :: st) h = (ev 57 0 [some (.ref b), some (.int x0), some (.int x1), some (.long x2), none, none, none] [] h).bind fun q => ev 130 113 L (q.1.toList ++ st) q.2 := G_callv (k := 1) (p := 963) (ars := [.int x0, .int x1, .long x2]) f130_110 lkC_11_349 (by decide) (by decide +kernel) rfl (vcls_ob (ci := 5) (by decide) ho) (Nat.le_of_ble_eq_true rfl) hs rfl
theorem f130_113 : fetch 130 113 = some (.iinc 2 1, 3) := vtab tk130 62 rfl
theorem e130_113 (l0 l1 : Option Value) (L : VL) (st : List Value) (h : VG) (x : Int32) : ev 130 113 (l0 :: l1 :: some (.int x) :: L) (st) h = ev 130 116 (l0 :: vkk l1 :: some (.int (x + (1 : Int32))) :: L) (st) h := G_iinc f130_113 rfl (by decide) (S1_2 l0 l1 (some (.int x)) L _)
theorem f130_116 : fetch 130 116 = some (.goto (-34), 3) := vtab tk130 63 rfl
theorem e130_116 (L : VL) (st : List Value) (h : VG) : ev 130 116 L (st) h = ev 130 82 L (st) h := G_goto f130_116 (by decide)
theorem f130_119 : fetch 130 119 = some (.aload_n 0, 1) := vtab tk130 64 rfl
theorem e130_119 (L : VL) (st : List Value) (h : VG) (x : Nat) : ev 130 119 (some (.ref x) :: L) (st) h = ev 130 120 (some (.ref x) :: L) (.ref x :: st) h := G_aload_n f130_119 rfl
theorem f130_120 : fetch 130 120 = some (.getfield 37, 3) := vtab tk130 65 rfl
theorem e130_120 (L : VL) (st : List Value) (h : VG) (a : Nat) (ho : ob h a 10) (hr : isR h a 6) : ev 130 120 L (.ref a :: st) h = ev 130 123 L (.ref (gR h a 6) :: st) h := G_getR (p := 435) f130_120 lkF_11_37 (by decide) (by decide) ho hr
theorem f130_123 : fetch 130 123 = some (.getfield 170, 3) := vtab tk130 66 rfl
theorem e130_123 (L : VL) (st : List Value) (h : VG) (a : Nat) (ho : ob h a 8) (hr : isR h a 0) : ev 130 123 L (.ref a :: st) h = ev 130 126 L (.ref (gR h a 0) :: st) h := G_getR (p := 383) f130_123 lkF_11_170 (by decide) (by decide) ho hr
theorem f130_126 : fetch 130 126 = some (.iload_n 1, 1) := vtab tk130 67 rfl
theorem e130_126 (l0 : Option Value) (L : VL) (st : List Value) (h : VG) (x : Int32) : ev 130 126 (l0 :: some (.int x) :: L) (st) h = ev 130 127 (l0 :: some (.int x) :: L) (.int x :: st) h := G_iload_n f130_126 rfl
theorem f130_127 : fetch 130 127 = some (.bipush 32, 2) := vtab tk130 68 rfl
theorem e130_127 (L : VL) (st : List Value) (h : VG) : ev 130 127 L (st) h = ev 130 129 L (.int (32 : Int32) :: st) h := G_bipush f130_127 (by decide)
theorem f130_129 : fetch 130 129 = some (.iadd, 1) := vtab tk130 69 rfl
theorem e130_129 (L : VL) (st : List Value) (h : VG) (x y : Int32) : ev 130 129 L (.int y :: .int x :: st) h = ev 130 130 L (.int (x + y) :: st) h := G_iadd f130_129
theorem f130_130 : fetch 130 130 = some (.iconst 4, 1) := vtab tk130 70 rfl
theorem e130_130 (L : VL) (st : List Value) (h : VG) : ev 130 130 L (st) h = ev 130 131 L (.int (4 : Int32) :: st) h := G_iconst f130_130 (by decide)
theorem f130_131 : fetch 130 131 = some (.aload_n 0, 1) := vtab tk130 71 rfl
theorem e130_131 (L : VL) (st : List Value) (h : VG) (x : Nat) : ev 130 131 (some (.ref x) :: L) (st) h = ev 130 132 (some (.ref x) :: L) (.ref x :: st) h := G_aload_n f130_131 rfl
theorem f130_132 : fetch 130 132 = some (.getfield 37, 3) := vtab tk130 72 rfl
theorem e130_132 (L : VL) (st : List Value) (h : VG) (a : Nat) (ho : ob h a 10) (hr : isR h a 6) : ev 130 132 L (.ref a :: st) h = ev 130 135 L (.ref (gR h a 6) :: st) h := G_getR (p := 435) f130_132 lkF_11_37 (by decide) (by decide) ho hr
theorem f130_135 : fetch 130 135 = some (.getfield 339, 3) := vtab tk130 73 rfl
theorem e130_135 (L : VL) (st : List Value) (h : VG) (a : Nat) (ho : ob h a 8) : ev 130 135 L (.ref a :: st) h = ev 130 138 L (.int (gI h a 3) :: st) h := G_getI (p := 389) f130_135 lkF_11_339 (by decide) (by decide) ho
theorem f130_138 : fetch 130 138 = some (.i2l, 1) := vtab tk130 74 rfl
theorem e130_138 (L : VL) (st : List Value) (h : VG) (x : Int32) : ev 130 138 L (.int x :: st) h = ev 130 139 L (.long x.toInt64 :: st) h := G_i2l f130_138
theorem f130_139 : fetch 130 139 = some (.invokevirtual 349, 3) := vtab tk130 75 rfl
theorem e130_139 (L : VL) (st : List Value) (h : VG) (b : Nat) (x0 : Int32) (x1 : Int32) (x2 : Int64) (ho : ob h b 5) (hs : catS st ≤ 8) : ev 130 139 L (.long x2 :: .int x1 :: .int x0 :: .ref b :: st) h = (ev 57 0 [some (.ref b), some (.int x0), some (.int x1), some (.long x2), none, none, none] [] h).bind fun q => ev 130 142 L (q.1.toList ++ st) q.2 := G_callv (k := 1) (p := 963) (ars := [.int x0, .int x1, .long x2]) f130_139 lkC_11_349 (by decide) (by decide +kernel) rfl (vcls_ob (ci := 5) (by decide) ho) (Nat.le_of_ble_eq_true rfl) hs rfl
theorem f130_142 : fetch 130 142 = some (.aload_n 0, 1) := vtab tk130 76 rfl
theorem e130_142 (L : VL) (st : List Value) (h : VG) (x : Nat) : ev 130 142 (some (.ref x) :: L) (st) h = ev 130 143 (some (.ref x) :: L) (.ref x :: st) h := G_aload_n f130_142 rfl
theorem f130_143 : fetch 130 143 = some (.getfield 37, 3) := vtab tk130 77 rfl
theorem e130_143 (L : VL) (st : List Value) (h : VG) (a : Nat) (ho : ob h a 10) (hr : isR h a 6) : ev 130 143 L (.ref a :: st) h = ev 130 146 L (.ref (gR h a 6) :: st) h := G_getR (p := 435) f130_143 lkF_11_37 (by decide) (by decide) ho hr
theorem f130_146 : fetch 130 146 = some (.dup, 1) := vtab tk130 78 rfl
theorem e130_146b (L : VL) (st : List Value) (h : VG) (x : Int32) : ev 130 146 L (.int x :: st) h = ev 130 147 L (.int x :: .int x :: st) h := G_dup_int f130_146
theorem e130_146 (L : VL) (st : List Value) (h : VG) (x : Nat) : ev 130 146 L (.ref x :: st) h = ev 130 147 L (.ref x :: .ref x :: st) h := G_dup_ref f130_146
theorem f130_147 : fetch 130 147 = some (.getfield 339, 3) := vtab tk130 79 rfl
theorem e130_147 (L : VL) (st : List Value) (h : VG) (a : Nat) (ho : ob h a 8) : ev 130 147 L (.ref a :: st) h = ev 130 150 L (.int (gI h a 3) :: st) h := G_getI (p := 389) f130_147 lkF_11_339 (by decide) (by decide) ho
theorem f130_150 : fetch 130 150 = some (.iconst 1, 1) := vtab tk130 80 rfl
theorem e130_150 (L : VL) (st : List Value) (h : VG) : ev 130 150 L (st) h = ev 130 151 L (.int (1 : Int32) :: st) h := G_iconst f130_150 (by decide)
theorem f130_151 : fetch 130 151 = some (.iadd, 1) := vtab tk130 81 rfl
theorem e130_151 (L : VL) (st : List Value) (h : VG) (x y : Int32) : ev 130 151 L (.int y :: .int x :: st) h = ev 130 152 L (.int (x + y) :: st) h := G_iadd f130_151
theorem f130_152 : fetch 130 152 = some (.putfield 339, 3) := vtab tk130 82 rfl
theorem e130_152 (L : VL) (st : List Value) (h : VG) (a : Nat) (x : Int32) (ho : ob h a 8) : ev 130 152 L (.int x :: .ref a :: st) h = ev 130 155 L (st) (pI h a 3 x) := G_putI (p := 389) f130_152 lkF_11_339 (by decide) (by decide) (by decide +kernel) ⟨rfl, rfl⟩ ho
theorem f130_155 : fetch 130 155 = some (.iload_n 1, 1) := vtab tk130 83 rfl
theorem e130_155 (l0 : Option Value) (L : VL) (st : List Value) (h : VG) (x : Int32) : ev 130 155 (l0 :: some (.int x) :: L) (st) h = ev 130 156 (l0 :: some (.int x) :: L) (.int x :: st) h := G_iload_n f130_155 rfl
theorem f130_156 : fetch 130 156 = some (.ireturn, 1) := vtab tk130 84 rfl
theorem e130_156 (L : VL) (h : VG) (x : Int32) : ev 130 156 L [.int x] h = some (some (.int x), h) := G_iret f130_156 (ty := .int) (by decide) rfl
/-! 131 GuestCalls.returns()I -/
def tb131 : List (Nat × Instr × Nat) := [(0, .aload_n 0, 1), (1, .iconst 0, 1), (2, .putfield 86, 3), (5, .aload_n 0, 1), (6, .aload_n 0, 1), (7, .getfield 37, 3), (10, .getfield 339, 3), (13, .ifCond .ne 8, 3), (16, .bipush 7, 2), (18, .goto 4, 3), (21, .iconst 0, 1), (22, .invokevirtual 180, 3), (25, .ifCond .eq 5, 3), (28, .iconst (-1), 1), (29, .ireturn, 1), (30, .aload_n 0, 1), (31, .invokevirtual 346, 3), (34, .istore_n 1, 1), (35, .aload_n 0, 1), (36, .getfield 37, 3), (39, .getfield 170, 3), (42, .iload_n 1, 1), (43, .bipush 32, 2), (45, .iadd, 1), (46, .iconst 4, 1), (47, .iconst 0, 1), (48, .invokevirtual 276, 3), (51, .lstore_n 2, 1), (52, .aload_n 0, 1), (53, .lload_n 2, 1), (54, .aload_n 0, 1), (55, .getfield 37, 3), (58, .getfield 339, 3), (61, .iconst 1, 1), (62, .isub, 1), (63, .i2l, 1), (64, .lcmp, 1), (65, .ifCond .ne 7, 3), (68, .iconst 0, 1), (69, .goto 4, 3), (72, .iconst 2, 1), (73, .invokevirtual 180, 3), (76, .ifCond .eq 5, 3), (79, .iconst (-1), 1), (80, .ireturn, 1), (81, .iconst 0, 1), (82, .istore 4, 2), (84, .iload 4, 2), (86, .bipush 8, 2), (88, .if_icmp .ge 37, 3), (91, .aload_n 0, 1), (92, .getfield 37, 3), (95, .getfield 334, 3), (98, .iload 4, 2), (100, .aload_n 0, 1), (101, .getfield 37, 3), (104, .getfield 170, 3), (107, .iload_n 1, 1), (108, .iconst 4, 1), (109, .iload 4, 2), (111, .imul, 1), (112, .iadd, 1), (113, .iconst 4, 1), (114, .iconst 0, 1), (115, .invokevirtual 276, 3), (118, .lastore, 1), (119, .iinc 4 1, 3), (122, .goto (-38), 3), (125, .aload_n 0, 1), (126, .getfield 37, 3), (129, .dup, 1), (130, .getfield 339, 3), (133, .iconst 1, 1), (134, .isub, 1), (135, .putfield 339, 3), (138, .aload_n 0, 1), (139, .getfield 37, 3), (142, .getfield 339, 3), (145, .ireturn, 1)]
theorem tk131 : tb131.all (fun q => decide (fetch 131 q.1 = some q.2)) = true := by decide +kernel
theorem f131_0 : fetch 131 0 = some (.aload_n 0, 1) := vtab tk131 0 rfl
theorem e131_0 (L : VL) (st : List Value) (h : VG) (x : Nat) : ev 131 0 (some (.ref x) :: L) (st) h = ev 131 1 (some (.ref x) :: L) (.ref x :: st) h := G_aload_n f131_0 rfl
theorem f131_1 : fetch 131 1 = some (.iconst 0, 1) := vtab tk131 1 rfl
theorem e131_1 (L : VL) (st : List Value) (h : VG) : ev 131 1 L (st) h = ev 131 2 L (.int (0 : Int32) :: st) h := G_iconst f131_1 (by decide)
theorem f131_2 : fetch 131 2 = some (.putfield 86, 3) := vtab tk131 2 rfl
theorem e131_2 (L : VL) (st : List Value) (h : VG) (a : Nat) (x : Int32) (ho : ob h a 10) : ev 131 2 L (.int x :: .ref a :: st) h = ev 131 5 L (st) (pI h a 9 x) := G_putI (p := 438) f131_2 lkF_11_86 (by decide) (by decide) (by decide +kernel) ⟨rfl, rfl⟩ ho
theorem f131_5 : fetch 131 5 = some (.aload_n 0, 1) := vtab tk131 3 rfl
theorem e131_5 (L : VL) (st : List Value) (h : VG) (x : Nat) : ev 131 5 (some (.ref x) :: L) (st) h = ev 131 6 (some (.ref x) :: L) (.ref x :: st) h := G_aload_n f131_5 rfl
theorem f131_6 : fetch 131 6 = some (.aload_n 0, 1) := vtab tk131 4 rfl
theorem e131_6 (L : VL) (st : List Value) (h : VG) (x : Nat) : ev 131 6 (some (.ref x) :: L) (st) h = ev 131 7 (some (.ref x) :: L) (.ref x :: st) h := G_aload_n f131_6 rfl
theorem f131_7 : fetch 131 7 = some (.getfield 37, 3) := vtab tk131 5 rfl
theorem e131_7 (L : VL) (st : List Value) (h : VG) (a : Nat) (ho : ob h a 10) (hr : isR h a 6) : ev 131 7 L (.ref a :: st) h = ev 131 10 L (.ref (gR h a 6) :: st) h := G_getR (p := 435) f131_7 lkF_11_37 (by decide) (by decide) ho hr
theorem f131_10 : fetch 131 10 = some (.getfield 339, 3) := vtab tk131 6 rfl
theorem e131_10 (L : VL) (st : List Value) (h : VG) (a : Nat) (ho : ob h a 8) : ev 131 10 L (.ref a :: st) h = ev 131 13 L (.int (gI h a 3) :: st) h := G_getI (p := 389) f131_10 lkF_11_339 (by decide) (by decide) ho
theorem f131_13 : fetch 131 13 = some (.ifCond .ne 8, 3) := vtab tk131 7 rfl
theorem e131_13 (L : VL) (st : List Value) (h : VG) (x : Int32) : ev 131 13 L (.int x :: st) h = if x = 0 then ev 131 16 L st h else ev 131 21 L st h := G_if_ne f131_13 (by decide)
theorem f131_16 : fetch 131 16 = some (.bipush 7, 2) := vtab tk131 8 rfl
theorem e131_16 (L : VL) (st : List Value) (h : VG) : ev 131 16 L (st) h = ev 131 18 L (.int (7 : Int32) :: st) h := G_bipush f131_16 (by decide)
theorem f131_18 : fetch 131 18 = some (.goto 4, 3) := vtab tk131 9 rfl
theorem e131_18 (L : VL) (st : List Value) (h : VG) : ev 131 18 L (st) h = ev 131 22 L (st) h := G_goto f131_18 (by decide)
theorem f131_21 : fetch 131 21 = some (.iconst 0, 1) := vtab tk131 10 rfl
theorem e131_21 (L : VL) (st : List Value) (h : VG) : ev 131 21 L (st) h = ev 131 22 L (.int (0 : Int32) :: st) h := G_iconst f131_21 (by decide)
theorem f131_22 : fetch 131 22 = some (.invokevirtual 180, 3) := vtab tk131 11 rfl
theorem e131_22 (L : VL) (st : List Value) (h : VG) (b : Nat) (x0 : Int32) (ho : ob h b 10) (hs : catS st ≤ 8) : ev 131 22 L (.int x0 :: .ref b :: st) h = (ev 100 0 [some (.ref b), some (.int x0)] [] h).bind fun q => ev 131 25 L (q.1.toList ++ st) q.2 := G_callv (k := 1) (p := 692) (ars := [.int x0]) f131_22 lkC_11_180 (by decide) (by decide +kernel) rfl (vcls_ob (ci := 10) (by decide) ho) (Nat.le_of_ble_eq_true rfl) hs rfl
theorem f131_25 : fetch 131 25 = some (.ifCond .eq 5, 3) := vtab tk131 12 rfl
theorem e131_25 (L : VL) (st : List Value) (h : VG) (x : Int32) : ev 131 25 L (.int x :: st) h = if x = 0 then ev 131 30 L st h else ev 131 28 L st h := G_if_eq f131_25 (by decide)
theorem f131_28 : fetch 131 28 = some (.iconst (-1), 1) := vtab tk131 13 rfl
theorem e131_28 (L : VL) (st : List Value) (h : VG) : ev 131 28 L (st) h = ev 131 29 L (.int (-1 : Int32) :: st) h := G_iconst f131_28 (by decide)
theorem f131_29 : fetch 131 29 = some (.ireturn, 1) := vtab tk131 14 rfl
theorem e131_29 (L : VL) (h : VG) (x : Int32) : ev 131 29 L [.int x] h = some (some (.int x), h) := G_iret f131_29 (ty := .int) (by decide) rfl
theorem f131_30 : fetch 131 30 = some (.aload_n 0, 1) := vtab tk131 15 rfl
theorem e131_30 (L : VL) (st : List Value) (h : VG) (x : Nat) : ev 131 30 (some (.ref x) :: L) (st) h = ev 131 31 (some (.ref x) :: L) (.ref x :: st) h := G_aload_n f131_30 rfl
theorem f131_31 : fetch 131 31 = some (.invokevirtual 346, 3) := vtab tk131 16 rfl
theorem e131_31 (L : VL) (st : List Value) (h : VG) (b : Nat)  (ho : ob h b 10) (hs : catS st ≤ 8) : ev 131 31 L (.ref b :: st) h = (ev 129 0 [some (.ref b)] [] h).bind fun q => ev 131 34 L (q.1.toList ++ st) q.2 := G_callv (k := 1) (p := 959) (ars := []) f131_31 lkC_11_346 (by decide) (by decide +kernel) rfl (vcls_ob (ci := 10) (by decide) ho) (Nat.le_of_ble_eq_true rfl) hs rfl
theorem f131_34 : fetch 131 34 = some (.istore_n 1, 1) := vtab tk131 17 rfl
theorem e131_34 (l0 l1 : Option Value) (L : VL) (st : List Value) (h : VG) (x : Int32) : ev 131 34 (l0 :: l1 :: L) (.int x :: st) h = ev 131 35 (vkk l0 :: some (.int x) :: L) (st) h := G_istore_n f131_34 rfl (S1_1 l0 l1 L _)
theorem f131_35 : fetch 131 35 = some (.aload_n 0, 1) := vtab tk131 18 rfl
theorem e131_35 (L : VL) (st : List Value) (h : VG) (x : Nat) : ev 131 35 (some (.ref x) :: L) (st) h = ev 131 36 (some (.ref x) :: L) (.ref x :: st) h := G_aload_n f131_35 rfl
theorem f131_36 : fetch 131 36 = some (.getfield 37, 3) := vtab tk131 19 rfl
theorem e131_36 (L : VL) (st : List Value) (h : VG) (a : Nat) (ho : ob h a 10) (hr : isR h a 6) : ev 131 36 L (.ref a :: st) h = ev 131 39 L (.ref (gR h a 6) :: st) h := G_getR (p := 435) f131_36 lkF_11_37 (by decide) (by decide) ho hr
theorem f131_39 : fetch 131 39 = some (.getfield 170, 3) := vtab tk131 20 rfl
theorem e131_39 (L : VL) (st : List Value) (h : VG) (a : Nat) (ho : ob h a 8) (hr : isR h a 0) : ev 131 39 L (.ref a :: st) h = ev 131 42 L (.ref (gR h a 0) :: st) h := G_getR (p := 383) f131_39 lkF_11_170 (by decide) (by decide) ho hr
theorem f131_42 : fetch 131 42 = some (.iload_n 1, 1) := vtab tk131 21 rfl
theorem e131_42 (l0 : Option Value) (L : VL) (st : List Value) (h : VG) (x : Int32) : ev 131 42 (l0 :: some (.int x) :: L) (st) h = ev 131 43 (l0 :: some (.int x) :: L) (.int x :: st) h := G_iload_n f131_42 rfl
theorem f131_43 : fetch 131 43 = some (.bipush 32, 2) := vtab tk131 22 rfl
theorem e131_43 (L : VL) (st : List Value) (h : VG) : ev 131 43 L (st) h = ev 131 45 L (.int (32 : Int32) :: st) h := G_bipush f131_43 (by decide)
theorem f131_45 : fetch 131 45 = some (.iadd, 1) := vtab tk131 23 rfl
theorem e131_45 (L : VL) (st : List Value) (h : VG) (x y : Int32) : ev 131 45 L (.int y :: .int x :: st) h = ev 131 46 L (.int (x + y) :: st) h := G_iadd f131_45
theorem f131_46 : fetch 131 46 = some (.iconst 4, 1) := vtab tk131 24 rfl
theorem e131_46 (L : VL) (st : List Value) (h : VG) : ev 131 46 L (st) h = ev 131 47 L (.int (4 : Int32) :: st) h := G_iconst f131_46 (by decide)
theorem f131_47 : fetch 131 47 = some (.iconst 0, 1) := vtab tk131 25 rfl
theorem e131_47 (L : VL) (st : List Value) (h : VG) : ev 131 47 L (st) h = ev 131 48 L (.int (0 : Int32) :: st) h := G_iconst f131_47 (by decide)
theorem f131_48 : fetch 131 48 = some (.invokevirtual 276, 3) := vtab tk131 26 rfl
theorem e131_48 (L : VL) (st : List Value) (h : VG) (b : Nat) (x0 : Int32) (x1 : Int32) (x2 : Int32) (ho : ob h b 5) (hs : catS st ≤ 8) : ev 131 48 L (.int x2 :: .int x1 :: .int x0 :: .ref b :: st) h = (ev 56 0 [some (.ref b), some (.int x0), some (.int x1), some (.int x2), none, none, none, none, none] [] h).bind fun q => ev 131 51 L (q.1.toList ++ st) q.2 := G_callv (k := 1) (p := 868) (ars := [.int x0, .int x1, .int x2]) f131_48 lkC_11_276 (by decide) (by decide +kernel) rfl (vcls_ob (ci := 5) (by decide) ho) (Nat.le_of_ble_eq_true rfl) hs rfl
theorem f131_51 : fetch 131 51 = some (.lstore_n 2, 1) := vtab tk131 27 rfl
theorem e131_51 (l0 l1 l2 l3 : Option Value) (L : VL) (st : List Value) (h : VG) (x : Int64) : ev 131 51 (l0 :: l1 :: l2 :: l3 :: L) (.long x :: st) h = ev 131 52 (l0 :: vkk l1 :: some (.long x) :: none :: L) (st) h := G_lstore_n f131_51 rfl (S2_2 l0 l1 l2 l3 L _)
theorem f131_52 : fetch 131 52 = some (.aload_n 0, 1) := vtab tk131 28 rfl
theorem e131_52 (L : VL) (st : List Value) (h : VG) (x : Nat) : ev 131 52 (some (.ref x) :: L) (st) h = ev 131 53 (some (.ref x) :: L) (.ref x :: st) h := G_aload_n f131_52 rfl
theorem f131_53 : fetch 131 53 = some (.lload_n 2, 1) := vtab tk131 29 rfl
theorem e131_53 (l0 l1 : Option Value) (L : VL) (st : List Value) (h : VG) (x : Int64) : ev 131 53 (l0 :: l1 :: some (.long x) :: L) (st) h = ev 131 54 (l0 :: l1 :: some (.long x) :: L) (.long x :: st) h := G_lload_n f131_53 rfl
theorem f131_54 : fetch 131 54 = some (.aload_n 0, 1) := vtab tk131 30 rfl
theorem e131_54 (L : VL) (st : List Value) (h : VG) (x : Nat) : ev 131 54 (some (.ref x) :: L) (st) h = ev 131 55 (some (.ref x) :: L) (.ref x :: st) h := G_aload_n f131_54 rfl
theorem f131_55 : fetch 131 55 = some (.getfield 37, 3) := vtab tk131 31 rfl
theorem e131_55 (L : VL) (st : List Value) (h : VG) (a : Nat) (ho : ob h a 10) (hr : isR h a 6) : ev 131 55 L (.ref a :: st) h = ev 131 58 L (.ref (gR h a 6) :: st) h := G_getR (p := 435) f131_55 lkF_11_37 (by decide) (by decide) ho hr
theorem f131_58 : fetch 131 58 = some (.getfield 339, 3) := vtab tk131 32 rfl
theorem e131_58 (L : VL) (st : List Value) (h : VG) (a : Nat) (ho : ob h a 8) : ev 131 58 L (.ref a :: st) h = ev 131 61 L (.int (gI h a 3) :: st) h := G_getI (p := 389) f131_58 lkF_11_339 (by decide) (by decide) ho
theorem f131_61 : fetch 131 61 = some (.iconst 1, 1) := vtab tk131 33 rfl
theorem e131_61 (L : VL) (st : List Value) (h : VG) : ev 131 61 L (st) h = ev 131 62 L (.int (1 : Int32) :: st) h := G_iconst f131_61 (by decide)
theorem f131_62 : fetch 131 62 = some (.isub, 1) := vtab tk131 34 rfl
theorem e131_62 (L : VL) (st : List Value) (h : VG) (x y : Int32) : ev 131 62 L (.int y :: .int x :: st) h = ev 131 63 L (.int (x - y) :: st) h := G_isub f131_62
theorem f131_63 : fetch 131 63 = some (.i2l, 1) := vtab tk131 35 rfl
theorem e131_63 (L : VL) (st : List Value) (h : VG) (x : Int32) : ev 131 63 L (.int x :: st) h = ev 131 64 L (.long x.toInt64 :: st) h := G_i2l f131_63
theorem f131_64 : fetch 131 64 = some (.lcmp, 1) := vtab tk131 36 rfl
theorem e131_64 (L : VL) (st : List Value) (h : VG) (x y : Int64) : ev 131 64 L (.long y :: .long x :: st) h = ev 131 65 L (.int (lg_cmp x y) :: st) h := G_lcmp f131_64
theorem f131_65 : fetch 131 65 = some (.ifCond .ne 7, 3) := vtab tk131 37 rfl
theorem e131_65 (L : VL) (st : List Value) (h : VG) (x : Int32) : ev 131 65 L (.int x :: st) h = if x = 0 then ev 131 68 L st h else ev 131 72 L st h := G_if_ne f131_65 (by decide)
theorem f131_68 : fetch 131 68 = some (.iconst 0, 1) := vtab tk131 38 rfl
theorem e131_68 (L : VL) (st : List Value) (h : VG) : ev 131 68 L (st) h = ev 131 69 L (.int (0 : Int32) :: st) h := G_iconst f131_68 (by decide)
theorem f131_69 : fetch 131 69 = some (.goto 4, 3) := vtab tk131 39 rfl
theorem e131_69 (L : VL) (st : List Value) (h : VG) : ev 131 69 L (st) h = ev 131 73 L (st) h := G_goto f131_69 (by decide)
theorem f131_72 : fetch 131 72 = some (.iconst 2, 1) := vtab tk131 40 rfl
theorem e131_72 (L : VL) (st : List Value) (h : VG) : ev 131 72 L (st) h = ev 131 73 L (.int (2 : Int32) :: st) h := G_iconst f131_72 (by decide)
theorem f131_73 : fetch 131 73 = some (.invokevirtual 180, 3) := vtab tk131 41 rfl
theorem e131_73 (L : VL) (st : List Value) (h : VG) (b : Nat) (x0 : Int32) (ho : ob h b 10) (hs : catS st ≤ 8) : ev 131 73 L (.int x0 :: .ref b :: st) h = (ev 100 0 [some (.ref b), some (.int x0)] [] h).bind fun q => ev 131 76 L (q.1.toList ++ st) q.2 := G_callv (k := 1) (p := 692) (ars := [.int x0]) f131_73 lkC_11_180 (by decide) (by decide +kernel) rfl (vcls_ob (ci := 10) (by decide) ho) (Nat.le_of_ble_eq_true rfl) hs rfl
theorem f131_76 : fetch 131 76 = some (.ifCond .eq 5, 3) := vtab tk131 42 rfl
theorem e131_76 (L : VL) (st : List Value) (h : VG) (x : Int32) : ev 131 76 L (.int x :: st) h = if x = 0 then ev 131 81 L st h else ev 131 79 L st h := G_if_eq f131_76 (by decide)
theorem f131_79 : fetch 131 79 = some (.iconst (-1), 1) := vtab tk131 43 rfl
theorem e131_79 (L : VL) (st : List Value) (h : VG) : ev 131 79 L (st) h = ev 131 80 L (.int (-1 : Int32) :: st) h := G_iconst f131_79 (by decide)
theorem f131_80 : fetch 131 80 = some (.ireturn, 1) := vtab tk131 44 rfl
theorem e131_80 (L : VL) (h : VG) (x : Int32) : ev 131 80 L [.int x] h = some (some (.int x), h) := G_iret f131_80 (ty := .int) (by decide) rfl
theorem f131_81 : fetch 131 81 = some (.iconst 0, 1) := vtab tk131 45 rfl
theorem e131_81 (L : VL) (st : List Value) (h : VG) : ev 131 81 L (st) h = ev 131 82 L (.int (0 : Int32) :: st) h := G_iconst f131_81 (by decide)
theorem f131_82 : fetch 131 82 = some (.istore 4, 2) := vtab tk131 46 rfl
theorem e131_82 (l0 l1 l2 l3 l4 : Option Value) (L : VL) (st : List Value) (h : VG) (x : Int32) : ev 131 82 (l0 :: l1 :: l2 :: l3 :: l4 :: L) (.int x :: st) h = ev 131 84 (l0 :: l1 :: l2 :: vkk l3 :: some (.int x) :: L) (st) h := G_istore f131_82 rfl (S1_4 l0 l1 l2 l3 l4 L _)
theorem f131_84 : fetch 131 84 = some (.iload 4, 2) := vtab tk131 47 rfl
theorem e131_84 (l0 l1 l2 l3 : Option Value) (L : VL) (st : List Value) (h : VG) (x : Int32) : ev 131 84 (l0 :: l1 :: l2 :: l3 :: some (.int x) :: L) (st) h = ev 131 86 (l0 :: l1 :: l2 :: l3 :: some (.int x) :: L) (.int x :: st) h := G_iload f131_84 rfl
theorem f131_86 : fetch 131 86 = some (.bipush 8, 2) := vtab tk131 48 rfl
theorem e131_86 (L : VL) (st : List Value) (h : VG) : ev 131 86 L (st) h = ev 131 88 L (.int (8 : Int32) :: st) h := G_bipush f131_86 (by decide)
theorem f131_88 : fetch 131 88 = some (.if_icmp .ge 37, 3) := vtab tk131 49 rfl
theorem e131_88 (L : VL) (st : List Value) (h : VG) (x y : Int32) : ev 131 88 L (.int y :: .int x :: st) h = if x < y then ev 131 91 L st h else ev 131 125 L st h := G_icmp_ge f131_88 (by decide)
theorem f131_91 : fetch 131 91 = some (.aload_n 0, 1) := vtab tk131 50 rfl
theorem e131_91 (L : VL) (st : List Value) (h : VG) (x : Nat) : ev 131 91 (some (.ref x) :: L) (st) h = ev 131 92 (some (.ref x) :: L) (.ref x :: st) h := G_aload_n f131_91 rfl
theorem f131_92 : fetch 131 92 = some (.getfield 37, 3) := vtab tk131 51 rfl
theorem e131_92 (L : VL) (st : List Value) (h : VG) (a : Nat) (ho : ob h a 10) (hr : isR h a 6) : ev 131 92 L (.ref a :: st) h = ev 131 95 L (.ref (gR h a 6) :: st) h := G_getR (p := 435) f131_92 lkF_11_37 (by decide) (by decide) ho hr
theorem f131_95 : fetch 131 95 = some (.getfield 334, 3) := vtab tk131 52 rfl
theorem e131_95 (L : VL) (st : List Value) (h : VG) (a : Nat) (ho : ob h a 8) (hr : isR h a 2) : ev 131 95 L (.ref a :: st) h = ev 131 98 L (.ref (gR h a 2) :: st) h := G_getR (p := 387) f131_95 lkF_11_334 (by decide) (by decide) ho hr
theorem f131_98 : fetch 131 98 = some (.iload 4, 2) := vtab tk131 53 rfl
theorem e131_98 (l0 l1 l2 l3 : Option Value) (L : VL) (st : List Value) (h : VG) (x : Int32) : ev 131 98 (l0 :: l1 :: l2 :: l3 :: some (.int x) :: L) (st) h = ev 131 100 (l0 :: l1 :: l2 :: l3 :: some (.int x) :: L) (.int x :: st) h := G_iload f131_98 rfl
theorem f131_100 : fetch 131 100 = some (.aload_n 0, 1) := vtab tk131 54 rfl
theorem e131_100 (L : VL) (st : List Value) (h : VG) (x : Nat) : ev 131 100 (some (.ref x) :: L) (st) h = ev 131 101 (some (.ref x) :: L) (.ref x :: st) h := G_aload_n f131_100 rfl
theorem f131_101 : fetch 131 101 = some (.getfield 37, 3) := vtab tk131 55 rfl
theorem e131_101 (L : VL) (st : List Value) (h : VG) (a : Nat) (ho : ob h a 10) (hr : isR h a 6) : ev 131 101 L (.ref a :: st) h = ev 131 104 L (.ref (gR h a 6) :: st) h := G_getR (p := 435) f131_101 lkF_11_37 (by decide) (by decide) ho hr
theorem f131_104 : fetch 131 104 = some (.getfield 170, 3) := vtab tk131 56 rfl
theorem e131_104 (L : VL) (st : List Value) (h : VG) (a : Nat) (ho : ob h a 8) (hr : isR h a 0) : ev 131 104 L (.ref a :: st) h = ev 131 107 L (.ref (gR h a 0) :: st) h := G_getR (p := 383) f131_104 lkF_11_170 (by decide) (by decide) ho hr
theorem f131_107 : fetch 131 107 = some (.iload_n 1, 1) := vtab tk131 57 rfl
theorem e131_107 (l0 : Option Value) (L : VL) (st : List Value) (h : VG) (x : Int32) : ev 131 107 (l0 :: some (.int x) :: L) (st) h = ev 131 108 (l0 :: some (.int x) :: L) (.int x :: st) h := G_iload_n f131_107 rfl
theorem f131_108 : fetch 131 108 = some (.iconst 4, 1) := vtab tk131 58 rfl
theorem e131_108 (L : VL) (st : List Value) (h : VG) : ev 131 108 L (st) h = ev 131 109 L (.int (4 : Int32) :: st) h := G_iconst f131_108 (by decide)
theorem f131_109 : fetch 131 109 = some (.iload 4, 2) := vtab tk131 59 rfl
theorem e131_109 (l0 l1 l2 l3 : Option Value) (L : VL) (st : List Value) (h : VG) (x : Int32) : ev 131 109 (l0 :: l1 :: l2 :: l3 :: some (.int x) :: L) (st) h = ev 131 111 (l0 :: l1 :: l2 :: l3 :: some (.int x) :: L) (.int x :: st) h := G_iload f131_109 rfl
theorem f131_111 : fetch 131 111 = some (.imul, 1) := vtab tk131 60 rfl
theorem e131_111 (L : VL) (st : List Value) (h : VG) (x y : Int32) : ev 131 111 L (.int y :: .int x :: st) h = ev 131 112 L (.int (x * y) :: st) h := G_imul f131_111
theorem f131_112 : fetch 131 112 = some (.iadd, 1) := vtab tk131 61 rfl
theorem e131_112 (L : VL) (st : List Value) (h : VG) (x y : Int32) : ev 131 112 L (.int y :: .int x :: st) h = ev 131 113 L (.int (x + y) :: st) h := G_iadd f131_112
theorem f131_113 : fetch 131 113 = some (.iconst 4, 1) := vtab tk131 62 rfl
theorem e131_113 (L : VL) (st : List Value) (h : VG) : ev 131 113 L (st) h = ev 131 114 L (.int (4 : Int32) :: st) h := G_iconst f131_113 (by decide)
theorem f131_114 : fetch 131 114 = some (.iconst 0, 1) := vtab tk131 63 rfl
theorem e131_114 (L : VL) (st : List Value) (h : VG) : ev 131 114 L (st) h = ev 131 115 L (.int (0 : Int32) :: st) h := G_iconst f131_114 (by decide)
theorem f131_115 : fetch 131 115 = some (.invokevirtual 276, 3) := vtab tk131 64 rfl
theorem e131_115 (L : VL) (st : List Value) (h : VG) (b : Nat) (x0 : Int32) (x1 : Int32) (x2 : Int32) (ho : ob h b 5) (hs : catS st ≤ 8) : ev 131 115 L (.int x2 :: .int x1 :: .int x0 :: .ref b :: st) h = (ev 56 0 [some (.ref b), some (.int x0), some (.int x1), some (.int x2), none, none, none, none, none] [] h).bind fun q => ev 131 118 L (q.1.toList ++ st) q.2 := G_callv (k := 1) (p := 868) (ars := [.int x0, .int x1, .int x2]) f131_115 lkC_11_276 (by decide) (by decide +kernel) rfl (vcls_ob (ci := 5) (by decide) ho) (Nat.le_of_ble_eq_true rfl) hs rfl
theorem f131_118 : fetch 131 118 = some (.lastore, 1) := vtab tk131 65 rfl
theorem e131_118 (L : VL) (st : List Value) (h : VG) (a : Nat) (i : Int32) (x : Int64) (ha : arL h a) (hi : vp_in i (aln h a)) : ev 131 118 L (.long x :: .int i :: .ref a :: st) h = ev 131 119 L (st) (wL h a i.toNatClampNeg x) := G_last f131_118 ha hi
theorem f131_119 : fetch 131 119 = some (.iinc 4 1, 3) := vtab tk131 66 rfl
theorem e131_119 (l0 l1 l2 l3 : Option Value) (L : VL) (st : List Value) (h : VG) (x : Int32) : ev 131 119 (l0 :: l1 :: l2 :: l3 :: some (.int x) :: L) (st) h = ev 131 122 (l0 :: l1 :: l2 :: vkk l3 :: some (.int (x + (1 : Int32))) :: L) (st) h := G_iinc f131_119 rfl (by decide) (S1_4 l0 l1 l2 l3 (some (.int x)) L _)
theorem f131_122 : fetch 131 122 = some (.goto (-38), 3) := vtab tk131 67 rfl
theorem e131_122 (L : VL) (st : List Value) (h : VG) : ev 131 122 L (st) h = ev 131 84 L (st) h := G_goto f131_122 (by decide)
theorem f131_125 : fetch 131 125 = some (.aload_n 0, 1) := vtab tk131 68 rfl
theorem e131_125 (L : VL) (st : List Value) (h : VG) (x : Nat) : ev 131 125 (some (.ref x) :: L) (st) h = ev 131 126 (some (.ref x) :: L) (.ref x :: st) h := G_aload_n f131_125 rfl
theorem f131_126 : fetch 131 126 = some (.getfield 37, 3) := vtab tk131 69 rfl
theorem e131_126 (L : VL) (st : List Value) (h : VG) (a : Nat) (ho : ob h a 10) (hr : isR h a 6) : ev 131 126 L (.ref a :: st) h = ev 131 129 L (.ref (gR h a 6) :: st) h := G_getR (p := 435) f131_126 lkF_11_37 (by decide) (by decide) ho hr
theorem f131_129 : fetch 131 129 = some (.dup, 1) := vtab tk131 70 rfl
theorem e131_129b (L : VL) (st : List Value) (h : VG) (x : Int32) : ev 131 129 L (.int x :: st) h = ev 131 130 L (.int x :: .int x :: st) h := G_dup_int f131_129
theorem e131_129 (L : VL) (st : List Value) (h : VG) (x : Nat) : ev 131 129 L (.ref x :: st) h = ev 131 130 L (.ref x :: .ref x :: st) h := G_dup_ref f131_129
theorem f131_130 : fetch 131 130 = some (.getfield 339, 3) := vtab tk131 71 rfl
theorem e131_130 (L : VL) (st : List Value) (h : VG) (a : Nat) (ho : ob h a 8) : ev 131 130 L (.ref a :: st) h = ev 131 133 L (.int (gI h a 3) :: st) h := G_getI (p := 389) f131_130 lkF_11_339 (by decide) (by decide) ho
theorem f131_133 : fetch 131 133 = some (.iconst 1, 1) := vtab tk131 72 rfl
theorem e131_133 (L : VL) (st : List Value) (h : VG) : ev 131 133 L (st) h = ev 131 134 L (.int (1 : Int32) :: st) h := G_iconst f131_133 (by decide)
theorem f131_134 : fetch 131 134 = some (.isub, 1) := vtab tk131 73 rfl
theorem e131_134 (L : VL) (st : List Value) (h : VG) (x y : Int32) : ev 131 134 L (.int y :: .int x :: st) h = ev 131 135 L (.int (x - y) :: st) h := G_isub f131_134
theorem f131_135 : fetch 131 135 = some (.putfield 339, 3) := vtab tk131 74 rfl
theorem e131_135 (L : VL) (st : List Value) (h : VG) (a : Nat) (x : Int32) (ho : ob h a 8) : ev 131 135 L (.int x :: .ref a :: st) h = ev 131 138 L (st) (pI h a 3 x) := G_putI (p := 389) f131_135 lkF_11_339 (by decide) (by decide) (by decide +kernel) ⟨rfl, rfl⟩ ho
theorem f131_138 : fetch 131 138 = some (.aload_n 0, 1) := vtab tk131 75 rfl
theorem e131_138 (L : VL) (st : List Value) (h : VG) (x : Nat) : ev 131 138 (some (.ref x) :: L) (st) h = ev 131 139 (some (.ref x) :: L) (.ref x :: st) h := G_aload_n f131_138 rfl
theorem f131_139 : fetch 131 139 = some (.getfield 37, 3) := vtab tk131 76 rfl
theorem e131_139 (L : VL) (st : List Value) (h : VG) (a : Nat) (ho : ob h a 10) (hr : isR h a 6) : ev 131 139 L (.ref a :: st) h = ev 131 142 L (.ref (gR h a 6) :: st) h := G_getR (p := 435) f131_139 lkF_11_37 (by decide) (by decide) ho hr
theorem f131_142 : fetch 131 142 = some (.getfield 339, 3) := vtab tk131 77 rfl
theorem e131_142 (L : VL) (st : List Value) (h : VG) (a : Nat) (ho : ob h a 8) : ev 131 142 L (.ref a :: st) h = ev 131 145 L (.int (gI h a 3) :: st) h := G_getI (p := 389) f131_142 lkF_11_339 (by decide) (by decide) ho
theorem f131_145 : fetch 131 145 = some (.ireturn, 1) := vtab tk131 78 rfl
theorem e131_145 (L : VL) (h : VG) (x : Int32) : ev 131 145 L [.int x] h = some (some (.int x), h) := G_iret f131_145 (ty := .int) (by decide) rfl
/-! 132 GuestCalls.hold(I)Z -/
def tb132 : List (Nat × Instr × Nat) := [(0, .iload_n 1, 1), (1, .ifCond .lt 8, 3), (4, .iload_n 1, 1), (5, .iconst 2, 1), (6, .if_icmp .lt 5, 3), (9, .iconst 0, 1), (10, .ireturn, 1), (11, .aload_n 0, 1), (12, .getfield 41, 3), (15, .iload_n 1, 1), (16, .aaload, 1), (17, .aload_n 0, 1), (18, .getfield 37, 3), (21, .invokevirtual 352, 3), (24, .aload_n 0, 1), (25, .getfield 45, 3), (28, .iload_n 1, 1), (29, .iconst 1, 1), (30, .bastore, 1), (31, .iconst 1, 1), (32, .ireturn, 1)]
theorem tk132 : tb132.all (fun q => decide (fetch 132 q.1 = some q.2)) = true := by decide +kernel
theorem f132_0 : fetch 132 0 = some (.iload_n 1, 1) := vtab tk132 0 rfl
theorem e132_0 (l0 : Option Value) (L : VL) (st : List Value) (h : VG) (x : Int32) : ev 132 0 (l0 :: some (.int x) :: L) (st) h = ev 132 1 (l0 :: some (.int x) :: L) (.int x :: st) h := G_iload_n f132_0 rfl
theorem f132_1 : fetch 132 1 = some (.ifCond .lt 8, 3) := vtab tk132 1 rfl
theorem e132_1 (L : VL) (st : List Value) (h : VG) (x : Int32) : ev 132 1 L (.int x :: st) h = if x < 0 then ev 132 9 L st h else ev 132 4 L st h := G_if_lt f132_1 (by decide)
theorem f132_4 : fetch 132 4 = some (.iload_n 1, 1) := vtab tk132 2 rfl
theorem e132_4 (l0 : Option Value) (L : VL) (st : List Value) (h : VG) (x : Int32) : ev 132 4 (l0 :: some (.int x) :: L) (st) h = ev 132 5 (l0 :: some (.int x) :: L) (.int x :: st) h := G_iload_n f132_4 rfl
theorem f132_5 : fetch 132 5 = some (.iconst 2, 1) := vtab tk132 3 rfl
theorem e132_5 (L : VL) (st : List Value) (h : VG) : ev 132 5 L (st) h = ev 132 6 L (.int (2 : Int32) :: st) h := G_iconst f132_5 (by decide)
theorem f132_6 : fetch 132 6 = some (.if_icmp .lt 5, 3) := vtab tk132 4 rfl
theorem e132_6 (L : VL) (st : List Value) (h : VG) (x y : Int32) : ev 132 6 L (.int y :: .int x :: st) h = if x < y then ev 132 11 L st h else ev 132 9 L st h := G_icmp_lt f132_6 (by decide)
theorem f132_9 : fetch 132 9 = some (.iconst 0, 1) := vtab tk132 5 rfl
theorem e132_9 (L : VL) (st : List Value) (h : VG) : ev 132 9 L (st) h = ev 132 10 L (.int (0 : Int32) :: st) h := G_iconst f132_9 (by decide)
theorem f132_10 : fetch 132 10 = some (.ireturn, 1) := vtab tk132 6 rfl
theorem e132_10 (L : VL) (h : VG) (x : Int32) (hz : x = 0 ∨ x = 1) : ev 132 10 L [.int x] h = some (some (.int x), h) := G_iret f132_10 (ty := .boolean) (by decide) (vbool hz).1
theorem f132_11 : fetch 132 11 = some (.aload_n 0, 1) := vtab tk132 7 rfl
theorem e132_11 (L : VL) (st : List Value) (h : VG) (x : Nat) : ev 132 11 (some (.ref x) :: L) (st) h = ev 132 12 (some (.ref x) :: L) (.ref x :: st) h := G_aload_n f132_11 rfl
theorem f132_12 : fetch 132 12 = some (.getfield 41, 3) := vtab tk132 8 rfl
theorem e132_12 (L : VL) (st : List Value) (h : VG) (a : Nat) (ho : ob h a 10) (hr : isR h a 7) : ev 132 12 L (.ref a :: st) h = ev 132 15 L (.ref (gR h a 7) :: st) h := G_getR (p := 436) f132_12 lkF_11_41 (by decide) (by decide) ho hr
theorem f132_15 : fetch 132 15 = some (.iload_n 1, 1) := vtab tk132 9 rfl
theorem e132_15 (l0 : Option Value) (L : VL) (st : List Value) (h : VG) (x : Int32) : ev 132 15 (l0 :: some (.int x) :: L) (st) h = ev 132 16 (l0 :: some (.int x) :: L) (.int x :: st) h := G_iload_n f132_15 rfl
theorem f132_16 : fetch 132 16 = some (.aaload, 1) := vtab tk132 10 rfl
theorem e132_16 (L : VL) (st : List Value) (h : VG) (a : Nat) (i : Int32) (ha : rdR h a) (hi : vp_in i (aln h a)) : ev 132 16 L (.int i :: .ref a :: st) h = ev 132 17 L (va_rf (aR h a i.toNatClampNeg) :: st) h := G_aald' f132_16 ha hi
theorem f132_17 : fetch 132 17 = some (.aload_n 0, 1) := vtab tk132 11 rfl
theorem e132_17 (L : VL) (st : List Value) (h : VG) (x : Nat) : ev 132 17 (some (.ref x) :: L) (st) h = ev 132 18 (some (.ref x) :: L) (.ref x :: st) h := G_aload_n f132_17 rfl
theorem f132_18 : fetch 132 18 = some (.getfield 37, 3) := vtab tk132 12 rfl
theorem e132_18 (L : VL) (st : List Value) (h : VG) (a : Nat) (ho : ob h a 10) (hr : isR h a 6) : ev 132 18 L (.ref a :: st) h = ev 132 21 L (.ref (gR h a 6) :: st) h := G_getR (p := 435) f132_18 lkF_11_37 (by decide) (by decide) ho hr
theorem f132_21 : fetch 132 21 = some (.invokevirtual 352, 3) := vtab tk132 13 rfl
theorem e132_21 (L : VL) (st : List Value) (h : VG) (b : Nat) (x0 : Nat) (ho : ob h b 8) (hs : catS st ≤ 8) : ev 132 21 L (.ref x0 :: .ref b :: st) h = (ev 81 0 [some (.ref b), some (.ref x0), none] [] h).bind fun q => ev 132 24 L (q.1.toList ++ st) q.2 := G_callv (k := 1) (p := 972) (ars := [.ref x0]) f132_21 lkC_11_352 (by decide) (by decide +kernel) rfl (vcls_ob (ci := 8) (by decide) ho) (Nat.le_of_ble_eq_true rfl) hs rfl
theorem f132_24 : fetch 132 24 = some (.aload_n 0, 1) := vtab tk132 14 rfl
theorem e132_24 (L : VL) (st : List Value) (h : VG) (x : Nat) : ev 132 24 (some (.ref x) :: L) (st) h = ev 132 25 (some (.ref x) :: L) (.ref x :: st) h := G_aload_n f132_24 rfl
theorem f132_25 : fetch 132 25 = some (.getfield 45, 3) := vtab tk132 15 rfl
theorem e132_25 (L : VL) (st : List Value) (h : VG) (a : Nat) (ho : ob h a 10) (hr : isR h a 8) : ev 132 25 L (.ref a :: st) h = ev 132 28 L (.ref (gR h a 8) :: st) h := G_getR (p := 437) f132_25 lkF_11_45 (by decide) (by decide) ho hr
theorem f132_28 : fetch 132 28 = some (.iload_n 1, 1) := vtab tk132 16 rfl
theorem e132_28 (l0 : Option Value) (L : VL) (st : List Value) (h : VG) (x : Int32) : ev 132 28 (l0 :: some (.int x) :: L) (st) h = ev 132 29 (l0 :: some (.int x) :: L) (.int x :: st) h := G_iload_n f132_28 rfl
theorem f132_29 : fetch 132 29 = some (.iconst 1, 1) := vtab tk132 17 rfl
theorem e132_29 (L : VL) (st : List Value) (h : VG) : ev 132 29 L (st) h = ev 132 30 L (.int (1 : Int32) :: st) h := G_iconst f132_29 (by decide)
theorem f132_30 : fetch 132 30 = some (.bastore, 1) := vtab tk132 18 rfl
theorem e132_30 (L : VL) (st : List Value) (h : VG) (a : Nat) (i : Int32) (x : Int32) (ha : arI h a 2) (hi : vp_in i (aln h a)) : ev 132 30 L (.int x :: .int i :: .ref a :: st) h = ev 132 31 L (st) (wI h a i.toNatClampNeg (vp_nar .byte x)) := G_bast f132_30 ha hi
theorem e132_30z (L : VL) (st : List Value) (h : VG) (a : Nat) (i : Int32) (x : Int32) (ha : arI h a 3) (hi : vp_in i (aln h a)) : ev 132 30 L (.int x :: .int i :: .ref a :: st) h = ev 132 31 L (st) (wI h a i.toNatClampNeg (vp_nar .boolean x)) := G_zast f132_30 ha hi
theorem f132_31 : fetch 132 31 = some (.iconst 1, 1) := vtab tk132 19 rfl
theorem e132_31 (L : VL) (st : List Value) (h : VG) : ev 132 31 L (st) h = ev 132 32 L (.int (1 : Int32) :: st) h := G_iconst f132_31 (by decide)
theorem f132_32 : fetch 132 32 = some (.ireturn, 1) := vtab tk132 20 rfl
theorem e132_32 (L : VL) (h : VG) (x : Int32) (hz : x = 0 ∨ x = 1) : ev 132 32 L [.int x] h = some (some (.int x), h) := G_iret f132_32 (ty := .boolean) (by decide) (vbool hz).1
/-! 133 GuestCalls.restore(I)Z -/
def tb133 : List (Nat × Instr × Nat) := [(0, .iload_n 1, 1), (1, .ifCond .lt 17, 3), (4, .iload_n 1, 1), (5, .iconst 2, 1), (6, .if_icmp .ge 12, 3), (9, .aload_n 0, 1), (10, .getfield 45, 3), (13, .iload_n 1, 1), (14, .baload, 1), (15, .ifCond .ne 5, 3), (18, .iconst 0, 1), (19, .ireturn, 1), (20, .aload_n 0, 1), (21, .getfield 37, 3), (24, .aload_n 0, 1), (25, .getfield 41, 3), (28, .iload_n 1, 1), (29, .aaload, 1), (30, .invokevirtual 352, 3), (33, .iconst 1, 1), (34, .ireturn, 1)]
theorem tk133 : tb133.all (fun q => decide (fetch 133 q.1 = some q.2)) = true := by decide +kernel
theorem f133_0 : fetch 133 0 = some (.iload_n 1, 1) := vtab tk133 0 rfl
theorem e133_0 (l0 : Option Value) (L : VL) (st : List Value) (h : VG) (x : Int32) : ev 133 0 (l0 :: some (.int x) :: L) (st) h = ev 133 1 (l0 :: some (.int x) :: L) (.int x :: st) h := G_iload_n f133_0 rfl
theorem f133_1 : fetch 133 1 = some (.ifCond .lt 17, 3) := vtab tk133 1 rfl
theorem e133_1 (L : VL) (st : List Value) (h : VG) (x : Int32) : ev 133 1 L (.int x :: st) h = if x < 0 then ev 133 18 L st h else ev 133 4 L st h := G_if_lt f133_1 (by decide)
theorem f133_4 : fetch 133 4 = some (.iload_n 1, 1) := vtab tk133 2 rfl
theorem e133_4 (l0 : Option Value) (L : VL) (st : List Value) (h : VG) (x : Int32) : ev 133 4 (l0 :: some (.int x) :: L) (st) h = ev 133 5 (l0 :: some (.int x) :: L) (.int x :: st) h := G_iload_n f133_4 rfl
theorem f133_5 : fetch 133 5 = some (.iconst 2, 1) := vtab tk133 3 rfl
theorem e133_5 (L : VL) (st : List Value) (h : VG) : ev 133 5 L (st) h = ev 133 6 L (.int (2 : Int32) :: st) h := G_iconst f133_5 (by decide)
theorem f133_6 : fetch 133 6 = some (.if_icmp .ge 12, 3) := vtab tk133 4 rfl
theorem e133_6 (L : VL) (st : List Value) (h : VG) (x y : Int32) : ev 133 6 L (.int y :: .int x :: st) h = if x < y then ev 133 9 L st h else ev 133 18 L st h := G_icmp_ge f133_6 (by decide)
theorem f133_9 : fetch 133 9 = some (.aload_n 0, 1) := vtab tk133 5 rfl
theorem e133_9 (L : VL) (st : List Value) (h : VG) (x : Nat) : ev 133 9 (some (.ref x) :: L) (st) h = ev 133 10 (some (.ref x) :: L) (.ref x :: st) h := G_aload_n f133_9 rfl
theorem f133_10 : fetch 133 10 = some (.getfield 45, 3) := vtab tk133 6 rfl
theorem e133_10 (L : VL) (st : List Value) (h : VG) (a : Nat) (ho : ob h a 10) (hr : isR h a 8) : ev 133 10 L (.ref a :: st) h = ev 133 13 L (.ref (gR h a 8) :: st) h := G_getR (p := 437) f133_10 lkF_11_45 (by decide) (by decide) ho hr
theorem f133_13 : fetch 133 13 = some (.iload_n 1, 1) := vtab tk133 7 rfl
theorem e133_13 (l0 : Option Value) (L : VL) (st : List Value) (h : VG) (x : Int32) : ev 133 13 (l0 :: some (.int x) :: L) (st) h = ev 133 14 (l0 :: some (.int x) :: L) (.int x :: st) h := G_iload_n f133_13 rfl
theorem f133_14 : fetch 133 14 = some (.baload, 1) := vtab tk133 8 rfl
theorem e133_14 (L : VL) (st : List Value) (h : VG) (a : Nat) (i : Int32) (ha : rdB h a) (hi : vp_in i (aln h a)) : ev 133 14 L (.int i :: .ref a :: st) h = ev 133 15 L (.int (aI h a i.toNatClampNeg) :: st) h := G_bald' f133_14 ha hi
theorem f133_15 : fetch 133 15 = some (.ifCond .ne 5, 3) := vtab tk133 9 rfl
theorem e133_15 (L : VL) (st : List Value) (h : VG) (x : Int32) : ev 133 15 L (.int x :: st) h = if x = 0 then ev 133 18 L st h else ev 133 20 L st h := G_if_ne f133_15 (by decide)
theorem f133_18 : fetch 133 18 = some (.iconst 0, 1) := vtab tk133 10 rfl
theorem e133_18 (L : VL) (st : List Value) (h : VG) : ev 133 18 L (st) h = ev 133 19 L (.int (0 : Int32) :: st) h := G_iconst f133_18 (by decide)
theorem f133_19 : fetch 133 19 = some (.ireturn, 1) := vtab tk133 11 rfl
theorem e133_19 (L : VL) (h : VG) (x : Int32) (hz : x = 0 ∨ x = 1) : ev 133 19 L [.int x] h = some (some (.int x), h) := G_iret f133_19 (ty := .boolean) (by decide) (vbool hz).1
theorem f133_20 : fetch 133 20 = some (.aload_n 0, 1) := vtab tk133 12 rfl
theorem e133_20 (L : VL) (st : List Value) (h : VG) (x : Nat) : ev 133 20 (some (.ref x) :: L) (st) h = ev 133 21 (some (.ref x) :: L) (.ref x :: st) h := G_aload_n f133_20 rfl
theorem f133_21 : fetch 133 21 = some (.getfield 37, 3) := vtab tk133 13 rfl
theorem e133_21 (L : VL) (st : List Value) (h : VG) (a : Nat) (ho : ob h a 10) (hr : isR h a 6) : ev 133 21 L (.ref a :: st) h = ev 133 24 L (.ref (gR h a 6) :: st) h := G_getR (p := 435) f133_21 lkF_11_37 (by decide) (by decide) ho hr
theorem f133_24 : fetch 133 24 = some (.aload_n 0, 1) := vtab tk133 14 rfl
theorem e133_24 (L : VL) (st : List Value) (h : VG) (x : Nat) : ev 133 24 (some (.ref x) :: L) (st) h = ev 133 25 (some (.ref x) :: L) (.ref x :: st) h := G_aload_n f133_24 rfl
theorem f133_25 : fetch 133 25 = some (.getfield 41, 3) := vtab tk133 15 rfl
theorem e133_25 (L : VL) (st : List Value) (h : VG) (a : Nat) (ho : ob h a 10) (hr : isR h a 7) : ev 133 25 L (.ref a :: st) h = ev 133 28 L (.ref (gR h a 7) :: st) h := G_getR (p := 436) f133_25 lkF_11_41 (by decide) (by decide) ho hr
theorem f133_28 : fetch 133 28 = some (.iload_n 1, 1) := vtab tk133 16 rfl
theorem e133_28 (l0 : Option Value) (L : VL) (st : List Value) (h : VG) (x : Int32) : ev 133 28 (l0 :: some (.int x) :: L) (st) h = ev 133 29 (l0 :: some (.int x) :: L) (.int x :: st) h := G_iload_n f133_28 rfl
theorem f133_29 : fetch 133 29 = some (.aaload, 1) := vtab tk133 17 rfl
theorem e133_29 (L : VL) (st : List Value) (h : VG) (a : Nat) (i : Int32) (ha : rdR h a) (hi : vp_in i (aln h a)) : ev 133 29 L (.int i :: .ref a :: st) h = ev 133 30 L (va_rf (aR h a i.toNatClampNeg) :: st) h := G_aald' f133_29 ha hi
theorem f133_30 : fetch 133 30 = some (.invokevirtual 352, 3) := vtab tk133 18 rfl
theorem e133_30 (L : VL) (st : List Value) (h : VG) (b : Nat) (x0 : Nat) (ho : ob h b 8) (hs : catS st ≤ 8) : ev 133 30 L (.ref x0 :: .ref b :: st) h = (ev 81 0 [some (.ref b), some (.ref x0), none] [] h).bind fun q => ev 133 33 L (q.1.toList ++ st) q.2 := G_callv (k := 1) (p := 972) (ars := [.ref x0]) f133_30 lkC_11_352 (by decide) (by decide +kernel) rfl (vcls_ob (ci := 8) (by decide) ho) (Nat.le_of_ble_eq_true rfl) hs rfl
theorem f133_33 : fetch 133 33 = some (.iconst 1, 1) := vtab tk133 19 rfl
theorem e133_33 (L : VL) (st : List Value) (h : VG) : ev 133 33 L (st) h = ev 133 34 L (.int (1 : Int32) :: st) h := G_iconst f133_33 (by decide)
theorem f133_34 : fetch 133 34 = some (.ireturn, 1) := vtab tk133 20 rfl
theorem e133_34 (L : VL) (h : VG) (x : Int32) (hz : x = 0 ∨ x = 1) : ev 133 34 L [.int x] h = some (some (.int x), h) := G_iret f133_34 (ty := .boolean) (by decide) (vbool hz).1
/-! 134 GuestCalls.count(I)I -/
def tb134 : List (Nat × Instr × Nat) := [(0, .iload_n 1, 1), (1, .tableswitch 140 0 9 #[55, 63, 74, 93, 101, 106, 111, 116, 124, 135], 55), (56, .aload_n 0, 1), (57, .getfield 23, 3), (60, .getfield 92, 3), (63, .ireturn, 1), (64, .aload_n 0, 1), (65, .getfield 37, 3), (68, .getfield 170, 3), (71, .getfield 336, 3), (74, .ireturn, 1), (75, .aload_n 0, 1), (76, .getfield 37, 3), (79, .getfield 170, 3), (82, .getfield 356, 3), (85, .ifCond .eq 7, 3), (88, .iconst 1, 1), (89, .goto 4, 3), (92, .iconst 0, 1), (93, .ireturn, 1), (94, .aload_n 0, 1), (95, .getfield 37, 3), (98, .getfield 339, 3), (101, .ireturn, 1), (102, .aload_n 0, 1), (103, .invokevirtual 346, 3), (106, .ireturn, 1), (107, .aload_n 0, 1), (108, .getfield 63, 3), (111, .ireturn, 1), (112, .aload_n 0, 1), (113, .invokevirtual 359, 3), (116, .ireturn, 1), (117, .aload_n 0, 1), (118, .getfield 37, 3), (121, .invokevirtual 362, 3), (124, .ireturn, 1), (125, .aload_n 0, 1), (126, .getfield 37, 3), (129, .getfield 170, 3), (132, .invokevirtual 365, 3), (135, .ireturn, 1), (136, .aload_n 0, 1), (137, .getfield 89, 3), (140, .ireturn, 1), (141, .iconst (-1), 1), (142, .ireturn, 1)]
theorem tk134 : tb134.all (fun q => decide (fetch 134 q.1 = some q.2)) = true := by decide +kernel
theorem f134_0 : fetch 134 0 = some (.iload_n 1, 1) := vtab tk134 0 rfl
theorem e134_0 (l0 : Option Value) (L : VL) (st : List Value) (h : VG) (x : Int32) : ev 134 0 (l0 :: some (.int x) :: L) (st) h = ev 134 1 (l0 :: some (.int x) :: L) (.int x :: st) h := G_iload_n f134_0 rfl
theorem f134_1 : fetch 134 1 = some (.tableswitch 140 0 9 #[55, 63, 74, 93, 101, 106, 111, 116, 124, 135], 55) := vtab tk134 1 rfl
theorem e134_1 (L : VL) (st : List Value) (h : VG) (x : Int32) : ev 134 1 L (.int x :: st) h = if x = (0 : Int32) then ev 134 56 L st h else (if x = (1 : Int32) then ev 134 64 L st h else (if x = (2 : Int32) then ev 134 75 L st h else (if x = (3 : Int32) then ev 134 94 L st h else (if x = (4 : Int32) then ev 134 102 L st h else (if x = (5 : Int32) then ev 134 107 L st h else (if x = (6 : Int32) then ev 134 112 L st h else (if x = (7 : Int32) then ev 134 117 L st h else (if x = (8 : Int32) then ev 134 125 L st h else (if x = (9 : Int32) then ev 134 136 L st h else (ev 134 141 L st h)))))))))) := (G_tsw f134_1 (by decide) (by decide) (by decide)).trans rfl
theorem f134_56 : fetch 134 56 = some (.aload_n 0, 1) := vtab tk134 2 rfl
theorem e134_56 (L : VL) (st : List Value) (h : VG) (x : Nat) : ev 134 56 (some (.ref x) :: L) (st) h = ev 134 57 (some (.ref x) :: L) (.ref x :: st) h := G_aload_n f134_56 rfl
theorem f134_57 : fetch 134 57 = some (.getfield 23, 3) := vtab tk134 3 rfl
theorem e134_57 (L : VL) (st : List Value) (h : VG) (a : Nat) (ho : ob h a 10) (hr : isR h a 3) : ev 134 57 L (.ref a :: st) h = ev 134 60 L (.ref (gR h a 3) :: st) h := G_getR (p := 432) f134_57 lkF_11_23 (by decide) (by decide) ho hr
theorem f134_60 : fetch 134 60 = some (.getfield 92, 3) := vtab tk134 4 rfl
theorem e134_60 (L : VL) (st : List Value) (h : VG) (a : Nat) (ho : ob h a 6) : ev 134 60 L (.ref a :: st) h = ev 134 63 L (.int (gI h a 2) :: st) h := G_getI (p := 341) f134_60 lkF_11_92 (by decide) (by decide) ho
theorem f134_63 : fetch 134 63 = some (.ireturn, 1) := vtab tk134 5 rfl
theorem e134_63 (L : VL) (h : VG) (x : Int32) : ev 134 63 L [.int x] h = some (some (.int x), h) := G_iret f134_63 (ty := .int) (by decide) rfl
theorem f134_64 : fetch 134 64 = some (.aload_n 0, 1) := vtab tk134 6 rfl
theorem e134_64 (L : VL) (st : List Value) (h : VG) (x : Nat) : ev 134 64 (some (.ref x) :: L) (st) h = ev 134 65 (some (.ref x) :: L) (.ref x :: st) h := G_aload_n f134_64 rfl
theorem f134_65 : fetch 134 65 = some (.getfield 37, 3) := vtab tk134 7 rfl
theorem e134_65 (L : VL) (st : List Value) (h : VG) (a : Nat) (ho : ob h a 10) (hr : isR h a 6) : ev 134 65 L (.ref a :: st) h = ev 134 68 L (.ref (gR h a 6) :: st) h := G_getR (p := 435) f134_65 lkF_11_37 (by decide) (by decide) ho hr
theorem f134_68 : fetch 134 68 = some (.getfield 170, 3) := vtab tk134 8 rfl
theorem e134_68 (L : VL) (st : List Value) (h : VG) (a : Nat) (ho : ob h a 8) (hr : isR h a 0) : ev 134 68 L (.ref a :: st) h = ev 134 71 L (.ref (gR h a 0) :: st) h := G_getR (p := 383) f134_68 lkF_11_170 (by decide) (by decide) ho hr
theorem f134_71 : fetch 134 71 = some (.getfield 336, 3) := vtab tk134 9 rfl
theorem e134_71 (L : VL) (st : List Value) (h : VG) (a : Nat) (ho : ob h a 5) : ev 134 71 L (.ref a :: st) h = ev 134 74 L (.int (gI h a 1) :: st) h := G_getI (p := 229) f134_71 lkF_11_336 (by decide) (by decide) ho
theorem f134_74 : fetch 134 74 = some (.ireturn, 1) := vtab tk134 10 rfl
theorem e134_74 (L : VL) (h : VG) (x : Int32) : ev 134 74 L [.int x] h = some (some (.int x), h) := G_iret f134_74 (ty := .int) (by decide) rfl
theorem f134_75 : fetch 134 75 = some (.aload_n 0, 1) := vtab tk134 11 rfl
theorem e134_75 (L : VL) (st : List Value) (h : VG) (x : Nat) : ev 134 75 (some (.ref x) :: L) (st) h = ev 134 76 (some (.ref x) :: L) (.ref x :: st) h := G_aload_n f134_75 rfl
theorem f134_76 : fetch 134 76 = some (.getfield 37, 3) := vtab tk134 12 rfl
theorem e134_76 (L : VL) (st : List Value) (h : VG) (a : Nat) (ho : ob h a 10) (hr : isR h a 6) : ev 134 76 L (.ref a :: st) h = ev 134 79 L (.ref (gR h a 6) :: st) h := G_getR (p := 435) f134_76 lkF_11_37 (by decide) (by decide) ho hr
theorem f134_79 : fetch 134 79 = some (.getfield 170, 3) := vtab tk134 13 rfl
theorem e134_79 (L : VL) (st : List Value) (h : VG) (a : Nat) (ho : ob h a 8) (hr : isR h a 0) : ev 134 79 L (.ref a :: st) h = ev 134 82 L (.ref (gR h a 0) :: st) h := G_getR (p := 383) f134_79 lkF_11_170 (by decide) (by decide) ho hr
theorem f134_82 : fetch 134 82 = some (.getfield 356, 3) := vtab tk134 14 rfl
theorem e134_82 (L : VL) (st : List Value) (h : VG) (a : Nat) (ho : ob h a 5) : ev 134 82 L (.ref a :: st) h = ev 134 85 L (.int (gI h a 2) :: st) h := G_getI (p := 232) f134_82 lkF_11_356 (by decide) (by decide) ho
theorem f134_85 : fetch 134 85 = some (.ifCond .eq 7, 3) := vtab tk134 15 rfl
theorem e134_85 (L : VL) (st : List Value) (h : VG) (x : Int32) : ev 134 85 L (.int x :: st) h = if x = 0 then ev 134 92 L st h else ev 134 88 L st h := G_if_eq f134_85 (by decide)
theorem f134_88 : fetch 134 88 = some (.iconst 1, 1) := vtab tk134 16 rfl
theorem e134_88 (L : VL) (st : List Value) (h : VG) : ev 134 88 L (st) h = ev 134 89 L (.int (1 : Int32) :: st) h := G_iconst f134_88 (by decide)
theorem f134_89 : fetch 134 89 = some (.goto 4, 3) := vtab tk134 17 rfl
theorem e134_89 (L : VL) (st : List Value) (h : VG) : ev 134 89 L (st) h = ev 134 93 L (st) h := G_goto f134_89 (by decide)
theorem f134_92 : fetch 134 92 = some (.iconst 0, 1) := vtab tk134 18 rfl
theorem e134_92 (L : VL) (st : List Value) (h : VG) : ev 134 92 L (st) h = ev 134 93 L (.int (0 : Int32) :: st) h := G_iconst f134_92 (by decide)
theorem f134_93 : fetch 134 93 = some (.ireturn, 1) := vtab tk134 19 rfl
theorem e134_93 (L : VL) (h : VG) (x : Int32) : ev 134 93 L [.int x] h = some (some (.int x), h) := G_iret f134_93 (ty := .int) (by decide) rfl
theorem f134_94 : fetch 134 94 = some (.aload_n 0, 1) := vtab tk134 20 rfl
theorem e134_94 (L : VL) (st : List Value) (h : VG) (x : Nat) : ev 134 94 (some (.ref x) :: L) (st) h = ev 134 95 (some (.ref x) :: L) (.ref x :: st) h := G_aload_n f134_94 rfl
theorem f134_95 : fetch 134 95 = some (.getfield 37, 3) := vtab tk134 21 rfl
theorem e134_95 (L : VL) (st : List Value) (h : VG) (a : Nat) (ho : ob h a 10) (hr : isR h a 6) : ev 134 95 L (.ref a :: st) h = ev 134 98 L (.ref (gR h a 6) :: st) h := G_getR (p := 435) f134_95 lkF_11_37 (by decide) (by decide) ho hr
theorem f134_98 : fetch 134 98 = some (.getfield 339, 3) := vtab tk134 22 rfl
theorem e134_98 (L : VL) (st : List Value) (h : VG) (a : Nat) (ho : ob h a 8) : ev 134 98 L (.ref a :: st) h = ev 134 101 L (.int (gI h a 3) :: st) h := G_getI (p := 389) f134_98 lkF_11_339 (by decide) (by decide) ho
theorem f134_101 : fetch 134 101 = some (.ireturn, 1) := vtab tk134 23 rfl
theorem e134_101 (L : VL) (h : VG) (x : Int32) : ev 134 101 L [.int x] h = some (some (.int x), h) := G_iret f134_101 (ty := .int) (by decide) rfl
theorem f134_102 : fetch 134 102 = some (.aload_n 0, 1) := vtab tk134 24 rfl
theorem e134_102 (L : VL) (st : List Value) (h : VG) (x : Nat) : ev 134 102 (some (.ref x) :: L) (st) h = ev 134 103 (some (.ref x) :: L) (.ref x :: st) h := G_aload_n f134_102 rfl
theorem f134_103 : fetch 134 103 = some (.invokevirtual 346, 3) := vtab tk134 25 rfl
theorem e134_103 (L : VL) (st : List Value) (h : VG) (b : Nat)  (ho : ob h b 10) (hs : catS st ≤ 8) : ev 134 103 L (.ref b :: st) h = (ev 129 0 [some (.ref b)] [] h).bind fun q => ev 134 106 L (q.1.toList ++ st) q.2 := G_callv (k := 1) (p := 959) (ars := []) f134_103 lkC_11_346 (by decide) (by decide +kernel) rfl (vcls_ob (ci := 10) (by decide) ho) (Nat.le_of_ble_eq_true rfl) hs rfl
theorem f134_106 : fetch 134 106 = some (.ireturn, 1) := vtab tk134 26 rfl
theorem e134_106 (L : VL) (h : VG) (x : Int32) : ev 134 106 L [.int x] h = some (some (.int x), h) := G_iret f134_106 (ty := .int) (by decide) rfl
theorem f134_107 : fetch 134 107 = some (.aload_n 0, 1) := vtab tk134 27 rfl
theorem e134_107 (L : VL) (st : List Value) (h : VG) (x : Nat) : ev 134 107 (some (.ref x) :: L) (st) h = ev 134 108 (some (.ref x) :: L) (.ref x :: st) h := G_aload_n f134_107 rfl
theorem f134_108 : fetch 134 108 = some (.getfield 63, 3) := vtab tk134 28 rfl
theorem e134_108 (L : VL) (st : List Value) (h : VG) (a : Nat) (ho : ob h a 10) : ev 134 108 L (.ref a :: st) h = ev 134 111 L (.int (gI h a 1) :: st) h := G_getI (p := 430) f134_108 lkF_11_63 (by decide) (by decide) ho
theorem f134_111 : fetch 134 111 = some (.ireturn, 1) := vtab tk134 29 rfl
theorem e134_111 (L : VL) (h : VG) (x : Int32) : ev 134 111 L [.int x] h = some (some (.int x), h) := G_iret f134_111 (ty := .int) (by decide) rfl
theorem f134_112 : fetch 134 112 = some (.aload_n 0, 1) := vtab tk134 30 rfl
theorem e134_112 (L : VL) (st : List Value) (h : VG) (x : Nat) : ev 134 112 (some (.ref x) :: L) (st) h = ev 134 113 (some (.ref x) :: L) (.ref x :: st) h := G_aload_n f134_112 rfl
theorem f134_113 : fetch 134 113 = some (.invokevirtual 359, 3) := vtab tk134 31 rfl
theorem e134_113 (L : VL) (st : List Value) (h : VG) (b : Nat)  (ho : ob h b 10) (hs : catS st ≤ 8) : ev 134 113 L (.ref b :: st) h = (ev 135 0 [some (.ref b), none, none] [] h).bind fun q => ev 134 116 L (q.1.toList ++ st) q.2 := G_callv (k := 1) (p := 989) (ars := []) f134_113 lkC_11_359 (by decide) (by decide +kernel) rfl (vcls_ob (ci := 10) (by decide) ho) (Nat.le_of_ble_eq_true rfl) hs rfl
theorem f134_116 : fetch 134 116 = some (.ireturn, 1) := vtab tk134 32 rfl
theorem e134_116 (L : VL) (h : VG) (x : Int32) : ev 134 116 L [.int x] h = some (some (.int x), h) := G_iret f134_116 (ty := .int) (by decide) rfl
theorem f134_117 : fetch 134 117 = some (.aload_n 0, 1) := vtab tk134 33 rfl
theorem e134_117 (L : VL) (st : List Value) (h : VG) (x : Nat) : ev 134 117 (some (.ref x) :: L) (st) h = ev 134 118 (some (.ref x) :: L) (.ref x :: st) h := G_aload_n f134_117 rfl
theorem f134_118 : fetch 134 118 = some (.getfield 37, 3) := vtab tk134 34 rfl
theorem e134_118 (L : VL) (st : List Value) (h : VG) (a : Nat) (ho : ob h a 10) (hr : isR h a 6) : ev 134 118 L (.ref a :: st) h = ev 134 121 L (.ref (gR h a 6) :: st) h := G_getR (p := 435) f134_118 lkF_11_37 (by decide) (by decide) ho hr
theorem f134_121 : fetch 134 121 = some (.invokevirtual 362, 3) := vtab tk134 35 rfl
theorem e134_121 (L : VL) (st : List Value) (h : VG) (b : Nat)  (ho : ob h b 8) (hs : catS st ≤ 8) : ev 134 121 L (.ref b :: st) h = (ev 82 0 [some (.ref b), none, none] [] h).bind fun q => ev 134 124 L (q.1.toList ++ st) q.2 := G_callv (k := 1) (p := 993) (ars := []) f134_121 lkC_11_362 (by decide) (by decide +kernel) rfl (vcls_ob (ci := 8) (by decide) ho) (Nat.le_of_ble_eq_true rfl) hs rfl
theorem f134_124 : fetch 134 124 = some (.ireturn, 1) := vtab tk134 36 rfl
theorem e134_124 (L : VL) (h : VG) (x : Int32) : ev 134 124 L [.int x] h = some (some (.int x), h) := G_iret f134_124 (ty := .int) (by decide) rfl
theorem f134_125 : fetch 134 125 = some (.aload_n 0, 1) := vtab tk134 37 rfl
theorem e134_125 (L : VL) (st : List Value) (h : VG) (x : Nat) : ev 134 125 (some (.ref x) :: L) (st) h = ev 134 126 (some (.ref x) :: L) (.ref x :: st) h := G_aload_n f134_125 rfl
theorem f134_126 : fetch 134 126 = some (.getfield 37, 3) := vtab tk134 38 rfl
theorem e134_126 (L : VL) (st : List Value) (h : VG) (a : Nat) (ho : ob h a 10) (hr : isR h a 6) : ev 134 126 L (.ref a :: st) h = ev 134 129 L (.ref (gR h a 6) :: st) h := G_getR (p := 435) f134_126 lkF_11_37 (by decide) (by decide) ho hr
theorem f134_129 : fetch 134 129 = some (.getfield 170, 3) := vtab tk134 39 rfl
theorem e134_129 (L : VL) (st : List Value) (h : VG) (a : Nat) (ho : ob h a 8) (hr : isR h a 0) : ev 134 129 L (.ref a :: st) h = ev 134 132 L (.ref (gR h a 0) :: st) h := G_getR (p := 383) f134_129 lkF_11_170 (by decide) (by decide) ho hr
theorem f134_132 : fetch 134 132 = some (.invokevirtual 365, 3) := vtab tk134 40 rfl
theorem e134_132 (L : VL) (st : List Value) (h : VG) (b : Nat)  (ho : ob h b 5) (hs : catS st ≤ 8) : ev 134 132 L (.ref b :: st) h = (ev 60 0 [some (.ref b), none, none] [] h).bind fun q => ev 134 135 L (q.1.toList ++ st) q.2 := G_callv (k := 1) (p := 997) (ars := []) f134_132 lkC_11_365 (by decide) (by decide +kernel) rfl (vcls_ob (ci := 5) (by decide) ho) (Nat.le_of_ble_eq_true rfl) hs rfl
theorem f134_135 : fetch 134 135 = some (.ireturn, 1) := vtab tk134 41 rfl
theorem e134_135 (L : VL) (h : VG) (x : Int32) : ev 134 135 L [.int x] h = some (some (.int x), h) := G_iret f134_135 (ty := .int) (by decide) rfl
theorem f134_136 : fetch 134 136 = some (.aload_n 0, 1) := vtab tk134 42 rfl
theorem e134_136 (L : VL) (st : List Value) (h : VG) (x : Nat) : ev 134 136 (some (.ref x) :: L) (st) h = ev 134 137 (some (.ref x) :: L) (.ref x :: st) h := G_aload_n f134_136 rfl
theorem f134_137 : fetch 134 137 = some (.getfield 89, 3) := vtab tk134 43 rfl
theorem e134_137 (L : VL) (st : List Value) (h : VG) (a : Nat) (ho : ob h a 10) : ev 134 137 L (.ref a :: st) h = ev 134 140 L (.int (gI h a 10) :: st) h := G_getI (p := 439) f134_137 lkF_11_89 (by decide) (by decide) ho
theorem f134_140 : fetch 134 140 = some (.ireturn, 1) := vtab tk134 44 rfl
theorem e134_140 (L : VL) (h : VG) (x : Int32) : ev 134 140 L [.int x] h = some (some (.int x), h) := G_iret f134_140 (ty := .int) (by decide) rfl
theorem f134_141 : fetch 134 141 = some (.iconst (-1), 1) := vtab tk134 45 rfl
theorem e134_141 (L : VL) (st : List Value) (h : VG) : ev 134 141 L (st) h = ev 134 142 L (.int (-1 : Int32) :: st) h := G_iconst f134_141 (by decide)
theorem f134_142 : fetch 134 142 = some (.ireturn, 1) := vtab tk134 46 rfl
theorem e134_142 (L : VL) (h : VG) (x : Int32) : ev 134 142 L [.int x] h = some (some (.int x), h) := G_iret f134_142 (ty := .int) (by decide) rfl
/-! 135 GuestCalls.heldSlots()I -/
def tb135 : List (Nat × Instr × Nat) := [(0, .iconst 0, 1), (1, .istore_n 1, 1), (2, .iconst 0, 1), (3, .istore_n 2, 1), (4, .iload_n 2, 1), (5, .iconst 2, 1), (6, .if_icmp .ge 26, 3), (9, .iload_n 1, 1), (10, .aload_n 0, 1), (11, .getfield 45, 3), (14, .iload_n 2, 1), (15, .baload, 1), (16, .ifCond .eq 7, 3), (19, .iconst 1, 1), (20, .goto 4, 3), (23, .iconst 0, 1), (24, .iadd, 1), (25, .istore_n 1, 1), (26, .iinc 2 1, 3), (29, .goto (-25), 3), (32, .iload_n 1, 1), (33, .ireturn, 1)]
theorem tk135 : tb135.all (fun q => decide (fetch 135 q.1 = some q.2)) = true := by decide +kernel
theorem f135_0 : fetch 135 0 = some (.iconst 0, 1) := vtab tk135 0 rfl
theorem e135_0 (L : VL) (st : List Value) (h : VG) : ev 135 0 L (st) h = ev 135 1 L (.int (0 : Int32) :: st) h := G_iconst f135_0 (by decide)
theorem f135_1 : fetch 135 1 = some (.istore_n 1, 1) := vtab tk135 1 rfl
theorem e135_1 (l0 l1 : Option Value) (L : VL) (st : List Value) (h : VG) (x : Int32) : ev 135 1 (l0 :: l1 :: L) (.int x :: st) h = ev 135 2 (vkk l0 :: some (.int x) :: L) (st) h := G_istore_n f135_1 rfl (S1_1 l0 l1 L _)
theorem f135_2 : fetch 135 2 = some (.iconst 0, 1) := vtab tk135 2 rfl
theorem e135_2 (L : VL) (st : List Value) (h : VG) : ev 135 2 L (st) h = ev 135 3 L (.int (0 : Int32) :: st) h := G_iconst f135_2 (by decide)
theorem f135_3 : fetch 135 3 = some (.istore_n 2, 1) := vtab tk135 3 rfl
theorem e135_3 (l0 l1 l2 : Option Value) (L : VL) (st : List Value) (h : VG) (x : Int32) : ev 135 3 (l0 :: l1 :: l2 :: L) (.int x :: st) h = ev 135 4 (l0 :: vkk l1 :: some (.int x) :: L) (st) h := G_istore_n f135_3 rfl (S1_2 l0 l1 l2 L _)
theorem f135_4 : fetch 135 4 = some (.iload_n 2, 1) := vtab tk135 4 rfl
theorem e135_4 (l0 l1 : Option Value) (L : VL) (st : List Value) (h : VG) (x : Int32) : ev 135 4 (l0 :: l1 :: some (.int x) :: L) (st) h = ev 135 5 (l0 :: l1 :: some (.int x) :: L) (.int x :: st) h := G_iload_n f135_4 rfl
theorem f135_5 : fetch 135 5 = some (.iconst 2, 1) := vtab tk135 5 rfl
theorem e135_5 (L : VL) (st : List Value) (h : VG) : ev 135 5 L (st) h = ev 135 6 L (.int (2 : Int32) :: st) h := G_iconst f135_5 (by decide)
theorem f135_6 : fetch 135 6 = some (.if_icmp .ge 26, 3) := vtab tk135 6 rfl
theorem e135_6 (L : VL) (st : List Value) (h : VG) (x y : Int32) : ev 135 6 L (.int y :: .int x :: st) h = if x < y then ev 135 9 L st h else ev 135 32 L st h := G_icmp_ge f135_6 (by decide)
theorem f135_9 : fetch 135 9 = some (.iload_n 1, 1) := vtab tk135 7 rfl
theorem e135_9 (l0 : Option Value) (L : VL) (st : List Value) (h : VG) (x : Int32) : ev 135 9 (l0 :: some (.int x) :: L) (st) h = ev 135 10 (l0 :: some (.int x) :: L) (.int x :: st) h := G_iload_n f135_9 rfl
theorem f135_10 : fetch 135 10 = some (.aload_n 0, 1) := vtab tk135 8 rfl
theorem e135_10 (L : VL) (st : List Value) (h : VG) (x : Nat) : ev 135 10 (some (.ref x) :: L) (st) h = ev 135 11 (some (.ref x) :: L) (.ref x :: st) h := G_aload_n f135_10 rfl
theorem f135_11 : fetch 135 11 = some (.getfield 45, 3) := vtab tk135 9 rfl
theorem e135_11 (L : VL) (st : List Value) (h : VG) (a : Nat) (ho : ob h a 10) (hr : isR h a 8) : ev 135 11 L (.ref a :: st) h = ev 135 14 L (.ref (gR h a 8) :: st) h := G_getR (p := 437) f135_11 lkF_11_45 (by decide) (by decide) ho hr
theorem f135_14 : fetch 135 14 = some (.iload_n 2, 1) := vtab tk135 10 rfl
theorem e135_14 (l0 l1 : Option Value) (L : VL) (st : List Value) (h : VG) (x : Int32) : ev 135 14 (l0 :: l1 :: some (.int x) :: L) (st) h = ev 135 15 (l0 :: l1 :: some (.int x) :: L) (.int x :: st) h := G_iload_n f135_14 rfl
theorem f135_15 : fetch 135 15 = some (.baload, 1) := vtab tk135 11 rfl
theorem e135_15 (L : VL) (st : List Value) (h : VG) (a : Nat) (i : Int32) (ha : rdB h a) (hi : vp_in i (aln h a)) : ev 135 15 L (.int i :: .ref a :: st) h = ev 135 16 L (.int (aI h a i.toNatClampNeg) :: st) h := G_bald' f135_15 ha hi
theorem f135_16 : fetch 135 16 = some (.ifCond .eq 7, 3) := vtab tk135 12 rfl
theorem e135_16 (L : VL) (st : List Value) (h : VG) (x : Int32) : ev 135 16 L (.int x :: st) h = if x = 0 then ev 135 23 L st h else ev 135 19 L st h := G_if_eq f135_16 (by decide)
theorem f135_19 : fetch 135 19 = some (.iconst 1, 1) := vtab tk135 13 rfl
theorem e135_19 (L : VL) (st : List Value) (h : VG) : ev 135 19 L (st) h = ev 135 20 L (.int (1 : Int32) :: st) h := G_iconst f135_19 (by decide)
theorem f135_20 : fetch 135 20 = some (.goto 4, 3) := vtab tk135 14 rfl
theorem e135_20 (L : VL) (st : List Value) (h : VG) : ev 135 20 L (st) h = ev 135 24 L (st) h := G_goto f135_20 (by decide)
theorem f135_23 : fetch 135 23 = some (.iconst 0, 1) := vtab tk135 15 rfl
theorem e135_23 (L : VL) (st : List Value) (h : VG) : ev 135 23 L (st) h = ev 135 24 L (.int (0 : Int32) :: st) h := G_iconst f135_23 (by decide)
theorem f135_24 : fetch 135 24 = some (.iadd, 1) := vtab tk135 16 rfl
theorem e135_24 (L : VL) (st : List Value) (h : VG) (x y : Int32) : ev 135 24 L (.int y :: .int x :: st) h = ev 135 25 L (.int (x + y) :: st) h := G_iadd f135_24
theorem f135_25 : fetch 135 25 = some (.istore_n 1, 1) := vtab tk135 17 rfl
theorem e135_25 (l0 l1 : Option Value) (L : VL) (st : List Value) (h : VG) (x : Int32) : ev 135 25 (l0 :: l1 :: L) (.int x :: st) h = ev 135 26 (vkk l0 :: some (.int x) :: L) (st) h := G_istore_n f135_25 rfl (S1_1 l0 l1 L _)
theorem f135_26 : fetch 135 26 = some (.iinc 2 1, 3) := vtab tk135 18 rfl
theorem e135_26 (l0 l1 : Option Value) (L : VL) (st : List Value) (h : VG) (x : Int32) : ev 135 26 (l0 :: l1 :: some (.int x) :: L) (st) h = ev 135 29 (l0 :: vkk l1 :: some (.int (x + (1 : Int32))) :: L) (st) h := G_iinc f135_26 rfl (by decide) (S1_2 l0 l1 (some (.int x)) L _)
theorem f135_29 : fetch 135 29 = some (.goto (-25), 3) := vtab tk135 19 rfl
theorem e135_29 (L : VL) (st : List Value) (h : VG) : ev 135 29 L (st) h = ev 135 4 L (st) h := G_goto f135_29 (by decide)
theorem f135_32 : fetch 135 32 = some (.iload_n 1, 1) := vtab tk135 20 rfl
theorem e135_32 (l0 : Option Value) (L : VL) (st : List Value) (h : VG) (x : Int32) : ev 135 32 (l0 :: some (.int x) :: L) (st) h = ev 135 33 (l0 :: some (.int x) :: L) (.int x :: st) h := G_iload_n f135_32 rfl
theorem f135_33 : fetch 135 33 = some (.ireturn, 1) := vtab tk135 21 rfl
theorem e135_33 (L : VL) (h : VG) (x : Int32) : ev 135 33 L [.int x] h = some (some (.int x), h) := G_iret f135_33 (ty := .int) (by decide) rfl
/-! 136 GuestCallsModel.<init>()V -/
def tb136 : List (Nat × Instr × Nat) := [(0, .aload_n 0, 1), (1, .invokespecial 7, 3), (4, .aload_n 0, 1), (5, .sipush 2000, 3), (8, .newarray .byte, 2), (10, .putfield 13, 3), (13, .aload_n 0, 1), (14, .sipush 2000, 3), (17, .newarray .byte, 2), (19, .putfield 17, 3), (22, .aload_n 0, 1), (23, .sipush 403, 3), (26, .newarray .int, 2), (28, .putfield 20, 3), (31, .aload_n 0, 1), (32, .sipush 403, 3), (35, .newarray .int, 2), (37, .putfield 24, 3), (40, .aload_n 0, 1), (41, .sipush 403, 3), (44, .newarray .int, 2), (46, .putfield 27, 3), (49, .aload_n 0, 1), (50, .sipush 403, 3), (53, .newarray .long, 2), (55, .putfield 30, 3), (58, .aload_n 0, 1), (59, .bipush 14, 2), (61, .newarray .long, 2), (63, .putfield 34, 3), (66, .aload_n 0, 1), (67, .iconst (-1), 1), (68, .putfield 37, 3), (71, .aload_n 0, 1), (72, .sipush 256, 3), (75, .putfield 40, 3), (78, .aload_n 0, 1), (79, .bipush 6, 2), (81, .newarray .int, 2), (83, .putfield 43, 3), (86, .aload_n 0, 1), (87, .bipush 48, 2), (89, .newarray .int, 2), (91, .putfield 46, 3), (94, .aload_n 0, 1), (95, .bipush 48, 2), (97, .newarray .int, 2), (99, .putfield 49, 3), (102, .aload_n 0, 1), (103, .sipush 256, 3), (106, .newarray .int, 2), (108, .putfield 52, 3), (111, .aload_n 0, 1), (112, .bipush 6, 2), (114, .newarray .int, 2), (116, .putfield 55, 3), (119, .aload_n 0, 1), (120, .bipush 48, 2), (122, .newarray .int, 2), (124, .putfield 58, 3), (127, .aload_n 0, 1), (128, .bipush 48, 2), (130, .newarray .int, 2), (132, .putfield 61, 3), (135, .aload_n 0, 1), (136, .sipush 256, 3), (139, .newarray .int, 2), (141, .putfield 64, 3), (144, .aload_n 0, 1), (145, .bipush 10, 2), (147, .newarray .int, 2), (149, .dup, 1), (150, .iconst 0, 1), (151, .iconst 1, 1), (152, .iastore, 1), (153, .dup, 1), (154, .iconst 1, 1), (155, .iconst 1, 1), (156, .iastore, 1), (157, .dup, 1), (158, .iconst 2, 1), (159, .iconst 2, 1), (160, .iastore, 1), (161, .dup, 1), (162, .iconst 3, 1), (163, .iconst 2, 1), (164, .iastore, 1), (165, .dup, 1), (166, .iconst 4, 1), (167, .iconst 4, 1), (168, .iastore, 1), (169, .dup, 1), (170, .iconst 5, 1), (171, .iconst 4, 1), (172, .iastore, 1), (173, .dup, 1), (174, .bipush 6, 2), (176, .iconst 4, 1), (177, .iastore, 1), (178, .dup, 1), (179, .bipush 7, 2), (181, .bipush 8, 2), (183, .iastore, 1), (184, .dup, 1), (185, .bipush 8, 2), (187, .bipush 8, 2), (189, .iastore, 1), (190, .dup, 1), (191, .bipush 9, 2), (193, .iconst 4, 1), (194, .iastore, 1), (195, .putfield 67, 3), (198, .aload_n 0, 1), (199, .bipush 10, 2), (201, .newarray .int, 2), (203, .dup, 1), (204, .iconst 0, 1), (205, .iconst 1, 1), (206, .iastore, 1), (207, .dup, 1), (208, .iconst 1, 1), (209, .iconst 1, 1), (210, .iastore, 1), (211, .dup, 1), (212, .iconst 2, 1), (213, .iconst 2, 1), (214, .iastore, 1), (215, .dup, 1), (216, .iconst 3, 1), (217, .iconst 2, 1), (218, .iastore, 1), (219, .dup, 1), (220, .iconst 4, 1), (221, .iconst 4, 1), (222, .iastore, 1), (223, .dup, 1), (224, .iconst 5, 1), (225, .bipush 8, 2), (227, .iastore, 1), (228, .dup, 1), (229, .bipush 6, 2), (231, .iconst 4, 1), (232, .iastore, 1), (233, .dup, 1), (234, .bipush 7, 2), (236, .bipush 8, 2), (238, .iastore, 1), (239, .dup, 1), (240, .bipush 8, 2), (242, .bipush 8, 2), (244, .iastore, 1), (245, .dup, 1), (246, .bipush 9, 2), (248, .bipush 8, 2), (250, .iastore, 1), (251, .putfield 70, 3), (254, .aload_n 0, 1), (255, .bipush 8, 2), (257, .newarray .int, 2), (259, .putfield 73, 3), (262, .aload_n 0, 1), (263, .bipush 8, 2), (265, .newarray .int, 2), (267, .putfield 76, 3), (270, .aload_n 0, 1), (271, .bipush 8, 2), (273, .newarray .int, 2), (275, .putfield 79, 3), (278, .aload_n 0, 1), (279, .sipush 320, 3), (282, .newarray .int, 2), (284, .putfield 82, 3), (287, .aload_n 0, 1), (288, .sipush 320, 3), (291, .newarray .long, 2), (293, .putfield 85, 3), (296, .aload_n 0, 1), (297, .sipush 320, 3), (300, .newarray .double, 2), (302, .putfield 88, 3), (305, .aload_n 0, 1), (306, .bipush 40, 2), (308, .newarray .int, 2), (310, .putfield 92, 3), (313, .aload_n 0, 1), (314, .bipush 40, 2), (316, .newarray .long, 2), (318, .putfield 95, 3), (321, .aload_n 0, 1), (322, .bipush 40, 2), (324, .newarray .double, 2), (326, .putfield 98, 3), (329, .aload_n 0, 1), (330, .sipush 512, 3), (333, .newarray .int, 2), (335, .putfield 101, 3), (338, .aload_n 0, 1), (339, .sipush 512, 3), (342, .newarray .boolean, 2), (344, .putfield 104, 3), (347, .aload_n 0, 1), (348, .bipush 8, 2), (350, .newarray .int, 2), (352, .putfield 108, 3), (355, .aload_n 0, 1), (356, .bipush 8, 2), (358, .newarray .int, 2), (360, .putfield 111, 3), (363, .aload_n 0, 1), (364, .sipush 2048, 3), (367, .newarray .int, 2), (369, .putfield 114, 3), (372, .aload_n 0, 1), (373, .bipush 8, 2), (375, .newarray .long, 2), (377, .putfield 117, 3), (380, .aload_n 0, 1), (381, .iconst 2, 1), (382, .newarray .boolean, 2), (384, .putfield 120, 3), (387, .aload_n 0, 1), (388, .sipush 512, 3), (391, .newarray .int, 2), (393, .putfield 123, 3), (396, .aload_n 0, 1), (397, .bipush 16, 2), (399, .newarray .int, 2), (401, .putfield 126, 3), (404, .aload_n 0, 1), (405, .bipush 16, 2), (407, .newarray .int, 2), (409, .putfield 129, 3), (412, .aload_n 0, 1), (413, .sipush 640, 3), (416, .newarray .int, 2), (418, .putfield 132, 3), (421, .aload_n 0, 1), (422, .sipush 640, 3), (425, .newarray .long, 2), (427, .putfield 135, 3), (430, .aload_n 0, 1), (431, .sipush 640, 3), (434, .newarray .double, 2), (436, .putfield 138, 3), (439, .aload_n 0, 1), (440, .bipush 16, 2), (442, .newarray .long, 2), (444, .putfield 141, 3), (447, .aload_n 0, 1), (448, .iconst 2, 1), (449, .newarray .int, 2), (451, .putfield 144, 3), (454, .aload_n 0, 1), (455, .getfield 34, 3), (458, .iconst 0, 1), (459, .bipush 98, 2), (461, .bipush 105, 2), (463, .bipush 103, 2), (465, .iconst 0, 1), (466, .iconst 0, 1), (467, .iconst 0, 1), (468, .iconst 0, 1), (469, .invokestatic 147, 3), (472, .lastore, 1), (473, .aload_n 0, 1), (474, .getfield 34, 3), (477, .iconst 1, 1), (478, .bipush 108, 2), (480, .bipush 105, 2), (482, .bipush 110, 2), (484, .bipush 101, 2), (486, .iconst 0, 1), (487, .iconst 0, 1), (488, .iconst 0, 1), (489, .invokestatic 147, 3), (492, .lastore, 1), (493, .aload_n 0, 1), (494, .getfield 34, 3), (497, .iconst 2, 1), (498, .bipush 102, 2), (500, .bipush 111, 2), (502, .bipush 114, 2), (504, .bipush 109, 2), (506, .iconst 0, 1), (507, .iconst 0, 1), (508, .iconst 0, 1), (509, .invokestatic 147, 3), (512, .lastore, 1), (513, .aload_n 0, 1), (514, .getfield 34, 3), (517, .iconst 3, 1), (518, .bipush 102, 2), (520, .bipush 105, 2), (522, .bipush 108, 2), (524, .bipush 108, 2), (526, .iconst 0, 1), (527, .iconst 0, 1), (528, .iconst 0, 1), (529, .invokestatic 147, 3), (532, .lastore, 1), (533, .aload_n 0, 1), (534, .getfield 34, 3), (537, .iconst 4, 1), (538, .bipush 102, 2), (540, .bipush 108, 2), (542, .bipush 97, 2), (544, .bipush 103, 2), (546, .iconst 0, 1), (547, .iconst 0, 1), (548, .iconst 0, 1), (549, .invokestatic 147, 3), (552, .lastore, 1), (553, .aload_n 0, 1), (554, .getfield 34, 3), (557, .iconst 5, 1), (558, .bipush 98, 2), (560, .bipush 121, 2), (562, .bipush 116, 2), (564, .bipush 101, 2), (566, .iconst 0, 1), (567, .iconst 0, 1), (568, .iconst 0, 1), (569, .invokestatic 147, 3), (572, .lastore, 1), (573, .aload_n 0, 1), (574, .getfield 34, 3), (577, .bipush 6, 2), (579, .bipush 99, 2), (581, .bipush 104, 2), (583, .bipush 97, 2), (585, .bipush 114, 2), (587, .iconst 0, 1), (588, .iconst 0, 1), (589, .iconst 0, 1), (590, .invokestatic 147, 3), (593, .lastore, 1), (594, .aload_n 0, 1), (595, .getfield 34, 3), (598, .bipush 7, 2), (600, .bipush 115, 2), (602, .bipush 104, 2), (604, .bipush 111, 2), (606, .bipush 114, 2), (608, .bipush 116, 2), (610, .iconst 0, 1), (611, .iconst 0, 1), (612, .invokestatic 147, 3), (615, .lastore, 1), (616, .aload_n 0, 1), (617, .getfield 34, 3), (620, .bipush 8, 2), (622, .bipush 105, 2), (624, .bipush 110, 2), (626, .bipush 116, 2), (628, .iconst 0, 1), (629, .iconst 0, 1), (630, .iconst 0, 1), (631, .iconst 0, 1), (632, .invokestatic 147, 3), (635, .lastore, 1), (636, .aload_n 0, 1), (637, .getfield 34, 3), (640, .bipush 9, 2), (642, .bipush 108, 2), (644, .bipush 111, 2), (646, .bipush 110, 2), (648, .bipush 103, 2), (650, .iconst 0, 1), (651, .iconst 0, 1), (652, .iconst 0, 1), (653, .invokestatic 147, 3), (656, .lastore, 1), (657, .aload_n 0, 1), (658, .getfield 34, 3), (661, .bipush 10, 2), (663, .bipush 102, 2), (665, .bipush 108, 2), (667, .bipush 111, 2), (669, .bipush 97, 2), (671, .bipush 116, 2), (673, .iconst 0, 1), (674, .iconst 0, 1), (675, .invokestatic 147, 3), (678, .lastore, 1), (679, .aload_n 0, 1), (680, .getfield 34, 3), (683, .bipush 11, 2), (685, .bipush 100, 2), (687, .bipush 111, 2), (689, .bipush 117, 2), (691, .bipush 98, 2), (693, .bipush 108, 2), (695, .bipush 101, 2), (697, .iconst 0, 1), (698, .invokestatic 147, 3), (701, .lastore, 1), (702, .aload_n 0, 1), (703, .getfield 34, 3), (706, .bipush 12, 2), (708, .bipush 113, 2), (710, .bipush 117, 2), (712, .bipush 97, 2), (714, .bipush 100, 2), (716, .iconst 0, 1), (717, .iconst 0, 1), (718, .iconst 0, 1), (719, .invokestatic 147, 3), (722, .lastore, 1), (723, .aload_n 0, 1), (724, .getfield 34, 3), (727, .bipush 13, 2), (729, .bipush 112, 2), (731, .bipush 116, 2), (733, .bipush 114, 2), (735, .iconst 0, 1), (736, .iconst 0, 1), (737, .iconst 0, 1), (738, .iconst 0, 1), (739, .invokestatic 147, 3), (742, .lastore, 1), (743, .iconst 0, 1), (744, .istore_n 1, 1), (745, .iload_n 1, 1), (746, .bipush 8, 2), (748, .if_icmp .ge 17, 3), (751, .aload_n 0, 1), (752, .getfield 76, 3), (755, .iload_n 1, 1), (756, .bipush 11, 2), (758, .iastore, 1), (759, .iinc 1 1, 3), (762, .goto (-17), 3), (765, .return_, 1)]
theorem tk136 : tb136.all (fun q => decide (fetch 136 q.1 = some q.2)) = true := by decide +kernel
theorem f136_0 : fetch 136 0 = some (.aload_n 0, 1) := vtab tk136 0 rfl
theorem e136_0 (L : VL) (st : List Value) (h : VG) (x : Nat) : ev 136 0 (some (.ref x) :: L) (st) h = ev 136 1 (some (.ref x) :: L) (.ref x :: st) h := G_aload_n f136_0 rfl
theorem f136_1 : fetch 136 1 = some (.invokespecial 7, 3) := vtab tk136 1 rfl
theorem e136_1 (L : VL) (st : List Value) (h : VG) (a : Nat) (hs : catS st ≤ 8) : ev 136 1 L (.ref a :: st) h = ev 136 4 L (st) h := G_objinit (y := 0) (p := 1006) f136_1 lkC_12_7 hs
theorem f136_4 : fetch 136 4 = some (.aload_n 0, 1) := vtab tk136 2 rfl
theorem e136_4 (L : VL) (st : List Value) (h : VG) (x : Nat) : ev 136 4 (some (.ref x) :: L) (st) h = ev 136 5 (some (.ref x) :: L) (.ref x :: st) h := G_aload_n f136_4 rfl
theorem f136_5 : fetch 136 5 = some (.sipush 2000, 3) := vtab tk136 3 rfl
theorem e136_5 (L : VL) (st : List Value) (h : VG) : ev 136 5 L (st) h = ev 136 8 L (.int (2000 : Int32) :: st) h := G_sipush f136_5 (by decide)
theorem f136_8 : fetch 136 8 = some (.newarray .byte, 2) := vtab tk136 4 rfl
theorem e136_8 (L : VL) (st : List Value) (h : VG) (n : Int32) (hn : ¬ n < 0 ∧ n.toNatClampNeg ≤ 4096) : ev 136 8 L (.int n :: st) h = ev 136 10 L (.ref h.2.1 :: st) (hnew h (.inl (2, n.toNatClampNeg, .inl (fun _ => 0))) n.toNatClampNeg) := G_newa f136_8 rfl hn
theorem f136_10 : fetch 136 10 = some (.putfield 13, 3) := vtab tk136 5 rfl
theorem e136_10 (L : VL) (st : List Value) (h : VG) (a : Nat) (x : Nat) (ho : ob h a 11) : ev 136 10 L (.ref x :: .ref a :: st) h = ev 136 13 L (st) (pR h a 1 x) := G_putR (p := 1014) f136_10 lkF_12_13 (by decide) (by decide) (by decide +kernel) ⟨rfl, rfl⟩ ho
theorem f136_13 : fetch 136 13 = some (.aload_n 0, 1) := vtab tk136 6 rfl
theorem e136_13 (L : VL) (st : List Value) (h : VG) (x : Nat) : ev 136 13 (some (.ref x) :: L) (st) h = ev 136 14 (some (.ref x) :: L) (.ref x :: st) h := G_aload_n f136_13 rfl
theorem f136_14 : fetch 136 14 = some (.sipush 2000, 3) := vtab tk136 7 rfl
theorem e136_14 (L : VL) (st : List Value) (h : VG) : ev 136 14 L (st) h = ev 136 17 L (.int (2000 : Int32) :: st) h := G_sipush f136_14 (by decide)
theorem f136_17 : fetch 136 17 = some (.newarray .byte, 2) := vtab tk136 8 rfl
theorem e136_17 (L : VL) (st : List Value) (h : VG) (n : Int32) (hn : ¬ n < 0 ∧ n.toNatClampNeg ≤ 4096) : ev 136 17 L (.int n :: st) h = ev 136 19 L (.ref h.2.1 :: st) (hnew h (.inl (2, n.toNatClampNeg, .inl (fun _ => 0))) n.toNatClampNeg) := G_newa f136_17 rfl hn
theorem f136_19 : fetch 136 19 = some (.putfield 17, 3) := vtab tk136 9 rfl
theorem e136_19 (L : VL) (st : List Value) (h : VG) (a : Nat) (x : Nat) (ho : ob h a 11) : ev 136 19 L (.ref x :: .ref a :: st) h = ev 136 22 L (st) (pR h a 3 x) := G_putR (p := 1016) f136_19 lkF_12_17 (by decide) (by decide) (by decide +kernel) ⟨rfl, rfl⟩ ho
theorem f136_22 : fetch 136 22 = some (.aload_n 0, 1) := vtab tk136 10 rfl
theorem e136_22 (L : VL) (st : List Value) (h : VG) (x : Nat) : ev 136 22 (some (.ref x) :: L) (st) h = ev 136 23 (some (.ref x) :: L) (.ref x :: st) h := G_aload_n f136_22 rfl
theorem f136_23 : fetch 136 23 = some (.sipush 403, 3) := vtab tk136 11 rfl
theorem e136_23 (L : VL) (st : List Value) (h : VG) : ev 136 23 L (st) h = ev 136 26 L (.int (403 : Int32) :: st) h := G_sipush f136_23 (by decide)
theorem f136_26 : fetch 136 26 = some (.newarray .int, 2) := vtab tk136 12 rfl
theorem e136_26 (L : VL) (st : List Value) (h : VG) (n : Int32) (hn : ¬ n < 0 ∧ n.toNatClampNeg ≤ 4096) : ev 136 26 L (.int n :: st) h = ev 136 28 L (.ref h.2.1 :: st) (hnew h (.inl (0, n.toNatClampNeg, .inl (fun _ => 0))) n.toNatClampNeg) := G_newa f136_26 rfl hn
theorem f136_28 : fetch 136 28 = some (.putfield 20, 3) := vtab tk136 13 rfl
theorem e136_28 (L : VL) (st : List Value) (h : VG) (a : Nat) (x : Nat) (ho : ob h a 11) : ev 136 28 L (.ref x :: .ref a :: st) h = ev 136 31 L (st) (pR h a 5 x) := G_putR (p := 1018) f136_28 lkF_12_20 (by decide) (by decide) (by decide +kernel) ⟨rfl, rfl⟩ ho
theorem f136_31 : fetch 136 31 = some (.aload_n 0, 1) := vtab tk136 14 rfl
theorem e136_31 (L : VL) (st : List Value) (h : VG) (x : Nat) : ev 136 31 (some (.ref x) :: L) (st) h = ev 136 32 (some (.ref x) :: L) (.ref x :: st) h := G_aload_n f136_31 rfl
theorem f136_32 : fetch 136 32 = some (.sipush 403, 3) := vtab tk136 15 rfl
theorem e136_32 (L : VL) (st : List Value) (h : VG) : ev 136 32 L (st) h = ev 136 35 L (.int (403 : Int32) :: st) h := G_sipush f136_32 (by decide)
theorem f136_35 : fetch 136 35 = some (.newarray .int, 2) := vtab tk136 16 rfl
theorem e136_35 (L : VL) (st : List Value) (h : VG) (n : Int32) (hn : ¬ n < 0 ∧ n.toNatClampNeg ≤ 4096) : ev 136 35 L (.int n :: st) h = ev 136 37 L (.ref h.2.1 :: st) (hnew h (.inl (0, n.toNatClampNeg, .inl (fun _ => 0))) n.toNatClampNeg) := G_newa f136_35 rfl hn
theorem f136_37 : fetch 136 37 = some (.putfield 24, 3) := vtab tk136 17 rfl
theorem e136_37 (L : VL) (st : List Value) (h : VG) (a : Nat) (x : Nat) (ho : ob h a 11) : ev 136 37 L (.ref x :: .ref a :: st) h = ev 136 40 L (st) (pR h a 6 x) := G_putR (p := 1019) f136_37 lkF_12_24 (by decide) (by decide) (by decide +kernel) ⟨rfl, rfl⟩ ho
theorem f136_40 : fetch 136 40 = some (.aload_n 0, 1) := vtab tk136 18 rfl
theorem e136_40 (L : VL) (st : List Value) (h : VG) (x : Nat) : ev 136 40 (some (.ref x) :: L) (st) h = ev 136 41 (some (.ref x) :: L) (.ref x :: st) h := G_aload_n f136_40 rfl
theorem f136_41 : fetch 136 41 = some (.sipush 403, 3) := vtab tk136 19 rfl
theorem e136_41 (L : VL) (st : List Value) (h : VG) : ev 136 41 L (st) h = ev 136 44 L (.int (403 : Int32) :: st) h := G_sipush f136_41 (by decide)
theorem f136_44 : fetch 136 44 = some (.newarray .int, 2) := vtab tk136 20 rfl
theorem e136_44 (L : VL) (st : List Value) (h : VG) (n : Int32) (hn : ¬ n < 0 ∧ n.toNatClampNeg ≤ 4096) : ev 136 44 L (.int n :: st) h = ev 136 46 L (.ref h.2.1 :: st) (hnew h (.inl (0, n.toNatClampNeg, .inl (fun _ => 0))) n.toNatClampNeg) := G_newa f136_44 rfl hn
theorem f136_46 : fetch 136 46 = some (.putfield 27, 3) := vtab tk136 21 rfl
theorem e136_46 (L : VL) (st : List Value) (h : VG) (a : Nat) (x : Nat) (ho : ob h a 11) : ev 136 46 L (.ref x :: .ref a :: st) h = ev 136 49 L (st) (pR h a 7 x) := G_putR (p := 1020) f136_46 lkF_12_27 (by decide) (by decide) (by decide +kernel) ⟨rfl, rfl⟩ ho
theorem f136_49 : fetch 136 49 = some (.aload_n 0, 1) := vtab tk136 22 rfl
theorem e136_49 (L : VL) (st : List Value) (h : VG) (x : Nat) : ev 136 49 (some (.ref x) :: L) (st) h = ev 136 50 (some (.ref x) :: L) (.ref x :: st) h := G_aload_n f136_49 rfl
theorem f136_50 : fetch 136 50 = some (.sipush 403, 3) := vtab tk136 23 rfl
theorem e136_50 (L : VL) (st : List Value) (h : VG) : ev 136 50 L (st) h = ev 136 53 L (.int (403 : Int32) :: st) h := G_sipush f136_50 (by decide)
theorem f136_53 : fetch 136 53 = some (.newarray .long, 2) := vtab tk136 24 rfl
theorem e136_53 (L : VL) (st : List Value) (h : VG) (n : Int32) (hn : ¬ n < 0 ∧ n.toNatClampNeg ≤ 4096) : ev 136 53 L (.int n :: st) h = ev 136 55 L (.ref h.2.1 :: st) (hnew h (.inl (1, n.toNatClampNeg, .inr (.inl (fun _ => 0)))) n.toNatClampNeg) := G_newa f136_53 rfl hn
theorem f136_55 : fetch 136 55 = some (.putfield 30, 3) := vtab tk136 25 rfl
theorem e136_55 (L : VL) (st : List Value) (h : VG) (a : Nat) (x : Nat) (ho : ob h a 11) : ev 136 55 L (.ref x :: .ref a :: st) h = ev 136 58 L (st) (pR h a 8 x) := G_putR (p := 1021) f136_55 lkF_12_30 (by decide) (by decide) (by decide +kernel) ⟨rfl, rfl⟩ ho
theorem f136_58 : fetch 136 58 = some (.aload_n 0, 1) := vtab tk136 26 rfl
theorem e136_58 (L : VL) (st : List Value) (h : VG) (x : Nat) : ev 136 58 (some (.ref x) :: L) (st) h = ev 136 59 (some (.ref x) :: L) (.ref x :: st) h := G_aload_n f136_58 rfl
theorem f136_59 : fetch 136 59 = some (.bipush 14, 2) := vtab tk136 27 rfl
theorem e136_59 (L : VL) (st : List Value) (h : VG) : ev 136 59 L (st) h = ev 136 61 L (.int (14 : Int32) :: st) h := G_bipush f136_59 (by decide)
theorem f136_61 : fetch 136 61 = some (.newarray .long, 2) := vtab tk136 28 rfl
theorem e136_61 (L : VL) (st : List Value) (h : VG) (n : Int32) (hn : ¬ n < 0 ∧ n.toNatClampNeg ≤ 4096) : ev 136 61 L (.int n :: st) h = ev 136 63 L (.ref h.2.1 :: st) (hnew h (.inl (1, n.toNatClampNeg, .inr (.inl (fun _ => 0)))) n.toNatClampNeg) := G_newa f136_61 rfl hn
theorem f136_63 : fetch 136 63 = some (.putfield 34, 3) := vtab tk136 29 rfl
theorem e136_63 (L : VL) (st : List Value) (h : VG) (a : Nat) (x : Nat) (ho : ob h a 11) : ev 136 63 L (.ref x :: .ref a :: st) h = ev 136 66 L (st) (pR h a 9 x) := G_putR (p := 1022) f136_63 lkF_12_34 (by decide) (by decide) (by decide +kernel) ⟨rfl, rfl⟩ ho
theorem f136_66 : fetch 136 66 = some (.aload_n 0, 1) := vtab tk136 30 rfl
theorem e136_66 (L : VL) (st : List Value) (h : VG) (x : Nat) : ev 136 66 (some (.ref x) :: L) (st) h = ev 136 67 (some (.ref x) :: L) (.ref x :: st) h := G_aload_n f136_66 rfl
theorem f136_67 : fetch 136 67 = some (.iconst (-1), 1) := vtab tk136 31 rfl
theorem e136_67 (L : VL) (st : List Value) (h : VG) : ev 136 67 L (st) h = ev 136 68 L (.int (-1 : Int32) :: st) h := G_iconst f136_67 (by decide)
theorem f136_68 : fetch 136 68 = some (.putfield 37, 3) := vtab tk136 32 rfl
theorem e136_68 (L : VL) (st : List Value) (h : VG) (a : Nat) (x : Int32) (ho : ob h a 11) : ev 136 68 L (.int x :: .ref a :: st) h = ev 136 71 L (st) (pI h a 16 x) := G_putI (p := 1029) f136_68 lkF_12_37 (by decide) (by decide) (by decide +kernel) ⟨rfl, rfl⟩ ho
theorem f136_71 : fetch 136 71 = some (.aload_n 0, 1) := vtab tk136 33 rfl
theorem e136_71 (L : VL) (st : List Value) (h : VG) (x : Nat) : ev 136 71 (some (.ref x) :: L) (st) h = ev 136 72 (some (.ref x) :: L) (.ref x :: st) h := G_aload_n f136_71 rfl
theorem f136_72 : fetch 136 72 = some (.sipush 256, 3) := vtab tk136 34 rfl
theorem e136_72 (L : VL) (st : List Value) (h : VG) : ev 136 72 L (st) h = ev 136 75 L (.int (256 : Int32) :: st) h := G_sipush f136_72 (by decide)
theorem f136_75 : fetch 136 75 = some (.putfield 40, 3) := vtab tk136 35 rfl
theorem e136_75 (L : VL) (st : List Value) (h : VG) (a : Nat) (x : Int32) (ho : ob h a 11) : ev 136 75 L (.int x :: .ref a :: st) h = ev 136 78 L (st) (pI h a 18 x) := G_putI (p := 1031) f136_75 lkF_12_40 (by decide) (by decide) (by decide +kernel) ⟨rfl, rfl⟩ ho
theorem f136_78 : fetch 136 78 = some (.aload_n 0, 1) := vtab tk136 36 rfl
theorem e136_78 (L : VL) (st : List Value) (h : VG) (x : Nat) : ev 136 78 (some (.ref x) :: L) (st) h = ev 136 79 (some (.ref x) :: L) (.ref x :: st) h := G_aload_n f136_78 rfl
theorem f136_79 : fetch 136 79 = some (.bipush 6, 2) := vtab tk136 37 rfl
theorem e136_79 (L : VL) (st : List Value) (h : VG) : ev 136 79 L (st) h = ev 136 81 L (.int (6 : Int32) :: st) h := G_bipush f136_79 (by decide)
theorem f136_81 : fetch 136 81 = some (.newarray .int, 2) := vtab tk136 38 rfl
theorem e136_81 (L : VL) (st : List Value) (h : VG) (n : Int32) (hn : ¬ n < 0 ∧ n.toNatClampNeg ≤ 4096) : ev 136 81 L (.int n :: st) h = ev 136 83 L (.ref h.2.1 :: st) (hnew h (.inl (0, n.toNatClampNeg, .inl (fun _ => 0))) n.toNatClampNeg) := G_newa f136_81 rfl hn
theorem f136_83 : fetch 136 83 = some (.putfield 43, 3) := vtab tk136 39 rfl
theorem e136_83 (L : VL) (st : List Value) (h : VG) (a : Nat) (x : Nat) (ho : ob h a 11) : ev 136 83 L (.ref x :: .ref a :: st) h = ev 136 86 L (st) (pR h a 20 x) := G_putR (p := 1033) f136_83 lkF_12_43 (by decide) (by decide) (by decide +kernel) ⟨rfl, rfl⟩ ho
theorem f136_86 : fetch 136 86 = some (.aload_n 0, 1) := vtab tk136 40 rfl
theorem e136_86 (L : VL) (st : List Value) (h : VG) (x : Nat) : ev 136 86 (some (.ref x) :: L) (st) h = ev 136 87 (some (.ref x) :: L) (.ref x :: st) h := G_aload_n f136_86 rfl
theorem f136_87 : fetch 136 87 = some (.bipush 48, 2) := vtab tk136 41 rfl
theorem e136_87 (L : VL) (st : List Value) (h : VG) : ev 136 87 L (st) h = ev 136 89 L (.int (48 : Int32) :: st) h := G_bipush f136_87 (by decide)
theorem f136_89 : fetch 136 89 = some (.newarray .int, 2) := vtab tk136 42 rfl
theorem e136_89 (L : VL) (st : List Value) (h : VG) (n : Int32) (hn : ¬ n < 0 ∧ n.toNatClampNeg ≤ 4096) : ev 136 89 L (.int n :: st) h = ev 136 91 L (.ref h.2.1 :: st) (hnew h (.inl (0, n.toNatClampNeg, .inl (fun _ => 0))) n.toNatClampNeg) := G_newa f136_89 rfl hn
theorem f136_91 : fetch 136 91 = some (.putfield 46, 3) := vtab tk136 43 rfl
theorem e136_91 (L : VL) (st : List Value) (h : VG) (a : Nat) (x : Nat) (ho : ob h a 11) : ev 136 91 L (.ref x :: .ref a :: st) h = ev 136 94 L (st) (pR h a 21 x) := G_putR (p := 1034) f136_91 lkF_12_46 (by decide) (by decide) (by decide +kernel) ⟨rfl, rfl⟩ ho
theorem f136_94 : fetch 136 94 = some (.aload_n 0, 1) := vtab tk136 44 rfl
theorem e136_94 (L : VL) (st : List Value) (h : VG) (x : Nat) : ev 136 94 (some (.ref x) :: L) (st) h = ev 136 95 (some (.ref x) :: L) (.ref x :: st) h := G_aload_n f136_94 rfl
theorem f136_95 : fetch 136 95 = some (.bipush 48, 2) := vtab tk136 45 rfl
theorem e136_95 (L : VL) (st : List Value) (h : VG) : ev 136 95 L (st) h = ev 136 97 L (.int (48 : Int32) :: st) h := G_bipush f136_95 (by decide)
theorem f136_97 : fetch 136 97 = some (.newarray .int, 2) := vtab tk136 46 rfl
theorem e136_97 (L : VL) (st : List Value) (h : VG) (n : Int32) (hn : ¬ n < 0 ∧ n.toNatClampNeg ≤ 4096) : ev 136 97 L (.int n :: st) h = ev 136 99 L (.ref h.2.1 :: st) (hnew h (.inl (0, n.toNatClampNeg, .inl (fun _ => 0))) n.toNatClampNeg) := G_newa f136_97 rfl hn
theorem f136_99 : fetch 136 99 = some (.putfield 49, 3) := vtab tk136 47 rfl
theorem e136_99 (L : VL) (st : List Value) (h : VG) (a : Nat) (x : Nat) (ho : ob h a 11) : ev 136 99 L (.ref x :: .ref a :: st) h = ev 136 102 L (st) (pR h a 22 x) := G_putR (p := 1035) f136_99 lkF_12_49 (by decide) (by decide) (by decide +kernel) ⟨rfl, rfl⟩ ho
theorem f136_102 : fetch 136 102 = some (.aload_n 0, 1) := vtab tk136 48 rfl
theorem e136_102 (L : VL) (st : List Value) (h : VG) (x : Nat) : ev 136 102 (some (.ref x) :: L) (st) h = ev 136 103 (some (.ref x) :: L) (.ref x :: st) h := G_aload_n f136_102 rfl
theorem f136_103 : fetch 136 103 = some (.sipush 256, 3) := vtab tk136 49 rfl
theorem e136_103 (L : VL) (st : List Value) (h : VG) : ev 136 103 L (st) h = ev 136 106 L (.int (256 : Int32) :: st) h := G_sipush f136_103 (by decide)
theorem f136_106 : fetch 136 106 = some (.newarray .int, 2) := vtab tk136 50 rfl
theorem e136_106 (L : VL) (st : List Value) (h : VG) (n : Int32) (hn : ¬ n < 0 ∧ n.toNatClampNeg ≤ 4096) : ev 136 106 L (.int n :: st) h = ev 136 108 L (.ref h.2.1 :: st) (hnew h (.inl (0, n.toNatClampNeg, .inl (fun _ => 0))) n.toNatClampNeg) := G_newa f136_106 rfl hn
theorem f136_108 : fetch 136 108 = some (.putfield 52, 3) := vtab tk136 51 rfl
theorem e136_108 (L : VL) (st : List Value) (h : VG) (a : Nat) (x : Nat) (ho : ob h a 11) : ev 136 108 L (.ref x :: .ref a :: st) h = ev 136 111 L (st) (pR h a 23 x) := G_putR (p := 1036) f136_108 lkF_12_52 (by decide) (by decide) (by decide +kernel) ⟨rfl, rfl⟩ ho
theorem f136_111 : fetch 136 111 = some (.aload_n 0, 1) := vtab tk136 52 rfl
theorem e136_111 (L : VL) (st : List Value) (h : VG) (x : Nat) : ev 136 111 (some (.ref x) :: L) (st) h = ev 136 112 (some (.ref x) :: L) (.ref x :: st) h := G_aload_n f136_111 rfl
theorem f136_112 : fetch 136 112 = some (.bipush 6, 2) := vtab tk136 53 rfl
theorem e136_112 (L : VL) (st : List Value) (h : VG) : ev 136 112 L (st) h = ev 136 114 L (.int (6 : Int32) :: st) h := G_bipush f136_112 (by decide)
theorem f136_114 : fetch 136 114 = some (.newarray .int, 2) := vtab tk136 54 rfl
theorem e136_114 (L : VL) (st : List Value) (h : VG) (n : Int32) (hn : ¬ n < 0 ∧ n.toNatClampNeg ≤ 4096) : ev 136 114 L (.int n :: st) h = ev 136 116 L (.ref h.2.1 :: st) (hnew h (.inl (0, n.toNatClampNeg, .inl (fun _ => 0))) n.toNatClampNeg) := G_newa f136_114 rfl hn
theorem f136_116 : fetch 136 116 = some (.putfield 55, 3) := vtab tk136 55 rfl
theorem e136_116 (L : VL) (st : List Value) (h : VG) (a : Nat) (x : Nat) (ho : ob h a 11) : ev 136 116 L (.ref x :: .ref a :: st) h = ev 136 119 L (st) (pR h a 27 x) := G_putR (p := 1040) f136_116 lkF_12_55 (by decide) (by decide) (by decide +kernel) ⟨rfl, rfl⟩ ho
theorem f136_119 : fetch 136 119 = some (.aload_n 0, 1) := vtab tk136 56 rfl
theorem e136_119 (L : VL) (st : List Value) (h : VG) (x : Nat) : ev 136 119 (some (.ref x) :: L) (st) h = ev 136 120 (some (.ref x) :: L) (.ref x :: st) h := G_aload_n f136_119 rfl
theorem f136_120 : fetch 136 120 = some (.bipush 48, 2) := vtab tk136 57 rfl
theorem e136_120 (L : VL) (st : List Value) (h : VG) : ev 136 120 L (st) h = ev 136 122 L (.int (48 : Int32) :: st) h := G_bipush f136_120 (by decide)
theorem f136_122 : fetch 136 122 = some (.newarray .int, 2) := vtab tk136 58 rfl
theorem e136_122 (L : VL) (st : List Value) (h : VG) (n : Int32) (hn : ¬ n < 0 ∧ n.toNatClampNeg ≤ 4096) : ev 136 122 L (.int n :: st) h = ev 136 124 L (.ref h.2.1 :: st) (hnew h (.inl (0, n.toNatClampNeg, .inl (fun _ => 0))) n.toNatClampNeg) := G_newa f136_122 rfl hn
theorem f136_124 : fetch 136 124 = some (.putfield 58, 3) := vtab tk136 59 rfl
theorem e136_124 (L : VL) (st : List Value) (h : VG) (a : Nat) (x : Nat) (ho : ob h a 11) : ev 136 124 L (.ref x :: .ref a :: st) h = ev 136 127 L (st) (pR h a 28 x) := G_putR (p := 1041) f136_124 lkF_12_58 (by decide) (by decide) (by decide +kernel) ⟨rfl, rfl⟩ ho
theorem f136_127 : fetch 136 127 = some (.aload_n 0, 1) := vtab tk136 60 rfl
theorem e136_127 (L : VL) (st : List Value) (h : VG) (x : Nat) : ev 136 127 (some (.ref x) :: L) (st) h = ev 136 128 (some (.ref x) :: L) (.ref x :: st) h := G_aload_n f136_127 rfl
theorem f136_128 : fetch 136 128 = some (.bipush 48, 2) := vtab tk136 61 rfl
theorem e136_128 (L : VL) (st : List Value) (h : VG) : ev 136 128 L (st) h = ev 136 130 L (.int (48 : Int32) :: st) h := G_bipush f136_128 (by decide)
theorem f136_130 : fetch 136 130 = some (.newarray .int, 2) := vtab tk136 62 rfl
theorem e136_130 (L : VL) (st : List Value) (h : VG) (n : Int32) (hn : ¬ n < 0 ∧ n.toNatClampNeg ≤ 4096) : ev 136 130 L (.int n :: st) h = ev 136 132 L (.ref h.2.1 :: st) (hnew h (.inl (0, n.toNatClampNeg, .inl (fun _ => 0))) n.toNatClampNeg) := G_newa f136_130 rfl hn
theorem f136_132 : fetch 136 132 = some (.putfield 61, 3) := vtab tk136 63 rfl
theorem e136_132 (L : VL) (st : List Value) (h : VG) (a : Nat) (x : Nat) (ho : ob h a 11) : ev 136 132 L (.ref x :: .ref a :: st) h = ev 136 135 L (st) (pR h a 29 x) := G_putR (p := 1042) f136_132 lkF_12_61 (by decide) (by decide) (by decide +kernel) ⟨rfl, rfl⟩ ho
theorem f136_135 : fetch 136 135 = some (.aload_n 0, 1) := vtab tk136 64 rfl
theorem e136_135 (L : VL) (st : List Value) (h : VG) (x : Nat) : ev 136 135 (some (.ref x) :: L) (st) h = ev 136 136 (some (.ref x) :: L) (.ref x :: st) h := G_aload_n f136_135 rfl
theorem f136_136 : fetch 136 136 = some (.sipush 256, 3) := vtab tk136 65 rfl
theorem e136_136 (L : VL) (st : List Value) (h : VG) : ev 136 136 L (st) h = ev 136 139 L (.int (256 : Int32) :: st) h := G_sipush f136_136 (by decide)
theorem f136_139 : fetch 136 139 = some (.newarray .int, 2) := vtab tk136 66 rfl
theorem e136_139 (L : VL) (st : List Value) (h : VG) (n : Int32) (hn : ¬ n < 0 ∧ n.toNatClampNeg ≤ 4096) : ev 136 139 L (.int n :: st) h = ev 136 141 L (.ref h.2.1 :: st) (hnew h (.inl (0, n.toNatClampNeg, .inl (fun _ => 0))) n.toNatClampNeg) := G_newa f136_139 rfl hn
theorem f136_141 : fetch 136 141 = some (.putfield 64, 3) := vtab tk136 67 rfl
theorem e136_141 (L : VL) (st : List Value) (h : VG) (a : Nat) (x : Nat) (ho : ob h a 11) : ev 136 141 L (.ref x :: .ref a :: st) h = ev 136 144 L (st) (pR h a 30 x) := G_putR (p := 1043) f136_141 lkF_12_64 (by decide) (by decide) (by decide +kernel) ⟨rfl, rfl⟩ ho
theorem f136_144 : fetch 136 144 = some (.aload_n 0, 1) := vtab tk136 68 rfl
theorem e136_144 (L : VL) (st : List Value) (h : VG) (x : Nat) : ev 136 144 (some (.ref x) :: L) (st) h = ev 136 145 (some (.ref x) :: L) (.ref x :: st) h := G_aload_n f136_144 rfl
theorem f136_145 : fetch 136 145 = some (.bipush 10, 2) := vtab tk136 69 rfl
theorem e136_145 (L : VL) (st : List Value) (h : VG) : ev 136 145 L (st) h = ev 136 147 L (.int (10 : Int32) :: st) h := G_bipush f136_145 (by decide)
theorem f136_147 : fetch 136 147 = some (.newarray .int, 2) := vtab tk136 70 rfl
theorem e136_147 (L : VL) (st : List Value) (h : VG) (n : Int32) (hn : ¬ n < 0 ∧ n.toNatClampNeg ≤ 4096) : ev 136 147 L (.int n :: st) h = ev 136 149 L (.ref h.2.1 :: st) (hnew h (.inl (0, n.toNatClampNeg, .inl (fun _ => 0))) n.toNatClampNeg) := G_newa f136_147 rfl hn
theorem f136_149 : fetch 136 149 = some (.dup, 1) := vtab tk136 71 rfl
theorem e136_149b (L : VL) (st : List Value) (h : VG) (x : Int32) : ev 136 149 L (.int x :: st) h = ev 136 150 L (.int x :: .int x :: st) h := G_dup_int f136_149
theorem e136_149 (L : VL) (st : List Value) (h : VG) (x : Nat) : ev 136 149 L (.ref x :: st) h = ev 136 150 L (.ref x :: .ref x :: st) h := G_dup_ref f136_149
theorem f136_150 : fetch 136 150 = some (.iconst 0, 1) := vtab tk136 72 rfl
theorem e136_150 (L : VL) (st : List Value) (h : VG) : ev 136 150 L (st) h = ev 136 151 L (.int (0 : Int32) :: st) h := G_iconst f136_150 (by decide)
theorem f136_151 : fetch 136 151 = some (.iconst 1, 1) := vtab tk136 73 rfl
theorem e136_151 (L : VL) (st : List Value) (h : VG) : ev 136 151 L (st) h = ev 136 152 L (.int (1 : Int32) :: st) h := G_iconst f136_151 (by decide)
theorem f136_152 : fetch 136 152 = some (.iastore, 1) := vtab tk136 74 rfl
theorem e136_152 (L : VL) (st : List Value) (h : VG) (a : Nat) (i : Int32) (x : Int32) (ha : arI h a 0) (hi : vp_in i (aln h a)) : ev 136 152 L (.int x :: .int i :: .ref a :: st) h = ev 136 153 L (st) (wI h a i.toNatClampNeg x) := G_iast f136_152 ha hi
theorem f136_153 : fetch 136 153 = some (.dup, 1) := vtab tk136 75 rfl
theorem e136_153b (L : VL) (st : List Value) (h : VG) (x : Int32) : ev 136 153 L (.int x :: st) h = ev 136 154 L (.int x :: .int x :: st) h := G_dup_int f136_153
theorem e136_153 (L : VL) (st : List Value) (h : VG) (x : Nat) : ev 136 153 L (.ref x :: st) h = ev 136 154 L (.ref x :: .ref x :: st) h := G_dup_ref f136_153
theorem f136_154 : fetch 136 154 = some (.iconst 1, 1) := vtab tk136 76 rfl
theorem e136_154 (L : VL) (st : List Value) (h : VG) : ev 136 154 L (st) h = ev 136 155 L (.int (1 : Int32) :: st) h := G_iconst f136_154 (by decide)
theorem f136_155 : fetch 136 155 = some (.iconst 1, 1) := vtab tk136 77 rfl
theorem e136_155 (L : VL) (st : List Value) (h : VG) : ev 136 155 L (st) h = ev 136 156 L (.int (1 : Int32) :: st) h := G_iconst f136_155 (by decide)
theorem f136_156 : fetch 136 156 = some (.iastore, 1) := vtab tk136 78 rfl
theorem e136_156 (L : VL) (st : List Value) (h : VG) (a : Nat) (i : Int32) (x : Int32) (ha : arI h a 0) (hi : vp_in i (aln h a)) : ev 136 156 L (.int x :: .int i :: .ref a :: st) h = ev 136 157 L (st) (wI h a i.toNatClampNeg x) := G_iast f136_156 ha hi
theorem f136_157 : fetch 136 157 = some (.dup, 1) := vtab tk136 79 rfl
theorem e136_157b (L : VL) (st : List Value) (h : VG) (x : Int32) : ev 136 157 L (.int x :: st) h = ev 136 158 L (.int x :: .int x :: st) h := G_dup_int f136_157
theorem e136_157 (L : VL) (st : List Value) (h : VG) (x : Nat) : ev 136 157 L (.ref x :: st) h = ev 136 158 L (.ref x :: .ref x :: st) h := G_dup_ref f136_157
theorem f136_158 : fetch 136 158 = some (.iconst 2, 1) := vtab tk136 80 rfl
theorem e136_158 (L : VL) (st : List Value) (h : VG) : ev 136 158 L (st) h = ev 136 159 L (.int (2 : Int32) :: st) h := G_iconst f136_158 (by decide)
theorem f136_159 : fetch 136 159 = some (.iconst 2, 1) := vtab tk136 81 rfl
theorem e136_159 (L : VL) (st : List Value) (h : VG) : ev 136 159 L (st) h = ev 136 160 L (.int (2 : Int32) :: st) h := G_iconst f136_159 (by decide)
theorem f136_160 : fetch 136 160 = some (.iastore, 1) := vtab tk136 82 rfl
theorem e136_160 (L : VL) (st : List Value) (h : VG) (a : Nat) (i : Int32) (x : Int32) (ha : arI h a 0) (hi : vp_in i (aln h a)) : ev 136 160 L (.int x :: .int i :: .ref a :: st) h = ev 136 161 L (st) (wI h a i.toNatClampNeg x) := G_iast f136_160 ha hi
theorem f136_161 : fetch 136 161 = some (.dup, 1) := vtab tk136 83 rfl
theorem e136_161b (L : VL) (st : List Value) (h : VG) (x : Int32) : ev 136 161 L (.int x :: st) h = ev 136 162 L (.int x :: .int x :: st) h := G_dup_int f136_161
theorem e136_161 (L : VL) (st : List Value) (h : VG) (x : Nat) : ev 136 161 L (.ref x :: st) h = ev 136 162 L (.ref x :: .ref x :: st) h := G_dup_ref f136_161
theorem f136_162 : fetch 136 162 = some (.iconst 3, 1) := vtab tk136 84 rfl
theorem e136_162 (L : VL) (st : List Value) (h : VG) : ev 136 162 L (st) h = ev 136 163 L (.int (3 : Int32) :: st) h := G_iconst f136_162 (by decide)
theorem f136_163 : fetch 136 163 = some (.iconst 2, 1) := vtab tk136 85 rfl
theorem e136_163 (L : VL) (st : List Value) (h : VG) : ev 136 163 L (st) h = ev 136 164 L (.int (2 : Int32) :: st) h := G_iconst f136_163 (by decide)
theorem f136_164 : fetch 136 164 = some (.iastore, 1) := vtab tk136 86 rfl
theorem e136_164 (L : VL) (st : List Value) (h : VG) (a : Nat) (i : Int32) (x : Int32) (ha : arI h a 0) (hi : vp_in i (aln h a)) : ev 136 164 L (.int x :: .int i :: .ref a :: st) h = ev 136 165 L (st) (wI h a i.toNatClampNeg x) := G_iast f136_164 ha hi
theorem f136_165 : fetch 136 165 = some (.dup, 1) := vtab tk136 87 rfl
theorem e136_165b (L : VL) (st : List Value) (h : VG) (x : Int32) : ev 136 165 L (.int x :: st) h = ev 136 166 L (.int x :: .int x :: st) h := G_dup_int f136_165
theorem e136_165 (L : VL) (st : List Value) (h : VG) (x : Nat) : ev 136 165 L (.ref x :: st) h = ev 136 166 L (.ref x :: .ref x :: st) h := G_dup_ref f136_165
theorem f136_166 : fetch 136 166 = some (.iconst 4, 1) := vtab tk136 88 rfl
theorem e136_166 (L : VL) (st : List Value) (h : VG) : ev 136 166 L (st) h = ev 136 167 L (.int (4 : Int32) :: st) h := G_iconst f136_166 (by decide)
theorem f136_167 : fetch 136 167 = some (.iconst 4, 1) := vtab tk136 89 rfl
theorem e136_167 (L : VL) (st : List Value) (h : VG) : ev 136 167 L (st) h = ev 136 168 L (.int (4 : Int32) :: st) h := G_iconst f136_167 (by decide)
theorem f136_168 : fetch 136 168 = some (.iastore, 1) := vtab tk136 90 rfl
theorem e136_168 (L : VL) (st : List Value) (h : VG) (a : Nat) (i : Int32) (x : Int32) (ha : arI h a 0) (hi : vp_in i (aln h a)) : ev 136 168 L (.int x :: .int i :: .ref a :: st) h = ev 136 169 L (st) (wI h a i.toNatClampNeg x) := G_iast f136_168 ha hi
theorem f136_169 : fetch 136 169 = some (.dup, 1) := vtab tk136 91 rfl
theorem e136_169b (L : VL) (st : List Value) (h : VG) (x : Int32) : ev 136 169 L (.int x :: st) h = ev 136 170 L (.int x :: .int x :: st) h := G_dup_int f136_169
theorem e136_169 (L : VL) (st : List Value) (h : VG) (x : Nat) : ev 136 169 L (.ref x :: st) h = ev 136 170 L (.ref x :: .ref x :: st) h := G_dup_ref f136_169
theorem f136_170 : fetch 136 170 = some (.iconst 5, 1) := vtab tk136 92 rfl
theorem e136_170 (L : VL) (st : List Value) (h : VG) : ev 136 170 L (st) h = ev 136 171 L (.int (5 : Int32) :: st) h := G_iconst f136_170 (by decide)
theorem f136_171 : fetch 136 171 = some (.iconst 4, 1) := vtab tk136 93 rfl
theorem e136_171 (L : VL) (st : List Value) (h : VG) : ev 136 171 L (st) h = ev 136 172 L (.int (4 : Int32) :: st) h := G_iconst f136_171 (by decide)
theorem f136_172 : fetch 136 172 = some (.iastore, 1) := vtab tk136 94 rfl
theorem e136_172 (L : VL) (st : List Value) (h : VG) (a : Nat) (i : Int32) (x : Int32) (ha : arI h a 0) (hi : vp_in i (aln h a)) : ev 136 172 L (.int x :: .int i :: .ref a :: st) h = ev 136 173 L (st) (wI h a i.toNatClampNeg x) := G_iast f136_172 ha hi
theorem f136_173 : fetch 136 173 = some (.dup, 1) := vtab tk136 95 rfl
theorem e136_173b (L : VL) (st : List Value) (h : VG) (x : Int32) : ev 136 173 L (.int x :: st) h = ev 136 174 L (.int x :: .int x :: st) h := G_dup_int f136_173
theorem e136_173 (L : VL) (st : List Value) (h : VG) (x : Nat) : ev 136 173 L (.ref x :: st) h = ev 136 174 L (.ref x :: .ref x :: st) h := G_dup_ref f136_173
theorem f136_174 : fetch 136 174 = some (.bipush 6, 2) := vtab tk136 96 rfl
theorem e136_174 (L : VL) (st : List Value) (h : VG) : ev 136 174 L (st) h = ev 136 176 L (.int (6 : Int32) :: st) h := G_bipush f136_174 (by decide)
theorem f136_176 : fetch 136 176 = some (.iconst 4, 1) := vtab tk136 97 rfl
theorem e136_176 (L : VL) (st : List Value) (h : VG) : ev 136 176 L (st) h = ev 136 177 L (.int (4 : Int32) :: st) h := G_iconst f136_176 (by decide)
theorem f136_177 : fetch 136 177 = some (.iastore, 1) := vtab tk136 98 rfl
theorem e136_177 (L : VL) (st : List Value) (h : VG) (a : Nat) (i : Int32) (x : Int32) (ha : arI h a 0) (hi : vp_in i (aln h a)) : ev 136 177 L (.int x :: .int i :: .ref a :: st) h = ev 136 178 L (st) (wI h a i.toNatClampNeg x) := G_iast f136_177 ha hi
theorem f136_178 : fetch 136 178 = some (.dup, 1) := vtab tk136 99 rfl
theorem e136_178b (L : VL) (st : List Value) (h : VG) (x : Int32) : ev 136 178 L (.int x :: st) h = ev 136 179 L (.int x :: .int x :: st) h := G_dup_int f136_178
theorem e136_178 (L : VL) (st : List Value) (h : VG) (x : Nat) : ev 136 178 L (.ref x :: st) h = ev 136 179 L (.ref x :: .ref x :: st) h := G_dup_ref f136_178
theorem f136_179 : fetch 136 179 = some (.bipush 7, 2) := vtab tk136 100 rfl
theorem e136_179 (L : VL) (st : List Value) (h : VG) : ev 136 179 L (st) h = ev 136 181 L (.int (7 : Int32) :: st) h := G_bipush f136_179 (by decide)
theorem f136_181 : fetch 136 181 = some (.bipush 8, 2) := vtab tk136 101 rfl
theorem e136_181 (L : VL) (st : List Value) (h : VG) : ev 136 181 L (st) h = ev 136 183 L (.int (8 : Int32) :: st) h := G_bipush f136_181 (by decide)
theorem f136_183 : fetch 136 183 = some (.iastore, 1) := vtab tk136 102 rfl
theorem e136_183 (L : VL) (st : List Value) (h : VG) (a : Nat) (i : Int32) (x : Int32) (ha : arI h a 0) (hi : vp_in i (aln h a)) : ev 136 183 L (.int x :: .int i :: .ref a :: st) h = ev 136 184 L (st) (wI h a i.toNatClampNeg x) := G_iast f136_183 ha hi
theorem f136_184 : fetch 136 184 = some (.dup, 1) := vtab tk136 103 rfl
theorem e136_184b (L : VL) (st : List Value) (h : VG) (x : Int32) : ev 136 184 L (.int x :: st) h = ev 136 185 L (.int x :: .int x :: st) h := G_dup_int f136_184
theorem e136_184 (L : VL) (st : List Value) (h : VG) (x : Nat) : ev 136 184 L (.ref x :: st) h = ev 136 185 L (.ref x :: .ref x :: st) h := G_dup_ref f136_184
theorem f136_185 : fetch 136 185 = some (.bipush 8, 2) := vtab tk136 104 rfl
theorem e136_185 (L : VL) (st : List Value) (h : VG) : ev 136 185 L (st) h = ev 136 187 L (.int (8 : Int32) :: st) h := G_bipush f136_185 (by decide)
theorem f136_187 : fetch 136 187 = some (.bipush 8, 2) := vtab tk136 105 rfl
theorem e136_187 (L : VL) (st : List Value) (h : VG) : ev 136 187 L (st) h = ev 136 189 L (.int (8 : Int32) :: st) h := G_bipush f136_187 (by decide)
theorem f136_189 : fetch 136 189 = some (.iastore, 1) := vtab tk136 106 rfl
theorem e136_189 (L : VL) (st : List Value) (h : VG) (a : Nat) (i : Int32) (x : Int32) (ha : arI h a 0) (hi : vp_in i (aln h a)) : ev 136 189 L (.int x :: .int i :: .ref a :: st) h = ev 136 190 L (st) (wI h a i.toNatClampNeg x) := G_iast f136_189 ha hi
theorem f136_190 : fetch 136 190 = some (.dup, 1) := vtab tk136 107 rfl
theorem e136_190b (L : VL) (st : List Value) (h : VG) (x : Int32) : ev 136 190 L (.int x :: st) h = ev 136 191 L (.int x :: .int x :: st) h := G_dup_int f136_190
theorem e136_190 (L : VL) (st : List Value) (h : VG) (x : Nat) : ev 136 190 L (.ref x :: st) h = ev 136 191 L (.ref x :: .ref x :: st) h := G_dup_ref f136_190
theorem f136_191 : fetch 136 191 = some (.bipush 9, 2) := vtab tk136 108 rfl
theorem e136_191 (L : VL) (st : List Value) (h : VG) : ev 136 191 L (st) h = ev 136 193 L (.int (9 : Int32) :: st) h := G_bipush f136_191 (by decide)
theorem f136_193 : fetch 136 193 = some (.iconst 4, 1) := vtab tk136 109 rfl
theorem e136_193 (L : VL) (st : List Value) (h : VG) : ev 136 193 L (st) h = ev 136 194 L (.int (4 : Int32) :: st) h := G_iconst f136_193 (by decide)
theorem f136_194 : fetch 136 194 = some (.iastore, 1) := vtab tk136 110 rfl
theorem e136_194 (L : VL) (st : List Value) (h : VG) (a : Nat) (i : Int32) (x : Int32) (ha : arI h a 0) (hi : vp_in i (aln h a)) : ev 136 194 L (.int x :: .int i :: .ref a :: st) h = ev 136 195 L (st) (wI h a i.toNatClampNeg x) := G_iast f136_194 ha hi
theorem f136_195 : fetch 136 195 = some (.putfield 67, 3) := vtab tk136 111 rfl
theorem e136_195 (L : VL) (st : List Value) (h : VG) (a : Nat) (x : Nat) (ho : ob h a 11) : ev 136 195 L (.ref x :: .ref a :: st) h = ev 136 198 L (st) (pR h a 33 x) := G_putR (p := 1046) f136_195 lkF_12_67 (by decide) (by decide) (by decide +kernel) ⟨rfl, rfl⟩ ho
theorem f136_198 : fetch 136 198 = some (.aload_n 0, 1) := vtab tk136 112 rfl
theorem e136_198 (L : VL) (st : List Value) (h : VG) (x : Nat) : ev 136 198 (some (.ref x) :: L) (st) h = ev 136 199 (some (.ref x) :: L) (.ref x :: st) h := G_aload_n f136_198 rfl
theorem f136_199 : fetch 136 199 = some (.bipush 10, 2) := vtab tk136 113 rfl
theorem e136_199 (L : VL) (st : List Value) (h : VG) : ev 136 199 L (st) h = ev 136 201 L (.int (10 : Int32) :: st) h := G_bipush f136_199 (by decide)
theorem f136_201 : fetch 136 201 = some (.newarray .int, 2) := vtab tk136 114 rfl
theorem e136_201 (L : VL) (st : List Value) (h : VG) (n : Int32) (hn : ¬ n < 0 ∧ n.toNatClampNeg ≤ 4096) : ev 136 201 L (.int n :: st) h = ev 136 203 L (.ref h.2.1 :: st) (hnew h (.inl (0, n.toNatClampNeg, .inl (fun _ => 0))) n.toNatClampNeg) := G_newa f136_201 rfl hn
theorem f136_203 : fetch 136 203 = some (.dup, 1) := vtab tk136 115 rfl
theorem e136_203b (L : VL) (st : List Value) (h : VG) (x : Int32) : ev 136 203 L (.int x :: st) h = ev 136 204 L (.int x :: .int x :: st) h := G_dup_int f136_203
theorem e136_203 (L : VL) (st : List Value) (h : VG) (x : Nat) : ev 136 203 L (.ref x :: st) h = ev 136 204 L (.ref x :: .ref x :: st) h := G_dup_ref f136_203
theorem f136_204 : fetch 136 204 = some (.iconst 0, 1) := vtab tk136 116 rfl
theorem e136_204 (L : VL) (st : List Value) (h : VG) : ev 136 204 L (st) h = ev 136 205 L (.int (0 : Int32) :: st) h := G_iconst f136_204 (by decide)
theorem f136_205 : fetch 136 205 = some (.iconst 1, 1) := vtab tk136 117 rfl
theorem e136_205 (L : VL) (st : List Value) (h : VG) : ev 136 205 L (st) h = ev 136 206 L (.int (1 : Int32) :: st) h := G_iconst f136_205 (by decide)
theorem f136_206 : fetch 136 206 = some (.iastore, 1) := vtab tk136 118 rfl
theorem e136_206 (L : VL) (st : List Value) (h : VG) (a : Nat) (i : Int32) (x : Int32) (ha : arI h a 0) (hi : vp_in i (aln h a)) : ev 136 206 L (.int x :: .int i :: .ref a :: st) h = ev 136 207 L (st) (wI h a i.toNatClampNeg x) := G_iast f136_206 ha hi
theorem f136_207 : fetch 136 207 = some (.dup, 1) := vtab tk136 119 rfl
theorem e136_207b (L : VL) (st : List Value) (h : VG) (x : Int32) : ev 136 207 L (.int x :: st) h = ev 136 208 L (.int x :: .int x :: st) h := G_dup_int f136_207
theorem e136_207 (L : VL) (st : List Value) (h : VG) (x : Nat) : ev 136 207 L (.ref x :: st) h = ev 136 208 L (.ref x :: .ref x :: st) h := G_dup_ref f136_207
theorem f136_208 : fetch 136 208 = some (.iconst 1, 1) := vtab tk136 120 rfl
theorem e136_208 (L : VL) (st : List Value) (h : VG) : ev 136 208 L (st) h = ev 136 209 L (.int (1 : Int32) :: st) h := G_iconst f136_208 (by decide)
theorem f136_209 : fetch 136 209 = some (.iconst 1, 1) := vtab tk136 121 rfl
theorem e136_209 (L : VL) (st : List Value) (h : VG) : ev 136 209 L (st) h = ev 136 210 L (.int (1 : Int32) :: st) h := G_iconst f136_209 (by decide)
theorem f136_210 : fetch 136 210 = some (.iastore, 1) := vtab tk136 122 rfl
theorem e136_210 (L : VL) (st : List Value) (h : VG) (a : Nat) (i : Int32) (x : Int32) (ha : arI h a 0) (hi : vp_in i (aln h a)) : ev 136 210 L (.int x :: .int i :: .ref a :: st) h = ev 136 211 L (st) (wI h a i.toNatClampNeg x) := G_iast f136_210 ha hi
theorem f136_211 : fetch 136 211 = some (.dup, 1) := vtab tk136 123 rfl
theorem e136_211b (L : VL) (st : List Value) (h : VG) (x : Int32) : ev 136 211 L (.int x :: st) h = ev 136 212 L (.int x :: .int x :: st) h := G_dup_int f136_211
theorem e136_211 (L : VL) (st : List Value) (h : VG) (x : Nat) : ev 136 211 L (.ref x :: st) h = ev 136 212 L (.ref x :: .ref x :: st) h := G_dup_ref f136_211
theorem f136_212 : fetch 136 212 = some (.iconst 2, 1) := vtab tk136 124 rfl
theorem e136_212 (L : VL) (st : List Value) (h : VG) : ev 136 212 L (st) h = ev 136 213 L (.int (2 : Int32) :: st) h := G_iconst f136_212 (by decide)
theorem f136_213 : fetch 136 213 = some (.iconst 2, 1) := vtab tk136 125 rfl
theorem e136_213 (L : VL) (st : List Value) (h : VG) : ev 136 213 L (st) h = ev 136 214 L (.int (2 : Int32) :: st) h := G_iconst f136_213 (by decide)
theorem f136_214 : fetch 136 214 = some (.iastore, 1) := vtab tk136 126 rfl
theorem e136_214 (L : VL) (st : List Value) (h : VG) (a : Nat) (i : Int32) (x : Int32) (ha : arI h a 0) (hi : vp_in i (aln h a)) : ev 136 214 L (.int x :: .int i :: .ref a :: st) h = ev 136 215 L (st) (wI h a i.toNatClampNeg x) := G_iast f136_214 ha hi
theorem f136_215 : fetch 136 215 = some (.dup, 1) := vtab tk136 127 rfl
theorem e136_215b (L : VL) (st : List Value) (h : VG) (x : Int32) : ev 136 215 L (.int x :: st) h = ev 136 216 L (.int x :: .int x :: st) h := G_dup_int f136_215
theorem e136_215 (L : VL) (st : List Value) (h : VG) (x : Nat) : ev 136 215 L (.ref x :: st) h = ev 136 216 L (.ref x :: .ref x :: st) h := G_dup_ref f136_215
theorem f136_216 : fetch 136 216 = some (.iconst 3, 1) := vtab tk136 128 rfl
theorem e136_216 (L : VL) (st : List Value) (h : VG) : ev 136 216 L (st) h = ev 136 217 L (.int (3 : Int32) :: st) h := G_iconst f136_216 (by decide)
theorem f136_217 : fetch 136 217 = some (.iconst 2, 1) := vtab tk136 129 rfl
theorem e136_217 (L : VL) (st : List Value) (h : VG) : ev 136 217 L (st) h = ev 136 218 L (.int (2 : Int32) :: st) h := G_iconst f136_217 (by decide)
theorem f136_218 : fetch 136 218 = some (.iastore, 1) := vtab tk136 130 rfl
theorem e136_218 (L : VL) (st : List Value) (h : VG) (a : Nat) (i : Int32) (x : Int32) (ha : arI h a 0) (hi : vp_in i (aln h a)) : ev 136 218 L (.int x :: .int i :: .ref a :: st) h = ev 136 219 L (st) (wI h a i.toNatClampNeg x) := G_iast f136_218 ha hi
theorem f136_219 : fetch 136 219 = some (.dup, 1) := vtab tk136 131 rfl
theorem e136_219b (L : VL) (st : List Value) (h : VG) (x : Int32) : ev 136 219 L (.int x :: st) h = ev 136 220 L (.int x :: .int x :: st) h := G_dup_int f136_219
theorem e136_219 (L : VL) (st : List Value) (h : VG) (x : Nat) : ev 136 219 L (.ref x :: st) h = ev 136 220 L (.ref x :: .ref x :: st) h := G_dup_ref f136_219
theorem f136_220 : fetch 136 220 = some (.iconst 4, 1) := vtab tk136 132 rfl
theorem e136_220 (L : VL) (st : List Value) (h : VG) : ev 136 220 L (st) h = ev 136 221 L (.int (4 : Int32) :: st) h := G_iconst f136_220 (by decide)
theorem f136_221 : fetch 136 221 = some (.iconst 4, 1) := vtab tk136 133 rfl
theorem e136_221 (L : VL) (st : List Value) (h : VG) : ev 136 221 L (st) h = ev 136 222 L (.int (4 : Int32) :: st) h := G_iconst f136_221 (by decide)
theorem f136_222 : fetch 136 222 = some (.iastore, 1) := vtab tk136 134 rfl
theorem e136_222 (L : VL) (st : List Value) (h : VG) (a : Nat) (i : Int32) (x : Int32) (ha : arI h a 0) (hi : vp_in i (aln h a)) : ev 136 222 L (.int x :: .int i :: .ref a :: st) h = ev 136 223 L (st) (wI h a i.toNatClampNeg x) := G_iast f136_222 ha hi
theorem f136_223 : fetch 136 223 = some (.dup, 1) := vtab tk136 135 rfl
theorem e136_223b (L : VL) (st : List Value) (h : VG) (x : Int32) : ev 136 223 L (.int x :: st) h = ev 136 224 L (.int x :: .int x :: st) h := G_dup_int f136_223
theorem e136_223 (L : VL) (st : List Value) (h : VG) (x : Nat) : ev 136 223 L (.ref x :: st) h = ev 136 224 L (.ref x :: .ref x :: st) h := G_dup_ref f136_223
theorem f136_224 : fetch 136 224 = some (.iconst 5, 1) := vtab tk136 136 rfl
theorem e136_224 (L : VL) (st : List Value) (h : VG) : ev 136 224 L (st) h = ev 136 225 L (.int (5 : Int32) :: st) h := G_iconst f136_224 (by decide)
theorem f136_225 : fetch 136 225 = some (.bipush 8, 2) := vtab tk136 137 rfl
theorem e136_225 (L : VL) (st : List Value) (h : VG) : ev 136 225 L (st) h = ev 136 227 L (.int (8 : Int32) :: st) h := G_bipush f136_225 (by decide)
theorem f136_227 : fetch 136 227 = some (.iastore, 1) := vtab tk136 138 rfl
theorem e136_227 (L : VL) (st : List Value) (h : VG) (a : Nat) (i : Int32) (x : Int32) (ha : arI h a 0) (hi : vp_in i (aln h a)) : ev 136 227 L (.int x :: .int i :: .ref a :: st) h = ev 136 228 L (st) (wI h a i.toNatClampNeg x) := G_iast f136_227 ha hi
theorem f136_228 : fetch 136 228 = some (.dup, 1) := vtab tk136 139 rfl
theorem e136_228b (L : VL) (st : List Value) (h : VG) (x : Int32) : ev 136 228 L (.int x :: st) h = ev 136 229 L (.int x :: .int x :: st) h := G_dup_int f136_228
theorem e136_228 (L : VL) (st : List Value) (h : VG) (x : Nat) : ev 136 228 L (.ref x :: st) h = ev 136 229 L (.ref x :: .ref x :: st) h := G_dup_ref f136_228
theorem f136_229 : fetch 136 229 = some (.bipush 6, 2) := vtab tk136 140 rfl
theorem e136_229 (L : VL) (st : List Value) (h : VG) : ev 136 229 L (st) h = ev 136 231 L (.int (6 : Int32) :: st) h := G_bipush f136_229 (by decide)
theorem f136_231 : fetch 136 231 = some (.iconst 4, 1) := vtab tk136 141 rfl
theorem e136_231 (L : VL) (st : List Value) (h : VG) : ev 136 231 L (st) h = ev 136 232 L (.int (4 : Int32) :: st) h := G_iconst f136_231 (by decide)
theorem f136_232 : fetch 136 232 = some (.iastore, 1) := vtab tk136 142 rfl
theorem e136_232 (L : VL) (st : List Value) (h : VG) (a : Nat) (i : Int32) (x : Int32) (ha : arI h a 0) (hi : vp_in i (aln h a)) : ev 136 232 L (.int x :: .int i :: .ref a :: st) h = ev 136 233 L (st) (wI h a i.toNatClampNeg x) := G_iast f136_232 ha hi
theorem f136_233 : fetch 136 233 = some (.dup, 1) := vtab tk136 143 rfl
theorem e136_233b (L : VL) (st : List Value) (h : VG) (x : Int32) : ev 136 233 L (.int x :: st) h = ev 136 234 L (.int x :: .int x :: st) h := G_dup_int f136_233
theorem e136_233 (L : VL) (st : List Value) (h : VG) (x : Nat) : ev 136 233 L (.ref x :: st) h = ev 136 234 L (.ref x :: .ref x :: st) h := G_dup_ref f136_233
theorem f136_234 : fetch 136 234 = some (.bipush 7, 2) := vtab tk136 144 rfl
theorem e136_234 (L : VL) (st : List Value) (h : VG) : ev 136 234 L (st) h = ev 136 236 L (.int (7 : Int32) :: st) h := G_bipush f136_234 (by decide)
theorem f136_236 : fetch 136 236 = some (.bipush 8, 2) := vtab tk136 145 rfl
theorem e136_236 (L : VL) (st : List Value) (h : VG) : ev 136 236 L (st) h = ev 136 238 L (.int (8 : Int32) :: st) h := G_bipush f136_236 (by decide)
theorem f136_238 : fetch 136 238 = some (.iastore, 1) := vtab tk136 146 rfl
theorem e136_238 (L : VL) (st : List Value) (h : VG) (a : Nat) (i : Int32) (x : Int32) (ha : arI h a 0) (hi : vp_in i (aln h a)) : ev 136 238 L (.int x :: .int i :: .ref a :: st) h = ev 136 239 L (st) (wI h a i.toNatClampNeg x) := G_iast f136_238 ha hi
theorem f136_239 : fetch 136 239 = some (.dup, 1) := vtab tk136 147 rfl
theorem e136_239b (L : VL) (st : List Value) (h : VG) (x : Int32) : ev 136 239 L (.int x :: st) h = ev 136 240 L (.int x :: .int x :: st) h := G_dup_int f136_239
theorem e136_239 (L : VL) (st : List Value) (h : VG) (x : Nat) : ev 136 239 L (.ref x :: st) h = ev 136 240 L (.ref x :: .ref x :: st) h := G_dup_ref f136_239
theorem f136_240 : fetch 136 240 = some (.bipush 8, 2) := vtab tk136 148 rfl
theorem e136_240 (L : VL) (st : List Value) (h : VG) : ev 136 240 L (st) h = ev 136 242 L (.int (8 : Int32) :: st) h := G_bipush f136_240 (by decide)
theorem f136_242 : fetch 136 242 = some (.bipush 8, 2) := vtab tk136 149 rfl
theorem e136_242 (L : VL) (st : List Value) (h : VG) : ev 136 242 L (st) h = ev 136 244 L (.int (8 : Int32) :: st) h := G_bipush f136_242 (by decide)
theorem f136_244 : fetch 136 244 = some (.iastore, 1) := vtab tk136 150 rfl
theorem e136_244 (L : VL) (st : List Value) (h : VG) (a : Nat) (i : Int32) (x : Int32) (ha : arI h a 0) (hi : vp_in i (aln h a)) : ev 136 244 L (.int x :: .int i :: .ref a :: st) h = ev 136 245 L (st) (wI h a i.toNatClampNeg x) := G_iast f136_244 ha hi
theorem f136_245 : fetch 136 245 = some (.dup, 1) := vtab tk136 151 rfl
theorem e136_245b (L : VL) (st : List Value) (h : VG) (x : Int32) : ev 136 245 L (.int x :: st) h = ev 136 246 L (.int x :: .int x :: st) h := G_dup_int f136_245
theorem e136_245 (L : VL) (st : List Value) (h : VG) (x : Nat) : ev 136 245 L (.ref x :: st) h = ev 136 246 L (.ref x :: .ref x :: st) h := G_dup_ref f136_245
theorem f136_246 : fetch 136 246 = some (.bipush 9, 2) := vtab tk136 152 rfl
theorem e136_246 (L : VL) (st : List Value) (h : VG) : ev 136 246 L (st) h = ev 136 248 L (.int (9 : Int32) :: st) h := G_bipush f136_246 (by decide)
theorem f136_248 : fetch 136 248 = some (.bipush 8, 2) := vtab tk136 153 rfl
theorem e136_248 (L : VL) (st : List Value) (h : VG) : ev 136 248 L (st) h = ev 136 250 L (.int (8 : Int32) :: st) h := G_bipush f136_248 (by decide)
theorem f136_250 : fetch 136 250 = some (.iastore, 1) := vtab tk136 154 rfl
theorem e136_250 (L : VL) (st : List Value) (h : VG) (a : Nat) (i : Int32) (x : Int32) (ha : arI h a 0) (hi : vp_in i (aln h a)) : ev 136 250 L (.int x :: .int i :: .ref a :: st) h = ev 136 251 L (st) (wI h a i.toNatClampNeg x) := G_iast f136_250 ha hi
theorem f136_251 : fetch 136 251 = some (.putfield 70, 3) := vtab tk136 155 rfl
theorem e136_251 (L : VL) (st : List Value) (h : VG) (a : Nat) (x : Nat) (ho : ob h a 11) : ev 136 251 L (.ref x :: .ref a :: st) h = ev 136 254 L (st) (pR h a 34 x) := G_putR (p := 1047) f136_251 lkF_12_70 (by decide) (by decide) (by decide +kernel) ⟨rfl, rfl⟩ ho
theorem f136_254 : fetch 136 254 = some (.aload_n 0, 1) := vtab tk136 156 rfl
theorem e136_254 (L : VL) (st : List Value) (h : VG) (x : Nat) : ev 136 254 (some (.ref x) :: L) (st) h = ev 136 255 (some (.ref x) :: L) (.ref x :: st) h := G_aload_n f136_254 rfl
theorem f136_255 : fetch 136 255 = some (.bipush 8, 2) := vtab tk136 157 rfl
theorem e136_255 (L : VL) (st : List Value) (h : VG) : ev 136 255 L (st) h = ev 136 257 L (.int (8 : Int32) :: st) h := G_bipush f136_255 (by decide)
theorem f136_257 : fetch 136 257 = some (.newarray .int, 2) := vtab tk136 158 rfl
theorem e136_257 (L : VL) (st : List Value) (h : VG) (n : Int32) (hn : ¬ n < 0 ∧ n.toNatClampNeg ≤ 4096) : ev 136 257 L (.int n :: st) h = ev 136 259 L (.ref h.2.1 :: st) (hnew h (.inl (0, n.toNatClampNeg, .inl (fun _ => 0))) n.toNatClampNeg) := G_newa f136_257 rfl hn
theorem f136_259 : fetch 136 259 = some (.putfield 73, 3) := vtab tk136 159 rfl
theorem e136_259 (L : VL) (st : List Value) (h : VG) (a : Nat) (x : Nat) (ho : ob h a 11) : ev 136 259 L (.ref x :: .ref a :: st) h = ev 136 262 L (st) (pR h a 35 x) := G_putR (p := 1048) f136_259 lkF_12_73 (by decide) (by decide) (by decide +kernel) ⟨rfl, rfl⟩ ho
theorem f136_262 : fetch 136 262 = some (.aload_n 0, 1) := vtab tk136 160 rfl
theorem e136_262 (L : VL) (st : List Value) (h : VG) (x : Nat) : ev 136 262 (some (.ref x) :: L) (st) h = ev 136 263 (some (.ref x) :: L) (.ref x :: st) h := G_aload_n f136_262 rfl
theorem f136_263 : fetch 136 263 = some (.bipush 8, 2) := vtab tk136 161 rfl
theorem e136_263 (L : VL) (st : List Value) (h : VG) : ev 136 263 L (st) h = ev 136 265 L (.int (8 : Int32) :: st) h := G_bipush f136_263 (by decide)
theorem f136_265 : fetch 136 265 = some (.newarray .int, 2) := vtab tk136 162 rfl
theorem e136_265 (L : VL) (st : List Value) (h : VG) (n : Int32) (hn : ¬ n < 0 ∧ n.toNatClampNeg ≤ 4096) : ev 136 265 L (.int n :: st) h = ev 136 267 L (.ref h.2.1 :: st) (hnew h (.inl (0, n.toNatClampNeg, .inl (fun _ => 0))) n.toNatClampNeg) := G_newa f136_265 rfl hn
theorem f136_267 : fetch 136 267 = some (.putfield 76, 3) := vtab tk136 163 rfl
theorem e136_267 (L : VL) (st : List Value) (h : VG) (a : Nat) (x : Nat) (ho : ob h a 11) : ev 136 267 L (.ref x :: .ref a :: st) h = ev 136 270 L (st) (pR h a 42 x) := G_putR (p := 1055) f136_267 lkF_12_76 (by decide) (by decide) (by decide +kernel) ⟨rfl, rfl⟩ ho
theorem f136_270 : fetch 136 270 = some (.aload_n 0, 1) := vtab tk136 164 rfl
theorem e136_270 (L : VL) (st : List Value) (h : VG) (x : Nat) : ev 136 270 (some (.ref x) :: L) (st) h = ev 136 271 (some (.ref x) :: L) (.ref x :: st) h := G_aload_n f136_270 rfl
theorem f136_271 : fetch 136 271 = some (.bipush 8, 2) := vtab tk136 165 rfl
theorem e136_271 (L : VL) (st : List Value) (h : VG) : ev 136 271 L (st) h = ev 136 273 L (.int (8 : Int32) :: st) h := G_bipush f136_271 (by decide)
theorem f136_273 : fetch 136 273 = some (.newarray .int, 2) := vtab tk136 166 rfl
theorem e136_273 (L : VL) (st : List Value) (h : VG) (n : Int32) (hn : ¬ n < 0 ∧ n.toNatClampNeg ≤ 4096) : ev 136 273 L (.int n :: st) h = ev 136 275 L (.ref h.2.1 :: st) (hnew h (.inl (0, n.toNatClampNeg, .inl (fun _ => 0))) n.toNatClampNeg) := G_newa f136_273 rfl hn
theorem f136_275 : fetch 136 275 = some (.putfield 79, 3) := vtab tk136 167 rfl
theorem e136_275 (L : VL) (st : List Value) (h : VG) (a : Nat) (x : Nat) (ho : ob h a 11) : ev 136 275 L (.ref x :: .ref a :: st) h = ev 136 278 L (st) (pR h a 43 x) := G_putR (p := 1056) f136_275 lkF_12_79 (by decide) (by decide) (by decide +kernel) ⟨rfl, rfl⟩ ho
theorem f136_278 : fetch 136 278 = some (.aload_n 0, 1) := vtab tk136 168 rfl
theorem e136_278 (L : VL) (st : List Value) (h : VG) (x : Nat) : ev 136 278 (some (.ref x) :: L) (st) h = ev 136 279 (some (.ref x) :: L) (.ref x :: st) h := G_aload_n f136_278 rfl
theorem f136_279 : fetch 136 279 = some (.sipush 320, 3) := vtab tk136 169 rfl
theorem e136_279 (L : VL) (st : List Value) (h : VG) : ev 136 279 L (st) h = ev 136 282 L (.int (320 : Int32) :: st) h := G_sipush f136_279 (by decide)
theorem f136_282 : fetch 136 282 = some (.newarray .int, 2) := vtab tk136 170 rfl
theorem e136_282 (L : VL) (st : List Value) (h : VG) (n : Int32) (hn : ¬ n < 0 ∧ n.toNatClampNeg ≤ 4096) : ev 136 282 L (.int n :: st) h = ev 136 284 L (.ref h.2.1 :: st) (hnew h (.inl (0, n.toNatClampNeg, .inl (fun _ => 0))) n.toNatClampNeg) := G_newa f136_282 rfl hn
theorem f136_284 : fetch 136 284 = some (.putfield 82, 3) := vtab tk136 171 rfl
theorem e136_284 (L : VL) (st : List Value) (h : VG) (a : Nat) (x : Nat) (ho : ob h a 11) : ev 136 284 L (.ref x :: .ref a :: st) h = ev 136 287 L (st) (pR h a 44 x) := G_putR (p := 1057) f136_284 lkF_12_82 (by decide) (by decide) (by decide +kernel) ⟨rfl, rfl⟩ ho
theorem f136_287 : fetch 136 287 = some (.aload_n 0, 1) := vtab tk136 172 rfl
theorem e136_287 (L : VL) (st : List Value) (h : VG) (x : Nat) : ev 136 287 (some (.ref x) :: L) (st) h = ev 136 288 (some (.ref x) :: L) (.ref x :: st) h := G_aload_n f136_287 rfl
theorem f136_288 : fetch 136 288 = some (.sipush 320, 3) := vtab tk136 173 rfl
theorem e136_288 (L : VL) (st : List Value) (h : VG) : ev 136 288 L (st) h = ev 136 291 L (.int (320 : Int32) :: st) h := G_sipush f136_288 (by decide)
theorem f136_291 : fetch 136 291 = some (.newarray .long, 2) := vtab tk136 174 rfl
theorem e136_291 (L : VL) (st : List Value) (h : VG) (n : Int32) (hn : ¬ n < 0 ∧ n.toNatClampNeg ≤ 4096) : ev 136 291 L (.int n :: st) h = ev 136 293 L (.ref h.2.1 :: st) (hnew h (.inl (1, n.toNatClampNeg, .inr (.inl (fun _ => 0)))) n.toNatClampNeg) := G_newa f136_291 rfl hn
theorem f136_293 : fetch 136 293 = some (.putfield 85, 3) := vtab tk136 175 rfl
theorem e136_293 (L : VL) (st : List Value) (h : VG) (a : Nat) (x : Nat) (ho : ob h a 11) : ev 136 293 L (.ref x :: .ref a :: st) h = ev 136 296 L (st) (pR h a 45 x) := G_putR (p := 1058) f136_293 lkF_12_85 (by decide) (by decide) (by decide +kernel) ⟨rfl, rfl⟩ ho
theorem f136_296 : fetch 136 296 = some (.aload_n 0, 1) := vtab tk136 176 rfl
theorem e136_296 (L : VL) (st : List Value) (h : VG) (x : Nat) : ev 136 296 (some (.ref x) :: L) (st) h = ev 136 297 (some (.ref x) :: L) (.ref x :: st) h := G_aload_n f136_296 rfl
theorem f136_297 : fetch 136 297 = some (.sipush 320, 3) := vtab tk136 177 rfl
theorem e136_297 (L : VL) (st : List Value) (h : VG) : ev 136 297 L (st) h = ev 136 300 L (.int (320 : Int32) :: st) h := G_sipush f136_297 (by decide)
theorem f136_300 : fetch 136 300 = some (.newarray .double, 2) := vtab tk136 178 rfl
theorem e136_300 (L : VL) (st : List Value) (h : VG) (n : Int32) (hn : ¬ n < 0 ∧ n.toNatClampNeg ≤ 4096) : ev 136 300 L (.int n :: st) h = ev 136 302 L (.ref h.2.1 :: st) (hnew h (.inl (4, n.toNatClampNeg, .inr (.inr (.inr (.inl (fun _ => 0)))))) n.toNatClampNeg) := G_newa f136_300 rfl hn
theorem f136_302 : fetch 136 302 = some (.putfield 88, 3) := vtab tk136 179 rfl
theorem e136_302 (L : VL) (st : List Value) (h : VG) (a : Nat) (x : Nat) (ho : ob h a 11) : ev 136 302 L (.ref x :: .ref a :: st) h = ev 136 305 L (st) (pR h a 46 x) := G_putR (p := 1059) f136_302 lkF_12_88 (by decide) (by decide) (by decide +kernel) ⟨rfl, rfl⟩ ho
theorem f136_305 : fetch 136 305 = some (.aload_n 0, 1) := vtab tk136 180 rfl
theorem e136_305 (L : VL) (st : List Value) (h : VG) (x : Nat) : ev 136 305 (some (.ref x) :: L) (st) h = ev 136 306 (some (.ref x) :: L) (.ref x :: st) h := G_aload_n f136_305 rfl
theorem f136_306 : fetch 136 306 = some (.bipush 40, 2) := vtab tk136 181 rfl
theorem e136_306 (L : VL) (st : List Value) (h : VG) : ev 136 306 L (st) h = ev 136 308 L (.int (40 : Int32) :: st) h := G_bipush f136_306 (by decide)
theorem f136_308 : fetch 136 308 = some (.newarray .int, 2) := vtab tk136 182 rfl
theorem e136_308 (L : VL) (st : List Value) (h : VG) (n : Int32) (hn : ¬ n < 0 ∧ n.toNatClampNeg ≤ 4096) : ev 136 308 L (.int n :: st) h = ev 136 310 L (.ref h.2.1 :: st) (hnew h (.inl (0, n.toNatClampNeg, .inl (fun _ => 0))) n.toNatClampNeg) := G_newa f136_308 rfl hn
theorem f136_310 : fetch 136 310 = some (.putfield 92, 3) := vtab tk136 183 rfl
theorem e136_310 (L : VL) (st : List Value) (h : VG) (a : Nat) (x : Nat) (ho : ob h a 11) : ev 136 310 L (.ref x :: .ref a :: st) h = ev 136 313 L (st) (pR h a 47 x) := G_putR (p := 1060) f136_310 lkF_12_92 (by decide) (by decide) (by decide +kernel) ⟨rfl, rfl⟩ ho
theorem f136_313 : fetch 136 313 = some (.aload_n 0, 1) := vtab tk136 184 rfl
theorem e136_313 (L : VL) (st : List Value) (h : VG) (x : Nat) : ev 136 313 (some (.ref x) :: L) (st) h = ev 136 314 (some (.ref x) :: L) (.ref x :: st) h := G_aload_n f136_313 rfl
theorem f136_314 : fetch 136 314 = some (.bipush 40, 2) := vtab tk136 185 rfl
theorem e136_314 (L : VL) (st : List Value) (h : VG) : ev 136 314 L (st) h = ev 136 316 L (.int (40 : Int32) :: st) h := G_bipush f136_314 (by decide)
theorem f136_316 : fetch 136 316 = some (.newarray .long, 2) := vtab tk136 186 rfl
theorem e136_316 (L : VL) (st : List Value) (h : VG) (n : Int32) (hn : ¬ n < 0 ∧ n.toNatClampNeg ≤ 4096) : ev 136 316 L (.int n :: st) h = ev 136 318 L (.ref h.2.1 :: st) (hnew h (.inl (1, n.toNatClampNeg, .inr (.inl (fun _ => 0)))) n.toNatClampNeg) := G_newa f136_316 rfl hn
theorem f136_318 : fetch 136 318 = some (.putfield 95, 3) := vtab tk136 187 rfl
theorem e136_318 (L : VL) (st : List Value) (h : VG) (a : Nat) (x : Nat) (ho : ob h a 11) : ev 136 318 L (.ref x :: .ref a :: st) h = ev 136 321 L (st) (pR h a 48 x) := G_putR (p := 1061) f136_318 lkF_12_95 (by decide) (by decide) (by decide +kernel) ⟨rfl, rfl⟩ ho
theorem f136_321 : fetch 136 321 = some (.aload_n 0, 1) := vtab tk136 188 rfl
theorem e136_321 (L : VL) (st : List Value) (h : VG) (x : Nat) : ev 136 321 (some (.ref x) :: L) (st) h = ev 136 322 (some (.ref x) :: L) (.ref x :: st) h := G_aload_n f136_321 rfl
theorem f136_322 : fetch 136 322 = some (.bipush 40, 2) := vtab tk136 189 rfl
theorem e136_322 (L : VL) (st : List Value) (h : VG) : ev 136 322 L (st) h = ev 136 324 L (.int (40 : Int32) :: st) h := G_bipush f136_322 (by decide)
theorem f136_324 : fetch 136 324 = some (.newarray .double, 2) := vtab tk136 190 rfl
theorem e136_324 (L : VL) (st : List Value) (h : VG) (n : Int32) (hn : ¬ n < 0 ∧ n.toNatClampNeg ≤ 4096) : ev 136 324 L (.int n :: st) h = ev 136 326 L (.ref h.2.1 :: st) (hnew h (.inl (4, n.toNatClampNeg, .inr (.inr (.inr (.inl (fun _ => 0)))))) n.toNatClampNeg) := G_newa f136_324 rfl hn
theorem f136_326 : fetch 136 326 = some (.putfield 98, 3) := vtab tk136 191 rfl
theorem e136_326 (L : VL) (st : List Value) (h : VG) (a : Nat) (x : Nat) (ho : ob h a 11) : ev 136 326 L (.ref x :: .ref a :: st) h = ev 136 329 L (st) (pR h a 49 x) := G_putR (p := 1062) f136_326 lkF_12_98 (by decide) (by decide) (by decide +kernel) ⟨rfl, rfl⟩ ho
theorem f136_329 : fetch 136 329 = some (.aload_n 0, 1) := vtab tk136 192 rfl
theorem e136_329 (L : VL) (st : List Value) (h : VG) (x : Nat) : ev 136 329 (some (.ref x) :: L) (st) h = ev 136 330 (some (.ref x) :: L) (.ref x :: st) h := G_aload_n f136_329 rfl
theorem f136_330 : fetch 136 330 = some (.sipush 512, 3) := vtab tk136 193 rfl
theorem e136_330 (L : VL) (st : List Value) (h : VG) : ev 136 330 L (st) h = ev 136 333 L (.int (512 : Int32) :: st) h := G_sipush f136_330 (by decide)
theorem f136_333 : fetch 136 333 = some (.newarray .int, 2) := vtab tk136 194 rfl
theorem e136_333 (L : VL) (st : List Value) (h : VG) (n : Int32) (hn : ¬ n < 0 ∧ n.toNatClampNeg ≤ 4096) : ev 136 333 L (.int n :: st) h = ev 136 335 L (.ref h.2.1 :: st) (hnew h (.inl (0, n.toNatClampNeg, .inl (fun _ => 0))) n.toNatClampNeg) := G_newa f136_333 rfl hn
theorem f136_335 : fetch 136 335 = some (.putfield 101, 3) := vtab tk136 195 rfl
theorem e136_335 (L : VL) (st : List Value) (h : VG) (a : Nat) (x : Nat) (ho : ob h a 11) : ev 136 335 L (.ref x :: .ref a :: st) h = ev 136 338 L (st) (pR h a 50 x) := G_putR (p := 1063) f136_335 lkF_12_101 (by decide) (by decide) (by decide +kernel) ⟨rfl, rfl⟩ ho
theorem f136_338 : fetch 136 338 = some (.aload_n 0, 1) := vtab tk136 196 rfl
theorem e136_338 (L : VL) (st : List Value) (h : VG) (x : Nat) : ev 136 338 (some (.ref x) :: L) (st) h = ev 136 339 (some (.ref x) :: L) (.ref x :: st) h := G_aload_n f136_338 rfl
theorem f136_339 : fetch 136 339 = some (.sipush 512, 3) := vtab tk136 197 rfl
theorem e136_339 (L : VL) (st : List Value) (h : VG) : ev 136 339 L (st) h = ev 136 342 L (.int (512 : Int32) :: st) h := G_sipush f136_339 (by decide)
theorem f136_342 : fetch 136 342 = some (.newarray .boolean, 2) := vtab tk136 198 rfl
theorem e136_342 (L : VL) (st : List Value) (h : VG) (n : Int32) (hn : ¬ n < 0 ∧ n.toNatClampNeg ≤ 4096) : ev 136 342 L (.int n :: st) h = ev 136 344 L (.ref h.2.1 :: st) (hnew h (.inl (3, n.toNatClampNeg, .inl (fun _ => 0))) n.toNatClampNeg) := G_newa f136_342 rfl hn
theorem f136_344 : fetch 136 344 = some (.putfield 104, 3) := vtab tk136 199 rfl
theorem e136_344 (L : VL) (st : List Value) (h : VG) (a : Nat) (x : Nat) (ho : ob h a 11) : ev 136 344 L (.ref x :: .ref a :: st) h = ev 136 347 L (st) (pR h a 51 x) := G_putR (p := 1064) f136_344 lkF_12_104 (by decide) (by decide) (by decide +kernel) ⟨rfl, rfl⟩ ho
theorem f136_347 : fetch 136 347 = some (.aload_n 0, 1) := vtab tk136 200 rfl
theorem e136_347 (L : VL) (st : List Value) (h : VG) (x : Nat) : ev 136 347 (some (.ref x) :: L) (st) h = ev 136 348 (some (.ref x) :: L) (.ref x :: st) h := G_aload_n f136_347 rfl
theorem f136_348 : fetch 136 348 = some (.bipush 8, 2) := vtab tk136 201 rfl
theorem e136_348 (L : VL) (st : List Value) (h : VG) : ev 136 348 L (st) h = ev 136 350 L (.int (8 : Int32) :: st) h := G_bipush f136_348 (by decide)
theorem f136_350 : fetch 136 350 = some (.newarray .int, 2) := vtab tk136 202 rfl
theorem e136_350 (L : VL) (st : List Value) (h : VG) (n : Int32) (hn : ¬ n < 0 ∧ n.toNatClampNeg ≤ 4096) : ev 136 350 L (.int n :: st) h = ev 136 352 L (.ref h.2.1 :: st) (hnew h (.inl (0, n.toNatClampNeg, .inl (fun _ => 0))) n.toNatClampNeg) := G_newa f136_350 rfl hn
theorem f136_352 : fetch 136 352 = some (.putfield 108, 3) := vtab tk136 203 rfl
theorem e136_352 (L : VL) (st : List Value) (h : VG) (a : Nat) (x : Nat) (ho : ob h a 11) : ev 136 352 L (.ref x :: .ref a :: st) h = ev 136 355 L (st) (pR h a 52 x) := G_putR (p := 1065) f136_352 lkF_12_108 (by decide) (by decide) (by decide +kernel) ⟨rfl, rfl⟩ ho
theorem f136_355 : fetch 136 355 = some (.aload_n 0, 1) := vtab tk136 204 rfl
theorem e136_355 (L : VL) (st : List Value) (h : VG) (x : Nat) : ev 136 355 (some (.ref x) :: L) (st) h = ev 136 356 (some (.ref x) :: L) (.ref x :: st) h := G_aload_n f136_355 rfl
theorem f136_356 : fetch 136 356 = some (.bipush 8, 2) := vtab tk136 205 rfl
theorem e136_356 (L : VL) (st : List Value) (h : VG) : ev 136 356 L (st) h = ev 136 358 L (.int (8 : Int32) :: st) h := G_bipush f136_356 (by decide)
theorem f136_358 : fetch 136 358 = some (.newarray .int, 2) := vtab tk136 206 rfl
theorem e136_358 (L : VL) (st : List Value) (h : VG) (n : Int32) (hn : ¬ n < 0 ∧ n.toNatClampNeg ≤ 4096) : ev 136 358 L (.int n :: st) h = ev 136 360 L (.ref h.2.1 :: st) (hnew h (.inl (0, n.toNatClampNeg, .inl (fun _ => 0))) n.toNatClampNeg) := G_newa f136_358 rfl hn
theorem f136_360 : fetch 136 360 = some (.putfield 111, 3) := vtab tk136 207 rfl
theorem e136_360 (L : VL) (st : List Value) (h : VG) (a : Nat) (x : Nat) (ho : ob h a 11) : ev 136 360 L (.ref x :: .ref a :: st) h = ev 136 363 L (st) (pR h a 53 x) := G_putR (p := 1066) f136_360 lkF_12_111 (by decide) (by decide) (by decide +kernel) ⟨rfl, rfl⟩ ho
theorem f136_363 : fetch 136 363 = some (.aload_n 0, 1) := vtab tk136 208 rfl
theorem e136_363 (L : VL) (st : List Value) (h : VG) (x : Nat) : ev 136 363 (some (.ref x) :: L) (st) h = ev 136 364 (some (.ref x) :: L) (.ref x :: st) h := G_aload_n f136_363 rfl
theorem f136_364 : fetch 136 364 = some (.sipush 2048, 3) := vtab tk136 209 rfl
theorem e136_364 (L : VL) (st : List Value) (h : VG) : ev 136 364 L (st) h = ev 136 367 L (.int (2048 : Int32) :: st) h := G_sipush f136_364 (by decide)
theorem f136_367 : fetch 136 367 = some (.newarray .int, 2) := vtab tk136 210 rfl
theorem e136_367 (L : VL) (st : List Value) (h : VG) (n : Int32) (hn : ¬ n < 0 ∧ n.toNatClampNeg ≤ 4096) : ev 136 367 L (.int n :: st) h = ev 136 369 L (.ref h.2.1 :: st) (hnew h (.inl (0, n.toNatClampNeg, .inl (fun _ => 0))) n.toNatClampNeg) := G_newa f136_367 rfl hn
theorem f136_369 : fetch 136 369 = some (.putfield 114, 3) := vtab tk136 211 rfl
theorem e136_369 (L : VL) (st : List Value) (h : VG) (a : Nat) (x : Nat) (ho : ob h a 11) : ev 136 369 L (.ref x :: .ref a :: st) h = ev 136 372 L (st) (pR h a 55 x) := G_putR (p := 1068) f136_369 lkF_12_114 (by decide) (by decide) (by decide +kernel) ⟨rfl, rfl⟩ ho
theorem f136_372 : fetch 136 372 = some (.aload_n 0, 1) := vtab tk136 212 rfl
theorem e136_372 (L : VL) (st : List Value) (h : VG) (x : Nat) : ev 136 372 (some (.ref x) :: L) (st) h = ev 136 373 (some (.ref x) :: L) (.ref x :: st) h := G_aload_n f136_372 rfl
theorem f136_373 : fetch 136 373 = some (.bipush 8, 2) := vtab tk136 213 rfl
theorem e136_373 (L : VL) (st : List Value) (h : VG) : ev 136 373 L (st) h = ev 136 375 L (.int (8 : Int32) :: st) h := G_bipush f136_373 (by decide)
theorem f136_375 : fetch 136 375 = some (.newarray .long, 2) := vtab tk136 214 rfl
theorem e136_375 (L : VL) (st : List Value) (h : VG) (n : Int32) (hn : ¬ n < 0 ∧ n.toNatClampNeg ≤ 4096) : ev 136 375 L (.int n :: st) h = ev 136 377 L (.ref h.2.1 :: st) (hnew h (.inl (1, n.toNatClampNeg, .inr (.inl (fun _ => 0)))) n.toNatClampNeg) := G_newa f136_375 rfl hn
theorem f136_377 : fetch 136 377 = some (.putfield 117, 3) := vtab tk136 215 rfl
theorem e136_377 (L : VL) (st : List Value) (h : VG) (a : Nat) (x : Nat) (ho : ob h a 11) : ev 136 377 L (.ref x :: .ref a :: st) h = ev 136 380 L (st) (pR h a 56 x) := G_putR (p := 1069) f136_377 lkF_12_117 (by decide) (by decide) (by decide +kernel) ⟨rfl, rfl⟩ ho
theorem f136_380 : fetch 136 380 = some (.aload_n 0, 1) := vtab tk136 216 rfl
theorem e136_380 (L : VL) (st : List Value) (h : VG) (x : Nat) : ev 136 380 (some (.ref x) :: L) (st) h = ev 136 381 (some (.ref x) :: L) (.ref x :: st) h := G_aload_n f136_380 rfl
theorem f136_381 : fetch 136 381 = some (.iconst 2, 1) := vtab tk136 217 rfl
theorem e136_381 (L : VL) (st : List Value) (h : VG) : ev 136 381 L (st) h = ev 136 382 L (.int (2 : Int32) :: st) h := G_iconst f136_381 (by decide)
theorem f136_382 : fetch 136 382 = some (.newarray .boolean, 2) := vtab tk136 218 rfl
theorem e136_382 (L : VL) (st : List Value) (h : VG) (n : Int32) (hn : ¬ n < 0 ∧ n.toNatClampNeg ≤ 4096) : ev 136 382 L (.int n :: st) h = ev 136 384 L (.ref h.2.1 :: st) (hnew h (.inl (3, n.toNatClampNeg, .inl (fun _ => 0))) n.toNatClampNeg) := G_newa f136_382 rfl hn
theorem f136_384 : fetch 136 384 = some (.putfield 120, 3) := vtab tk136 219 rfl
theorem e136_384 (L : VL) (st : List Value) (h : VG) (a : Nat) (x : Nat) (ho : ob h a 11) : ev 136 384 L (.ref x :: .ref a :: st) h = ev 136 387 L (st) (pR h a 58 x) := G_putR (p := 1071) f136_384 lkF_12_120 (by decide) (by decide) (by decide +kernel) ⟨rfl, rfl⟩ ho
theorem f136_387 : fetch 136 387 = some (.aload_n 0, 1) := vtab tk136 220 rfl
theorem e136_387 (L : VL) (st : List Value) (h : VG) (x : Nat) : ev 136 387 (some (.ref x) :: L) (st) h = ev 136 388 (some (.ref x) :: L) (.ref x :: st) h := G_aload_n f136_387 rfl
theorem f136_388 : fetch 136 388 = some (.sipush 512, 3) := vtab tk136 221 rfl
theorem e136_388 (L : VL) (st : List Value) (h : VG) : ev 136 388 L (st) h = ev 136 391 L (.int (512 : Int32) :: st) h := G_sipush f136_388 (by decide)
theorem f136_391 : fetch 136 391 = some (.newarray .int, 2) := vtab tk136 222 rfl
theorem e136_391 (L : VL) (st : List Value) (h : VG) (n : Int32) (hn : ¬ n < 0 ∧ n.toNatClampNeg ≤ 4096) : ev 136 391 L (.int n :: st) h = ev 136 393 L (.ref h.2.1 :: st) (hnew h (.inl (0, n.toNatClampNeg, .inl (fun _ => 0))) n.toNatClampNeg) := G_newa f136_391 rfl hn
theorem f136_393 : fetch 136 393 = some (.putfield 123, 3) := vtab tk136 223 rfl
theorem e136_393 (L : VL) (st : List Value) (h : VG) (a : Nat) (x : Nat) (ho : ob h a 11) : ev 136 393 L (.ref x :: .ref a :: st) h = ev 136 396 L (st) (pR h a 59 x) := G_putR (p := 1072) f136_393 lkF_12_123 (by decide) (by decide) (by decide +kernel) ⟨rfl, rfl⟩ ho
theorem f136_396 : fetch 136 396 = some (.aload_n 0, 1) := vtab tk136 224 rfl
theorem e136_396 (L : VL) (st : List Value) (h : VG) (x : Nat) : ev 136 396 (some (.ref x) :: L) (st) h = ev 136 397 (some (.ref x) :: L) (.ref x :: st) h := G_aload_n f136_396 rfl
theorem f136_397 : fetch 136 397 = some (.bipush 16, 2) := vtab tk136 225 rfl
theorem e136_397 (L : VL) (st : List Value) (h : VG) : ev 136 397 L (st) h = ev 136 399 L (.int (16 : Int32) :: st) h := G_bipush f136_397 (by decide)
theorem f136_399 : fetch 136 399 = some (.newarray .int, 2) := vtab tk136 226 rfl
theorem e136_399 (L : VL) (st : List Value) (h : VG) (n : Int32) (hn : ¬ n < 0 ∧ n.toNatClampNeg ≤ 4096) : ev 136 399 L (.int n :: st) h = ev 136 401 L (.ref h.2.1 :: st) (hnew h (.inl (0, n.toNatClampNeg, .inl (fun _ => 0))) n.toNatClampNeg) := G_newa f136_399 rfl hn
theorem f136_401 : fetch 136 401 = some (.putfield 126, 3) := vtab tk136 227 rfl
theorem e136_401 (L : VL) (st : List Value) (h : VG) (a : Nat) (x : Nat) (ho : ob h a 11) : ev 136 401 L (.ref x :: .ref a :: st) h = ev 136 404 L (st) (pR h a 60 x) := G_putR (p := 1073) f136_401 lkF_12_126 (by decide) (by decide) (by decide +kernel) ⟨rfl, rfl⟩ ho
theorem f136_404 : fetch 136 404 = some (.aload_n 0, 1) := vtab tk136 228 rfl
theorem e136_404 (L : VL) (st : List Value) (h : VG) (x : Nat) : ev 136 404 (some (.ref x) :: L) (st) h = ev 136 405 (some (.ref x) :: L) (.ref x :: st) h := G_aload_n f136_404 rfl
theorem f136_405 : fetch 136 405 = some (.bipush 16, 2) := vtab tk136 229 rfl
theorem e136_405 (L : VL) (st : List Value) (h : VG) : ev 136 405 L (st) h = ev 136 407 L (.int (16 : Int32) :: st) h := G_bipush f136_405 (by decide)
theorem f136_407 : fetch 136 407 = some (.newarray .int, 2) := vtab tk136 230 rfl
theorem e136_407 (L : VL) (st : List Value) (h : VG) (n : Int32) (hn : ¬ n < 0 ∧ n.toNatClampNeg ≤ 4096) : ev 136 407 L (.int n :: st) h = ev 136 409 L (.ref h.2.1 :: st) (hnew h (.inl (0, n.toNatClampNeg, .inl (fun _ => 0))) n.toNatClampNeg) := G_newa f136_407 rfl hn
theorem f136_409 : fetch 136 409 = some (.putfield 129, 3) := vtab tk136 231 rfl
theorem e136_409 (L : VL) (st : List Value) (h : VG) (a : Nat) (x : Nat) (ho : ob h a 11) : ev 136 409 L (.ref x :: .ref a :: st) h = ev 136 412 L (st) (pR h a 61 x) := G_putR (p := 1074) f136_409 lkF_12_129 (by decide) (by decide) (by decide +kernel) ⟨rfl, rfl⟩ ho
theorem f136_412 : fetch 136 412 = some (.aload_n 0, 1) := vtab tk136 232 rfl
theorem e136_412 (L : VL) (st : List Value) (h : VG) (x : Nat) : ev 136 412 (some (.ref x) :: L) (st) h = ev 136 413 (some (.ref x) :: L) (.ref x :: st) h := G_aload_n f136_412 rfl
theorem f136_413 : fetch 136 413 = some (.sipush 640, 3) := vtab tk136 233 rfl
theorem e136_413 (L : VL) (st : List Value) (h : VG) : ev 136 413 L (st) h = ev 136 416 L (.int (640 : Int32) :: st) h := G_sipush f136_413 (by decide)
theorem f136_416 : fetch 136 416 = some (.newarray .int, 2) := vtab tk136 234 rfl
theorem e136_416 (L : VL) (st : List Value) (h : VG) (n : Int32) (hn : ¬ n < 0 ∧ n.toNatClampNeg ≤ 4096) : ev 136 416 L (.int n :: st) h = ev 136 418 L (.ref h.2.1 :: st) (hnew h (.inl (0, n.toNatClampNeg, .inl (fun _ => 0))) n.toNatClampNeg) := G_newa f136_416 rfl hn
theorem f136_418 : fetch 136 418 = some (.putfield 132, 3) := vtab tk136 235 rfl
theorem e136_418 (L : VL) (st : List Value) (h : VG) (a : Nat) (x : Nat) (ho : ob h a 11) : ev 136 418 L (.ref x :: .ref a :: st) h = ev 136 421 L (st) (pR h a 62 x) := G_putR (p := 1075) f136_418 lkF_12_132 (by decide) (by decide) (by decide +kernel) ⟨rfl, rfl⟩ ho
theorem f136_421 : fetch 136 421 = some (.aload_n 0, 1) := vtab tk136 236 rfl
theorem e136_421 (L : VL) (st : List Value) (h : VG) (x : Nat) : ev 136 421 (some (.ref x) :: L) (st) h = ev 136 422 (some (.ref x) :: L) (.ref x :: st) h := G_aload_n f136_421 rfl
theorem f136_422 : fetch 136 422 = some (.sipush 640, 3) := vtab tk136 237 rfl
theorem e136_422 (L : VL) (st : List Value) (h : VG) : ev 136 422 L (st) h = ev 136 425 L (.int (640 : Int32) :: st) h := G_sipush f136_422 (by decide)
theorem f136_425 : fetch 136 425 = some (.newarray .long, 2) := vtab tk136 238 rfl
theorem e136_425 (L : VL) (st : List Value) (h : VG) (n : Int32) (hn : ¬ n < 0 ∧ n.toNatClampNeg ≤ 4096) : ev 136 425 L (.int n :: st) h = ev 136 427 L (.ref h.2.1 :: st) (hnew h (.inl (1, n.toNatClampNeg, .inr (.inl (fun _ => 0)))) n.toNatClampNeg) := G_newa f136_425 rfl hn
theorem f136_427 : fetch 136 427 = some (.putfield 135, 3) := vtab tk136 239 rfl
theorem e136_427 (L : VL) (st : List Value) (h : VG) (a : Nat) (x : Nat) (ho : ob h a 11) : ev 136 427 L (.ref x :: .ref a :: st) h = ev 136 430 L (st) (pR h a 63 x) := G_putR (p := 1076) f136_427 lkF_12_135 (by decide) (by decide) (by decide +kernel) ⟨rfl, rfl⟩ ho
theorem f136_430 : fetch 136 430 = some (.aload_n 0, 1) := vtab tk136 240 rfl
theorem e136_430 (L : VL) (st : List Value) (h : VG) (x : Nat) : ev 136 430 (some (.ref x) :: L) (st) h = ev 136 431 (some (.ref x) :: L) (.ref x :: st) h := G_aload_n f136_430 rfl
theorem f136_431 : fetch 136 431 = some (.sipush 640, 3) := vtab tk136 241 rfl
theorem e136_431 (L : VL) (st : List Value) (h : VG) : ev 136 431 L (st) h = ev 136 434 L (.int (640 : Int32) :: st) h := G_sipush f136_431 (by decide)
theorem f136_434 : fetch 136 434 = some (.newarray .double, 2) := vtab tk136 242 rfl
theorem e136_434 (L : VL) (st : List Value) (h : VG) (n : Int32) (hn : ¬ n < 0 ∧ n.toNatClampNeg ≤ 4096) : ev 136 434 L (.int n :: st) h = ev 136 436 L (.ref h.2.1 :: st) (hnew h (.inl (4, n.toNatClampNeg, .inr (.inr (.inr (.inl (fun _ => 0)))))) n.toNatClampNeg) := G_newa f136_434 rfl hn
theorem f136_436 : fetch 136 436 = some (.putfield 138, 3) := vtab tk136 243 rfl
theorem e136_436 (L : VL) (st : List Value) (h : VG) (a : Nat) (x : Nat) (ho : ob h a 11) : ev 136 436 L (.ref x :: .ref a :: st) h = ev 136 439 L (st) (pR h a 64 x) := G_putR (p := 1077) f136_436 lkF_12_138 (by decide) (by decide) (by decide +kernel) ⟨rfl, rfl⟩ ho
theorem f136_439 : fetch 136 439 = some (.aload_n 0, 1) := vtab tk136 244 rfl
theorem e136_439 (L : VL) (st : List Value) (h : VG) (x : Nat) : ev 136 439 (some (.ref x) :: L) (st) h = ev 136 440 (some (.ref x) :: L) (.ref x :: st) h := G_aload_n f136_439 rfl
theorem f136_440 : fetch 136 440 = some (.bipush 16, 2) := vtab tk136 245 rfl
theorem e136_440 (L : VL) (st : List Value) (h : VG) : ev 136 440 L (st) h = ev 136 442 L (.int (16 : Int32) :: st) h := G_bipush f136_440 (by decide)
theorem f136_442 : fetch 136 442 = some (.newarray .long, 2) := vtab tk136 246 rfl
theorem e136_442 (L : VL) (st : List Value) (h : VG) (n : Int32) (hn : ¬ n < 0 ∧ n.toNatClampNeg ≤ 4096) : ev 136 442 L (.int n :: st) h = ev 136 444 L (.ref h.2.1 :: st) (hnew h (.inl (1, n.toNatClampNeg, .inr (.inl (fun _ => 0)))) n.toNatClampNeg) := G_newa f136_442 rfl hn
theorem f136_444 : fetch 136 444 = some (.putfield 141, 3) := vtab tk136 247 rfl
theorem e136_444 (L : VL) (st : List Value) (h : VG) (a : Nat) (x : Nat) (ho : ob h a 11) : ev 136 444 L (.ref x :: .ref a :: st) h = ev 136 447 L (st) (pR h a 65 x) := G_putR (p := 1078) f136_444 lkF_12_141 (by decide) (by decide) (by decide +kernel) ⟨rfl, rfl⟩ ho
theorem f136_447 : fetch 136 447 = some (.aload_n 0, 1) := vtab tk136 248 rfl
theorem e136_447 (L : VL) (st : List Value) (h : VG) (x : Nat) : ev 136 447 (some (.ref x) :: L) (st) h = ev 136 448 (some (.ref x) :: L) (.ref x :: st) h := G_aload_n f136_447 rfl
theorem f136_448 : fetch 136 448 = some (.iconst 2, 1) := vtab tk136 249 rfl
theorem e136_448 (L : VL) (st : List Value) (h : VG) : ev 136 448 L (st) h = ev 136 449 L (.int (2 : Int32) :: st) h := G_iconst f136_448 (by decide)
theorem f136_449 : fetch 136 449 = some (.newarray .int, 2) := vtab tk136 250 rfl
theorem e136_449 (L : VL) (st : List Value) (h : VG) (n : Int32) (hn : ¬ n < 0 ∧ n.toNatClampNeg ≤ 4096) : ev 136 449 L (.int n :: st) h = ev 136 451 L (.ref h.2.1 :: st) (hnew h (.inl (0, n.toNatClampNeg, .inl (fun _ => 0))) n.toNatClampNeg) := G_newa f136_449 rfl hn
theorem f136_451 : fetch 136 451 = some (.putfield 144, 3) := vtab tk136 251 rfl
theorem e136_451 (L : VL) (st : List Value) (h : VG) (a : Nat) (x : Nat) (ho : ob h a 11) : ev 136 451 L (.ref x :: .ref a :: st) h = ev 136 454 L (st) (pR h a 66 x) := G_putR (p := 1079) f136_451 lkF_12_144 (by decide) (by decide) (by decide +kernel) ⟨rfl, rfl⟩ ho
theorem f136_454 : fetch 136 454 = some (.aload_n 0, 1) := vtab tk136 252 rfl
theorem e136_454 (L : VL) (st : List Value) (h : VG) (x : Nat) : ev 136 454 (some (.ref x) :: L) (st) h = ev 136 455 (some (.ref x) :: L) (.ref x :: st) h := G_aload_n f136_454 rfl
theorem f136_455 : fetch 136 455 = some (.getfield 34, 3) := vtab tk136 253 rfl
theorem e136_455 (L : VL) (st : List Value) (h : VG) (a : Nat) (ho : ob h a 11) (hr : isR h a 9) : ev 136 455 L (.ref a :: st) h = ev 136 458 L (.ref (gR h a 9) :: st) h := G_getR (p := 1022) f136_455 lkF_12_34 (by decide) (by decide) ho hr
theorem f136_458 : fetch 136 458 = some (.iconst 0, 1) := vtab tk136 254 rfl
theorem e136_458 (L : VL) (st : List Value) (h : VG) : ev 136 458 L (st) h = ev 136 459 L (.int (0 : Int32) :: st) h := G_iconst f136_458 (by decide)
theorem f136_459 : fetch 136 459 = some (.bipush 98, 2) := vtab tk136 255 rfl
theorem e136_459 (L : VL) (st : List Value) (h : VG) : ev 136 459 L (st) h = ev 136 461 L (.int (98 : Int32) :: st) h := G_bipush f136_459 (by decide)
theorem f136_461 : fetch 136 461 = some (.bipush 105, 2) := vtab tk136 256 rfl
theorem e136_461 (L : VL) (st : List Value) (h : VG) : ev 136 461 L (st) h = ev 136 463 L (.int (105 : Int32) :: st) h := G_bipush f136_461 (by decide)
theorem f136_463 : fetch 136 463 = some (.bipush 103, 2) := vtab tk136 257 rfl
theorem e136_463 (L : VL) (st : List Value) (h : VG) : ev 136 463 L (st) h = ev 136 465 L (.int (103 : Int32) :: st) h := G_bipush f136_463 (by decide)
theorem f136_465 : fetch 136 465 = some (.iconst 0, 1) := vtab tk136 258 rfl
theorem e136_465 (L : VL) (st : List Value) (h : VG) : ev 136 465 L (st) h = ev 136 466 L (.int (0 : Int32) :: st) h := G_iconst f136_465 (by decide)
theorem f136_466 : fetch 136 466 = some (.iconst 0, 1) := vtab tk136 259 rfl
theorem e136_466 (L : VL) (st : List Value) (h : VG) : ev 136 466 L (st) h = ev 136 467 L (.int (0 : Int32) :: st) h := G_iconst f136_466 (by decide)
theorem f136_467 : fetch 136 467 = some (.iconst 0, 1) := vtab tk136 260 rfl
theorem e136_467 (L : VL) (st : List Value) (h : VG) : ev 136 467 L (st) h = ev 136 468 L (.int (0 : Int32) :: st) h := G_iconst f136_467 (by decide)
theorem f136_468 : fetch 136 468 = some (.iconst 0, 1) := vtab tk136 261 rfl
theorem e136_468 (L : VL) (st : List Value) (h : VG) : ev 136 468 L (st) h = ev 136 469 L (.int (0 : Int32) :: st) h := G_iconst f136_468 (by decide)
theorem f136_469 : fetch 136 469 = some (.invokestatic 147, 3) := vtab tk136 262 rfl
theorem e136_469 (L : VL) (st : List Value) (h : VG) (x0 : Int32) (x1 : Int32) (x2 : Int32) (x3 : Int32) (x4 : Int32) (x5 : Int32) (x6 : Int32) (hs : catS st ≤ 8) : ev 136 469 L (.int x6 :: .int x5 :: .int x4 :: .int x3 :: .int x2 :: .int x1 :: .int x0 :: st) h = (ev 144 0 [some (.int x0), some (.int x1), some (.int x2), some (.int x3), some (.int x4), some (.int x5), some (.int x6)] [] h).bind fun q => ev 136 472 L (q.1.toList ++ st) q.2 := G_calls (k := 0) (p := 1007) (ars := [.int x0, .int x1, .int x2, .int x3, .int x4, .int x5, .int x6]) f136_469 lkC_12_147 (by decide) (by decide +kernel) rfl (Nat.le_of_ble_eq_true rfl) hs rfl
theorem f136_472 : fetch 136 472 = some (.lastore, 1) := vtab tk136 263 rfl
theorem e136_472 (L : VL) (st : List Value) (h : VG) (a : Nat) (i : Int32) (x : Int64) (ha : arL h a) (hi : vp_in i (aln h a)) : ev 136 472 L (.long x :: .int i :: .ref a :: st) h = ev 136 473 L (st) (wL h a i.toNatClampNeg x) := G_last f136_472 ha hi
theorem f136_473 : fetch 136 473 = some (.aload_n 0, 1) := vtab tk136 264 rfl
theorem e136_473 (L : VL) (st : List Value) (h : VG) (x : Nat) : ev 136 473 (some (.ref x) :: L) (st) h = ev 136 474 (some (.ref x) :: L) (.ref x :: st) h := G_aload_n f136_473 rfl
theorem f136_474 : fetch 136 474 = some (.getfield 34, 3) := vtab tk136 265 rfl
theorem e136_474 (L : VL) (st : List Value) (h : VG) (a : Nat) (ho : ob h a 11) (hr : isR h a 9) : ev 136 474 L (.ref a :: st) h = ev 136 477 L (.ref (gR h a 9) :: st) h := G_getR (p := 1022) f136_474 lkF_12_34 (by decide) (by decide) ho hr
theorem f136_477 : fetch 136 477 = some (.iconst 1, 1) := vtab tk136 266 rfl
theorem e136_477 (L : VL) (st : List Value) (h : VG) : ev 136 477 L (st) h = ev 136 478 L (.int (1 : Int32) :: st) h := G_iconst f136_477 (by decide)
theorem f136_478 : fetch 136 478 = some (.bipush 108, 2) := vtab tk136 267 rfl
theorem e136_478 (L : VL) (st : List Value) (h : VG) : ev 136 478 L (st) h = ev 136 480 L (.int (108 : Int32) :: st) h := G_bipush f136_478 (by decide)
theorem f136_480 : fetch 136 480 = some (.bipush 105, 2) := vtab tk136 268 rfl
theorem e136_480 (L : VL) (st : List Value) (h : VG) : ev 136 480 L (st) h = ev 136 482 L (.int (105 : Int32) :: st) h := G_bipush f136_480 (by decide)
theorem f136_482 : fetch 136 482 = some (.bipush 110, 2) := vtab tk136 269 rfl
theorem e136_482 (L : VL) (st : List Value) (h : VG) : ev 136 482 L (st) h = ev 136 484 L (.int (110 : Int32) :: st) h := G_bipush f136_482 (by decide)
theorem f136_484 : fetch 136 484 = some (.bipush 101, 2) := vtab tk136 270 rfl
theorem e136_484 (L : VL) (st : List Value) (h : VG) : ev 136 484 L (st) h = ev 136 486 L (.int (101 : Int32) :: st) h := G_bipush f136_484 (by decide)
theorem f136_486 : fetch 136 486 = some (.iconst 0, 1) := vtab tk136 271 rfl
theorem e136_486 (L : VL) (st : List Value) (h : VG) : ev 136 486 L (st) h = ev 136 487 L (.int (0 : Int32) :: st) h := G_iconst f136_486 (by decide)
theorem f136_487 : fetch 136 487 = some (.iconst 0, 1) := vtab tk136 272 rfl
theorem e136_487 (L : VL) (st : List Value) (h : VG) : ev 136 487 L (st) h = ev 136 488 L (.int (0 : Int32) :: st) h := G_iconst f136_487 (by decide)
theorem f136_488 : fetch 136 488 = some (.iconst 0, 1) := vtab tk136 273 rfl
theorem e136_488 (L : VL) (st : List Value) (h : VG) : ev 136 488 L (st) h = ev 136 489 L (.int (0 : Int32) :: st) h := G_iconst f136_488 (by decide)
theorem f136_489 : fetch 136 489 = some (.invokestatic 147, 3) := vtab tk136 274 rfl
theorem e136_489 (L : VL) (st : List Value) (h : VG) (x0 : Int32) (x1 : Int32) (x2 : Int32) (x3 : Int32) (x4 : Int32) (x5 : Int32) (x6 : Int32) (hs : catS st ≤ 8) : ev 136 489 L (.int x6 :: .int x5 :: .int x4 :: .int x3 :: .int x2 :: .int x1 :: .int x0 :: st) h = (ev 144 0 [some (.int x0), some (.int x1), some (.int x2), some (.int x3), some (.int x4), some (.int x5), some (.int x6)] [] h).bind fun q => ev 136 492 L (q.1.toList ++ st) q.2 := G_calls (k := 0) (p := 1007) (ars := [.int x0, .int x1, .int x2, .int x3, .int x4, .int x5, .int x6]) f136_489 lkC_12_147 (by decide) (by decide +kernel) rfl (Nat.le_of_ble_eq_true rfl) hs rfl
theorem f136_492 : fetch 136 492 = some (.lastore, 1) := vtab tk136 275 rfl
theorem e136_492 (L : VL) (st : List Value) (h : VG) (a : Nat) (i : Int32) (x : Int64) (ha : arL h a) (hi : vp_in i (aln h a)) : ev 136 492 L (.long x :: .int i :: .ref a :: st) h = ev 136 493 L (st) (wL h a i.toNatClampNeg x) := G_last f136_492 ha hi
theorem f136_493 : fetch 136 493 = some (.aload_n 0, 1) := vtab tk136 276 rfl
theorem e136_493 (L : VL) (st : List Value) (h : VG) (x : Nat) : ev 136 493 (some (.ref x) :: L) (st) h = ev 136 494 (some (.ref x) :: L) (.ref x :: st) h := G_aload_n f136_493 rfl
theorem f136_494 : fetch 136 494 = some (.getfield 34, 3) := vtab tk136 277 rfl
theorem e136_494 (L : VL) (st : List Value) (h : VG) (a : Nat) (ho : ob h a 11) (hr : isR h a 9) : ev 136 494 L (.ref a :: st) h = ev 136 497 L (.ref (gR h a 9) :: st) h := G_getR (p := 1022) f136_494 lkF_12_34 (by decide) (by decide) ho hr
theorem f136_497 : fetch 136 497 = some (.iconst 2, 1) := vtab tk136 278 rfl
theorem e136_497 (L : VL) (st : List Value) (h : VG) : ev 136 497 L (st) h = ev 136 498 L (.int (2 : Int32) :: st) h := G_iconst f136_497 (by decide)
theorem f136_498 : fetch 136 498 = some (.bipush 102, 2) := vtab tk136 279 rfl
theorem e136_498 (L : VL) (st : List Value) (h : VG) : ev 136 498 L (st) h = ev 136 500 L (.int (102 : Int32) :: st) h := G_bipush f136_498 (by decide)
theorem f136_500 : fetch 136 500 = some (.bipush 111, 2) := vtab tk136 280 rfl
theorem e136_500 (L : VL) (st : List Value) (h : VG) : ev 136 500 L (st) h = ev 136 502 L (.int (111 : Int32) :: st) h := G_bipush f136_500 (by decide)
theorem f136_502 : fetch 136 502 = some (.bipush 114, 2) := vtab tk136 281 rfl
theorem e136_502 (L : VL) (st : List Value) (h : VG) : ev 136 502 L (st) h = ev 136 504 L (.int (114 : Int32) :: st) h := G_bipush f136_502 (by decide)
theorem f136_504 : fetch 136 504 = some (.bipush 109, 2) := vtab tk136 282 rfl
theorem e136_504 (L : VL) (st : List Value) (h : VG) : ev 136 504 L (st) h = ev 136 506 L (.int (109 : Int32) :: st) h := G_bipush f136_504 (by decide)
theorem f136_506 : fetch 136 506 = some (.iconst 0, 1) := vtab tk136 283 rfl
theorem e136_506 (L : VL) (st : List Value) (h : VG) : ev 136 506 L (st) h = ev 136 507 L (.int (0 : Int32) :: st) h := G_iconst f136_506 (by decide)
theorem f136_507 : fetch 136 507 = some (.iconst 0, 1) := vtab tk136 284 rfl
theorem e136_507 (L : VL) (st : List Value) (h : VG) : ev 136 507 L (st) h = ev 136 508 L (.int (0 : Int32) :: st) h := G_iconst f136_507 (by decide)
theorem f136_508 : fetch 136 508 = some (.iconst 0, 1) := vtab tk136 285 rfl
theorem e136_508 (L : VL) (st : List Value) (h : VG) : ev 136 508 L (st) h = ev 136 509 L (.int (0 : Int32) :: st) h := G_iconst f136_508 (by decide)
theorem f136_509 : fetch 136 509 = some (.invokestatic 147, 3) := vtab tk136 286 rfl
theorem e136_509 (L : VL) (st : List Value) (h : VG) (x0 : Int32) (x1 : Int32) (x2 : Int32) (x3 : Int32) (x4 : Int32) (x5 : Int32) (x6 : Int32) (hs : catS st ≤ 8) : ev 136 509 L (.int x6 :: .int x5 :: .int x4 :: .int x3 :: .int x2 :: .int x1 :: .int x0 :: st) h = (ev 144 0 [some (.int x0), some (.int x1), some (.int x2), some (.int x3), some (.int x4), some (.int x5), some (.int x6)] [] h).bind fun q => ev 136 512 L (q.1.toList ++ st) q.2 := G_calls (k := 0) (p := 1007) (ars := [.int x0, .int x1, .int x2, .int x3, .int x4, .int x5, .int x6]) f136_509 lkC_12_147 (by decide) (by decide +kernel) rfl (Nat.le_of_ble_eq_true rfl) hs rfl
theorem f136_512 : fetch 136 512 = some (.lastore, 1) := vtab tk136 287 rfl
theorem e136_512 (L : VL) (st : List Value) (h : VG) (a : Nat) (i : Int32) (x : Int64) (ha : arL h a) (hi : vp_in i (aln h a)) : ev 136 512 L (.long x :: .int i :: .ref a :: st) h = ev 136 513 L (st) (wL h a i.toNatClampNeg x) := G_last f136_512 ha hi
theorem f136_513 : fetch 136 513 = some (.aload_n 0, 1) := vtab tk136 288 rfl
theorem e136_513 (L : VL) (st : List Value) (h : VG) (x : Nat) : ev 136 513 (some (.ref x) :: L) (st) h = ev 136 514 (some (.ref x) :: L) (.ref x :: st) h := G_aload_n f136_513 rfl
theorem f136_514 : fetch 136 514 = some (.getfield 34, 3) := vtab tk136 289 rfl
theorem e136_514 (L : VL) (st : List Value) (h : VG) (a : Nat) (ho : ob h a 11) (hr : isR h a 9) : ev 136 514 L (.ref a :: st) h = ev 136 517 L (.ref (gR h a 9) :: st) h := G_getR (p := 1022) f136_514 lkF_12_34 (by decide) (by decide) ho hr
theorem f136_517 : fetch 136 517 = some (.iconst 3, 1) := vtab tk136 290 rfl
theorem e136_517 (L : VL) (st : List Value) (h : VG) : ev 136 517 L (st) h = ev 136 518 L (.int (3 : Int32) :: st) h := G_iconst f136_517 (by decide)
theorem f136_518 : fetch 136 518 = some (.bipush 102, 2) := vtab tk136 291 rfl
theorem e136_518 (L : VL) (st : List Value) (h : VG) : ev 136 518 L (st) h = ev 136 520 L (.int (102 : Int32) :: st) h := G_bipush f136_518 (by decide)
theorem f136_520 : fetch 136 520 = some (.bipush 105, 2) := vtab tk136 292 rfl
theorem e136_520 (L : VL) (st : List Value) (h : VG) : ev 136 520 L (st) h = ev 136 522 L (.int (105 : Int32) :: st) h := G_bipush f136_520 (by decide)
theorem f136_522 : fetch 136 522 = some (.bipush 108, 2) := vtab tk136 293 rfl
theorem e136_522 (L : VL) (st : List Value) (h : VG) : ev 136 522 L (st) h = ev 136 524 L (.int (108 : Int32) :: st) h := G_bipush f136_522 (by decide)
theorem f136_524 : fetch 136 524 = some (.bipush 108, 2) := vtab tk136 294 rfl
theorem e136_524 (L : VL) (st : List Value) (h : VG) : ev 136 524 L (st) h = ev 136 526 L (.int (108 : Int32) :: st) h := G_bipush f136_524 (by decide)
theorem f136_526 : fetch 136 526 = some (.iconst 0, 1) := vtab tk136 295 rfl
theorem e136_526 (L : VL) (st : List Value) (h : VG) : ev 136 526 L (st) h = ev 136 527 L (.int (0 : Int32) :: st) h := G_iconst f136_526 (by decide)
theorem f136_527 : fetch 136 527 = some (.iconst 0, 1) := vtab tk136 296 rfl
theorem e136_527 (L : VL) (st : List Value) (h : VG) : ev 136 527 L (st) h = ev 136 528 L (.int (0 : Int32) :: st) h := G_iconst f136_527 (by decide)
theorem f136_528 : fetch 136 528 = some (.iconst 0, 1) := vtab tk136 297 rfl
theorem e136_528 (L : VL) (st : List Value) (h : VG) : ev 136 528 L (st) h = ev 136 529 L (.int (0 : Int32) :: st) h := G_iconst f136_528 (by decide)
theorem f136_529 : fetch 136 529 = some (.invokestatic 147, 3) := vtab tk136 298 rfl
theorem e136_529 (L : VL) (st : List Value) (h : VG) (x0 : Int32) (x1 : Int32) (x2 : Int32) (x3 : Int32) (x4 : Int32) (x5 : Int32) (x6 : Int32) (hs : catS st ≤ 8) : ev 136 529 L (.int x6 :: .int x5 :: .int x4 :: .int x3 :: .int x2 :: .int x1 :: .int x0 :: st) h = (ev 144 0 [some (.int x0), some (.int x1), some (.int x2), some (.int x3), some (.int x4), some (.int x5), some (.int x6)] [] h).bind fun q => ev 136 532 L (q.1.toList ++ st) q.2 := G_calls (k := 0) (p := 1007) (ars := [.int x0, .int x1, .int x2, .int x3, .int x4, .int x5, .int x6]) f136_529 lkC_12_147 (by decide) (by decide +kernel) rfl (Nat.le_of_ble_eq_true rfl) hs rfl
theorem f136_532 : fetch 136 532 = some (.lastore, 1) := vtab tk136 299 rfl
theorem e136_532 (L : VL) (st : List Value) (h : VG) (a : Nat) (i : Int32) (x : Int64) (ha : arL h a) (hi : vp_in i (aln h a)) : ev 136 532 L (.long x :: .int i :: .ref a :: st) h = ev 136 533 L (st) (wL h a i.toNatClampNeg x) := G_last f136_532 ha hi
theorem f136_533 : fetch 136 533 = some (.aload_n 0, 1) := vtab tk136 300 rfl
theorem e136_533 (L : VL) (st : List Value) (h : VG) (x : Nat) : ev 136 533 (some (.ref x) :: L) (st) h = ev 136 534 (some (.ref x) :: L) (.ref x :: st) h := G_aload_n f136_533 rfl
theorem f136_534 : fetch 136 534 = some (.getfield 34, 3) := vtab tk136 301 rfl
theorem e136_534 (L : VL) (st : List Value) (h : VG) (a : Nat) (ho : ob h a 11) (hr : isR h a 9) : ev 136 534 L (.ref a :: st) h = ev 136 537 L (.ref (gR h a 9) :: st) h := G_getR (p := 1022) f136_534 lkF_12_34 (by decide) (by decide) ho hr
theorem f136_537 : fetch 136 537 = some (.iconst 4, 1) := vtab tk136 302 rfl
theorem e136_537 (L : VL) (st : List Value) (h : VG) : ev 136 537 L (st) h = ev 136 538 L (.int (4 : Int32) :: st) h := G_iconst f136_537 (by decide)
theorem f136_538 : fetch 136 538 = some (.bipush 102, 2) := vtab tk136 303 rfl
theorem e136_538 (L : VL) (st : List Value) (h : VG) : ev 136 538 L (st) h = ev 136 540 L (.int (102 : Int32) :: st) h := G_bipush f136_538 (by decide)
theorem f136_540 : fetch 136 540 = some (.bipush 108, 2) := vtab tk136 304 rfl
theorem e136_540 (L : VL) (st : List Value) (h : VG) : ev 136 540 L (st) h = ev 136 542 L (.int (108 : Int32) :: st) h := G_bipush f136_540 (by decide)
theorem f136_542 : fetch 136 542 = some (.bipush 97, 2) := vtab tk136 305 rfl
theorem e136_542 (L : VL) (st : List Value) (h : VG) : ev 136 542 L (st) h = ev 136 544 L (.int (97 : Int32) :: st) h := G_bipush f136_542 (by decide)
theorem f136_544 : fetch 136 544 = some (.bipush 103, 2) := vtab tk136 306 rfl
theorem e136_544 (L : VL) (st : List Value) (h : VG) : ev 136 544 L (st) h = ev 136 546 L (.int (103 : Int32) :: st) h := G_bipush f136_544 (by decide)
theorem f136_546 : fetch 136 546 = some (.iconst 0, 1) := vtab tk136 307 rfl
theorem e136_546 (L : VL) (st : List Value) (h : VG) : ev 136 546 L (st) h = ev 136 547 L (.int (0 : Int32) :: st) h := G_iconst f136_546 (by decide)
theorem f136_547 : fetch 136 547 = some (.iconst 0, 1) := vtab tk136 308 rfl
theorem e136_547 (L : VL) (st : List Value) (h : VG) : ev 136 547 L (st) h = ev 136 548 L (.int (0 : Int32) :: st) h := G_iconst f136_547 (by decide)
theorem f136_548 : fetch 136 548 = some (.iconst 0, 1) := vtab tk136 309 rfl
theorem e136_548 (L : VL) (st : List Value) (h : VG) : ev 136 548 L (st) h = ev 136 549 L (.int (0 : Int32) :: st) h := G_iconst f136_548 (by decide)
theorem f136_549 : fetch 136 549 = some (.invokestatic 147, 3) := vtab tk136 310 rfl
theorem e136_549 (L : VL) (st : List Value) (h : VG) (x0 : Int32) (x1 : Int32) (x2 : Int32) (x3 : Int32) (x4 : Int32) (x5 : Int32) (x6 : Int32) (hs : catS st ≤ 8) : ev 136 549 L (.int x6 :: .int x5 :: .int x4 :: .int x3 :: .int x2 :: .int x1 :: .int x0 :: st) h = (ev 144 0 [some (.int x0), some (.int x1), some (.int x2), some (.int x3), some (.int x4), some (.int x5), some (.int x6)] [] h).bind fun q => ev 136 552 L (q.1.toList ++ st) q.2 := G_calls (k := 0) (p := 1007) (ars := [.int x0, .int x1, .int x2, .int x3, .int x4, .int x5, .int x6]) f136_549 lkC_12_147 (by decide) (by decide +kernel) rfl (Nat.le_of_ble_eq_true rfl) hs rfl
theorem f136_552 : fetch 136 552 = some (.lastore, 1) := vtab tk136 311 rfl
theorem e136_552 (L : VL) (st : List Value) (h : VG) (a : Nat) (i : Int32) (x : Int64) (ha : arL h a) (hi : vp_in i (aln h a)) : ev 136 552 L (.long x :: .int i :: .ref a :: st) h = ev 136 553 L (st) (wL h a i.toNatClampNeg x) := G_last f136_552 ha hi
theorem f136_553 : fetch 136 553 = some (.aload_n 0, 1) := vtab tk136 312 rfl
theorem e136_553 (L : VL) (st : List Value) (h : VG) (x : Nat) : ev 136 553 (some (.ref x) :: L) (st) h = ev 136 554 (some (.ref x) :: L) (.ref x :: st) h := G_aload_n f136_553 rfl
theorem f136_554 : fetch 136 554 = some (.getfield 34, 3) := vtab tk136 313 rfl
theorem e136_554 (L : VL) (st : List Value) (h : VG) (a : Nat) (ho : ob h a 11) (hr : isR h a 9) : ev 136 554 L (.ref a :: st) h = ev 136 557 L (.ref (gR h a 9) :: st) h := G_getR (p := 1022) f136_554 lkF_12_34 (by decide) (by decide) ho hr
theorem f136_557 : fetch 136 557 = some (.iconst 5, 1) := vtab tk136 314 rfl
theorem e136_557 (L : VL) (st : List Value) (h : VG) : ev 136 557 L (st) h = ev 136 558 L (.int (5 : Int32) :: st) h := G_iconst f136_557 (by decide)
theorem f136_558 : fetch 136 558 = some (.bipush 98, 2) := vtab tk136 315 rfl
theorem e136_558 (L : VL) (st : List Value) (h : VG) : ev 136 558 L (st) h = ev 136 560 L (.int (98 : Int32) :: st) h := G_bipush f136_558 (by decide)
theorem f136_560 : fetch 136 560 = some (.bipush 121, 2) := vtab tk136 316 rfl
theorem e136_560 (L : VL) (st : List Value) (h : VG) : ev 136 560 L (st) h = ev 136 562 L (.int (121 : Int32) :: st) h := G_bipush f136_560 (by decide)
theorem f136_562 : fetch 136 562 = some (.bipush 116, 2) := vtab tk136 317 rfl
theorem e136_562 (L : VL) (st : List Value) (h : VG) : ev 136 562 L (st) h = ev 136 564 L (.int (116 : Int32) :: st) h := G_bipush f136_562 (by decide)
theorem f136_564 : fetch 136 564 = some (.bipush 101, 2) := vtab tk136 318 rfl
theorem e136_564 (L : VL) (st : List Value) (h : VG) : ev 136 564 L (st) h = ev 136 566 L (.int (101 : Int32) :: st) h := G_bipush f136_564 (by decide)
theorem f136_566 : fetch 136 566 = some (.iconst 0, 1) := vtab tk136 319 rfl
theorem e136_566 (L : VL) (st : List Value) (h : VG) : ev 136 566 L (st) h = ev 136 567 L (.int (0 : Int32) :: st) h := G_iconst f136_566 (by decide)
theorem f136_567 : fetch 136 567 = some (.iconst 0, 1) := vtab tk136 320 rfl
theorem e136_567 (L : VL) (st : List Value) (h : VG) : ev 136 567 L (st) h = ev 136 568 L (.int (0 : Int32) :: st) h := G_iconst f136_567 (by decide)
theorem f136_568 : fetch 136 568 = some (.iconst 0, 1) := vtab tk136 321 rfl
theorem e136_568 (L : VL) (st : List Value) (h : VG) : ev 136 568 L (st) h = ev 136 569 L (.int (0 : Int32) :: st) h := G_iconst f136_568 (by decide)
theorem f136_569 : fetch 136 569 = some (.invokestatic 147, 3) := vtab tk136 322 rfl
theorem e136_569 (L : VL) (st : List Value) (h : VG) (x0 : Int32) (x1 : Int32) (x2 : Int32) (x3 : Int32) (x4 : Int32) (x5 : Int32) (x6 : Int32) (hs : catS st ≤ 8) : ev 136 569 L (.int x6 :: .int x5 :: .int x4 :: .int x3 :: .int x2 :: .int x1 :: .int x0 :: st) h = (ev 144 0 [some (.int x0), some (.int x1), some (.int x2), some (.int x3), some (.int x4), some (.int x5), some (.int x6)] [] h).bind fun q => ev 136 572 L (q.1.toList ++ st) q.2 := G_calls (k := 0) (p := 1007) (ars := [.int x0, .int x1, .int x2, .int x3, .int x4, .int x5, .int x6]) f136_569 lkC_12_147 (by decide) (by decide +kernel) rfl (Nat.le_of_ble_eq_true rfl) hs rfl
theorem f136_572 : fetch 136 572 = some (.lastore, 1) := vtab tk136 323 rfl
theorem e136_572 (L : VL) (st : List Value) (h : VG) (a : Nat) (i : Int32) (x : Int64) (ha : arL h a) (hi : vp_in i (aln h a)) : ev 136 572 L (.long x :: .int i :: .ref a :: st) h = ev 136 573 L (st) (wL h a i.toNatClampNeg x) := G_last f136_572 ha hi
theorem f136_573 : fetch 136 573 = some (.aload_n 0, 1) := vtab tk136 324 rfl
theorem e136_573 (L : VL) (st : List Value) (h : VG) (x : Nat) : ev 136 573 (some (.ref x) :: L) (st) h = ev 136 574 (some (.ref x) :: L) (.ref x :: st) h := G_aload_n f136_573 rfl
theorem f136_574 : fetch 136 574 = some (.getfield 34, 3) := vtab tk136 325 rfl
theorem e136_574 (L : VL) (st : List Value) (h : VG) (a : Nat) (ho : ob h a 11) (hr : isR h a 9) : ev 136 574 L (.ref a :: st) h = ev 136 577 L (.ref (gR h a 9) :: st) h := G_getR (p := 1022) f136_574 lkF_12_34 (by decide) (by decide) ho hr
theorem f136_577 : fetch 136 577 = some (.bipush 6, 2) := vtab tk136 326 rfl
theorem e136_577 (L : VL) (st : List Value) (h : VG) : ev 136 577 L (st) h = ev 136 579 L (.int (6 : Int32) :: st) h := G_bipush f136_577 (by decide)
theorem f136_579 : fetch 136 579 = some (.bipush 99, 2) := vtab tk136 327 rfl
theorem e136_579 (L : VL) (st : List Value) (h : VG) : ev 136 579 L (st) h = ev 136 581 L (.int (99 : Int32) :: st) h := G_bipush f136_579 (by decide)
theorem f136_581 : fetch 136 581 = some (.bipush 104, 2) := vtab tk136 328 rfl
theorem e136_581 (L : VL) (st : List Value) (h : VG) : ev 136 581 L (st) h = ev 136 583 L (.int (104 : Int32) :: st) h := G_bipush f136_581 (by decide)
theorem f136_583 : fetch 136 583 = some (.bipush 97, 2) := vtab tk136 329 rfl
theorem e136_583 (L : VL) (st : List Value) (h : VG) : ev 136 583 L (st) h = ev 136 585 L (.int (97 : Int32) :: st) h := G_bipush f136_583 (by decide)
theorem f136_585 : fetch 136 585 = some (.bipush 114, 2) := vtab tk136 330 rfl
theorem e136_585 (L : VL) (st : List Value) (h : VG) : ev 136 585 L (st) h = ev 136 587 L (.int (114 : Int32) :: st) h := G_bipush f136_585 (by decide)
theorem f136_587 : fetch 136 587 = some (.iconst 0, 1) := vtab tk136 331 rfl
theorem e136_587 (L : VL) (st : List Value) (h : VG) : ev 136 587 L (st) h = ev 136 588 L (.int (0 : Int32) :: st) h := G_iconst f136_587 (by decide)
theorem f136_588 : fetch 136 588 = some (.iconst 0, 1) := vtab tk136 332 rfl
theorem e136_588 (L : VL) (st : List Value) (h : VG) : ev 136 588 L (st) h = ev 136 589 L (.int (0 : Int32) :: st) h := G_iconst f136_588 (by decide)
theorem f136_589 : fetch 136 589 = some (.iconst 0, 1) := vtab tk136 333 rfl
theorem e136_589 (L : VL) (st : List Value) (h : VG) : ev 136 589 L (st) h = ev 136 590 L (.int (0 : Int32) :: st) h := G_iconst f136_589 (by decide)
theorem f136_590 : fetch 136 590 = some (.invokestatic 147, 3) := vtab tk136 334 rfl
theorem e136_590 (L : VL) (st : List Value) (h : VG) (x0 : Int32) (x1 : Int32) (x2 : Int32) (x3 : Int32) (x4 : Int32) (x5 : Int32) (x6 : Int32) (hs : catS st ≤ 8) : ev 136 590 L (.int x6 :: .int x5 :: .int x4 :: .int x3 :: .int x2 :: .int x1 :: .int x0 :: st) h = (ev 144 0 [some (.int x0), some (.int x1), some (.int x2), some (.int x3), some (.int x4), some (.int x5), some (.int x6)] [] h).bind fun q => ev 136 593 L (q.1.toList ++ st) q.2 := G_calls (k := 0) (p := 1007) (ars := [.int x0, .int x1, .int x2, .int x3, .int x4, .int x5, .int x6]) f136_590 lkC_12_147 (by decide) (by decide +kernel) rfl (Nat.le_of_ble_eq_true rfl) hs rfl
theorem f136_593 : fetch 136 593 = some (.lastore, 1) := vtab tk136 335 rfl
theorem e136_593 (L : VL) (st : List Value) (h : VG) (a : Nat) (i : Int32) (x : Int64) (ha : arL h a) (hi : vp_in i (aln h a)) : ev 136 593 L (.long x :: .int i :: .ref a :: st) h = ev 136 594 L (st) (wL h a i.toNatClampNeg x) := G_last f136_593 ha hi
theorem f136_594 : fetch 136 594 = some (.aload_n 0, 1) := vtab tk136 336 rfl
theorem e136_594 (L : VL) (st : List Value) (h : VG) (x : Nat) : ev 136 594 (some (.ref x) :: L) (st) h = ev 136 595 (some (.ref x) :: L) (.ref x :: st) h := G_aload_n f136_594 rfl
theorem f136_595 : fetch 136 595 = some (.getfield 34, 3) := vtab tk136 337 rfl
theorem e136_595 (L : VL) (st : List Value) (h : VG) (a : Nat) (ho : ob h a 11) (hr : isR h a 9) : ev 136 595 L (.ref a :: st) h = ev 136 598 L (.ref (gR h a 9) :: st) h := G_getR (p := 1022) f136_595 lkF_12_34 (by decide) (by decide) ho hr
theorem f136_598 : fetch 136 598 = some (.bipush 7, 2) := vtab tk136 338 rfl
theorem e136_598 (L : VL) (st : List Value) (h : VG) : ev 136 598 L (st) h = ev 136 600 L (.int (7 : Int32) :: st) h := G_bipush f136_598 (by decide)
theorem f136_600 : fetch 136 600 = some (.bipush 115, 2) := vtab tk136 339 rfl
theorem e136_600 (L : VL) (st : List Value) (h : VG) : ev 136 600 L (st) h = ev 136 602 L (.int (115 : Int32) :: st) h := G_bipush f136_600 (by decide)
theorem f136_602 : fetch 136 602 = some (.bipush 104, 2) := vtab tk136 340 rfl
theorem e136_602 (L : VL) (st : List Value) (h : VG) : ev 136 602 L (st) h = ev 136 604 L (.int (104 : Int32) :: st) h := G_bipush f136_602 (by decide)
theorem f136_604 : fetch 136 604 = some (.bipush 111, 2) := vtab tk136 341 rfl
theorem e136_604 (L : VL) (st : List Value) (h : VG) : ev 136 604 L (st) h = ev 136 606 L (.int (111 : Int32) :: st) h := G_bipush f136_604 (by decide)
theorem f136_606 : fetch 136 606 = some (.bipush 114, 2) := vtab tk136 342 rfl
theorem e136_606 (L : VL) (st : List Value) (h : VG) : ev 136 606 L (st) h = ev 136 608 L (.int (114 : Int32) :: st) h := G_bipush f136_606 (by decide)
theorem f136_608 : fetch 136 608 = some (.bipush 116, 2) := vtab tk136 343 rfl
theorem e136_608 (L : VL) (st : List Value) (h : VG) : ev 136 608 L (st) h = ev 136 610 L (.int (116 : Int32) :: st) h := G_bipush f136_608 (by decide)
theorem f136_610 : fetch 136 610 = some (.iconst 0, 1) := vtab tk136 344 rfl
theorem e136_610 (L : VL) (st : List Value) (h : VG) : ev 136 610 L (st) h = ev 136 611 L (.int (0 : Int32) :: st) h := G_iconst f136_610 (by decide)
theorem f136_611 : fetch 136 611 = some (.iconst 0, 1) := vtab tk136 345 rfl
theorem e136_611 (L : VL) (st : List Value) (h : VG) : ev 136 611 L (st) h = ev 136 612 L (.int (0 : Int32) :: st) h := G_iconst f136_611 (by decide)
theorem f136_612 : fetch 136 612 = some (.invokestatic 147, 3) := vtab tk136 346 rfl
theorem e136_612 (L : VL) (st : List Value) (h : VG) (x0 : Int32) (x1 : Int32) (x2 : Int32) (x3 : Int32) (x4 : Int32) (x5 : Int32) (x6 : Int32) (hs : catS st ≤ 8) : ev 136 612 L (.int x6 :: .int x5 :: .int x4 :: .int x3 :: .int x2 :: .int x1 :: .int x0 :: st) h = (ev 144 0 [some (.int x0), some (.int x1), some (.int x2), some (.int x3), some (.int x4), some (.int x5), some (.int x6)] [] h).bind fun q => ev 136 615 L (q.1.toList ++ st) q.2 := G_calls (k := 0) (p := 1007) (ars := [.int x0, .int x1, .int x2, .int x3, .int x4, .int x5, .int x6]) f136_612 lkC_12_147 (by decide) (by decide +kernel) rfl (Nat.le_of_ble_eq_true rfl) hs rfl
theorem f136_615 : fetch 136 615 = some (.lastore, 1) := vtab tk136 347 rfl
theorem e136_615 (L : VL) (st : List Value) (h : VG) (a : Nat) (i : Int32) (x : Int64) (ha : arL h a) (hi : vp_in i (aln h a)) : ev 136 615 L (.long x :: .int i :: .ref a :: st) h = ev 136 616 L (st) (wL h a i.toNatClampNeg x) := G_last f136_615 ha hi
theorem f136_616 : fetch 136 616 = some (.aload_n 0, 1) := vtab tk136 348 rfl
theorem e136_616 (L : VL) (st : List Value) (h : VG) (x : Nat) : ev 136 616 (some (.ref x) :: L) (st) h = ev 136 617 (some (.ref x) :: L) (.ref x :: st) h := G_aload_n f136_616 rfl
theorem f136_617 : fetch 136 617 = some (.getfield 34, 3) := vtab tk136 349 rfl
theorem e136_617 (L : VL) (st : List Value) (h : VG) (a : Nat) (ho : ob h a 11) (hr : isR h a 9) : ev 136 617 L (.ref a :: st) h = ev 136 620 L (.ref (gR h a 9) :: st) h := G_getR (p := 1022) f136_617 lkF_12_34 (by decide) (by decide) ho hr
theorem f136_620 : fetch 136 620 = some (.bipush 8, 2) := vtab tk136 350 rfl
theorem e136_620 (L : VL) (st : List Value) (h : VG) : ev 136 620 L (st) h = ev 136 622 L (.int (8 : Int32) :: st) h := G_bipush f136_620 (by decide)
theorem f136_622 : fetch 136 622 = some (.bipush 105, 2) := vtab tk136 351 rfl
theorem e136_622 (L : VL) (st : List Value) (h : VG) : ev 136 622 L (st) h = ev 136 624 L (.int (105 : Int32) :: st) h := G_bipush f136_622 (by decide)
theorem f136_624 : fetch 136 624 = some (.bipush 110, 2) := vtab tk136 352 rfl
theorem e136_624 (L : VL) (st : List Value) (h : VG) : ev 136 624 L (st) h = ev 136 626 L (.int (110 : Int32) :: st) h := G_bipush f136_624 (by decide)
theorem f136_626 : fetch 136 626 = some (.bipush 116, 2) := vtab tk136 353 rfl
theorem e136_626 (L : VL) (st : List Value) (h : VG) : ev 136 626 L (st) h = ev 136 628 L (.int (116 : Int32) :: st) h := G_bipush f136_626 (by decide)
theorem f136_628 : fetch 136 628 = some (.iconst 0, 1) := vtab tk136 354 rfl
theorem e136_628 (L : VL) (st : List Value) (h : VG) : ev 136 628 L (st) h = ev 136 629 L (.int (0 : Int32) :: st) h := G_iconst f136_628 (by decide)
theorem f136_629 : fetch 136 629 = some (.iconst 0, 1) := vtab tk136 355 rfl
theorem e136_629 (L : VL) (st : List Value) (h : VG) : ev 136 629 L (st) h = ev 136 630 L (.int (0 : Int32) :: st) h := G_iconst f136_629 (by decide)
theorem f136_630 : fetch 136 630 = some (.iconst 0, 1) := vtab tk136 356 rfl
theorem e136_630 (L : VL) (st : List Value) (h : VG) : ev 136 630 L (st) h = ev 136 631 L (.int (0 : Int32) :: st) h := G_iconst f136_630 (by decide)
theorem f136_631 : fetch 136 631 = some (.iconst 0, 1) := vtab tk136 357 rfl
theorem e136_631 (L : VL) (st : List Value) (h : VG) : ev 136 631 L (st) h = ev 136 632 L (.int (0 : Int32) :: st) h := G_iconst f136_631 (by decide)
theorem f136_632 : fetch 136 632 = some (.invokestatic 147, 3) := vtab tk136 358 rfl
theorem e136_632 (L : VL) (st : List Value) (h : VG) (x0 : Int32) (x1 : Int32) (x2 : Int32) (x3 : Int32) (x4 : Int32) (x5 : Int32) (x6 : Int32) (hs : catS st ≤ 8) : ev 136 632 L (.int x6 :: .int x5 :: .int x4 :: .int x3 :: .int x2 :: .int x1 :: .int x0 :: st) h = (ev 144 0 [some (.int x0), some (.int x1), some (.int x2), some (.int x3), some (.int x4), some (.int x5), some (.int x6)] [] h).bind fun q => ev 136 635 L (q.1.toList ++ st) q.2 := G_calls (k := 0) (p := 1007) (ars := [.int x0, .int x1, .int x2, .int x3, .int x4, .int x5, .int x6]) f136_632 lkC_12_147 (by decide) (by decide +kernel) rfl (Nat.le_of_ble_eq_true rfl) hs rfl
theorem f136_635 : fetch 136 635 = some (.lastore, 1) := vtab tk136 359 rfl
theorem e136_635 (L : VL) (st : List Value) (h : VG) (a : Nat) (i : Int32) (x : Int64) (ha : arL h a) (hi : vp_in i (aln h a)) : ev 136 635 L (.long x :: .int i :: .ref a :: st) h = ev 136 636 L (st) (wL h a i.toNatClampNeg x) := G_last f136_635 ha hi
theorem f136_636 : fetch 136 636 = some (.aload_n 0, 1) := vtab tk136 360 rfl
theorem e136_636 (L : VL) (st : List Value) (h : VG) (x : Nat) : ev 136 636 (some (.ref x) :: L) (st) h = ev 136 637 (some (.ref x) :: L) (.ref x :: st) h := G_aload_n f136_636 rfl
theorem f136_637 : fetch 136 637 = some (.getfield 34, 3) := vtab tk136 361 rfl
theorem e136_637 (L : VL) (st : List Value) (h : VG) (a : Nat) (ho : ob h a 11) (hr : isR h a 9) : ev 136 637 L (.ref a :: st) h = ev 136 640 L (.ref (gR h a 9) :: st) h := G_getR (p := 1022) f136_637 lkF_12_34 (by decide) (by decide) ho hr
theorem f136_640 : fetch 136 640 = some (.bipush 9, 2) := vtab tk136 362 rfl
theorem e136_640 (L : VL) (st : List Value) (h : VG) : ev 136 640 L (st) h = ev 136 642 L (.int (9 : Int32) :: st) h := G_bipush f136_640 (by decide)
theorem f136_642 : fetch 136 642 = some (.bipush 108, 2) := vtab tk136 363 rfl
theorem e136_642 (L : VL) (st : List Value) (h : VG) : ev 136 642 L (st) h = ev 136 644 L (.int (108 : Int32) :: st) h := G_bipush f136_642 (by decide)
theorem f136_644 : fetch 136 644 = some (.bipush 111, 2) := vtab tk136 364 rfl
theorem e136_644 (L : VL) (st : List Value) (h : VG) : ev 136 644 L (st) h = ev 136 646 L (.int (111 : Int32) :: st) h := G_bipush f136_644 (by decide)
theorem f136_646 : fetch 136 646 = some (.bipush 110, 2) := vtab tk136 365 rfl
theorem e136_646 (L : VL) (st : List Value) (h : VG) : ev 136 646 L (st) h = ev 136 648 L (.int (110 : Int32) :: st) h := G_bipush f136_646 (by decide)
theorem f136_648 : fetch 136 648 = some (.bipush 103, 2) := vtab tk136 366 rfl
theorem e136_648 (L : VL) (st : List Value) (h : VG) : ev 136 648 L (st) h = ev 136 650 L (.int (103 : Int32) :: st) h := G_bipush f136_648 (by decide)
theorem f136_650 : fetch 136 650 = some (.iconst 0, 1) := vtab tk136 367 rfl
theorem e136_650 (L : VL) (st : List Value) (h : VG) : ev 136 650 L (st) h = ev 136 651 L (.int (0 : Int32) :: st) h := G_iconst f136_650 (by decide)
theorem f136_651 : fetch 136 651 = some (.iconst 0, 1) := vtab tk136 368 rfl
theorem e136_651 (L : VL) (st : List Value) (h : VG) : ev 136 651 L (st) h = ev 136 652 L (.int (0 : Int32) :: st) h := G_iconst f136_651 (by decide)
theorem f136_652 : fetch 136 652 = some (.iconst 0, 1) := vtab tk136 369 rfl
theorem e136_652 (L : VL) (st : List Value) (h : VG) : ev 136 652 L (st) h = ev 136 653 L (.int (0 : Int32) :: st) h := G_iconst f136_652 (by decide)
theorem f136_653 : fetch 136 653 = some (.invokestatic 147, 3) := vtab tk136 370 rfl
theorem e136_653 (L : VL) (st : List Value) (h : VG) (x0 : Int32) (x1 : Int32) (x2 : Int32) (x3 : Int32) (x4 : Int32) (x5 : Int32) (x6 : Int32) (hs : catS st ≤ 8) : ev 136 653 L (.int x6 :: .int x5 :: .int x4 :: .int x3 :: .int x2 :: .int x1 :: .int x0 :: st) h = (ev 144 0 [some (.int x0), some (.int x1), some (.int x2), some (.int x3), some (.int x4), some (.int x5), some (.int x6)] [] h).bind fun q => ev 136 656 L (q.1.toList ++ st) q.2 := G_calls (k := 0) (p := 1007) (ars := [.int x0, .int x1, .int x2, .int x3, .int x4, .int x5, .int x6]) f136_653 lkC_12_147 (by decide) (by decide +kernel) rfl (Nat.le_of_ble_eq_true rfl) hs rfl
theorem f136_656 : fetch 136 656 = some (.lastore, 1) := vtab tk136 371 rfl
theorem e136_656 (L : VL) (st : List Value) (h : VG) (a : Nat) (i : Int32) (x : Int64) (ha : arL h a) (hi : vp_in i (aln h a)) : ev 136 656 L (.long x :: .int i :: .ref a :: st) h = ev 136 657 L (st) (wL h a i.toNatClampNeg x) := G_last f136_656 ha hi
theorem f136_657 : fetch 136 657 = some (.aload_n 0, 1) := vtab tk136 372 rfl
theorem e136_657 (L : VL) (st : List Value) (h : VG) (x : Nat) : ev 136 657 (some (.ref x) :: L) (st) h = ev 136 658 (some (.ref x) :: L) (.ref x :: st) h := G_aload_n f136_657 rfl
theorem f136_658 : fetch 136 658 = some (.getfield 34, 3) := vtab tk136 373 rfl
theorem e136_658 (L : VL) (st : List Value) (h : VG) (a : Nat) (ho : ob h a 11) (hr : isR h a 9) : ev 136 658 L (.ref a :: st) h = ev 136 661 L (.ref (gR h a 9) :: st) h := G_getR (p := 1022) f136_658 lkF_12_34 (by decide) (by decide) ho hr
theorem f136_661 : fetch 136 661 = some (.bipush 10, 2) := vtab tk136 374 rfl
theorem e136_661 (L : VL) (st : List Value) (h : VG) : ev 136 661 L (st) h = ev 136 663 L (.int (10 : Int32) :: st) h := G_bipush f136_661 (by decide)
theorem f136_663 : fetch 136 663 = some (.bipush 102, 2) := vtab tk136 375 rfl
theorem e136_663 (L : VL) (st : List Value) (h : VG) : ev 136 663 L (st) h = ev 136 665 L (.int (102 : Int32) :: st) h := G_bipush f136_663 (by decide)
theorem f136_665 : fetch 136 665 = some (.bipush 108, 2) := vtab tk136 376 rfl
theorem e136_665 (L : VL) (st : List Value) (h : VG) : ev 136 665 L (st) h = ev 136 667 L (.int (108 : Int32) :: st) h := G_bipush f136_665 (by decide)
theorem f136_667 : fetch 136 667 = some (.bipush 111, 2) := vtab tk136 377 rfl
theorem e136_667 (L : VL) (st : List Value) (h : VG) : ev 136 667 L (st) h = ev 136 669 L (.int (111 : Int32) :: st) h := G_bipush f136_667 (by decide)
theorem f136_669 : fetch 136 669 = some (.bipush 97, 2) := vtab tk136 378 rfl
theorem e136_669 (L : VL) (st : List Value) (h : VG) : ev 136 669 L (st) h = ev 136 671 L (.int (97 : Int32) :: st) h := G_bipush f136_669 (by decide)
theorem f136_671 : fetch 136 671 = some (.bipush 116, 2) := vtab tk136 379 rfl
theorem e136_671 (L : VL) (st : List Value) (h : VG) : ev 136 671 L (st) h = ev 136 673 L (.int (116 : Int32) :: st) h := G_bipush f136_671 (by decide)
theorem f136_673 : fetch 136 673 = some (.iconst 0, 1) := vtab tk136 380 rfl
theorem e136_673 (L : VL) (st : List Value) (h : VG) : ev 136 673 L (st) h = ev 136 674 L (.int (0 : Int32) :: st) h := G_iconst f136_673 (by decide)
theorem f136_674 : fetch 136 674 = some (.iconst 0, 1) := vtab tk136 381 rfl
theorem e136_674 (L : VL) (st : List Value) (h : VG) : ev 136 674 L (st) h = ev 136 675 L (.int (0 : Int32) :: st) h := G_iconst f136_674 (by decide)
theorem f136_675 : fetch 136 675 = some (.invokestatic 147, 3) := vtab tk136 382 rfl
theorem e136_675 (L : VL) (st : List Value) (h : VG) (x0 : Int32) (x1 : Int32) (x2 : Int32) (x3 : Int32) (x4 : Int32) (x5 : Int32) (x6 : Int32) (hs : catS st ≤ 8) : ev 136 675 L (.int x6 :: .int x5 :: .int x4 :: .int x3 :: .int x2 :: .int x1 :: .int x0 :: st) h = (ev 144 0 [some (.int x0), some (.int x1), some (.int x2), some (.int x3), some (.int x4), some (.int x5), some (.int x6)] [] h).bind fun q => ev 136 678 L (q.1.toList ++ st) q.2 := G_calls (k := 0) (p := 1007) (ars := [.int x0, .int x1, .int x2, .int x3, .int x4, .int x5, .int x6]) f136_675 lkC_12_147 (by decide) (by decide +kernel) rfl (Nat.le_of_ble_eq_true rfl) hs rfl
theorem f136_678 : fetch 136 678 = some (.lastore, 1) := vtab tk136 383 rfl
theorem e136_678 (L : VL) (st : List Value) (h : VG) (a : Nat) (i : Int32) (x : Int64) (ha : arL h a) (hi : vp_in i (aln h a)) : ev 136 678 L (.long x :: .int i :: .ref a :: st) h = ev 136 679 L (st) (wL h a i.toNatClampNeg x) := G_last f136_678 ha hi
theorem f136_679 : fetch 136 679 = some (.aload_n 0, 1) := vtab tk136 384 rfl
theorem e136_679 (L : VL) (st : List Value) (h : VG) (x : Nat) : ev 136 679 (some (.ref x) :: L) (st) h = ev 136 680 (some (.ref x) :: L) (.ref x :: st) h := G_aload_n f136_679 rfl
theorem f136_680 : fetch 136 680 = some (.getfield 34, 3) := vtab tk136 385 rfl
theorem e136_680 (L : VL) (st : List Value) (h : VG) (a : Nat) (ho : ob h a 11) (hr : isR h a 9) : ev 136 680 L (.ref a :: st) h = ev 136 683 L (.ref (gR h a 9) :: st) h := G_getR (p := 1022) f136_680 lkF_12_34 (by decide) (by decide) ho hr
theorem f136_683 : fetch 136 683 = some (.bipush 11, 2) := vtab tk136 386 rfl
theorem e136_683 (L : VL) (st : List Value) (h : VG) : ev 136 683 L (st) h = ev 136 685 L (.int (11 : Int32) :: st) h := G_bipush f136_683 (by decide)
theorem f136_685 : fetch 136 685 = some (.bipush 100, 2) := vtab tk136 387 rfl
theorem e136_685 (L : VL) (st : List Value) (h : VG) : ev 136 685 L (st) h = ev 136 687 L (.int (100 : Int32) :: st) h := G_bipush f136_685 (by decide)
theorem f136_687 : fetch 136 687 = some (.bipush 111, 2) := vtab tk136 388 rfl
theorem e136_687 (L : VL) (st : List Value) (h : VG) : ev 136 687 L (st) h = ev 136 689 L (.int (111 : Int32) :: st) h := G_bipush f136_687 (by decide)
theorem f136_689 : fetch 136 689 = some (.bipush 117, 2) := vtab tk136 389 rfl
theorem e136_689 (L : VL) (st : List Value) (h : VG) : ev 136 689 L (st) h = ev 136 691 L (.int (117 : Int32) :: st) h := G_bipush f136_689 (by decide)
theorem f136_691 : fetch 136 691 = some (.bipush 98, 2) := vtab tk136 390 rfl
theorem e136_691 (L : VL) (st : List Value) (h : VG) : ev 136 691 L (st) h = ev 136 693 L (.int (98 : Int32) :: st) h := G_bipush f136_691 (by decide)
theorem f136_693 : fetch 136 693 = some (.bipush 108, 2) := vtab tk136 391 rfl
theorem e136_693 (L : VL) (st : List Value) (h : VG) : ev 136 693 L (st) h = ev 136 695 L (.int (108 : Int32) :: st) h := G_bipush f136_693 (by decide)
theorem f136_695 : fetch 136 695 = some (.bipush 101, 2) := vtab tk136 392 rfl
theorem e136_695 (L : VL) (st : List Value) (h : VG) : ev 136 695 L (st) h = ev 136 697 L (.int (101 : Int32) :: st) h := G_bipush f136_695 (by decide)
theorem f136_697 : fetch 136 697 = some (.iconst 0, 1) := vtab tk136 393 rfl
theorem e136_697 (L : VL) (st : List Value) (h : VG) : ev 136 697 L (st) h = ev 136 698 L (.int (0 : Int32) :: st) h := G_iconst f136_697 (by decide)
theorem f136_698 : fetch 136 698 = some (.invokestatic 147, 3) := vtab tk136 394 rfl
theorem e136_698 (L : VL) (st : List Value) (h : VG) (x0 : Int32) (x1 : Int32) (x2 : Int32) (x3 : Int32) (x4 : Int32) (x5 : Int32) (x6 : Int32) (hs : catS st ≤ 8) : ev 136 698 L (.int x6 :: .int x5 :: .int x4 :: .int x3 :: .int x2 :: .int x1 :: .int x0 :: st) h = (ev 144 0 [some (.int x0), some (.int x1), some (.int x2), some (.int x3), some (.int x4), some (.int x5), some (.int x6)] [] h).bind fun q => ev 136 701 L (q.1.toList ++ st) q.2 := G_calls (k := 0) (p := 1007) (ars := [.int x0, .int x1, .int x2, .int x3, .int x4, .int x5, .int x6]) f136_698 lkC_12_147 (by decide) (by decide +kernel) rfl (Nat.le_of_ble_eq_true rfl) hs rfl
theorem f136_701 : fetch 136 701 = some (.lastore, 1) := vtab tk136 395 rfl
theorem e136_701 (L : VL) (st : List Value) (h : VG) (a : Nat) (i : Int32) (x : Int64) (ha : arL h a) (hi : vp_in i (aln h a)) : ev 136 701 L (.long x :: .int i :: .ref a :: st) h = ev 136 702 L (st) (wL h a i.toNatClampNeg x) := G_last f136_701 ha hi
theorem f136_702 : fetch 136 702 = some (.aload_n 0, 1) := vtab tk136 396 rfl
theorem e136_702 (L : VL) (st : List Value) (h : VG) (x : Nat) : ev 136 702 (some (.ref x) :: L) (st) h = ev 136 703 (some (.ref x) :: L) (.ref x :: st) h := G_aload_n f136_702 rfl
theorem f136_703 : fetch 136 703 = some (.getfield 34, 3) := vtab tk136 397 rfl
theorem e136_703 (L : VL) (st : List Value) (h : VG) (a : Nat) (ho : ob h a 11) (hr : isR h a 9) : ev 136 703 L (.ref a :: st) h = ev 136 706 L (.ref (gR h a 9) :: st) h := G_getR (p := 1022) f136_703 lkF_12_34 (by decide) (by decide) ho hr
theorem f136_706 : fetch 136 706 = some (.bipush 12, 2) := vtab tk136 398 rfl
theorem e136_706 (L : VL) (st : List Value) (h : VG) : ev 136 706 L (st) h = ev 136 708 L (.int (12 : Int32) :: st) h := G_bipush f136_706 (by decide)
theorem f136_708 : fetch 136 708 = some (.bipush 113, 2) := vtab tk136 399 rfl
theorem e136_708 (L : VL) (st : List Value) (h : VG) : ev 136 708 L (st) h = ev 136 710 L (.int (113 : Int32) :: st) h := G_bipush f136_708 (by decide)
theorem f136_710 : fetch 136 710 = some (.bipush 117, 2) := vtab tk136 400 rfl
theorem e136_710 (L : VL) (st : List Value) (h : VG) : ev 136 710 L (st) h = ev 136 712 L (.int (117 : Int32) :: st) h := G_bipush f136_710 (by decide)
theorem f136_712 : fetch 136 712 = some (.bipush 97, 2) := vtab tk136 401 rfl
theorem e136_712 (L : VL) (st : List Value) (h : VG) : ev 136 712 L (st) h = ev 136 714 L (.int (97 : Int32) :: st) h := G_bipush f136_712 (by decide)
theorem f136_714 : fetch 136 714 = some (.bipush 100, 2) := vtab tk136 402 rfl
theorem e136_714 (L : VL) (st : List Value) (h : VG) : ev 136 714 L (st) h = ev 136 716 L (.int (100 : Int32) :: st) h := G_bipush f136_714 (by decide)
theorem f136_716 : fetch 136 716 = some (.iconst 0, 1) := vtab tk136 403 rfl
theorem e136_716 (L : VL) (st : List Value) (h : VG) : ev 136 716 L (st) h = ev 136 717 L (.int (0 : Int32) :: st) h := G_iconst f136_716 (by decide)
theorem f136_717 : fetch 136 717 = some (.iconst 0, 1) := vtab tk136 404 rfl
theorem e136_717 (L : VL) (st : List Value) (h : VG) : ev 136 717 L (st) h = ev 136 718 L (.int (0 : Int32) :: st) h := G_iconst f136_717 (by decide)
theorem f136_718 : fetch 136 718 = some (.iconst 0, 1) := vtab tk136 405 rfl
theorem e136_718 (L : VL) (st : List Value) (h : VG) : ev 136 718 L (st) h = ev 136 719 L (.int (0 : Int32) :: st) h := G_iconst f136_718 (by decide)
theorem f136_719 : fetch 136 719 = some (.invokestatic 147, 3) := vtab tk136 406 rfl
theorem e136_719 (L : VL) (st : List Value) (h : VG) (x0 : Int32) (x1 : Int32) (x2 : Int32) (x3 : Int32) (x4 : Int32) (x5 : Int32) (x6 : Int32) (hs : catS st ≤ 8) : ev 136 719 L (.int x6 :: .int x5 :: .int x4 :: .int x3 :: .int x2 :: .int x1 :: .int x0 :: st) h = (ev 144 0 [some (.int x0), some (.int x1), some (.int x2), some (.int x3), some (.int x4), some (.int x5), some (.int x6)] [] h).bind fun q => ev 136 722 L (q.1.toList ++ st) q.2 := G_calls (k := 0) (p := 1007) (ars := [.int x0, .int x1, .int x2, .int x3, .int x4, .int x5, .int x6]) f136_719 lkC_12_147 (by decide) (by decide +kernel) rfl (Nat.le_of_ble_eq_true rfl) hs rfl
theorem f136_722 : fetch 136 722 = some (.lastore, 1) := vtab tk136 407 rfl
theorem e136_722 (L : VL) (st : List Value) (h : VG) (a : Nat) (i : Int32) (x : Int64) (ha : arL h a) (hi : vp_in i (aln h a)) : ev 136 722 L (.long x :: .int i :: .ref a :: st) h = ev 136 723 L (st) (wL h a i.toNatClampNeg x) := G_last f136_722 ha hi
theorem f136_723 : fetch 136 723 = some (.aload_n 0, 1) := vtab tk136 408 rfl
theorem e136_723 (L : VL) (st : List Value) (h : VG) (x : Nat) : ev 136 723 (some (.ref x) :: L) (st) h = ev 136 724 (some (.ref x) :: L) (.ref x :: st) h := G_aload_n f136_723 rfl
theorem f136_724 : fetch 136 724 = some (.getfield 34, 3) := vtab tk136 409 rfl
theorem e136_724 (L : VL) (st : List Value) (h : VG) (a : Nat) (ho : ob h a 11) (hr : isR h a 9) : ev 136 724 L (.ref a :: st) h = ev 136 727 L (.ref (gR h a 9) :: st) h := G_getR (p := 1022) f136_724 lkF_12_34 (by decide) (by decide) ho hr
theorem f136_727 : fetch 136 727 = some (.bipush 13, 2) := vtab tk136 410 rfl
theorem e136_727 (L : VL) (st : List Value) (h : VG) : ev 136 727 L (st) h = ev 136 729 L (.int (13 : Int32) :: st) h := G_bipush f136_727 (by decide)
theorem f136_729 : fetch 136 729 = some (.bipush 112, 2) := vtab tk136 411 rfl
theorem e136_729 (L : VL) (st : List Value) (h : VG) : ev 136 729 L (st) h = ev 136 731 L (.int (112 : Int32) :: st) h := G_bipush f136_729 (by decide)
theorem f136_731 : fetch 136 731 = some (.bipush 116, 2) := vtab tk136 412 rfl
theorem e136_731 (L : VL) (st : List Value) (h : VG) : ev 136 731 L (st) h = ev 136 733 L (.int (116 : Int32) :: st) h := G_bipush f136_731 (by decide)
theorem f136_733 : fetch 136 733 = some (.bipush 114, 2) := vtab tk136 413 rfl
theorem e136_733 (L : VL) (st : List Value) (h : VG) : ev 136 733 L (st) h = ev 136 735 L (.int (114 : Int32) :: st) h := G_bipush f136_733 (by decide)
theorem f136_735 : fetch 136 735 = some (.iconst 0, 1) := vtab tk136 414 rfl
theorem e136_735 (L : VL) (st : List Value) (h : VG) : ev 136 735 L (st) h = ev 136 736 L (.int (0 : Int32) :: st) h := G_iconst f136_735 (by decide)
theorem f136_736 : fetch 136 736 = some (.iconst 0, 1) := vtab tk136 415 rfl
theorem e136_736 (L : VL) (st : List Value) (h : VG) : ev 136 736 L (st) h = ev 136 737 L (.int (0 : Int32) :: st) h := G_iconst f136_736 (by decide)
theorem f136_737 : fetch 136 737 = some (.iconst 0, 1) := vtab tk136 416 rfl
theorem e136_737 (L : VL) (st : List Value) (h : VG) : ev 136 737 L (st) h = ev 136 738 L (.int (0 : Int32) :: st) h := G_iconst f136_737 (by decide)
theorem f136_738 : fetch 136 738 = some (.iconst 0, 1) := vtab tk136 417 rfl
theorem e136_738 (L : VL) (st : List Value) (h : VG) : ev 136 738 L (st) h = ev 136 739 L (.int (0 : Int32) :: st) h := G_iconst f136_738 (by decide)
theorem f136_739 : fetch 136 739 = some (.invokestatic 147, 3) := vtab tk136 418 rfl
theorem e136_739 (L : VL) (st : List Value) (h : VG) (x0 : Int32) (x1 : Int32) (x2 : Int32) (x3 : Int32) (x4 : Int32) (x5 : Int32) (x6 : Int32) (hs : catS st ≤ 8) : ev 136 739 L (.int x6 :: .int x5 :: .int x4 :: .int x3 :: .int x2 :: .int x1 :: .int x0 :: st) h = (ev 144 0 [some (.int x0), some (.int x1), some (.int x2), some (.int x3), some (.int x4), some (.int x5), some (.int x6)] [] h).bind fun q => ev 136 742 L (q.1.toList ++ st) q.2 := G_calls (k := 0) (p := 1007) (ars := [.int x0, .int x1, .int x2, .int x3, .int x4, .int x5, .int x6]) f136_739 lkC_12_147 (by decide) (by decide +kernel) rfl (Nat.le_of_ble_eq_true rfl) hs rfl
theorem f136_742 : fetch 136 742 = some (.lastore, 1) := vtab tk136 419 rfl
theorem e136_742 (L : VL) (st : List Value) (h : VG) (a : Nat) (i : Int32) (x : Int64) (ha : arL h a) (hi : vp_in i (aln h a)) : ev 136 742 L (.long x :: .int i :: .ref a :: st) h = ev 136 743 L (st) (wL h a i.toNatClampNeg x) := G_last f136_742 ha hi
theorem f136_743 : fetch 136 743 = some (.iconst 0, 1) := vtab tk136 420 rfl
theorem e136_743 (L : VL) (st : List Value) (h : VG) : ev 136 743 L (st) h = ev 136 744 L (.int (0 : Int32) :: st) h := G_iconst f136_743 (by decide)
theorem f136_744 : fetch 136 744 = some (.istore_n 1, 1) := vtab tk136 421 rfl
theorem e136_744 (l0 l1 : Option Value) (L : VL) (st : List Value) (h : VG) (x : Int32) : ev 136 744 (l0 :: l1 :: L) (.int x :: st) h = ev 136 745 (vkk l0 :: some (.int x) :: L) (st) h := G_istore_n f136_744 rfl (S1_1 l0 l1 L _)
theorem f136_745 : fetch 136 745 = some (.iload_n 1, 1) := vtab tk136 422 rfl
theorem e136_745 (l0 : Option Value) (L : VL) (st : List Value) (h : VG) (x : Int32) : ev 136 745 (l0 :: some (.int x) :: L) (st) h = ev 136 746 (l0 :: some (.int x) :: L) (.int x :: st) h := G_iload_n f136_745 rfl
theorem f136_746 : fetch 136 746 = some (.bipush 8, 2) := vtab tk136 423 rfl
theorem e136_746 (L : VL) (st : List Value) (h : VG) : ev 136 746 L (st) h = ev 136 748 L (.int (8 : Int32) :: st) h := G_bipush f136_746 (by decide)
theorem f136_748 : fetch 136 748 = some (.if_icmp .ge 17, 3) := vtab tk136 424 rfl
theorem e136_748 (L : VL) (st : List Value) (h : VG) (x y : Int32) : ev 136 748 L (.int y :: .int x :: st) h = if x < y then ev 136 751 L st h else ev 136 765 L st h := G_icmp_ge f136_748 (by decide)
theorem f136_751 : fetch 136 751 = some (.aload_n 0, 1) := vtab tk136 425 rfl
theorem e136_751 (L : VL) (st : List Value) (h : VG) (x : Nat) : ev 136 751 (some (.ref x) :: L) (st) h = ev 136 752 (some (.ref x) :: L) (.ref x :: st) h := G_aload_n f136_751 rfl
theorem f136_752 : fetch 136 752 = some (.getfield 76, 3) := vtab tk136 426 rfl
theorem e136_752 (L : VL) (st : List Value) (h : VG) (a : Nat) (ho : ob h a 11) (hr : isR h a 42) : ev 136 752 L (.ref a :: st) h = ev 136 755 L (.ref (gR h a 42) :: st) h := G_getR (p := 1055) f136_752 lkF_12_76 (by decide) (by decide) ho hr
theorem f136_755 : fetch 136 755 = some (.iload_n 1, 1) := vtab tk136 427 rfl
theorem e136_755 (l0 : Option Value) (L : VL) (st : List Value) (h : VG) (x : Int32) : ev 136 755 (l0 :: some (.int x) :: L) (st) h = ev 136 756 (l0 :: some (.int x) :: L) (.int x :: st) h := G_iload_n f136_755 rfl
theorem f136_756 : fetch 136 756 = some (.bipush 11, 2) := vtab tk136 428 rfl
theorem e136_756 (L : VL) (st : List Value) (h : VG) : ev 136 756 L (st) h = ev 136 758 L (.int (11 : Int32) :: st) h := G_bipush f136_756 (by decide)
theorem f136_758 : fetch 136 758 = some (.iastore, 1) := vtab tk136 429 rfl
theorem e136_758 (L : VL) (st : List Value) (h : VG) (a : Nat) (i : Int32) (x : Int32) (ha : arI h a 0) (hi : vp_in i (aln h a)) : ev 136 758 L (.int x :: .int i :: .ref a :: st) h = ev 136 759 L (st) (wI h a i.toNatClampNeg x) := G_iast f136_758 ha hi
theorem f136_759 : fetch 136 759 = some (.iinc 1 1, 3) := vtab tk136 430 rfl
theorem e136_759 (l0 : Option Value) (L : VL) (st : List Value) (h : VG) (x : Int32) : ev 136 759 (l0 :: some (.int x) :: L) (st) h = ev 136 762 (vkk l0 :: some (.int (x + (1 : Int32))) :: L) (st) h := G_iinc f136_759 rfl (by decide) (S1_1 l0 (some (.int x)) L _)
theorem f136_762 : fetch 136 762 = some (.goto (-17), 3) := vtab tk136 431 rfl
theorem e136_762 (L : VL) (st : List Value) (h : VG) : ev 136 762 L (st) h = ev 136 745 L (st) h := G_goto f136_762 (by decide)
theorem f136_765 : fetch 136 765 = some (.return_, 1) := vtab tk136 432 rfl
theorem e136_765 (L : VL) (h : VG) : ev 136 765 L [] h = some (none, h) := G_vret f136_765 (by decide)
/-! 137 GuestCallsModel.feed(IIIII)I -/
def tb137 : List (Nat × Instr × Nat) := [(0, .aload_n 0, 1), (1, .getfield 151, 3), (4, .bipush 20, 2), (6, .iadd, 1), (7, .sipush 2000, 3), (10, .if_icmp .le 5, 3), (13, .iconst (-1), 1), (14, .ireturn, 1), (15, .aload_n 0, 1), (16, .iload_n 1, 1), (17, .invokevirtual 154, 3), (20, .aload_n 0, 1), (21, .iload_n 2, 1), (22, .invokevirtual 154, 3), (25, .aload_n 0, 1), (26, .iload_n 3, 1), (27, .invokevirtual 154, 3), (30, .aload_n 0, 1), (31, .iload 4, 2), (33, .invokevirtual 154, 3), (36, .aload_n 0, 1), (37, .iload 5, 2), (39, .invokevirtual 154, 3), (42, .aload_n 0, 1), (43, .getfield 151, 3), (46, .ireturn, 1)]
theorem tk137 : tb137.all (fun q => decide (fetch 137 q.1 = some q.2)) = true := by decide +kernel
theorem f137_0 : fetch 137 0 = some (.aload_n 0, 1) := vtab tk137 0 rfl
theorem e137_0 (L : VL) (st : List Value) (h : VG) (x : Nat) : ev 137 0 (some (.ref x) :: L) (st) h = ev 137 1 (some (.ref x) :: L) (.ref x :: st) h := G_aload_n f137_0 rfl
theorem f137_1 : fetch 137 1 = some (.getfield 151, 3) := vtab tk137 1 rfl
theorem e137_1 (L : VL) (st : List Value) (h : VG) (a : Nat) (ho : ob h a 11) : ev 137 1 L (.ref a :: st) h = ev 137 4 L (.int (gI h a 2) :: st) h := G_getI (p := 1015) f137_1 lkF_12_151 (by decide) (by decide) ho
theorem f137_4 : fetch 137 4 = some (.bipush 20, 2) := vtab tk137 2 rfl
theorem e137_4 (L : VL) (st : List Value) (h : VG) : ev 137 4 L (st) h = ev 137 6 L (.int (20 : Int32) :: st) h := G_bipush f137_4 (by decide)
theorem f137_6 : fetch 137 6 = some (.iadd, 1) := vtab tk137 3 rfl
theorem e137_6 (L : VL) (st : List Value) (h : VG) (x y : Int32) : ev 137 6 L (.int y :: .int x :: st) h = ev 137 7 L (.int (x + y) :: st) h := G_iadd f137_6
theorem f137_7 : fetch 137 7 = some (.sipush 2000, 3) := vtab tk137 4 rfl
theorem e137_7 (L : VL) (st : List Value) (h : VG) : ev 137 7 L (st) h = ev 137 10 L (.int (2000 : Int32) :: st) h := G_sipush f137_7 (by decide)
theorem f137_10 : fetch 137 10 = some (.if_icmp .le 5, 3) := vtab tk137 5 rfl
theorem e137_10 (L : VL) (st : List Value) (h : VG) (x y : Int32) : ev 137 10 L (.int y :: .int x :: st) h = if x ≤ y then ev 137 15 L st h else ev 137 13 L st h := G_icmp_le f137_10 (by decide)
theorem f137_13 : fetch 137 13 = some (.iconst (-1), 1) := vtab tk137 6 rfl
theorem e137_13 (L : VL) (st : List Value) (h : VG) : ev 137 13 L (st) h = ev 137 14 L (.int (-1 : Int32) :: st) h := G_iconst f137_13 (by decide)
theorem f137_14 : fetch 137 14 = some (.ireturn, 1) := vtab tk137 7 rfl
theorem e137_14 (L : VL) (h : VG) (x : Int32) : ev 137 14 L [.int x] h = some (some (.int x), h) := G_iret f137_14 (ty := .int) (by decide) rfl
theorem f137_15 : fetch 137 15 = some (.aload_n 0, 1) := vtab tk137 8 rfl
theorem e137_15 (L : VL) (st : List Value) (h : VG) (x : Nat) : ev 137 15 (some (.ref x) :: L) (st) h = ev 137 16 (some (.ref x) :: L) (.ref x :: st) h := G_aload_n f137_15 rfl
theorem f137_16 : fetch 137 16 = some (.iload_n 1, 1) := vtab tk137 9 rfl
theorem e137_16 (l0 : Option Value) (L : VL) (st : List Value) (h : VG) (x : Int32) : ev 137 16 (l0 :: some (.int x) :: L) (st) h = ev 137 17 (l0 :: some (.int x) :: L) (.int x :: st) h := G_iload_n f137_16 rfl
theorem f137_17 : fetch 137 17 = some (.invokevirtual 154, 3) := vtab tk137 10 rfl
theorem e137_17 (L : VL) (st : List Value) (h : VG) (b : Nat) (x0 : Int32) (ho : ob h b 11) (hs : catS st ≤ 8) : ev 137 17 L (.int x0 :: .ref b :: st) h = (ev 138 0 [some (.ref b), some (.int x0), none] [] h).bind fun q => ev 137 20 L (q.1.toList ++ st) q.2 := G_callv (k := 1) (p := 1220) (ars := [.int x0]) f137_17 lkC_12_154 (by decide) (by decide +kernel) rfl (vcls_ob (ci := 11) (by decide) ho) (Nat.le_of_ble_eq_true rfl) hs rfl
theorem f137_20 : fetch 137 20 = some (.aload_n 0, 1) := vtab tk137 11 rfl
theorem e137_20 (L : VL) (st : List Value) (h : VG) (x : Nat) : ev 137 20 (some (.ref x) :: L) (st) h = ev 137 21 (some (.ref x) :: L) (.ref x :: st) h := G_aload_n f137_20 rfl
theorem f137_21 : fetch 137 21 = some (.iload_n 2, 1) := vtab tk137 12 rfl
theorem e137_21 (l0 l1 : Option Value) (L : VL) (st : List Value) (h : VG) (x : Int32) : ev 137 21 (l0 :: l1 :: some (.int x) :: L) (st) h = ev 137 22 (l0 :: l1 :: some (.int x) :: L) (.int x :: st) h := G_iload_n f137_21 rfl
theorem f137_22 : fetch 137 22 = some (.invokevirtual 154, 3) := vtab tk137 13 rfl
theorem e137_22 (L : VL) (st : List Value) (h : VG) (b : Nat) (x0 : Int32) (ho : ob h b 11) (hs : catS st ≤ 8) : ev 137 22 L (.int x0 :: .ref b :: st) h = (ev 138 0 [some (.ref b), some (.int x0), none] [] h).bind fun q => ev 137 25 L (q.1.toList ++ st) q.2 := G_callv (k := 1) (p := 1220) (ars := [.int x0]) f137_22 lkC_12_154 (by decide) (by decide +kernel) rfl (vcls_ob (ci := 11) (by decide) ho) (Nat.le_of_ble_eq_true rfl) hs rfl
theorem f137_25 : fetch 137 25 = some (.aload_n 0, 1) := vtab tk137 14 rfl
theorem e137_25 (L : VL) (st : List Value) (h : VG) (x : Nat) : ev 137 25 (some (.ref x) :: L) (st) h = ev 137 26 (some (.ref x) :: L) (.ref x :: st) h := G_aload_n f137_25 rfl
theorem f137_26 : fetch 137 26 = some (.iload_n 3, 1) := vtab tk137 15 rfl
theorem e137_26 (l0 l1 l2 : Option Value) (L : VL) (st : List Value) (h : VG) (x : Int32) : ev 137 26 (l0 :: l1 :: l2 :: some (.int x) :: L) (st) h = ev 137 27 (l0 :: l1 :: l2 :: some (.int x) :: L) (.int x :: st) h := G_iload_n f137_26 rfl
theorem f137_27 : fetch 137 27 = some (.invokevirtual 154, 3) := vtab tk137 16 rfl
theorem e137_27 (L : VL) (st : List Value) (h : VG) (b : Nat) (x0 : Int32) (ho : ob h b 11) (hs : catS st ≤ 8) : ev 137 27 L (.int x0 :: .ref b :: st) h = (ev 138 0 [some (.ref b), some (.int x0), none] [] h).bind fun q => ev 137 30 L (q.1.toList ++ st) q.2 := G_callv (k := 1) (p := 1220) (ars := [.int x0]) f137_27 lkC_12_154 (by decide) (by decide +kernel) rfl (vcls_ob (ci := 11) (by decide) ho) (Nat.le_of_ble_eq_true rfl) hs rfl
theorem f137_30 : fetch 137 30 = some (.aload_n 0, 1) := vtab tk137 17 rfl
theorem e137_30 (L : VL) (st : List Value) (h : VG) (x : Nat) : ev 137 30 (some (.ref x) :: L) (st) h = ev 137 31 (some (.ref x) :: L) (.ref x :: st) h := G_aload_n f137_30 rfl
theorem f137_31 : fetch 137 31 = some (.iload 4, 2) := vtab tk137 18 rfl
theorem e137_31 (l0 l1 l2 l3 : Option Value) (L : VL) (st : List Value) (h : VG) (x : Int32) : ev 137 31 (l0 :: l1 :: l2 :: l3 :: some (.int x) :: L) (st) h = ev 137 33 (l0 :: l1 :: l2 :: l3 :: some (.int x) :: L) (.int x :: st) h := G_iload f137_31 rfl
theorem f137_33 : fetch 137 33 = some (.invokevirtual 154, 3) := vtab tk137 19 rfl
theorem e137_33 (L : VL) (st : List Value) (h : VG) (b : Nat) (x0 : Int32) (ho : ob h b 11) (hs : catS st ≤ 8) : ev 137 33 L (.int x0 :: .ref b :: st) h = (ev 138 0 [some (.ref b), some (.int x0), none] [] h).bind fun q => ev 137 36 L (q.1.toList ++ st) q.2 := G_callv (k := 1) (p := 1220) (ars := [.int x0]) f137_33 lkC_12_154 (by decide) (by decide +kernel) rfl (vcls_ob (ci := 11) (by decide) ho) (Nat.le_of_ble_eq_true rfl) hs rfl
theorem f137_36 : fetch 137 36 = some (.aload_n 0, 1) := vtab tk137 20 rfl
theorem e137_36 (L : VL) (st : List Value) (h : VG) (x : Nat) : ev 137 36 (some (.ref x) :: L) (st) h = ev 137 37 (some (.ref x) :: L) (.ref x :: st) h := G_aload_n f137_36 rfl
theorem f137_37 : fetch 137 37 = some (.iload 5, 2) := vtab tk137 21 rfl
theorem e137_37 (l0 l1 l2 l3 l4 : Option Value) (L : VL) (st : List Value) (h : VG) (x : Int32) : ev 137 37 (l0 :: l1 :: l2 :: l3 :: l4 :: some (.int x) :: L) (st) h = ev 137 39 (l0 :: l1 :: l2 :: l3 :: l4 :: some (.int x) :: L) (.int x :: st) h := G_iload f137_37 rfl
theorem f137_39 : fetch 137 39 = some (.invokevirtual 154, 3) := vtab tk137 22 rfl
theorem e137_39 (L : VL) (st : List Value) (h : VG) (b : Nat) (x0 : Int32) (ho : ob h b 11) (hs : catS st ≤ 8) : ev 137 39 L (.int x0 :: .ref b :: st) h = (ev 138 0 [some (.ref b), some (.int x0), none] [] h).bind fun q => ev 137 42 L (q.1.toList ++ st) q.2 := G_callv (k := 1) (p := 1220) (ars := [.int x0]) f137_39 lkC_12_154 (by decide) (by decide +kernel) rfl (vcls_ob (ci := 11) (by decide) ho) (Nat.le_of_ble_eq_true rfl) hs rfl
theorem f137_42 : fetch 137 42 = some (.aload_n 0, 1) := vtab tk137 23 rfl
theorem e137_42 (L : VL) (st : List Value) (h : VG) (x : Nat) : ev 137 42 (some (.ref x) :: L) (st) h = ev 137 43 (some (.ref x) :: L) (.ref x :: st) h := G_aload_n f137_42 rfl
theorem f137_43 : fetch 137 43 = some (.getfield 151, 3) := vtab tk137 24 rfl
theorem e137_43 (L : VL) (st : List Value) (h : VG) (a : Nat) (ho : ob h a 11) : ev 137 43 L (.ref a :: st) h = ev 137 46 L (.int (gI h a 2) :: st) h := G_getI (p := 1015) f137_43 lkF_12_151 (by decide) (by decide) ho
theorem f137_46 : fetch 137 46 = some (.ireturn, 1) := vtab tk137 25 rfl
theorem e137_46 (L : VL) (h : VG) (x : Int32) : ev 137 46 L [.int x] h = some (some (.int x), h) := G_iret f137_46 (ty := .int) (by decide) rfl
/-! 138 GuestCallsModel.laysWord(I)V -/
def tb138 : List (Nat × Instr × Nat) := [(0, .bipush 24, 2), (2, .istore_n 2, 1), (3, .iload_n 2, 1), (4, .ifCond .lt 32, 3), (7, .aload_n 0, 1), (8, .getfield 13, 3), (11, .aload_n 0, 1), (12, .getfield 151, 3), (15, .iload_n 1, 1), (16, .iload_n 2, 1), (17, .ishr, 1), (18, .i2b, 1), (19, .bastore, 1), (20, .aload_n 0, 1), (21, .dup, 1), (22, .getfield 151, 3), (25, .iconst 1, 1), (26, .iadd, 1), (27, .putfield 151, 3), (30, .iinc 2 (-8), 3), (33, .goto (-30), 3), (36, .return_, 1)]
theorem tk138 : tb138.all (fun q => decide (fetch 138 q.1 = some q.2)) = true := by decide +kernel
theorem f138_0 : fetch 138 0 = some (.bipush 24, 2) := vtab tk138 0 rfl
theorem e138_0 (L : VL) (st : List Value) (h : VG) : ev 138 0 L (st) h = ev 138 2 L (.int (24 : Int32) :: st) h := G_bipush f138_0 (by decide)
theorem f138_2 : fetch 138 2 = some (.istore_n 2, 1) := vtab tk138 1 rfl
theorem e138_2 (l0 l1 l2 : Option Value) (L : VL) (st : List Value) (h : VG) (x : Int32) : ev 138 2 (l0 :: l1 :: l2 :: L) (.int x :: st) h = ev 138 3 (l0 :: vkk l1 :: some (.int x) :: L) (st) h := G_istore_n f138_2 rfl (S1_2 l0 l1 l2 L _)
theorem f138_3 : fetch 138 3 = some (.iload_n 2, 1) := vtab tk138 2 rfl
theorem e138_3 (l0 l1 : Option Value) (L : VL) (st : List Value) (h : VG) (x : Int32) : ev 138 3 (l0 :: l1 :: some (.int x) :: L) (st) h = ev 138 4 (l0 :: l1 :: some (.int x) :: L) (.int x :: st) h := G_iload_n f138_3 rfl
theorem f138_4 : fetch 138 4 = some (.ifCond .lt 32, 3) := vtab tk138 3 rfl
theorem e138_4 (L : VL) (st : List Value) (h : VG) (x : Int32) : ev 138 4 L (.int x :: st) h = if x < 0 then ev 138 36 L st h else ev 138 7 L st h := G_if_lt f138_4 (by decide)
theorem f138_7 : fetch 138 7 = some (.aload_n 0, 1) := vtab tk138 4 rfl
theorem e138_7 (L : VL) (st : List Value) (h : VG) (x : Nat) : ev 138 7 (some (.ref x) :: L) (st) h = ev 138 8 (some (.ref x) :: L) (.ref x :: st) h := G_aload_n f138_7 rfl
theorem f138_8 : fetch 138 8 = some (.getfield 13, 3) := vtab tk138 5 rfl
theorem e138_8 (L : VL) (st : List Value) (h : VG) (a : Nat) (ho : ob h a 11) (hr : isR h a 1) : ev 138 8 L (.ref a :: st) h = ev 138 11 L (.ref (gR h a 1) :: st) h := G_getR (p := 1014) f138_8 lkF_12_13 (by decide) (by decide) ho hr
theorem f138_11 : fetch 138 11 = some (.aload_n 0, 1) := vtab tk138 6 rfl
theorem e138_11 (L : VL) (st : List Value) (h : VG) (x : Nat) : ev 138 11 (some (.ref x) :: L) (st) h = ev 138 12 (some (.ref x) :: L) (.ref x :: st) h := G_aload_n f138_11 rfl
theorem f138_12 : fetch 138 12 = some (.getfield 151, 3) := vtab tk138 7 rfl
theorem e138_12 (L : VL) (st : List Value) (h : VG) (a : Nat) (ho : ob h a 11) : ev 138 12 L (.ref a :: st) h = ev 138 15 L (.int (gI h a 2) :: st) h := G_getI (p := 1015) f138_12 lkF_12_151 (by decide) (by decide) ho
theorem f138_15 : fetch 138 15 = some (.iload_n 1, 1) := vtab tk138 8 rfl
theorem e138_15 (l0 : Option Value) (L : VL) (st : List Value) (h : VG) (x : Int32) : ev 138 15 (l0 :: some (.int x) :: L) (st) h = ev 138 16 (l0 :: some (.int x) :: L) (.int x :: st) h := G_iload_n f138_15 rfl
theorem f138_16 : fetch 138 16 = some (.iload_n 2, 1) := vtab tk138 9 rfl
theorem e138_16 (l0 l1 : Option Value) (L : VL) (st : List Value) (h : VG) (x : Int32) : ev 138 16 (l0 :: l1 :: some (.int x) :: L) (st) h = ev 138 17 (l0 :: l1 :: some (.int x) :: L) (.int x :: st) h := G_iload_n f138_16 rfl
theorem f138_17 : fetch 138 17 = some (.ishr, 1) := vtab tk138 10 rfl
theorem e138_17 (L : VL) (st : List Value) (h : VG) (x y : Int32) : ev 138 17 L (.int y :: .int x :: st) h = ev 138 18 L (.int (x >>> (y &&& 31)) :: st) h := G_ishr f138_17
theorem f138_18 : fetch 138 18 = some (.i2b, 1) := vtab tk138 11 rfl
theorem e138_18 (L : VL) (st : List Value) (h : VG) (x : Int32) : ev 138 18 L (.int x :: st) h = ev 138 19 L (.int x.toInt8.toInt32 :: st) h := G_i2b f138_18
theorem f138_19 : fetch 138 19 = some (.bastore, 1) := vtab tk138 12 rfl
theorem e138_19 (L : VL) (st : List Value) (h : VG) (a : Nat) (i : Int32) (x : Int32) (ha : arI h a 2) (hi : vp_in i (aln h a)) : ev 138 19 L (.int x :: .int i :: .ref a :: st) h = ev 138 20 L (st) (wI h a i.toNatClampNeg (vp_nar .byte x)) := G_bast f138_19 ha hi
theorem e138_19z (L : VL) (st : List Value) (h : VG) (a : Nat) (i : Int32) (x : Int32) (ha : arI h a 3) (hi : vp_in i (aln h a)) : ev 138 19 L (.int x :: .int i :: .ref a :: st) h = ev 138 20 L (st) (wI h a i.toNatClampNeg (vp_nar .boolean x)) := G_zast f138_19 ha hi
theorem f138_20 : fetch 138 20 = some (.aload_n 0, 1) := vtab tk138 13 rfl
theorem e138_20 (L : VL) (st : List Value) (h : VG) (x : Nat) : ev 138 20 (some (.ref x) :: L) (st) h = ev 138 21 (some (.ref x) :: L) (.ref x :: st) h := G_aload_n f138_20 rfl
theorem f138_21 : fetch 138 21 = some (.dup, 1) := vtab tk138 14 rfl
theorem e138_21b (L : VL) (st : List Value) (h : VG) (x : Int32) : ev 138 21 L (.int x :: st) h = ev 138 22 L (.int x :: .int x :: st) h := G_dup_int f138_21
theorem e138_21 (L : VL) (st : List Value) (h : VG) (x : Nat) : ev 138 21 L (.ref x :: st) h = ev 138 22 L (.ref x :: .ref x :: st) h := G_dup_ref f138_21
theorem f138_22 : fetch 138 22 = some (.getfield 151, 3) := vtab tk138 15 rfl
theorem e138_22 (L : VL) (st : List Value) (h : VG) (a : Nat) (ho : ob h a 11) : ev 138 22 L (.ref a :: st) h = ev 138 25 L (.int (gI h a 2) :: st) h := G_getI (p := 1015) f138_22 lkF_12_151 (by decide) (by decide) ho
theorem f138_25 : fetch 138 25 = some (.iconst 1, 1) := vtab tk138 16 rfl
theorem e138_25 (L : VL) (st : List Value) (h : VG) : ev 138 25 L (st) h = ev 138 26 L (.int (1 : Int32) :: st) h := G_iconst f138_25 (by decide)
theorem f138_26 : fetch 138 26 = some (.iadd, 1) := vtab tk138 17 rfl
theorem e138_26 (L : VL) (st : List Value) (h : VG) (x y : Int32) : ev 138 26 L (.int y :: .int x :: st) h = ev 138 27 L (.int (x + y) :: st) h := G_iadd f138_26
theorem f138_27 : fetch 138 27 = some (.putfield 151, 3) := vtab tk138 18 rfl
theorem e138_27 (L : VL) (st : List Value) (h : VG) (a : Nat) (x : Int32) (ho : ob h a 11) : ev 138 27 L (.int x :: .ref a :: st) h = ev 138 30 L (st) (pI h a 2 x) := G_putI (p := 1015) f138_27 lkF_12_151 (by decide) (by decide) (by decide +kernel) ⟨rfl, rfl⟩ ho
theorem f138_30 : fetch 138 30 = some (.iinc 2 (-8), 3) := vtab tk138 19 rfl
theorem e138_30 (l0 l1 : Option Value) (L : VL) (st : List Value) (h : VG) (x : Int32) : ev 138 30 (l0 :: l1 :: some (.int x) :: L) (st) h = ev 138 33 (l0 :: vkk l1 :: some (.int (x + (-8 : Int32))) :: L) (st) h := G_iinc f138_30 rfl (by decide) (S1_2 l0 l1 (some (.int x)) L _)
theorem f138_33 : fetch 138 33 = some (.goto (-30), 3) := vtab tk138 20 rfl
theorem e138_33 (L : VL) (st : List Value) (h : VG) : ev 138 33 L (st) h = ev 138 3 L (st) h := G_goto f138_33 (by decide)
theorem f138_36 : fetch 138 36 = some (.return_, 1) := vtab tk138 21 rfl
theorem e138_36 (L : VL) (h : VG) : ev 138 36 L [] h = some (none, h) := G_vret f138_36 (by decide)
/-! 139 GuestCallsModel.back(I)I -/
def tb139 : List (Nat × Instr × Nat) := [(0, .iload_n 1, 1), (1, .ifCond .lt 11, 3), (4, .iload_n 1, 1), (5, .aload_n 0, 1), (6, .getfield 151, 3), (9, .if_icmp .le 5, 3), (12, .iconst (-1), 1), (13, .ireturn, 1), (14, .aload_n 0, 1), (15, .dup, 1), (16, .getfield 151, 3), (19, .iload_n 1, 1), (20, .isub, 1), (21, .putfield 151, 3), (24, .aload_n 0, 1), (25, .getfield 151, 3), (28, .ireturn, 1)]
theorem tk139 : tb139.all (fun q => decide (fetch 139 q.1 = some q.2)) = true := by decide +kernel
theorem f139_0 : fetch 139 0 = some (.iload_n 1, 1) := vtab tk139 0 rfl
theorem e139_0 (l0 : Option Value) (L : VL) (st : List Value) (h : VG) (x : Int32) : ev 139 0 (l0 :: some (.int x) :: L) (st) h = ev 139 1 (l0 :: some (.int x) :: L) (.int x :: st) h := G_iload_n f139_0 rfl
theorem f139_1 : fetch 139 1 = some (.ifCond .lt 11, 3) := vtab tk139 1 rfl
theorem e139_1 (L : VL) (st : List Value) (h : VG) (x : Int32) : ev 139 1 L (.int x :: st) h = if x < 0 then ev 139 12 L st h else ev 139 4 L st h := G_if_lt f139_1 (by decide)
theorem f139_4 : fetch 139 4 = some (.iload_n 1, 1) := vtab tk139 2 rfl
theorem e139_4 (l0 : Option Value) (L : VL) (st : List Value) (h : VG) (x : Int32) : ev 139 4 (l0 :: some (.int x) :: L) (st) h = ev 139 5 (l0 :: some (.int x) :: L) (.int x :: st) h := G_iload_n f139_4 rfl
theorem f139_5 : fetch 139 5 = some (.aload_n 0, 1) := vtab tk139 3 rfl
theorem e139_5 (L : VL) (st : List Value) (h : VG) (x : Nat) : ev 139 5 (some (.ref x) :: L) (st) h = ev 139 6 (some (.ref x) :: L) (.ref x :: st) h := G_aload_n f139_5 rfl
theorem f139_6 : fetch 139 6 = some (.getfield 151, 3) := vtab tk139 4 rfl
theorem e139_6 (L : VL) (st : List Value) (h : VG) (a : Nat) (ho : ob h a 11) : ev 139 6 L (.ref a :: st) h = ev 139 9 L (.int (gI h a 2) :: st) h := G_getI (p := 1015) f139_6 lkF_12_151 (by decide) (by decide) ho
theorem f139_9 : fetch 139 9 = some (.if_icmp .le 5, 3) := vtab tk139 5 rfl
theorem e139_9 (L : VL) (st : List Value) (h : VG) (x y : Int32) : ev 139 9 L (.int y :: .int x :: st) h = if x ≤ y then ev 139 14 L st h else ev 139 12 L st h := G_icmp_le f139_9 (by decide)
theorem f139_12 : fetch 139 12 = some (.iconst (-1), 1) := vtab tk139 6 rfl
theorem e139_12 (L : VL) (st : List Value) (h : VG) : ev 139 12 L (st) h = ev 139 13 L (.int (-1 : Int32) :: st) h := G_iconst f139_12 (by decide)
theorem f139_13 : fetch 139 13 = some (.ireturn, 1) := vtab tk139 7 rfl
theorem e139_13 (L : VL) (h : VG) (x : Int32) : ev 139 13 L [.int x] h = some (some (.int x), h) := G_iret f139_13 (ty := .int) (by decide) rfl
theorem f139_14 : fetch 139 14 = some (.aload_n 0, 1) := vtab tk139 8 rfl
theorem e139_14 (L : VL) (st : List Value) (h : VG) (x : Nat) : ev 139 14 (some (.ref x) :: L) (st) h = ev 139 15 (some (.ref x) :: L) (.ref x :: st) h := G_aload_n f139_14 rfl
theorem f139_15 : fetch 139 15 = some (.dup, 1) := vtab tk139 9 rfl
theorem e139_15b (L : VL) (st : List Value) (h : VG) (x : Int32) : ev 139 15 L (.int x :: st) h = ev 139 16 L (.int x :: .int x :: st) h := G_dup_int f139_15
theorem e139_15 (L : VL) (st : List Value) (h : VG) (x : Nat) : ev 139 15 L (.ref x :: st) h = ev 139 16 L (.ref x :: .ref x :: st) h := G_dup_ref f139_15
theorem f139_16 : fetch 139 16 = some (.getfield 151, 3) := vtab tk139 10 rfl
theorem e139_16 (L : VL) (st : List Value) (h : VG) (a : Nat) (ho : ob h a 11) : ev 139 16 L (.ref a :: st) h = ev 139 19 L (.int (gI h a 2) :: st) h := G_getI (p := 1015) f139_16 lkF_12_151 (by decide) (by decide) ho
theorem f139_19 : fetch 139 19 = some (.iload_n 1, 1) := vtab tk139 11 rfl
theorem e139_19 (l0 : Option Value) (L : VL) (st : List Value) (h : VG) (x : Int32) : ev 139 19 (l0 :: some (.int x) :: L) (st) h = ev 139 20 (l0 :: some (.int x) :: L) (.int x :: st) h := G_iload_n f139_19 rfl
theorem f139_20 : fetch 139 20 = some (.isub, 1) := vtab tk139 12 rfl
theorem e139_20 (L : VL) (st : List Value) (h : VG) (x y : Int32) : ev 139 20 L (.int y :: .int x :: st) h = ev 139 21 L (.int (x - y) :: st) h := G_isub f139_20
theorem f139_21 : fetch 139 21 = some (.putfield 151, 3) := vtab tk139 13 rfl
theorem e139_21 (L : VL) (st : List Value) (h : VG) (a : Nat) (x : Int32) (ho : ob h a 11) : ev 139 21 L (.int x :: .ref a :: st) h = ev 139 24 L (st) (pI h a 2 x) := G_putI (p := 1015) f139_21 lkF_12_151 (by decide) (by decide) (by decide +kernel) ⟨rfl, rfl⟩ ho
theorem f139_24 : fetch 139 24 = some (.aload_n 0, 1) := vtab tk139 14 rfl
theorem e139_24 (L : VL) (st : List Value) (h : VG) (x : Nat) : ev 139 24 (some (.ref x) :: L) (st) h = ev 139 25 (some (.ref x) :: L) (.ref x :: st) h := G_aload_n f139_24 rfl
theorem f139_25 : fetch 139 25 = some (.getfield 151, 3) := vtab tk139 15 rfl
theorem e139_25 (L : VL) (st : List Value) (h : VG) (a : Nat) (ho : ob h a 11) : ev 139 25 L (.ref a :: st) h = ev 139 28 L (.int (gI h a 2) :: st) h := G_getI (p := 1015) f139_25 lkF_12_151 (by decide) (by decide) ho
theorem f139_28 : fetch 139 28 = some (.ireturn, 1) := vtab tk139 16 rfl
theorem e139_28 (L : VL) (h : VG) (x : Int32) : ev 139 28 L [.int x] h = some (some (.int x), h) := G_iret f139_28 (ty := .int) (by decide) rfl
/-! 140 GuestCallsModel.textAt(I)I -/
def tb140 : List (Nat × Instr × Nat) := [(0, .iload_n 1, 1), (1, .aload_n 0, 1), (2, .getfield 158, 3), (5, .if_icmp .ge 16, 3), (8, .aload_n 0, 1), (9, .getfield 17, 3), (12, .iload_n 1, 1), (13, .baload, 1), (14, .sipush 255, 3), (17, .iand, 1), (18, .goto 4, 3), (21, .iconst 0, 1), (22, .ireturn, 1)]
theorem tk140 : tb140.all (fun q => decide (fetch 140 q.1 = some q.2)) = true := by decide +kernel
theorem f140_0 : fetch 140 0 = some (.iload_n 1, 1) := vtab tk140 0 rfl
theorem e140_0 (l0 : Option Value) (L : VL) (st : List Value) (h : VG) (x : Int32) : ev 140 0 (l0 :: some (.int x) :: L) (st) h = ev 140 1 (l0 :: some (.int x) :: L) (.int x :: st) h := G_iload_n f140_0 rfl
theorem f140_1 : fetch 140 1 = some (.aload_n 0, 1) := vtab tk140 1 rfl
theorem e140_1 (L : VL) (st : List Value) (h : VG) (x : Nat) : ev 140 1 (some (.ref x) :: L) (st) h = ev 140 2 (some (.ref x) :: L) (.ref x :: st) h := G_aload_n f140_1 rfl
theorem f140_2 : fetch 140 2 = some (.getfield 158, 3) := vtab tk140 2 rfl
theorem e140_2 (L : VL) (st : List Value) (h : VG) (a : Nat) (ho : ob h a 11) : ev 140 2 L (.ref a :: st) h = ev 140 5 L (.int (gI h a 4) :: st) h := G_getI (p := 1017) f140_2 lkF_12_158 (by decide) (by decide) ho
theorem f140_5 : fetch 140 5 = some (.if_icmp .ge 16, 3) := vtab tk140 3 rfl
theorem e140_5 (L : VL) (st : List Value) (h : VG) (x y : Int32) : ev 140 5 L (.int y :: .int x :: st) h = if x < y then ev 140 8 L st h else ev 140 21 L st h := G_icmp_ge f140_5 (by decide)
theorem f140_8 : fetch 140 8 = some (.aload_n 0, 1) := vtab tk140 4 rfl
theorem e140_8 (L : VL) (st : List Value) (h : VG) (x : Nat) : ev 140 8 (some (.ref x) :: L) (st) h = ev 140 9 (some (.ref x) :: L) (.ref x :: st) h := G_aload_n f140_8 rfl
theorem f140_9 : fetch 140 9 = some (.getfield 17, 3) := vtab tk140 5 rfl
theorem e140_9 (L : VL) (st : List Value) (h : VG) (a : Nat) (ho : ob h a 11) (hr : isR h a 3) : ev 140 9 L (.ref a :: st) h = ev 140 12 L (.ref (gR h a 3) :: st) h := G_getR (p := 1016) f140_9 lkF_12_17 (by decide) (by decide) ho hr
theorem f140_12 : fetch 140 12 = some (.iload_n 1, 1) := vtab tk140 6 rfl
theorem e140_12 (l0 : Option Value) (L : VL) (st : List Value) (h : VG) (x : Int32) : ev 140 12 (l0 :: some (.int x) :: L) (st) h = ev 140 13 (l0 :: some (.int x) :: L) (.int x :: st) h := G_iload_n f140_12 rfl
theorem f140_13 : fetch 140 13 = some (.baload, 1) := vtab tk140 7 rfl
theorem e140_13 (L : VL) (st : List Value) (h : VG) (a : Nat) (i : Int32) (ha : rdB h a) (hi : vp_in i (aln h a)) : ev 140 13 L (.int i :: .ref a :: st) h = ev 140 14 L (.int (aI h a i.toNatClampNeg) :: st) h := G_bald' f140_13 ha hi
theorem f140_14 : fetch 140 14 = some (.sipush 255, 3) := vtab tk140 8 rfl
theorem e140_14 (L : VL) (st : List Value) (h : VG) : ev 140 14 L (st) h = ev 140 17 L (.int (255 : Int32) :: st) h := G_sipush f140_14 (by decide)
theorem f140_17 : fetch 140 17 = some (.iand, 1) := vtab tk140 9 rfl
theorem e140_17 (L : VL) (st : List Value) (h : VG) (x y : Int32) : ev 140 17 L (.int y :: .int x :: st) h = ev 140 18 L (.int (x &&& y) :: st) h := G_iand f140_17
theorem f140_18 : fetch 140 18 = some (.goto 4, 3) := vtab tk140 10 rfl
theorem e140_18 (L : VL) (st : List Value) (h : VG) : ev 140 18 L (st) h = ev 140 22 L (st) h := G_goto f140_18 (by decide)
theorem f140_21 : fetch 140 21 = some (.iconst 0, 1) := vtab tk140 11 rfl
theorem e140_21 (L : VL) (st : List Value) (h : VG) : ev 140 21 L (st) h = ev 140 22 L (.int (0 : Int32) :: st) h := G_iconst f140_21 (by decide)
theorem f140_22 : fetch 140 22 = some (.ireturn, 1) := vtab tk140 12 rfl
theorem e140_22 (L : VL) (h : VG) (x : Int32) : ev 140 22 L [.int x] h = some (some (.int x), h) := G_iret f140_22 (ty := .int) (by decide) rfl
/-! 141 GuestCallsModel.isDigit(I)Z -/
def tb141 : List (Nat × Instr × Nat) := [(0, .iload_n 0, 1), (1, .bipush 48, 2), (3, .if_icmp .lt 13, 3), (6, .iload_n 0, 1), (7, .bipush 57, 2), (9, .if_icmp .gt 7, 3), (12, .iconst 1, 1), (13, .goto 4, 3), (16, .iconst 0, 1), (17, .ireturn, 1)]
theorem tk141 : tb141.all (fun q => decide (fetch 141 q.1 = some q.2)) = true := by decide +kernel
theorem f141_0 : fetch 141 0 = some (.iload_n 0, 1) := vtab tk141 0 rfl
theorem e141_0 (L : VL) (st : List Value) (h : VG) (x : Int32) : ev 141 0 (some (.int x) :: L) (st) h = ev 141 1 (some (.int x) :: L) (.int x :: st) h := G_iload_n f141_0 rfl
theorem f141_1 : fetch 141 1 = some (.bipush 48, 2) := vtab tk141 1 rfl
theorem e141_1 (L : VL) (st : List Value) (h : VG) : ev 141 1 L (st) h = ev 141 3 L (.int (48 : Int32) :: st) h := G_bipush f141_1 (by decide)
theorem f141_3 : fetch 141 3 = some (.if_icmp .lt 13, 3) := vtab tk141 2 rfl
theorem e141_3 (L : VL) (st : List Value) (h : VG) (x y : Int32) : ev 141 3 L (.int y :: .int x :: st) h = if x < y then ev 141 16 L st h else ev 141 6 L st h := G_icmp_lt f141_3 (by decide)
theorem f141_6 : fetch 141 6 = some (.iload_n 0, 1) := vtab tk141 3 rfl
theorem e141_6 (L : VL) (st : List Value) (h : VG) (x : Int32) : ev 141 6 (some (.int x) :: L) (st) h = ev 141 7 (some (.int x) :: L) (.int x :: st) h := G_iload_n f141_6 rfl
theorem f141_7 : fetch 141 7 = some (.bipush 57, 2) := vtab tk141 4 rfl
theorem e141_7 (L : VL) (st : List Value) (h : VG) : ev 141 7 L (st) h = ev 141 9 L (.int (57 : Int32) :: st) h := G_bipush f141_7 (by decide)
theorem f141_9 : fetch 141 9 = some (.if_icmp .gt 7, 3) := vtab tk141 5 rfl
theorem e141_9 (L : VL) (st : List Value) (h : VG) (x y : Int32) : ev 141 9 L (.int y :: .int x :: st) h = if x ≤ y then ev 141 12 L st h else ev 141 16 L st h := G_icmp_gt f141_9 (by decide)
theorem f141_12 : fetch 141 12 = some (.iconst 1, 1) := vtab tk141 6 rfl
theorem e141_12 (L : VL) (st : List Value) (h : VG) : ev 141 12 L (st) h = ev 141 13 L (.int (1 : Int32) :: st) h := G_iconst f141_12 (by decide)
theorem f141_13 : fetch 141 13 = some (.goto 4, 3) := vtab tk141 7 rfl
theorem e141_13 (L : VL) (st : List Value) (h : VG) : ev 141 13 L (st) h = ev 141 17 L (st) h := G_goto f141_13 (by decide)
theorem f141_16 : fetch 141 16 = some (.iconst 0, 1) := vtab tk141 8 rfl
theorem e141_16 (L : VL) (st : List Value) (h : VG) : ev 141 16 L (st) h = ev 141 17 L (.int (0 : Int32) :: st) h := G_iconst f141_16 (by decide)
theorem f141_17 : fetch 141 17 = some (.ireturn, 1) := vtab tk141 9 rfl
theorem e141_17 (L : VL) (h : VG) (x : Int32) (hz : x = 0 ∨ x = 1) : ev 141 17 L [.int x] h = some (some (.int x), h) := G_iret f141_17 (ty := .boolean) (by decide) (vbool hz).1
/-! 142 GuestCallsModel.isLetter(I)Z -/
def tb142 : List (Nat × Instr × Nat) := [(0, .iload_n 0, 1), (1, .bipush 97, 2), (3, .if_icmp .lt 13, 3), (6, .iload_n 0, 1), (7, .bipush 122, 2), (9, .if_icmp .gt 7, 3), (12, .iconst 1, 1), (13, .goto 4, 3), (16, .iconst 0, 1), (17, .ireturn, 1)]
theorem tk142 : tb142.all (fun q => decide (fetch 142 q.1 = some q.2)) = true := by decide +kernel
theorem f142_0 : fetch 142 0 = some (.iload_n 0, 1) := vtab tk142 0 rfl
theorem e142_0 (L : VL) (st : List Value) (h : VG) (x : Int32) : ev 142 0 (some (.int x) :: L) (st) h = ev 142 1 (some (.int x) :: L) (.int x :: st) h := G_iload_n f142_0 rfl
theorem f142_1 : fetch 142 1 = some (.bipush 97, 2) := vtab tk142 1 rfl
theorem e142_1 (L : VL) (st : List Value) (h : VG) : ev 142 1 L (st) h = ev 142 3 L (.int (97 : Int32) :: st) h := G_bipush f142_1 (by decide)
theorem f142_3 : fetch 142 3 = some (.if_icmp .lt 13, 3) := vtab tk142 2 rfl
theorem e142_3 (L : VL) (st : List Value) (h : VG) (x y : Int32) : ev 142 3 L (.int y :: .int x :: st) h = if x < y then ev 142 16 L st h else ev 142 6 L st h := G_icmp_lt f142_3 (by decide)
theorem f142_6 : fetch 142 6 = some (.iload_n 0, 1) := vtab tk142 3 rfl
theorem e142_6 (L : VL) (st : List Value) (h : VG) (x : Int32) : ev 142 6 (some (.int x) :: L) (st) h = ev 142 7 (some (.int x) :: L) (.int x :: st) h := G_iload_n f142_6 rfl
theorem f142_7 : fetch 142 7 = some (.bipush 122, 2) := vtab tk142 4 rfl
theorem e142_7 (L : VL) (st : List Value) (h : VG) : ev 142 7 L (st) h = ev 142 9 L (.int (122 : Int32) :: st) h := G_bipush f142_7 (by decide)
theorem f142_9 : fetch 142 9 = some (.if_icmp .gt 7, 3) := vtab tk142 5 rfl
theorem e142_9 (L : VL) (st : List Value) (h : VG) (x y : Int32) : ev 142 9 L (.int y :: .int x :: st) h = if x ≤ y then ev 142 12 L st h else ev 142 16 L st h := G_icmp_gt f142_9 (by decide)
theorem f142_12 : fetch 142 12 = some (.iconst 1, 1) := vtab tk142 6 rfl
theorem e142_12 (L : VL) (st : List Value) (h : VG) : ev 142 12 L (st) h = ev 142 13 L (.int (1 : Int32) :: st) h := G_iconst f142_12 (by decide)
theorem f142_13 : fetch 142 13 = some (.goto 4, 3) := vtab tk142 7 rfl
theorem e142_13 (L : VL) (st : List Value) (h : VG) : ev 142 13 L (st) h = ev 142 17 L (st) h := G_goto f142_13 (by decide)
theorem f142_16 : fetch 142 16 = some (.iconst 0, 1) := vtab tk142 8 rfl
theorem e142_16 (L : VL) (st : List Value) (h : VG) : ev 142 16 L (st) h = ev 142 17 L (.int (0 : Int32) :: st) h := G_iconst f142_16 (by decide)
theorem f142_17 : fetch 142 17 = some (.ireturn, 1) := vtab tk142 9 rfl
theorem e142_17 (L : VL) (h : VG) (x : Int32) (hz : x = 0 ∨ x = 1) : ev 142 17 L [.int x] h = some (some (.int x), h) := G_iret f142_17 (ty := .boolean) (by decide) (vbool hz).1
/-! 143 GuestCallsModel.appends(JI)J -/
def tb143 : List (Nat × Instr × Nat) := [(0, .iload_n 2, 1), (1, .ifCond .ne 7, 3), (4, .lload_n 0, 1), (5, .goto 16, 3), (8, .ldc2_w 161, 3), (11, .lload_n 0, 1), (12, .lmul, 1), (13, .iload_n 2, 1), (14, .bipush 97, 2), (16, .isub, 1), (17, .iconst 1, 1), (18, .iadd, 1), (19, .i2l, 1), (20, .ladd, 1), (21, .lreturn, 1)]
theorem tk143 : tb143.all (fun q => decide (fetch 143 q.1 = some q.2)) = true := by decide +kernel
theorem f143_0 : fetch 143 0 = some (.iload_n 2, 1) := vtab tk143 0 rfl
theorem e143_0 (l0 l1 : Option Value) (L : VL) (st : List Value) (h : VG) (x : Int32) : ev 143 0 (l0 :: l1 :: some (.int x) :: L) (st) h = ev 143 1 (l0 :: l1 :: some (.int x) :: L) (.int x :: st) h := G_iload_n f143_0 rfl
theorem f143_1 : fetch 143 1 = some (.ifCond .ne 7, 3) := vtab tk143 1 rfl
theorem e143_1 (L : VL) (st : List Value) (h : VG) (x : Int32) : ev 143 1 L (.int x :: st) h = if x = 0 then ev 143 4 L st h else ev 143 8 L st h := G_if_ne f143_1 (by decide)
theorem f143_4 : fetch 143 4 = some (.lload_n 0, 1) := vtab tk143 2 rfl
theorem e143_4 (L : VL) (st : List Value) (h : VG) (x : Int64) : ev 143 4 (some (.long x) :: L) (st) h = ev 143 5 (some (.long x) :: L) (.long x :: st) h := G_lload_n f143_4 rfl
theorem f143_5 : fetch 143 5 = some (.goto 16, 3) := vtab tk143 3 rfl
theorem e143_5 (L : VL) (st : List Value) (h : VG) : ev 143 5 L (st) h = ev 143 21 L (st) h := G_goto f143_5 (by decide)
theorem f143_8 : fetch 143 8 = some (.ldc2_w 161, 3) := vtab tk143 4 rfl
theorem e143_8 (L : VL) (st : List Value) (h : VG) : ev 143 8 L (st) h = ev 143 11 L (.long 27 :: st) h := G_ldc2l (p := 1013) f143_8 lkK_12_161
theorem f143_11 : fetch 143 11 = some (.lload_n 0, 1) := vtab tk143 5 rfl
theorem e143_11 (L : VL) (st : List Value) (h : VG) (x : Int64) : ev 143 11 (some (.long x) :: L) (st) h = ev 143 12 (some (.long x) :: L) (.long x :: st) h := G_lload_n f143_11 rfl
theorem f143_12 : fetch 143 12 = some (.lmul, 1) := vtab tk143 6 rfl
theorem e143_12 (L : VL) (st : List Value) (h : VG) (x y : Int64) : ev 143 12 L (.long y :: .long x :: st) h = ev 143 13 L (.long (x * y) :: st) h := G_lmul f143_12
theorem f143_13 : fetch 143 13 = some (.iload_n 2, 1) := vtab tk143 7 rfl
theorem e143_13 (l0 l1 : Option Value) (L : VL) (st : List Value) (h : VG) (x : Int32) : ev 143 13 (l0 :: l1 :: some (.int x) :: L) (st) h = ev 143 14 (l0 :: l1 :: some (.int x) :: L) (.int x :: st) h := G_iload_n f143_13 rfl
theorem f143_14 : fetch 143 14 = some (.bipush 97, 2) := vtab tk143 8 rfl
theorem e143_14 (L : VL) (st : List Value) (h : VG) : ev 143 14 L (st) h = ev 143 16 L (.int (97 : Int32) :: st) h := G_bipush f143_14 (by decide)
theorem f143_16 : fetch 143 16 = some (.isub, 1) := vtab tk143 9 rfl
theorem e143_16 (L : VL) (st : List Value) (h : VG) (x y : Int32) : ev 143 16 L (.int y :: .int x :: st) h = ev 143 17 L (.int (x - y) :: st) h := G_isub f143_16
theorem f143_17 : fetch 143 17 = some (.iconst 1, 1) := vtab tk143 10 rfl
theorem e143_17 (L : VL) (st : List Value) (h : VG) : ev 143 17 L (st) h = ev 143 18 L (.int (1 : Int32) :: st) h := G_iconst f143_17 (by decide)
theorem f143_18 : fetch 143 18 = some (.iadd, 1) := vtab tk143 11 rfl
theorem e143_18 (L : VL) (st : List Value) (h : VG) (x y : Int32) : ev 143 18 L (.int y :: .int x :: st) h = ev 143 19 L (.int (x + y) :: st) h := G_iadd f143_18
theorem f143_19 : fetch 143 19 = some (.i2l, 1) := vtab tk143 12 rfl
theorem e143_19 (L : VL) (st : List Value) (h : VG) (x : Int32) : ev 143 19 L (.int x :: st) h = ev 143 20 L (.long x.toInt64 :: st) h := G_i2l f143_19
theorem f143_20 : fetch 143 20 = some (.ladd, 1) := vtab tk143 13 rfl
theorem e143_20 (L : VL) (st : List Value) (h : VG) (x y : Int64) : ev 143 20 L (.long y :: .long x :: st) h = ev 143 21 L (.long (x + y) :: st) h := G_ladd f143_20
theorem f143_21 : fetch 143 21 = some (.lreturn, 1) := vtab tk143 14 rfl
theorem e143_21 (L : VL) (h : VG) (x : Int64) : ev 143 21 L [.long x] h = some (some (.long x), h) := G_lret f143_21 (by decide)
/-! 144 GuestCallsModel.letters(IIIIIII)J -/
def tb144 : List (Nat × Instr × Nat) := [(0, .lconst 0, 1), (1, .iload_n 0, 1), (2, .invokestatic 163, 3), (5, .iload_n 1, 1), (6, .invokestatic 163, 3), (9, .iload_n 2, 1), (10, .invokestatic 163, 3), (13, .iload_n 3, 1), (14, .invokestatic 163, 3), (17, .iload 4, 2), (19, .invokestatic 163, 3), (22, .iload 5, 2), (24, .invokestatic 163, 3), (27, .iload 6, 2), (29, .invokestatic 163, 3), (32, .lreturn, 1)]
theorem tk144 : tb144.all (fun q => decide (fetch 144 q.1 = some q.2)) = true := by decide +kernel
theorem f144_0 : fetch 144 0 = some (.lconst 0, 1) := vtab tk144 0 rfl
theorem e144_0 (L : VL) (st : List Value) (h : VG) : ev 144 0 L (st) h = ev 144 1 L (.long 0 :: st) h := G_lconst f144_0 (by decide)
theorem f144_1 : fetch 144 1 = some (.iload_n 0, 1) := vtab tk144 1 rfl
theorem e144_1 (L : VL) (st : List Value) (h : VG) (x : Int32) : ev 144 1 (some (.int x) :: L) (st) h = ev 144 2 (some (.int x) :: L) (.int x :: st) h := G_iload_n f144_1 rfl
theorem f144_2 : fetch 144 2 = some (.invokestatic 163, 3) := vtab tk144 2 rfl
theorem e144_2 (L : VL) (st : List Value) (h : VG) (x0 : Int64) (x1 : Int32) (hs : catS st ≤ 8) : ev 144 2 L (.int x1 :: .long x0 :: st) h = (ev 143 0 [some (.long x0), none, some (.int x1)] [] h).bind fun q => ev 144 5 L (q.1.toList ++ st) q.2 := G_calls (k := 0) (p := 1010) (ars := [.long x0, .int x1]) f144_2 lkC_12_163 (by decide) (by decide +kernel) rfl (Nat.le_of_ble_eq_true rfl) hs rfl
theorem f144_5 : fetch 144 5 = some (.iload_n 1, 1) := vtab tk144 3 rfl
theorem e144_5 (l0 : Option Value) (L : VL) (st : List Value) (h : VG) (x : Int32) : ev 144 5 (l0 :: some (.int x) :: L) (st) h = ev 144 6 (l0 :: some (.int x) :: L) (.int x :: st) h := G_iload_n f144_5 rfl
theorem f144_6 : fetch 144 6 = some (.invokestatic 163, 3) := vtab tk144 4 rfl
theorem e144_6 (L : VL) (st : List Value) (h : VG) (x0 : Int64) (x1 : Int32) (hs : catS st ≤ 8) : ev 144 6 L (.int x1 :: .long x0 :: st) h = (ev 143 0 [some (.long x0), none, some (.int x1)] [] h).bind fun q => ev 144 9 L (q.1.toList ++ st) q.2 := G_calls (k := 0) (p := 1010) (ars := [.long x0, .int x1]) f144_6 lkC_12_163 (by decide) (by decide +kernel) rfl (Nat.le_of_ble_eq_true rfl) hs rfl
theorem f144_9 : fetch 144 9 = some (.iload_n 2, 1) := vtab tk144 5 rfl
theorem e144_9 (l0 l1 : Option Value) (L : VL) (st : List Value) (h : VG) (x : Int32) : ev 144 9 (l0 :: l1 :: some (.int x) :: L) (st) h = ev 144 10 (l0 :: l1 :: some (.int x) :: L) (.int x :: st) h := G_iload_n f144_9 rfl
theorem f144_10 : fetch 144 10 = some (.invokestatic 163, 3) := vtab tk144 6 rfl
theorem e144_10 (L : VL) (st : List Value) (h : VG) (x0 : Int64) (x1 : Int32) (hs : catS st ≤ 8) : ev 144 10 L (.int x1 :: .long x0 :: st) h = (ev 143 0 [some (.long x0), none, some (.int x1)] [] h).bind fun q => ev 144 13 L (q.1.toList ++ st) q.2 := G_calls (k := 0) (p := 1010) (ars := [.long x0, .int x1]) f144_10 lkC_12_163 (by decide) (by decide +kernel) rfl (Nat.le_of_ble_eq_true rfl) hs rfl
theorem f144_13 : fetch 144 13 = some (.iload_n 3, 1) := vtab tk144 7 rfl
theorem e144_13 (l0 l1 l2 : Option Value) (L : VL) (st : List Value) (h : VG) (x : Int32) : ev 144 13 (l0 :: l1 :: l2 :: some (.int x) :: L) (st) h = ev 144 14 (l0 :: l1 :: l2 :: some (.int x) :: L) (.int x :: st) h := G_iload_n f144_13 rfl
theorem f144_14 : fetch 144 14 = some (.invokestatic 163, 3) := vtab tk144 8 rfl
theorem e144_14 (L : VL) (st : List Value) (h : VG) (x0 : Int64) (x1 : Int32) (hs : catS st ≤ 8) : ev 144 14 L (.int x1 :: .long x0 :: st) h = (ev 143 0 [some (.long x0), none, some (.int x1)] [] h).bind fun q => ev 144 17 L (q.1.toList ++ st) q.2 := G_calls (k := 0) (p := 1010) (ars := [.long x0, .int x1]) f144_14 lkC_12_163 (by decide) (by decide +kernel) rfl (Nat.le_of_ble_eq_true rfl) hs rfl
theorem f144_17 : fetch 144 17 = some (.iload 4, 2) := vtab tk144 9 rfl
theorem e144_17 (l0 l1 l2 l3 : Option Value) (L : VL) (st : List Value) (h : VG) (x : Int32) : ev 144 17 (l0 :: l1 :: l2 :: l3 :: some (.int x) :: L) (st) h = ev 144 19 (l0 :: l1 :: l2 :: l3 :: some (.int x) :: L) (.int x :: st) h := G_iload f144_17 rfl
theorem f144_19 : fetch 144 19 = some (.invokestatic 163, 3) := vtab tk144 10 rfl
theorem e144_19 (L : VL) (st : List Value) (h : VG) (x0 : Int64) (x1 : Int32) (hs : catS st ≤ 8) : ev 144 19 L (.int x1 :: .long x0 :: st) h = (ev 143 0 [some (.long x0), none, some (.int x1)] [] h).bind fun q => ev 144 22 L (q.1.toList ++ st) q.2 := G_calls (k := 0) (p := 1010) (ars := [.long x0, .int x1]) f144_19 lkC_12_163 (by decide) (by decide +kernel) rfl (Nat.le_of_ble_eq_true rfl) hs rfl
theorem f144_22 : fetch 144 22 = some (.iload 5, 2) := vtab tk144 11 rfl
theorem e144_22 (l0 l1 l2 l3 l4 : Option Value) (L : VL) (st : List Value) (h : VG) (x : Int32) : ev 144 22 (l0 :: l1 :: l2 :: l3 :: l4 :: some (.int x) :: L) (st) h = ev 144 24 (l0 :: l1 :: l2 :: l3 :: l4 :: some (.int x) :: L) (.int x :: st) h := G_iload f144_22 rfl
theorem f144_24 : fetch 144 24 = some (.invokestatic 163, 3) := vtab tk144 12 rfl
theorem e144_24 (L : VL) (st : List Value) (h : VG) (x0 : Int64) (x1 : Int32) (hs : catS st ≤ 8) : ev 144 24 L (.int x1 :: .long x0 :: st) h = (ev 143 0 [some (.long x0), none, some (.int x1)] [] h).bind fun q => ev 144 27 L (q.1.toList ++ st) q.2 := G_calls (k := 0) (p := 1010) (ars := [.long x0, .int x1]) f144_24 lkC_12_163 (by decide) (by decide +kernel) rfl (Nat.le_of_ble_eq_true rfl) hs rfl
theorem f144_27 : fetch 144 27 = some (.iload 6, 2) := vtab tk144 13 rfl
theorem e144_27 (l0 l1 l2 l3 l4 l5 : Option Value) (L : VL) (st : List Value) (h : VG) (x : Int32) : ev 144 27 (l0 :: l1 :: l2 :: l3 :: l4 :: l5 :: some (.int x) :: L) (st) h = ev 144 29 (l0 :: l1 :: l2 :: l3 :: l4 :: l5 :: some (.int x) :: L) (.int x :: st) h := G_iload f144_27 rfl
theorem f144_29 : fetch 144 29 = some (.invokestatic 163, 3) := vtab tk144 14 rfl
theorem e144_29 (L : VL) (st : List Value) (h : VG) (x0 : Int64) (x1 : Int32) (hs : catS st ≤ 8) : ev 144 29 L (.int x1 :: .long x0 :: st) h = (ev 143 0 [some (.long x0), none, some (.int x1)] [] h).bind fun q => ev 144 32 L (q.1.toList ++ st) q.2 := G_calls (k := 0) (p := 1010) (ars := [.long x0, .int x1]) f144_29 lkC_12_163 (by decide) (by decide +kernel) rfl (Nat.le_of_ble_eq_true rfl) hs rfl
theorem f144_32 : fetch 144 32 = some (.lreturn, 1) := vtab tk144 15 rfl
theorem e144_32 (L : VL) (h : VG) (x : Int64) : ev 144 32 L [.long x] h = some (some (.long x), h) := G_lret f144_32 (by decide)
/-! 145 GuestCallsModel.token(IIIJ)V -/
def tb145 : List (Nat × Instr × Nat) := [(0, .aload_n 0, 1), (1, .getfield 20, 3), (4, .aload_n 0, 1), (5, .getfield 167, 3), (8, .iload_n 1, 1), (9, .iastore, 1), (10, .aload_n 0, 1), (11, .getfield 24, 3), (14, .aload_n 0, 1), (15, .getfield 167, 3), (18, .iload_n 2, 1), (19, .iastore, 1), (20, .aload_n 0, 1), (21, .getfield 27, 3), (24, .aload_n 0, 1), (25, .getfield 167, 3), (28, .iload_n 3, 1), (29, .iastore, 1), (30, .aload_n 0, 1), (31, .getfield 30, 3), (34, .aload_n 0, 1), (35, .getfield 167, 3), (38, .lload 4, 2), (40, .lastore, 1), (41, .aload_n 0, 1), (42, .dup, 1), (43, .getfield 167, 3), (46, .iconst 1, 1), (47, .iadd, 1), (48, .putfield 167, 3), (51, .return_, 1)]
theorem tk145 : tb145.all (fun q => decide (fetch 145 q.1 = some q.2)) = true := by decide +kernel
theorem f145_0 : fetch 145 0 = some (.aload_n 0, 1) := vtab tk145 0 rfl
theorem e145_0 (L : VL) (st : List Value) (h : VG) (x : Nat) : ev 145 0 (some (.ref x) :: L) (st) h = ev 145 1 (some (.ref x) :: L) (.ref x :: st) h := G_aload_n f145_0 rfl
theorem f145_1 : fetch 145 1 = some (.getfield 20, 3) := vtab tk145 1 rfl
theorem e145_1 (L : VL) (st : List Value) (h : VG) (a : Nat) (ho : ob h a 11) (hr : isR h a 5) : ev 145 1 L (.ref a :: st) h = ev 145 4 L (.ref (gR h a 5) :: st) h := G_getR (p := 1018) f145_1 lkF_12_20 (by decide) (by decide) ho hr
theorem f145_4 : fetch 145 4 = some (.aload_n 0, 1) := vtab tk145 2 rfl
theorem e145_4 (L : VL) (st : List Value) (h : VG) (x : Nat) : ev 145 4 (some (.ref x) :: L) (st) h = ev 145 5 (some (.ref x) :: L) (.ref x :: st) h := G_aload_n f145_4 rfl
theorem f145_5 : fetch 145 5 = some (.getfield 167, 3) := vtab tk145 3 rfl
theorem e145_5 (L : VL) (st : List Value) (h : VG) (a : Nat) (ho : ob h a 11) : ev 145 5 L (.ref a :: st) h = ev 145 8 L (.int (gI h a 10) :: st) h := G_getI (p := 1023) f145_5 lkF_12_167 (by decide) (by decide) ho
theorem f145_8 : fetch 145 8 = some (.iload_n 1, 1) := vtab tk145 4 rfl
theorem e145_8 (l0 : Option Value) (L : VL) (st : List Value) (h : VG) (x : Int32) : ev 145 8 (l0 :: some (.int x) :: L) (st) h = ev 145 9 (l0 :: some (.int x) :: L) (.int x :: st) h := G_iload_n f145_8 rfl
theorem f145_9 : fetch 145 9 = some (.iastore, 1) := vtab tk145 5 rfl
theorem e145_9 (L : VL) (st : List Value) (h : VG) (a : Nat) (i : Int32) (x : Int32) (ha : arI h a 0) (hi : vp_in i (aln h a)) : ev 145 9 L (.int x :: .int i :: .ref a :: st) h = ev 145 10 L (st) (wI h a i.toNatClampNeg x) := G_iast f145_9 ha hi
theorem f145_10 : fetch 145 10 = some (.aload_n 0, 1) := vtab tk145 6 rfl
theorem e145_10 (L : VL) (st : List Value) (h : VG) (x : Nat) : ev 145 10 (some (.ref x) :: L) (st) h = ev 145 11 (some (.ref x) :: L) (.ref x :: st) h := G_aload_n f145_10 rfl
theorem f145_11 : fetch 145 11 = some (.getfield 24, 3) := vtab tk145 7 rfl
theorem e145_11 (L : VL) (st : List Value) (h : VG) (a : Nat) (ho : ob h a 11) (hr : isR h a 6) : ev 145 11 L (.ref a :: st) h = ev 145 14 L (.ref (gR h a 6) :: st) h := G_getR (p := 1019) f145_11 lkF_12_24 (by decide) (by decide) ho hr
theorem f145_14 : fetch 145 14 = some (.aload_n 0, 1) := vtab tk145 8 rfl
theorem e145_14 (L : VL) (st : List Value) (h : VG) (x : Nat) : ev 145 14 (some (.ref x) :: L) (st) h = ev 145 15 (some (.ref x) :: L) (.ref x :: st) h := G_aload_n f145_14 rfl
theorem f145_15 : fetch 145 15 = some (.getfield 167, 3) := vtab tk145 9 rfl
theorem e145_15 (L : VL) (st : List Value) (h : VG) (a : Nat) (ho : ob h a 11) : ev 145 15 L (.ref a :: st) h = ev 145 18 L (.int (gI h a 10) :: st) h := G_getI (p := 1023) f145_15 lkF_12_167 (by decide) (by decide) ho
theorem f145_18 : fetch 145 18 = some (.iload_n 2, 1) := vtab tk145 10 rfl
theorem e145_18 (l0 l1 : Option Value) (L : VL) (st : List Value) (h : VG) (x : Int32) : ev 145 18 (l0 :: l1 :: some (.int x) :: L) (st) h = ev 145 19 (l0 :: l1 :: some (.int x) :: L) (.int x :: st) h := G_iload_n f145_18 rfl
theorem f145_19 : fetch 145 19 = some (.iastore, 1) := vtab tk145 11 rfl
theorem e145_19 (L : VL) (st : List Value) (h : VG) (a : Nat) (i : Int32) (x : Int32) (ha : arI h a 0) (hi : vp_in i (aln h a)) : ev 145 19 L (.int x :: .int i :: .ref a :: st) h = ev 145 20 L (st) (wI h a i.toNatClampNeg x) := G_iast f145_19 ha hi
theorem f145_20 : fetch 145 20 = some (.aload_n 0, 1) := vtab tk145 12 rfl
theorem e145_20 (L : VL) (st : List Value) (h : VG) (x : Nat) : ev 145 20 (some (.ref x) :: L) (st) h = ev 145 21 (some (.ref x) :: L) (.ref x :: st) h := G_aload_n f145_20 rfl
theorem f145_21 : fetch 145 21 = some (.getfield 27, 3) := vtab tk145 13 rfl
theorem e145_21 (L : VL) (st : List Value) (h : VG) (a : Nat) (ho : ob h a 11) (hr : isR h a 7) : ev 145 21 L (.ref a :: st) h = ev 145 24 L (.ref (gR h a 7) :: st) h := G_getR (p := 1020) f145_21 lkF_12_27 (by decide) (by decide) ho hr
theorem f145_24 : fetch 145 24 = some (.aload_n 0, 1) := vtab tk145 14 rfl
theorem e145_24 (L : VL) (st : List Value) (h : VG) (x : Nat) : ev 145 24 (some (.ref x) :: L) (st) h = ev 145 25 (some (.ref x) :: L) (.ref x :: st) h := G_aload_n f145_24 rfl
theorem f145_25 : fetch 145 25 = some (.getfield 167, 3) := vtab tk145 15 rfl
theorem e145_25 (L : VL) (st : List Value) (h : VG) (a : Nat) (ho : ob h a 11) : ev 145 25 L (.ref a :: st) h = ev 145 28 L (.int (gI h a 10) :: st) h := G_getI (p := 1023) f145_25 lkF_12_167 (by decide) (by decide) ho
theorem f145_28 : fetch 145 28 = some (.iload_n 3, 1) := vtab tk145 16 rfl
theorem e145_28 (l0 l1 l2 : Option Value) (L : VL) (st : List Value) (h : VG) (x : Int32) : ev 145 28 (l0 :: l1 :: l2 :: some (.int x) :: L) (st) h = ev 145 29 (l0 :: l1 :: l2 :: some (.int x) :: L) (.int x :: st) h := G_iload_n f145_28 rfl
theorem f145_29 : fetch 145 29 = some (.iastore, 1) := vtab tk145 17 rfl
theorem e145_29 (L : VL) (st : List Value) (h : VG) (a : Nat) (i : Int32) (x : Int32) (ha : arI h a 0) (hi : vp_in i (aln h a)) : ev 145 29 L (.int x :: .int i :: .ref a :: st) h = ev 145 30 L (st) (wI h a i.toNatClampNeg x) := G_iast f145_29 ha hi
theorem f145_30 : fetch 145 30 = some (.aload_n 0, 1) := vtab tk145 18 rfl
theorem e145_30 (L : VL) (st : List Value) (h : VG) (x : Nat) : ev 145 30 (some (.ref x) :: L) (st) h = ev 145 31 (some (.ref x) :: L) (.ref x :: st) h := G_aload_n f145_30 rfl
theorem f145_31 : fetch 145 31 = some (.getfield 30, 3) := vtab tk145 19 rfl
theorem e145_31 (L : VL) (st : List Value) (h : VG) (a : Nat) (ho : ob h a 11) (hr : isR h a 8) : ev 145 31 L (.ref a :: st) h = ev 145 34 L (.ref (gR h a 8) :: st) h := G_getR (p := 1021) f145_31 lkF_12_30 (by decide) (by decide) ho hr
theorem f145_34 : fetch 145 34 = some (.aload_n 0, 1) := vtab tk145 20 rfl
theorem e145_34 (L : VL) (st : List Value) (h : VG) (x : Nat) : ev 145 34 (some (.ref x) :: L) (st) h = ev 145 35 (some (.ref x) :: L) (.ref x :: st) h := G_aload_n f145_34 rfl
theorem f145_35 : fetch 145 35 = some (.getfield 167, 3) := vtab tk145 21 rfl
theorem e145_35 (L : VL) (st : List Value) (h : VG) (a : Nat) (ho : ob h a 11) : ev 145 35 L (.ref a :: st) h = ev 145 38 L (.int (gI h a 10) :: st) h := G_getI (p := 1023) f145_35 lkF_12_167 (by decide) (by decide) ho
theorem f145_38 : fetch 145 38 = some (.lload 4, 2) := vtab tk145 22 rfl
theorem e145_38 (l0 l1 l2 l3 : Option Value) (L : VL) (st : List Value) (h : VG) (x : Int64) : ev 145 38 (l0 :: l1 :: l2 :: l3 :: some (.long x) :: L) (st) h = ev 145 40 (l0 :: l1 :: l2 :: l3 :: some (.long x) :: L) (.long x :: st) h := G_lload f145_38 rfl
theorem f145_40 : fetch 145 40 = some (.lastore, 1) := vtab tk145 23 rfl
theorem e145_40 (L : VL) (st : List Value) (h : VG) (a : Nat) (i : Int32) (x : Int64) (ha : arL h a) (hi : vp_in i (aln h a)) : ev 145 40 L (.long x :: .int i :: .ref a :: st) h = ev 145 41 L (st) (wL h a i.toNatClampNeg x) := G_last f145_40 ha hi
theorem f145_41 : fetch 145 41 = some (.aload_n 0, 1) := vtab tk145 24 rfl
theorem e145_41 (L : VL) (st : List Value) (h : VG) (x : Nat) : ev 145 41 (some (.ref x) :: L) (st) h = ev 145 42 (some (.ref x) :: L) (.ref x :: st) h := G_aload_n f145_41 rfl
theorem f145_42 : fetch 145 42 = some (.dup, 1) := vtab tk145 25 rfl
theorem e145_42b (L : VL) (st : List Value) (h : VG) (x : Int32) : ev 145 42 L (.int x :: st) h = ev 145 43 L (.int x :: .int x :: st) h := G_dup_int f145_42
theorem e145_42 (L : VL) (st : List Value) (h : VG) (x : Nat) : ev 145 42 L (.ref x :: st) h = ev 145 43 L (.ref x :: .ref x :: st) h := G_dup_ref f145_42
theorem f145_43 : fetch 145 43 = some (.getfield 167, 3) := vtab tk145 26 rfl
theorem e145_43 (L : VL) (st : List Value) (h : VG) (a : Nat) (ho : ob h a 11) : ev 145 43 L (.ref a :: st) h = ev 145 46 L (.int (gI h a 10) :: st) h := G_getI (p := 1023) f145_43 lkF_12_167 (by decide) (by decide) ho
theorem f145_46 : fetch 145 46 = some (.iconst 1, 1) := vtab tk145 27 rfl
theorem e145_46 (L : VL) (st : List Value) (h : VG) : ev 145 46 L (st) h = ev 145 47 L (.int (1 : Int32) :: st) h := G_iconst f145_46 (by decide)
theorem f145_47 : fetch 145 47 = some (.iadd, 1) := vtab tk145 28 rfl
theorem e145_47 (L : VL) (st : List Value) (h : VG) (x y : Int32) : ev 145 47 L (.int y :: .int x :: st) h = ev 145 48 L (.int (x + y) :: st) h := G_iadd f145_47
theorem f145_48 : fetch 145 48 = some (.putfield 167, 3) := vtab tk145 29 rfl
theorem e145_48 (L : VL) (st : List Value) (h : VG) (a : Nat) (x : Int32) (ho : ob h a 11) : ev 145 48 L (.int x :: .ref a :: st) h = ev 145 51 L (st) (pI h a 10 x) := G_putI (p := 1023) f145_48 lkF_12_167 (by decide) (by decide) (by decide +kernel) ⟨rfl, rfl⟩ ho
theorem f145_51 : fetch 145 51 = some (.return_, 1) := vtab tk145 30 rfl
theorem e145_51 (L : VL) (h : VG) : ev 145 51 L [] h = some (none, h) := G_vret f145_51 (by decide)
/-! 146 GuestCallsModel.cutsText()V -/
def tb146 : List (Nat × Instr × Nat) := [(0, .aload_n 0, 1), (1, .iconst 0, 1), (2, .putfield 167, 3), (5, .iconst 0, 1), (6, .istore_n 1, 1), (7, .aload_n 0, 1), (8, .getfield 167, 3), (11, .sipush 400, 3), (14, .if_icmp .gt 273, 3), (17, .aload_n 0, 1), (18, .iload_n 1, 1), (19, .invokevirtual 170, 3), (22, .istore_n 2, 1), (23, .iload_n 1, 1), (24, .aload_n 0, 1), (25, .getfield 158, 3), (28, .if_icmp .lt 15, 3), (31, .aload_n 0, 1), (32, .iconst 0, 1), (33, .aload_n 0, 1), (34, .getfield 158, 3), (37, .iconst 0, 1), (38, .lconst 0, 1), (39, .invokevirtual 174, 3), (42, .return_, 1), (43, .iload_n 2, 1), (44, .bipush 9, 2), (46, .if_icmp .eq 21, 3), (49, .iload_n 2, 1), (50, .bipush 10, 2), (52, .if_icmp .eq 15, 3), (55, .iload_n 2, 1), (56, .bipush 13, 2), (58, .if_icmp .eq 9, 3), (61, .iload_n 2, 1), (62, .bipush 32, 2), (64, .if_icmp .ne 9, 3), (67, .iinc 1 1, 3), (70, .goto 214, 3), (73, .iload_n 2, 1), (74, .invokestatic 178, 3), (77, .ifCond .eq 119, 3), (80, .iconst 0, 1), (81, .istore_n 3, 1), (82, .lconst 0, 1), (83, .lstore 4, 2), (85, .aload_n 0, 1), (86, .iload_n 1, 1), (87, .iload_n 3, 1), (88, .iadd, 1), (89, .invokevirtual 170, 3), (92, .invokestatic 178, 3), (95, .ifCond .eq 29, 3), (98, .iload_n 3, 1), (99, .bipush 8, 2), (101, .if_icmp .ge 17, 3), (104, .lload 4, 2), (106, .aload_n 0, 1), (107, .iload_n 1, 1), (108, .iload_n 3, 1), (109, .iadd, 1), (110, .invokevirtual 170, 3), (113, .invokestatic 163, 3), (116, .lstore 4, 2), (118, .iinc 3 1, 3), (121, .goto (-36), 3), (124, .iload_n 3, 1), (125, .bipush 8, 2), (127, .if_icmp .le 7, 3), (130, .iconst 3, 1), (131, .goto 4, 3), (134, .iconst 1, 1), (135, .istore 6, 2), (137, .iload_n 3, 1), (138, .bipush 8, 2), (140, .if_icmp .gt 39, 3), (143, .iconst 0, 1), (144, .istore 7, 2), (146, .iload 7, 2), (148, .bipush 14, 2), (150, .if_icmp .ge 29, 3), (153, .aload_n 0, 1), (154, .getfield 34, 3), (157, .iload 7, 2), (159, .laload, 1), (160, .lload 4, 2), (162, .lcmp, 1), (163, .ifCond .ne 10, 3), (166, .bipush 20, 2), (168, .iload 7, 2), (170, .iadd, 1), (171, .istore 6, 2), (173, .iinc 7 1, 3), (176, .goto (-30), 3), (179, .aload_n 0, 1), (180, .iload 6, 2), (182, .iload_n 1, 1), (183, .iconst 0, 1), (184, .lload 4, 2), (186, .invokevirtual 174, 3), (189, .iload_n 1, 1), (190, .iload_n 3, 1), (191, .iadd, 1), (192, .istore_n 1, 1), (193, .goto 91, 3), (196, .iload_n 2, 1), (197, .invokestatic 182, 3), (200, .ifCond .eq 75, 3), (203, .iconst 0, 1), (204, .istore_n 3, 1), (205, .iconst 0, 1), (206, .istore 4, 2), (208, .aload_n 0, 1), (209, .iload_n 1, 1), (210, .iload_n 3, 1), (211, .iadd, 1), (212, .invokevirtual 170, 3), (215, .invokestatic 182, 3), (218, .ifCond .eq 32, 3), (221, .iload_n 3, 1), (222, .iconst 4, 1), (223, .if_icmp .ge 21, 3), (226, .bipush 10, 2), (228, .iload 4, 2), (230, .imul, 1), (231, .aload_n 0, 1), (232, .iload_n 1, 1), (233, .iload_n 3, 1), (234, .iadd, 1), (235, .invokevirtual 170, 3), (238, .iadd, 1), (239, .bipush 48, 2), (241, .isub, 1), (242, .istore 4, 2), (244, .iinc 3 1, 3), (247, .goto (-39), 3), (250, .aload_n 0, 1), (251, .iload_n 3, 1), (252, .iconst 4, 1), (253, .if_icmp .le 7, 3), (256, .iconst 3, 1), (257, .goto 4, 3), (260, .iconst 2, 1), (261, .iload_n 1, 1), (262, .iload 4, 2), (264, .lconst 0, 1), (265, .invokevirtual 174, 3), (268, .iload_n 1, 1), (269, .iload_n 3, 1), (270, .iadd, 1), (271, .istore_n 1, 1), (272, .goto 12, 3), (275, .iload_n 1, 1), (276, .aload_n 0, 1), (277, .iload_n 1, 1), (278, .iload_n 2, 1), (279, .invokevirtual 185, 3), (282, .iadd, 1), (283, .istore_n 1, 1), (284, .goto (-277), 3), (287, .return_, 1)]
theorem tk146 : tb146.all (fun q => decide (fetch 146 q.1 = some q.2)) = true := by decide +kernel
theorem f146_0 : fetch 146 0 = some (.aload_n 0, 1) := vtab tk146 0 rfl
theorem e146_0 (L : VL) (st : List Value) (h : VG) (x : Nat) : ev 146 0 (some (.ref x) :: L) (st) h = ev 146 1 (some (.ref x) :: L) (.ref x :: st) h := G_aload_n f146_0 rfl
theorem f146_1 : fetch 146 1 = some (.iconst 0, 1) := vtab tk146 1 rfl
theorem e146_1 (L : VL) (st : List Value) (h : VG) : ev 146 1 L (st) h = ev 146 2 L (.int (0 : Int32) :: st) h := G_iconst f146_1 (by decide)
theorem f146_2 : fetch 146 2 = some (.putfield 167, 3) := vtab tk146 2 rfl
theorem e146_2 (L : VL) (st : List Value) (h : VG) (a : Nat) (x : Int32) (ho : ob h a 11) : ev 146 2 L (.int x :: .ref a :: st) h = ev 146 5 L (st) (pI h a 10 x) := G_putI (p := 1023) f146_2 lkF_12_167 (by decide) (by decide) (by decide +kernel) ⟨rfl, rfl⟩ ho
theorem f146_5 : fetch 146 5 = some (.iconst 0, 1) := vtab tk146 3 rfl
theorem e146_5 (L : VL) (st : List Value) (h : VG) : ev 146 5 L (st) h = ev 146 6 L (.int (0 : Int32) :: st) h := G_iconst f146_5 (by decide)
theorem f146_6 : fetch 146 6 = some (.istore_n 1, 1) := vtab tk146 4 rfl
theorem e146_6 (l0 l1 : Option Value) (L : VL) (st : List Value) (h : VG) (x : Int32) : ev 146 6 (l0 :: l1 :: L) (.int x :: st) h = ev 146 7 (vkk l0 :: some (.int x) :: L) (st) h := G_istore_n f146_6 rfl (S1_1 l0 l1 L _)
theorem f146_7 : fetch 146 7 = some (.aload_n 0, 1) := vtab tk146 5 rfl
theorem e146_7 (L : VL) (st : List Value) (h : VG) (x : Nat) : ev 146 7 (some (.ref x) :: L) (st) h = ev 146 8 (some (.ref x) :: L) (.ref x :: st) h := G_aload_n f146_7 rfl
theorem f146_8 : fetch 146 8 = some (.getfield 167, 3) := vtab tk146 6 rfl
theorem e146_8 (L : VL) (st : List Value) (h : VG) (a : Nat) (ho : ob h a 11) : ev 146 8 L (.ref a :: st) h = ev 146 11 L (.int (gI h a 10) :: st) h := G_getI (p := 1023) f146_8 lkF_12_167 (by decide) (by decide) ho
theorem f146_11 : fetch 146 11 = some (.sipush 400, 3) := vtab tk146 7 rfl
theorem e146_11 (L : VL) (st : List Value) (h : VG) : ev 146 11 L (st) h = ev 146 14 L (.int (400 : Int32) :: st) h := G_sipush f146_11 (by decide)
theorem f146_14 : fetch 146 14 = some (.if_icmp .gt 273, 3) := vtab tk146 8 rfl
theorem e146_14 (L : VL) (st : List Value) (h : VG) (x y : Int32) : ev 146 14 L (.int y :: .int x :: st) h = if x ≤ y then ev 146 17 L st h else ev 146 287 L st h := G_icmp_gt f146_14 (by decide)
theorem f146_17 : fetch 146 17 = some (.aload_n 0, 1) := vtab tk146 9 rfl
theorem e146_17 (L : VL) (st : List Value) (h : VG) (x : Nat) : ev 146 17 (some (.ref x) :: L) (st) h = ev 146 18 (some (.ref x) :: L) (.ref x :: st) h := G_aload_n f146_17 rfl
theorem f146_18 : fetch 146 18 = some (.iload_n 1, 1) := vtab tk146 10 rfl
theorem e146_18 (l0 : Option Value) (L : VL) (st : List Value) (h : VG) (x : Int32) : ev 146 18 (l0 :: some (.int x) :: L) (st) h = ev 146 19 (l0 :: some (.int x) :: L) (.int x :: st) h := G_iload_n f146_18 rfl
theorem f146_19 : fetch 146 19 = some (.invokevirtual 170, 3) := vtab tk146 11 rfl
theorem e146_19 (L : VL) (st : List Value) (h : VG) (b : Nat) (x0 : Int32) (ho : ob h b 11) (hs : catS st ≤ 8) : ev 146 19 L (.int x0 :: .ref b :: st) h = (ev 140 0 [some (.ref b), some (.int x0)] [] h).bind fun q => ev 146 22 L (q.1.toList ++ st) q.2 := G_callv (k := 1) (p := 1236) (ars := [.int x0]) f146_19 lkC_12_170 (by decide) (by decide +kernel) rfl (vcls_ob (ci := 11) (by decide) ho) (Nat.le_of_ble_eq_true rfl) hs rfl
theorem f146_22 : fetch 146 22 = some (.istore_n 2, 1) := vtab tk146 12 rfl
theorem e146_22 (l0 l1 l2 : Option Value) (L : VL) (st : List Value) (h : VG) (x : Int32) : ev 146 22 (l0 :: l1 :: l2 :: L) (.int x :: st) h = ev 146 23 (l0 :: vkk l1 :: some (.int x) :: L) (st) h := G_istore_n f146_22 rfl (S1_2 l0 l1 l2 L _)
theorem f146_23 : fetch 146 23 = some (.iload_n 1, 1) := vtab tk146 13 rfl
theorem e146_23 (l0 : Option Value) (L : VL) (st : List Value) (h : VG) (x : Int32) : ev 146 23 (l0 :: some (.int x) :: L) (st) h = ev 146 24 (l0 :: some (.int x) :: L) (.int x :: st) h := G_iload_n f146_23 rfl
theorem f146_24 : fetch 146 24 = some (.aload_n 0, 1) := vtab tk146 14 rfl
theorem e146_24 (L : VL) (st : List Value) (h : VG) (x : Nat) : ev 146 24 (some (.ref x) :: L) (st) h = ev 146 25 (some (.ref x) :: L) (.ref x :: st) h := G_aload_n f146_24 rfl
theorem f146_25 : fetch 146 25 = some (.getfield 158, 3) := vtab tk146 15 rfl
theorem e146_25 (L : VL) (st : List Value) (h : VG) (a : Nat) (ho : ob h a 11) : ev 146 25 L (.ref a :: st) h = ev 146 28 L (.int (gI h a 4) :: st) h := G_getI (p := 1017) f146_25 lkF_12_158 (by decide) (by decide) ho
theorem f146_28 : fetch 146 28 = some (.if_icmp .lt 15, 3) := vtab tk146 16 rfl
theorem e146_28 (L : VL) (st : List Value) (h : VG) (x y : Int32) : ev 146 28 L (.int y :: .int x :: st) h = if x < y then ev 146 43 L st h else ev 146 31 L st h := G_icmp_lt f146_28 (by decide)
theorem f146_31 : fetch 146 31 = some (.aload_n 0, 1) := vtab tk146 17 rfl
theorem e146_31 (L : VL) (st : List Value) (h : VG) (x : Nat) : ev 146 31 (some (.ref x) :: L) (st) h = ev 146 32 (some (.ref x) :: L) (.ref x :: st) h := G_aload_n f146_31 rfl
theorem f146_32 : fetch 146 32 = some (.iconst 0, 1) := vtab tk146 18 rfl
theorem e146_32 (L : VL) (st : List Value) (h : VG) : ev 146 32 L (st) h = ev 146 33 L (.int (0 : Int32) :: st) h := G_iconst f146_32 (by decide)
theorem f146_33 : fetch 146 33 = some (.aload_n 0, 1) := vtab tk146 19 rfl
theorem e146_33 (L : VL) (st : List Value) (h : VG) (x : Nat) : ev 146 33 (some (.ref x) :: L) (st) h = ev 146 34 (some (.ref x) :: L) (.ref x :: st) h := G_aload_n f146_33 rfl
theorem f146_34 : fetch 146 34 = some (.getfield 158, 3) := vtab tk146 20 rfl
theorem e146_34 (L : VL) (st : List Value) (h : VG) (a : Nat) (ho : ob h a 11) : ev 146 34 L (.ref a :: st) h = ev 146 37 L (.int (gI h a 4) :: st) h := G_getI (p := 1017) f146_34 lkF_12_158 (by decide) (by decide) ho
theorem f146_37 : fetch 146 37 = some (.iconst 0, 1) := vtab tk146 21 rfl
theorem e146_37 (L : VL) (st : List Value) (h : VG) : ev 146 37 L (st) h = ev 146 38 L (.int (0 : Int32) :: st) h := G_iconst f146_37 (by decide)
theorem f146_38 : fetch 146 38 = some (.lconst 0, 1) := vtab tk146 22 rfl
theorem e146_38 (L : VL) (st : List Value) (h : VG) : ev 146 38 L (st) h = ev 146 39 L (.long 0 :: st) h := G_lconst f146_38 (by decide)
theorem f146_39 : fetch 146 39 = some (.invokevirtual 174, 3) := vtab tk146 23 rfl
theorem e146_39 (L : VL) (st : List Value) (h : VG) (b : Nat) (x0 : Int32) (x1 : Int32) (x2 : Int32) (x3 : Int64) (ho : ob h b 11) (hs : catS st ≤ 8) : ev 146 39 L (.long x3 :: .int x2 :: .int x1 :: .int x0 :: .ref b :: st) h = (ev 145 0 [some (.ref b), some (.int x0), some (.int x1), some (.int x2), some (.long x3), none] [] h).bind fun q => ev 146 42 L (q.1.toList ++ st) q.2 := G_callv (k := 1) (p := 1240) (ars := [.int x0, .int x1, .int x2, .long x3]) f146_39 lkC_12_174 (by decide) (by decide +kernel) rfl (vcls_ob (ci := 11) (by decide) ho) (Nat.le_of_ble_eq_true rfl) hs rfl
theorem f146_42 : fetch 146 42 = some (.return_, 1) := vtab tk146 24 rfl
theorem e146_42 (L : VL) (h : VG) : ev 146 42 L [] h = some (none, h) := G_vret f146_42 (by decide)
theorem f146_43 : fetch 146 43 = some (.iload_n 2, 1) := vtab tk146 25 rfl
theorem e146_43 (l0 l1 : Option Value) (L : VL) (st : List Value) (h : VG) (x : Int32) : ev 146 43 (l0 :: l1 :: some (.int x) :: L) (st) h = ev 146 44 (l0 :: l1 :: some (.int x) :: L) (.int x :: st) h := G_iload_n f146_43 rfl
theorem f146_44 : fetch 146 44 = some (.bipush 9, 2) := vtab tk146 26 rfl
theorem e146_44 (L : VL) (st : List Value) (h : VG) : ev 146 44 L (st) h = ev 146 46 L (.int (9 : Int32) :: st) h := G_bipush f146_44 (by decide)
theorem f146_46 : fetch 146 46 = some (.if_icmp .eq 21, 3) := vtab tk146 27 rfl
theorem e146_46 (L : VL) (st : List Value) (h : VG) (x y : Int32) : ev 146 46 L (.int y :: .int x :: st) h = if x = y then ev 146 67 L st h else ev 146 49 L st h := G_icmp_eq f146_46 (by decide)
theorem f146_49 : fetch 146 49 = some (.iload_n 2, 1) := vtab tk146 28 rfl
theorem e146_49 (l0 l1 : Option Value) (L : VL) (st : List Value) (h : VG) (x : Int32) : ev 146 49 (l0 :: l1 :: some (.int x) :: L) (st) h = ev 146 50 (l0 :: l1 :: some (.int x) :: L) (.int x :: st) h := G_iload_n f146_49 rfl
theorem f146_50 : fetch 146 50 = some (.bipush 10, 2) := vtab tk146 29 rfl
theorem e146_50 (L : VL) (st : List Value) (h : VG) : ev 146 50 L (st) h = ev 146 52 L (.int (10 : Int32) :: st) h := G_bipush f146_50 (by decide)
theorem f146_52 : fetch 146 52 = some (.if_icmp .eq 15, 3) := vtab tk146 30 rfl
theorem e146_52 (L : VL) (st : List Value) (h : VG) (x y : Int32) : ev 146 52 L (.int y :: .int x :: st) h = if x = y then ev 146 67 L st h else ev 146 55 L st h := G_icmp_eq f146_52 (by decide)
theorem f146_55 : fetch 146 55 = some (.iload_n 2, 1) := vtab tk146 31 rfl
theorem e146_55 (l0 l1 : Option Value) (L : VL) (st : List Value) (h : VG) (x : Int32) : ev 146 55 (l0 :: l1 :: some (.int x) :: L) (st) h = ev 146 56 (l0 :: l1 :: some (.int x) :: L) (.int x :: st) h := G_iload_n f146_55 rfl
theorem f146_56 : fetch 146 56 = some (.bipush 13, 2) := vtab tk146 32 rfl
theorem e146_56 (L : VL) (st : List Value) (h : VG) : ev 146 56 L (st) h = ev 146 58 L (.int (13 : Int32) :: st) h := G_bipush f146_56 (by decide)
theorem f146_58 : fetch 146 58 = some (.if_icmp .eq 9, 3) := vtab tk146 33 rfl
theorem e146_58 (L : VL) (st : List Value) (h : VG) (x y : Int32) : ev 146 58 L (.int y :: .int x :: st) h = if x = y then ev 146 67 L st h else ev 146 61 L st h := G_icmp_eq f146_58 (by decide)
theorem f146_61 : fetch 146 61 = some (.iload_n 2, 1) := vtab tk146 34 rfl
theorem e146_61 (l0 l1 : Option Value) (L : VL) (st : List Value) (h : VG) (x : Int32) : ev 146 61 (l0 :: l1 :: some (.int x) :: L) (st) h = ev 146 62 (l0 :: l1 :: some (.int x) :: L) (.int x :: st) h := G_iload_n f146_61 rfl
theorem f146_62 : fetch 146 62 = some (.bipush 32, 2) := vtab tk146 35 rfl
theorem e146_62 (L : VL) (st : List Value) (h : VG) : ev 146 62 L (st) h = ev 146 64 L (.int (32 : Int32) :: st) h := G_bipush f146_62 (by decide)
theorem f146_64 : fetch 146 64 = some (.if_icmp .ne 9, 3) := vtab tk146 36 rfl
theorem e146_64 (L : VL) (st : List Value) (h : VG) (x y : Int32) : ev 146 64 L (.int y :: .int x :: st) h = if x = y then ev 146 67 L st h else ev 146 73 L st h := G_icmp_ne f146_64 (by decide)
theorem f146_67 : fetch 146 67 = some (.iinc 1 1, 3) := vtab tk146 37 rfl
theorem e146_67 (l0 : Option Value) (L : VL) (st : List Value) (h : VG) (x : Int32) : ev 146 67 (l0 :: some (.int x) :: L) (st) h = ev 146 70 (vkk l0 :: some (.int (x + (1 : Int32))) :: L) (st) h := G_iinc f146_67 rfl (by decide) (S1_1 l0 (some (.int x)) L _)
theorem f146_70 : fetch 146 70 = some (.goto 214, 3) := vtab tk146 38 rfl
theorem e146_70 (L : VL) (st : List Value) (h : VG) : ev 146 70 L (st) h = ev 146 284 L (st) h := G_goto f146_70 (by decide)
theorem f146_73 : fetch 146 73 = some (.iload_n 2, 1) := vtab tk146 39 rfl
theorem e146_73 (l0 l1 : Option Value) (L : VL) (st : List Value) (h : VG) (x : Int32) : ev 146 73 (l0 :: l1 :: some (.int x) :: L) (st) h = ev 146 74 (l0 :: l1 :: some (.int x) :: L) (.int x :: st) h := G_iload_n f146_73 rfl
theorem f146_74 : fetch 146 74 = some (.invokestatic 178, 3) := vtab tk146 40 rfl
theorem e146_74 (L : VL) (st : List Value) (h : VG) (x0 : Int32) (hs : catS st ≤ 8) : ev 146 74 L (.int x0 :: st) h = (ev 142 0 [some (.int x0)] [] h).bind fun q => ev 146 77 L (q.1.toList ++ st) q.2 := G_calls (k := 0) (p := 1244) (ars := [.int x0]) f146_74 lkC_12_178 (by decide) (by decide +kernel) rfl (Nat.le_of_ble_eq_true rfl) hs rfl
theorem f146_77 : fetch 146 77 = some (.ifCond .eq 119, 3) := vtab tk146 41 rfl
theorem e146_77 (L : VL) (st : List Value) (h : VG) (x : Int32) : ev 146 77 L (.int x :: st) h = if x = 0 then ev 146 196 L st h else ev 146 80 L st h := G_if_eq f146_77 (by decide)
theorem f146_80 : fetch 146 80 = some (.iconst 0, 1) := vtab tk146 42 rfl
theorem e146_80 (L : VL) (st : List Value) (h : VG) : ev 146 80 L (st) h = ev 146 81 L (.int (0 : Int32) :: st) h := G_iconst f146_80 (by decide)
theorem f146_81 : fetch 146 81 = some (.istore_n 3, 1) := vtab tk146 43 rfl
theorem e146_81 (l0 l1 l2 l3 : Option Value) (L : VL) (st : List Value) (h : VG) (x : Int32) : ev 146 81 (l0 :: l1 :: l2 :: l3 :: L) (.int x :: st) h = ev 146 82 (l0 :: l1 :: vkk l2 :: some (.int x) :: L) (st) h := G_istore_n f146_81 rfl (S1_3 l0 l1 l2 l3 L _)
theorem f146_82 : fetch 146 82 = some (.lconst 0, 1) := vtab tk146 44 rfl
theorem e146_82 (L : VL) (st : List Value) (h : VG) : ev 146 82 L (st) h = ev 146 83 L (.long 0 :: st) h := G_lconst f146_82 (by decide)
theorem f146_83 : fetch 146 83 = some (.lstore 4, 2) := vtab tk146 45 rfl
theorem e146_83 (l0 l1 l2 l3 l4 l5 : Option Value) (L : VL) (st : List Value) (h : VG) (x : Int64) : ev 146 83 (l0 :: l1 :: l2 :: l3 :: l4 :: l5 :: L) (.long x :: st) h = ev 146 85 (l0 :: l1 :: l2 :: vkk l3 :: some (.long x) :: none :: L) (st) h := G_lstore f146_83 rfl (S2_4 l0 l1 l2 l3 l4 l5 L _)
theorem f146_85 : fetch 146 85 = some (.aload_n 0, 1) := vtab tk146 46 rfl
theorem e146_85 (L : VL) (st : List Value) (h : VG) (x : Nat) : ev 146 85 (some (.ref x) :: L) (st) h = ev 146 86 (some (.ref x) :: L) (.ref x :: st) h := G_aload_n f146_85 rfl
theorem f146_86 : fetch 146 86 = some (.iload_n 1, 1) := vtab tk146 47 rfl
theorem e146_86 (l0 : Option Value) (L : VL) (st : List Value) (h : VG) (x : Int32) : ev 146 86 (l0 :: some (.int x) :: L) (st) h = ev 146 87 (l0 :: some (.int x) :: L) (.int x :: st) h := G_iload_n f146_86 rfl
theorem f146_87 : fetch 146 87 = some (.iload_n 3, 1) := vtab tk146 48 rfl
theorem e146_87 (l0 l1 l2 : Option Value) (L : VL) (st : List Value) (h : VG) (x : Int32) : ev 146 87 (l0 :: l1 :: l2 :: some (.int x) :: L) (st) h = ev 146 88 (l0 :: l1 :: l2 :: some (.int x) :: L) (.int x :: st) h := G_iload_n f146_87 rfl
theorem f146_88 : fetch 146 88 = some (.iadd, 1) := vtab tk146 49 rfl
theorem e146_88 (L : VL) (st : List Value) (h : VG) (x y : Int32) : ev 146 88 L (.int y :: .int x :: st) h = ev 146 89 L (.int (x + y) :: st) h := G_iadd f146_88
theorem f146_89 : fetch 146 89 = some (.invokevirtual 170, 3) := vtab tk146 50 rfl
theorem e146_89 (L : VL) (st : List Value) (h : VG) (b : Nat) (x0 : Int32) (ho : ob h b 11) (hs : catS st ≤ 8) : ev 146 89 L (.int x0 :: .ref b :: st) h = (ev 140 0 [some (.ref b), some (.int x0)] [] h).bind fun q => ev 146 92 L (q.1.toList ++ st) q.2 := G_callv (k := 1) (p := 1236) (ars := [.int x0]) f146_89 lkC_12_170 (by decide) (by decide +kernel) rfl (vcls_ob (ci := 11) (by decide) ho) (Nat.le_of_ble_eq_true rfl) hs rfl
theorem f146_92 : fetch 146 92 = some (.invokestatic 178, 3) := vtab tk146 51 rfl
theorem e146_92 (L : VL) (st : List Value) (h : VG) (x0 : Int32) (hs : catS st ≤ 8) : ev 146 92 L (.int x0 :: st) h = (ev 142 0 [some (.int x0)] [] h).bind fun q => ev 146 95 L (q.1.toList ++ st) q.2 := G_calls (k := 0) (p := 1244) (ars := [.int x0]) f146_92 lkC_12_178 (by decide) (by decide +kernel) rfl (Nat.le_of_ble_eq_true rfl) hs rfl
theorem f146_95 : fetch 146 95 = some (.ifCond .eq 29, 3) := vtab tk146 52 rfl
theorem e146_95 (L : VL) (st : List Value) (h : VG) (x : Int32) : ev 146 95 L (.int x :: st) h = if x = 0 then ev 146 124 L st h else ev 146 98 L st h := G_if_eq f146_95 (by decide)
theorem f146_98 : fetch 146 98 = some (.iload_n 3, 1) := vtab tk146 53 rfl
theorem e146_98 (l0 l1 l2 : Option Value) (L : VL) (st : List Value) (h : VG) (x : Int32) : ev 146 98 (l0 :: l1 :: l2 :: some (.int x) :: L) (st) h = ev 146 99 (l0 :: l1 :: l2 :: some (.int x) :: L) (.int x :: st) h := G_iload_n f146_98 rfl
theorem f146_99 : fetch 146 99 = some (.bipush 8, 2) := vtab tk146 54 rfl
theorem e146_99 (L : VL) (st : List Value) (h : VG) : ev 146 99 L (st) h = ev 146 101 L (.int (8 : Int32) :: st) h := G_bipush f146_99 (by decide)
theorem f146_101 : fetch 146 101 = some (.if_icmp .ge 17, 3) := vtab tk146 55 rfl
theorem e146_101 (L : VL) (st : List Value) (h : VG) (x y : Int32) : ev 146 101 L (.int y :: .int x :: st) h = if x < y then ev 146 104 L st h else ev 146 118 L st h := G_icmp_ge f146_101 (by decide)
theorem f146_104 : fetch 146 104 = some (.lload 4, 2) := vtab tk146 56 rfl
theorem e146_104 (l0 l1 l2 l3 : Option Value) (L : VL) (st : List Value) (h : VG) (x : Int64) : ev 146 104 (l0 :: l1 :: l2 :: l3 :: some (.long x) :: L) (st) h = ev 146 106 (l0 :: l1 :: l2 :: l3 :: some (.long x) :: L) (.long x :: st) h := G_lload f146_104 rfl
theorem f146_106 : fetch 146 106 = some (.aload_n 0, 1) := vtab tk146 57 rfl
theorem e146_106 (L : VL) (st : List Value) (h : VG) (x : Nat) : ev 146 106 (some (.ref x) :: L) (st) h = ev 146 107 (some (.ref x) :: L) (.ref x :: st) h := G_aload_n f146_106 rfl
theorem f146_107 : fetch 146 107 = some (.iload_n 1, 1) := vtab tk146 58 rfl
theorem e146_107 (l0 : Option Value) (L : VL) (st : List Value) (h : VG) (x : Int32) : ev 146 107 (l0 :: some (.int x) :: L) (st) h = ev 146 108 (l0 :: some (.int x) :: L) (.int x :: st) h := G_iload_n f146_107 rfl
theorem f146_108 : fetch 146 108 = some (.iload_n 3, 1) := vtab tk146 59 rfl
theorem e146_108 (l0 l1 l2 : Option Value) (L : VL) (st : List Value) (h : VG) (x : Int32) : ev 146 108 (l0 :: l1 :: l2 :: some (.int x) :: L) (st) h = ev 146 109 (l0 :: l1 :: l2 :: some (.int x) :: L) (.int x :: st) h := G_iload_n f146_108 rfl
theorem f146_109 : fetch 146 109 = some (.iadd, 1) := vtab tk146 60 rfl
theorem e146_109 (L : VL) (st : List Value) (h : VG) (x y : Int32) : ev 146 109 L (.int y :: .int x :: st) h = ev 146 110 L (.int (x + y) :: st) h := G_iadd f146_109
theorem f146_110 : fetch 146 110 = some (.invokevirtual 170, 3) := vtab tk146 61 rfl
theorem e146_110 (L : VL) (st : List Value) (h : VG) (b : Nat) (x0 : Int32) (ho : ob h b 11) (hs : catS st ≤ 8) : ev 146 110 L (.int x0 :: .ref b :: st) h = (ev 140 0 [some (.ref b), some (.int x0)] [] h).bind fun q => ev 146 113 L (q.1.toList ++ st) q.2 := G_callv (k := 1) (p := 1236) (ars := [.int x0]) f146_110 lkC_12_170 (by decide) (by decide +kernel) rfl (vcls_ob (ci := 11) (by decide) ho) (Nat.le_of_ble_eq_true rfl) hs rfl
theorem f146_113 : fetch 146 113 = some (.invokestatic 163, 3) := vtab tk146 62 rfl
theorem e146_113 (L : VL) (st : List Value) (h : VG) (x0 : Int64) (x1 : Int32) (hs : catS st ≤ 8) : ev 146 113 L (.int x1 :: .long x0 :: st) h = (ev 143 0 [some (.long x0), none, some (.int x1)] [] h).bind fun q => ev 146 116 L (q.1.toList ++ st) q.2 := G_calls (k := 0) (p := 1010) (ars := [.long x0, .int x1]) f146_113 lkC_12_163 (by decide) (by decide +kernel) rfl (Nat.le_of_ble_eq_true rfl) hs rfl
theorem f146_116 : fetch 146 116 = some (.lstore 4, 2) := vtab tk146 63 rfl
theorem e146_116 (l0 l1 l2 l3 l4 l5 : Option Value) (L : VL) (st : List Value) (h : VG) (x : Int64) : ev 146 116 (l0 :: l1 :: l2 :: l3 :: l4 :: l5 :: L) (.long x :: st) h = ev 146 118 (l0 :: l1 :: l2 :: vkk l3 :: some (.long x) :: none :: L) (st) h := G_lstore f146_116 rfl (S2_4 l0 l1 l2 l3 l4 l5 L _)
theorem f146_118 : fetch 146 118 = some (.iinc 3 1, 3) := vtab tk146 64 rfl
theorem e146_118 (l0 l1 l2 : Option Value) (L : VL) (st : List Value) (h : VG) (x : Int32) : ev 146 118 (l0 :: l1 :: l2 :: some (.int x) :: L) (st) h = ev 146 121 (l0 :: l1 :: vkk l2 :: some (.int (x + (1 : Int32))) :: L) (st) h := G_iinc f146_118 rfl (by decide) (S1_3 l0 l1 l2 (some (.int x)) L _)
theorem f146_121 : fetch 146 121 = some (.goto (-36), 3) := vtab tk146 65 rfl
theorem e146_121 (L : VL) (st : List Value) (h : VG) : ev 146 121 L (st) h = ev 146 85 L (st) h := G_goto f146_121 (by decide)
theorem f146_124 : fetch 146 124 = some (.iload_n 3, 1) := vtab tk146 66 rfl
theorem e146_124 (l0 l1 l2 : Option Value) (L : VL) (st : List Value) (h : VG) (x : Int32) : ev 146 124 (l0 :: l1 :: l2 :: some (.int x) :: L) (st) h = ev 146 125 (l0 :: l1 :: l2 :: some (.int x) :: L) (.int x :: st) h := G_iload_n f146_124 rfl
theorem f146_125 : fetch 146 125 = some (.bipush 8, 2) := vtab tk146 67 rfl
theorem e146_125 (L : VL) (st : List Value) (h : VG) : ev 146 125 L (st) h = ev 146 127 L (.int (8 : Int32) :: st) h := G_bipush f146_125 (by decide)
theorem f146_127 : fetch 146 127 = some (.if_icmp .le 7, 3) := vtab tk146 68 rfl
theorem e146_127 (L : VL) (st : List Value) (h : VG) (x y : Int32) : ev 146 127 L (.int y :: .int x :: st) h = if x ≤ y then ev 146 134 L st h else ev 146 130 L st h := G_icmp_le f146_127 (by decide)
theorem f146_130 : fetch 146 130 = some (.iconst 3, 1) := vtab tk146 69 rfl
theorem e146_130 (L : VL) (st : List Value) (h : VG) : ev 146 130 L (st) h = ev 146 131 L (.int (3 : Int32) :: st) h := G_iconst f146_130 (by decide)
theorem f146_131 : fetch 146 131 = some (.goto 4, 3) := vtab tk146 70 rfl
theorem e146_131 (L : VL) (st : List Value) (h : VG) : ev 146 131 L (st) h = ev 146 135 L (st) h := G_goto f146_131 (by decide)
theorem f146_134 : fetch 146 134 = some (.iconst 1, 1) := vtab tk146 71 rfl
theorem e146_134 (L : VL) (st : List Value) (h : VG) : ev 146 134 L (st) h = ev 146 135 L (.int (1 : Int32) :: st) h := G_iconst f146_134 (by decide)
theorem f146_135 : fetch 146 135 = some (.istore 6, 2) := vtab tk146 72 rfl
theorem e146_135 (l0 l1 l2 l3 l4 l5 l6 : Option Value) (L : VL) (st : List Value) (h : VG) (x : Int32) : ev 146 135 (l0 :: l1 :: l2 :: l3 :: l4 :: l5 :: l6 :: L) (.int x :: st) h = ev 146 137 (l0 :: l1 :: l2 :: l3 :: l4 :: vkk l5 :: some (.int x) :: L) (st) h := G_istore f146_135 rfl (S1_6 l0 l1 l2 l3 l4 l5 l6 L _)
theorem f146_137 : fetch 146 137 = some (.iload_n 3, 1) := vtab tk146 73 rfl
theorem e146_137 (l0 l1 l2 : Option Value) (L : VL) (st : List Value) (h : VG) (x : Int32) : ev 146 137 (l0 :: l1 :: l2 :: some (.int x) :: L) (st) h = ev 146 138 (l0 :: l1 :: l2 :: some (.int x) :: L) (.int x :: st) h := G_iload_n f146_137 rfl
theorem f146_138 : fetch 146 138 = some (.bipush 8, 2) := vtab tk146 74 rfl
theorem e146_138 (L : VL) (st : List Value) (h : VG) : ev 146 138 L (st) h = ev 146 140 L (.int (8 : Int32) :: st) h := G_bipush f146_138 (by decide)
theorem f146_140 : fetch 146 140 = some (.if_icmp .gt 39, 3) := vtab tk146 75 rfl
theorem e146_140 (L : VL) (st : List Value) (h : VG) (x y : Int32) : ev 146 140 L (.int y :: .int x :: st) h = if x ≤ y then ev 146 143 L st h else ev 146 179 L st h := G_icmp_gt f146_140 (by decide)
theorem f146_143 : fetch 146 143 = some (.iconst 0, 1) := vtab tk146 76 rfl
theorem e146_143 (L : VL) (st : List Value) (h : VG) : ev 146 143 L (st) h = ev 146 144 L (.int (0 : Int32) :: st) h := G_iconst f146_143 (by decide)
theorem f146_144 : fetch 146 144 = some (.istore 7, 2) := vtab tk146 77 rfl
theorem e146_144 (l0 l1 l2 l3 l4 l5 l6 l7 : Option Value) (L : VL) (st : List Value) (h : VG) (x : Int32) : ev 146 144 (l0 :: l1 :: l2 :: l3 :: l4 :: l5 :: l6 :: l7 :: L) (.int x :: st) h = ev 146 146 (l0 :: l1 :: l2 :: l3 :: l4 :: l5 :: vkk l6 :: some (.int x) :: L) (st) h := G_istore f146_144 rfl (S1_7 l0 l1 l2 l3 l4 l5 l6 l7 L _)
theorem f146_146 : fetch 146 146 = some (.iload 7, 2) := vtab tk146 78 rfl
theorem e146_146 (l0 l1 l2 l3 l4 l5 l6 : Option Value) (L : VL) (st : List Value) (h : VG) (x : Int32) : ev 146 146 (l0 :: l1 :: l2 :: l3 :: l4 :: l5 :: l6 :: some (.int x) :: L) (st) h = ev 146 148 (l0 :: l1 :: l2 :: l3 :: l4 :: l5 :: l6 :: some (.int x) :: L) (.int x :: st) h := G_iload f146_146 rfl
theorem f146_148 : fetch 146 148 = some (.bipush 14, 2) := vtab tk146 79 rfl
theorem e146_148 (L : VL) (st : List Value) (h : VG) : ev 146 148 L (st) h = ev 146 150 L (.int (14 : Int32) :: st) h := G_bipush f146_148 (by decide)
theorem f146_150 : fetch 146 150 = some (.if_icmp .ge 29, 3) := vtab tk146 80 rfl
theorem e146_150 (L : VL) (st : List Value) (h : VG) (x y : Int32) : ev 146 150 L (.int y :: .int x :: st) h = if x < y then ev 146 153 L st h else ev 146 179 L st h := G_icmp_ge f146_150 (by decide)
theorem f146_153 : fetch 146 153 = some (.aload_n 0, 1) := vtab tk146 81 rfl
theorem e146_153 (L : VL) (st : List Value) (h : VG) (x : Nat) : ev 146 153 (some (.ref x) :: L) (st) h = ev 146 154 (some (.ref x) :: L) (.ref x :: st) h := G_aload_n f146_153 rfl
theorem f146_154 : fetch 146 154 = some (.getfield 34, 3) := vtab tk146 82 rfl
theorem e146_154 (L : VL) (st : List Value) (h : VG) (a : Nat) (ho : ob h a 11) (hr : isR h a 9) : ev 146 154 L (.ref a :: st) h = ev 146 157 L (.ref (gR h a 9) :: st) h := G_getR (p := 1022) f146_154 lkF_12_34 (by decide) (by decide) ho hr
theorem f146_157 : fetch 146 157 = some (.iload 7, 2) := vtab tk146 83 rfl
theorem e146_157 (l0 l1 l2 l3 l4 l5 l6 : Option Value) (L : VL) (st : List Value) (h : VG) (x : Int32) : ev 146 157 (l0 :: l1 :: l2 :: l3 :: l4 :: l5 :: l6 :: some (.int x) :: L) (st) h = ev 146 159 (l0 :: l1 :: l2 :: l3 :: l4 :: l5 :: l6 :: some (.int x) :: L) (.int x :: st) h := G_iload f146_157 rfl
theorem f146_159 : fetch 146 159 = some (.laload, 1) := vtab tk146 84 rfl
theorem e146_159 (L : VL) (st : List Value) (h : VG) (a : Nat) (i : Int32) (ha : arL h a) (hi : vp_in i (aln h a)) : ev 146 159 L (.int i :: .ref a :: st) h = ev 146 160 L (.long (aL h a i.toNatClampNeg) :: st) h := G_lald f146_159 ha hi
theorem f146_160 : fetch 146 160 = some (.lload 4, 2) := vtab tk146 85 rfl
theorem e146_160 (l0 l1 l2 l3 : Option Value) (L : VL) (st : List Value) (h : VG) (x : Int64) : ev 146 160 (l0 :: l1 :: l2 :: l3 :: some (.long x) :: L) (st) h = ev 146 162 (l0 :: l1 :: l2 :: l3 :: some (.long x) :: L) (.long x :: st) h := G_lload f146_160 rfl
theorem f146_162 : fetch 146 162 = some (.lcmp, 1) := vtab tk146 86 rfl
theorem e146_162 (L : VL) (st : List Value) (h : VG) (x y : Int64) : ev 146 162 L (.long y :: .long x :: st) h = ev 146 163 L (.int (lg_cmp x y) :: st) h := G_lcmp f146_162
theorem f146_163 : fetch 146 163 = some (.ifCond .ne 10, 3) := vtab tk146 87 rfl
theorem e146_163 (L : VL) (st : List Value) (h : VG) (x : Int32) : ev 146 163 L (.int x :: st) h = if x = 0 then ev 146 166 L st h else ev 146 173 L st h := G_if_ne f146_163 (by decide)
theorem f146_166 : fetch 146 166 = some (.bipush 20, 2) := vtab tk146 88 rfl
theorem e146_166 (L : VL) (st : List Value) (h : VG) : ev 146 166 L (st) h = ev 146 168 L (.int (20 : Int32) :: st) h := G_bipush f146_166 (by decide)
theorem f146_168 : fetch 146 168 = some (.iload 7, 2) := vtab tk146 89 rfl
theorem e146_168 (l0 l1 l2 l3 l4 l5 l6 : Option Value) (L : VL) (st : List Value) (h : VG) (x : Int32) : ev 146 168 (l0 :: l1 :: l2 :: l3 :: l4 :: l5 :: l6 :: some (.int x) :: L) (st) h = ev 146 170 (l0 :: l1 :: l2 :: l3 :: l4 :: l5 :: l6 :: some (.int x) :: L) (.int x :: st) h := G_iload f146_168 rfl
theorem f146_170 : fetch 146 170 = some (.iadd, 1) := vtab tk146 90 rfl
theorem e146_170 (L : VL) (st : List Value) (h : VG) (x y : Int32) : ev 146 170 L (.int y :: .int x :: st) h = ev 146 171 L (.int (x + y) :: st) h := G_iadd f146_170
theorem f146_171 : fetch 146 171 = some (.istore 6, 2) := vtab tk146 91 rfl
theorem e146_171 (l0 l1 l2 l3 l4 l5 l6 : Option Value) (L : VL) (st : List Value) (h : VG) (x : Int32) : ev 146 171 (l0 :: l1 :: l2 :: l3 :: l4 :: l5 :: l6 :: L) (.int x :: st) h = ev 146 173 (l0 :: l1 :: l2 :: l3 :: l4 :: vkk l5 :: some (.int x) :: L) (st) h := G_istore f146_171 rfl (S1_6 l0 l1 l2 l3 l4 l5 l6 L _)
theorem f146_173 : fetch 146 173 = some (.iinc 7 1, 3) := vtab tk146 92 rfl
theorem e146_173 (l0 l1 l2 l3 l4 l5 l6 : Option Value) (L : VL) (st : List Value) (h : VG) (x : Int32) : ev 146 173 (l0 :: l1 :: l2 :: l3 :: l4 :: l5 :: l6 :: some (.int x) :: L) (st) h = ev 146 176 (l0 :: l1 :: l2 :: l3 :: l4 :: l5 :: vkk l6 :: some (.int (x + (1 : Int32))) :: L) (st) h := G_iinc f146_173 rfl (by decide) (S1_7 l0 l1 l2 l3 l4 l5 l6 (some (.int x)) L _)
theorem f146_176 : fetch 146 176 = some (.goto (-30), 3) := vtab tk146 93 rfl
theorem e146_176 (L : VL) (st : List Value) (h : VG) : ev 146 176 L (st) h = ev 146 146 L (st) h := G_goto f146_176 (by decide)
theorem f146_179 : fetch 146 179 = some (.aload_n 0, 1) := vtab tk146 94 rfl
theorem e146_179 (L : VL) (st : List Value) (h : VG) (x : Nat) : ev 146 179 (some (.ref x) :: L) (st) h = ev 146 180 (some (.ref x) :: L) (.ref x :: st) h := G_aload_n f146_179 rfl
theorem f146_180 : fetch 146 180 = some (.iload 6, 2) := vtab tk146 95 rfl
theorem e146_180 (l0 l1 l2 l3 l4 l5 : Option Value) (L : VL) (st : List Value) (h : VG) (x : Int32) : ev 146 180 (l0 :: l1 :: l2 :: l3 :: l4 :: l5 :: some (.int x) :: L) (st) h = ev 146 182 (l0 :: l1 :: l2 :: l3 :: l4 :: l5 :: some (.int x) :: L) (.int x :: st) h := G_iload f146_180 rfl
theorem f146_182 : fetch 146 182 = some (.iload_n 1, 1) := vtab tk146 96 rfl
theorem e146_182 (l0 : Option Value) (L : VL) (st : List Value) (h : VG) (x : Int32) : ev 146 182 (l0 :: some (.int x) :: L) (st) h = ev 146 183 (l0 :: some (.int x) :: L) (.int x :: st) h := G_iload_n f146_182 rfl
theorem f146_183 : fetch 146 183 = some (.iconst 0, 1) := vtab tk146 97 rfl
theorem e146_183 (L : VL) (st : List Value) (h : VG) : ev 146 183 L (st) h = ev 146 184 L (.int (0 : Int32) :: st) h := G_iconst f146_183 (by decide)
theorem f146_184 : fetch 146 184 = some (.lload 4, 2) := vtab tk146 98 rfl
theorem e146_184 (l0 l1 l2 l3 : Option Value) (L : VL) (st : List Value) (h : VG) (x : Int64) : ev 146 184 (l0 :: l1 :: l2 :: l3 :: some (.long x) :: L) (st) h = ev 146 186 (l0 :: l1 :: l2 :: l3 :: some (.long x) :: L) (.long x :: st) h := G_lload f146_184 rfl
theorem f146_186 : fetch 146 186 = some (.invokevirtual 174, 3) := vtab tk146 99 rfl
theorem e146_186 (L : VL) (st : List Value) (h : VG) (b : Nat) (x0 : Int32) (x1 : Int32) (x2 : Int32) (x3 : Int64) (ho : ob h b 11) (hs : catS st ≤ 8) : ev 146 186 L (.long x3 :: .int x2 :: .int x1 :: .int x0 :: .ref b :: st) h = (ev 145 0 [some (.ref b), some (.int x0), some (.int x1), some (.int x2), some (.long x3), none] [] h).bind fun q => ev 146 189 L (q.1.toList ++ st) q.2 := G_callv (k := 1) (p := 1240) (ars := [.int x0, .int x1, .int x2, .long x3]) f146_186 lkC_12_174 (by decide) (by decide +kernel) rfl (vcls_ob (ci := 11) (by decide) ho) (Nat.le_of_ble_eq_true rfl) hs rfl
theorem f146_189 : fetch 146 189 = some (.iload_n 1, 1) := vtab tk146 100 rfl
theorem e146_189 (l0 : Option Value) (L : VL) (st : List Value) (h : VG) (x : Int32) : ev 146 189 (l0 :: some (.int x) :: L) (st) h = ev 146 190 (l0 :: some (.int x) :: L) (.int x :: st) h := G_iload_n f146_189 rfl
theorem f146_190 : fetch 146 190 = some (.iload_n 3, 1) := vtab tk146 101 rfl
theorem e146_190 (l0 l1 l2 : Option Value) (L : VL) (st : List Value) (h : VG) (x : Int32) : ev 146 190 (l0 :: l1 :: l2 :: some (.int x) :: L) (st) h = ev 146 191 (l0 :: l1 :: l2 :: some (.int x) :: L) (.int x :: st) h := G_iload_n f146_190 rfl
theorem f146_191 : fetch 146 191 = some (.iadd, 1) := vtab tk146 102 rfl
theorem e146_191 (L : VL) (st : List Value) (h : VG) (x y : Int32) : ev 146 191 L (.int y :: .int x :: st) h = ev 146 192 L (.int (x + y) :: st) h := G_iadd f146_191
theorem f146_192 : fetch 146 192 = some (.istore_n 1, 1) := vtab tk146 103 rfl
theorem e146_192 (l0 l1 : Option Value) (L : VL) (st : List Value) (h : VG) (x : Int32) : ev 146 192 (l0 :: l1 :: L) (.int x :: st) h = ev 146 193 (vkk l0 :: some (.int x) :: L) (st) h := G_istore_n f146_192 rfl (S1_1 l0 l1 L _)
theorem f146_193 : fetch 146 193 = some (.goto 91, 3) := vtab tk146 104 rfl
theorem e146_193 (L : VL) (st : List Value) (h : VG) : ev 146 193 L (st) h = ev 146 284 L (st) h := G_goto f146_193 (by decide)
theorem f146_196 : fetch 146 196 = some (.iload_n 2, 1) := vtab tk146 105 rfl
theorem e146_196 (l0 l1 : Option Value) (L : VL) (st : List Value) (h : VG) (x : Int32) : ev 146 196 (l0 :: l1 :: some (.int x) :: L) (st) h = ev 146 197 (l0 :: l1 :: some (.int x) :: L) (.int x :: st) h := G_iload_n f146_196 rfl
theorem f146_197 : fetch 146 197 = some (.invokestatic 182, 3) := vtab tk146 106 rfl
theorem e146_197 (L : VL) (st : List Value) (h : VG) (x0 : Int32) (hs : catS st ≤ 8) : ev 146 197 L (.int x0 :: st) h = (ev 141 0 [some (.int x0)] [] h).bind fun q => ev 146 200 L (q.1.toList ++ st) q.2 := G_calls (k := 0) (p := 1247) (ars := [.int x0]) f146_197 lkC_12_182 (by decide) (by decide +kernel) rfl (Nat.le_of_ble_eq_true rfl) hs rfl
theorem f146_200 : fetch 146 200 = some (.ifCond .eq 75, 3) := vtab tk146 107 rfl
theorem e146_200 (L : VL) (st : List Value) (h : VG) (x : Int32) : ev 146 200 L (.int x :: st) h = if x = 0 then ev 146 275 L st h else ev 146 203 L st h := G_if_eq f146_200 (by decide)
theorem f146_203 : fetch 146 203 = some (.iconst 0, 1) := vtab tk146 108 rfl
theorem e146_203 (L : VL) (st : List Value) (h : VG) : ev 146 203 L (st) h = ev 146 204 L (.int (0 : Int32) :: st) h := G_iconst f146_203 (by decide)
theorem f146_204 : fetch 146 204 = some (.istore_n 3, 1) := vtab tk146 109 rfl
theorem e146_204 (l0 l1 l2 l3 : Option Value) (L : VL) (st : List Value) (h : VG) (x : Int32) : ev 146 204 (l0 :: l1 :: l2 :: l3 :: L) (.int x :: st) h = ev 146 205 (l0 :: l1 :: vkk l2 :: some (.int x) :: L) (st) h := G_istore_n f146_204 rfl (S1_3 l0 l1 l2 l3 L _)
theorem f146_205 : fetch 146 205 = some (.iconst 0, 1) := vtab tk146 110 rfl
theorem e146_205 (L : VL) (st : List Value) (h : VG) : ev 146 205 L (st) h = ev 146 206 L (.int (0 : Int32) :: st) h := G_iconst f146_205 (by decide)
theorem f146_206 : fetch 146 206 = some (.istore 4, 2) := vtab tk146 111 rfl
theorem e146_206 (l0 l1 l2 l3 l4 : Option Value) (L : VL) (st : List Value) (h : VG) (x : Int32) : ev 146 206 (l0 :: l1 :: l2 :: l3 :: l4 :: L) (.int x :: st) h = ev 146 208 (l0 :: l1 :: l2 :: vkk l3 :: some (.int x) :: L) (st) h := G_istore f146_206 rfl (S1_4 l0 l1 l2 l3 l4 L _)
theorem f146_208 : fetch 146 208 = some (.aload_n 0, 1) := vtab tk146 112 rfl
theorem e146_208 (L : VL) (st : List Value) (h : VG) (x : Nat) : ev 146 208 (some (.ref x) :: L) (st) h = ev 146 209 (some (.ref x) :: L) (.ref x :: st) h := G_aload_n f146_208 rfl
theorem f146_209 : fetch 146 209 = some (.iload_n 1, 1) := vtab tk146 113 rfl
theorem e146_209 (l0 : Option Value) (L : VL) (st : List Value) (h : VG) (x : Int32) : ev 146 209 (l0 :: some (.int x) :: L) (st) h = ev 146 210 (l0 :: some (.int x) :: L) (.int x :: st) h := G_iload_n f146_209 rfl
theorem f146_210 : fetch 146 210 = some (.iload_n 3, 1) := vtab tk146 114 rfl
theorem e146_210 (l0 l1 l2 : Option Value) (L : VL) (st : List Value) (h : VG) (x : Int32) : ev 146 210 (l0 :: l1 :: l2 :: some (.int x) :: L) (st) h = ev 146 211 (l0 :: l1 :: l2 :: some (.int x) :: L) (.int x :: st) h := G_iload_n f146_210 rfl
theorem f146_211 : fetch 146 211 = some (.iadd, 1) := vtab tk146 115 rfl
theorem e146_211 (L : VL) (st : List Value) (h : VG) (x y : Int32) : ev 146 211 L (.int y :: .int x :: st) h = ev 146 212 L (.int (x + y) :: st) h := G_iadd f146_211
theorem f146_212 : fetch 146 212 = some (.invokevirtual 170, 3) := vtab tk146 116 rfl
theorem e146_212 (L : VL) (st : List Value) (h : VG) (b : Nat) (x0 : Int32) (ho : ob h b 11) (hs : catS st ≤ 8) : ev 146 212 L (.int x0 :: .ref b :: st) h = (ev 140 0 [some (.ref b), some (.int x0)] [] h).bind fun q => ev 146 215 L (q.1.toList ++ st) q.2 := G_callv (k := 1) (p := 1236) (ars := [.int x0]) f146_212 lkC_12_170 (by decide) (by decide +kernel) rfl (vcls_ob (ci := 11) (by decide) ho) (Nat.le_of_ble_eq_true rfl) hs rfl
theorem f146_215 : fetch 146 215 = some (.invokestatic 182, 3) := vtab tk146 117 rfl
theorem e146_215 (L : VL) (st : List Value) (h : VG) (x0 : Int32) (hs : catS st ≤ 8) : ev 146 215 L (.int x0 :: st) h = (ev 141 0 [some (.int x0)] [] h).bind fun q => ev 146 218 L (q.1.toList ++ st) q.2 := G_calls (k := 0) (p := 1247) (ars := [.int x0]) f146_215 lkC_12_182 (by decide) (by decide +kernel) rfl (Nat.le_of_ble_eq_true rfl) hs rfl
theorem f146_218 : fetch 146 218 = some (.ifCond .eq 32, 3) := vtab tk146 118 rfl
theorem e146_218 (L : VL) (st : List Value) (h : VG) (x : Int32) : ev 146 218 L (.int x :: st) h = if x = 0 then ev 146 250 L st h else ev 146 221 L st h := G_if_eq f146_218 (by decide)
theorem f146_221 : fetch 146 221 = some (.iload_n 3, 1) := vtab tk146 119 rfl
theorem e146_221 (l0 l1 l2 : Option Value) (L : VL) (st : List Value) (h : VG) (x : Int32) : ev 146 221 (l0 :: l1 :: l2 :: some (.int x) :: L) (st) h = ev 146 222 (l0 :: l1 :: l2 :: some (.int x) :: L) (.int x :: st) h := G_iload_n f146_221 rfl
theorem f146_222 : fetch 146 222 = some (.iconst 4, 1) := vtab tk146 120 rfl
theorem e146_222 (L : VL) (st : List Value) (h : VG) : ev 146 222 L (st) h = ev 146 223 L (.int (4 : Int32) :: st) h := G_iconst f146_222 (by decide)
theorem f146_223 : fetch 146 223 = some (.if_icmp .ge 21, 3) := vtab tk146 121 rfl
theorem e146_223 (L : VL) (st : List Value) (h : VG) (x y : Int32) : ev 146 223 L (.int y :: .int x :: st) h = if x < y then ev 146 226 L st h else ev 146 244 L st h := G_icmp_ge f146_223 (by decide)
theorem f146_226 : fetch 146 226 = some (.bipush 10, 2) := vtab tk146 122 rfl
theorem e146_226 (L : VL) (st : List Value) (h : VG) : ev 146 226 L (st) h = ev 146 228 L (.int (10 : Int32) :: st) h := G_bipush f146_226 (by decide)
theorem f146_228 : fetch 146 228 = some (.iload 4, 2) := vtab tk146 123 rfl
theorem e146_228 (l0 l1 l2 l3 : Option Value) (L : VL) (st : List Value) (h : VG) (x : Int32) : ev 146 228 (l0 :: l1 :: l2 :: l3 :: some (.int x) :: L) (st) h = ev 146 230 (l0 :: l1 :: l2 :: l3 :: some (.int x) :: L) (.int x :: st) h := G_iload f146_228 rfl
theorem f146_230 : fetch 146 230 = some (.imul, 1) := vtab tk146 124 rfl
theorem e146_230 (L : VL) (st : List Value) (h : VG) (x y : Int32) : ev 146 230 L (.int y :: .int x :: st) h = ev 146 231 L (.int (x * y) :: st) h := G_imul f146_230
theorem f146_231 : fetch 146 231 = some (.aload_n 0, 1) := vtab tk146 125 rfl
theorem e146_231 (L : VL) (st : List Value) (h : VG) (x : Nat) : ev 146 231 (some (.ref x) :: L) (st) h = ev 146 232 (some (.ref x) :: L) (.ref x :: st) h := G_aload_n f146_231 rfl
theorem f146_232 : fetch 146 232 = some (.iload_n 1, 1) := vtab tk146 126 rfl
theorem e146_232 (l0 : Option Value) (L : VL) (st : List Value) (h : VG) (x : Int32) : ev 146 232 (l0 :: some (.int x) :: L) (st) h = ev 146 233 (l0 :: some (.int x) :: L) (.int x :: st) h := G_iload_n f146_232 rfl
theorem f146_233 : fetch 146 233 = some (.iload_n 3, 1) := vtab tk146 127 rfl
theorem e146_233 (l0 l1 l2 : Option Value) (L : VL) (st : List Value) (h : VG) (x : Int32) : ev 146 233 (l0 :: l1 :: l2 :: some (.int x) :: L) (st) h = ev 146 234 (l0 :: l1 :: l2 :: some (.int x) :: L) (.int x :: st) h := G_iload_n f146_233 rfl
theorem f146_234 : fetch 146 234 = some (.iadd, 1) := vtab tk146 128 rfl
theorem e146_234 (L : VL) (st : List Value) (h : VG) (x y : Int32) : ev 146 234 L (.int y :: .int x :: st) h = ev 146 235 L (.int (x + y) :: st) h := G_iadd f146_234
theorem f146_235 : fetch 146 235 = some (.invokevirtual 170, 3) := vtab tk146 129 rfl
theorem e146_235 (L : VL) (st : List Value) (h : VG) (b : Nat) (x0 : Int32) (ho : ob h b 11) (hs : catS st ≤ 8) : ev 146 235 L (.int x0 :: .ref b :: st) h = (ev 140 0 [some (.ref b), some (.int x0)] [] h).bind fun q => ev 146 238 L (q.1.toList ++ st) q.2 := G_callv (k := 1) (p := 1236) (ars := [.int x0]) f146_235 lkC_12_170 (by decide) (by decide +kernel) rfl (vcls_ob (ci := 11) (by decide) ho) (Nat.le_of_ble_eq_true rfl) hs rfl
theorem f146_238 : fetch 146 238 = some (.iadd, 1) := vtab tk146 130 rfl
theorem e146_238 (L : VL) (st : List Value) (h : VG) (x y : Int32) : ev 146 238 L (.int y :: .int x :: st) h = ev 146 239 L (.int (x + y) :: st) h := G_iadd f146_238
theorem f146_239 : fetch 146 239 = some (.bipush 48, 2) := vtab tk146 131 rfl
theorem e146_239 (L : VL) (st : List Value) (h : VG) : ev 146 239 L (st) h = ev 146 241 L (.int (48 : Int32) :: st) h := G_bipush f146_239 (by decide)
theorem f146_241 : fetch 146 241 = some (.isub, 1) := vtab tk146 132 rfl
theorem e146_241 (L : VL) (st : List Value) (h : VG) (x y : Int32) : ev 146 241 L (.int y :: .int x :: st) h = ev 146 242 L (.int (x - y) :: st) h := G_isub f146_241
theorem f146_242 : fetch 146 242 = some (.istore 4, 2) := vtab tk146 133 rfl
theorem e146_242 (l0 l1 l2 l3 l4 : Option Value) (L : VL) (st : List Value) (h : VG) (x : Int32) : ev 146 242 (l0 :: l1 :: l2 :: l3 :: l4 :: L) (.int x :: st) h = ev 146 244 (l0 :: l1 :: l2 :: vkk l3 :: some (.int x) :: L) (st) h := G_istore f146_242 rfl (S1_4 l0 l1 l2 l3 l4 L _)
theorem f146_244 : fetch 146 244 = some (.iinc 3 1, 3) := vtab tk146 134 rfl
theorem e146_244 (l0 l1 l2 : Option Value) (L : VL) (st : List Value) (h : VG) (x : Int32) : ev 146 244 (l0 :: l1 :: l2 :: some (.int x) :: L) (st) h = ev 146 247 (l0 :: l1 :: vkk l2 :: some (.int (x + (1 : Int32))) :: L) (st) h := G_iinc f146_244 rfl (by decide) (S1_3 l0 l1 l2 (some (.int x)) L _)
theorem f146_247 : fetch 146 247 = some (.goto (-39), 3) := vtab tk146 135 rfl
theorem e146_247 (L : VL) (st : List Value) (h : VG) : ev 146 247 L (st) h = ev 146 208 L (st) h := G_goto f146_247 (by decide)
theorem f146_250 : fetch 146 250 = some (.aload_n 0, 1) := vtab tk146 136 rfl
theorem e146_250 (L : VL) (st : List Value) (h : VG) (x : Nat) : ev 146 250 (some (.ref x) :: L) (st) h = ev 146 251 (some (.ref x) :: L) (.ref x :: st) h := G_aload_n f146_250 rfl
theorem f146_251 : fetch 146 251 = some (.iload_n 3, 1) := vtab tk146 137 rfl
theorem e146_251 (l0 l1 l2 : Option Value) (L : VL) (st : List Value) (h : VG) (x : Int32) : ev 146 251 (l0 :: l1 :: l2 :: some (.int x) :: L) (st) h = ev 146 252 (l0 :: l1 :: l2 :: some (.int x) :: L) (.int x :: st) h := G_iload_n f146_251 rfl
theorem f146_252 : fetch 146 252 = some (.iconst 4, 1) := vtab tk146 138 rfl
theorem e146_252 (L : VL) (st : List Value) (h : VG) : ev 146 252 L (st) h = ev 146 253 L (.int (4 : Int32) :: st) h := G_iconst f146_252 (by decide)
theorem f146_253 : fetch 146 253 = some (.if_icmp .le 7, 3) := vtab tk146 139 rfl
theorem e146_253 (L : VL) (st : List Value) (h : VG) (x y : Int32) : ev 146 253 L (.int y :: .int x :: st) h = if x ≤ y then ev 146 260 L st h else ev 146 256 L st h := G_icmp_le f146_253 (by decide)
theorem f146_256 : fetch 146 256 = some (.iconst 3, 1) := vtab tk146 140 rfl
theorem e146_256 (L : VL) (st : List Value) (h : VG) : ev 146 256 L (st) h = ev 146 257 L (.int (3 : Int32) :: st) h := G_iconst f146_256 (by decide)
theorem f146_257 : fetch 146 257 = some (.goto 4, 3) := vtab tk146 141 rfl
theorem e146_257 (L : VL) (st : List Value) (h : VG) : ev 146 257 L (st) h = ev 146 261 L (st) h := G_goto f146_257 (by decide)
theorem f146_260 : fetch 146 260 = some (.iconst 2, 1) := vtab tk146 142 rfl
theorem e146_260 (L : VL) (st : List Value) (h : VG) : ev 146 260 L (st) h = ev 146 261 L (.int (2 : Int32) :: st) h := G_iconst f146_260 (by decide)
theorem f146_261 : fetch 146 261 = some (.iload_n 1, 1) := vtab tk146 143 rfl
theorem e146_261 (l0 : Option Value) (L : VL) (st : List Value) (h : VG) (x : Int32) : ev 146 261 (l0 :: some (.int x) :: L) (st) h = ev 146 262 (l0 :: some (.int x) :: L) (.int x :: st) h := G_iload_n f146_261 rfl
theorem f146_262 : fetch 146 262 = some (.iload 4, 2) := vtab tk146 144 rfl
theorem e146_262 (l0 l1 l2 l3 : Option Value) (L : VL) (st : List Value) (h : VG) (x : Int32) : ev 146 262 (l0 :: l1 :: l2 :: l3 :: some (.int x) :: L) (st) h = ev 146 264 (l0 :: l1 :: l2 :: l3 :: some (.int x) :: L) (.int x :: st) h := G_iload f146_262 rfl
theorem f146_264 : fetch 146 264 = some (.lconst 0, 1) := vtab tk146 145 rfl
theorem e146_264 (L : VL) (st : List Value) (h : VG) : ev 146 264 L (st) h = ev 146 265 L (.long 0 :: st) h := G_lconst f146_264 (by decide)
theorem f146_265 : fetch 146 265 = some (.invokevirtual 174, 3) := vtab tk146 146 rfl
theorem e146_265 (L : VL) (st : List Value) (h : VG) (b : Nat) (x0 : Int32) (x1 : Int32) (x2 : Int32) (x3 : Int64) (ho : ob h b 11) (hs : catS st ≤ 8) : ev 146 265 L (.long x3 :: .int x2 :: .int x1 :: .int x0 :: .ref b :: st) h = (ev 145 0 [some (.ref b), some (.int x0), some (.int x1), some (.int x2), some (.long x3), none] [] h).bind fun q => ev 146 268 L (q.1.toList ++ st) q.2 := G_callv (k := 1) (p := 1240) (ars := [.int x0, .int x1, .int x2, .long x3]) f146_265 lkC_12_174 (by decide) (by decide +kernel) rfl (vcls_ob (ci := 11) (by decide) ho) (Nat.le_of_ble_eq_true rfl) hs rfl
theorem f146_268 : fetch 146 268 = some (.iload_n 1, 1) := vtab tk146 147 rfl
theorem e146_268 (l0 : Option Value) (L : VL) (st : List Value) (h : VG) (x : Int32) : ev 146 268 (l0 :: some (.int x) :: L) (st) h = ev 146 269 (l0 :: some (.int x) :: L) (.int x :: st) h := G_iload_n f146_268 rfl
theorem f146_269 : fetch 146 269 = some (.iload_n 3, 1) := vtab tk146 148 rfl
theorem e146_269 (l0 l1 l2 : Option Value) (L : VL) (st : List Value) (h : VG) (x : Int32) : ev 146 269 (l0 :: l1 :: l2 :: some (.int x) :: L) (st) h = ev 146 270 (l0 :: l1 :: l2 :: some (.int x) :: L) (.int x :: st) h := G_iload_n f146_269 rfl
theorem f146_270 : fetch 146 270 = some (.iadd, 1) := vtab tk146 149 rfl
theorem e146_270 (L : VL) (st : List Value) (h : VG) (x y : Int32) : ev 146 270 L (.int y :: .int x :: st) h = ev 146 271 L (.int (x + y) :: st) h := G_iadd f146_270
theorem f146_271 : fetch 146 271 = some (.istore_n 1, 1) := vtab tk146 150 rfl
theorem e146_271 (l0 l1 : Option Value) (L : VL) (st : List Value) (h : VG) (x : Int32) : ev 146 271 (l0 :: l1 :: L) (.int x :: st) h = ev 146 272 (vkk l0 :: some (.int x) :: L) (st) h := G_istore_n f146_271 rfl (S1_1 l0 l1 L _)
theorem f146_272 : fetch 146 272 = some (.goto 12, 3) := vtab tk146 151 rfl
theorem e146_272 (L : VL) (st : List Value) (h : VG) : ev 146 272 L (st) h = ev 146 284 L (st) h := G_goto f146_272 (by decide)
theorem f146_275 : fetch 146 275 = some (.iload_n 1, 1) := vtab tk146 152 rfl
theorem e146_275 (l0 : Option Value) (L : VL) (st : List Value) (h : VG) (x : Int32) : ev 146 275 (l0 :: some (.int x) :: L) (st) h = ev 146 276 (l0 :: some (.int x) :: L) (.int x :: st) h := G_iload_n f146_275 rfl
theorem f146_276 : fetch 146 276 = some (.aload_n 0, 1) := vtab tk146 153 rfl
theorem e146_276 (L : VL) (st : List Value) (h : VG) (x : Nat) : ev 146 276 (some (.ref x) :: L) (st) h = ev 146 277 (some (.ref x) :: L) (.ref x :: st) h := G_aload_n f146_276 rfl
theorem f146_277 : fetch 146 277 = some (.iload_n 1, 1) := vtab tk146 154 rfl
theorem e146_277 (l0 : Option Value) (L : VL) (st : List Value) (h : VG) (x : Int32) : ev 146 277 (l0 :: some (.int x) :: L) (st) h = ev 146 278 (l0 :: some (.int x) :: L) (.int x :: st) h := G_iload_n f146_277 rfl
theorem f146_278 : fetch 146 278 = some (.iload_n 2, 1) := vtab tk146 155 rfl
theorem e146_278 (l0 l1 : Option Value) (L : VL) (st : List Value) (h : VG) (x : Int32) : ev 146 278 (l0 :: l1 :: some (.int x) :: L) (st) h = ev 146 279 (l0 :: l1 :: some (.int x) :: L) (.int x :: st) h := G_iload_n f146_278 rfl
theorem f146_279 : fetch 146 279 = some (.invokevirtual 185, 3) := vtab tk146 156 rfl
theorem e146_279 (L : VL) (st : List Value) (h : VG) (b : Nat) (x0 : Int32) (x1 : Int32) (ho : ob h b 11) (hs : catS st ≤ 8) : ev 146 279 L (.int x1 :: .int x0 :: .ref b :: st) h = (ev 147 0 [some (.ref b), some (.int x0), some (.int x1)] [] h).bind fun q => ev 146 282 L (q.1.toList ++ st) q.2 := G_callv (k := 1) (p := 1250) (ars := [.int x0, .int x1]) f146_279 lkC_12_185 (by decide) (by decide +kernel) rfl (vcls_ob (ci := 11) (by decide) ho) (Nat.le_of_ble_eq_true rfl) hs rfl
theorem f146_282 : fetch 146 282 = some (.iadd, 1) := vtab tk146 157 rfl
theorem e146_282 (L : VL) (st : List Value) (h : VG) (x y : Int32) : ev 146 282 L (.int y :: .int x :: st) h = ev 146 283 L (.int (x + y) :: st) h := G_iadd f146_282
theorem f146_283 : fetch 146 283 = some (.istore_n 1, 1) := vtab tk146 158 rfl
theorem e146_283 (l0 l1 : Option Value) (L : VL) (st : List Value) (h : VG) (x : Int32) : ev 146 283 (l0 :: l1 :: L) (.int x :: st) h = ev 146 284 (vkk l0 :: some (.int x) :: L) (st) h := G_istore_n f146_283 rfl (S1_1 l0 l1 L _)
theorem f146_284 : fetch 146 284 = some (.goto (-277), 3) := vtab tk146 159 rfl
theorem e146_284 (L : VL) (st : List Value) (h : VG) : ev 146 284 L (st) h = ev 146 7 L (st) h := G_goto f146_284 (by decide)
theorem f146_287 : fetch 146 287 = some (.return_, 1) := vtab tk146 160 rfl
theorem e146_287 (L : VL) (h : VG) : ev 146 287 L [] h = some (none, h) := G_vret f146_287 (by decide)
