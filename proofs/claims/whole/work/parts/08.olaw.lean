def am_law_c (k pc : Nat) : Bool := am_chk 11 (am_m0.1.name == "<init>") 4 (some .boolean) 9 334 am_s0 code pc (am_b0.getD k [])
set_option maxRecDepth 100000 in
theorem am_g0_0 : am_law_c 0 0 = true := by decide +kernel
set_option maxRecDepth 100000 in
theorem am_g0_1 : am_law_c 1 18 = true := by decide +kernel
set_option maxRecDepth 100000 in
theorem am_g0_2 : am_law_c 2 240 = true := by decide +kernel
set_option maxRecDepth 100000 in
theorem am_g0_3 : am_law_c 3 273 = true := by decide +kernel
set_option maxRecDepth 100000 in
theorem am_g0_4 : am_law_c 4 316 = true := by decide +kernel
set_option maxRecDepth 100000 in
theorem am_g0_5 : am_law_c 5 349 = true := by decide +kernel
set_option maxRecDepth 100000 in
theorem am_g0_6 : am_law_c 6 372 = true := by decide +kernel
set_option maxRecDepth 100000 in
theorem am_g0_7 : am_law_c 7 435 = true := by decide +kernel
set_option maxRecDepth 100000 in
theorem am_g0_8 : am_law_c 8 458 = true := by decide +kernel
set_option maxRecDepth 100000 in
theorem am_g0_9 : am_law_c 9 491 = true := by decide +kernel
set_option maxRecDepth 100000 in
theorem am_g0_10 : am_law_c 10 534 = true := by decide +kernel
set_option maxRecDepth 100000 in
theorem am_g0_11 : am_law_c 11 557 = true := by decide +kernel
set_option maxRecDepth 100000 in
theorem am_g0_12 : am_law_c 12 580 = true := by decide +kernel
set_option maxRecDepth 100000 in
theorem am_g0_13 : am_law_c 13 613 = true := by decide +kernel
set_option maxRecDepth 100000 in
theorem am_g0_14 : am_law_c 14 636 = true := by decide +kernel
set_option maxRecDepth 100000 in
theorem am_g0_15 : am_law_c 15 649 = true := by decide +kernel
set_option maxRecDepth 100000 in
theorem am_g0_16 : am_law_c 16 682 = true := by decide +kernel
set_option maxRecDepth 100000 in
theorem am_g0_17 : am_law_c 17 725 = true := by decide +kernel
set_option maxRecDepth 100000 in
theorem am_g0_18 : am_law_c 18 768 = true := by decide +kernel
set_option maxRecDepth 100000 in
theorem am_g0_19 : am_law_c 19 801 = true := by decide +kernel
set_option maxRecDepth 100000 in
theorem am_g0_20 : am_law_c 20 824 = true := by decide +kernel
set_option maxRecDepth 100000 in
theorem am_g0_21 : am_law_c 21 867 = true := by decide +kernel
set_option maxRecDepth 100000 in
theorem am_g0_22 : am_law_c 22 900 = true := by decide +kernel
set_option maxRecDepth 100000 in
theorem am_g0_23 : am_law_c 23 933 = true := by decide +kernel
set_option maxRecDepth 100000 in
theorem am_g0_24 : am_law_c 24 956 = true := by decide +kernel
set_option maxRecDepth 100000 in
theorem am_g0_25 : am_law_c 25 979 = true := by decide +kernel
set_option maxRecDepth 100000 in
theorem am_g0_26 : am_law_c 26 1012 = true := by decide +kernel
set_option maxRecDepth 100000 in
theorem am_g0_27 : am_law_c 27 1045 = true := by decide +kernel
set_option maxRecDepth 100000 in
theorem am_g0_28 : am_law_c 28 1058 = true := by decide +kernel
set_option maxRecDepth 100000 in
theorem am_g0_29 : am_law_c 29 1081 = true := by decide +kernel
set_option maxRecDepth 100000 in
theorem am_g0_30 : am_law_c 30 1094 = true := by decide +kernel
set_option maxRecDepth 100000 in
theorem am_g0_31 : am_law_c 31 1127 = true := by decide +kernel
set_option maxRecDepth 100000 in
theorem am_g0_32 : am_law_c 32 1170 = true := by decide +kernel
set_option maxRecDepth 100000 in
theorem am_g0_33 : am_law_c 33 1203 = true := by decide +kernel
set_option maxRecDepth 100000 in
theorem am_g0_34 : am_law_c 34 1226 = true := by decide +kernel
set_option maxRecDepth 100000 in
theorem am_g0_35 : am_law_c 35 1279 = true := by decide +kernel
set_option maxRecDepth 100000 in
theorem am_g0_36 : am_law_c 36 1312 = true := by decide +kernel
set_option maxRecDepth 100000 in
theorem am_g0_37 : am_law_c 37 1345 = true := by decide +kernel
set_option maxRecDepth 100000 in
theorem am_g0_38 : am_law_c 38 1368 = true := by decide +kernel
set_option maxRecDepth 100000 in
theorem am_g0_39 : am_law_c 39 1381 = true := by decide +kernel
set_option maxRecDepth 100000 in
theorem am_g0_40 : am_law_c 40 1404 = true := by decide +kernel
set_option maxRecDepth 100000 in
theorem am_g0_41 : am_law_c 41 1417 = true := by decide +kernel
set_option maxRecDepth 100000 in
theorem am_g0_42 : am_law_c 42 1440 = true := by decide +kernel
set_option maxRecDepth 100000 in
theorem am_g0_43 : am_law_c 43 1453 = true := by decide +kernel
set_option maxRecDepth 100000 in
theorem am_g0_44 : am_law_c 44 1467 = true := by decide +kernel
set_option maxRecDepth 100000 in
theorem am_g0_45 : am_law_c 45 1481 = true := by decide +kernel
set_option maxRecDepth 100000 in
theorem am_g0_46 : am_law_c 46 1495 = true := by decide +kernel
set_option maxRecDepth 100000 in
theorem am_g0_47 : am_law_c 47 1518 = true := by decide +kernel
set_option maxRecDepth 100000 in
theorem am_g0_48 : am_law_c 48 1531 = true := by decide +kernel
set_option maxRecDepth 100000 in
theorem am_g0_49 : am_law_c 49 1554 = true := by decide +kernel
set_option maxRecDepth 100000 in
theorem am_g0_50 : am_law_c 50 1568 = true := by decide +kernel
set_option maxRecDepth 100000 in
theorem am_g0_51 : am_law_c 51 1574 = true := by decide +kernel
theorem am_bb {a b c : Bool} (h1 : a = true) (h2 : b = true) (h3 : c = true) : (a && b && c) = true := by rw [h1, h2, h3]; rfl
set_option maxRecDepth 1000000 in
theorem am_g0 : am_chkM 11 am_m0 = true := by
  have h : ∀ q ∈ am_s0.zip am_b0, am_chk 11 (am_m0.1.name == "<init>") 4 (some .boolean) 9 334 am_s0 code q.1 q.2 = true := by
    rw [show am_s0.zip am_b0 = [(0, am_b0.getD 0 []), (18, am_b0.getD 1 []), (240, am_b0.getD 2 []), (273, am_b0.getD 3 []), (316, am_b0.getD 4 []), (349, am_b0.getD 5 []), (372, am_b0.getD 6 []), (435, am_b0.getD 7 []), (458, am_b0.getD 8 []), (491, am_b0.getD 9 []), (534, am_b0.getD 10 []), (557, am_b0.getD 11 []), (580, am_b0.getD 12 []), (613, am_b0.getD 13 []), (636, am_b0.getD 14 []), (649, am_b0.getD 15 []), (682, am_b0.getD 16 []), (725, am_b0.getD 17 []), (768, am_b0.getD 18 []), (801, am_b0.getD 19 []), (824, am_b0.getD 20 []), (867, am_b0.getD 21 []), (900, am_b0.getD 22 []), (933, am_b0.getD 23 []), (956, am_b0.getD 24 []), (979, am_b0.getD 25 []), (1012, am_b0.getD 26 []), (1045, am_b0.getD 27 []), (1058, am_b0.getD 28 []), (1081, am_b0.getD 29 []), (1094, am_b0.getD 30 []), (1127, am_b0.getD 31 []), (1170, am_b0.getD 32 []), (1203, am_b0.getD 33 []), (1226, am_b0.getD 34 []), (1279, am_b0.getD 35 []), (1312, am_b0.getD 36 []), (1345, am_b0.getD 37 []), (1368, am_b0.getD 38 []), (1381, am_b0.getD 39 []), (1404, am_b0.getD 40 []), (1417, am_b0.getD 41 []), (1440, am_b0.getD 42 []), (1453, am_b0.getD 43 []), (1467, am_b0.getD 44 []), (1481, am_b0.getD 45 []), (1495, am_b0.getD 46 []), (1518, am_b0.getD 47 []), (1531, am_b0.getD 48 []), (1554, am_b0.getD 49 []), (1568, am_b0.getD 50 []), (1574, am_b0.getD 51 [])] from rfl]
    exact List.forall_mem_cons.mpr ⟨am_g0_0, List.forall_mem_cons.mpr ⟨am_g0_1, List.forall_mem_cons.mpr ⟨am_g0_2, List.forall_mem_cons.mpr ⟨am_g0_3, List.forall_mem_cons.mpr ⟨am_g0_4, List.forall_mem_cons.mpr ⟨am_g0_5, List.forall_mem_cons.mpr ⟨am_g0_6, List.forall_mem_cons.mpr ⟨am_g0_7, List.forall_mem_cons.mpr ⟨am_g0_8, List.forall_mem_cons.mpr ⟨am_g0_9, List.forall_mem_cons.mpr ⟨am_g0_10, List.forall_mem_cons.mpr ⟨am_g0_11, List.forall_mem_cons.mpr ⟨am_g0_12, List.forall_mem_cons.mpr ⟨am_g0_13, List.forall_mem_cons.mpr ⟨am_g0_14, List.forall_mem_cons.mpr ⟨am_g0_15, List.forall_mem_cons.mpr ⟨am_g0_16, List.forall_mem_cons.mpr ⟨am_g0_17, List.forall_mem_cons.mpr ⟨am_g0_18, List.forall_mem_cons.mpr ⟨am_g0_19, List.forall_mem_cons.mpr ⟨am_g0_20, List.forall_mem_cons.mpr ⟨am_g0_21, List.forall_mem_cons.mpr ⟨am_g0_22, List.forall_mem_cons.mpr ⟨am_g0_23, List.forall_mem_cons.mpr ⟨am_g0_24, List.forall_mem_cons.mpr ⟨am_g0_25, List.forall_mem_cons.mpr ⟨am_g0_26, List.forall_mem_cons.mpr ⟨am_g0_27, List.forall_mem_cons.mpr ⟨am_g0_28, List.forall_mem_cons.mpr ⟨am_g0_29, List.forall_mem_cons.mpr ⟨am_g0_30, List.forall_mem_cons.mpr ⟨am_g0_31, List.forall_mem_cons.mpr ⟨am_g0_32, List.forall_mem_cons.mpr ⟨am_g0_33, List.forall_mem_cons.mpr ⟨am_g0_34, List.forall_mem_cons.mpr ⟨am_g0_35, List.forall_mem_cons.mpr ⟨am_g0_36, List.forall_mem_cons.mpr ⟨am_g0_37, List.forall_mem_cons.mpr ⟨am_g0_38, List.forall_mem_cons.mpr ⟨am_g0_39, List.forall_mem_cons.mpr ⟨am_g0_40, List.forall_mem_cons.mpr ⟨am_g0_41, List.forall_mem_cons.mpr ⟨am_g0_42, List.forall_mem_cons.mpr ⟨am_g0_43, List.forall_mem_cons.mpr ⟨am_g0_44, List.forall_mem_cons.mpr ⟨am_g0_45, List.forall_mem_cons.mpr ⟨am_g0_46, List.forall_mem_cons.mpr ⟨am_g0_47, List.forall_mem_cons.mpr ⟨am_g0_48, List.forall_mem_cons.mpr ⟨am_g0_49, List.forall_mem_cons.mpr ⟨am_g0_50, List.forall_mem_cons.mpr ⟨am_g0_51, fun _ h => absurd h List.not_mem_nil⟩⟩⟩⟩⟩⟩⟩⟩⟩⟩⟩⟩⟩⟩⟩⟩⟩⟩⟩⟩⟩⟩⟩⟩⟩⟩⟩⟩⟩⟩⟩⟩⟩⟩⟩⟩⟩⟩⟩⟩⟩⟩⟩⟩⟩⟩⟩⟩⟩⟩⟩⟩
  have h1 : decide (am_s0[0]? = some 0) = true := by decide
  have h2 : decide (am_s0.length = am_b0.length) = true := by decide +kernel
  exact am_bb h1 h2 (List.all_eq_true.mpr h)
