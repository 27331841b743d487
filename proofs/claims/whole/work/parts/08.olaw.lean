def am_law_c (k pc : Nat) : Bool := am_chk 11 (am_m0.1.name == "<init>") 4 (some .boolean) 9 334 am_s0 code pc (am_b0.getD k [])
set_option maxRecDepth 100000 in
theorem am_g0_0 : am_law_c 0 0 = true := by decide +kernel
set_option maxRecDepth 100000 in
theorem am_g0_1 : am_law_c 1 18 = true := by decide +kernel
set_option maxRecDepth 100000 in
theorem am_g0_2 : am_law_c 2 240 = true := by decide +kernel
set_option maxRecDepth 100000 in
theorem am_g0_3 : am_law_c 3 273 = true := by decide +kernel
set_option maxRecDepth 100000 in
theorem am_g0_4 : am_law_c 4 316 = true := by decide +kernel
set_option maxRecDepth 100000 in
theorem am_g0_5 : am_law_c 5 349 = true := by decide +kernel
set_option maxRecDepth 100000 in
theorem am_g0_6 : am_law_c 6 372 = true := by decide +kernel
set_option maxRecDepth 100000 in
theorem am_g0_7 : am_law_c 7 435 = true := by decide +kernel
set_option maxRecDepth 100000 in
theorem am_g0_8 : am_law_c 8 458 = true := by decide +kernel
set_option maxRecDepth 100000 in
theorem am_g0_9 : am_law_c 9 491 = true := by decide +kernel
set_option maxRecDepth 100000 in
theorem am_g0_10 : am_law_c 10 534 = true := by decide +kernel
set_option maxRecDepth 100000 in
theorem am_g0_11 : am_law_c 11 557 = true := by decide +kernel
set_option maxRecDepth 100000 in
theorem am_g0_12 : am_law_c 12 580 = true := by decide +kernel
set_option maxRecDepth 100000 in
theorem am_g0_13 : am_law_c 13 613 = true := by decide +kernel
set_option maxRecDepth 100000 in
theorem am_g0_14 : am_law_c 14 636 = true := by decide +kernel
set_option maxRecDepth 100000 in
theorem am_g0_15 : am_law_c 15 649 = true := by decide +kernel
set_option maxRecDepth 100000 in
theorem am_g0_16 : am_law_c 16 682 = true := by decide +kernel
set_option maxRecDepth 100000 in
theorem am_g0_17 : am_law_c 17 725 = true := by decide +kernel
set_option maxRecDepth 100000 in
theorem am_g0_18 : am_law_c 18 768 = true := by decide +kernel
set_option maxRecDepth 100000 in
theorem am_g0_19 : am_law_c 19 801 = true := by decide +kernel
set_option maxRecDepth 100000 in
theorem am_g0_20 : am_law_c 20 824 = true := by decide +kernel
set_option maxRecDepth 100000 in
theorem am_g0_21 : am_law_c 21 867 = true := by decide +kernel
set_option maxRecDepth 100000 in
theorem am_g0_22 : am_law_c 22 900 = true := by decide +kernel
set_option maxRecDepth 100000 in
theorem am_g0_23 : am_law_c 23 933 = true := by decide +kernel
set_option maxRecDepth 100000 in
theorem am_g0_24 : am_law_c 24 956 = true := by decide +kernel
set_option maxRecDepth 100000 in
theorem am_g0_25 : am_law_c 25 979 = true := by decide +kernel
set_option maxRecDepth 100000 in
theorem am_g0_26 : am_law_c 26 1012 = true := by decide +kernel
set_option maxRecDepth 100000 in
theorem am_g0_27 : am_law_c 27 1045 = true := by decide +kernel
set_option maxRecDepth 100000 in
theorem am_g0_28 : am_law_c 28 1058 = true := by decide +kernel
set_option maxRecDepth 100000 in
theorem am_g0_29 : am_law_c 29 1081 = true := by decide +kernel
set_option maxRecDepth 100000 in
theorem am_g0_30 : am_law_c 30 1094 = true := by decide +kernel
set_option maxRecDepth 100000 in
theorem am_g0_31 : am_law_c 31 1127 = true := by decide +kernel
set_option maxRecDepth 100000 in
theorem am_g0_32 : am_law_c 32 1170 = true := by decide +kernel
set_option maxRecDepth 100000 in
theorem am_g0_33 : am_law_c 33 1203 = true := by decide +kernel
set_option maxRecDepth 100000 in
theorem am_g0_34 : am_law_c 34 1226 = true := by decide +kernel
set_option maxRecDepth 100000 in
theorem am_g0_35 : am_law_c 35 1279 = true := by decide +kernel
set_option maxRecDepth 100000 in
theorem am_g0_36 : am_law_c 36 1312 = true := by decide +kernel
set_option maxRecDepth 100000 in
theorem am_g0_37 : am_law_c 37 1345 = true := by decide +kernel
set_option maxRecDepth 100000 in
theorem am_g0_38 : am_law_c 38 1368 = true := by decide +kernel
set_option maxRecDepth 100000 in
theorem am_g0_39 : am_law_c 39 1381 = true := by decide +kernel
set_option maxRecDepth 100000 in
theorem am_g0_40 : am_law_c 40 1404 = true := by decide +kernel
set_option maxRecDepth 100000 in
theorem am_g0_41 : am_law_c 41 1417 = true := by decide +kernel
set_option maxRecDepth 100000 in
theorem am_g0_42 : am_law_c 42 1440 = true := by decide +kernel
set_option maxRecDepth 100000 in
theorem am_g0_43 : am_law_c 43 1453 = true := by decide +kernel
set_option maxRecDepth 100000 in
theorem am_g0_44 : am_law_c 44 1467 = true := by decide +kernel
set_option maxRecDepth 100000 in
theorem am_g0_45 : am_law_c 45 1481 = true := by decide +kernel
set_option maxRecDepth 100000 in
theorem am_g0_46 : am_law_c 46 1495 = true := by decide +kernel
set_option maxRecDepth 100000 in
theorem am_g0_47 : am_law_c 47 1518 = true := by decide +kernel
set_option maxRecDepth 100000 in
theorem am_g0_48 : am_law_c 48 1531 = true := by decide +kernel
set_option maxRecDepth 100000 in
theorem am_g0_49 : am_law_c 49 1554 = true := by decide +kernel
set_option maxRecDepth 100000 in
theorem am_g0_50 : am_law_c 50 1568 = true := by decide +kernel
set_option maxRecDepth 100000 in
theorem am_g0_51 : am_law_c 51 1574 = true := by decide +kernel
set_option maxRecDepth 100000 in
theorem am_g0 : ∀ (k pc : Nat), am_s0[k]? = some pc → am_law_c k pc = true := by
  intro k pc h
  match k with
  | 0 => cases h; exact am_g0_0
  | 1 => cases h; exact am_g0_1
  | 2 => cases h; exact am_g0_2
  | 3 => cases h; exact am_g0_3
  | 4 => cases h; exact am_g0_4
  | 5 => cases h; exact am_g0_5
  | 6 => cases h; exact am_g0_6
  | 7 => cases h; exact am_g0_7
  | 8 => cases h; exact am_g0_8
  | 9 => cases h; exact am_g0_9
  | 10 => cases h; exact am_g0_10
  | 11 => cases h; exact am_g0_11
  | 12 => cases h; exact am_g0_12
  | 13 => cases h; exact am_g0_13
  | 14 => cases h; exact am_g0_14
  | 15 => cases h; exact am_g0_15
  | 16 => cases h; exact am_g0_16
  | 17 => cases h; exact am_g0_17
  | 18 => cases h; exact am_g0_18
  | 19 => cases h; exact am_g0_19
  | 20 => cases h; exact am_g0_20
  | 21 => cases h; exact am_g0_21
  | 22 => cases h; exact am_g0_22
  | 23 => cases h; exact am_g0_23
  | 24 => cases h; exact am_g0_24
  | 25 => cases h; exact am_g0_25
  | 26 => cases h; exact am_g0_26
  | 27 => cases h; exact am_g0_27
  | 28 => cases h; exact am_g0_28
  | 29 => cases h; exact am_g0_29
  | 30 => cases h; exact am_g0_30
  | 31 => cases h; exact am_g0_31
  | 32 => cases h; exact am_g0_32
  | 33 => cases h; exact am_g0_33
  | 34 => cases h; exact am_g0_34
  | 35 => cases h; exact am_g0_35
  | 36 => cases h; exact am_g0_36
  | 37 => cases h; exact am_g0_37
  | 38 => cases h; exact am_g0_38
  | 39 => cases h; exact am_g0_39
  | 40 => cases h; exact am_g0_40
  | 41 => cases h; exact am_g0_41
  | 42 => cases h; exact am_g0_42
  | 43 => cases h; exact am_g0_43
  | 44 => cases h; exact am_g0_44
  | 45 => cases h; exact am_g0_45
  | 46 => cases h; exact am_g0_46
  | 47 => cases h; exact am_g0_47
  | 48 => cases h; exact am_g0_48
  | 49 => cases h; exact am_g0_49
  | 50 => cases h; exact am_g0_50
  | 51 => cases h; exact am_g0_51
  | k + 52 => simp [am_s0] at h
