def am_law_c (k pc : Nat) : Bool := am_chk 11 (am_m0.1.name == "<init>") 25 (some .boolean) 10 378 am_s0 code pc (am_b0.getD k [])
set_option maxRecDepth 100000 in
theorem am_g0_0 : am_law_c 0 0 = true := by decide +kernel
set_option maxRecDepth 100000 in
theorem am_g0_1 : am_law_c 1 60 = true := by decide +kernel
set_option maxRecDepth 100000 in
theorem am_g0_2 : am_law_c 2 77 = true := by decide +kernel
set_option maxRecDepth 100000 in
theorem am_g0_3 : am_law_c 3 86 = true := by decide +kernel
set_option maxRecDepth 100000 in
theorem am_g0_4 : am_law_c 4 103 = true := by decide +kernel
set_option maxRecDepth 100000 in
theorem am_g0_5 : am_law_c 5 291 = true := by decide +kernel
set_option maxRecDepth 100000 in
theorem am_g0_6 : am_law_c 6 293 = true := by decide +kernel
set_option maxRecDepth 100000 in
theorem am_g0_7 : am_law_c 7 358 = true := by decide +kernel
set_option maxRecDepth 100000 in
theorem am_g0_8 : am_law_c 8 359 = true := by decide +kernel
set_option maxRecDepth 100000 in
theorem am_g0_9 : am_law_c 9 373 = true := by decide +kernel
set_option maxRecDepth 100000 in
theorem am_g0_10 : am_law_c 10 374 = true := by decide +kernel
set_option maxRecDepth 100000 in
theorem am_g0_11 : am_law_c 11 405 = true := by decide +kernel
set_option maxRecDepth 100000 in
theorem am_g0_12 : am_law_c 12 406 = true := by decide +kernel
set_option maxRecDepth 100000 in
theorem am_g0_13 : am_law_c 13 410 = true := by decide +kernel
set_option maxRecDepth 100000 in
theorem am_g0_14 : am_law_c 14 412 = true := by decide +kernel
set_option maxRecDepth 100000 in
theorem am_g0_15 : am_law_c 15 506 = true := by decide +kernel
set_option maxRecDepth 100000 in
theorem am_g0_16 : am_law_c 16 508 = true := by decide +kernel
set_option maxRecDepth 100000 in
theorem am_g0_17 : am_law_c 17 511 = true := by decide +kernel
set_option maxRecDepth 100000 in
theorem am_g0_18 : am_law_c 18 513 = true := by decide +kernel
set_option maxRecDepth 100000 in
theorem am_g0_19 : am_law_c 19 519 = true := by decide +kernel
set_option maxRecDepth 100000 in
theorem am_g0_20 : am_law_c 20 522 = true := by decide +kernel
set_option maxRecDepth 100000 in
theorem am_g0_21 : am_law_c 21 590 = true := by decide +kernel
set_option maxRecDepth 100000 in
theorem am_g0_22 : am_law_c 22 592 = true := by decide +kernel
set_option maxRecDepth 100000 in
theorem am_g0_23 : am_law_c 23 595 = true := by decide +kernel
set_option maxRecDepth 100000 in
theorem am_g0_24 : am_law_c 24 636 = true := by decide +kernel
set_option maxRecDepth 100000 in
theorem am_g0_25 : am_law_c 25 638 = true := by decide +kernel
set_option maxRecDepth 100000 in
theorem am_g0_26 : am_law_c 26 644 = true := by decide +kernel
set_option maxRecDepth 100000 in
theorem am_g0_27 : am_law_c 27 650 = true := by decide +kernel
set_option maxRecDepth 100000 in
theorem am_g0_28 : am_law_c 28 672 = true := by decide +kernel
set_option maxRecDepth 100000 in
theorem am_g0_29 : am_law_c 29 673 = true := by decide +kernel
set_option maxRecDepth 100000 in
theorem am_g0_30 : am_law_c 30 684 = true := by decide +kernel
set_option maxRecDepth 100000 in
theorem am_g0_31 : am_law_c 31 685 = true := by decide +kernel
set_option maxRecDepth 100000 in
theorem am_g0_32 : am_law_c 32 690 = true := by decide +kernel
set_option maxRecDepth 100000 in
theorem am_g0_33 : am_law_c 33 699 = true := by decide +kernel
set_option maxRecDepth 100000 in
theorem am_g0_34 : am_law_c 34 741 = true := by decide +kernel
set_option maxRecDepth 100000 in
theorem am_g0_35 : am_law_c 35 807 = true := by decide +kernel
set_option maxRecDepth 100000 in
theorem am_g0_36 : am_law_c 36 820 = true := by decide +kernel
set_option maxRecDepth 100000 in
theorem am_g0_37 : am_law_c 37 822 = true := by decide +kernel
set_option maxRecDepth 100000 in
theorem am_g0_38 : am_law_c 38 828 = true := by decide +kernel
set_option maxRecDepth 100000 in
theorem am_g0_39 : am_law_c 39 842 = true := by decide +kernel
set_option maxRecDepth 100000 in
theorem am_g0_40 : am_law_c 40 915 = true := by decide +kernel
set_option maxRecDepth 100000 in
theorem am_g0_41 : am_law_c 41 971 = true := by decide +kernel
set_option maxRecDepth 100000 in
theorem am_g0_42 : am_law_c 42 994 = true := by decide +kernel
set_option maxRecDepth 100000 in
theorem am_g0_43 : am_law_c 43 996 = true := by decide +kernel
set_option maxRecDepth 100000 in
theorem am_g0_44 : am_law_c 44 1019 = true := by decide +kernel
set_option maxRecDepth 100000 in
theorem am_g0_45 : am_law_c 45 1034 = true := by decide +kernel
set_option maxRecDepth 100000 in
theorem am_g0_46 : am_law_c 46 1036 = true := by decide +kernel
set_option maxRecDepth 100000 in
theorem am_g0_47 : am_law_c 47 1052 = true := by decide +kernel
set_option maxRecDepth 100000 in
theorem am_g0_48 : am_law_c 48 1053 = true := by decide +kernel
set_option maxRecDepth 100000 in
theorem am_g0_49 : am_law_c 49 1058 = true := by decide +kernel
set_option maxRecDepth 100000 in
theorem am_g0_50 : am_law_c 50 1094 = true := by decide +kernel
set_option maxRecDepth 100000 in
theorem am_g0_51 : am_law_c 51 1095 = true := by decide +kernel
set_option maxRecDepth 100000 in
theorem am_g0_52 : am_law_c 52 1109 = true := by decide +kernel
set_option maxRecDepth 100000 in
theorem am_g0_53 : am_law_c 53 1110 = true := by decide +kernel
set_option maxRecDepth 100000 in
theorem am_g0_54 : am_law_c 54 1118 = true := by decide +kernel
set_option maxRecDepth 100000 in
theorem am_g0_55 : am_law_c 55 1156 = true := by decide +kernel
set_option maxRecDepth 100000 in
theorem am_g0_56 : am_law_c 56 1158 = true := by decide +kernel
set_option maxRecDepth 100000 in
theorem am_g0_57 : am_law_c 57 1181 = true := by decide +kernel
set_option maxRecDepth 100000 in
theorem am_g0_58 : am_law_c 58 1191 = true := by decide +kernel
set_option maxRecDepth 100000 in
theorem am_g0_59 : am_law_c 59 1210 = true := by decide +kernel
set_option maxRecDepth 100000 in
theorem am_g0_60 : am_law_c 60 1212 = true := by decide +kernel
set_option maxRecDepth 100000 in
theorem am_g0_61 : am_law_c 61 1236 = true := by decide +kernel
set_option maxRecDepth 100000 in
theorem am_g0_62 : am_law_c 62 1238 = true := by decide +kernel
set_option maxRecDepth 100000 in
theorem am_g0_63 : am_law_c 63 1260 = true := by decide +kernel
set_option maxRecDepth 100000 in
theorem am_g0_64 : am_law_c 64 1271 = true := by decide +kernel
set_option maxRecDepth 100000 in
theorem am_g0_65 : am_law_c 65 1273 = true := by decide +kernel
set_option maxRecDepth 100000 in
theorem am_g0_66 : am_law_c 66 1374 = true := by decide +kernel
set_option maxRecDepth 100000 in
theorem am_g0_67 : am_law_c 67 1375 = true := by decide +kernel
set_option maxRecDepth 100000 in
theorem am_g0 : ∀ (k pc : Nat), am_s0[k]? = some pc → am_law_c k pc = true := by
  intro k pc h
  match k with
  | 0 => cases h; exact am_g0_0
  | 1 => cases h; exact am_g0_1
  | 2 => cases h; exact am_g0_2
  | 3 => cases h; exact am_g0_3
  | 4 => cases h; exact am_g0_4
  | 5 => cases h; exact am_g0_5
  | 6 => cases h; exact am_g0_6
  | 7 => cases h; exact am_g0_7
  | 8 => cases h; exact am_g0_8
  | 9 => cases h; exact am_g0_9
  | 10 => cases h; exact am_g0_10
  | 11 => cases h; exact am_g0_11
  | 12 => cases h; exact am_g0_12
  | 13 => cases h; exact am_g0_13
  | 14 => cases h; exact am_g0_14
  | 15 => cases h; exact am_g0_15
  | 16 => cases h; exact am_g0_16
  | 17 => cases h; exact am_g0_17
  | 18 => cases h; exact am_g0_18
  | 19 => cases h; exact am_g0_19
  | 20 => cases h; exact am_g0_20
  | 21 => cases h; exact am_g0_21
  | 22 => cases h; exact am_g0_22
  | 23 => cases h; exact am_g0_23
  | 24 => cases h; exact am_g0_24
  | 25 => cases h; exact am_g0_25
  | 26 => cases h; exact am_g0_26
  | 27 => cases h; exact am_g0_27
  | 28 => cases h; exact am_g0_28
  | 29 => cases h; exact am_g0_29
  | 30 => cases h; exact am_g0_30
  | 31 => cases h; exact am_g0_31
  | 32 => cases h; exact am_g0_32
  | 33 => cases h; exact am_g0_33
  | 34 => cases h; exact am_g0_34
  | 35 => cases h; exact am_g0_35
  | 36 => cases h; exact am_g0_36
  | 37 => cases h; exact am_g0_37
  | 38 => cases h; exact am_g0_38
  | 39 => cases h; exact am_g0_39
  | 40 => cases h; exact am_g0_40
  | 41 => cases h; exact am_g0_41
  | 42 => cases h; exact am_g0_42
  | 43 => cases h; exact am_g0_43
  | 44 => cases h; exact am_g0_44
  | 45 => cases h; exact am_g0_45
  | 46 => cases h; exact am_g0_46
  | 47 => cases h; exact am_g0_47
  | 48 => cases h; exact am_g0_48
  | 49 => cases h; exact am_g0_49
  | 50 => cases h; exact am_g0_50
  | 51 => cases h; exact am_g0_51
  | 52 => cases h; exact am_g0_52
  | 53 => cases h; exact am_g0_53
  | 54 => cases h; exact am_g0_54
  | 55 => cases h; exact am_g0_55
  | 56 => cases h; exact am_g0_56
  | 57 => cases h; exact am_g0_57
  | 58 => cases h; exact am_g0_58
  | 59 => cases h; exact am_g0_59
  | 60 => cases h; exact am_g0_60
  | 61 => cases h; exact am_g0_61
  | 62 => cases h; exact am_g0_62
  | 63 => cases h; exact am_g0_63
  | 64 => cases h; exact am_g0_64
  | 65 => cases h; exact am_g0_65
  | 66 => cases h; exact am_g0_66
  | 67 => cases h; exact am_g0_67
  | k + 68 => simp [am_s0] at h
