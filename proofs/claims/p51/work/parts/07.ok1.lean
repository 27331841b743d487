set_option maxRecDepth 100000 in
theorem am_g1 : am_good 1 am_m1 := ⟨9, by decide, rfl, rfl, by decide +kernel, rfl, by decide +kernel, am_gm (List.mem_of_getElem? (i := 59) rfl) rfl, am_gm (List.mem_of_getElem? (i := 42) rfl) rfl, ⟨am_gm (List.mem_of_getElem? (i := 58) rfl) rfl, rfl, by decide +kernel⟩⟩
set_option maxRecDepth 100000 in
theorem am_g2 : am_good 2 am_m2 := ⟨8, by decide, rfl, rfl, by decide +kernel, rfl, by decide +kernel, am_gm (List.mem_of_getElem? (i := 69) rfl) rfl, am_gm (List.mem_of_getElem? (i := 43) rfl) rfl, ⟨am_gm (List.mem_of_getElem? (i := 68) rfl) rfl, rfl, by decide +kernel⟩⟩
set_option maxRecDepth 100000 in
theorem am_g3 : am_good 3 am_m3 := ⟨8, by decide, rfl, rfl, by decide +kernel, rfl, by decide +kernel, am_gm (List.mem_of_getElem? (i := 74) rfl) rfl, am_gm (List.mem_of_getElem? (i := 43) rfl) rfl, ⟨am_gm (List.mem_of_getElem? (i := 72) rfl) rfl, am_gm (List.mem_of_getElem? (i := 73) rfl) rfl, by decide +kernel⟩⟩
set_option maxRecDepth 100000 in
theorem am_g4 : am_good 4 am_m4 := ⟨12, by decide, rfl, rfl, by decide +kernel, rfl, by decide +kernel, am_gm (List.mem_of_getElem? (i := 77) rfl) rfl, am_gm (List.mem_of_getElem? (i := 44) rfl) rfl, ⟨am_gm (List.mem_of_getElem? (i := 76) rfl) rfl, by decide +kernel⟩⟩
set_option maxRecDepth 100000 in
theorem am_g5 : am_good 5 am_m5 := ⟨3, by decide, rfl, rfl, by decide +kernel, rfl, by decide +kernel, am_gm (List.mem_of_getElem? (i := 121) rfl) rfl, am_gm (List.mem_of_getElem? (i := 45) rfl) rfl, ⟨am_gm (List.mem_of_getElem? (i := 120) rfl) rfl, rfl, by decide +kernel⟩⟩
set_option maxRecDepth 100000 in
theorem am_g6 : am_good 6 am_m6 := ⟨6, by decide, rfl, rfl, by decide +kernel, rfl, by decide +kernel, am_gm (List.mem_of_getElem? (i := 127) rfl) rfl, am_gm (List.mem_of_getElem? (i := 46) rfl) rfl, ⟨am_gm (List.mem_of_getElem? (i := 126) rfl) rfl, rfl, by decide +kernel⟩⟩
set_option maxRecDepth 100000 in
theorem am_g7 : am_good 7 am_m7 := ⟨0, by decide, rfl, rfl, by decide +kernel, rfl, by decide +kernel, am_gm (List.mem_of_getElem? (i := 157) rfl) rfl, am_gm (List.mem_of_getElem? (i := 47) rfl) rfl, ⟨am_gm (List.mem_of_getElem? (i := 156) rfl) rfl, rfl, by decide +kernel⟩⟩
set_option maxRecDepth 100000 in
theorem am_g8 : am_good 8 am_m8 := ⟨0, by decide, rfl, rfl, by decide +kernel, rfl, by decide +kernel, am_gm (List.mem_of_getElem? (i := 162) rfl) rfl, am_gm (List.mem_of_getElem? (i := 47) rfl) rfl, ⟨am_gm (List.mem_of_getElem? (i := 160) rfl) rfl, am_gm (List.mem_of_getElem? (i := 161) rfl) rfl, by decide +kernel⟩⟩
set_option maxRecDepth 100000 in
theorem am_g9 : am_good 9 am_m9 := ⟨0, by decide, rfl, rfl, by decide +kernel, rfl, by decide +kernel, am_gm (List.mem_of_getElem? (i := 166) rfl) rfl, am_gm (List.mem_of_getElem? (i := 47) rfl) rfl, ⟨am_gm (List.mem_of_getElem? (i := 165) rfl) rfl, am_gm (List.mem_of_getElem? (i := 0) rfl) rfl, by decide +kernel⟩⟩
set_option maxRecDepth 100000 in
theorem am_g10 : am_good 10 am_m10 := ⟨12, by decide, rfl, rfl, by decide +kernel, rfl, by decide +kernel, am_gm (List.mem_of_getElem? (i := 169) rfl) rfl, am_gm (List.mem_of_getElem? (i := 44) rfl) rfl, ⟨am_gm (List.mem_of_getElem? (i := 168) rfl) rfl, by decide +kernel⟩⟩
set_option maxRecDepth 100000 in
theorem am_g11 : am_good 11 am_m11 := ⟨12, by decide, rfl, rfl, by decide +kernel, rfl, by decide +kernel, am_gm (List.mem_of_getElem? (i := 172) rfl) rfl, am_gm (List.mem_of_getElem? (i := 44) rfl) rfl, ⟨am_gm (List.mem_of_getElem? (i := 171) rfl) rfl, by decide +kernel⟩⟩
set_option maxRecDepth 100000 in
theorem am_g12 : am_good 12 am_m12 := ⟨0, by decide, rfl, rfl, by decide +kernel, rfl, by decide +kernel, am_gm (List.mem_of_getElem? (i := 176) rfl) rfl, am_gm (List.mem_of_getElem? (i := 47) rfl) rfl, ⟨am_gm (List.mem_of_getElem? (i := 175) rfl) rfl, am_gm (List.mem_of_getElem? (i := 1) rfl) rfl, by decide +kernel⟩⟩
set_option maxRecDepth 100000 in
theorem am_g13 : am_good 13 am_m13 := ⟨0, by decide, rfl, rfl, by decide +kernel, rfl, by decide +kernel, am_gm (List.mem_of_getElem? (i := 185) rfl) rfl, am_gm (List.mem_of_getElem? (i := 47) rfl) rfl, ⟨am_gm (List.mem_of_getElem? (i := 183) rfl) rfl, am_gm (List.mem_of_getElem? (i := 184) rfl) rfl, by decide +kernel⟩⟩
set_option maxRecDepth 100000 in
theorem am_g14 : am_good 14 am_m14 := ⟨0, by decide, rfl, rfl, by decide +kernel, rfl, by decide +kernel, am_gm (List.mem_of_getElem? (i := 189) rfl) rfl, am_gm (List.mem_of_getElem? (i := 47) rfl) rfl, ⟨am_gm (List.mem_of_getElem? (i := 188) rfl) rfl, am_gm (List.mem_of_getElem? (i := 2) rfl) rfl, by decide +kernel⟩⟩
set_option maxRecDepth 100000 in
theorem am_g15 : am_good 15 am_m15 := ⟨0, by decide, rfl, rfl, by decide +kernel, rfl, by decide +kernel, am_gm (List.mem_of_getElem? (i := 193) rfl) rfl, am_gm (List.mem_of_getElem? (i := 47) rfl) rfl, ⟨am_gm (List.mem_of_getElem? (i := 192) rfl) rfl, am_gm (List.mem_of_getElem? (i := 3) rfl) rfl, by decide +kernel⟩⟩
set_option maxRecDepth 100000 in
theorem am_g16 : am_good 16 am_m16 := ⟨1, by decide, rfl, rfl, by decide +kernel, rfl, by decide +kernel, am_gm (List.mem_of_getElem? (i := 243) rfl) rfl, am_gm (List.mem_of_getElem? (i := 49) rfl) rfl, ⟨am_gm (List.mem_of_getElem? (i := 242) rfl) rfl, rfl, by decide +kernel⟩⟩
set_option maxRecDepth 100000 in
theorem am_g17 : am_good 17 am_m17 := ⟨2, by decide, rfl, rfl, by decide +kernel, rfl, by decide +kernel, am_gm (List.mem_of_getElem? (i := 268) rfl) rfl, am_gm (List.mem_of_getElem? (i := 50) rfl) rfl, ⟨am_gm (List.mem_of_getElem? (i := 267) rfl) rfl, rfl, by decide +kernel⟩⟩
set_option maxRecDepth 100000 in
theorem am_g18 : am_good 18 am_m18 := ⟨4, by decide, rfl, rfl, by decide +kernel, rfl, by decide +kernel, am_gm (List.mem_of_getElem? (i := 284) rfl) rfl, am_gm (List.mem_of_getElem? (i := 51) rfl) rfl, ⟨am_gm (List.mem_of_getElem? (i := 283) rfl) rfl, rfl, by decide +kernel⟩⟩
set_option maxRecDepth 100000 in
theorem am_g19 : am_good 19 am_m19 := ⟨7, by decide, rfl, rfl, by decide +kernel, rfl, by decide +kernel, am_gm (List.mem_of_getElem? (i := 308) rfl) rfl, am_gm (List.mem_of_getElem? (i := 52) rfl) rfl, ⟨am_gm (List.mem_of_getElem? (i := 307) rfl) rfl, rfl, by decide +kernel⟩⟩
set_option maxRecDepth 100000 in
theorem am_g20 : am_good 20 am_m20 := ⟨5, by decide, rfl, rfl, by decide +kernel, rfl, by decide +kernel, am_gm (List.mem_of_getElem? (i := 373) rfl) rfl, am_gm (List.mem_of_getElem? (i := 53) rfl) rfl, ⟨am_gm (List.mem_of_getElem? (i := 372) rfl) rfl, rfl, by decide +kernel⟩⟩
set_option maxRecDepth 100000 in
theorem am_g21 : am_good 21 am_m21 := ⟨9, by decide, rfl, rfl, by decide +kernel, rfl, by decide +kernel, am_gm (List.mem_of_getElem? (i := 463) rfl) rfl, am_gm (List.mem_of_getElem? (i := 42) rfl) rfl, ⟨am_gm (List.mem_of_getElem? (i := 461) rfl) rfl, am_gm (List.mem_of_getElem? (i := 462) rfl) rfl, by decide +kernel⟩⟩
set_option maxRecDepth 100000 in
theorem am_g22 : am_good 22 am_m22 := ⟨9, by decide, rfl, rfl, by decide +kernel, rfl, by decide +kernel, am_gm (List.mem_of_getElem? (i := 466) rfl) rfl, am_gm (List.mem_of_getElem? (i := 42) rfl) rfl, ⟨am_gm (List.mem_of_getElem? (i := 465) rfl) rfl, by decide +kernel⟩⟩
set_option maxRecDepth 100000 in
theorem am_g23 : am_good 23 am_m23 := ⟨9, by decide, rfl, rfl, by decide +kernel, rfl, by decide +kernel, am_gm (List.mem_of_getElem? (i := 469) rfl) rfl, am_gm (List.mem_of_getElem? (i := 42) rfl) rfl, ⟨am_gm (List.mem_of_getElem? (i := 468) rfl) rfl, by decide +kernel⟩⟩
set_option maxRecDepth 100000 in
theorem am_g24 : am_good 24 am_m24 := ⟨9, by decide, rfl, rfl, by decide +kernel, rfl, by decide +kernel, am_gm (List.mem_of_getElem? (i := 473) rfl) rfl, am_gm (List.mem_of_getElem? (i := 42) rfl) rfl, ⟨am_gm (List.mem_of_getElem? (i := 472) rfl) rfl, am_gm (List.mem_of_getElem? (i := 4) rfl) rfl, by decide +kernel⟩⟩
set_option maxRecDepth 100000 in
theorem am_g25 : am_good 25 am_m25 := ⟨6, by decide, rfl, rfl, by decide +kernel, rfl, by decide +kernel, am_gm (List.mem_of_getElem? (i := 477) rfl) rfl, am_gm (List.mem_of_getElem? (i := 46) rfl) rfl, ⟨am_gm (List.mem_of_getElem? (i := 475) rfl) rfl, am_gm (List.mem_of_getElem? (i := 476) rfl) rfl, by decide +kernel⟩⟩
set_option maxRecDepth 100000 in
theorem am_g26 : am_good 26 am_m26 := ⟨9, by decide, rfl, rfl, by decide +kernel, rfl, by decide +kernel, am_gm (List.mem_of_getElem? (i := 482) rfl) rfl, am_gm (List.mem_of_getElem? (i := 42) rfl) rfl, ⟨am_gm (List.mem_of_getElem? (i := 480) rfl) rfl, am_gm (List.mem_of_getElem? (i := 481) rfl) rfl, by decide +kernel⟩⟩
set_option maxRecDepth 100000 in
theorem am_g27 : am_good 27 am_m27 := ⟨6, by decide, rfl, rfl, by decide +kernel, rfl, by decide +kernel, am_gm (List.mem_of_getElem? (i := 486) rfl) rfl, am_gm (List.mem_of_getElem? (i := 46) rfl) rfl, ⟨am_gm (List.mem_of_getElem? (i := 484) rfl) rfl, am_gm (List.mem_of_getElem? (i := 485) rfl) rfl, by decide +kernel⟩⟩
set_option maxRecDepth 100000 in
theorem am_g28 : am_good 28 am_m28 := ⟨6, by decide, rfl, rfl, by decide +kernel, rfl, by decide +kernel, am_gm (List.mem_of_getElem? (i := 490) rfl) rfl, am_gm (List.mem_of_getElem? (i := 46) rfl) rfl, ⟨am_gm (List.mem_of_getElem? (i := 488) rfl) rfl, am_gm (List.mem_of_getElem? (i := 489) rfl) rfl, by decide +kernel⟩⟩
set_option maxRecDepth 100000 in
theorem am_g29 : am_good 29 am_m29 := ⟨6, by decide, rfl, rfl, by decide +kernel, rfl, by decide +kernel, am_gm (List.mem_of_getElem? (i := 494) rfl) rfl, am_gm (List.mem_of_getElem? (i := 46) rfl) rfl, ⟨am_gm (List.mem_of_getElem? (i := 492) rfl) rfl, am_gm (List.mem_of_getElem? (i := 493) rfl) rfl, by decide +kernel⟩⟩
set_option maxRecDepth 100000 in
theorem am_g30 : am_good 30 am_m30 := ⟨9, by decide, rfl, rfl, by decide +kernel, rfl, by decide +kernel, am_gm (List.mem_of_getElem? (i := 498) rfl) rfl, am_gm (List.mem_of_getElem? (i := 42) rfl) rfl, ⟨am_gm (List.mem_of_getElem? (i := 497) rfl) rfl, am_gm (List.mem_of_getElem? (i := 5) rfl) rfl, by decide +kernel⟩⟩
set_option maxRecDepth 100000 in
theorem am_g31 : am_good 31 am_m31 := ⟨9, by decide, rfl, rfl, by decide +kernel, rfl, by decide +kernel, am_gm (List.mem_of_getElem? (i := 502) rfl) rfl, am_gm (List.mem_of_getElem? (i := 42) rfl) rfl, ⟨am_gm (List.mem_of_getElem? (i := 500) rfl) rfl, am_gm (List.mem_of_getElem? (i := 501) rfl) rfl, by decide +kernel⟩⟩
set_option maxRecDepth 100000 in
theorem am_g32 : am_good 32 am_m32 := ⟨9, by decide, rfl, rfl, by decide +kernel, rfl, by decide +kernel, am_gm (List.mem_of_getElem? (i := 469) rfl) rfl, am_gm (List.mem_of_getElem? (i := 42) rfl) rfl, ⟨am_gm (List.mem_of_getElem? (i := 468) rfl) rfl, by decide +kernel⟩⟩
set_option maxRecDepth 100000 in
theorem am_g33 : am_good 33 am_m33 := ⟨9, by decide, rfl, rfl, by decide +kernel, rfl, by decide +kernel, am_gm (List.mem_of_getElem? (i := 469) rfl) rfl, am_gm (List.mem_of_getElem? (i := 42) rfl) rfl, ⟨am_gm (List.mem_of_getElem? (i := 468) rfl) rfl, by decide +kernel⟩⟩
set_option maxRecDepth 100000 in
theorem am_g34 : am_good 34 am_m34 := ⟨9, by decide, rfl, rfl, by decide +kernel, rfl, by decide +kernel, am_gm (List.mem_of_getElem? (i := 469) rfl) rfl, am_gm (List.mem_of_getElem? (i := 42) rfl) rfl, ⟨am_gm (List.mem_of_getElem? (i := 468) rfl) rfl, by decide +kernel⟩⟩
set_option maxRecDepth 100000 in
theorem am_g35 : am_good 35 am_m35 := ⟨9, by decide, rfl, rfl, by decide +kernel, rfl, by decide +kernel, am_gm (List.mem_of_getElem? (i := 469) rfl) rfl, am_gm (List.mem_of_getElem? (i := 42) rfl) rfl, ⟨am_gm (List.mem_of_getElem? (i := 468) rfl) rfl, by decide +kernel⟩⟩
set_option maxRecDepth 100000 in
theorem am_g36 : am_good 36 am_m36 := ⟨9, by decide, rfl, rfl, by decide +kernel, rfl, by decide +kernel, am_gm (List.mem_of_getElem? (i := 469) rfl) rfl, am_gm (List.mem_of_getElem? (i := 42) rfl) rfl, ⟨am_gm (List.mem_of_getElem? (i := 468) rfl) rfl, by decide +kernel⟩⟩
set_option maxRecDepth 100000 in
theorem am_g37 : am_good 37 am_m37 := ⟨9, by decide, rfl, rfl, by decide +kernel, rfl, by decide +kernel, am_gm (List.mem_of_getElem? (i := 899) rfl) rfl, am_gm (List.mem_of_getElem? (i := 42) rfl) rfl, ⟨am_gm (List.mem_of_getElem? (i := 897) rfl) rfl, am_gm (List.mem_of_getElem? (i := 898) rfl) rfl, by decide +kernel⟩⟩
set_option maxRecDepth 100000 in
theorem am_g38 : am_good 38 am_m38 := ⟨9, by decide, rfl, rfl, by decide +kernel, rfl, by decide +kernel, am_gm (List.mem_of_getElem? (i := 902) rfl) rfl, am_gm (List.mem_of_getElem? (i := 42) rfl) rfl, ⟨am_gm (List.mem_of_getElem? (i := 901) rfl) rfl, by decide +kernel⟩⟩
set_option maxRecDepth 100000 in
theorem am_g39 : am_good 39 am_m39 := ⟨9, by decide, rfl, rfl, by decide +kernel, rfl, by decide +kernel, am_gm (List.mem_of_getElem? (i := 906) rfl) rfl, am_gm (List.mem_of_getElem? (i := 42) rfl) rfl, ⟨am_gm (List.mem_of_getElem? (i := 904) rfl) rfl, am_gm (List.mem_of_getElem? (i := 905) rfl) rfl, by decide +kernel⟩⟩
set_option maxRecDepth 100000 in
theorem am_g40 : am_good 40 am_m40 := ⟨9, by decide, rfl, rfl, by decide +kernel, rfl, by decide +kernel, am_gm (List.mem_of_getElem? (i := 910) rfl) rfl, am_gm (List.mem_of_getElem? (i := 42) rfl) rfl, ⟨am_gm (List.mem_of_getElem? (i := 908) rfl) rfl, am_gm (List.mem_of_getElem? (i := 909) rfl) rfl, by decide +kernel⟩⟩
set_option maxRecDepth 100000 in
theorem am_g41 : am_good 41 am_m41 := ⟨3, by decide, rfl, rfl, by decide +kernel, rfl, by decide +kernel, am_gm (List.mem_of_getElem? (i := 914) rfl) rfl, am_gm (List.mem_of_getElem? (i := 45) rfl) rfl, ⟨am_gm (List.mem_of_getElem? (i := 912) rfl) rfl, am_gm (List.mem_of_getElem? (i := 913) rfl) rfl, by decide +kernel⟩⟩
set_option maxRecDepth 100000 in
theorem am_g42 : am_good 42 am_m42 := ⟨3, by decide, rfl, rfl, by decide +kernel, rfl, by decide +kernel, am_gm (List.mem_of_getElem? (i := 919) rfl) rfl, am_gm (List.mem_of_getElem? (i := 45) rfl) rfl, ⟨am_gm (List.mem_of_getElem? (i := 918) rfl) rfl, am_gm (List.mem_of_getElem? (i := 33) rfl) rfl, by decide +kernel⟩⟩
set_option maxRecDepth 100000 in
theorem am_g43 : am_good 43 am_m43 := ⟨3, by decide, rfl, rfl, by decide +kernel, rfl, by decide +kernel, am_gm (List.mem_of_getElem? (i := 923) rfl) rfl, am_gm (List.mem_of_getElem? (i := 45) rfl) rfl, ⟨am_gm (List.mem_of_getElem? (i := 922) rfl) rfl, am_gm (List.mem_of_getElem? (i := 34) rfl) rfl, by decide +kernel⟩⟩
set_option maxRecDepth 100000 in
theorem am_g44 : am_good 44 am_m44 := ⟨3, by decide, rfl, rfl, by decide +kernel, rfl, by decide +kernel, am_gm (List.mem_of_getElem? (i := 928) rfl) rfl, am_gm (List.mem_of_getElem? (i := 45) rfl) rfl, ⟨am_gm (List.mem_of_getElem? (i := 927) rfl) rfl, am_gm (List.mem_of_getElem? (i := 35) rfl) rfl, by decide +kernel⟩⟩
set_option maxRecDepth 100000 in
theorem am_g45 : am_good 45 am_m45 := ⟨3, by decide, rfl, rfl, by decide +kernel, rfl, by decide +kernel, am_gm (List.mem_of_getElem? (i := 932) rfl) rfl, am_gm (List.mem_of_getElem? (i := 45) rfl) rfl, ⟨am_gm (List.mem_of_getElem? (i := 931) rfl) rfl, am_gm (List.mem_of_getElem? (i := 36) rfl) rfl, by decide +kernel⟩⟩
set_option maxRecDepth 100000 in
theorem am_g46 : am_good 46 am_m46 := ⟨3, by decide, rfl, rfl, by decide +kernel, rfl, by decide +kernel, am_gm (List.mem_of_getElem? (i := 936) rfl) rfl, am_gm (List.mem_of_getElem? (i := 45) rfl) rfl, ⟨am_gm (List.mem_of_getElem? (i := 935) rfl) rfl, am_gm (List.mem_of_getElem? (i := 37) rfl) rfl, by decide +kernel⟩⟩
set_option maxRecDepth 100000 in
theorem am_g47 : am_good 47 am_m47 := ⟨3, by decide, rfl, rfl, by decide +kernel, rfl, by decide +kernel, am_gm (List.mem_of_getElem? (i := 940) rfl) rfl, am_gm (List.mem_of_getElem? (i := 45) rfl) rfl, ⟨am_gm (List.mem_of_getElem? (i := 939) rfl) rfl, am_gm (List.mem_of_getElem? (i := 38) rfl) rfl, by decide +kernel⟩⟩
set_option maxRecDepth 100000 in
theorem am_g48 : am_good 48 am_m48 := ⟨3, by decide, rfl, rfl, by decide +kernel, rfl, by decide +kernel, am_gm (List.mem_of_getElem? (i := 944) rfl) rfl, am_gm (List.mem_of_getElem? (i := 45) rfl) rfl, ⟨am_gm (List.mem_of_getElem? (i := 943) rfl) rfl, am_gm (List.mem_of_getElem? (i := 39) rfl) rfl, by decide +kernel⟩⟩
set_option maxRecDepth 100000 in
theorem am_g49 : am_good 49 am_m49 := ⟨3, by decide, rfl, rfl, by decide +kernel, rfl, by decide +kernel, am_gm (List.mem_of_getElem? (i := 948) rfl) rfl, am_gm (List.mem_of_getElem? (i := 45) rfl) rfl, ⟨am_gm (List.mem_of_getElem? (i := 947) rfl) rfl, am_gm (List.mem_of_getElem? (i := 40) rfl) rfl, by decide +kernel⟩⟩
set_option maxRecDepth 100000 in
theorem am_g50 : am_good 50 am_m50 := ⟨8, by decide, rfl, rfl, by decide +kernel, rfl, by decide +kernel, am_gm (List.mem_of_getElem? (i := 952) rfl) rfl, am_gm (List.mem_of_getElem? (i := 43) rfl) rfl, ⟨am_gm (List.mem_of_getElem? (i := 950) rfl) rfl, am_gm (List.mem_of_getElem? (i := 951) rfl) rfl, by decide +kernel⟩⟩
set_option maxRecDepth 100000 in
theorem am_g51 : am_good 51 am_m51 := ⟨9, by decide, rfl, rfl, by decide +kernel, rfl, by decide +kernel, am_gm (List.mem_of_getElem? (i := 956) rfl) rfl, am_gm (List.mem_of_getElem? (i := 42) rfl) rfl, ⟨am_gm (List.mem_of_getElem? (i := 954) rfl) rfl, am_gm (List.mem_of_getElem? (i := 955) rfl) rfl, by decide +kernel⟩⟩
set_option maxRecDepth 100000 in
theorem am_g52 : am_good 52 am_m52 := ⟨8, by decide, rfl, rfl, by decide +kernel, rfl, by decide +kernel, am_gm (List.mem_of_getElem? (i := 960) rfl) rfl, am_gm (List.mem_of_getElem? (i := 43) rfl) rfl, ⟨am_gm (List.mem_of_getElem? (i := 958) rfl) rfl, am_gm (List.mem_of_getElem? (i := 959) rfl) rfl, by decide +kernel⟩⟩
set_option maxRecDepth 100000 in
theorem am_g53 : am_good 53 am_m53 := ⟨4, by decide, rfl, rfl, by decide +kernel, rfl, by decide +kernel, am_gm (List.mem_of_getElem? (i := 966) rfl) rfl, am_gm (List.mem_of_getElem? (i := 51) rfl) rfl, ⟨am_gm (List.mem_of_getElem? (i := 964) rfl) rfl, am_gm (List.mem_of_getElem? (i := 965) rfl) rfl, by decide +kernel⟩⟩
set_option maxRecDepth 100000 in
theorem am_g54 : am_good 54 am_m54 := ⟨7, by decide, rfl, rfl, by decide +kernel, rfl, by decide +kernel, am_gm (List.mem_of_getElem? (i := 521) rfl) rfl, am_gm (List.mem_of_getElem? (i := 52) rfl) rfl, ⟨am_gm (List.mem_of_getElem? (i := 519) rfl) rfl, am_gm (List.mem_of_getElem? (i := 520) rfl) rfl, by decide +kernel⟩⟩
set_option maxRecDepth 100000 in
theorem am_g55 : am_good 55 am_m55 := ⟨9, by decide, rfl, rfl, by decide +kernel, rfl, by decide +kernel, am_gm (List.mem_of_getElem? (i := 469) rfl) rfl, am_gm (List.mem_of_getElem? (i := 42) rfl) rfl, ⟨am_gm (List.mem_of_getElem? (i := 468) rfl) rfl, by decide +kernel⟩⟩
set_option maxRecDepth 100000 in
theorem am_g56 : am_good 56 am_m56 := ⟨9, by decide, rfl, rfl, by decide +kernel, rfl, by decide +kernel, am_gm (List.mem_of_getElem? (i := 772) rfl) rfl, am_gm (List.mem_of_getElem? (i := 42) rfl) rfl, ⟨am_gm (List.mem_of_getElem? (i := 771) rfl) rfl, am_gm (List.mem_of_getElem? (i := 27) rfl) rfl, by decide +kernel⟩⟩
set_option maxRecDepth 100000 in
theorem am_g57 : am_good 57 am_m57 := ⟨9, by decide, rfl, rfl, by decide +kernel, rfl, by decide +kernel, am_gm (List.mem_of_getElem? (i := 538) rfl) rfl, am_gm (List.mem_of_getElem? (i := 42) rfl) rfl, ⟨am_gm (List.mem_of_getElem? (i := 537) rfl) rfl, by decide +kernel⟩⟩
set_option maxRecDepth 100000 in
theorem am_g58 : am_good 58 am_m58 := ⟨9, by decide, rfl, rfl, by decide +kernel, rfl, by decide +kernel, am_gm (List.mem_of_getElem? (i := 469) rfl) rfl, am_gm (List.mem_of_getElem? (i := 42) rfl) rfl, ⟨am_gm (List.mem_of_getElem? (i := 468) rfl) rfl, by decide +kernel⟩⟩
set_option maxRecDepth 100000 in
theorem am_g59 : am_good 59 am_m59 := ⟨9, by decide, rfl, rfl, by decide +kernel, rfl, by decide +kernel, am_gm (List.mem_of_getElem? (i := 506) rfl) rfl, am_gm (List.mem_of_getElem? (i := 42) rfl) rfl, ⟨am_gm (List.mem_of_getElem? (i := 504) rfl) rfl, am_gm (List.mem_of_getElem? (i := 505) rfl) rfl, by decide +kernel⟩⟩
set_option maxRecDepth 100000 in
theorem am_g60 : am_good 60 am_m60 := ⟨9, by decide, rfl, rfl, by decide +kernel, rfl, by decide +kernel, am_gm (List.mem_of_getElem? (i := 469) rfl) rfl, am_gm (List.mem_of_getElem? (i := 42) rfl) rfl, ⟨am_gm (List.mem_of_getElem? (i := 468) rfl) rfl, by decide +kernel⟩⟩
set_option maxRecDepth 100000 in
theorem am_g61 : am_good 61 am_m61 := ⟨9, by decide, rfl, rfl, by decide +kernel, rfl, by decide +kernel, am_gm (List.mem_of_getElem? (i := 510) rfl) rfl, am_gm (List.mem_of_getElem? (i := 42) rfl) rfl, ⟨am_gm (List.mem_of_getElem? (i := 508) rfl) rfl, am_gm (List.mem_of_getElem? (i := 509) rfl) rfl, by decide +kernel⟩⟩
set_option maxRecDepth 100000 in
theorem am_g62 : am_good 62 am_m62 := ⟨9, by decide, rfl, rfl, by decide +kernel, rfl, by decide +kernel, am_gm (List.mem_of_getElem? (i := 513) rfl) rfl, am_gm (List.mem_of_getElem? (i := 42) rfl) rfl, ⟨am_gm (List.mem_of_getElem? (i := 512) rfl) rfl, by decide +kernel⟩⟩
set_option maxRecDepth 100000 in
theorem am_g63 : am_good 63 am_m63 := ⟨6, by decide, rfl, rfl, by decide +kernel, rfl, by decide +kernel, am_gm (List.mem_of_getElem? (i := 517) rfl) rfl, am_gm (List.mem_of_getElem? (i := 46) rfl) rfl, ⟨am_gm (List.mem_of_getElem? (i := 515) rfl) rfl, am_gm (List.mem_of_getElem? (i := 516) rfl) rfl, by decide +kernel⟩⟩
set_option maxRecDepth 100000 in
theorem am_g64 : am_good 64 am_m64 := ⟨1, by decide, rfl, rfl, by decide +kernel, rfl, by decide +kernel, am_gm (List.mem_of_getElem? (i := 525) rfl) rfl, am_gm (List.mem_of_getElem? (i := 49) rfl) rfl, ⟨am_gm (List.mem_of_getElem? (i := 523) rfl) rfl, am_gm (List.mem_of_getElem? (i := 524) rfl) rfl, by decide +kernel⟩⟩
set_option maxRecDepth 100000 in
theorem am_g65 : am_good 65 am_m65 := ⟨9, by decide, rfl, rfl, by decide +kernel, rfl, by decide +kernel, am_gm (List.mem_of_getElem? (i := 469) rfl) rfl, am_gm (List.mem_of_getElem? (i := 42) rfl) rfl, ⟨am_gm (List.mem_of_getElem? (i := 468) rfl) rfl, by decide +kernel⟩⟩
set_option maxRecDepth 100000 in
theorem am_g66 : am_good 66 am_m66 := ⟨9, by decide, rfl, rfl, by decide +kernel, rfl, by decide +kernel, am_gm (List.mem_of_getElem? (i := 554) rfl) rfl, am_gm (List.mem_of_getElem? (i := 42) rfl) rfl, ⟨am_gm (List.mem_of_getElem? (i := 553) rfl) rfl, am_gm (List.mem_of_getElem? (i := 6) rfl) rfl, by decide +kernel⟩⟩
set_option maxRecDepth 100000 in
theorem am_g67 : am_good 67 am_m67 := ⟨9, by decide, rfl, rfl, by decide +kernel, rfl, by decide +kernel, am_gm (List.mem_of_getElem? (i := 469) rfl) rfl, am_gm (List.mem_of_getElem? (i := 42) rfl) rfl, ⟨am_gm (List.mem_of_getElem? (i := 468) rfl) rfl, by decide +kernel⟩⟩
set_option maxRecDepth 100000 in
theorem am_g68 : am_good 68 am_m68 := ⟨9, by decide, rfl, rfl, by decide +kernel, rfl, by decide +kernel, am_gm (List.mem_of_getElem? (i := 469) rfl) rfl, am_gm (List.mem_of_getElem? (i := 42) rfl) rfl, ⟨am_gm (List.mem_of_getElem? (i := 468) rfl) rfl, by decide +kernel⟩⟩
set_option maxRecDepth 100000 in
theorem am_g69 : am_good 69 am_m69 := ⟨9, by decide, rfl, rfl, by decide +kernel, rfl, by decide +kernel, am_gm (List.mem_of_getElem? (i := 530) rfl) rfl, am_gm (List.mem_of_getElem? (i := 42) rfl) rfl, ⟨am_gm (List.mem_of_getElem? (i := 528) rfl) rfl, am_gm (List.mem_of_getElem? (i := 529) rfl) rfl, by decide +kernel⟩⟩
set_option maxRecDepth 100000 in
theorem am_g70 : am_good 70 am_m70 := ⟨9, by decide, rfl, rfl, by decide +kernel, rfl, by decide +kernel, am_gm (List.mem_of_getElem? (i := 534) rfl) rfl, am_gm (List.mem_of_getElem? (i := 42) rfl) rfl, ⟨am_gm (List.mem_of_getElem? (i := 532) rfl) rfl, am_gm (List.mem_of_getElem? (i := 533) rfl) rfl, by decide +kernel⟩⟩
set_option maxRecDepth 100000 in
theorem am_g71 : am_good 71 am_m71 := ⟨0, by decide, rfl, rfl, by decide +kernel, rfl, by decide +kernel, am_gm (List.mem_of_getElem? (i := 542) rfl) rfl, am_gm (List.mem_of_getElem? (i := 47) rfl) rfl, ⟨am_gm (List.mem_of_getElem? (i := 540) rfl) rfl, am_gm (List.mem_of_getElem? (i := 541) rfl) rfl, by decide +kernel⟩⟩
set_option maxRecDepth 100000 in
theorem am_g72 : am_good 72 am_m72 := ⟨8, by decide, rfl, rfl, by decide +kernel, rfl, by decide +kernel, am_gm (List.mem_of_getElem? (i := 546) rfl) rfl, am_gm (List.mem_of_getElem? (i := 43) rfl) rfl, ⟨am_gm (List.mem_of_getElem? (i := 544) rfl) rfl, am_gm (List.mem_of_getElem? (i := 545) rfl) rfl, by decide +kernel⟩⟩
set_option maxRecDepth 100000 in
theorem am_g73 : am_good 73 am_m73 := ⟨9, by decide, rfl, rfl, by decide +kernel, rfl, by decide +kernel, am_gm (List.mem_of_getElem? (i := 550) rfl) rfl, am_gm (List.mem_of_getElem? (i := 42) rfl) rfl, ⟨am_gm (List.mem_of_getElem? (i := 548) rfl) rfl, am_gm (List.mem_of_getElem? (i := 549) rfl) rfl, by decide +kernel⟩⟩
set_option maxRecDepth 100000 in
theorem am_g74 : am_good 74 am_m74 := ⟨2, by decide, rfl, rfl, by decide +kernel, rfl, by decide +kernel, am_gm (List.mem_of_getElem? (i := 558) rfl) rfl, am_gm (List.mem_of_getElem? (i := 50) rfl) rfl, ⟨am_gm (List.mem_of_getElem? (i := 556) rfl) rfl, am_gm (List.mem_of_getElem? (i := 557) rfl) rfl, by decide +kernel⟩⟩
set_option maxRecDepth 100000 in
theorem am_g75 : am_good 75 am_m75 := ⟨2, by decide, rfl, rfl, by decide +kernel, rfl, by decide +kernel, am_gm (List.mem_of_getElem? (i := 562) rfl) rfl, am_gm (List.mem_of_getElem? (i := 50) rfl) rfl, ⟨am_gm (List.mem_of_getElem? (i := 561) rfl) rfl, am_gm (List.mem_of_getElem? (i := 7) rfl) rfl, by decide +kernel⟩⟩
set_option maxRecDepth 100000 in
theorem am_g76 : am_good 76 am_m76 := ⟨2, by decide, rfl, rfl, by decide +kernel, rfl, by decide +kernel, am_gm (List.mem_of_getElem? (i := 566) rfl) rfl, am_gm (List.mem_of_getElem? (i := 50) rfl) rfl, ⟨am_gm (List.mem_of_getElem? (i := 565) rfl) rfl, am_gm (List.mem_of_getElem? (i := 8) rfl) rfl, by decide +kernel⟩⟩
set_option maxRecDepth 100000 in
theorem am_g77 : am_good 77 am_m77 := ⟨1, by decide, rfl, rfl, by decide +kernel, rfl, by decide +kernel, am_gm (List.mem_of_getElem? (i := 570) rfl) rfl, am_gm (List.mem_of_getElem? (i := 49) rfl) rfl, ⟨am_gm (List.mem_of_getElem? (i := 568) rfl) rfl, am_gm (List.mem_of_getElem? (i := 569) rfl) rfl, by decide +kernel⟩⟩
set_option maxRecDepth 100000 in
theorem am_g78 : am_good 78 am_m78 := ⟨1, by decide, rfl, rfl, by decide +kernel, rfl, by decide +kernel, am_gm (List.mem_of_getElem? (i := 574) rfl) rfl, am_gm (List.mem_of_getElem? (i := 49) rfl) rfl, ⟨am_gm (List.mem_of_getElem? (i := 572) rfl) rfl, am_gm (List.mem_of_getElem? (i := 573) rfl) rfl, by decide +kernel⟩⟩
set_option maxRecDepth 100000 in
theorem am_g79 : am_good 79 am_m79 := ⟨2, by decide, rfl, rfl, by decide +kernel, rfl, by decide +kernel, am_gm (List.mem_of_getElem? (i := 579) rfl) rfl, am_gm (List.mem_of_getElem? (i := 50) rfl) rfl, ⟨am_gm (List.mem_of_getElem? (i := 578) rfl) rfl, am_gm (List.mem_of_getElem? (i := 9) rfl) rfl, by decide +kernel⟩⟩
set_option maxRecDepth 100000 in
theorem am_g80 : am_good 80 am_m80 := ⟨2, by decide, rfl, rfl, by decide +kernel, rfl, by decide +kernel, am_gm (List.mem_of_getElem? (i := 583) rfl) rfl, am_gm (List.mem_of_getElem? (i := 50) rfl) rfl, ⟨am_gm (List.mem_of_getElem? (i := 582) rfl) rfl, am_gm (List.mem_of_getElem? (i := 10) rfl) rfl, by decide +kernel⟩⟩
set_option maxRecDepth 100000 in
theorem am_g81 : am_good 81 am_m81 := ⟨2, by decide, rfl, rfl, by decide +kernel, rfl, by decide +kernel, am_gm (List.mem_of_getElem? (i := 587) rfl) rfl, am_gm (List.mem_of_getElem? (i := 50) rfl) rfl, ⟨am_gm (List.mem_of_getElem? (i := 585) rfl) rfl, am_gm (List.mem_of_getElem? (i := 586) rfl) rfl, by decide +kernel⟩⟩
set_option maxRecDepth 100000 in
theorem am_g82 : am_good 82 am_m82 := ⟨9, by decide, rfl, rfl, by decide +kernel, rfl, by decide +kernel, am_gm (List.mem_of_getElem? (i := 591) rfl) rfl, am_gm (List.mem_of_getElem? (i := 42) rfl) rfl, ⟨am_gm (List.mem_of_getElem? (i := 589) rfl) rfl, am_gm (List.mem_of_getElem? (i := 590) rfl) rfl, by decide +kernel⟩⟩
set_option maxRecDepth 100000 in
theorem am_g83 : am_good 83 am_m83 := ⟨2, by decide, rfl, rfl, by decide +kernel, rfl, by decide +kernel, am_gm (List.mem_of_getElem? (i := 595) rfl) rfl, am_gm (List.mem_of_getElem? (i := 50) rfl) rfl, ⟨am_gm (List.mem_of_getElem? (i := 593) rfl) rfl, am_gm (List.mem_of_getElem? (i := 594) rfl) rfl, by decide +kernel⟩⟩
set_option maxRecDepth 100000 in
theorem am_g84 : am_good 84 am_m84 := ⟨2, by decide, rfl, rfl, by decide +kernel, rfl, by decide +kernel, am_gm (List.mem_of_getElem? (i := 599) rfl) rfl, am_gm (List.mem_of_getElem? (i := 50) rfl) rfl, ⟨am_gm (List.mem_of_getElem? (i := 597) rfl) rfl, am_gm (List.mem_of_getElem? (i := 598) rfl) rfl, by decide +kernel⟩⟩
set_option maxRecDepth 100000 in
theorem am_g85 : am_good 85 am_m85 := ⟨9, by decide, rfl, rfl, by decide +kernel, rfl, by decide +kernel, am_gm (List.mem_of_getElem? (i := 604) rfl) rfl, am_gm (List.mem_of_getElem? (i := 42) rfl) rfl, ⟨am_gm (List.mem_of_getElem? (i := 602) rfl) rfl, am_gm (List.mem_of_getElem? (i := 603) rfl) rfl, by decide +kernel⟩⟩
set_option maxRecDepth 100000 in
theorem am_g86 : am_good 86 am_m86 := ⟨2, by decide, rfl, rfl, by decide +kernel, rfl, by decide +kernel, am_gm (List.mem_of_getElem? (i := 608) rfl) rfl, am_gm (List.mem_of_getElem? (i := 50) rfl) rfl, ⟨am_gm (List.mem_of_getElem? (i := 606) rfl) rfl, am_gm (List.mem_of_getElem? (i := 607) rfl) rfl, by decide +kernel⟩⟩
set_option maxRecDepth 100000 in
theorem am_g87 : am_good 87 am_m87 := ⟨9, by decide, rfl, rfl, by decide +kernel, rfl, by decide +kernel, am_gm (List.mem_of_getElem? (i := 612) rfl) rfl, am_gm (List.mem_of_getElem? (i := 42) rfl) rfl, ⟨am_gm (List.mem_of_getElem? (i := 610) rfl) rfl, am_gm (List.mem_of_getElem? (i := 611) rfl) rfl, by decide +kernel⟩⟩
set_option maxRecDepth 100000 in
theorem am_g88 : am_good 88 am_m88 := ⟨2, by decide, rfl, rfl, by decide +kernel, rfl, by decide +kernel, am_gm (List.mem_of_getElem? (i := 616) rfl) rfl, am_gm (List.mem_of_getElem? (i := 50) rfl) rfl, ⟨am_gm (List.mem_of_getElem? (i := 614) rfl) rfl, am_gm (List.mem_of_getElem? (i := 615) rfl) rfl, by decide +kernel⟩⟩
set_option maxRecDepth 100000 in
theorem am_g89 : am_good 89 am_m89 := ⟨2, by decide, rfl, rfl, by decide +kernel, rfl, by decide +kernel, am_gm (List.mem_of_getElem? (i := 620) rfl) rfl, am_gm (List.mem_of_getElem? (i := 50) rfl) rfl, ⟨am_gm (List.mem_of_getElem? (i := 619) rfl) rfl, am_gm (List.mem_of_getElem? (i := 11) rfl) rfl, by decide +kernel⟩⟩
set_option maxRecDepth 100000 in
theorem am_g90 : am_good 90 am_m90 := ⟨9, by decide, rfl, rfl, by decide +kernel, rfl, by decide +kernel, am_gm (List.mem_of_getElem? (i := 627) rfl) rfl, am_gm (List.mem_of_getElem? (i := 42) rfl) rfl, ⟨am_gm (List.mem_of_getElem? (i := 625) rfl) rfl, am_gm (List.mem_of_getElem? (i := 626) rfl) rfl, by decide +kernel⟩⟩
