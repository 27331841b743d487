set_option maxRecDepth 100000 in
theorem am_g1 : am_good 1 am_m1 := ⟨9, by decide, rfl, rfl, by decide +kernel, rfl, by decide +kernel, am_gm (List.mem_of_getElem? (i := 116) rfl) rfl, am_gm (List.mem_of_getElem? (i := 98) rfl) rfl, ⟨am_gm (List.mem_of_getElem? (i := 115) rfl) rfl, rfl, by decide +kernel⟩⟩
set_option maxRecDepth 100000 in
theorem am_g2 : am_good 2 am_m2 := ⟨8, by decide, rfl, rfl, by decide +kernel, rfl, by decide +kernel, am_gm (List.mem_of_getElem? (i := 126) rfl) rfl, am_gm (List.mem_of_getElem? (i := 99) rfl) rfl, ⟨am_gm (List.mem_of_getElem? (i := 125) rfl) rfl, rfl, by decide +kernel⟩⟩
set_option maxRecDepth 100000 in
theorem am_g3 : am_good 3 am_m3 := ⟨8, by decide, rfl, rfl, by decide +kernel, rfl, by decide +kernel, am_gm (List.mem_of_getElem? (i := 131) rfl) rfl, am_gm (List.mem_of_getElem? (i := 99) rfl) rfl, ⟨am_gm (List.mem_of_getElem? (i := 129) rfl) rfl, am_gm (List.mem_of_getElem? (i := 130) rfl) rfl, by decide +kernel⟩⟩
set_option maxRecDepth 100000 in
theorem am_g4 : am_good 4 am_m4 := ⟨12, by decide, rfl, rfl, by decide +kernel, rfl, by decide +kernel, am_gm (List.mem_of_getElem? (i := 134) rfl) rfl, am_gm (List.mem_of_getElem? (i := 100) rfl) rfl, ⟨am_gm (List.mem_of_getElem? (i := 133) rfl) rfl, by decide +kernel⟩⟩
set_option maxRecDepth 100000 in
theorem am_g5 : am_good 5 am_m5 := ⟨3, by decide, rfl, rfl, by decide +kernel, rfl, by decide +kernel, am_gm (List.mem_of_getElem? (i := 185) rfl) rfl, am_gm (List.mem_of_getElem? (i := 101) rfl) rfl, ⟨am_gm (List.mem_of_getElem? (i := 184) rfl) rfl, rfl, by decide +kernel⟩⟩
set_option maxRecDepth 100000 in
theorem am_g6 : am_good 6 am_m6 := ⟨6, by decide, rfl, rfl, by decide +kernel, rfl, by decide +kernel, am_gm (List.mem_of_getElem? (i := 191) rfl) rfl, am_gm (List.mem_of_getElem? (i := 102) rfl) rfl, ⟨am_gm (List.mem_of_getElem? (i := 190) rfl) rfl, rfl, by decide +kernel⟩⟩
set_option maxRecDepth 100000 in
theorem am_g7 : am_good 7 am_m7 := ⟨0, by decide, rfl, rfl, by decide +kernel, rfl, by decide +kernel, am_gm (List.mem_of_getElem? (i := 221) rfl) rfl, am_gm (List.mem_of_getElem? (i := 103) rfl) rfl, ⟨am_gm (List.mem_of_getElem? (i := 220) rfl) rfl, rfl, by decide +kernel⟩⟩
set_option maxRecDepth 100000 in
theorem am_g8 : am_good 8 am_m8 := ⟨0, by decide, rfl, rfl, by decide +kernel, rfl, by decide +kernel, am_gm (List.mem_of_getElem? (i := 226) rfl) rfl, am_gm (List.mem_of_getElem? (i := 103) rfl) rfl, ⟨am_gm (List.mem_of_getElem? (i := 224) rfl) rfl, am_gm (List.mem_of_getElem? (i := 225) rfl) rfl, by decide +kernel⟩⟩
set_option maxRecDepth 100000 in
theorem am_g9 : am_good 9 am_m9 := ⟨0, by decide, rfl, rfl, by decide +kernel, rfl, by decide +kernel, am_gm (List.mem_of_getElem? (i := 230) rfl) rfl, am_gm (List.mem_of_getElem? (i := 103) rfl) rfl, ⟨am_gm (List.mem_of_getElem? (i := 229) rfl) rfl, am_gm (List.mem_of_getElem? (i := 0) rfl) rfl, by decide +kernel⟩⟩
set_option maxRecDepth 100000 in
theorem am_g10 : am_good 10 am_m10 := ⟨12, by decide, rfl, rfl, by decide +kernel, rfl, by decide +kernel, am_gm (List.mem_of_getElem? (i := 233) rfl) rfl, am_gm (List.mem_of_getElem? (i := 100) rfl) rfl, ⟨am_gm (List.mem_of_getElem? (i := 232) rfl) rfl, by decide +kernel⟩⟩
set_option maxRecDepth 100000 in
theorem am_g11 : am_good 11 am_m11 := ⟨12, by decide, rfl, rfl, by decide +kernel, rfl, by decide +kernel, am_gm (List.mem_of_getElem? (i := 236) rfl) rfl, am_gm (List.mem_of_getElem? (i := 100) rfl) rfl, ⟨am_gm (List.mem_of_getElem? (i := 235) rfl) rfl, by decide +kernel⟩⟩
set_option maxRecDepth 100000 in
theorem am_g12 : am_good 12 am_m12 := ⟨0, by decide, rfl, rfl, by decide +kernel, rfl, by decide +kernel, am_gm (List.mem_of_getElem? (i := 240) rfl) rfl, am_gm (List.mem_of_getElem? (i := 103) rfl) rfl, ⟨am_gm (List.mem_of_getElem? (i := 239) rfl) rfl, am_gm (List.mem_of_getElem? (i := 1) rfl) rfl, by decide +kernel⟩⟩
set_option maxRecDepth 100000 in
theorem am_g13 : am_good 13 am_m13 := ⟨0, by decide, rfl, rfl, by decide +kernel, rfl, by decide +kernel, am_gm (List.mem_of_getElem? (i := 249) rfl) rfl, am_gm (List.mem_of_getElem? (i := 103) rfl) rfl, ⟨am_gm (List.mem_of_getElem? (i := 247) rfl) rfl, am_gm (List.mem_of_getElem? (i := 248) rfl) rfl, by decide +kernel⟩⟩
set_option maxRecDepth 100000 in
theorem am_g14 : am_good 14 am_m14 := ⟨0, by decide, rfl, rfl, by decide +kernel, rfl, by decide +kernel, am_gm (List.mem_of_getElem? (i := 253) rfl) rfl, am_gm (List.mem_of_getElem? (i := 103) rfl) rfl, ⟨am_gm (List.mem_of_getElem? (i := 252) rfl) rfl, am_gm (List.mem_of_getElem? (i := 2) rfl) rfl, by decide +kernel⟩⟩
set_option maxRecDepth 100000 in
theorem am_g15 : am_good 15 am_m15 := ⟨0, by decide, rfl, rfl, by decide +kernel, rfl, by decide +kernel, am_gm (List.mem_of_getElem? (i := 257) rfl) rfl, am_gm (List.mem_of_getElem? (i := 103) rfl) rfl, ⟨am_gm (List.mem_of_getElem? (i := 256) rfl) rfl, am_gm (List.mem_of_getElem? (i := 3) rfl) rfl, by decide +kernel⟩⟩
set_option maxRecDepth 100000 in
theorem am_g16 : am_good 16 am_m16 := ⟨1, by decide, rfl, rfl, by decide +kernel, rfl, by decide +kernel, am_gm (List.mem_of_getElem? (i := 308) rfl) rfl, am_gm (List.mem_of_getElem? (i := 105) rfl) rfl, ⟨am_gm (List.mem_of_getElem? (i := 307) rfl) rfl, rfl, by decide +kernel⟩⟩
set_option maxRecDepth 100000 in
theorem am_g17 : am_good 17 am_m17 := ⟨2, by decide, rfl, rfl, by decide +kernel, rfl, by decide +kernel, am_gm (List.mem_of_getElem? (i := 336) rfl) rfl, am_gm (List.mem_of_getElem? (i := 106) rfl) rfl, ⟨am_gm (List.mem_of_getElem? (i := 335) rfl) rfl, rfl, by decide +kernel⟩⟩
set_option maxRecDepth 100000 in
theorem am_g18 : am_good 18 am_m18 := ⟨4, by decide, rfl, rfl, by decide +kernel, rfl, by decide +kernel, am_gm (List.mem_of_getElem? (i := 352) rfl) rfl, am_gm (List.mem_of_getElem? (i := 107) rfl) rfl, ⟨am_gm (List.mem_of_getElem? (i := 351) rfl) rfl, rfl, by decide +kernel⟩⟩
set_option maxRecDepth 100000 in
theorem am_g19 : am_good 19 am_m19 := ⟨7, by decide, rfl, rfl, by decide +kernel, rfl, by decide +kernel, am_gm (List.mem_of_getElem? (i := 376) rfl) rfl, am_gm (List.mem_of_getElem? (i := 108) rfl) rfl, ⟨am_gm (List.mem_of_getElem? (i := 375) rfl) rfl, rfl, by decide +kernel⟩⟩
set_option maxRecDepth 100000 in
theorem am_g20 : am_good 20 am_m20 := ⟨5, by decide, rfl, rfl, by decide +kernel, rfl, by decide +kernel, am_gm (List.mem_of_getElem? (i := 441) rfl) rfl, am_gm (List.mem_of_getElem? (i := 109) rfl) rfl, ⟨am_gm (List.mem_of_getElem? (i := 440) rfl) rfl, rfl, by decide +kernel⟩⟩
set_option maxRecDepth 100000 in
theorem am_g21 : am_good 21 am_m21 := ⟨9, by decide, rfl, rfl, by decide +kernel, rfl, by decide +kernel, am_gm (List.mem_of_getElem? (i := 532) rfl) rfl, am_gm (List.mem_of_getElem? (i := 98) rfl) rfl, ⟨am_gm (List.mem_of_getElem? (i := 530) rfl) rfl, am_gm (List.mem_of_getElem? (i := 531) rfl) rfl, by decide +kernel⟩⟩
set_option maxRecDepth 100000 in
theorem am_g22 : am_good 22 am_m22 := ⟨9, by decide, rfl, rfl, by decide +kernel, rfl, by decide +kernel, am_gm (List.mem_of_getElem? (i := 535) rfl) rfl, am_gm (List.mem_of_getElem? (i := 98) rfl) rfl, ⟨am_gm (List.mem_of_getElem? (i := 534) rfl) rfl, by decide +kernel⟩⟩
set_option maxRecDepth 100000 in
theorem am_g23 : am_good 23 am_m23 := ⟨9, by decide, rfl, rfl, by decide +kernel, rfl, by decide +kernel, am_gm (List.mem_of_getElem? (i := 538) rfl) rfl, am_gm (List.mem_of_getElem? (i := 98) rfl) rfl, ⟨am_gm (List.mem_of_getElem? (i := 537) rfl) rfl, by decide +kernel⟩⟩
set_option maxRecDepth 100000 in
theorem am_g24 : am_good 24 am_m24 := ⟨9, by decide, rfl, rfl, by decide +kernel, rfl, by decide +kernel, am_gm (List.mem_of_getElem? (i := 542) rfl) rfl, am_gm (List.mem_of_getElem? (i := 98) rfl) rfl, ⟨am_gm (List.mem_of_getElem? (i := 541) rfl) rfl, am_gm (List.mem_of_getElem? (i := 4) rfl) rfl, by decide +kernel⟩⟩
set_option maxRecDepth 100000 in
theorem am_g25 : am_good 25 am_m25 := ⟨6, by decide, rfl, rfl, by decide +kernel, rfl, by decide +kernel, am_gm (List.mem_of_getElem? (i := 546) rfl) rfl, am_gm (List.mem_of_getElem? (i := 102) rfl) rfl, ⟨am_gm (List.mem_of_getElem? (i := 544) rfl) rfl, am_gm (List.mem_of_getElem? (i := 545) rfl) rfl, by decide +kernel⟩⟩
set_option maxRecDepth 100000 in
theorem am_g26 : am_good 26 am_m26 := ⟨9, by decide, rfl, rfl, by decide +kernel, rfl, by decide +kernel, am_gm (List.mem_of_getElem? (i := 551) rfl) rfl, am_gm (List.mem_of_getElem? (i := 98) rfl) rfl, ⟨am_gm (List.mem_of_getElem? (i := 549) rfl) rfl, am_gm (List.mem_of_getElem? (i := 550) rfl) rfl, by decide +kernel⟩⟩
set_option maxRecDepth 100000 in
theorem am_g27 : am_good 27 am_m27 := ⟨6, by decide, rfl, rfl, by decide +kernel, rfl, by decide +kernel, am_gm (List.mem_of_getElem? (i := 555) rfl) rfl, am_gm (List.mem_of_getElem? (i := 102) rfl) rfl, ⟨am_gm (List.mem_of_getElem? (i := 553) rfl) rfl, am_gm (List.mem_of_getElem? (i := 554) rfl) rfl, by decide +kernel⟩⟩
set_option maxRecDepth 100000 in
theorem am_g28 : am_good 28 am_m28 := ⟨6, by decide, rfl, rfl, by decide +kernel, rfl, by decide +kernel, am_gm (List.mem_of_getElem? (i := 559) rfl) rfl, am_gm (List.mem_of_getElem? (i := 102) rfl) rfl, ⟨am_gm (List.mem_of_getElem? (i := 557) rfl) rfl, am_gm (List.mem_of_getElem? (i := 558) rfl) rfl, by decide +kernel⟩⟩
set_option maxRecDepth 100000 in
theorem am_g29 : am_good 29 am_m29 := ⟨6, by decide, rfl, rfl, by decide +kernel, rfl, by decide +kernel, am_gm (List.mem_of_getElem? (i := 563) rfl) rfl, am_gm (List.mem_of_getElem? (i := 102) rfl) rfl, ⟨am_gm (List.mem_of_getElem? (i := 561) rfl) rfl, am_gm (List.mem_of_getElem? (i := 562) rfl) rfl, by decide +kernel⟩⟩
set_option maxRecDepth 100000 in
theorem am_g30 : am_good 30 am_m30 := ⟨9, by decide, rfl, rfl, by decide +kernel, rfl, by decide +kernel, am_gm (List.mem_of_getElem? (i := 567) rfl) rfl, am_gm (List.mem_of_getElem? (i := 98) rfl) rfl, ⟨am_gm (List.mem_of_getElem? (i := 566) rfl) rfl, am_gm (List.mem_of_getElem? (i := 5) rfl) rfl, by decide +kernel⟩⟩
set_option maxRecDepth 100000 in
theorem am_g31 : am_good 31 am_m31 := ⟨9, by decide, rfl, rfl, by decide +kernel, rfl, by decide +kernel, am_gm (List.mem_of_getElem? (i := 571) rfl) rfl, am_gm (List.mem_of_getElem? (i := 98) rfl) rfl, ⟨am_gm (List.mem_of_getElem? (i := 569) rfl) rfl, am_gm (List.mem_of_getElem? (i := 570) rfl) rfl, by decide +kernel⟩⟩
set_option maxRecDepth 100000 in
theorem am_g32 : am_good 32 am_m32 := ⟨9, by decide, rfl, rfl, by decide +kernel, rfl, by decide +kernel, am_gm (List.mem_of_getElem? (i := 575) rfl) rfl, am_gm (List.mem_of_getElem? (i := 98) rfl) rfl, ⟨am_gm (List.mem_of_getElem? (i := 573) rfl) rfl, am_gm (List.mem_of_getElem? (i := 574) rfl) rfl, by decide +kernel⟩⟩
set_option maxRecDepth 100000 in
theorem am_g33 : am_good 33 am_m33 := ⟨9, by decide, rfl, rfl, by decide +kernel, rfl, by decide +kernel, am_gm (List.mem_of_getElem? (i := 579) rfl) rfl, am_gm (List.mem_of_getElem? (i := 98) rfl) rfl, ⟨am_gm (List.mem_of_getElem? (i := 577) rfl) rfl, am_gm (List.mem_of_getElem? (i := 578) rfl) rfl, by decide +kernel⟩⟩
set_option maxRecDepth 100000 in
theorem am_g34 : am_good 34 am_m34 := ⟨6, by decide, rfl, rfl, by decide +kernel, rfl, by decide +kernel, am_gm (List.mem_of_getElem? (i := 583) rfl) rfl, am_gm (List.mem_of_getElem? (i := 102) rfl) rfl, ⟨am_gm (List.mem_of_getElem? (i := 581) rfl) rfl, am_gm (List.mem_of_getElem? (i := 582) rfl) rfl, by decide +kernel⟩⟩
set_option maxRecDepth 100000 in
theorem am_g35 : am_good 35 am_m35 := ⟨9, by decide, rfl, rfl, by decide +kernel, rfl, by decide +kernel, am_gm (List.mem_of_getElem? (i := 588) rfl) rfl, am_gm (List.mem_of_getElem? (i := 98) rfl) rfl, ⟨am_gm (List.mem_of_getElem? (i := 586) rfl) rfl, am_gm (List.mem_of_getElem? (i := 587) rfl) rfl, by decide +kernel⟩⟩
set_option maxRecDepth 100000 in
theorem am_g36 : am_good 36 am_m36 := ⟨6, by decide, rfl, rfl, by decide +kernel, rfl, by decide +kernel, am_gm (List.mem_of_getElem? (i := 592) rfl) rfl, am_gm (List.mem_of_getElem? (i := 102) rfl) rfl, ⟨am_gm (List.mem_of_getElem? (i := 590) rfl) rfl, am_gm (List.mem_of_getElem? (i := 591) rfl) rfl, by decide +kernel⟩⟩
set_option maxRecDepth 100000 in
theorem am_g37 : am_good 37 am_m37 := ⟨9, by decide, rfl, rfl, by decide +kernel, rfl, by decide +kernel, am_gm (List.mem_of_getElem? (i := 596) rfl) rfl, am_gm (List.mem_of_getElem? (i := 98) rfl) rfl, ⟨am_gm (List.mem_of_getElem? (i := 594) rfl) rfl, am_gm (List.mem_of_getElem? (i := 595) rfl) rfl, by decide +kernel⟩⟩
set_option maxRecDepth 100000 in
theorem am_g38 : am_good 38 am_m38 := ⟨9, by decide, rfl, rfl, by decide +kernel, rfl, by decide +kernel, am_gm (List.mem_of_getElem? (i := 599) rfl) rfl, am_gm (List.mem_of_getElem? (i := 98) rfl) rfl, ⟨am_gm (List.mem_of_getElem? (i := 598) rfl) rfl, by decide +kernel⟩⟩
set_option maxRecDepth 100000 in
theorem am_g39 : am_good 39 am_m39 := ⟨9, by decide, rfl, rfl, by decide +kernel, rfl, by decide +kernel, am_gm (List.mem_of_getElem? (i := 603) rfl) rfl, am_gm (List.mem_of_getElem? (i := 98) rfl) rfl, ⟨am_gm (List.mem_of_getElem? (i := 601) rfl) rfl, am_gm (List.mem_of_getElem? (i := 602) rfl) rfl, by decide +kernel⟩⟩
set_option maxRecDepth 100000 in
theorem am_g40 : am_good 40 am_m40 := ⟨9, by decide, rfl, rfl, by decide +kernel, rfl, by decide +kernel, am_gm (List.mem_of_getElem? (i := 607) rfl) rfl, am_gm (List.mem_of_getElem? (i := 98) rfl) rfl, ⟨am_gm (List.mem_of_getElem? (i := 605) rfl) rfl, am_gm (List.mem_of_getElem? (i := 606) rfl) rfl, by decide +kernel⟩⟩
set_option maxRecDepth 100000 in
theorem am_g41 : am_good 41 am_m41 := ⟨3, by decide, rfl, rfl, by decide +kernel, rfl, by decide +kernel, am_gm (List.mem_of_getElem? (i := 611) rfl) rfl, am_gm (List.mem_of_getElem? (i := 101) rfl) rfl, ⟨am_gm (List.mem_of_getElem? (i := 609) rfl) rfl, am_gm (List.mem_of_getElem? (i := 610) rfl) rfl, by decide +kernel⟩⟩
set_option maxRecDepth 100000 in
theorem am_g42 : am_good 42 am_m42 := ⟨3, by decide, rfl, rfl, by decide +kernel, rfl, by decide +kernel, am_gm (List.mem_of_getElem? (i := 616) rfl) rfl, am_gm (List.mem_of_getElem? (i := 101) rfl) rfl, ⟨am_gm (List.mem_of_getElem? (i := 615) rfl) rfl, am_gm (List.mem_of_getElem? (i := 6) rfl) rfl, by decide +kernel⟩⟩
set_option maxRecDepth 100000 in
theorem am_g43 : am_good 43 am_m43 := ⟨3, by decide, rfl, rfl, by decide +kernel, rfl, by decide +kernel, am_gm (List.mem_of_getElem? (i := 620) rfl) rfl, am_gm (List.mem_of_getElem? (i := 101) rfl) rfl, ⟨am_gm (List.mem_of_getElem? (i := 619) rfl) rfl, am_gm (List.mem_of_getElem? (i := 7) rfl) rfl, by decide +kernel⟩⟩
set_option maxRecDepth 100000 in
theorem am_g44 : am_good 44 am_m44 := ⟨3, by decide, rfl, rfl, by decide +kernel, rfl, by decide +kernel, am_gm (List.mem_of_getElem? (i := 625) rfl) rfl, am_gm (List.mem_of_getElem? (i := 101) rfl) rfl, ⟨am_gm (List.mem_of_getElem? (i := 624) rfl) rfl, am_gm (List.mem_of_getElem? (i := 8) rfl) rfl, by decide +kernel⟩⟩
set_option maxRecDepth 100000 in
theorem am_g45 : am_good 45 am_m45 := ⟨3, by decide, rfl, rfl, by decide +kernel, rfl, by decide +kernel, am_gm (List.mem_of_getElem? (i := 629) rfl) rfl, am_gm (List.mem_of_getElem? (i := 101) rfl) rfl, ⟨am_gm (List.mem_of_getElem? (i := 628) rfl) rfl, am_gm (List.mem_of_getElem? (i := 9) rfl) rfl, by decide +kernel⟩⟩
set_option maxRecDepth 100000 in
theorem am_g46 : am_good 46 am_m46 := ⟨3, by decide, rfl, rfl, by decide +kernel, rfl, by decide +kernel, am_gm (List.mem_of_getElem? (i := 633) rfl) rfl, am_gm (List.mem_of_getElem? (i := 101) rfl) rfl, ⟨am_gm (List.mem_of_getElem? (i := 632) rfl) rfl, am_gm (List.mem_of_getElem? (i := 10) rfl) rfl, by decide +kernel⟩⟩
set_option maxRecDepth 100000 in
theorem am_g47 : am_good 47 am_m47 := ⟨3, by decide, rfl, rfl, by decide +kernel, rfl, by decide +kernel, am_gm (List.mem_of_getElem? (i := 637) rfl) rfl, am_gm (List.mem_of_getElem? (i := 101) rfl) rfl, ⟨am_gm (List.mem_of_getElem? (i := 636) rfl) rfl, am_gm (List.mem_of_getElem? (i := 11) rfl) rfl, by decide +kernel⟩⟩
set_option maxRecDepth 100000 in
theorem am_g48 : am_good 48 am_m48 := ⟨3, by decide, rfl, rfl, by decide +kernel, rfl, by decide +kernel, am_gm (List.mem_of_getElem? (i := 641) rfl) rfl, am_gm (List.mem_of_getElem? (i := 101) rfl) rfl, ⟨am_gm (List.mem_of_getElem? (i := 640) rfl) rfl, am_gm (List.mem_of_getElem? (i := 12) rfl) rfl, by decide +kernel⟩⟩
set_option maxRecDepth 100000 in
theorem am_g49 : am_good 49 am_m49 := ⟨3, by decide, rfl, rfl, by decide +kernel, rfl, by decide +kernel, am_gm (List.mem_of_getElem? (i := 645) rfl) rfl, am_gm (List.mem_of_getElem? (i := 101) rfl) rfl, ⟨am_gm (List.mem_of_getElem? (i := 644) rfl) rfl, am_gm (List.mem_of_getElem? (i := 13) rfl) rfl, by decide +kernel⟩⟩
set_option maxRecDepth 100000 in
theorem am_g50 : am_good 50 am_m50 := ⟨8, by decide, rfl, rfl, by decide +kernel, rfl, by decide +kernel, am_gm (List.mem_of_getElem? (i := 649) rfl) rfl, am_gm (List.mem_of_getElem? (i := 99) rfl) rfl, ⟨am_gm (List.mem_of_getElem? (i := 647) rfl) rfl, am_gm (List.mem_of_getElem? (i := 648) rfl) rfl, by decide +kernel⟩⟩
set_option maxRecDepth 100000 in
theorem am_g51 : am_good 51 am_m51 := ⟨9, by decide, rfl, rfl, by decide +kernel, rfl, by decide +kernel, am_gm (List.mem_of_getElem? (i := 653) rfl) rfl, am_gm (List.mem_of_getElem? (i := 98) rfl) rfl, ⟨am_gm (List.mem_of_getElem? (i := 651) rfl) rfl, am_gm (List.mem_of_getElem? (i := 652) rfl) rfl, by decide +kernel⟩⟩
set_option maxRecDepth 100000 in
theorem am_g52 : am_good 52 am_m52 := ⟨8, by decide, rfl, rfl, by decide +kernel, rfl, by decide +kernel, am_gm (List.mem_of_getElem? (i := 657) rfl) rfl, am_gm (List.mem_of_getElem? (i := 99) rfl) rfl, ⟨am_gm (List.mem_of_getElem? (i := 655) rfl) rfl, am_gm (List.mem_of_getElem? (i := 656) rfl) rfl, by decide +kernel⟩⟩
set_option maxRecDepth 100000 in
theorem am_g53 : am_good 53 am_m53 := ⟨4, by decide, rfl, rfl, by decide +kernel, rfl, by decide +kernel, am_gm (List.mem_of_getElem? (i := 663) rfl) rfl, am_gm (List.mem_of_getElem? (i := 107) rfl) rfl, ⟨am_gm (List.mem_of_getElem? (i := 661) rfl) rfl, am_gm (List.mem_of_getElem? (i := 662) rfl) rfl, by decide +kernel⟩⟩
set_option maxRecDepth 100000 in
theorem am_g54 : am_good 54 am_m54 := ⟨7, by decide, rfl, rfl, by decide +kernel, rfl, by decide +kernel, am_gm (List.mem_of_getElem? (i := 667) rfl) rfl, am_gm (List.mem_of_getElem? (i := 108) rfl) rfl, ⟨am_gm (List.mem_of_getElem? (i := 665) rfl) rfl, am_gm (List.mem_of_getElem? (i := 666) rfl) rfl, by decide +kernel⟩⟩
set_option maxRecDepth 100000 in
theorem am_g55 : am_good 55 am_m55 := ⟨9, by decide, rfl, rfl, by decide +kernel, rfl, by decide +kernel, am_gm (List.mem_of_getElem? (i := 671) rfl) rfl, am_gm (List.mem_of_getElem? (i := 98) rfl) rfl, ⟨am_gm (List.mem_of_getElem? (i := 669) rfl) rfl, am_gm (List.mem_of_getElem? (i := 670) rfl) rfl, by decide +kernel⟩⟩
set_option maxRecDepth 100000 in
theorem am_g56 : am_good 56 am_m56 := ⟨9, by decide, rfl, rfl, by decide +kernel, rfl, by decide +kernel, am_gm (List.mem_of_getElem? (i := 675) rfl) rfl, am_gm (List.mem_of_getElem? (i := 98) rfl) rfl, ⟨am_gm (List.mem_of_getElem? (i := 674) rfl) rfl, am_gm (List.mem_of_getElem? (i := 14) rfl) rfl, by decide +kernel⟩⟩
set_option maxRecDepth 100000 in
theorem am_g57 : am_good 57 am_m57 := ⟨9, by decide, rfl, rfl, by decide +kernel, rfl, by decide +kernel, am_gm (List.mem_of_getElem? (i := 678) rfl) rfl, am_gm (List.mem_of_getElem? (i := 98) rfl) rfl, ⟨am_gm (List.mem_of_getElem? (i := 677) rfl) rfl, by decide +kernel⟩⟩
set_option maxRecDepth 100000 in
theorem am_g58 : am_good 58 am_m58 := ⟨9, by decide, rfl, rfl, by decide +kernel, rfl, by decide +kernel, am_gm (List.mem_of_getElem? (i := 682) rfl) rfl, am_gm (List.mem_of_getElem? (i := 98) rfl) rfl, ⟨am_gm (List.mem_of_getElem? (i := 680) rfl) rfl, am_gm (List.mem_of_getElem? (i := 681) rfl) rfl, by decide +kernel⟩⟩
set_option maxRecDepth 100000 in
theorem am_g59 : am_good 59 am_m59 := ⟨9, by decide, rfl, rfl, by decide +kernel, rfl, by decide +kernel, am_gm (List.mem_of_getElem? (i := 686) rfl) rfl, am_gm (List.mem_of_getElem? (i := 98) rfl) rfl, ⟨am_gm (List.mem_of_getElem? (i := 684) rfl) rfl, am_gm (List.mem_of_getElem? (i := 685) rfl) rfl, by decide +kernel⟩⟩
set_option maxRecDepth 100000 in
theorem am_g60 : am_good 60 am_m60 := ⟨9, by decide, rfl, rfl, by decide +kernel, rfl, by decide +kernel, am_gm (List.mem_of_getElem? (i := 690) rfl) rfl, am_gm (List.mem_of_getElem? (i := 98) rfl) rfl, ⟨am_gm (List.mem_of_getElem? (i := 688) rfl) rfl, am_gm (List.mem_of_getElem? (i := 689) rfl) rfl, by decide +kernel⟩⟩
set_option maxRecDepth 100000 in
theorem am_g61 : am_good 61 am_m61 := ⟨9, by decide, rfl, rfl, by decide +kernel, rfl, by decide +kernel, am_gm (List.mem_of_getElem? (i := 694) rfl) rfl, am_gm (List.mem_of_getElem? (i := 98) rfl) rfl, ⟨am_gm (List.mem_of_getElem? (i := 692) rfl) rfl, am_gm (List.mem_of_getElem? (i := 693) rfl) rfl, by decide +kernel⟩⟩
set_option maxRecDepth 100000 in
theorem am_g62 : am_good 62 am_m62 := ⟨9, by decide, rfl, rfl, by decide +kernel, rfl, by decide +kernel, am_gm (List.mem_of_getElem? (i := 697) rfl) rfl, am_gm (List.mem_of_getElem? (i := 98) rfl) rfl, ⟨am_gm (List.mem_of_getElem? (i := 696) rfl) rfl, by decide +kernel⟩⟩
set_option maxRecDepth 100000 in
theorem am_g63 : am_good 63 am_m63 := ⟨6, by decide, rfl, rfl, by decide +kernel, rfl, by decide +kernel, am_gm (List.mem_of_getElem? (i := 701) rfl) rfl, am_gm (List.mem_of_getElem? (i := 102) rfl) rfl, ⟨am_gm (List.mem_of_getElem? (i := 699) rfl) rfl, am_gm (List.mem_of_getElem? (i := 700) rfl) rfl, by decide +kernel⟩⟩
set_option maxRecDepth 100000 in
theorem am_g64 : am_good 64 am_m64 := ⟨1, by decide, rfl, rfl, by decide +kernel, rfl, by decide +kernel, am_gm (List.mem_of_getElem? (i := 705) rfl) rfl, am_gm (List.mem_of_getElem? (i := 105) rfl) rfl, ⟨am_gm (List.mem_of_getElem? (i := 703) rfl) rfl, am_gm (List.mem_of_getElem? (i := 704) rfl) rfl, by decide +kernel⟩⟩
set_option maxRecDepth 100000 in
theorem am_g65 : am_good 65 am_m65 := ⟨9, by decide, rfl, rfl, by decide +kernel, rfl, by decide +kernel, am_gm (List.mem_of_getElem? (i := 710) rfl) rfl, am_gm (List.mem_of_getElem? (i := 98) rfl) rfl, ⟨am_gm (List.mem_of_getElem? (i := 708) rfl) rfl, am_gm (List.mem_of_getElem? (i := 709) rfl) rfl, by decide +kernel⟩⟩
set_option maxRecDepth 100000 in
theorem am_g66 : am_good 66 am_m66 := ⟨9, by decide, rfl, rfl, by decide +kernel, rfl, by decide +kernel, am_gm (List.mem_of_getElem? (i := 714) rfl) rfl, am_gm (List.mem_of_getElem? (i := 98) rfl) rfl, ⟨am_gm (List.mem_of_getElem? (i := 713) rfl) rfl, am_gm (List.mem_of_getElem? (i := 15) rfl) rfl, by decide +kernel⟩⟩
set_option maxRecDepth 100000 in
theorem am_g67 : am_good 67 am_m67 := ⟨9, by decide, rfl, rfl, by decide +kernel, rfl, by decide +kernel, am_gm (List.mem_of_getElem? (i := 718) rfl) rfl, am_gm (List.mem_of_getElem? (i := 98) rfl) rfl, ⟨am_gm (List.mem_of_getElem? (i := 716) rfl) rfl, am_gm (List.mem_of_getElem? (i := 717) rfl) rfl, by decide +kernel⟩⟩
set_option maxRecDepth 100000 in
theorem am_g68 : am_good 68 am_m68 := ⟨1, by decide, rfl, rfl, by decide +kernel, rfl, by decide +kernel, am_gm (List.mem_of_getElem? (i := 722) rfl) rfl, am_gm (List.mem_of_getElem? (i := 105) rfl) rfl, ⟨am_gm (List.mem_of_getElem? (i := 720) rfl) rfl, am_gm (List.mem_of_getElem? (i := 721) rfl) rfl, by decide +kernel⟩⟩
set_option maxRecDepth 100000 in
theorem am_g69 : am_good 69 am_m69 := ⟨9, by decide, rfl, rfl, by decide +kernel, rfl, by decide +kernel, am_gm (List.mem_of_getElem? (i := 726) rfl) rfl, am_gm (List.mem_of_getElem? (i := 98) rfl) rfl, ⟨am_gm (List.mem_of_getElem? (i := 724) rfl) rfl, am_gm (List.mem_of_getElem? (i := 725) rfl) rfl, by decide +kernel⟩⟩
set_option maxRecDepth 100000 in
theorem am_g70 : am_good 70 am_m70 := ⟨9, by decide, rfl, rfl, by decide +kernel, rfl, by decide +kernel, am_gm (List.mem_of_getElem? (i := 730) rfl) rfl, am_gm (List.mem_of_getElem? (i := 98) rfl) rfl, ⟨am_gm (List.mem_of_getElem? (i := 728) rfl) rfl, am_gm (List.mem_of_getElem? (i := 729) rfl) rfl, by decide +kernel⟩⟩
set_option maxRecDepth 100000 in
theorem am_g71 : am_good 71 am_m71 := ⟨0, by decide, rfl, rfl, by decide +kernel, rfl, by decide +kernel, am_gm (List.mem_of_getElem? (i := 735) rfl) rfl, am_gm (List.mem_of_getElem? (i := 103) rfl) rfl, ⟨am_gm (List.mem_of_getElem? (i := 733) rfl) rfl, am_gm (List.mem_of_getElem? (i := 734) rfl) rfl, by decide +kernel⟩⟩
set_option maxRecDepth 100000 in
theorem am_g72 : am_good 72 am_m72 := ⟨8, by decide, rfl, rfl, by decide +kernel, rfl, by decide +kernel, am_gm (List.mem_of_getElem? (i := 739) rfl) rfl, am_gm (List.mem_of_getElem? (i := 99) rfl) rfl, ⟨am_gm (List.mem_of_getElem? (i := 737) rfl) rfl, am_gm (List.mem_of_getElem? (i := 738) rfl) rfl, by decide +kernel⟩⟩
set_option maxRecDepth 100000 in
theorem am_g73 : am_good 73 am_m73 := ⟨9, by decide, rfl, rfl, by decide +kernel, rfl, by decide +kernel, am_gm (List.mem_of_getElem? (i := 743) rfl) rfl, am_gm (List.mem_of_getElem? (i := 98) rfl) rfl, ⟨am_gm (List.mem_of_getElem? (i := 741) rfl) rfl, am_gm (List.mem_of_getElem? (i := 742) rfl) rfl, by decide +kernel⟩⟩
set_option maxRecDepth 100000 in
theorem am_g74 : am_good 74 am_m74 := ⟨2, by decide, rfl, rfl, by decide +kernel, rfl, by decide +kernel, am_gm (List.mem_of_getElem? (i := 747) rfl) rfl, am_gm (List.mem_of_getElem? (i := 106) rfl) rfl, ⟨am_gm (List.mem_of_getElem? (i := 745) rfl) rfl, am_gm (List.mem_of_getElem? (i := 746) rfl) rfl, by decide +kernel⟩⟩
set_option maxRecDepth 100000 in
theorem am_g75 : am_good 75 am_m75 := ⟨2, by decide, rfl, rfl, by decide +kernel, rfl, by decide +kernel, am_gm (List.mem_of_getElem? (i := 751) rfl) rfl, am_gm (List.mem_of_getElem? (i := 106) rfl) rfl, ⟨am_gm (List.mem_of_getElem? (i := 750) rfl) rfl, am_gm (List.mem_of_getElem? (i := 16) rfl) rfl, by decide +kernel⟩⟩
set_option maxRecDepth 100000 in
theorem am_g76 : am_good 76 am_m76 := ⟨2, by decide, rfl, rfl, by decide +kernel, rfl, by decide +kernel, am_gm (List.mem_of_getElem? (i := 755) rfl) rfl, am_gm (List.mem_of_getElem? (i := 106) rfl) rfl, ⟨am_gm (List.mem_of_getElem? (i := 754) rfl) rfl, am_gm (List.mem_of_getElem? (i := 17) rfl) rfl, by decide +kernel⟩⟩
set_option maxRecDepth 100000 in
theorem am_g77 : am_good 77 am_m77 := ⟨1, by decide, rfl, rfl, by decide +kernel, rfl, by decide +kernel, am_gm (List.mem_of_getElem? (i := 759) rfl) rfl, am_gm (List.mem_of_getElem? (i := 105) rfl) rfl, ⟨am_gm (List.mem_of_getElem? (i := 757) rfl) rfl, am_gm (List.mem_of_getElem? (i := 758) rfl) rfl, by decide +kernel⟩⟩
set_option maxRecDepth 100000 in
theorem am_g78 : am_good 78 am_m78 := ⟨1, by decide, rfl, rfl, by decide +kernel, rfl, by decide +kernel, am_gm (List.mem_of_getElem? (i := 763) rfl) rfl, am_gm (List.mem_of_getElem? (i := 105) rfl) rfl, ⟨am_gm (List.mem_of_getElem? (i := 761) rfl) rfl, am_gm (List.mem_of_getElem? (i := 762) rfl) rfl, by decide +kernel⟩⟩
set_option maxRecDepth 100000 in
theorem am_g79 : am_good 79 am_m79 := ⟨2, by decide, rfl, rfl, by decide +kernel, rfl, by decide +kernel, am_gm (List.mem_of_getElem? (i := 768) rfl) rfl, am_gm (List.mem_of_getElem? (i := 106) rfl) rfl, ⟨am_gm (List.mem_of_getElem? (i := 767) rfl) rfl, am_gm (List.mem_of_getElem? (i := 18) rfl) rfl, by decide +kernel⟩⟩
set_option maxRecDepth 100000 in
theorem am_g80 : am_good 80 am_m80 := ⟨2, by decide, rfl, rfl, by decide +kernel, rfl, by decide +kernel, am_gm (List.mem_of_getElem? (i := 772) rfl) rfl, am_gm (List.mem_of_getElem? (i := 106) rfl) rfl, ⟨am_gm (List.mem_of_getElem? (i := 771) rfl) rfl, am_gm (List.mem_of_getElem? (i := 19) rfl) rfl, by decide +kernel⟩⟩
set_option maxRecDepth 100000 in
theorem am_g81 : am_good 81 am_m81 := ⟨2, by decide, rfl, rfl, by decide +kernel, rfl, by decide +kernel, am_gm (List.mem_of_getElem? (i := 776) rfl) rfl, am_gm (List.mem_of_getElem? (i := 106) rfl) rfl, ⟨am_gm (List.mem_of_getElem? (i := 774) rfl) rfl, am_gm (List.mem_of_getElem? (i := 775) rfl) rfl, by decide +kernel⟩⟩
set_option maxRecDepth 100000 in
theorem am_g82 : am_good 82 am_m82 := ⟨9, by decide, rfl, rfl, by decide +kernel, rfl, by decide +kernel, am_gm (List.mem_of_getElem? (i := 780) rfl) rfl, am_gm (List.mem_of_getElem? (i := 98) rfl) rfl, ⟨am_gm (List.mem_of_getElem? (i := 778) rfl) rfl, am_gm (List.mem_of_getElem? (i := 779) rfl) rfl, by decide +kernel⟩⟩
set_option maxRecDepth 100000 in
theorem am_g83 : am_good 83 am_m83 := ⟨2, by decide, rfl, rfl, by decide +kernel, rfl, by decide +kernel, am_gm (List.mem_of_getElem? (i := 784) rfl) rfl, am_gm (List.mem_of_getElem? (i := 106) rfl) rfl, ⟨am_gm (List.mem_of_getElem? (i := 782) rfl) rfl, am_gm (List.mem_of_getElem? (i := 783) rfl) rfl, by decide +kernel⟩⟩
set_option maxRecDepth 100000 in
theorem am_g84 : am_good 84 am_m84 := ⟨2, by decide, rfl, rfl, by decide +kernel, rfl, by decide +kernel, am_gm (List.mem_of_getElem? (i := 788) rfl) rfl, am_gm (List.mem_of_getElem? (i := 106) rfl) rfl, ⟨am_gm (List.mem_of_getElem? (i := 786) rfl) rfl, am_gm (List.mem_of_getElem? (i := 787) rfl) rfl, by decide +kernel⟩⟩
set_option maxRecDepth 100000 in
theorem am_g85 : am_good 85 am_m85 := ⟨9, by decide, rfl, rfl, by decide +kernel, rfl, by decide +kernel, am_gm (List.mem_of_getElem? (i := 793) rfl) rfl, am_gm (List.mem_of_getElem? (i := 98) rfl) rfl, ⟨am_gm (List.mem_of_getElem? (i := 791) rfl) rfl, am_gm (List.mem_of_getElem? (i := 792) rfl) rfl, by decide +kernel⟩⟩
set_option maxRecDepth 100000 in
theorem am_g86 : am_good 86 am_m86 := ⟨2, by decide, rfl, rfl, by decide +kernel, rfl, by decide +kernel, am_gm (List.mem_of_getElem? (i := 797) rfl) rfl, am_gm (List.mem_of_getElem? (i := 106) rfl) rfl, ⟨am_gm (List.mem_of_getElem? (i := 795) rfl) rfl, am_gm (List.mem_of_getElem? (i := 796) rfl) rfl, by decide +kernel⟩⟩
set_option maxRecDepth 100000 in
theorem am_g87 : am_good 87 am_m87 := ⟨9, by decide, rfl, rfl, by decide +kernel, rfl, by decide +kernel, am_gm (List.mem_of_getElem? (i := 801) rfl) rfl, am_gm (List.mem_of_getElem? (i := 98) rfl) rfl, ⟨am_gm (List.mem_of_getElem? (i := 799) rfl) rfl, am_gm (List.mem_of_getElem? (i := 800) rfl) rfl, by decide +kernel⟩⟩
set_option maxRecDepth 100000 in
theorem am_g88 : am_good 88 am_m88 := ⟨2, by decide, rfl, rfl, by decide +kernel, rfl, by decide +kernel, am_gm (List.mem_of_getElem? (i := 805) rfl) rfl, am_gm (List.mem_of_getElem? (i := 106) rfl) rfl, ⟨am_gm (List.mem_of_getElem? (i := 803) rfl) rfl, am_gm (List.mem_of_getElem? (i := 804) rfl) rfl, by decide +kernel⟩⟩
set_option maxRecDepth 100000 in
theorem am_g89 : am_good 89 am_m89 := ⟨2, by decide, rfl, rfl, by decide +kernel, rfl, by decide +kernel, am_gm (List.mem_of_getElem? (i := 809) rfl) rfl, am_gm (List.mem_of_getElem? (i := 106) rfl) rfl, ⟨am_gm (List.mem_of_getElem? (i := 808) rfl) rfl, am_gm (List.mem_of_getElem? (i := 20) rfl) rfl, by decide +kernel⟩⟩
set_option maxRecDepth 100000 in
theorem am_g90 : am_good 90 am_m90 := ⟨9, by decide, rfl, rfl, by decide +kernel, rfl, by decide +kernel, am_gm (List.mem_of_getElem? (i := 816) rfl) rfl, am_gm (List.mem_of_getElem? (i := 98) rfl) rfl, ⟨am_gm (List.mem_of_getElem? (i := 814) rfl) rfl, am_gm (List.mem_of_getElem? (i := 815) rfl) rfl, by decide +kernel⟩⟩
set_option maxRecDepth 100000 in
theorem am_g91 : am_good 91 am_m91 := ⟨2, by decide, rfl, rfl, by decide +kernel, rfl, by decide +kernel, am_gm (List.mem_of_getElem? (i := 820) rfl) rfl, am_gm (List.mem_of_getElem? (i := 106) rfl) rfl, ⟨am_gm (List.mem_of_getElem? (i := 818) rfl) rfl, am_gm (List.mem_of_getElem? (i := 819) rfl) rfl, by decide +kernel⟩⟩
set_option maxRecDepth 100000 in
theorem am_g92 : am_good 92 am_m92 := ⟨9, by decide, rfl, rfl, by decide +kernel, rfl, by decide +kernel, am_gm (List.mem_of_getElem? (i := 826) rfl) rfl, am_gm (List.mem_of_getElem? (i := 98) rfl) rfl, ⟨am_gm (List.mem_of_getElem? (i := 824) rfl) rfl, am_gm (List.mem_of_getElem? (i := 825) rfl) rfl, by decide +kernel⟩⟩
set_option maxRecDepth 100000 in
theorem am_g93 : am_good 93 am_m93 := ⟨4, by decide, rfl, rfl, by decide +kernel, rfl, by decide +kernel, am_gm (List.mem_of_getElem? (i := 830) rfl) rfl, am_gm (List.mem_of_getElem? (i := 107) rfl) rfl, ⟨am_gm (List.mem_of_getElem? (i := 828) rfl) rfl, am_gm (List.mem_of_getElem? (i := 829) rfl) rfl, by decide +kernel⟩⟩
set_option maxRecDepth 100000 in
theorem am_g94 : am_good 94 am_m94 := ⟨4, by decide, rfl, rfl, by decide +kernel, rfl, by decide +kernel, am_gm (List.mem_of_getElem? (i := 836) rfl) rfl, am_gm (List.mem_of_getElem? (i := 107) rfl) rfl, ⟨am_gm (List.mem_of_getElem? (i := 834) rfl) rfl, am_gm (List.mem_of_getElem? (i := 835) rfl) rfl, by decide +kernel⟩⟩
set_option maxRecDepth 100000 in
theorem am_g95 : am_good 95 am_m95 := ⟨4, by decide, rfl, rfl, by decide +kernel, rfl, by decide +kernel, am_gm (List.mem_of_getElem? (i := 840) rfl) rfl, am_gm (List.mem_of_getElem? (i := 107) rfl) rfl, ⟨am_gm (List.mem_of_getElem? (i := 839) rfl) rfl, am_gm (List.mem_of_getElem? (i := 21) rfl) rfl, by decide +kernel⟩⟩
set_option maxRecDepth 100000 in
theorem am_g96 : am_good 96 am_m96 := ⟨4, by decide, rfl, rfl, by decide +kernel, rfl, by decide +kernel, am_gm (List.mem_of_getElem? (i := 844) rfl) rfl, am_gm (List.mem_of_getElem? (i := 107) rfl) rfl, ⟨am_gm (List.mem_of_getElem? (i := 843) rfl) rfl, am_gm (List.mem_of_getElem? (i := 22) rfl) rfl, by decide +kernel⟩⟩
set_option maxRecDepth 100000 in
theorem am_g97 : am_good 97 am_m97 := ⟨4, by decide, rfl, rfl, by decide +kernel, rfl, by decide +kernel, am_gm (List.mem_of_getElem? (i := 848) rfl) rfl, am_gm (List.mem_of_getElem? (i := 107) rfl) rfl, ⟨am_gm (List.mem_of_getElem? (i := 847) rfl) rfl, am_gm (List.mem_of_getElem? (i := 23) rfl) rfl, by decide +kernel⟩⟩
set_option maxRecDepth 100000 in
theorem am_g98 : am_good 98 am_m98 := ⟨4, by decide, rfl, rfl, by decide +kernel, rfl, by decide +kernel, am_gm (List.mem_of_getElem? (i := 852) rfl) rfl, am_gm (List.mem_of_getElem? (i := 107) rfl) rfl, ⟨am_gm (List.mem_of_getElem? (i := 851) rfl) rfl, am_gm (List.mem_of_getElem? (i := 24) rfl) rfl, by decide +kernel⟩⟩
set_option maxRecDepth 100000 in
theorem am_g99 : am_good 99 am_m99 := ⟨4, by decide, rfl, rfl, by decide +kernel, rfl, by decide +kernel, am_gm (List.mem_of_getElem? (i := 856) rfl) rfl, am_gm (List.mem_of_getElem? (i := 107) rfl) rfl, ⟨am_gm (List.mem_of_getElem? (i := 855) rfl) rfl, am_gm (List.mem_of_getElem? (i := 25) rfl) rfl, by decide +kernel⟩⟩
set_option maxRecDepth 100000 in
theorem am_g100 : am_good 100 am_m100 := ⟨4, by decide, rfl, rfl, by decide +kernel, rfl, by decide +kernel, am_gm (List.mem_of_getElem? (i := 860) rfl) rfl, am_gm (List.mem_of_getElem? (i := 107) rfl) rfl, ⟨am_gm (List.mem_of_getElem? (i := 858) rfl) rfl, am_gm (List.mem_of_getElem? (i := 859) rfl) rfl, by decide +kernel⟩⟩
set_option maxRecDepth 100000 in
theorem am_g101 : am_good 101 am_m101 := ⟨9, by decide, rfl, rfl, by decide +kernel, rfl, by decide +kernel, am_gm (List.mem_of_getElem? (i := 864) rfl) rfl, am_gm (List.mem_of_getElem? (i := 98) rfl) rfl, ⟨am_gm (List.mem_of_getElem? (i := 862) rfl) rfl, am_gm (List.mem_of_getElem? (i := 863) rfl) rfl, by decide +kernel⟩⟩
set_option maxRecDepth 100000 in
theorem am_g102 : am_good 102 am_m102 := ⟨7, by decide, rfl, rfl, by decide +kernel, rfl, by decide +kernel, am_gm (List.mem_of_getElem? (i := 868) rfl) rfl, am_gm (List.mem_of_getElem? (i := 108) rfl) rfl, ⟨am_gm (List.mem_of_getElem? (i := 866) rfl) rfl, am_gm (List.mem_of_getElem? (i := 867) rfl) rfl, by decide +kernel⟩⟩
set_option maxRecDepth 100000 in
theorem am_g103 : am_good 103 am_m103 := ⟨7, by decide, rfl, rfl, by decide +kernel, rfl, by decide +kernel, am_gm (List.mem_of_getElem? (i := 872) rfl) rfl, am_gm (List.mem_of_getElem? (i := 108) rfl) rfl, ⟨am_gm (List.mem_of_getElem? (i := 871) rfl) rfl, am_gm (List.mem_of_getElem? (i := 26) rfl) rfl, by decide +kernel⟩⟩
set_option maxRecDepth 100000 in
theorem am_g104 : am_good 104 am_m104 := ⟨7, by decide, rfl, rfl, by decide +kernel, rfl, by decide +kernel, am_gm (List.mem_of_getElem? (i := 879) rfl) rfl, am_gm (List.mem_of_getElem? (i := 108) rfl) rfl, ⟨am_gm (List.mem_of_getElem? (i := 878) rfl) rfl, am_gm (List.mem_of_getElem? (i := 27) rfl) rfl, by decide +kernel⟩⟩
set_option maxRecDepth 100000 in
theorem am_g105 : am_good 105 am_m105 := ⟨7, by decide, rfl, rfl, by decide +kernel, rfl, by decide +kernel, am_gm (List.mem_of_getElem? (i := 885) rfl) rfl, am_gm (List.mem_of_getElem? (i := 108) rfl) rfl, ⟨am_gm (List.mem_of_getElem? (i := 884) rfl) rfl, am_gm (List.mem_of_getElem? (i := 28) rfl) rfl, by decide +kernel⟩⟩
set_option maxRecDepth 100000 in
theorem am_g106 : am_good 106 am_m106 := ⟨7, by decide, rfl, rfl, by decide +kernel, rfl, by decide +kernel, am_gm (List.mem_of_getElem? (i := 893) rfl) rfl, am_gm (List.mem_of_getElem? (i := 108) rfl) rfl, ⟨am_gm (List.mem_of_getElem? (i := 891) rfl) rfl, am_gm (List.mem_of_getElem? (i := 892) rfl) rfl, by decide +kernel⟩⟩
set_option maxRecDepth 100000 in
theorem am_g107 : am_good 107 am_m107 := ⟨7, by decide, rfl, rfl, by decide +kernel, rfl, by decide +kernel, am_gm (List.mem_of_getElem? (i := 897) rfl) rfl, am_gm (List.mem_of_getElem? (i := 108) rfl) rfl, ⟨am_gm (List.mem_of_getElem? (i := 896) rfl) rfl, am_gm (List.mem_of_getElem? (i := 29) rfl) rfl, by decide +kernel⟩⟩
set_option maxRecDepth 100000 in
theorem am_g108 : am_good 108 am_m108 := ⟨4, by decide, rfl, rfl, by decide +kernel, rfl, by decide +kernel, am_gm (List.mem_of_getElem? (i := 901) rfl) rfl, am_gm (List.mem_of_getElem? (i := 107) rfl) rfl, ⟨am_gm (List.mem_of_getElem? (i := 899) rfl) rfl, am_gm (List.mem_of_getElem? (i := 900) rfl) rfl, by decide +kernel⟩⟩
set_option maxRecDepth 100000 in
theorem am_g109 : am_good 109 am_m109 := ⟨4, by decide, rfl, rfl, by decide +kernel, rfl, by decide +kernel, am_gm (List.mem_of_getElem? (i := 905) rfl) rfl, am_gm (List.mem_of_getElem? (i := 107) rfl) rfl, ⟨am_gm (List.mem_of_getElem? (i := 904) rfl) rfl, am_gm (List.mem_of_getElem? (i := 30) rfl) rfl, by decide +kernel⟩⟩
set_option maxRecDepth 100000 in
theorem am_g110 : am_good 110 am_m110 := ⟨7, by decide, rfl, rfl, by decide +kernel, rfl, by decide +kernel, am_gm (List.mem_of_getElem? (i := 909) rfl) rfl, am_gm (List.mem_of_getElem? (i := 108) rfl) rfl, ⟨am_gm (List.mem_of_getElem? (i := 908) rfl) rfl, am_gm (List.mem_of_getElem? (i := 31) rfl) rfl, by decide +kernel⟩⟩
set_option maxRecDepth 100000 in
theorem am_g111 : am_good 111 am_m111 := ⟨7, by decide, rfl, rfl, by decide +kernel, rfl, by decide +kernel, am_gm (List.mem_of_getElem? (i := 913) rfl) rfl, am_gm (List.mem_of_getElem? (i := 108) rfl) rfl, ⟨am_gm (List.mem_of_getElem? (i := 911) rfl) rfl, am_gm (List.mem_of_getElem? (i := 912) rfl) rfl, by decide +kernel⟩⟩
set_option maxRecDepth 100000 in
theorem am_g112 : am_good 112 am_m112 := ⟨7, by decide, rfl, rfl, by decide +kernel, rfl, by decide +kernel, am_gm (List.mem_of_getElem? (i := 917) rfl) rfl, am_gm (List.mem_of_getElem? (i := 108) rfl) rfl, ⟨am_gm (List.mem_of_getElem? (i := 916) rfl) rfl, am_gm (List.mem_of_getElem? (i := 32) rfl) rfl, by decide +kernel⟩⟩
set_option maxRecDepth 100000 in
theorem am_g113 : am_good 113 am_m113 := ⟨7, by decide, rfl, rfl, by decide +kernel, rfl, by decide +kernel, am_gm (List.mem_of_getElem? (i := 922) rfl) rfl, am_gm (List.mem_of_getElem? (i := 108) rfl) rfl, ⟨am_gm (List.mem_of_getElem? (i := 921) rfl) rfl, am_gm (List.mem_of_getElem? (i := 33) rfl) rfl, by decide +kernel⟩⟩
set_option maxRecDepth 100000 in
theorem am_g114 : am_good 114 am_m114 := ⟨9, by decide, rfl, rfl, by decide +kernel, rfl, by decide +kernel, am_gm (List.mem_of_getElem? (i := 928) rfl) rfl, am_gm (List.mem_of_getElem? (i := 98) rfl) rfl, ⟨am_gm (List.mem_of_getElem? (i := 926) rfl) rfl, am_gm (List.mem_of_getElem? (i := 927) rfl) rfl, by decide +kernel⟩⟩
set_option maxRecDepth 100000 in
theorem am_g115 : am_good 115 am_m115 := ⟨9, by decide, rfl, rfl, by decide +kernel, rfl, by decide +kernel, am_gm (List.mem_of_getElem? (i := 932) rfl) rfl, am_gm (List.mem_of_getElem? (i := 98) rfl) rfl, ⟨am_gm (List.mem_of_getElem? (i := 930) rfl) rfl, am_gm (List.mem_of_getElem? (i := 931) rfl) rfl, by decide +kernel⟩⟩
set_option maxRecDepth 100000 in
theorem am_g116 : am_good 116 am_m116 := ⟨7, by decide, rfl, rfl, by decide +kernel, rfl, by decide +kernel, am_gm (List.mem_of_getElem? (i := 936) rfl) rfl, am_gm (List.mem_of_getElem? (i := 108) rfl) rfl, ⟨am_gm (List.mem_of_getElem? (i := 934) rfl) rfl, am_gm (List.mem_of_getElem? (i := 935) rfl) rfl, by decide +kernel⟩⟩
set_option maxRecDepth 100000 in
theorem am_g117 : am_good 117 am_m117 := ⟨7, by decide, rfl, rfl, by decide +kernel, rfl, by decide +kernel, am_gm (List.mem_of_getElem? (i := 940) rfl) rfl, am_gm (List.mem_of_getElem? (i := 108) rfl) rfl, ⟨am_gm (List.mem_of_getElem? (i := 939) rfl) rfl, am_gm (List.mem_of_getElem? (i := 34) rfl) rfl, by decide +kernel⟩⟩
set_option maxRecDepth 100000 in
theorem am_g118 : am_good 118 am_m118 := ⟨7, by decide, rfl, rfl, by decide +kernel, rfl, by decide +kernel, am_gm (List.mem_of_getElem? (i := 943) rfl) rfl, am_gm (List.mem_of_getElem? (i := 108) rfl) rfl, ⟨am_gm (List.mem_of_getElem? (i := 942) rfl) rfl, by decide +kernel⟩⟩
set_option maxRecDepth 100000 in
theorem am_g119 : am_good 119 am_m119 := ⟨7, by decide, rfl, rfl, by decide +kernel, rfl, by decide +kernel, am_gm (List.mem_of_getElem? (i := 952) rfl) rfl, am_gm (List.mem_of_getElem? (i := 108) rfl) rfl, ⟨am_gm (List.mem_of_getElem? (i := 951) rfl) rfl, am_gm (List.mem_of_getElem? (i := 35) rfl) rfl, by decide +kernel⟩⟩
set_option maxRecDepth 100000 in
theorem am_g120 : am_good 120 am_m120 := ⟨9, by decide, rfl, rfl, by decide +kernel, rfl, by decide +kernel, am_gm (List.mem_of_getElem? (i := 957) rfl) rfl, am_gm (List.mem_of_getElem? (i := 98) rfl) rfl, ⟨am_gm (List.mem_of_getElem? (i := 955) rfl) rfl, am_gm (List.mem_of_getElem? (i := 956) rfl) rfl, by decide +kernel⟩⟩
set_option maxRecDepth 100000 in
theorem am_g121 : am_good 121 am_m121 := ⟨7, by decide, rfl, rfl, by decide +kernel, rfl, by decide +kernel, am_gm (List.mem_of_getElem? (i := 961) rfl) rfl, am_gm (List.mem_of_getElem? (i := 108) rfl) rfl, ⟨am_gm (List.mem_of_getElem? (i := 959) rfl) rfl, am_gm (List.mem_of_getElem? (i := 960) rfl) rfl, by decide +kernel⟩⟩
set_option maxRecDepth 100000 in
theorem am_g122 : am_good 122 am_m122 := ⟨7, by decide, rfl, rfl, by decide +kernel, rfl, by decide +kernel, am_gm (List.mem_of_getElem? (i := 966) rfl) rfl, am_gm (List.mem_of_getElem? (i := 108) rfl) rfl, ⟨am_gm (List.mem_of_getElem? (i := 964) rfl) rfl, am_gm (List.mem_of_getElem? (i := 965) rfl) rfl, by decide +kernel⟩⟩
set_option maxRecDepth 100000 in
theorem am_g123 : am_good 123 am_m123 := ⟨9, by decide, rfl, rfl, by decide +kernel, rfl, by decide +kernel, am_gm (List.mem_of_getElem? (i := 970) rfl) rfl, am_gm (List.mem_of_getElem? (i := 98) rfl) rfl, ⟨am_gm (List.mem_of_getElem? (i := 968) rfl) rfl, am_gm (List.mem_of_getElem? (i := 969) rfl) rfl, by decide +kernel⟩⟩
set_option maxRecDepth 100000 in
theorem am_g124 : am_good 124 am_m124 := ⟨7, by decide, rfl, rfl, by decide +kernel, rfl, by decide +kernel, am_gm (List.mem_of_getElem? (i := 974) rfl) rfl, am_gm (List.mem_of_getElem? (i := 108) rfl) rfl, ⟨am_gm (List.mem_of_getElem? (i := 972) rfl) rfl, am_gm (List.mem_of_getElem? (i := 973) rfl) rfl, by decide +kernel⟩⟩
set_option maxRecDepth 100000 in
theorem am_g125 : am_good 125 am_m125 := ⟨9, by decide, rfl, rfl, by decide +kernel, rfl, by decide +kernel, am_gm (List.mem_of_getElem? (i := 978) rfl) rfl, am_gm (List.mem_of_getElem? (i := 98) rfl) rfl, ⟨am_gm (List.mem_of_getElem? (i := 977) rfl) rfl, am_gm (List.mem_of_getElem? (i := 36) rfl) rfl, by decide +kernel⟩⟩
set_option maxRecDepth 100000 in
theorem am_g126 : am_good 126 am_m126 := ⟨9, by decide, rfl, rfl, by decide +kernel, rfl, by decide +kernel, am_gm (List.mem_of_getElem? (i := 981) rfl) rfl, am_gm (List.mem_of_getElem? (i := 98) rfl) rfl, ⟨am_gm (List.mem_of_getElem? (i := 980) rfl) rfl, by decide +kernel⟩⟩
set_option maxRecDepth 100000 in
theorem am_g127 : am_good 127 am_m127 := ⟨9, by decide, rfl, rfl, by decide +kernel, rfl, by decide +kernel, am_gm (List.mem_of_getElem? (i := 985) rfl) rfl, am_gm (List.mem_of_getElem? (i := 98) rfl) rfl, ⟨am_gm (List.mem_of_getElem? (i := 983) rfl) rfl, am_gm (List.mem_of_getElem? (i := 984) rfl) rfl, by decide +kernel⟩⟩
set_option maxRecDepth 100000 in
theorem am_g128 : am_good 128 am_m128 := ⟨9, by decide, rfl, rfl, by decide +kernel, rfl, by decide +kernel, am_gm (List.mem_of_getElem? (i := 991) rfl) rfl, am_gm (List.mem_of_getElem? (i := 98) rfl) rfl, ⟨am_gm (List.mem_of_getElem? (i := 989) rfl) rfl, am_gm (List.mem_of_getElem? (i := 990) rfl) rfl, by decide +kernel⟩⟩
set_option maxRecDepth 100000 in
theorem am_g129 : am_good 129 am_m129 := ⟨7, by decide, rfl, rfl, by decide +kernel, rfl, by decide +kernel, am_gm (List.mem_of_getElem? (i := 995) rfl) rfl, am_gm (List.mem_of_getElem? (i := 108) rfl) rfl, ⟨am_gm (List.mem_of_getElem? (i := 993) rfl) rfl, am_gm (List.mem_of_getElem? (i := 994) rfl) rfl, by decide +kernel⟩⟩
set_option maxRecDepth 100000 in
theorem am_g130 : am_good 130 am_m130 := ⟨9, by decide, rfl, rfl, by decide +kernel, rfl, by decide +kernel, am_gm (List.mem_of_getElem? (i := 999) rfl) rfl, am_gm (List.mem_of_getElem? (i := 98) rfl) rfl, ⟨am_gm (List.mem_of_getElem? (i := 997) rfl) rfl, am_gm (List.mem_of_getElem? (i := 998) rfl) rfl, by decide +kernel⟩⟩
set_option maxRecDepth 100000 in
theorem am_g131 : am_good 131 am_m131 := ⟨5, by decide, rfl, rfl, by decide +kernel, rfl, by decide +kernel, am_gm (List.mem_of_getElem? (i := 1003) rfl) rfl, am_gm (List.mem_of_getElem? (i := 109) rfl) rfl, ⟨am_gm (List.mem_of_getElem? (i := 1001) rfl) rfl, am_gm (List.mem_of_getElem? (i := 1002) rfl) rfl, by decide +kernel⟩⟩
set_option maxRecDepth 100000 in
theorem am_g132 : am_good 132 am_m132 := ⟨9, by decide, rfl, rfl, by decide +kernel, rfl, by decide +kernel, am_gm (List.mem_of_getElem? (i := 1007) rfl) rfl, am_gm (List.mem_of_getElem? (i := 98) rfl) rfl, ⟨am_gm (List.mem_of_getElem? (i := 1005) rfl) rfl, am_gm (List.mem_of_getElem? (i := 1006) rfl) rfl, by decide +kernel⟩⟩
set_option maxRecDepth 100000 in
theorem am_g133 : am_good 133 am_m133 := ⟨9, by decide, rfl, rfl, by decide +kernel, rfl, by decide +kernel, am_gm (List.mem_of_getElem? (i := 1011) rfl) rfl, am_gm (List.mem_of_getElem? (i := 98) rfl) rfl, ⟨am_gm (List.mem_of_getElem? (i := 1010) rfl) rfl, am_gm (List.mem_of_getElem? (i := 37) rfl) rfl, by decide +kernel⟩⟩
set_option maxRecDepth 100000 in
theorem am_g134 : am_good 134 am_m134 := ⟨5, by decide, rfl, rfl, by decide +kernel, rfl, by decide +kernel, am_gm (List.mem_of_getElem? (i := 1015) rfl) rfl, am_gm (List.mem_of_getElem? (i := 109) rfl) rfl, ⟨am_gm (List.mem_of_getElem? (i := 1013) rfl) rfl, am_gm (List.mem_of_getElem? (i := 1014) rfl) rfl, by decide +kernel⟩⟩
set_option maxRecDepth 100000 in
theorem am_g135 : am_good 135 am_m135 := ⟨9, by decide, rfl, rfl, by decide +kernel, rfl, by decide +kernel, am_gm (List.mem_of_getElem? (i := 1019) rfl) rfl, am_gm (List.mem_of_getElem? (i := 98) rfl) rfl, ⟨am_gm (List.mem_of_getElem? (i := 1017) rfl) rfl, am_gm (List.mem_of_getElem? (i := 1018) rfl) rfl, by decide +kernel⟩⟩
set_option maxRecDepth 100000 in
theorem am_g136 : am_good 136 am_m136 := ⟨5, by decide, rfl, rfl, by decide +kernel, rfl, by decide +kernel, am_gm (List.mem_of_getElem? (i := 1023) rfl) rfl, am_gm (List.mem_of_getElem? (i := 109) rfl) rfl, ⟨am_gm (List.mem_of_getElem? (i := 1021) rfl) rfl, am_gm (List.mem_of_getElem? (i := 1022) rfl) rfl, by decide +kernel⟩⟩
set_option maxRecDepth 100000 in
theorem am_g137 : am_good 137 am_m137 := ⟨5, by decide, rfl, rfl, by decide +kernel, rfl, by decide +kernel, am_gm (List.mem_of_getElem? (i := 1027) rfl) rfl, am_gm (List.mem_of_getElem? (i := 109) rfl) rfl, ⟨am_gm (List.mem_of_getElem? (i := 1025) rfl) rfl, am_gm (List.mem_of_getElem? (i := 1026) rfl) rfl, by decide +kernel⟩⟩
set_option maxRecDepth 100000 in
theorem am_g138 : am_good 138 am_m138 := ⟨5, by decide, rfl, rfl, by decide +kernel, rfl, by decide +kernel, am_gm (List.mem_of_getElem? (i := 1031) rfl) rfl, am_gm (List.mem_of_getElem? (i := 109) rfl) rfl, ⟨am_gm (List.mem_of_getElem? (i := 1029) rfl) rfl, am_gm (List.mem_of_getElem? (i := 1030) rfl) rfl, by decide +kernel⟩⟩
set_option maxRecDepth 100000 in
theorem am_g139 : am_good 139 am_m139 := ⟨5, by decide, rfl, rfl, by decide +kernel, rfl, by decide +kernel, am_gm (List.mem_of_getElem? (i := 1036) rfl) rfl, am_gm (List.mem_of_getElem? (i := 109) rfl) rfl, ⟨am_gm (List.mem_of_getElem? (i := 1035) rfl) rfl, am_gm (List.mem_of_getElem? (i := 38) rfl) rfl, by decide +kernel⟩⟩
set_option maxRecDepth 100000 in
theorem am_g140 : am_good 140 am_m140 := ⟨5, by decide, rfl, rfl, by decide +kernel, rfl, by decide +kernel, am_gm (List.mem_of_getElem? (i := 1040) rfl) rfl, am_gm (List.mem_of_getElem? (i := 109) rfl) rfl, ⟨am_gm (List.mem_of_getElem? (i := 1039) rfl) rfl, am_gm (List.mem_of_getElem? (i := 39) rfl) rfl, by decide +kernel⟩⟩
