set_option maxRecDepth 100000 in
theorem am_g91 : am_good 91 am_m91 := ⟨2, by decide, rfl, rfl, by decide +kernel, rfl, by decide +kernel, am_gm (List.mem_of_getElem? (i := 631) rfl) rfl, am_gm (List.mem_of_getElem? (i := 50) rfl) rfl, ⟨am_gm (List.mem_of_getElem? (i := 629) rfl) rfl, am_gm (List.mem_of_getElem? (i := 630) rfl) rfl, by decide +kernel⟩⟩
set_option maxRecDepth 100000 in
theorem am_g92 : am_good 92 am_m92 := ⟨9, by decide, rfl, rfl, by decide +kernel, rfl, by decide +kernel, am_gm (List.mem_of_getElem? (i := 637) rfl) rfl, am_gm (List.mem_of_getElem? (i := 42) rfl) rfl, ⟨am_gm (List.mem_of_getElem? (i := 635) rfl) rfl, am_gm (List.mem_of_getElem? (i := 636) rfl) rfl, by decide +kernel⟩⟩
set_option maxRecDepth 100000 in
theorem am_g93 : am_good 93 am_m93 := ⟨4, by decide, rfl, rfl, by decide +kernel, rfl, by decide +kernel, am_gm (List.mem_of_getElem? (i := 641) rfl) rfl, am_gm (List.mem_of_getElem? (i := 51) rfl) rfl, ⟨am_gm (List.mem_of_getElem? (i := 639) rfl) rfl, am_gm (List.mem_of_getElem? (i := 640) rfl) rfl, by decide +kernel⟩⟩
set_option maxRecDepth 100000 in
theorem am_g94 : am_good 94 am_m94 := ⟨4, by decide, rfl, rfl, by decide +kernel, rfl, by decide +kernel, am_gm (List.mem_of_getElem? (i := 647) rfl) rfl, am_gm (List.mem_of_getElem? (i := 51) rfl) rfl, ⟨am_gm (List.mem_of_getElem? (i := 645) rfl) rfl, am_gm (List.mem_of_getElem? (i := 646) rfl) rfl, by decide +kernel⟩⟩
set_option maxRecDepth 100000 in
theorem am_g95 : am_good 95 am_m95 := ⟨4, by decide, rfl, rfl, by decide +kernel, rfl, by decide +kernel, am_gm (List.mem_of_getElem? (i := 651) rfl) rfl, am_gm (List.mem_of_getElem? (i := 51) rfl) rfl, ⟨am_gm (List.mem_of_getElem? (i := 650) rfl) rfl, am_gm (List.mem_of_getElem? (i := 12) rfl) rfl, by decide +kernel⟩⟩
set_option maxRecDepth 100000 in
theorem am_g96 : am_good 96 am_m96 := ⟨4, by decide, rfl, rfl, by decide +kernel, rfl, by decide +kernel, am_gm (List.mem_of_getElem? (i := 655) rfl) rfl, am_gm (List.mem_of_getElem? (i := 51) rfl) rfl, ⟨am_gm (List.mem_of_getElem? (i := 654) rfl) rfl, am_gm (List.mem_of_getElem? (i := 13) rfl) rfl, by decide +kernel⟩⟩
set_option maxRecDepth 100000 in
theorem am_g97 : am_good 97 am_m97 := ⟨4, by decide, rfl, rfl, by decide +kernel, rfl, by decide +kernel, am_gm (List.mem_of_getElem? (i := 659) rfl) rfl, am_gm (List.mem_of_getElem? (i := 51) rfl) rfl, ⟨am_gm (List.mem_of_getElem? (i := 658) rfl) rfl, am_gm (List.mem_of_getElem? (i := 14) rfl) rfl, by decide +kernel⟩⟩
set_option maxRecDepth 100000 in
theorem am_g98 : am_good 98 am_m98 := ⟨4, by decide, rfl, rfl, by decide +kernel, rfl, by decide +kernel, am_gm (List.mem_of_getElem? (i := 663) rfl) rfl, am_gm (List.mem_of_getElem? (i := 51) rfl) rfl, ⟨am_gm (List.mem_of_getElem? (i := 662) rfl) rfl, am_gm (List.mem_of_getElem? (i := 15) rfl) rfl, by decide +kernel⟩⟩
set_option maxRecDepth 100000 in
theorem am_g99 : am_good 99 am_m99 := ⟨4, by decide, rfl, rfl, by decide +kernel, rfl, by decide +kernel, am_gm (List.mem_of_getElem? (i := 667) rfl) rfl, am_gm (List.mem_of_getElem? (i := 51) rfl) rfl, ⟨am_gm (List.mem_of_getElem? (i := 666) rfl) rfl, am_gm (List.mem_of_getElem? (i := 16) rfl) rfl, by decide +kernel⟩⟩
set_option maxRecDepth 100000 in
theorem am_g100 : am_good 100 am_m100 := ⟨4, by decide, rfl, rfl, by decide +kernel, rfl, by decide +kernel, am_gm (List.mem_of_getElem? (i := 671) rfl) rfl, am_gm (List.mem_of_getElem? (i := 51) rfl) rfl, ⟨am_gm (List.mem_of_getElem? (i := 669) rfl) rfl, am_gm (List.mem_of_getElem? (i := 670) rfl) rfl, by decide +kernel⟩⟩
set_option maxRecDepth 100000 in
theorem am_g101 : am_good 101 am_m101 := ⟨9, by decide, rfl, rfl, by decide +kernel, rfl, by decide +kernel, am_gm (List.mem_of_getElem? (i := 675) rfl) rfl, am_gm (List.mem_of_getElem? (i := 42) rfl) rfl, ⟨am_gm (List.mem_of_getElem? (i := 673) rfl) rfl, am_gm (List.mem_of_getElem? (i := 674) rfl) rfl, by decide +kernel⟩⟩
set_option maxRecDepth 100000 in
theorem am_g102 : am_good 102 am_m102 := ⟨7, by decide, rfl, rfl, by decide +kernel, rfl, by decide +kernel, am_gm (List.mem_of_getElem? (i := 679) rfl) rfl, am_gm (List.mem_of_getElem? (i := 52) rfl) rfl, ⟨am_gm (List.mem_of_getElem? (i := 677) rfl) rfl, am_gm (List.mem_of_getElem? (i := 678) rfl) rfl, by decide +kernel⟩⟩
set_option maxRecDepth 100000 in
theorem am_g103 : am_good 103 am_m103 := ⟨7, by decide, rfl, rfl, by decide +kernel, rfl, by decide +kernel, am_gm (List.mem_of_getElem? (i := 683) rfl) rfl, am_gm (List.mem_of_getElem? (i := 52) rfl) rfl, ⟨am_gm (List.mem_of_getElem? (i := 682) rfl) rfl, am_gm (List.mem_of_getElem? (i := 17) rfl) rfl, by decide +kernel⟩⟩
set_option maxRecDepth 100000 in
theorem am_g104 : am_good 104 am_m104 := ⟨7, by decide, rfl, rfl, by decide +kernel, rfl, by decide +kernel, am_gm (List.mem_of_getElem? (i := 690) rfl) rfl, am_gm (List.mem_of_getElem? (i := 52) rfl) rfl, ⟨am_gm (List.mem_of_getElem? (i := 689) rfl) rfl, am_gm (List.mem_of_getElem? (i := 18) rfl) rfl, by decide +kernel⟩⟩
set_option maxRecDepth 100000 in
theorem am_g105 : am_good 105 am_m105 := ⟨7, by decide, rfl, rfl, by decide +kernel, rfl, by decide +kernel, am_gm (List.mem_of_getElem? (i := 696) rfl) rfl, am_gm (List.mem_of_getElem? (i := 52) rfl) rfl, ⟨am_gm (List.mem_of_getElem? (i := 695) rfl) rfl, am_gm (List.mem_of_getElem? (i := 19) rfl) rfl, by decide +kernel⟩⟩
set_option maxRecDepth 100000 in
theorem am_g106 : am_good 106 am_m106 := ⟨7, by decide, rfl, rfl, by decide +kernel, rfl, by decide +kernel, am_gm (List.mem_of_getElem? (i := 704) rfl) rfl, am_gm (List.mem_of_getElem? (i := 52) rfl) rfl, ⟨am_gm (List.mem_of_getElem? (i := 702) rfl) rfl, am_gm (List.mem_of_getElem? (i := 703) rfl) rfl, by decide +kernel⟩⟩
set_option maxRecDepth 100000 in
theorem am_g107 : am_good 107 am_m107 := ⟨7, by decide, rfl, rfl, by decide +kernel, rfl, by decide +kernel, am_gm (List.mem_of_getElem? (i := 708) rfl) rfl, am_gm (List.mem_of_getElem? (i := 52) rfl) rfl, ⟨am_gm (List.mem_of_getElem? (i := 707) rfl) rfl, am_gm (List.mem_of_getElem? (i := 20) rfl) rfl, by decide +kernel⟩⟩
set_option maxRecDepth 100000 in
theorem am_g108 : am_good 108 am_m108 := ⟨4, by decide, rfl, rfl, by decide +kernel, rfl, by decide +kernel, am_gm (List.mem_of_getElem? (i := 712) rfl) rfl, am_gm (List.mem_of_getElem? (i := 51) rfl) rfl, ⟨am_gm (List.mem_of_getElem? (i := 710) rfl) rfl, am_gm (List.mem_of_getElem? (i := 711) rfl) rfl, by decide +kernel⟩⟩
set_option maxRecDepth 100000 in
theorem am_g109 : am_good 109 am_m109 := ⟨4, by decide, rfl, rfl, by decide +kernel, rfl, by decide +kernel, am_gm (List.mem_of_getElem? (i := 716) rfl) rfl, am_gm (List.mem_of_getElem? (i := 51) rfl) rfl, ⟨am_gm (List.mem_of_getElem? (i := 715) rfl) rfl, am_gm (List.mem_of_getElem? (i := 21) rfl) rfl, by decide +kernel⟩⟩
set_option maxRecDepth 100000 in
theorem am_g110 : am_good 110 am_m110 := ⟨7, by decide, rfl, rfl, by decide +kernel, rfl, by decide +kernel, am_gm (List.mem_of_getElem? (i := 720) rfl) rfl, am_gm (List.mem_of_getElem? (i := 52) rfl) rfl, ⟨am_gm (List.mem_of_getElem? (i := 719) rfl) rfl, am_gm (List.mem_of_getElem? (i := 22) rfl) rfl, by decide +kernel⟩⟩
set_option maxRecDepth 100000 in
theorem am_g111 : am_good 111 am_m111 := ⟨7, by decide, rfl, rfl, by decide +kernel, rfl, by decide +kernel, am_gm (List.mem_of_getElem? (i := 724) rfl) rfl, am_gm (List.mem_of_getElem? (i := 52) rfl) rfl, ⟨am_gm (List.mem_of_getElem? (i := 722) rfl) rfl, am_gm (List.mem_of_getElem? (i := 723) rfl) rfl, by decide +kernel⟩⟩
set_option maxRecDepth 100000 in
theorem am_g112 : am_good 112 am_m112 := ⟨7, by decide, rfl, rfl, by decide +kernel, rfl, by decide +kernel, am_gm (List.mem_of_getElem? (i := 728) rfl) rfl, am_gm (List.mem_of_getElem? (i := 52) rfl) rfl, ⟨am_gm (List.mem_of_getElem? (i := 727) rfl) rfl, am_gm (List.mem_of_getElem? (i := 23) rfl) rfl, by decide +kernel⟩⟩
set_option maxRecDepth 100000 in
theorem am_g113 : am_good 113 am_m113 := ⟨7, by decide, rfl, rfl, by decide +kernel, rfl, by decide +kernel, am_gm (List.mem_of_getElem? (i := 733) rfl) rfl, am_gm (List.mem_of_getElem? (i := 52) rfl) rfl, ⟨am_gm (List.mem_of_getElem? (i := 732) rfl) rfl, am_gm (List.mem_of_getElem? (i := 24) rfl) rfl, by decide +kernel⟩⟩
set_option maxRecDepth 100000 in
theorem am_g114 : am_good 114 am_m114 := ⟨9, by decide, rfl, rfl, by decide +kernel, rfl, by decide +kernel, am_gm (List.mem_of_getElem? (i := 739) rfl) rfl, am_gm (List.mem_of_getElem? (i := 42) rfl) rfl, ⟨am_gm (List.mem_of_getElem? (i := 737) rfl) rfl, am_gm (List.mem_of_getElem? (i := 738) rfl) rfl, by decide +kernel⟩⟩
set_option maxRecDepth 100000 in
theorem am_g115 : am_good 115 am_m115 := ⟨9, by decide, rfl, rfl, by decide +kernel, rfl, by decide +kernel, am_gm (List.mem_of_getElem? (i := 743) rfl) rfl, am_gm (List.mem_of_getElem? (i := 42) rfl) rfl, ⟨am_gm (List.mem_of_getElem? (i := 741) rfl) rfl, am_gm (List.mem_of_getElem? (i := 742) rfl) rfl, by decide +kernel⟩⟩
set_option maxRecDepth 100000 in
theorem am_g116 : am_good 116 am_m116 := ⟨7, by decide, rfl, rfl, by decide +kernel, rfl, by decide +kernel, am_gm (List.mem_of_getElem? (i := 747) rfl) rfl, am_gm (List.mem_of_getElem? (i := 52) rfl) rfl, ⟨am_gm (List.mem_of_getElem? (i := 745) rfl) rfl, am_gm (List.mem_of_getElem? (i := 746) rfl) rfl, by decide +kernel⟩⟩
set_option maxRecDepth 100000 in
theorem am_g117 : am_good 117 am_m117 := ⟨7, by decide, rfl, rfl, by decide +kernel, rfl, by decide +kernel, am_gm (List.mem_of_getElem? (i := 751) rfl) rfl, am_gm (List.mem_of_getElem? (i := 52) rfl) rfl, ⟨am_gm (List.mem_of_getElem? (i := 750) rfl) rfl, am_gm (List.mem_of_getElem? (i := 25) rfl) rfl, by decide +kernel⟩⟩
set_option maxRecDepth 100000 in
theorem am_g118 : am_good 118 am_m118 := ⟨7, by decide, rfl, rfl, by decide +kernel, rfl, by decide +kernel, am_gm (List.mem_of_getElem? (i := 754) rfl) rfl, am_gm (List.mem_of_getElem? (i := 52) rfl) rfl, ⟨am_gm (List.mem_of_getElem? (i := 753) rfl) rfl, by decide +kernel⟩⟩
set_option maxRecDepth 100000 in
theorem am_g119 : am_good 119 am_m119 := ⟨7, by decide, rfl, rfl, by decide +kernel, rfl, by decide +kernel, am_gm (List.mem_of_getElem? (i := 763) rfl) rfl, am_gm (List.mem_of_getElem? (i := 52) rfl) rfl, ⟨am_gm (List.mem_of_getElem? (i := 762) rfl) rfl, am_gm (List.mem_of_getElem? (i := 26) rfl) rfl, by decide +kernel⟩⟩
set_option maxRecDepth 100000 in
theorem am_g120 : am_good 120 am_m120 := ⟨9, by decide, rfl, rfl, by decide +kernel, rfl, by decide +kernel, am_gm (List.mem_of_getElem? (i := 768) rfl) rfl, am_gm (List.mem_of_getElem? (i := 42) rfl) rfl, ⟨am_gm (List.mem_of_getElem? (i := 766) rfl) rfl, am_gm (List.mem_of_getElem? (i := 767) rfl) rfl, by decide +kernel⟩⟩
set_option maxRecDepth 100000 in
theorem am_g121 : am_good 121 am_m121 := ⟨7, by decide, rfl, rfl, by decide +kernel, rfl, by decide +kernel, am_gm (List.mem_of_getElem? (i := 776) rfl) rfl, am_gm (List.mem_of_getElem? (i := 52) rfl) rfl, ⟨am_gm (List.mem_of_getElem? (i := 774) rfl) rfl, am_gm (List.mem_of_getElem? (i := 775) rfl) rfl, by decide +kernel⟩⟩
set_option maxRecDepth 100000 in
theorem am_g122 : am_good 122 am_m122 := ⟨7, by decide, rfl, rfl, by decide +kernel, rfl, by decide +kernel, am_gm (List.mem_of_getElem? (i := 781) rfl) rfl, am_gm (List.mem_of_getElem? (i := 52) rfl) rfl, ⟨am_gm (List.mem_of_getElem? (i := 779) rfl) rfl, am_gm (List.mem_of_getElem? (i := 780) rfl) rfl, by decide +kernel⟩⟩
set_option maxRecDepth 100000 in
theorem am_g123 : am_good 123 am_m123 := ⟨9, by decide, rfl, rfl, by decide +kernel, rfl, by decide +kernel, am_gm (List.mem_of_getElem? (i := 785) rfl) rfl, am_gm (List.mem_of_getElem? (i := 42) rfl) rfl, ⟨am_gm (List.mem_of_getElem? (i := 783) rfl) rfl, am_gm (List.mem_of_getElem? (i := 784) rfl) rfl, by decide +kernel⟩⟩
set_option maxRecDepth 100000 in
theorem am_g124 : am_good 124 am_m124 := ⟨7, by decide, rfl, rfl, by decide +kernel, rfl, by decide +kernel, am_gm (List.mem_of_getElem? (i := 789) rfl) rfl, am_gm (List.mem_of_getElem? (i := 52) rfl) rfl, ⟨am_gm (List.mem_of_getElem? (i := 787) rfl) rfl, am_gm (List.mem_of_getElem? (i := 788) rfl) rfl, by decide +kernel⟩⟩
set_option maxRecDepth 100000 in
theorem am_g125 : am_good 125 am_m125 := ⟨9, by decide, rfl, rfl, by decide +kernel, rfl, by decide +kernel, am_gm (List.mem_of_getElem? (i := 793) rfl) rfl, am_gm (List.mem_of_getElem? (i := 42) rfl) rfl, ⟨am_gm (List.mem_of_getElem? (i := 792) rfl) rfl, am_gm (List.mem_of_getElem? (i := 28) rfl) rfl, by decide +kernel⟩⟩
set_option maxRecDepth 100000 in
theorem am_g126 : am_good 126 am_m126 := ⟨9, by decide, rfl, rfl, by decide +kernel, rfl, by decide +kernel, am_gm (List.mem_of_getElem? (i := 796) rfl) rfl, am_gm (List.mem_of_getElem? (i := 42) rfl) rfl, ⟨am_gm (List.mem_of_getElem? (i := 795) rfl) rfl, by decide +kernel⟩⟩
set_option maxRecDepth 100000 in
theorem am_g127 : am_good 127 am_m127 := ⟨9, by decide, rfl, rfl, by decide +kernel, rfl, by decide +kernel, am_gm (List.mem_of_getElem? (i := 800) rfl) rfl, am_gm (List.mem_of_getElem? (i := 42) rfl) rfl, ⟨am_gm (List.mem_of_getElem? (i := 798) rfl) rfl, am_gm (List.mem_of_getElem? (i := 799) rfl) rfl, by decide +kernel⟩⟩
set_option maxRecDepth 100000 in
theorem am_g128 : am_good 128 am_m128 := ⟨9, by decide, rfl, rfl, by decide +kernel, rfl, by decide +kernel, am_gm (List.mem_of_getElem? (i := 806) rfl) rfl, am_gm (List.mem_of_getElem? (i := 42) rfl) rfl, ⟨am_gm (List.mem_of_getElem? (i := 804) rfl) rfl, am_gm (List.mem_of_getElem? (i := 805) rfl) rfl, by decide +kernel⟩⟩
set_option maxRecDepth 100000 in
theorem am_g129 : am_good 129 am_m129 := ⟨7, by decide, rfl, rfl, by decide +kernel, rfl, by decide +kernel, am_gm (List.mem_of_getElem? (i := 810) rfl) rfl, am_gm (List.mem_of_getElem? (i := 52) rfl) rfl, ⟨am_gm (List.mem_of_getElem? (i := 808) rfl) rfl, am_gm (List.mem_of_getElem? (i := 809) rfl) rfl, by decide +kernel⟩⟩
set_option maxRecDepth 100000 in
theorem am_g130 : am_good 130 am_m130 := ⟨9, by decide, rfl, rfl, by decide +kernel, rfl, by decide +kernel, am_gm (List.mem_of_getElem? (i := 814) rfl) rfl, am_gm (List.mem_of_getElem? (i := 42) rfl) rfl, ⟨am_gm (List.mem_of_getElem? (i := 812) rfl) rfl, am_gm (List.mem_of_getElem? (i := 813) rfl) rfl, by decide +kernel⟩⟩
set_option maxRecDepth 100000 in
theorem am_g131 : am_good 131 am_m131 := ⟨5, by decide, rfl, rfl, by decide +kernel, rfl, by decide +kernel, am_gm (List.mem_of_getElem? (i := 818) rfl) rfl, am_gm (List.mem_of_getElem? (i := 53) rfl) rfl, ⟨am_gm (List.mem_of_getElem? (i := 816) rfl) rfl, am_gm (List.mem_of_getElem? (i := 817) rfl) rfl, by decide +kernel⟩⟩
set_option maxRecDepth 100000 in
theorem am_g132 : am_good 132 am_m132 := ⟨9, by decide, rfl, rfl, by decide +kernel, rfl, by decide +kernel, am_gm (List.mem_of_getElem? (i := 469) rfl) rfl, am_gm (List.mem_of_getElem? (i := 42) rfl) rfl, ⟨am_gm (List.mem_of_getElem? (i := 468) rfl) rfl, by decide +kernel⟩⟩
set_option maxRecDepth 100000 in
theorem am_g133 : am_good 133 am_m133 := ⟨9, by decide, rfl, rfl, by decide +kernel, rfl, by decide +kernel, am_gm (List.mem_of_getElem? (i := 469) rfl) rfl, am_gm (List.mem_of_getElem? (i := 42) rfl) rfl, ⟨am_gm (List.mem_of_getElem? (i := 468) rfl) rfl, by decide +kernel⟩⟩
set_option maxRecDepth 100000 in
theorem am_g134 : am_good 134 am_m134 := ⟨9, by decide, rfl, rfl, by decide +kernel, rfl, by decide +kernel, am_gm (List.mem_of_getElem? (i := 469) rfl) rfl, am_gm (List.mem_of_getElem? (i := 42) rfl) rfl, ⟨am_gm (List.mem_of_getElem? (i := 468) rfl) rfl, by decide +kernel⟩⟩
set_option maxRecDepth 100000 in
theorem am_g135 : am_good 135 am_m135 := ⟨9, by decide, rfl, rfl, by decide +kernel, rfl, by decide +kernel, am_gm (List.mem_of_getElem? (i := 469) rfl) rfl, am_gm (List.mem_of_getElem? (i := 42) rfl) rfl, ⟨am_gm (List.mem_of_getElem? (i := 468) rfl) rfl, by decide +kernel⟩⟩
set_option maxRecDepth 100000 in
theorem am_g136 : am_good 136 am_m136 := ⟨9, by decide, rfl, rfl, by decide +kernel, rfl, by decide +kernel, am_gm (List.mem_of_getElem? (i := 469) rfl) rfl, am_gm (List.mem_of_getElem? (i := 42) rfl) rfl, ⟨am_gm (List.mem_of_getElem? (i := 468) rfl) rfl, by decide +kernel⟩⟩
set_option maxRecDepth 100000 in
theorem am_g137 : am_good 137 am_m137 := ⟨9, by decide, rfl, rfl, by decide +kernel, rfl, by decide +kernel, am_gm (List.mem_of_getElem? (i := 469) rfl) rfl, am_gm (List.mem_of_getElem? (i := 42) rfl) rfl, ⟨am_gm (List.mem_of_getElem? (i := 468) rfl) rfl, by decide +kernel⟩⟩
set_option maxRecDepth 100000 in
theorem am_g138 : am_good 138 am_m138 := ⟨5, by decide, rfl, rfl, by decide +kernel, rfl, by decide +kernel, am_gm (List.mem_of_getElem? (i := 826) rfl) rfl, am_gm (List.mem_of_getElem? (i := 53) rfl) rfl, ⟨am_gm (List.mem_of_getElem? (i := 824) rfl) rfl, am_gm (List.mem_of_getElem? (i := 825) rfl) rfl, by decide +kernel⟩⟩
set_option maxRecDepth 100000 in
theorem am_g139 : am_good 139 am_m139 := ⟨5, by decide, rfl, rfl, by decide +kernel, rfl, by decide +kernel, am_gm (List.mem_of_getElem? (i := 831) rfl) rfl, am_gm (List.mem_of_getElem? (i := 53) rfl) rfl, ⟨am_gm (List.mem_of_getElem? (i := 830) rfl) rfl, am_gm (List.mem_of_getElem? (i := 29) rfl) rfl, by decide +kernel⟩⟩
set_option maxRecDepth 100000 in
theorem am_g140 : am_good 140 am_m140 := ⟨5, by decide, rfl, rfl, by decide +kernel, rfl, by decide +kernel, am_gm (List.mem_of_getElem? (i := 835) rfl) rfl, am_gm (List.mem_of_getElem? (i := 53) rfl) rfl, ⟨am_gm (List.mem_of_getElem? (i := 834) rfl) rfl, am_gm (List.mem_of_getElem? (i := 30) rfl) rfl, by decide +kernel⟩⟩
set_option maxRecDepth 100000 in
theorem am_g141 : am_good 141 am_m141 := ⟨5, by decide, rfl, rfl, by decide +kernel, rfl, by decide +kernel, am_gm (List.mem_of_getElem? (i := 839) rfl) rfl, am_gm (List.mem_of_getElem? (i := 53) rfl) rfl, ⟨am_gm (List.mem_of_getElem? (i := 838) rfl) rfl, am_gm (List.mem_of_getElem? (i := 31) rfl) rfl, by decide +kernel⟩⟩
set_option maxRecDepth 100000 in
theorem am_g142 : am_good 142 am_m142 := ⟨5, by decide, rfl, rfl, by decide +kernel, rfl, by decide +kernel, am_gm (List.mem_of_getElem? (i := 843) rfl) rfl, am_gm (List.mem_of_getElem? (i := 53) rfl) rfl, ⟨am_gm (List.mem_of_getElem? (i := 842) rfl) rfl, am_gm (List.mem_of_getElem? (i := 32) rfl) rfl, by decide +kernel⟩⟩
set_option maxRecDepth 100000 in
theorem am_g143 : am_good 143 am_m143 := ⟨9, by decide, rfl, rfl, by decide +kernel, rfl, by decide +kernel, am_gm (List.mem_of_getElem? (i := 822) rfl) rfl, am_gm (List.mem_of_getElem? (i := 42) rfl) rfl, ⟨am_gm (List.mem_of_getElem? (i := 820) rfl) rfl, am_gm (List.mem_of_getElem? (i := 821) rfl) rfl, by decide +kernel⟩⟩
set_option maxRecDepth 100000 in
theorem am_g144 : am_good 144 am_m144 := ⟨5, by decide, rfl, rfl, by decide +kernel, rfl, by decide +kernel, am_gm (List.mem_of_getElem? (i := 847) rfl) rfl, am_gm (List.mem_of_getElem? (i := 53) rfl) rfl, ⟨am_gm (List.mem_of_getElem? (i := 845) rfl) rfl, am_gm (List.mem_of_getElem? (i := 846) rfl) rfl, by decide +kernel⟩⟩
set_option maxRecDepth 100000 in
theorem am_g145 : am_good 145 am_m145 := ⟨9, by decide, rfl, rfl, by decide +kernel, rfl, by decide +kernel, am_gm (List.mem_of_getElem? (i := 469) rfl) rfl, am_gm (List.mem_of_getElem? (i := 42) rfl) rfl, ⟨am_gm (List.mem_of_getElem? (i := 468) rfl) rfl, by decide +kernel⟩⟩
set_option maxRecDepth 100000 in
theorem am_g146 : am_good 146 am_m146 := ⟨9, by decide, rfl, rfl, by decide +kernel, rfl, by decide +kernel, am_gm (List.mem_of_getElem? (i := 469) rfl) rfl, am_gm (List.mem_of_getElem? (i := 42) rfl) rfl, ⟨am_gm (List.mem_of_getElem? (i := 468) rfl) rfl, by decide +kernel⟩⟩
set_option maxRecDepth 100000 in
theorem am_g147 : am_good 147 am_m147 := ⟨9, by decide, rfl, rfl, by decide +kernel, rfl, by decide +kernel, am_gm (List.mem_of_getElem? (i := 469) rfl) rfl, am_gm (List.mem_of_getElem? (i := 42) rfl) rfl, ⟨am_gm (List.mem_of_getElem? (i := 468) rfl) rfl, by decide +kernel⟩⟩
set_option maxRecDepth 100000 in
theorem am_g148 : am_good 148 am_m148 := ⟨9, by decide, rfl, rfl, by decide +kernel, rfl, by decide +kernel, am_gm (List.mem_of_getElem? (i := 469) rfl) rfl, am_gm (List.mem_of_getElem? (i := 42) rfl) rfl, ⟨am_gm (List.mem_of_getElem? (i := 468) rfl) rfl, by decide +kernel⟩⟩
set_option maxRecDepth 100000 in
theorem am_g149 : am_good 149 am_m149 := ⟨9, by decide, rfl, rfl, by decide +kernel, rfl, by decide +kernel, am_gm (List.mem_of_getElem? (i := 469) rfl) rfl, am_gm (List.mem_of_getElem? (i := 42) rfl) rfl, ⟨am_gm (List.mem_of_getElem? (i := 468) rfl) rfl, by decide +kernel⟩⟩
set_option maxRecDepth 100000 in
theorem am_g150 : am_good 150 am_m150 := ⟨9, by decide, rfl, rfl, by decide +kernel, rfl, by decide +kernel, am_gm (List.mem_of_getElem? (i := 469) rfl) rfl, am_gm (List.mem_of_getElem? (i := 42) rfl) rfl, ⟨am_gm (List.mem_of_getElem? (i := 468) rfl) rfl, by decide +kernel⟩⟩
set_option maxRecDepth 100000 in
theorem am_g151 : am_good 151 am_m151 := ⟨9, by decide, rfl, rfl, by decide +kernel, rfl, by decide +kernel, am_gm (List.mem_of_getElem? (i := 469) rfl) rfl, am_gm (List.mem_of_getElem? (i := 42) rfl) rfl, ⟨am_gm (List.mem_of_getElem? (i := 468) rfl) rfl, by decide +kernel⟩⟩
set_option maxRecDepth 100000 in
theorem am_g152 : am_good 152 am_m152 := ⟨9, by decide, rfl, rfl, by decide +kernel, rfl, by decide +kernel, am_gm (List.mem_of_getElem? (i := 852) rfl) rfl, am_gm (List.mem_of_getElem? (i := 42) rfl) rfl, ⟨am_gm (List.mem_of_getElem? (i := 850) rfl) rfl, am_gm (List.mem_of_getElem? (i := 851) rfl) rfl, by decide +kernel⟩⟩
set_option maxRecDepth 100000 in
theorem am_g153 : am_good 153 am_m153 := ⟨2, by decide, rfl, rfl, by decide +kernel, rfl, by decide +kernel, am_gm (List.mem_of_getElem? (i := 856) rfl) rfl, am_gm (List.mem_of_getElem? (i := 50) rfl) rfl, ⟨am_gm (List.mem_of_getElem? (i := 854) rfl) rfl, am_gm (List.mem_of_getElem? (i := 855) rfl) rfl, by decide +kernel⟩⟩
set_option maxRecDepth 100000 in
theorem am_g154 : am_good 154 am_m154 := ⟨9, by decide, rfl, rfl, by decide +kernel, rfl, by decide +kernel, am_gm (List.mem_of_getElem? (i := 860) rfl) rfl, am_gm (List.mem_of_getElem? (i := 42) rfl) rfl, ⟨am_gm (List.mem_of_getElem? (i := 858) rfl) rfl, am_gm (List.mem_of_getElem? (i := 859) rfl) rfl, by decide +kernel⟩⟩
set_option maxRecDepth 100000 in
theorem am_g155 : am_good 155 am_m155 := ⟨2, by decide, rfl, rfl, by decide +kernel, rfl, by decide +kernel, am_gm (List.mem_of_getElem? (i := 864) rfl) rfl, am_gm (List.mem_of_getElem? (i := 50) rfl) rfl, ⟨am_gm (List.mem_of_getElem? (i := 862) rfl) rfl, am_gm (List.mem_of_getElem? (i := 863) rfl) rfl, by decide +kernel⟩⟩
set_option maxRecDepth 100000 in
theorem am_g156 : am_good 156 am_m156 := ⟨9, by decide, rfl, rfl, by decide +kernel, rfl, by decide +kernel, am_gm (List.mem_of_getElem? (i := 469) rfl) rfl, am_gm (List.mem_of_getElem? (i := 42) rfl) rfl, ⟨am_gm (List.mem_of_getElem? (i := 468) rfl) rfl, by decide +kernel⟩⟩
set_option maxRecDepth 100000 in
theorem am_g157 : am_good 157 am_m157 := ⟨9, by decide, rfl, rfl, by decide +kernel, rfl, by decide +kernel, am_gm (List.mem_of_getElem? (i := 469) rfl) rfl, am_gm (List.mem_of_getElem? (i := 42) rfl) rfl, ⟨am_gm (List.mem_of_getElem? (i := 468) rfl) rfl, by decide +kernel⟩⟩
set_option maxRecDepth 100000 in
theorem am_g158 : am_good 158 am_m158 := ⟨9, by decide, rfl, rfl, by decide +kernel, rfl, by decide +kernel, am_gm (List.mem_of_getElem? (i := 869) rfl) rfl, am_gm (List.mem_of_getElem? (i := 42) rfl) rfl, ⟨am_gm (List.mem_of_getElem? (i := 867) rfl) rfl, am_gm (List.mem_of_getElem? (i := 868) rfl) rfl, by decide +kernel⟩⟩
set_option maxRecDepth 100000 in
theorem am_g159 : am_good 159 am_m159 := ⟨9, by decide, rfl, rfl, by decide +kernel, rfl, by decide +kernel, am_gm (List.mem_of_getElem? (i := 873) rfl) rfl, am_gm (List.mem_of_getElem? (i := 42) rfl) rfl, ⟨am_gm (List.mem_of_getElem? (i := 871) rfl) rfl, am_gm (List.mem_of_getElem? (i := 872) rfl) rfl, by decide +kernel⟩⟩
set_option maxRecDepth 100000 in
theorem am_g160 : am_good 160 am_m160 := ⟨9, by decide, rfl, rfl, by decide +kernel, rfl, by decide +kernel, am_gm (List.mem_of_getElem? (i := 877) rfl) rfl, am_gm (List.mem_of_getElem? (i := 42) rfl) rfl, ⟨am_gm (List.mem_of_getElem? (i := 875) rfl) rfl, am_gm (List.mem_of_getElem? (i := 876) rfl) rfl, by decide +kernel⟩⟩
set_option maxRecDepth 100000 in
theorem am_g161 : am_good 161 am_m161 := ⟨9, by decide, rfl, rfl, by decide +kernel, rfl, by decide +kernel, am_gm (List.mem_of_getElem? (i := 881) rfl) rfl, am_gm (List.mem_of_getElem? (i := 42) rfl) rfl, ⟨am_gm (List.mem_of_getElem? (i := 879) rfl) rfl, am_gm (List.mem_of_getElem? (i := 880) rfl) rfl, by decide +kernel⟩⟩
set_option maxRecDepth 100000 in
theorem am_g162 : am_good 162 am_m162 := ⟨9, by decide, rfl, rfl, by decide +kernel, rfl, by decide +kernel, am_gm (List.mem_of_getElem? (i := 469) rfl) rfl, am_gm (List.mem_of_getElem? (i := 42) rfl) rfl, ⟨am_gm (List.mem_of_getElem? (i := 468) rfl) rfl, by decide +kernel⟩⟩
set_option maxRecDepth 100000 in
theorem am_g163 : am_good 163 am_m163 := ⟨9, by decide, rfl, rfl, by decide +kernel, rfl, by decide +kernel, am_gm (List.mem_of_getElem? (i := 469) rfl) rfl, am_gm (List.mem_of_getElem? (i := 42) rfl) rfl, ⟨am_gm (List.mem_of_getElem? (i := 468) rfl) rfl, by decide +kernel⟩⟩
set_option maxRecDepth 100000 in
theorem am_g164 : am_good 164 am_m164 := ⟨9, by decide, rfl, rfl, by decide +kernel, rfl, by decide +kernel, am_gm (List.mem_of_getElem? (i := 469) rfl) rfl, am_gm (List.mem_of_getElem? (i := 42) rfl) rfl, ⟨am_gm (List.mem_of_getElem? (i := 468) rfl) rfl, by decide +kernel⟩⟩
set_option maxRecDepth 100000 in
theorem am_g165 : am_good 165 am_m165 := ⟨9, by decide, rfl, rfl, by decide +kernel, rfl, by decide +kernel, am_gm (List.mem_of_getElem? (i := 469) rfl) rfl, am_gm (List.mem_of_getElem? (i := 42) rfl) rfl, ⟨am_gm (List.mem_of_getElem? (i := 468) rfl) rfl, by decide +kernel⟩⟩
set_option maxRecDepth 100000 in
theorem am_g166 : am_good 166 am_m166 := ⟨9, by decide, rfl, rfl, by decide +kernel, rfl, by decide +kernel, am_gm (List.mem_of_getElem? (i := 469) rfl) rfl, am_gm (List.mem_of_getElem? (i := 42) rfl) rfl, ⟨am_gm (List.mem_of_getElem? (i := 468) rfl) rfl, by decide +kernel⟩⟩
set_option maxRecDepth 100000 in
theorem am_g167 : am_good 167 am_m167 := ⟨9, by decide, rfl, rfl, by decide +kernel, rfl, by decide +kernel, am_gm (List.mem_of_getElem? (i := 469) rfl) rfl, am_gm (List.mem_of_getElem? (i := 42) rfl) rfl, ⟨am_gm (List.mem_of_getElem? (i := 468) rfl) rfl, by decide +kernel⟩⟩
set_option maxRecDepth 100000 in
theorem am_g168 : am_good 168 am_m168 := ⟨9, by decide, rfl, rfl, by decide +kernel, rfl, by decide +kernel, am_gm (List.mem_of_getElem? (i := 469) rfl) rfl, am_gm (List.mem_of_getElem? (i := 42) rfl) rfl, ⟨am_gm (List.mem_of_getElem? (i := 468) rfl) rfl, by decide +kernel⟩⟩
set_option maxRecDepth 100000 in
theorem am_g169 : am_good 169 am_m169 := ⟨9, by decide, rfl, rfl, by decide +kernel, rfl, by decide +kernel, am_gm (List.mem_of_getElem? (i := 469) rfl) rfl, am_gm (List.mem_of_getElem? (i := 42) rfl) rfl, ⟨am_gm (List.mem_of_getElem? (i := 468) rfl) rfl, by decide +kernel⟩⟩
set_option maxRecDepth 100000 in
theorem am_g170 : am_good 170 am_m170 := ⟨9, by decide, rfl, rfl, by decide +kernel, rfl, by decide +kernel, am_gm (List.mem_of_getElem? (i := 469) rfl) rfl, am_gm (List.mem_of_getElem? (i := 42) rfl) rfl, ⟨am_gm (List.mem_of_getElem? (i := 468) rfl) rfl, by decide +kernel⟩⟩
set_option maxRecDepth 100000 in
theorem am_g171 : am_good 171 am_m171 := ⟨9, by decide, rfl, rfl, by decide +kernel, rfl, by decide +kernel, am_gm (List.mem_of_getElem? (i := 469) rfl) rfl, am_gm (List.mem_of_getElem? (i := 42) rfl) rfl, ⟨am_gm (List.mem_of_getElem? (i := 468) rfl) rfl, by decide +kernel⟩⟩
set_option maxRecDepth 100000 in
theorem am_g172 : am_good 172 am_m172 := ⟨11, by decide, rfl, rfl, by decide +kernel, rfl, by decide +kernel, am_gm (List.mem_of_getElem? (i := 884) rfl) rfl, am_gm (List.mem_of_getElem? (i := 41) rfl) rfl, ⟨am_gm (List.mem_of_getElem? (i := 883) rfl) rfl, by decide +kernel⟩⟩
set_option maxRecDepth 100000 in
theorem am_g173 : am_good 173 am_m173 := ⟨11, by decide, rfl, rfl, by decide +kernel, rfl, by decide +kernel, am_gm (List.mem_of_getElem? (i := 888) rfl) rfl, am_gm (List.mem_of_getElem? (i := 41) rfl) rfl, ⟨am_gm (List.mem_of_getElem? (i := 887) rfl) rfl, by decide +kernel⟩⟩
set_option maxRecDepth 100000 in
theorem am_g174 : am_good 174 am_m174 := ⟨11, by decide, rfl, rfl, by decide +kernel, rfl, by decide +kernel, am_gm (List.mem_of_getElem? (i := 892) rfl) rfl, am_gm (List.mem_of_getElem? (i := 41) rfl) rfl, ⟨am_gm (List.mem_of_getElem? (i := 891) rfl) rfl, by decide +kernel⟩⟩
set_option maxRecDepth 100000 in
theorem am_g175 : am_good 175 am_m175 := ⟨11, by decide, rfl, rfl, by decide +kernel, rfl, by decide +kernel, am_gm (List.mem_of_getElem? (i := 895) rfl) rfl, am_gm (List.mem_of_getElem? (i := 41) rfl) rfl, ⟨am_gm (List.mem_of_getElem? (i := 894) rfl) rfl, by decide +kernel⟩⟩
set_option maxRecDepth 100000 in
theorem am_g176 : am_good 176 am_m176 := ⟨11, by decide, rfl, rfl, by decide +kernel, rfl, by decide +kernel, am_gm (List.mem_of_getElem? (i := 969) rfl) rfl, am_gm (List.mem_of_getElem? (i := 41) rfl) rfl, ⟨am_gm (List.mem_of_getElem? (i := 968) rfl) rfl, by decide +kernel⟩⟩
set_option maxRecDepth 100000 in
theorem am_g177 : am_good 177 am_m177 := ⟨11, by decide, rfl, rfl, by decide +kernel, rfl, by decide +kernel, am_gm (List.mem_of_getElem? (i := 972) rfl) rfl, am_gm (List.mem_of_getElem? (i := 41) rfl) rfl, ⟨am_gm (List.mem_of_getElem? (i := 971) rfl) rfl, by decide +kernel⟩⟩
set_option maxRecDepth 100000 in
theorem am_g178 : am_good 178 am_m178 := ⟨11, by decide, rfl, rfl, by decide +kernel, rfl, by decide +kernel, am_gm (List.mem_of_getElem? (i := 975) rfl) rfl, am_gm (List.mem_of_getElem? (i := 41) rfl) rfl, ⟨am_gm (List.mem_of_getElem? (i := 974) rfl) rfl, by decide +kernel⟩⟩
set_option maxRecDepth 100000 in
theorem am_gall : ∀ (j : Nat) (m : am_M), am_meths[j]? = some m → j ≠ 0 → am_good j m := by
  intro j m h hj
  match j with
  | 0 => exact absurd rfl hj
  | 1 => cases h; exact am_g1
  | 2 => cases h; exact am_g2
  | 3 => cases h; exact am_g3
  | 4 => cases h; exact am_g4
  | 5 => cases h; exact am_g5
  | 6 => cases h; exact am_g6
  | 7 => cases h; exact am_g7
  | 8 => cases h; exact am_g8
  | 9 => cases h; exact am_g9
  | 10 => cases h; exact am_g10
  | 11 => cases h; exact am_g11
  | 12 => cases h; exact am_g12
  | 13 => cases h; exact am_g13
  | 14 => cases h; exact am_g14
  | 15 => cases h; exact am_g15
  | 16 => cases h; exact am_g16
  | 17 => cases h; exact am_g17
  | 18 => cases h; exact am_g18
  | 19 => cases h; exact am_g19
  | 20 => cases h; exact am_g20
  | 21 => cases h; exact am_g21
  | 22 => cases h; exact am_g22
  | 23 => cases h; exact am_g23
  | 24 => cases h; exact am_g24
  | 25 => cases h; exact am_g25
  | 26 => cases h; exact am_g26
  | 27 => cases h; exact am_g27
  | 28 => cases h; exact am_g28
  | 29 => cases h; exact am_g29
  | 30 => cases h; exact am_g30
  | 31 => cases h; exact am_g31
  | 32 => cases h; exact am_g32
  | 33 => cases h; exact am_g33
  | 34 => cases h; exact am_g34
  | 35 => cases h; exact am_g35
  | 36 => cases h; exact am_g36
  | 37 => cases h; exact am_g37
  | 38 => cases h; exact am_g38
  | 39 => cases h; exact am_g39
  | 40 => cases h; exact am_g40
  | 41 => cases h; exact am_g41
  | 42 => cases h; exact am_g42
  | 43 => cases h; exact am_g43
  | 44 => cases h; exact am_g44
  | 45 => cases h; exact am_g45
  | 46 => cases h; exact am_g46
  | 47 => cases h; exact am_g47
  | 48 => cases h; exact am_g48
  | 49 => cases h; exact am_g49
  | 50 => cases h; exact am_g50
  | 51 => cases h; exact am_g51
  | 52 => cases h; exact am_g52
  | 53 => cases h; exact am_g53
  | 54 => cases h; exact am_g54
  | 55 => cases h; exact am_g55
  | 56 => cases h; exact am_g56
  | 57 => cases h; exact am_g57
  | 58 => cases h; exact am_g58
  | 59 => cases h; exact am_g59
  | 60 => cases h; exact am_g60
  | 61 => cases h; exact am_g61
  | 62 => cases h; exact am_g62
  | 63 => cases h; exact am_g63
  | 64 => cases h; exact am_g64
  | 65 => cases h; exact am_g65
  | 66 => cases h; exact am_g66
  | 67 => cases h; exact am_g67
  | 68 => cases h; exact am_g68
  | 69 => cases h; exact am_g69
  | 70 => cases h; exact am_g70
  | 71 => cases h; exact am_g71
  | 72 => cases h; exact am_g72
  | 73 => cases h; exact am_g73
  | 74 => cases h; exact am_g74
  | 75 => cases h; exact am_g75
  | 76 => cases h; exact am_g76
  | 77 => cases h; exact am_g77
  | 78 => cases h; exact am_g78
  | 79 => cases h; exact am_g79
  | 80 => cases h; exact am_g80
  | 81 => cases h; exact am_g81
  | 82 => cases h; exact am_g82
  | 83 => cases h; exact am_g83
  | 84 => cases h; exact am_g84
  | 85 => cases h; exact am_g85
  | 86 => cases h; exact am_g86
  | 87 => cases h; exact am_g87
  | 88 => cases h; exact am_g88
  | 89 => cases h; exact am_g89
  | 90 => cases h; exact am_g90
  | 91 => cases h; exact am_g91
  | 92 => cases h; exact am_g92
  | 93 => cases h; exact am_g93
  | 94 => cases h; exact am_g94
  | 95 => cases h; exact am_g95
  | 96 => cases h; exact am_g96
  | 97 => cases h; exact am_g97
  | 98 => cases h; exact am_g98
  | 99 => cases h; exact am_g99
  | 100 => cases h; exact am_g100
  | 101 => cases h; exact am_g101
  | 102 => cases h; exact am_g102
  | 103 => cases h; exact am_g103
  | 104 => cases h; exact am_g104
  | 105 => cases h; exact am_g105
  | 106 => cases h; exact am_g106
  | 107 => cases h; exact am_g107
  | 108 => cases h; exact am_g108
  | 109 => cases h; exact am_g109
  | 110 => cases h; exact am_g110
  | 111 => cases h; exact am_g111
  | 112 => cases h; exact am_g112
  | 113 => cases h; exact am_g113
  | 114 => cases h; exact am_g114
  | 115 => cases h; exact am_g115
  | 116 => cases h; exact am_g116
  | 117 => cases h; exact am_g117
  | 118 => cases h; exact am_g118
  | 119 => cases h; exact am_g119
  | 120 => cases h; exact am_g120
  | 121 => cases h; exact am_g121
  | 122 => cases h; exact am_g122
  | 123 => cases h; exact am_g123
  | 124 => cases h; exact am_g124
  | 125 => cases h; exact am_g125
  | 126 => cases h; exact am_g126
  | 127 => cases h; exact am_g127
  | 128 => cases h; exact am_g128
  | 129 => cases h; exact am_g129
  | 130 => cases h; exact am_g130
  | 131 => cases h; exact am_g131
  | 132 => cases h; exact am_g132
  | 133 => cases h; exact am_g133
  | 134 => cases h; exact am_g134
  | 135 => cases h; exact am_g135
  | 136 => cases h; exact am_g136
  | 137 => cases h; exact am_g137
  | 138 => cases h; exact am_g138
  | 139 => cases h; exact am_g139
  | 140 => cases h; exact am_g140
  | 141 => cases h; exact am_g141
  | 142 => cases h; exact am_g142
  | 143 => cases h; exact am_g143
  | 144 => cases h; exact am_g144
  | 145 => cases h; exact am_g145
  | 146 => cases h; exact am_g146
  | 147 => cases h; exact am_g147
  | 148 => cases h; exact am_g148
  | 149 => cases h; exact am_g149
  | 150 => cases h; exact am_g150
  | 151 => cases h; exact am_g151
  | 152 => cases h; exact am_g152
  | 153 => cases h; exact am_g153
  | 154 => cases h; exact am_g154
  | 155 => cases h; exact am_g155
  | 156 => cases h; exact am_g156
  | 157 => cases h; exact am_g157
  | 158 => cases h; exact am_g158
  | 159 => cases h; exact am_g159
  | 160 => cases h; exact am_g160
  | 161 => cases h; exact am_g161
  | 162 => cases h; exact am_g162
  | 163 => cases h; exact am_g163
  | 164 => cases h; exact am_g164
  | 165 => cases h; exact am_g165
  | 166 => cases h; exact am_g166
  | 167 => cases h; exact am_g167
  | 168 => cases h; exact am_g168
  | 169 => cases h; exact am_g169
  | 170 => cases h; exact am_g170
  | 171 => cases h; exact am_g171
  | 172 => cases h; exact am_g172
  | 173 => cases h; exact am_g173
  | 174 => cases h; exact am_g174
  | 175 => cases h; exact am_g175
  | 176 => cases h; exact am_g176
  | 177 => cases h; exact am_g177
  | 178 => cases h; exact am_g178
  | j + 179 => simp [am_meths] at h
