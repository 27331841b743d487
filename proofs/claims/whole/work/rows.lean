section
-- ===== PART A: goes FIRST, ahead of the names: the tables' words, and 'selects' of the private methods out of them =====
/-- a private method of a class that the tables say can be made, by its rows of tables_1 -/
def lw_okq (q : MethodName × Nat) : Prop := (q.1.cls ≠ "java/lang/invoke/MethodHandle" ∧ q.1.cls ≠ "java/lang/invoke/VarHandle") ∧ Cond.instantiable q.1.cls q.2 ∈ tables_1 ∧ Cond.privateMethod q.1 ∈ tables_1 ∧ Cond.instanceMethod q.1 ∈ tables_1
theorem lw_p0 : lw_okq (⟨"WashLine$Houses", "list", "()V"⟩, 10) := ⟨⟨by decide +kernel, by decide +kernel⟩, List.mem_of_getElem? (i := 121) (by decide +kernel), List.mem_of_getElem? (i := 131) (by decide +kernel), List.mem_of_getElem? (i := 132) (by decide +kernel)⟩
theorem lw_p1 : lw_okq (⟨"WashLine$Houses", "follow", "(II)Z"⟩, 10) := ⟨⟨by decide +kernel, by decide +kernel⟩, List.mem_of_getElem? (i := 121) (by decide +kernel), List.mem_of_getElem? (i := 141) (by decide +kernel), List.mem_of_getElem? (i := 142) (by decide +kernel)⟩
theorem lw_p2 : lw_okq (⟨"WashLine$Houses", "hang", "(I)V"⟩, 10) := ⟨⟨by decide +kernel, by decide +kernel⟩, List.mem_of_getElem? (i := 121) (by decide +kernel), List.mem_of_getElem? (i := 154) (by decide +kernel), List.mem_of_getElem? (i := 155) (by decide +kernel)⟩
theorem lw_p3 : lw_okq (⟨"WashLine$Houses", "grown", "(II)I"⟩, 10) := ⟨⟨by decide +kernel, by decide +kernel⟩, List.mem_of_getElem? (i := 121) (by decide +kernel), List.mem_of_getElem? (i := 158) (by decide +kernel), List.mem_of_getElem? (i := 159) (by decide +kernel)⟩
theorem lw_p4 : lw_okq (⟨"WashLine", "finds", "(I)I"⟩, 16) := ⟨⟨by decide +kernel, by decide +kernel⟩, List.mem_of_getElem? (i := 16) (by decide +kernel), List.mem_of_getElem? (i := 443) (by decide +kernel), List.mem_of_getElem? (i := 444) (by decide +kernel)⟩
theorem lw_p5 : lw_okq (⟨"WashLine", "tells", "(II)I"⟩, 16) := ⟨⟨by decide +kernel, by decide +kernel⟩, List.mem_of_getElem? (i := 16) (by decide +kernel), List.mem_of_getElem? (i := 468) (by decide +kernel), List.mem_of_getElem? (i := 469) (by decide +kernel)⟩
theorem lw_p6 : lw_okq (⟨"WashLine$Reader", "letter", "(I)Z"⟩, 3) := ⟨⟨by decide +kernel, by decide +kernel⟩, List.mem_of_getElem? (i := 85) (by decide +kernel), List.mem_of_getElem? (i := 517) (by decide +kernel), List.mem_of_getElem? (i := 518) (by decide +kernel)⟩
theorem lw_p7 : lw_okq (⟨"WashLine$Reader", "sign", "()I"⟩, 3) := ⟨⟨by decide +kernel, by decide +kernel⟩, List.mem_of_getElem? (i := 85) (by decide +kernel), List.mem_of_getElem? (i := 521) (by decide +kernel), List.mem_of_getElem? (i := 522) (by decide +kernel)⟩
theorem lw_p8 : lw_okq (⟨"WashLine$Reader", "item", "()Z"⟩, 3) := ⟨⟨by decide +kernel, by decide +kernel⟩, List.mem_of_getElem? (i := 85) (by decide +kernel), List.mem_of_getElem? (i := 526) (by decide +kernel), List.mem_of_getElem? (i := 527) (by decide +kernel)⟩
theorem lw_p9 : lw_okq (⟨"WashLine$Reader", "sort", "()Z"⟩, 3) := ⟨⟨by decide +kernel, by decide +kernel⟩, List.mem_of_getElem? (i := 85) (by decide +kernel), List.mem_of_getElem? (i := 530) (by decide +kernel), List.mem_of_getElem? (i := 531) (by decide +kernel)⟩
theorem lw_p10 : lw_okq (⟨"WashLine$Reader", "figure", "(II)I"⟩, 3) := ⟨⟨by decide +kernel, by decide +kernel⟩, List.mem_of_getElem? (i := 85) (by decide +kernel), List.mem_of_getElem? (i := 534) (by decide +kernel), List.mem_of_getElem? (i := 535) (by decide +kernel)⟩
theorem lw_p11 : lw_okq (⟨"WashLine$Reader", "wash", "()Z"⟩, 3) := ⟨⟨by decide +kernel, by decide +kernel⟩, List.mem_of_getElem? (i := 85) (by decide +kernel), List.mem_of_getElem? (i := 538) (by decide +kernel), List.mem_of_getElem? (i := 539) (by decide +kernel)⟩
theorem lw_p12 : lw_okq (⟨"WashLine$Reader", "inside", "()Z"⟩, 3) := ⟨⟨by decide +kernel, by decide +kernel⟩, List.mem_of_getElem? (i := 85) (by decide +kernel), List.mem_of_getElem? (i := 542) (by decide +kernel), List.mem_of_getElem? (i := 543) (by decide +kernel)⟩
theorem lw_p13 : lw_okq (⟨"WashLine$Reader", "costs", "()Z"⟩, 3) := ⟨⟨by decide +kernel, by decide +kernel⟩, List.mem_of_getElem? (i := 85) (by decide +kernel), List.mem_of_getElem? (i := 546) (by decide +kernel), List.mem_of_getElem? (i := 547) (by decide +kernel)⟩
theorem lw_p14 : lw_okq (⟨"WashLine", "isSort", "(I)Z"⟩, 16) := ⟨⟨by decide +kernel, by decide +kernel⟩, List.mem_of_getElem? (i := 16) (by decide +kernel), List.mem_of_getElem? (i := 576) (by decide +kernel), List.mem_of_getElem? (i := 577) (by decide +kernel)⟩
theorem lw_p15 : lw_okq (⟨"WashLine", "isMonday", "(I)Z"⟩, 16) := ⟨⟨by decide +kernel, by decide +kernel⟩, List.mem_of_getElem? (i := 16) (by decide +kernel), List.mem_of_getElem? (i := 615) (by decide +kernel), List.mem_of_getElem? (i := 616) (by decide +kernel)⟩
def lw_privs_1 : List (MethodName × Nat) := [(⟨"WashLine$Houses", "list", "()V"⟩, 10), (⟨"WashLine$Houses", "follow", "(II)Z"⟩, 10), (⟨"WashLine$Houses", "hang", "(I)V"⟩, 10), (⟨"WashLine$Houses", "grown", "(II)I"⟩, 10), (⟨"WashLine", "finds", "(I)I"⟩, 16), (⟨"WashLine", "tells", "(II)I"⟩, 16), (⟨"WashLine$Reader", "letter", "(I)Z"⟩, 3), (⟨"WashLine$Reader", "sign", "()I"⟩, 3), (⟨"WashLine$Reader", "item", "()Z"⟩, 3), (⟨"WashLine$Reader", "sort", "()Z"⟩, 3), (⟨"WashLine$Reader", "figure", "(II)I"⟩, 3), (⟨"WashLine$Reader", "wash", "()Z"⟩, 3), (⟨"WashLine$Reader", "inside", "()Z"⟩, 3), (⟨"WashLine$Reader", "costs", "()Z"⟩, 3), (⟨"WashLine", "isSort", "(I)Z"⟩, 16), (⟨"WashLine", "isMonday", "(I)Z"⟩, 16)]
theorem lw_r1 : ∀ q ∈ lw_privs_1, lw_okq q := List.forall_mem_cons.mpr ⟨lw_p0, List.forall_mem_cons.mpr ⟨lw_p1, List.forall_mem_cons.mpr ⟨lw_p2, List.forall_mem_cons.mpr ⟨lw_p3, List.forall_mem_cons.mpr ⟨lw_p4, List.forall_mem_cons.mpr ⟨lw_p5, List.forall_mem_cons.mpr ⟨lw_p6, List.forall_mem_cons.mpr ⟨lw_p7, List.forall_mem_cons.mpr ⟨lw_p8, List.forall_mem_cons.mpr ⟨lw_p9, List.forall_mem_cons.mpr ⟨lw_p10, List.forall_mem_cons.mpr ⟨lw_p11, List.forall_mem_cons.mpr ⟨lw_p12, List.forall_mem_cons.mpr ⟨lw_p13, List.forall_mem_cons.mpr ⟨lw_p14, List.forall_mem_cons.mpr ⟨lw_p15, fun _ h => absurd h List.not_mem_nil⟩⟩⟩⟩⟩⟩⟩⟩⟩⟩⟩⟩⟩⟩⟩⟩
theorem lw_p16 : lw_okq (⟨"WashLine$Looks", "agrees", "(II)Z"⟩, 3) := ⟨⟨by decide +kernel, by decide +kernel⟩, List.mem_of_getElem? (i := 236) (by decide +kernel), List.mem_of_getElem? (i := 652) (by decide +kernel), List.mem_of_getElem? (i := 653) (by decide +kernel)⟩
theorem lw_p17 : lw_okq (⟨"WashLine$Looks", "agreesWith", "(IIIII)Z"⟩, 3) := ⟨⟨by decide +kernel, by decide +kernel⟩, List.mem_of_getElem? (i := 236) (by decide +kernel), List.mem_of_getElem? (i := 656) (by decide +kernel), List.mem_of_getElem? (i := 657) (by decide +kernel)⟩
theorem lw_p18 : lw_okq (⟨"WashLine$Looks", "explainIll", "(II)I"⟩, 3) := ⟨⟨by decide +kernel, by decide +kernel⟩, List.mem_of_getElem? (i := 236) (by decide +kernel), List.mem_of_getElem? (i := 669) (by decide +kernel), List.mem_of_getElem? (i := 670) (by decide +kernel)⟩
theorem lw_p19 : lw_okq (⟨"WashLine$Looks", "explainGuest", "(II)I"⟩, 3) := ⟨⟨by decide +kernel, by decide +kernel⟩, List.mem_of_getElem? (i := 236) (by decide +kernel), List.mem_of_getElem? (i := 673) (by decide +kernel), List.mem_of_getElem? (i := 674) (by decide +kernel)⟩
theorem lw_p20 : lw_okq (⟨"WashLine$Looks", "mostOfAny", "(I)I"⟩, 3) := ⟨⟨by decide +kernel, by decide +kernel⟩, List.mem_of_getElem? (i := 236) (by decide +kernel), List.mem_of_getElem? (i := 710) (by decide +kernel), List.mem_of_getElem? (i := 711) (by decide +kernel)⟩
theorem lw_p21 : lw_okq (⟨"WashLine$Steps", "fromMore", "([II)V"⟩, 5) := ⟨⟨by decide +kernel, by decide +kernel⟩, List.mem_of_getElem? (i := 252) (by decide +kernel), List.mem_of_getElem? (i := 741) (by decide +kernel), List.mem_of_getElem? (i := 742) (by decide +kernel)⟩
theorem lw_p22 : lw_okq (⟨"WashLine$Steps", "leastOf", "([I[III)I"⟩, 5) := ⟨⟨by decide +kernel, by decide +kernel⟩, List.mem_of_getElem? (i := 252) (by decide +kernel), List.mem_of_getElem? (i := 745) (by decide +kernel), List.mem_of_getElem? (i := 746) (by decide +kernel)⟩
theorem lw_p23 : lw_okq (⟨"WashLine$Steps", "grow", "([I)V"⟩, 5) := ⟨⟨by decide +kernel, by decide +kernel⟩, List.mem_of_getElem? (i := 252) (by decide +kernel), List.mem_of_getElem? (i := 749) (by decide +kernel), List.mem_of_getElem? (i := 750) (by decide +kernel)⟩
theorem lw_p24 : lw_okq (⟨"WashLine$Steps", "growOne", "([II)Z"⟩, 5) := ⟨⟨by decide +kernel, by decide +kernel⟩, List.mem_of_getElem? (i := 252) (by decide +kernel), List.mem_of_getElem? (i := 753) (by decide +kernel), List.mem_of_getElem? (i := 754) (by decide +kernel)⟩
theorem lw_p25 : lw_okq (⟨"WashLine$Steps", "fromLess", "([II)V"⟩, 5) := ⟨⟨by decide +kernel, by decide +kernel⟩, List.mem_of_getElem? (i := 252) (by decide +kernel), List.mem_of_getElem? (i := 757) (by decide +kernel), List.mem_of_getElem? (i := 758) (by decide +kernel)⟩
theorem lw_p26 : lw_okq (⟨"WashLine$Winter", "setPrices", "(I)V"⟩, 18) := ⟨⟨by decide +kernel, by decide +kernel⟩, List.mem_of_getElem? (i := 276) (by decide +kernel), List.mem_of_getElem? (i := 773) (by decide +kernel), List.mem_of_getElem? (i := 774) (by decide +kernel)⟩
theorem lw_p27 : lw_okq (⟨"WashLine$Winter", "goAhead", "()I"⟩, 18) := ⟨⟨by decide +kernel, by decide +kernel⟩, List.mem_of_getElem? (i := 276) (by decide +kernel), List.mem_of_getElem? (i := 780) (by decide +kernel), List.mem_of_getElem? (i := 781) (by decide +kernel)⟩
theorem lw_p28 : lw_okq (⟨"WashLine$Winter", "explain", "(I)V"⟩, 18) := ⟨⟨by decide +kernel, by decide +kernel⟩, List.mem_of_getElem? (i := 276) (by decide +kernel), List.mem_of_getElem? (i := 786) (by decide +kernel), List.mem_of_getElem? (i := 787) (by decide +kernel)⟩
theorem lw_p29 : lw_okq (⟨"WashLine$Winter", "goBack", "()V"⟩, 18) := ⟨⟨by decide +kernel, by decide +kernel⟩, List.mem_of_getElem? (i := 276) (by decide +kernel), List.mem_of_getElem? (i := 798) (by decide +kernel), List.mem_of_getElem? (i := 799) (by decide +kernel)⟩
theorem lw_p30 : lw_okq (⟨"WashLine$Steps", "growBack", "([I)V"⟩, 5) := ⟨⟨by decide +kernel, by decide +kernel⟩, List.mem_of_getElem? (i := 252) (by decide +kernel), List.mem_of_getElem? (i := 806) (by decide +kernel), List.mem_of_getElem? (i := 807) (by decide +kernel)⟩
theorem lw_p31 : lw_okq (⟨"WashLine$Winter", "list", "(I)V"⟩, 18) := ⟨⟨by decide +kernel, by decide +kernel⟩, List.mem_of_getElem? (i := 276) (by decide +kernel), List.mem_of_getElem? (i := 810) (by decide +kernel), List.mem_of_getElem? (i := 811) (by decide +kernel)⟩
def lw_privs_2 : List (MethodName × Nat) := [(⟨"WashLine$Looks", "agrees", "(II)Z"⟩, 3), (⟨"WashLine$Looks", "agreesWith", "(IIIII)Z"⟩, 3), (⟨"WashLine$Looks", "explainIll", "(II)I"⟩, 3), (⟨"WashLine$Looks", "explainGuest", "(II)I"⟩, 3), (⟨"WashLine$Looks", "mostOfAny", "(I)I"⟩, 3), (⟨"WashLine$Steps", "fromMore", "([II)V"⟩, 5), (⟨"WashLine$Steps", "leastOf", "([I[III)I"⟩, 5), (⟨"WashLine$Steps", "grow", "([I)V"⟩, 5), (⟨"WashLine$Steps", "growOne", "([II)Z"⟩, 5), (⟨"WashLine$Steps", "fromLess", "([II)V"⟩, 5), (⟨"WashLine$Winter", "setPrices", "(I)V"⟩, 18), (⟨"WashLine$Winter", "goAhead", "()I"⟩, 18), (⟨"WashLine$Winter", "explain", "(I)V"⟩, 18), (⟨"WashLine$Winter", "goBack", "()V"⟩, 18), (⟨"WashLine$Steps", "growBack", "([I)V"⟩, 5), (⟨"WashLine$Winter", "list", "(I)V"⟩, 18)]
theorem lw_r2 : ∀ q ∈ lw_privs_2, lw_okq q := List.forall_mem_cons.mpr ⟨lw_p16, List.forall_mem_cons.mpr ⟨lw_p17, List.forall_mem_cons.mpr ⟨lw_p18, List.forall_mem_cons.mpr ⟨lw_p19, List.forall_mem_cons.mpr ⟨lw_p20, List.forall_mem_cons.mpr ⟨lw_p21, List.forall_mem_cons.mpr ⟨lw_p22, List.forall_mem_cons.mpr ⟨lw_p23, List.forall_mem_cons.mpr ⟨lw_p24, List.forall_mem_cons.mpr ⟨lw_p25, List.forall_mem_cons.mpr ⟨lw_p26, List.forall_mem_cons.mpr ⟨lw_p27, List.forall_mem_cons.mpr ⟨lw_p28, List.forall_mem_cons.mpr ⟨lw_p29, List.forall_mem_cons.mpr ⟨lw_p30, List.forall_mem_cons.mpr ⟨lw_p31, fun _ h => absurd h List.not_mem_nil⟩⟩⟩⟩⟩⟩⟩⟩⟩⟩⟩⟩⟩⟩⟩⟩
theorem lw_p32 : lw_okq (⟨"WashLine$Winter", "findFirst", "()V"⟩, 18) := ⟨⟨by decide +kernel, by decide +kernel⟩, List.mem_of_getElem? (i := 276) (by decide +kernel), List.mem_of_getElem? (i := 818) (by decide +kernel), List.mem_of_getElem? (i := 819) (by decide +kernel)⟩
theorem lw_p33 : lw_okq (⟨"WashLine$Winter", "follows", "(III)Z"⟩, 18) := ⟨⟨by decide +kernel, by decide +kernel⟩, List.mem_of_getElem? (i := 276) (by decide +kernel), List.mem_of_getElem? (i := 823) (by decide +kernel), List.mem_of_getElem? (i := 824) (by decide +kernel)⟩
theorem lw_p34 : lw_okq (⟨"WashLine$Winter", "countOn", "(I)V"⟩, 18) := ⟨⟨by decide +kernel, by decide +kernel⟩, List.mem_of_getElem? (i := 276) (by decide +kernel), List.mem_of_getElem? (i := 841) (by decide +kernel), List.mem_of_getElem? (i := 842) (by decide +kernel)⟩
theorem lw_p35 : lw_okq (⟨"WashLine$Winter", "countTo", "(I)V"⟩, 18) := ⟨⟨by decide +kernel, by decide +kernel⟩, List.mem_of_getElem? (i := 276) (by decide +kernel), List.mem_of_getElem? (i := 853) (by decide +kernel), List.mem_of_getElem? (i := 854) (by decide +kernel)⟩
theorem lw_p36 : lw_okq (⟨"WashLine", "tellFraction", "(JJ)V"⟩, 16) := ⟨⟨by decide +kernel, by decide +kernel⟩, List.mem_of_getElem? (i := 16) (by decide +kernel), List.mem_of_getElem? (i := 879) (by decide +kernel), List.mem_of_getElem? (i := 880) (by decide +kernel)⟩
theorem lw_p37 : lw_okq (⟨"WashLine", "isHappening", "(I)Z"⟩, 16) := ⟨⟨by decide +kernel, by decide +kernel⟩, List.mem_of_getElem? (i := 16) (by decide +kernel), List.mem_of_getElem? (i := 912) (by decide +kernel), List.mem_of_getElem? (i := 913) (by decide +kernel)⟩
theorem lw_p38 : lw_okq (⟨"WashLine$Story", "comesTrue", "(I)Z"⟩, 11) := ⟨⟨by decide +kernel, by decide +kernel⟩, List.mem_of_getElem? (i := 341) (by decide +kernel), List.mem_of_getElem? (i := 937) (by decide +kernel), List.mem_of_getElem? (i := 938) (by decide +kernel)⟩
theorem lw_p39 : lw_okq (⟨"WashLine$Story", "join", "(I)Z"⟩, 11) := ⟨⟨by decide +kernel, by decide +kernel⟩, List.mem_of_getElem? (i := 341) (by decide +kernel), List.mem_of_getElem? (i := 941) (by decide +kernel), List.mem_of_getElem? (i := 942) (by decide +kernel)⟩
theorem lw_p40 : lw_okq (⟨"WashLine$Story", "everybody", "()I"⟩, 11) := ⟨⟨by decide +kernel, by decide +kernel⟩, List.mem_of_getElem? (i := 341) (by decide +kernel), List.mem_of_getElem? (i := 945) (by decide +kernel), List.mem_of_getElem? (i := 946) (by decide +kernel)⟩
theorem lw_p41 : lw_okq (⟨"WashLine$Story", "leave", "(I)Z"⟩, 11) := ⟨⟨by decide +kernel, by decide +kernel⟩, List.mem_of_getElem? (i := 341) (by decide +kernel), List.mem_of_getElem? (i := 949) (by decide +kernel), List.mem_of_getElem? (i := 950) (by decide +kernel)⟩
theorem lw_p42 : lw_okq (⟨"WashLine$Story", "isAgreed", "(I)Z"⟩, 11) := ⟨⟨by decide +kernel, by decide +kernel⟩, List.mem_of_getElem? (i := 341) (by decide +kernel), List.mem_of_getElem? (i := 971) (by decide +kernel), List.mem_of_getElem? (i := 972) (by decide +kernel)⟩
theorem lw_p43 : lw_okq (⟨"WashLine$Story", "hang", "(I)V"⟩, 11) := ⟨⟨by decide +kernel, by decide +kernel⟩, List.mem_of_getElem? (i := 341) (by decide +kernel), List.mem_of_getElem? (i := 975) (by decide +kernel), List.mem_of_getElem? (i := 976) (by decide +kernel)⟩
theorem lw_p44 : lw_okq (⟨"WashLine$Story", "among", "(III)I"⟩, 11) := ⟨⟨by decide +kernel, by decide +kernel⟩, List.mem_of_getElem? (i := 341) (by decide +kernel), List.mem_of_getElem? (i := 979) (by decide +kernel), List.mem_of_getElem? (i := 980) (by decide +kernel)⟩
theorem lw_p45 : lw_okq (⟨"WashLine$Story", "handDown", "(I)V"⟩, 11) := ⟨⟨by decide +kernel, by decide +kernel⟩, List.mem_of_getElem? (i := 341) (by decide +kernel), List.mem_of_getElem? (i := 984) (by decide +kernel), List.mem_of_getElem? (i := 985) (by decide +kernel)⟩
theorem lw_p46 : lw_okq (⟨"WashLine$Story", "handOver", "(II)V"⟩, 11) := ⟨⟨by decide +kernel, by decide +kernel⟩, List.mem_of_getElem? (i := 341) (by decide +kernel), List.mem_of_getElem? (i := 988) (by decide +kernel), List.mem_of_getElem? (i := 989) (by decide +kernel)⟩
theorem lw_p47 : lw_okq (⟨"WashLineModel", "wipeRead", "()V"⟩, 48) := ⟨⟨by decide +kernel, by decide +kernel⟩, List.mem_of_getElem? (i := 1087) (by decide +kernel), List.mem_of_getElem? (i := 1094) (by decide +kernel), List.mem_of_getElem? (i := 1095) (by decide +kernel)⟩
def lw_privs_3 : List (MethodName × Nat) := [(⟨"WashLine$Winter", "findFirst", "()V"⟩, 18), (⟨"WashLine$Winter", "follows", "(III)Z"⟩, 18), (⟨"WashLine$Winter", "countOn", "(I)V"⟩, 18), (⟨"WashLine$Winter", "countTo", "(I)V"⟩, 18), (⟨"WashLine", "tellFraction", "(JJ)V"⟩, 16), (⟨"WashLine", "isHappening", "(I)Z"⟩, 16), (⟨"WashLine$Story", "comesTrue", "(I)Z"⟩, 11), (⟨"WashLine$Story", "join", "(I)Z"⟩, 11), (⟨"WashLine$Story", "everybody", "()I"⟩, 11), (⟨"WashLine$Story", "leave", "(I)Z"⟩, 11), (⟨"WashLine$Story", "isAgreed", "(I)Z"⟩, 11), (⟨"WashLine$Story", "hang", "(I)V"⟩, 11), (⟨"WashLine$Story", "among", "(III)I"⟩, 11), (⟨"WashLine$Story", "handDown", "(I)V"⟩, 11), (⟨"WashLine$Story", "handOver", "(II)V"⟩, 11), (⟨"WashLineModel", "wipeRead", "()V"⟩, 48)]
theorem lw_r3 : ∀ q ∈ lw_privs_3, lw_okq q := List.forall_mem_cons.mpr ⟨lw_p32, List.forall_mem_cons.mpr ⟨lw_p33, List.forall_mem_cons.mpr ⟨lw_p34, List.forall_mem_cons.mpr ⟨lw_p35, List.forall_mem_cons.mpr ⟨lw_p36, List.forall_mem_cons.mpr ⟨lw_p37, List.forall_mem_cons.mpr ⟨lw_p38, List.forall_mem_cons.mpr ⟨lw_p39, List.forall_mem_cons.mpr ⟨lw_p40, List.forall_mem_cons.mpr ⟨lw_p41, List.forall_mem_cons.mpr ⟨lw_p42, List.forall_mem_cons.mpr ⟨lw_p43, List.forall_mem_cons.mpr ⟨lw_p44, List.forall_mem_cons.mpr ⟨lw_p45, List.forall_mem_cons.mpr ⟨lw_p46, List.forall_mem_cons.mpr ⟨lw_p47, fun _ h => absurd h List.not_mem_nil⟩⟩⟩⟩⟩⟩⟩⟩⟩⟩⟩⟩⟩⟩⟩⟩
theorem lw_p48 : lw_okq (⟨"WashLineModel", "takeWorld", "()V"⟩, 48) := ⟨⟨by decide +kernel, by decide +kernel⟩, List.mem_of_getElem? (i := 1087) (by decide +kernel), List.mem_of_getElem? (i := 1098) (by decide +kernel), List.mem_of_getElem? (i := 1099) (by decide +kernel)⟩
theorem lw_p49 : lw_okq (⟨"WashLineModel", "setHouses", "()V"⟩, 48) := ⟨⟨by decide +kernel, by decide +kernel⟩, List.mem_of_getElem? (i := 1087) (by decide +kernel), List.mem_of_getElem? (i := 1105) (by decide +kernel), List.mem_of_getElem? (i := 1106) (by decide +kernel)⟩
theorem lw_p50 : lw_okq (⟨"WashLineModel", "meets", "(I)I"⟩, 48) := ⟨⟨by decide +kernel, by decide +kernel⟩, List.mem_of_getElem? (i := 1087) (by decide +kernel), List.mem_of_getElem? (i := 1261) (by decide +kernel), List.mem_of_getElem? (i := 1262) (by decide +kernel)⟩
theorem lw_p51 : lw_okq (⟨"WashLineModel", "askedRow", "(I)I"⟩, 48) := ⟨⟨by decide +kernel, by decide +kernel⟩, List.mem_of_getElem? (i := 1087) (by decide +kernel), List.mem_of_getElem? (i := 1269) (by decide +kernel), List.mem_of_getElem? (i := 1270) (by decide +kernel)⟩
theorem lw_p52 : lw_okq (⟨"WashLineModel", "rowAt", "(II)I"⟩, 48) := ⟨⟨by decide +kernel, by decide +kernel⟩, List.mem_of_getElem? (i := 1087) (by decide +kernel), List.mem_of_getElem? (i := 1273) (by decide +kernel), List.mem_of_getElem? (i := 1274) (by decide +kernel)⟩
theorem lw_p53 : lw_okq (⟨"WashLineModel", "ask", "(II)I"⟩, 48) := ⟨⟨by decide +kernel, by decide +kernel⟩, List.mem_of_getElem? (i := 1087) (by decide +kernel), List.mem_of_getElem? (i := 1277) (by decide +kernel), List.mem_of_getElem? (i := 1278) (by decide +kernel)⟩
theorem lw_p54 : lw_okq (⟨"WashLineModel", "askedText", "(I)I"⟩, 48) := ⟨⟨by decide +kernel, by decide +kernel⟩, List.mem_of_getElem? (i := 1087) (by decide +kernel), List.mem_of_getElem? (i := 1309) (by decide +kernel), List.mem_of_getElem? (i := 1310) (by decide +kernel)⟩
theorem lw_p55 : lw_okq (⟨"WashLineModel", "goesOn", "(I)I"⟩, 48) := ⟨⟨by decide +kernel, by decide +kernel⟩, List.mem_of_getElem? (i := 1087) (by decide +kernel), List.mem_of_getElem? (i := 1317) (by decide +kernel), List.mem_of_getElem? (i := 1318) (by decide +kernel)⟩
theorem lw_p56 : lw_okq (⟨"WashLineModel", "here", "(I)I"⟩, 48) := ⟨⟨by decide +kernel, by decide +kernel⟩, List.mem_of_getElem? (i := 1087) (by decide +kernel), List.mem_of_getElem? (i := 1321) (by decide +kernel), List.mem_of_getElem? (i := 1322) (by decide +kernel)⟩
theorem lw_p57 : lw_okq (⟨"WashLineModel", "readsItem", "(II)Z"⟩, 48) := ⟨⟨by decide +kernel, by decide +kernel⟩, List.mem_of_getElem? (i := 1087) (by decide +kernel), List.mem_of_getElem? (i := 1325) (by decide +kernel), List.mem_of_getElem? (i := 1326) (by decide +kernel)⟩
theorem lw_p58 : lw_okq (⟨"WashLineModel", "readsSort", "(I)Z"⟩, 48) := ⟨⟨by decide +kernel, by decide +kernel⟩, List.mem_of_getElem? (i := 1087) (by decide +kernel), List.mem_of_getElem? (i := 1329) (by decide +kernel), List.mem_of_getElem? (i := 1330) (by decide +kernel)⟩
theorem lw_p59 : lw_okq (⟨"WashLineModel", "reads", "(II)Z"⟩, 48) := ⟨⟨by decide +kernel, by decide +kernel⟩, List.mem_of_getElem? (i := 1087) (by decide +kernel), List.mem_of_getElem? (i := 1333) (by decide +kernel), List.mem_of_getElem? (i := 1334) (by decide +kernel)⟩
theorem lw_p60 : lw_okq (⟨"WashLineModel", "readsFigure", "(III)Z"⟩, 48) := ⟨⟨by decide +kernel, by decide +kernel⟩, List.mem_of_getElem? (i := 1087) (by decide +kernel), List.mem_of_getElem? (i := 1337) (by decide +kernel), List.mem_of_getElem? (i := 1338) (by decide +kernel)⟩
theorem lw_p61 : lw_okq (⟨"WashLineModel", "readsWear", "(I)Z"⟩, 48) := ⟨⟨by decide +kernel, by decide +kernel⟩, List.mem_of_getElem? (i := 1087) (by decide +kernel), List.mem_of_getElem? (i := 1341) (by decide +kernel), List.mem_of_getElem? (i := 1342) (by decide +kernel)⟩
theorem lw_p62 : lw_okq (⟨"WashLineModel", "isSort", "(I)Z"⟩, 48) := ⟨⟨by decide +kernel, by decide +kernel⟩, List.mem_of_getElem? (i := 1087) (by decide +kernel), List.mem_of_getElem? (i := 1353) (by decide +kernel), List.mem_of_getElem? (i := 1354) (by decide +kernel)⟩
theorem lw_p63 : lw_okq (⟨"WashLineModel", "isMonday", "(I)Z"⟩, 48) := ⟨⟨by decide +kernel, by decide +kernel⟩, List.mem_of_getElem? (i := 1087) (by decide +kernel), List.mem_of_getElem? (i := 1380) (by decide +kernel), List.mem_of_getElem? (i := 1381) (by decide +kernel)⟩
def lw_privs_4 : List (MethodName × Nat) := [(⟨"WashLineModel", "takeWorld", "()V"⟩, 48), (⟨"WashLineModel", "setHouses", "()V"⟩, 48), (⟨"WashLineModel", "meets", "(I)I"⟩, 48), (⟨"WashLineModel", "askedRow", "(I)I"⟩, 48), (⟨"WashLineModel", "rowAt", "(II)I"⟩, 48), (⟨"WashLineModel", "ask", "(II)I"⟩, 48), (⟨"WashLineModel", "askedText", "(I)I"⟩, 48), (⟨"WashLineModel", "goesOn", "(I)I"⟩, 48), (⟨"WashLineModel", "here", "(I)I"⟩, 48), (⟨"WashLineModel", "readsItem", "(II)Z"⟩, 48), (⟨"WashLineModel", "readsSort", "(I)Z"⟩, 48), (⟨"WashLineModel", "reads", "(II)Z"⟩, 48), (⟨"WashLineModel", "readsFigure", "(III)Z"⟩, 48), (⟨"WashLineModel", "readsWear", "(I)Z"⟩, 48), (⟨"WashLineModel", "isSort", "(I)Z"⟩, 48), (⟨"WashLineModel", "isMonday", "(I)Z"⟩, 48)]
theorem lw_r4 : ∀ q ∈ lw_privs_4, lw_okq q := List.forall_mem_cons.mpr ⟨lw_p48, List.forall_mem_cons.mpr ⟨lw_p49, List.forall_mem_cons.mpr ⟨lw_p50, List.forall_mem_cons.mpr ⟨lw_p51, List.forall_mem_cons.mpr ⟨lw_p52, List.forall_mem_cons.mpr ⟨lw_p53, List.forall_mem_cons.mpr ⟨lw_p54, List.forall_mem_cons.mpr ⟨lw_p55, List.forall_mem_cons.mpr ⟨lw_p56, List.forall_mem_cons.mpr ⟨lw_p57, List.forall_mem_cons.mpr ⟨lw_p58, List.forall_mem_cons.mpr ⟨lw_p59, List.forall_mem_cons.mpr ⟨lw_p60, List.forall_mem_cons.mpr ⟨lw_p61, List.forall_mem_cons.mpr ⟨lw_p62, List.forall_mem_cons.mpr ⟨lw_p63, fun _ h => absurd h List.not_mem_nil⟩⟩⟩⟩⟩⟩⟩⟩⟩⟩⟩⟩⟩⟩⟩⟩
theorem lw_p64 : lw_okq (⟨"WashLineModel", "tells", "(II)I"⟩, 48) := ⟨⟨by decide +kernel, by decide +kernel⟩, List.mem_of_getElem? (i := 1087) (by decide +kernel), List.mem_of_getElem? (i := 1384) (by decide +kernel), List.mem_of_getElem? (i := 1385) (by decide +kernel)⟩
theorem lw_p65 : lw_okq (⟨"WashLineModel", "placeOf", "(I)I"⟩, 48) := ⟨⟨by decide +kernel, by decide +kernel⟩, List.mem_of_getElem? (i := 1087) (by decide +kernel), List.mem_of_getElem? (i := 1400) (by decide +kernel), List.mem_of_getElem? (i := 1401) (by decide +kernel)⟩
theorem lw_p66 : lw_okq (⟨"WashLineModel", "sumOf", "([III)I"⟩, 48) := ⟨⟨by decide +kernel, by decide +kernel⟩, List.mem_of_getElem? (i := 1087) (by decide +kernel), List.mem_of_getElem? (i := 1404) (by decide +kernel), List.mem_of_getElem? (i := 1405) (by decide +kernel)⟩
theorem lw_p67 : lw_okq (⟨"WashLineModel", "leastOf", "(III)I"⟩, 48) := ⟨⟨by decide +kernel, by decide +kernel⟩, List.mem_of_getElem? (i := 1087) (by decide +kernel), List.mem_of_getElem? (i := 1408) (by decide +kernel), List.mem_of_getElem? (i := 1409) (by decide +kernel)⟩
theorem lw_p68 : lw_okq (⟨"WashLineModel", "isIndoors", "(II)Z"⟩, 48) := ⟨⟨by decide +kernel, by decide +kernel⟩, List.mem_of_getElem? (i := 1087) (by decide +kernel), List.mem_of_getElem? (i := 1412) (by decide +kernel), List.mem_of_getElem? (i := 1413) (by decide +kernel)⟩
theorem lw_p69 : lw_okq (⟨"WashLineModel", "explainsOf", "(II)I"⟩, 48) := ⟨⟨by decide +kernel, by decide +kernel⟩, List.mem_of_getElem? (i := 1087) (by decide +kernel), List.mem_of_getElem? (i := 1420) (by decide +kernel), List.mem_of_getElem? (i := 1421) (by decide +kernel)⟩
theorem lw_p70 : lw_okq (⟨"WashLineModel", "agrees", "(IIII)Z"⟩, 48) := ⟨⟨by decide +kernel, by decide +kernel⟩, List.mem_of_getElem? (i := 1087) (by decide +kernel), List.mem_of_getElem? (i := 1424) (by decide +kernel), List.mem_of_getElem? (i := 1425) (by decide +kernel)⟩
theorem lw_p71 : lw_okq (⟨"WashLineModel", "isWithin", "(IIII)Z"⟩, 48) := ⟨⟨by decide +kernel, by decide +kernel⟩, List.mem_of_getElem? (i := 1087) (by decide +kernel), List.mem_of_getElem? (i := 1428) (by decide +kernel), List.mem_of_getElem? (i := 1429) (by decide +kernel)⟩
theorem lw_p72 : lw_okq (⟨"WashLineModel", "peopleOf", "(I)I"⟩, 48) := ⟨⟨by decide +kernel, by decide +kernel⟩, List.mem_of_getElem? (i := 1087) (by decide +kernel), List.mem_of_getElem? (i := 1441) (by decide +kernel), List.mem_of_getElem? (i := 1442) (by decide +kernel)⟩
theorem lw_p73 : lw_okq (⟨"WashLineModel", "setSteps", "()V"⟩, 48) := ⟨⟨by decide +kernel, by decide +kernel⟩, List.mem_of_getElem? (i := 1087) (by decide +kernel), List.mem_of_getElem? (i := 1460) (by decide +kernel), List.mem_of_getElem? (i := 1461) (by decide +kernel)⟩
theorem lw_p74 : lw_okq (⟨"WashLineModel", "setNexts", "()V"⟩, 48) := ⟨⟨by decide +kernel, by decide +kernel⟩, List.mem_of_getElem? (i := 1087) (by decide +kernel), List.mem_of_getElem? (i := 1464) (by decide +kernel), List.mem_of_getElem? (i := 1465) (by decide +kernel)⟩
theorem lw_p75 : lw_okq (⟨"WashLineModel", "changed", "(III)I"⟩, 48) := ⟨⟨by decide +kernel, by decide +kernel⟩, List.mem_of_getElem? (i := 1087) (by decide +kernel), List.mem_of_getElem? (i := 1468) (by decide +kernel), List.mem_of_getElem? (i := 1469) (by decide +kernel)⟩
theorem lw_p76 : lw_okq (⟨"WashLineModel", "setStepsFrom", "(I)V"⟩, 48) := ⟨⟨by decide +kernel, by decide +kernel⟩, List.mem_of_getElem? (i := 1087) (by decide +kernel), List.mem_of_getElem? (i := 1472) (by decide +kernel), List.mem_of_getElem? (i := 1473) (by decide +kernel)⟩
theorem lw_p77 : lw_okq (⟨"WashLineModel", "stepOf", "(II)I"⟩, 48) := ⟨⟨by decide +kernel, by decide +kernel⟩, List.mem_of_getElem? (i := 1087) (by decide +kernel), List.mem_of_getElem? (i := 1476) (by decide +kernel), List.mem_of_getElem? (i := 1477) (by decide +kernel)⟩
theorem lw_p78 : lw_okq (⟨"WashLineModel", "setTales", "()V"⟩, 48) := ⟨⟨by decide +kernel, by decide +kernel⟩, List.mem_of_getElem? (i := 1087) (by decide +kernel), List.mem_of_getElem? (i := 1484) (by decide +kernel), List.mem_of_getElem? (i := 1485) (by decide +kernel)⟩
theorem lw_p79 : lw_okq (⟨"WashLineModel", "costAt", "(I)I"⟩, 48) := ⟨⟨by decide +kernel, by decide +kernel⟩, List.mem_of_getElem? (i := 1087) (by decide +kernel), List.mem_of_getElem? (i := 1488) (by decide +kernel), List.mem_of_getElem? (i := 1489) (by decide +kernel)⟩
def lw_privs_5 : List (MethodName × Nat) := [(⟨"WashLineModel", "tells", "(II)I"⟩, 48), (⟨"WashLineModel", "placeOf", "(I)I"⟩, 48), (⟨"WashLineModel", "sumOf", "([III)I"⟩, 48), (⟨"WashLineModel", "leastOf", "(III)I"⟩, 48), (⟨"WashLineModel", "isIndoors", "(II)Z"⟩, 48), (⟨"WashLineModel", "explainsOf", "(II)I"⟩, 48), (⟨"WashLineModel", "agrees", "(IIII)Z"⟩, 48), (⟨"WashLineModel", "isWithin", "(IIII)Z"⟩, 48), (⟨"WashLineModel", "peopleOf", "(I)I"⟩, 48), (⟨"WashLineModel", "setSteps", "()V"⟩, 48), (⟨"WashLineModel", "setNexts", "()V"⟩, 48), (⟨"WashLineModel", "changed", "(III)I"⟩, 48), (⟨"WashLineModel", "setStepsFrom", "(I)V"⟩, 48), (⟨"WashLineModel", "stepOf", "(II)I"⟩, 48), (⟨"WashLineModel", "setTales", "()V"⟩, 48), (⟨"WashLineModel", "costAt", "(I)I"⟩, 48)]
theorem lw_r5 : ∀ q ∈ lw_privs_5, lw_okq q := List.forall_mem_cons.mpr ⟨lw_p64, List.forall_mem_cons.mpr ⟨lw_p65, List.forall_mem_cons.mpr ⟨lw_p66, List.forall_mem_cons.mpr ⟨lw_p67, List.forall_mem_cons.mpr ⟨lw_p68, List.forall_mem_cons.mpr ⟨lw_p69, List.forall_mem_cons.mpr ⟨lw_p70, List.forall_mem_cons.mpr ⟨lw_p71, List.forall_mem_cons.mpr ⟨lw_p72, List.forall_mem_cons.mpr ⟨lw_p73, List.forall_mem_cons.mpr ⟨lw_p74, List.forall_mem_cons.mpr ⟨lw_p75, List.forall_mem_cons.mpr ⟨lw_p76, List.forall_mem_cons.mpr ⟨lw_p77, List.forall_mem_cons.mpr ⟨lw_p78, List.forall_mem_cons.mpr ⟨lw_p79, fun _ h => absurd h List.not_mem_nil⟩⟩⟩⟩⟩⟩⟩⟩⟩⟩⟩⟩⟩⟩⟩⟩
theorem lw_p80 : lw_okq (⟨"WashLineModel", "setFirst", "()V"⟩, 48) := ⟨⟨by decide +kernel, by decide +kernel⟩, List.mem_of_getElem? (i := 1087) (by decide +kernel), List.mem_of_getElem? (i := 1496) (by decide +kernel), List.mem_of_getElem? (i := 1497) (by decide +kernel)⟩
theorem lw_p81 : lw_okq (⟨"WashLineModel", "isPlain", "(II)Z"⟩, 48) := ⟨⟨by decide +kernel, by decide +kernel⟩, List.mem_of_getElem? (i := 1087) (by decide +kernel), List.mem_of_getElem? (i := 1500) (by decide +kernel), List.mem_of_getElem? (i := 1501) (by decide +kernel)⟩
theorem lw_p82 : lw_okq (⟨"WashLineModel", "countTales", "()J"⟩, 48) := ⟨⟨by decide +kernel, by decide +kernel⟩, List.mem_of_getElem? (i := 1087) (by decide +kernel), List.mem_of_getElem? (i := 1509) (by decide +kernel), List.mem_of_getElem? (i := 1510) (by decide +kernel)⟩
theorem lw_p83 : lw_okq (⟨"WashLineModel", "countOn", "()V"⟩, 48) := ⟨⟨by decide +kernel, by decide +kernel⟩, List.mem_of_getElem? (i := 1087) (by decide +kernel), List.mem_of_getElem? (i := 1527) (by decide +kernel), List.mem_of_getElem? (i := 1528) (by decide +kernel)⟩
theorem lw_p84 : lw_okq (⟨"WashLineModel", "part", "(JJI)I"⟩, 48) := ⟨⟨by decide +kernel, by decide +kernel⟩, List.mem_of_getElem? (i := 1087) (by decide +kernel), List.mem_of_getElem? (i := 1531) (by decide +kernel), List.mem_of_getElem? (i := 1532) (by decide +kernel)⟩
theorem lw_p85 : lw_okq (⟨"WashLineModel", "isHappening", "(I)Z"⟩, 48) := ⟨⟨by decide +kernel, by decide +kernel⟩, List.mem_of_getElem? (i := 1087) (by decide +kernel), List.mem_of_getElem? (i := 1551) (by decide +kernel), List.mem_of_getElem? (i := 1552) (by decide +kernel)⟩
theorem lw_p86 : lw_okq (⟨"WashLineModel", "tell", "(II)I"⟩, 48) := ⟨⟨by decide +kernel, by decide +kernel⟩, List.mem_of_getElem? (i := 1087) (by decide +kernel), List.mem_of_getElem? (i := 1555) (by decide +kernel), List.mem_of_getElem? (i := 1556) (by decide +kernel)⟩
theorem lw_p87 : lw_okq (⟨"WashLineModel", "toldOf", "(I)I"⟩, 48) := ⟨⟨by decide +kernel, by decide +kernel⟩, List.mem_of_getElem? (i := 1087) (by decide +kernel), List.mem_of_getElem? (i := 1566) (by decide +kernel), List.mem_of_getElem? (i := 1567) (by decide +kernel)⟩
theorem lw_p88 : lw_okq (⟨"WashLineModel", "setHangs", "(II)V"⟩, 48) := ⟨⟨by decide +kernel, by decide +kernel⟩, List.mem_of_getElem? (i := 1087) (by decide +kernel), List.mem_of_getElem? (i := 1578) (by decide +kernel), List.mem_of_getElem? (i := 1579) (by decide +kernel)⟩
theorem lw_p89 : lw_okq (⟨"WashLineModel", "manyOf", "(III)I"⟩, 48) := ⟨⟨by decide +kernel, by decide +kernel⟩, List.mem_of_getElem? (i := 1087) (by decide +kernel), List.mem_of_getElem? (i := 1582) (by decide +kernel), List.mem_of_getElem? (i := 1583) (by decide +kernel)⟩
theorem lw_p90 : lw_okq (⟨"WashLineModel", "wear", "(III)V"⟩, 48) := ⟨⟨by decide +kernel, by decide +kernel⟩, List.mem_of_getElem? (i := 1087) (by decide +kernel), List.mem_of_getElem? (i := 1586) (by decide +kernel), List.mem_of_getElem? (i := 1587) (by decide +kernel)⟩
theorem lw_p91 : lw_okq (⟨"WashLineModel", "hand", "(II)V"⟩, 48) := ⟨⟨by decide +kernel, by decide +kernel⟩, List.mem_of_getElem? (i := 1087) (by decide +kernel), List.mem_of_getElem? (i := 1590) (by decide +kernel), List.mem_of_getElem? (i := 1591) (by decide +kernel)⟩
theorem lw_p92 : lw_okq (⟨"WashLineModel", "doubtsOf", "(I)I"⟩, 48) := ⟨⟨by decide +kernel, by decide +kernel⟩, List.mem_of_getElem? (i := 1087) (by decide +kernel), List.mem_of_getElem? (i := 1598) (by decide +kernel), List.mem_of_getElem? (i := 1599) (by decide +kernel)⟩
theorem lw_p93 : lw_okq (⟨"WashLineModel", "partsOf", "(II)I"⟩, 48) := ⟨⟨by decide +kernel, by decide +kernel⟩, List.mem_of_getElem? (i := 1087) (by decide +kernel), List.mem_of_getElem? (i := 1610) (by decide +kernel), List.mem_of_getElem? (i := 1611) (by decide +kernel)⟩
theorem lw_p94 : lw_okq (⟨"WashLineModel", "counts", "(I)I"⟩, 48) := ⟨⟨by decide +kernel, by decide +kernel⟩, List.mem_of_getElem? (i := 1087) (by decide +kernel), List.mem_of_getElem? (i := 1630) (by decide +kernel), List.mem_of_getElem? (i := 1631) (by decide +kernel)⟩
theorem lw_p95 : lw_okq (⟨"WashLineModel", "mix", "(I)V"⟩, 48) := ⟨⟨by decide +kernel, by decide +kernel⟩, List.mem_of_getElem? (i := 1087) (by decide +kernel), List.mem_of_getElem? (i := 1647) (by decide +kernel), List.mem_of_getElem? (i := 1648) (by decide +kernel)⟩
def lw_privs_6 : List (MethodName × Nat) := [(⟨"WashLineModel", "setFirst", "()V"⟩, 48), (⟨"WashLineModel", "isPlain", "(II)Z"⟩, 48), (⟨"WashLineModel", "countTales", "()J"⟩, 48), (⟨"WashLineModel", "countOn", "()V"⟩, 48), (⟨"WashLineModel", "part", "(JJI)I"⟩, 48), (⟨"WashLineModel", "isHappening", "(I)Z"⟩, 48), (⟨"WashLineModel", "tell", "(II)I"⟩, 48), (⟨"WashLineModel", "toldOf", "(I)I"⟩, 48), (⟨"WashLineModel", "setHangs", "(II)V"⟩, 48), (⟨"WashLineModel", "manyOf", "(III)I"⟩, 48), (⟨"WashLineModel", "wear", "(III)V"⟩, 48), (⟨"WashLineModel", "hand", "(II)V"⟩, 48), (⟨"WashLineModel", "doubtsOf", "(I)I"⟩, 48), (⟨"WashLineModel", "partsOf", "(II)I"⟩, 48), (⟨"WashLineModel", "counts", "(I)I"⟩, 48), (⟨"WashLineModel", "mix", "(I)V"⟩, 48)]
theorem lw_r6 : ∀ q ∈ lw_privs_6, lw_okq q := List.forall_mem_cons.mpr ⟨lw_p80, List.forall_mem_cons.mpr ⟨lw_p81, List.forall_mem_cons.mpr ⟨lw_p82, List.forall_mem_cons.mpr ⟨lw_p83, List.forall_mem_cons.mpr ⟨lw_p84, List.forall_mem_cons.mpr ⟨lw_p85, List.forall_mem_cons.mpr ⟨lw_p86, List.forall_mem_cons.mpr ⟨lw_p87, List.forall_mem_cons.mpr ⟨lw_p88, List.forall_mem_cons.mpr ⟨lw_p89, List.forall_mem_cons.mpr ⟨lw_p90, List.forall_mem_cons.mpr ⟨lw_p91, List.forall_mem_cons.mpr ⟨lw_p92, List.forall_mem_cons.mpr ⟨lw_p93, List.forall_mem_cons.mpr ⟨lw_p94, List.forall_mem_cons.mpr ⟨lw_p95, fun _ h => absurd h List.not_mem_nil⟩⟩⟩⟩⟩⟩⟩⟩⟩⟩⟩⟩⟩⟩⟩⟩
theorem lw_p96 : lw_okq (⟨"WashLineModel", "mixWorld", "()V"⟩, 48) := ⟨⟨by decide +kernel, by decide +kernel⟩, List.mem_of_getElem? (i := 1087) (by decide +kernel), List.mem_of_getElem? (i := 1652) (by decide +kernel), List.mem_of_getElem? (i := 1653) (by decide +kernel)⟩
def lw_privs_7 : List (MethodName × Nat) := [(⟨"WashLineModel", "mixWorld", "()V"⟩, 48)]
theorem lw_r7 : ∀ q ∈ lw_privs_7, lw_okq q := List.forall_mem_cons.mpr ⟨lw_p96, fun _ h => absurd h List.not_mem_nil⟩
def lw_privs : List (MethodName × Nat) := lw_privs_1 ++ (lw_privs_2 ++ (lw_privs_3 ++ (lw_privs_4 ++ (lw_privs_5 ++ (lw_privs_6 ++ (lw_privs_7))))))
def lw_tbl : List Cond := k2_sels lw_privs ++ tables_1
theorem lw_privs_ok : ∀ q ∈ lw_privs, lw_okq q := by
  show ∀ q ∈ lw_privs_1 ++ (lw_privs_2 ++ (lw_privs_3 ++ (lw_privs_4 ++ (lw_privs_5 ++ (lw_privs_6 ++ (lw_privs_7)))))), lw_okq q
  exact List.forall_mem_append.mpr ⟨lw_r1, List.forall_mem_append.mpr ⟨lw_r2, List.forall_mem_append.mpr ⟨lw_r3, List.forall_mem_append.mpr ⟨lw_r4, List.forall_mem_append.mpr ⟨lw_r5, List.forall_mem_append.mpr ⟨lw_r6, lw_r7⟩⟩⟩⟩⟩⟩
end
section
/-! THE SMALL MACHINE: ints are integers, cells are numbered from 2 on in the order of their making (0: the static table WORTHS, 1: the script) -/
abbrev am_V : Type := Int ⊕ (Int ⊕ Option Nat)
abbrev vI (x : Int) : am_V := .inl x
abbrev vL (x : Int) : am_V := .inr (.inl x)
abbrev vO (r : Option Nat) : am_V := .inr (.inr r)
abbrev vR (a : Nat) : am_V := .inr (.inr (some a))
abbrev am_Lc : Type := List (Nat × am_V)
/-- an array's kind, or an object's class; its length -/
abbrev am_Ly : Type := (FieldType ⊕ Nat) × Nat
/-- numbers in cells, references in cells, the cells' kinds, how many were made, of how many slots -/
abbrev am_S : Type := (Nat → Nat → Int) × (Nat → Nat → Option Nat) × List am_Ly × Nat × Nat
abbrev am_I : Type := Instr × List Nat × Int
def w32 (x : Int) : Int := Int.bmod x 4294967296
def w64 (x : Int) : Int := Int.bmod x 18446744073709551616
def w8 (x : Int) : Int := Int.bmod x 256
def a_and (x y : Int) : Int := (Int32.ofInt x &&& Int32.ofInt y).toInt
def a_or (x y : Int) : Int := (Int32.ofInt x ||| Int32.ofInt y).toInt
def a_shl (x y : Int) : Int := (Int32.ofInt x <<< (Int32.ofInt y &&& 31)).toInt
def a_shr (x y : Int) : Int := (Int32.ofInt x >>> (Int32.ofInt y &&& 31)).toInt
def a_cmp (x y : Int) : Int := if y < x then 1 else if x = y then 0 else -1
def am_two (v : am_V) : Bool := match v with
  | .inr (.inl _) => true
  | _ => false
def am_cat (v : am_V) : Nat := match v with
  | .inr (.inl _) => 2
  | _ => 1
def lget : am_Lc → Nat → Option am_V
  | [], _ => none
  | q :: l, i => if q.1 = i then some q.2 else lget l i
def lset1 (l : am_Lc) (i : Nat) (v : am_V) : am_Lc := (i, v) :: l.filter (fun q => !(q.1 == i) && !(q.1 + 1 == i && am_two q.2))
def lset2 (l : am_Lc) (i : Nat) (v : am_V) : am_Lc := (i, v) :: l.filter (fun q => !(q.1 == i) && (!(q.1 == i + 1) && !(q.1 + 1 == i && am_two q.2)))
def am_ldI (l : am_Lc) (k : Nat) (st : List am_V) : Option (am_Lc × List am_V) := match lget l k with
  | some (.inl x) => some (l, vI x :: st)
  | _ => none
def am_ldL (l : am_Lc) (k : Nat) (st : List am_V) : Option (am_Lc × List am_V) := match lget l k with
  | some (.inr (.inl x)) => some (l, vL x :: st)
  | _ => none
def am_ldR (l : am_Lc) (k : Nat) (st : List am_V) : Option (am_Lc × List am_V) := match lget l k with
  | some (.inr (.inr (some a))) => some (l, vR a :: st)
  | _ => none
def am_stI (l : am_Lc) (k : Nat) (st : List am_V) : Option (am_Lc × List am_V) := match st with
  | .inl x :: st' => some (lset1 l k (vI x), st')
  | _ => none
def am_stL (l : am_Lc) (k : Nat) (st : List am_V) : Option (am_Lc × List am_V) := match st with
  | .inr (.inl x) :: st' => some (lset2 l k (vL x), st')
  | _ => none
def am_stR (l : am_Lc) (k : Nat) (st : List am_V) : Option (am_Lc × List am_V) := match st with
  | .inr (.inr (some a)) :: st' => some (lset1 l k (vR a), st')
  | _ => none
def am_inc (l : am_Lc) (k : Nat) (n : Int) (st : List am_V) : Option (am_Lc × List am_V) := match lget l k with
  | some (.inl x) => some (lset1 l k (vI (w32 (x + n))), st)
  | _ => none
def am_bI (f : Int → Int → Int) (l : am_Lc) (st : List am_V) : Option (am_Lc × List am_V) := match st with
  | .inl y :: .inl x :: st' => some (l, vI (f x y) :: st')
  | _ => none
def am_dI (f : Int → Int → Int) (l : am_Lc) (st : List am_V) : Option (am_Lc × List am_V) := match st with
  | .inl y :: .inl x :: st' => if y = 0 then none else some (l, vI (f x y) :: st')
  | _ => none
def am_bL (f : Int → Int → Int) (l : am_Lc) (st : List am_V) : Option (am_Lc × List am_V) := match st with
  | .inr (.inl y) :: .inr (.inl x) :: st' => some (l, vL (f x y) :: st')
  | _ => none
def am_dL (f : Int → Int → Int) (l : am_Lc) (st : List am_V) : Option (am_Lc × List am_V) := match st with
  | .inr (.inl y) :: .inr (.inl x) :: st' => if y = 0 then none else some (l, vL (f x y) :: st')
  | _ => none
def am_cL (l : am_Lc) (st : List am_V) : Option (am_Lc × List am_V) := match st with
  | .inr (.inl y) :: .inr (.inl x) :: st' => some (l, vI (a_cmp x y) :: st')
  | _ => none
def am_uI (f : Int → am_V) (l : am_Lc) (st : List am_V) : Option (am_Lc × List am_V) := match st with
  | .inl x :: st' => some (l, f x :: st')
  | _ => none
def am_uL (f : Int → am_V) (l : am_Lc) (st : List am_V) : Option (am_Lc × List am_V) := match st with
  | .inr (.inl x) :: st' => some (l, f x :: st')
  | _ => none
def am_dup (l : am_Lc) (st : List am_V) : Option (am_Lc × List am_V) := match st with
  | v :: st' => if am_two v then none else some (l, v :: v :: st')
  | _ => none
def am_dup2 (l : am_Lc) (st : List am_V) : Option (am_Lc × List am_V) := match st with
  | v :: u :: st' => if am_two v || am_two u then none else some (l, v :: u :: v :: u :: st')
  | _ => none
def am_pop (l : am_Lc) (st : List am_V) : Option (am_Lc × List am_V) := match st with
  | v :: st' => if am_two v then none else some (l, st')
  | _ => none
/-- locals, the stack and numbers -/
def am_ar (i : Instr) (v : Int) (l : am_Lc) (st : List am_V) : Option (am_Lc × List am_V) := match i with
  | .iconst n => some (l, vI n :: st)
  | .bipush n => some (l, vI n :: st)
  | .sipush n => some (l, vI n :: st)
  | .ldc _ => some (l, vI v :: st)
  | .ldc_w _ => some (l, vI v :: st)
  | .lconst n => some (l, vL ((n : Nat) : Int) :: st)
  | .ldc2_w _ => some (l, vL v :: st)
  | .iload_n k => am_ldI l k st
  | .iload k => am_ldI l k st
  | .lload_n k => am_ldL l k st
  | .lload k => am_ldL l k st
  | .aload_n k => am_ldR l k st
  | .aload k => am_ldR l k st
  | .istore_n k => am_stI l k st
  | .istore k => am_stI l k st
  | .lstore_n k => am_stL l k st
  | .lstore k => am_stL l k st
  | .astore_n k => am_stR l k st
  | .astore k => am_stR l k st
  | .iinc k n => am_inc l k n st
  | .iadd => am_bI (fun x y => w32 (x + y)) l st
  | .isub => am_bI (fun x y => w32 (x - y)) l st
  | .imul => am_bI (fun x y => w32 (x * y)) l st
  | .iand => am_bI a_and l st
  | .ior => am_bI a_or l st
  | .ishl => am_bI a_shl l st
  | .ishr => am_bI a_shr l st
  | .idiv => am_dI (fun x y => w32 (Int.tdiv x y)) l st
  | .irem => am_dI (fun x y => Int.tmod x y) l st
  | .ladd => am_bL (fun x y => w64 (x + y)) l st
  | .lmul => am_bL (fun x y => w64 (x * y)) l st
  | .ldiv => am_dL (fun x y => w64 (Int.tdiv x y)) l st
  | .lrem => am_dL (fun x y => Int.tmod x y) l st
  | .lcmp => am_cL l st
  | .i2l => am_uI (fun x => vL x) l st
  | .l2i => am_uL (fun x => vI (w32 x)) l st
  | .i2b => am_uI (fun x => vI (w8 x)) l st
  | .dup => am_dup l st
  | .dup2 => am_dup2 l st
  | .pop => am_pop l st
  | _ => none
def am_cond (c : Jvm.ClassFile.Cond) (x y : Int) : Bool := match c with
  | .eq => decide (x = y)
  | .ne => decide (¬ x = y)
  | .lt => decide (x < y)
  | .ge => decide (y ≤ x)
  | .gt => decide (y < x)
  | .le => decide (x ≤ y)
def am_look : List (Int × Int) → List Nat → Nat → Int → Nat
  | p :: ps, t :: ts, d, x => if x = p.1 then t else am_look ps ts d x
  | _, _, d, _ => d
/-- jumps: to which block, or on -/
def am_ct (i : Instr) (ops : List Nat) (st : List am_V) : Option (Option Nat × List am_V) := match i with
  | .ifCond c _ => match st with
    | .inl x :: st' => some (if am_cond c x 0 then some (ops.headD 0) else none, st')
    | _ => none
  | .if_icmp c _ => match st with
    | .inl y :: .inl x :: st' => some (if am_cond c x y then some (ops.headD 0) else none, st')
    | _ => none
  | .goto _ => some (some (ops.headD 0), st)
  | .nop => some (some (ops.headD 0), st)
  | .tableswitch _ lo hi _ => match st with
    | .inl x :: st' => some (some (if x < lo ∨ hi < x then ops.headD 0 else ops.tail.getD (x - lo).toNat 0), st')
    | _ => none
  | .lookupswitch _ ps => match st with
    | .inl x :: st' => some (some (am_look ps.toList ops.tail (ops.headD 0) x), st')
    | _ => none
  | _ => none
/-- what a cell's place of a type holds -/
def am_gv (ty : FieldType) (a k : Nat) (σ : am_S) : am_V := match ty with
  | .long => vL (σ.1 a k)
  | .object _ => vO (σ.2.1 a k)
  | .array _ => vO (σ.2.1 a k)
  | _ => vI (σ.1 a k)
def am_set (σ : am_S) (a k : Nat) (x : Int) : am_S := (fun b j => if b = a ∧ j = k then x else σ.1 b j, σ.2)
def am_setR (σ : am_S) (a k : Nat) (r : Option Nat) : am_S := (σ.1, fun b j => if b = a ∧ j = k then r else σ.2.1 b j, σ.2.2)
/-- a value stored into a place of a type: it must be one of it -/
def am_pv (ty : FieldType) (a k : Nat) (v : am_V) (σ : am_S) : Option am_S := match ty, v with
  | .int, .inl x => some (am_set σ a k x)
  | .boolean, .inl x => if x = 0 ∨ x = 1 then some (am_set σ a k x) else none
  | .long, .inr (.inl x) => some (am_set σ a k x)
  | .object _, .inr (.inr (some b)) => some (am_setR σ a k (some b))
  | .array _, .inr (.inr (some b)) => some (am_setR σ a k (some b))
  | _, _ => none
def am_new (σ : am_S) (L : am_Ly) : am_S := (fun b j => if b = σ.2.2.1.length then 0 else σ.1 b j, fun b j => if b = σ.2.2.1.length then none else σ.2.1 b j, σ.2.2.1 ++ [L], σ.2.2.2.1 + 1, σ.2.2.2.2 + L.2)
def am_aget (t : FieldType) (st : List am_V) (σ : am_S) : Option (List am_V × am_S) := match st with
  | .inl i :: .inr (.inr (some a)) :: st' => match σ.2.2.1[a]? with
    | some (.inl t', n) => if t' = t ∧ 0 ≤ i ∧ i < (n : Int) then some (am_gv t a i.toNat σ :: st', σ) else none
    | _ => none
  | _ => none
def am_aput (t : FieldType) (f : Int → Int) (st : List am_V) (σ : am_S) : Option (List am_V × am_S) := match st with
  | .inl x :: .inl i :: .inr (.inr (some a)) :: st' => match σ.2.2.1[a]? with
    | some (.inl t', n) => if t' = t ∧ 0 ≤ i ∧ i < (n : Int) ∧ 2 ≤ a then some (st', am_set σ a i.toNat (f x)) else none
    | _ => none
  | _ => none
def am_aputL (st : List am_V) (σ : am_S) : Option (List am_V × am_S) := match st with
  | .inr (.inl x) :: .inl i :: .inr (.inr (some a)) :: st' => match σ.2.2.1[a]? with
    | some (.inl t', n) => if t' = .long ∧ 0 ≤ i ∧ i < (n : Int) ∧ 2 ≤ a then some (st', am_set σ a i.toNat x) else none
    | _ => none
  | _ => none
def am_strip : FieldType := .object "WashLine$Strip"
/-- a reference stored: of the one class of which there are such arrays (number 6) -/
def am_aputR (st : List am_V) (σ : am_S) : Option (List am_V × am_S) := match st with
  | .inr (.inr (some b)) :: .inl i :: .inr (.inr (some a)) :: st' => match σ.2.2.1[a]?, σ.2.2.1[b]? with
    | some (.inl t', n), some (.inr 6, _) => if t' = am_strip ∧ 0 ≤ i ∧ i < (n : Int) ∧ 2 ≤ a ∧ 2 ≤ b then some (st', am_setR σ a i.toNat (some b)) else none
    | _, _ => none
  | _ => none
def am_alen (st : List am_V) (σ : am_S) : Option (List am_V × am_S) := match st with
  | .inr (.inr (some a)) :: st' => match σ.2.2.1[a]? with
    | some (.inl _, n) => if (n : Int) < 1000000 then some (vI n :: st', σ) else none
    | _ => none
  | _ => none
def am_newa (t : FieldType) (st : List am_V) (σ : am_S) : Option (List am_V × am_S) := match st with
  | .inl n :: st' => if 0 ≤ n ∧ n ≤ 1000000 then some (vR σ.2.2.1.length :: st', am_new σ (.inl t, n.toNat)) else none
  | _ => none
def am_cpy (σ : am_S) (a sp b dp n : Nat) : am_S := (fun c j => if c = b ∧ dp ≤ j ∧ j < dp + n then σ.1 a (sp + (j - dp)) else σ.1 c j, σ.2)
def am_acopy (st : List am_V) (σ : am_S) : Option (List am_V × am_S) := match st with
  | .inl n :: .inl dp :: .inr (.inr (some b)) :: .inl sp :: .inr (.inr (some a)) :: st' => match σ.2.2.1[a]?, σ.2.2.1[b]? with
    | some (.inl t0, n0), some (.inl t1, n1) => if t0 = .int ∧ t1 = .int ∧ 0 ≤ n ∧ 0 ≤ dp ∧ 0 ≤ sp ∧ sp + n ≤ (n0 : Int) ∧ dp + n ≤ (n1 : Int) ∧ 2 ≤ a ∧ 2 ≤ b ∧ (st'.map am_cat).sum ≤ 8 then some (st', am_cpy σ a sp.toNat b dp.toNat n.toNat) else none
    | _, _ => none
  | _ => none
def am_newT (t : ArrayType) : FieldType := newarray.typeOf t
end
section
/-! THE TABLES: classes, fields, methods; printed by a program (wip/tools/gen_names.py) -/
def am_T0 : u_T := fun k => match k with
  | 0 => ("WashLine$Houses", "land", "LWashLine$World;", true)
  | 1 => ("WashLine$Houses", "size", "I", false)
  | 2 => ("WashLine$Houses", "number", "[I", true)
  | 3 => ("WashLine$Houses", "all", "[I", true)
  | 4 => ("WashLine$Houses", "people", "[I", true)
  | 5 => ("WashLine$Houses", "more", "[I", true)
  | 6 => ("WashLine$Houses", "less", "[I", true)
  | 7 => ("WashLine$Houses", "older", "[I", true)
  | 8 => ("WashLine$Houses", "least", "[I", true)
  | _ => ("WashLine$Houses", "most", "[I", true)
def am_ty0 : Nat → FieldType := fun k => match k with
  | 0 => .object "WashLine$World"
  | 1 => .int
  | 2 => .array .int
  | 3 => .array .int
  | 4 => .array .int
  | 5 => .array .int
  | 6 => .array .int
  | 7 => .array .int
  | 8 => .array .int
  | _ => .array .int
def am_T1 : u_T := fun k => match k with
  | 0 => ("WashLine$Line", "size", "I", false)
  | 1 => ("WashLine$Line", "weather", "[I", true)
  | 2 => ("WashLine$Line", "doubt", "[I", true)
  | _ => ("WashLine$Line", "hung", "[I", true)
def am_ty1 : Nat → FieldType := fun k => match k with
  | 0 => .int
  | 1 => .array .int
  | 2 => .array .int
  | _ => .array .int
def am_T2 : u_T := fun k => match k with
  | 0 => ("WashLine$Looks", "land", "LWashLine$World;", true)
  | 1 => ("WashLine$Looks", "houses", "LWashLine$Houses;", true)
  | _ => ("WashLine$Looks", "line", "LWashLine$Line;", true)
def am_ty2 : Nat → FieldType := fun k => match k with
  | 0 => .object "WashLine$World"
  | 1 => .object "WashLine$Houses"
  | _ => .object "WashLine$Line"
def am_T3 : u_T := fun k => match k with
  | 0 => ("WashLine$Reader", "source", "LWashLine$Strip;", false)
  | 1 => ("WashLine$Reader", "place", "I", false)
  | _ => ("WashLine$Reader", "target", "LWashLine$World;", true)
def am_ty3 : Nat → FieldType := fun k => match k with
  | 0 => .object "WashLine$Strip"
  | 1 => .int
  | _ => .object "WashLine$World"
def am_T4 : u_T := fun k => match k with
  | 0 => ("WashLine$Steps", "land", "LWashLine$World;", true)
  | 1 => ("WashLine$Steps", "houses", "LWashLine$Houses;", true)
  | 2 => ("WashLine$Steps", "wave", "[I", true)
  | 3 => ("WashLine$Steps", "known", "[B", false)
  | _ => ("WashLine$Steps", "isKnown", "[Z", true)
def am_ty4 : Nat → FieldType := fun k => match k with
  | 0 => .object "WashLine$World"
  | 1 => .object "WashLine$Houses"
  | 2 => .array .int
  | 3 => .array .byte
  | _ => .array .boolean
def am_T5 : u_T := fun k => match k with
  | 0 => ("WashLine$Story", "land", "LWashLine$World;", true)
  | 1 => ("WashLine$Story", "line", "LWashLine$Line;", true)
  | 2 => ("WashLine$Story", "size", "I", false)
  | 3 => ("WashLine$Story", "kinds", "[I", true)
  | 4 => ("WashLine$Story", "days", "[I", true)
  | 5 => ("WashLine$Story", "ones", "[I", true)
  | 6 => ("WashLine$Story", "others", "[I", true)
  | 7 => ("WashLine$Story", "people", "[I", true)
  | 8 => ("WashLine$Story", "least", "[I", true)
  | 9 => ("WashLine$Story", "most", "[I", true)
  | _ => ("WashLine$Story", "offThing", "I", false)
def am_ty5 : Nat → FieldType := fun k => match k with
  | 0 => .object "WashLine$World"
  | 1 => .object "WashLine$Line"
  | 2 => .int
  | 3 => .array .int
  | 4 => .array .int
  | 5 => .array .int
  | 6 => .array .int
  | 7 => .array .int
  | 8 => .array .int
  | 9 => .array .int
  | _ => .int
def am_T6 : u_T := fun k => match k with
  | 0 => ("WashLine$Strip", "places", "[I", true)
  | _ => ("WashLine$Strip", "size", "I", false)
def am_ty6 : Nat → FieldType := fun k => match k with
  | 0 => .array .int
  | _ => .int
def am_T7 : u_T := fun k => match k with
  | 0 => ("WashLine$Winter", "houses", "LWashLine$Houses;", true)
  | 1 => ("WashLine$Winter", "line", "LWashLine$Line;", true)
  | 2 => ("WashLine$Winter", "looks", "LWashLine$Looks;", true)
  | 3 => ("WashLine$Winter", "steps", "LWashLine$Steps;", true)
  | 4 => ("WashLine$Winter", "weighed", "Z", false)
  | 5 => ("WashLine$Winter", "counted", "Z", false)
  | 6 => ("WashLine$Winter", "best", "I", false)
  | 7 => ("WashLine$Winter", "total", "J", false)
  | 8 => ("WashLine$Winter", "first", "[I", true)
  | 9 => ("WashLine$Winter", "wave", "[I", true)
  | 10 => ("WashLine$Winter", "prices", "[I", true)
  | 11 => ("WashLine$Winter", "ahead", "[I", true)
  | 12 => ("WashLine$Winter", "behind", "[I", true)
  | 13 => ("WashLine$Winter", "listed", "[I", true)
  | 14 => ("WashLine$Winter", "lists", "[I", true)
  | 15 => ("WashLine$Winter", "waysTo", "[J", true)
  | 16 => ("WashLine$Winter", "waysOn", "[J", true)
  | _ => ("WashLine$Winter", "heap", "[I", true)
def am_ty7 : Nat → FieldType := fun k => match k with
  | 0 => .object "WashLine$Houses"
  | 1 => .object "WashLine$Line"
  | 2 => .object "WashLine$Looks"
  | 3 => .object "WashLine$Steps"
  | 4 => .boolean
  | 5 => .boolean
  | 6 => .int
  | 7 => .long
  | 8 => .array .int
  | 9 => .array .int
  | 10 => .array .int
  | 11 => .array .int
  | 12 => .array .int
  | 13 => .array .int
  | 14 => .array .int
  | 15 => .array .long
  | 16 => .array .long
  | _ => .array .int
def am_T8 : u_T := fun k => match k with
  | 0 => ("WashLine$World", "sorts", "I", false)
  | 1 => ("WashLine$World", "into", "[I", true)
  | 2 => ("WashLine$World", "least", "[I", true)
  | 3 => ("WashLine$World", "most", "[I", true)
  | 4 => ("WashLine$World", "inside", "I", false)
  | _ => ("WashLine$World", "prices", "[I", true)
def am_ty8 : Nat → FieldType := fun k => match k with
  | 0 => .int
  | 1 => .array .int
  | 2 => .array .int
  | 3 => .array .int
  | 4 => .int
  | _ => .array .int
def am_T9 : u_T := fun k => match k with
  | 0 => ("WashLine", "rows", "[LWashLine$Strip;", true)
  | 1 => ("WashLine", "texts", "[LWashLine$Strip;", true)
  | 2 => ("WashLine", "land", "LWashLine$World;", true)
  | 3 => ("WashLine", "reader", "LWashLine$Reader;", true)
  | 4 => ("WashLine", "houses", "LWashLine$Houses;", true)
  | 5 => ("WashLine", "line", "LWashLine$Line;", true)
  | 6 => ("WashLine", "looks", "LWashLine$Looks;", true)
  | 7 => ("WashLine", "steps", "LWashLine$Steps;", true)
  | 8 => ("WashLine", "winter", "LWashLine$Winter;", true)
  | 9 => ("WashLine", "story", "LWashLine$Story;", true)
  | 10 => ("WashLine", "found", "[I", true)
  | 11 => ("WashLine", "lastFound", "I", false)
  | 12 => ("WashLine", "lastAsked", "I", false)
  | 13 => ("WashLine", "lastTales", "J", false)
  | 14 => ("WashLine", "lastUpper", "J", false)
  | _ => ("WashLine", "lastLower", "J", false)
def am_ty9 : Nat → FieldType := fun k => match k with
  | 0 => .array (.object "WashLine$Strip")
  | 1 => .array (.object "WashLine$Strip")
  | 2 => .object "WashLine$World"
  | 3 => .object "WashLine$Reader"
  | 4 => .object "WashLine$Houses"
  | 5 => .object "WashLine$Line"
  | 6 => .object "WashLine$Looks"
  | 7 => .object "WashLine$Steps"
  | 8 => .object "WashLine$Winter"
  | 9 => .object "WashLine$Story"
  | 10 => .array .int
  | 11 => .int
  | 12 => .int
  | 13 => .long
  | 14 => .long
  | _ => .long
def am_T10 : u_T := fun k => match k with
  | 0 => ("WashLineModel", "finding", "I", false)
  | 1 => ("WashLineModel", "findings", "[I", true)
  | 2 => ("WashLineModel", "asked", "I", false)
  | 3 => ("WashLineModel", "tales", "J", false)
  | 4 => ("WashLineModel", "upper", "J", false)
  | 5 => ("WashLineModel", "lower", "J", false)
  | 6 => ("WashLineModel", "sizes", "[I", true)
  | 7 => ("WashLineModel", "rows", "[I", true)
  | 8 => ("WashLineModel", "moving", "[I", true)
  | 9 => ("WashLineModel", "lengths", "[I", true)
  | 10 => ("WashLineModel", "texts", "[I", true)
  | 11 => ("WashLineModel", "sortMany", "I", false)
  | 12 => ("WashLineModel", "into", "[I", true)
  | 13 => ("WashLineModel", "leasts", "[I", true)
  | 14 => ("WashLineModel", "mosts", "[I", true)
  | 15 => ("WashLineModel", "indoors", "I", false)
  | 16 => ("WashLineModel", "prices", "[I", true)
  | 17 => ("WashLineModel", "readSorts", "I", false)
  | 18 => ("WashLineModel", "readInto", "[I", true)
  | 19 => ("WashLineModel", "readLeast", "[I", true)
  | 20 => ("WashLineModel", "readMost", "[I", true)
  | 21 => ("WashLineModel", "readIndoors", "I", false)
  | 22 => ("WashLineModel", "readPrices", "[I", true)
  | 23 => ("WashLineModel", "readAt", "I", false)
  | 24 => ("WashLineModel", "readFigure", "I", false)
  | 25 => ("WashLineModel", "mondayMany", "I", false)
  | 26 => ("WashLineModel", "mondays", "[I", true)
  | 27 => ("WashLineModel", "houseMany", "I", false)
  | 28 => ("WashLineModel", "numbers", "[I", true)
  | 29 => ("WashLineModel", "heads", "[I", true)
  | 30 => ("WashLineModel", "explained", "I", false)
  | 31 => ("WashLineModel", "areSteps", "Z", false)
  | 32 => ("WashLineModel", "steps", "[I", true)
  | 33 => ("WashLineModel", "waiting", "[I", true)
  | 34 => ("WashLineModel", "waits", "[Z", true)
  | 35 => ("WashLineModel", "nexts", "[I", true)
  | 36 => ("WashLineModel", "explainedBy", "[I", true)
  | 37 => ("WashLineModel", "front", "[I", true)
  | 38 => ("WashLineModel", "rest", "[I", true)
  | 39 => ("WashLineModel", "leastCost", "I", false)
  | 40 => ("WashLineModel", "first", "[I", true)
  | 41 => ("WashLineModel", "comes", "[J", true)
  | 42 => ("WashLineModel", "goes", "[J", true)
  | 43 => ("WashLineModel", "happeningMany", "I", false)
  | 44 => ("WashLineModel", "happenings", "[I", true)
  | 45 => ("WashLineModel", "hangsLeast", "[I", true)
  | 46 => ("WashLineModel", "hangsMost", "[I", true)
  | _ => ("WashLineModel", "h0", "J", false)
def am_ty10 : Nat → FieldType := fun k => match k with
  | 0 => .int
  | 1 => .array .int
  | 2 => .int
  | 3 => .long
  | 4 => .long
  | 5 => .long
  | 6 => .array .int
  | 7 => .array .int
  | 8 => .array .int
  | 9 => .array .int
  | 10 => .array .int
  | 11 => .int
  | 12 => .array .int
  | 13 => .array .int
  | 14 => .array .int
  | 15 => .int
  | 16 => .array .int
  | 17 => .int
  | 18 => .array .int
  | 19 => .array .int
  | 20 => .array .int
  | 21 => .int
  | 22 => .array .int
  | 23 => .int
  | 24 => .int
  | 25 => .int
  | 26 => .array .int
  | 27 => .int
  | 28 => .array .int
  | 29 => .array .int
  | 30 => .int
  | 31 => .boolean
  | 32 => .array .int
  | 33 => .array .int
  | 34 => .array .boolean
  | 35 => .array .int
  | 36 => .array .int
  | 37 => .array .int
  | 38 => .array .int
  | 39 => .int
  | 40 => .array .int
  | 41 => .array .long
  | 42 => .array .long
  | 43 => .int
  | 44 => .array .int
  | 45 => .array .int
  | 46 => .array .int
  | _ => .long
abbrev am_cl : List vw_C := [("WashLine$Houses", am_T0, 10), ("WashLine$Line", am_T1, 4), ("WashLine$Looks", am_T2, 3), ("WashLine$Reader", am_T3, 3), ("WashLine$Steps", am_T4, 5), ("WashLine$Story", am_T5, 11), ("WashLine$Strip", am_T6, 2), ("WashLine$Winter", am_T7, 18), ("WashLine$World", am_T8, 6), ("WashLine", am_T9, 16), ("WashLineModel", am_T10, 48)]
def am_Tt (c : Nat) : u_T := match c with
  | 0 => am_T0
  | 1 => am_T1
  | 2 => am_T2
  | 3 => am_T3
  | 4 => am_T4
  | 5 => am_T5
  | 6 => am_T6
  | 7 => am_T7
  | 8 => am_T8
  | 9 => am_T9
  | _ => am_T10
def am_fty (c : Nat) : Nat → FieldType := match c with
  | 0 => am_ty0
  | 1 => am_ty1
  | 2 => am_ty2
  | 3 => am_ty3
  | 4 => am_ty4
  | 5 => am_ty5
  | 6 => am_ty6
  | 7 => am_ty7
  | 8 => am_ty8
  | 9 => am_ty9
  | _ => am_ty10
def am_cN (c : Nat) : Nat := match c with
  | 0 => 10
  | 1 => 4
  | 2 => 3
  | 3 => 3
  | 4 => 5
  | 5 => 11
  | 6 => 2
  | 7 => 18
  | 8 => 6
  | 9 => 16
  | _ => 48
def am_cn (c : Nat) : String := match c with
  | 0 => "WashLine$Houses"
  | 1 => "WashLine$Line"
  | 2 => "WashLine$Looks"
  | 3 => "WashLine$Reader"
  | 4 => "WashLine$Steps"
  | 5 => "WashLine$Story"
  | 6 => "WashLine$Strip"
  | 7 => "WashLine$Winter"
  | 8 => "WashLine$World"
  | 9 => "WashLine"
  | 10 => "WashLineModel"
  | 11 => "WashLineLaw"
  | 12 => "java/util/Arrays"
  | _ => "java/lang/Math"
def am_FL : List (Nat × Nat × Nat × Nat × Nat) := [(8, 27, 8, 0, 135), (0, 50, 8, 0, 136), (3, 71, 8, 0, 137), (2, 66, 8, 0, 138), (4, 75, 8, 0, 139), (9, 176, 8, 0, 140), (5, 100, 8, 0, 141), (8, 9, 8, 1, 142), (3, 78, 8, 1, 143), (0, 86, 8, 1, 144), (5, 75, 8, 1, 145), (9, 191, 8, 1, 146), (8, 15, 8, 2, 147), (2, 39, 8, 2, 148), (3, 81, 8, 2, 149), (0, 89, 8, 2, 150), (9, 188, 8, 2, 151), (5, 113, 8, 2, 152), (8, 18, 8, 3, 153), (2, 33, 8, 3, 154), (3, 84, 8, 3, 155), (0, 90, 8, 3, 156), (9, 185, 8, 3, 157), (5, 114, 8, 3, 158), (8, 31, 8, 4, 159), (3, 87, 8, 4, 160), (9, 194, 8, 4, 161), (8, 21, 8, 5, 162), (4, 48, 8, 5, 163), (2, 73, 8, 5, 164), (3, 89, 8, 5, 165), (9, 200, 8, 5, 166), (6, 13, 6, 0, 193), (3, 51, 6, 0, 194), (9, 134, 6, 0, 195), (6, 7, 6, 1, 196), (3, 34, 6, 1, 197), (9, 137, 6, 1, 198), (3, 14, 3, 0, 206), (3, 27, 3, 1, 207), (3, 23, 3, 2, 208), (9, 161, 3, 2, 209), (0, 36, 0, 0, 258), (0, 46, 0, 1, 259), (4, 31, 0, 1, 260), (7, 101, 0, 1, 261), (2, 76, 0, 1, 262), (0, 9, 0, 2, 263), (9, 245, 0, 2, 264), (0, 15, 0, 3, 265), (2, 90, 0, 3, 266), (9, 248, 0, 3, 267), (0, 18, 0, 4, 268), (2, 70, 0, 4, 269), (7, 155, 0, 4, 270), (0, 21, 0, 5, 271), (4, 65, 0, 5, 272), (0, 24, 0, 6, 273), (4, 72, 0, 6, 274), (0, 27, 0, 7, 275), (4, 82, 0, 7, 276), (0, 30, 0, 8, 277), (2, 36, 0, 8, 278), (0, 33, 0, 9, 279), (2, 27, 0, 9, 280), (9, 225, 0, 9, 281), (7, 182, 0, 9, 282), (1, 9, 1, 0, 310), (7, 75, 1, 0, 311), (9, 170, 1, 0, 312), (5, 83, 1, 0, 313), (2, 107, 1, 0, 314), (1, 15, 1, 1, 315), (2, 49, 1, 1, 316), (5, 118, 1, 1, 317), (1, 19, 1, 2, 318), (2, 96, 1, 2, 319), (1, 22, 1, 3, 320), (2, 93, 1, 3, 321), (9, 216, 1, 3, 322), (2, 9, 2, 0, 338), (2, 15, 2, 1, 339), (2, 19, 2, 2, 340), (4, 23, 4, 0, 354), (4, 27, 4, 1, 355), (4, 9, 4, 2, 356), (4, 15, 4, 3, 357), (4, 19, 4, 4, 358), (7, 58, 7, 0, 378), (7, 62, 7, 1, 379), (7, 66, 7, 2, 380), (7, 70, 7, 3, 381), (7, 9, 7, 4, 382), (7, 15, 7, 5, 383), (7, 18, 7, 6, 384), (9, 269, 7, 6, 385), (7, 22, 7, 7, 386), (9, 278, 7, 7, 387), (7, 26, 7, 8, 388), (9, 272, 7, 8, 389), (7, 30, 7, 9, 390), (7, 33, 7, 10, 391), (7, 36, 7, 11, 392), (7, 39, 7, 12, 393), (7, 42, 7, 13, 394), (7, 45, 7, 14, 395), (7, 48, 7, 15, 396), (7, 52, 7, 16, 397), (7, 55, 7, 17, 398), (5, 40, 5, 0, 443), (5, 44, 5, 1, 444), (5, 9, 5, 2, 445), (9, 171, 5, 2, 446), (5, 15, 5, 3, 447), (5, 19, 5, 4, 448), (5, 22, 5, 5, 449), (5, 25, 5, 6, 450), (5, 28, 5, 7, 451), (5, 31, 5, 8, 452), (5, 34, 5, 9, 453), (5, 37, 5, 10, 454), (9, 326, 5, 10, 455), (9, 11, 9, 0, 480), (9, 15, 9, 1, 481), (9, 21, 9, 2, 482), (9, 28, 9, 3, 483), (9, 37, 9, 4, 484), (9, 44, 9, 5, 485), (9, 53, 9, 6, 486), (9, 62, 9, 7, 487), (9, 71, 9, 8, 488), (9, 80, 9, 9, 489), (9, 84, 9, 10, 490), (9, 88, 9, 11, 491), (9, 92, 9, 12, 492), (9, 95, 9, 13, 493), (9, 99, 9, 14, 494), (9, 102, 9, 15, 495), (10, 113, 10, 0, 1205), (10, 7, 10, 1, 1206), (10, 117, 10, 2, 1207), (10, 294, 10, 3, 1208), (10, 120, 10, 4, 1209), (10, 13, 10, 5, 1210), (10, 17, 10, 6, 1211), (10, 20, 10, 7, 1212), (10, 23, 10, 8, 1213), (10, 26, 10, 9, 1214), (10, 29, 10, 10, 1215), (10, 188, 10, 11, 1216), (10, 32, 10, 12, 1217), (10, 35, 10, 13, 1218), (10, 38, 10, 14, 1219), (10, 191, 10, 15, 1220), (10, 41, 10, 16, 1221), (10, 154, 10, 17, 1222), (10, 44, 10, 18, 1223), (10, 47, 10, 19, 1224), (10, 50, 10, 20, 1225), (10, 157, 10, 21, 1226), (10, 53, 10, 22, 1227), (10, 160, 10, 23, 1228), (10, 166, 10, 24, 1229), (10, 194, 10, 25, 1230), (10, 56, 10, 26, 1231), (10, 219, 10, 27, 1232), (10, 59, 10, 28, 1233), (10, 62, 10, 29, 1234), (10, 240, 10, 30, 1235), (10, 203, 10, 31, 1236), (10, 66, 10, 32, 1237), (10, 69, 10, 33, 1238), (10, 72, 10, 34, 1239), (10, 76, 10, 35, 1240), (10, 79, 10, 36, 1241), (10, 82, 10, 37, 1242), (10, 85, 10, 38, 1243), (10, 272, 10, 39, 1244), (10, 88, 10, 40, 1245), (10, 91, 10, 41, 1246), (10, 95, 10, 42, 1247), (10, 197, 10, 43, 1248), (10, 98, 10, 44, 1249), (10, 101, 10, 45, 1250), (10, 104, 10, 46, 1251), (10, 345, 10, 47, 1252)]
def am_ML : List (Nat × Nat × Nat × Nat) := [(11, 9, 1, 114), (9, 20, 2, 124), (8, 24, 3, 128), (8, 34, 4, 132), (3, 11, 6, 189), (3, 22, 2, 205), (9, 34, 7, 219), (0, 40, 8, 223), (0, 43, 9, 227), (0, 70, 10, 231), (12, 13, 11, 234), (0, 76, 12, 237), (0, 58, 13, 246), (0, 62, 14, 250), (0, 66, 15, 254), (9, 50, 17, 334), (9, 59, 18, 350), (9, 68, 19, 374), (9, 77, 20, 439), (9, 105, 6, 479), (11, 13, 21, 529), (9, 108, 22, 533), (9, 197, 23, 536), (9, 112, 24, 539), (9, 116, 25, 543), (6, 17, 4, 547), (11, 18, 26, 548), (9, 120, 27, 552), (9, 124, 28, 556), (9, 127, 29, 560), (9, 131, 30, 564), (11, 23, 31, 568), (11, 27, 32, 572), (11, 32, 33, 576), (9, 140, 34, 580), (11, 37, 35, 585), (9, 150, 36, 589), (11, 41, 37, 593), (9, 154, 38, 597), (11, 45, 39, 600), (11, 49, 40, 604), (9, 157, 41, 608), (3, 31, 3, 612), (3, 37, 42, 613), (3, 55, 43, 617), (3, 48, 28, 621), (3, 41, 44, 622), (3, 59, 45, 626), (3, 74, 46, 630), (3, 62, 47, 634), (3, 65, 48, 638), (3, 68, 49, 642), (3, 45, 50, 646), (11, 53, 51, 650), (9, 164, 52, 654), (9, 167, 8, 659), (9, 172, 53, 660), (9, 175, 54, 664), (11, 57, 55, 668), (9, 179, 56, 672), (9, 182, 57, 676), (11, 61, 58, 679), (11, 65, 59, 683), (11, 70, 60, 687), (11, 74, 61, 691), (9, 203, 62, 695), (9, 206, 63, 698), (9, 209, 64, 702), (11, 78, 65, 707), (9, 213, 66, 711), (11, 82, 67, 715), (9, 219, 68, 719), (11, 86, 69, 723), (11, 90, 70, 727), (9, 222, 13, 731), (9, 226, 71, 732), (0, 91, 72, 736), (11, 94, 73, 740), (9, 230, 74, 744), (2, 56, 75, 748), (2, 23, 76, 752), (2, 40, 77, 756), (2, 46, 78, 760), (2, 52, 72, 764), (2, 59, 79, 765), (2, 63, 80, 769), (9, 233, 81, 773), (11, 98, 82, 777), (9, 236, 83, 781), (9, 239, 84, 785), (2, 86, 71, 789), (11, 102, 85, 790), (9, 242, 86, 794), (11, 106, 87, 798), (9, 251, 88, 802), (2, 99, 89, 806), (11, 110, 90, 813), (9, 254, 91, 817), (2, 79, 74, 821), (2, 82, 81, 822), (11, 114, 92, 823), (9, 257, 93, 827), (4, 38, 4, 832), (4, 44, 94, 833), (4, 53, 95, 837), (4, 68, 96, 841), (4, 56, 97, 845), (4, 78, 98, 849), (4, 59, 99, 853), (9, 260, 100, 857), (11, 118, 101, 861), (9, 263, 102, 865), (7, 80, 103, 869), (7, 104, 74, 873), (7, 110, 81, 875), (7, 84, 104, 876), (7, 114, 4, 880), (7, 120, 94, 881), (7, 126, 105, 882), (7, 88, 106, 890), (7, 92, 107, 894), (7, 139, 108, 898), (4, 62, 109, 902), (7, 95, 110, 906), (7, 142, 111, 910), (7, 98, 112, 914), (7, 145, 93, 918), (7, 148, 113, 919), (7, 152, 100, 923), (9, 266, 106, 924), (11, 122, 114, 925), (11, 126, 115, 929), (9, 275, 116, 933), (7, 161, 117, 937), (7, 164, 118, 941), (7, 170, 119, 949), (11, 130, 120, 954), (9, 283, 121, 958), (9, 286, 122, 963), (11, 134, 123, 967), (9, 289, 124, 971), (9, 293, 125, 975), (9, 359, 126, 979), (11, 138, 127, 982), (9, 297, 111, 986), (11, 142, 128, 988), (9, 301, 129, 992), (11, 146, 130, 996), (9, 304, 131, 1000), (11, 151, 132, 1004), (9, 307, 133, 1008), (9, 310, 134, 1012), (11, 155, 135, 1016), (9, 311, 136, 1020), (9, 314, 137, 1024), (5, 52, 138, 1028), (5, 60, 4, 1032), (5, 66, 139, 1033), (5, 69, 140, 1037), (5, 56, 141, 1041), (5, 72, 142, 1045), (11, 159, 143, 1049), (9, 317, 138, 1053), (9, 320, 144, 1054), (11, 163, 145, 1059), (9, 323, 146, 1063), (5, 86, 147, 1067), (5, 89, 148, 1071), (5, 103, 149, 1075), (5, 115, 150, 1080), (5, 124, 151, 1084), (5, 121, 72, 1089), (5, 93, 77, 1090), (5, 97, 78, 1091), (11, 167, 152, 1092), (9, 329, 153, 1096), (11, 171, 154, 1100), (9, 332, 155, 1104), (2, 108, 153, 1108), (11, 175, 156, 1109), (9, 335, 157, 1113), (7, 178, 71, 1117), (11, 179, 158, 1118), (11, 183, 159, 1122), (11, 188, 160, 1126), (11, 192, 161, 1130), (11, 196, 162, 1134), (9, 338, 163, 1138), (5, 48, 136, 1142), (9, 341, 164, 1143), (11, 200, 165, 1146), (11, 204, 166, 1150), (11, 208, 167, 1154), (9, 349, 162, 1160), (9, 352, 168, 1161), (9, 356, 169, 1166), (1, 33, 68, 1171), (9, 357, 170, 1172), (5, 133, 134, 1177), (9, 358, 171, 1178), (11, 12, 172, 1185), (10, 107, 173, 1190), (10, 110, 174, 1194), (10, 123, 175, 1198), (10, 200, 176, 1201), (11, 17, 177, 1350), (10, 127, 178, 1354), (10, 131, 179, 1357), (11, 26, 180, 1361), (10, 138, 181, 1365), (10, 141, 182, 1369), (10, 145, 183, 1373), (11, 22, 184, 1377), (10, 148, 180, 1381), (11, 31, 185, 1382), (11, 36, 186, 1386), (11, 40, 187, 1390), (11, 44, 188, 1394), (10, 135, 189, 1398), (11, 48, 190, 1401), (10, 151, 191, 1405), (11, 52, 192, 1409), (10, 185, 193, 1413), (10, 163, 194, 1417), (10, 182, 195, 1421), (10, 176, 196, 1425), (10, 169, 197, 1429), (10, 173, 198, 1433), (10, 179, 199, 1437), (11, 56, 200, 1441), (11, 60, 201, 1445), (10, 207, 202, 1449), (10, 210, 203, 1453), (11, 64, 204, 1456), (11, 69, 205, 1460), (11, 73, 206, 1464), (11, 77, 207, 1468), (11, 81, 208, 1472), (10, 213, 209, 1476), (10, 216, 210, 1480), (11, 85, 211, 1484), (11, 89, 212, 1488), (11, 93, 213, 1492), (10, 229, 214, 1496), (10, 225, 215, 1500), (10, 232, 216, 1504), (10, 222, 217, 1508), (11, 97, 218, 1512), (10, 247, 219, 1516), (10, 243, 220, 1520), (10, 236, 221, 1524), (11, 101, 222, 1529), (11, 105, 223, 1533), (10, 250, 224, 1537), (11, 109, 225, 1541), (10, 253, 226, 1545), (11, 113, 227, 1548), (11, 117, 228, 1552), (10, 266, 229, 1556), (10, 259, 230, 1560), (10, 256, 231, 1564), (10, 262, 232, 1568), (10, 269, 233, 1572), (11, 121, 234, 1576), (10, 278, 235, 1580), (10, 275, 236, 1584), (11, 125, 237, 1588), (10, 284, 238, 1592), (10, 281, 239, 1596), (10, 287, 177, 1600), (11, 129, 240, 1601), (10, 297, 241, 1605), (11, 187, 242, 1611), (11, 133, 243, 1615), (11, 137, 244, 1619), (10, 301, 245, 1623), (10, 304, 246, 1627), (11, 141, 247, 1631), (11, 145, 248, 1635), (11, 150, 249, 1639), (11, 154, 250, 1643), (10, 308, 251, 1647), (10, 311, 252, 1651), (11, 158, 253, 1655), (10, 314, 254, 1659), (10, 317, 255, 1662), (11, 162, 256, 1666), (11, 166, 257, 1670), (10, 331, 258, 1674), (10, 320, 259, 1678), (10, 323, 260, 1682), (10, 327, 261, 1686), (11, 170, 262, 1690), (10, 334, 263, 1694), (11, 174, 264, 1698), (11, 178, 265, 1702), (10, 337, 266, 1706), (11, 182, 267, 1710), (11, 191, 268, 1714), (11, 195, 269, 1718), (11, 199, 270, 1722), (10, 340, 271, 1726), (11, 203, 272, 1730), (11, 207, 273, 1734), (11, 211, 274, 1738), (10, 348, 275, 1743), (10, 353, 276, 1748)]
def am_OI : List (Nat × Nat × Nat) := [(9, 3, 117), (8, 3, 127), (3, 3, 186), (6, 1, 192), (0, 3, 222), (1, 3, 309), (2, 3, 337), (4, 3, 353), (7, 3, 377), (5, 3, 442), (10, 1, 1188)]
def am_AC : List (Nat × Nat × Nat) := [(0, 80, 241), (9, 144, 584), (8, 40, 658), (1, 25, 706), (7, 128, 889)]
def am_MA : List (Nat × Nat × Nat × Nat) := [(2, 102, 0, 810), (7, 134, 1, 886), (7, 175, 2, 945), (7, 158, 0, 962), (5, 107, 1, 1079), (5, 128, 0, 1088)]
def am_NM : List (Nat × Nat × Nat) := [(9, 27, 5), (9, 43, 16)]
def am_NG : List (Nat × Nat) := [(0, 55), (5, 80)]
def am_CT : List (Nat × Nat × Int × Nat) := [(4, 37, 1000000, 831), (7, 74, 1000000, 874), (9, 300, 1000000, 987), (10, 65, 213444, 1189), (10, 246, 100000, 1528)]
def am_CJ : List (Nat × Nat × Int × Nat) := [(7, 173, 1000000000000001, 944), (7, 168, 1000000000000000, 948), (9, 281, 1000000000000000, 953), (9, 345, 17, 1158), (9, 347, 31, 1159), (8, 46, 31, 1165), (1, 31, 31, 1170), (5, 131, 31, 1176), (6, 23, 31, 1182), (10, 290, 1000000000000000, 1609), (10, 292, 1000000000000001, 1610), (10, 351, 17, 1742), (10, 343, 31, 1747)]
def am_CK : List (Nat × Nat × Nat × Nat) := [(11, 7, 9, 112), (9, 9, 6, 120), (9, 18, 8, 122), (9, 25, 3, 181), (3, 9, 6, 187), (3, 20, 8, 204), (9, 32, 0, 217), (9, 41, 1, 304), (9, 48, 2, 332), (9, 57, 4, 348), (9, 66, 7, 372), (9, 75, 5, 437), (11, 10, 10, 1183)]
end
section
/-! THE SMALL MACHINE, second half: cells, calls, a run -/
def am_isO (σ : am_S) (a c : Nat) : Bool := match σ.2.2.1[a]? with
  | some (.inr c', _) => decide (c' = c) && decide (2 ≤ a)
  | _ => false
def am_getf (c k : Nat) (st : List am_V) (σ : am_S) : Option (List am_V × am_S) := match st with
  | .inr (.inr (some a)) :: st' => if am_isO σ a c then some (am_gv (am_fty c k) a k σ :: st', σ) else none
  | _ => none
def am_putf (c k : Nat) (st : List am_V) (σ : am_S) : Option (List am_V × am_S) := match st with
  | v :: .inr (.inr (some a)) :: st' => if am_isO σ a c then (am_pv (am_fty c k) a k v σ).map (fun σ' => (st', σ')) else none
  | _ => none
def am_newo (c : Nat) (st : List am_V) (σ : am_S) : Option (List am_V × am_S) := if c < 11 then some (vR σ.2.2.1.length :: st, am_new σ (.inr c, am_cN c)) else none
def am_newq (st : List am_V) (σ : am_S) : Option (List am_V × am_S) := am_newa am_strip st σ
def am_initO (st : List am_V) (σ : am_S) : Option (List am_V × am_S) := match st with
  | .inr (.inr (some _)) :: st' => if (st'.map am_cat).sum ≤ 8 then some (st', σ) else none
  | _ => none
def am_bget (st : List am_V) (σ : am_S) : Option (List am_V × am_S) := (am_aget .byte st σ).or (am_aget .boolean st σ)
def am_bput (st : List am_V) (σ : am_S) : Option (List am_V × am_S) := (am_aput .byte w8 st σ).or (am_aput .boolean (fun x => x % 2) st σ)
def am_math (k : Nat) (st : List am_V) (σ : am_S) : Option (List am_V × am_S) := match k with
  | 0 => match st with
    | .inl y :: .inl x :: st' => if (st'.map am_cat).sum ≤ 8 then some (vI (if x < y then y else x) :: st', σ) else none
    | _ => none
  | 1 => match st with
    | .inl y :: .inl x :: st' => if (st'.map am_cat).sum ≤ 8 then some (vI (if y < x then y else x) :: st', σ) else none
    | _ => none
  | 2 => match st with
    | .inr (.inl y) :: .inr (.inl x) :: st' => if (st'.map am_cat).sum ≤ 8 then some (vL (if y < x then y else x) :: st', σ) else none
    | _ => none
  | _ => none
/-- cells -/
def am_me (i : Instr) (ops : List Nat) (st : List am_V) (σ : am_S) : Option (List am_V × am_S) := match i with
  | .getfield _ => match ops with
    | [c, k] => am_getf c k st σ
    | _ => none
  | .putfield _ => match ops with
    | [c, k] => am_putf c k st σ
    | _ => none
  | .getstatic _ => some (vR 0 :: st, σ)
  | .iaload => am_aget .int st σ
  | .laload => am_aget .long st σ
  | .baload => am_bget st σ
  | .aaload => am_aget am_strip st σ
  | .iastore => am_aput .int (fun x => x) st σ
  | .lastore => am_aputL st σ
  | .bastore => am_bput st σ
  | .aastore => am_aputR st σ
  | .arraylength => am_alen st σ
  | .newarray t => am_newa (am_newT t) st σ
  | .anewarray _ => am_newq st σ
  | .new _ => match ops with
    | [c] => am_newo c st σ
    | _ => none
  | .invokespecial _ => match ops with
    | [] => am_initO st σ
    | _ => none
  | .invokestatic _ => match ops with
    | [] => am_acopy st σ
    | [k] => am_math k st σ
    | _ => none
  | _ => none
/-- calls: which method, its arguments, what stays on the stack -/
def am_ca (i : Instr) (ops : List Nat) (v : Int) (st : List am_V) (σ : am_S) : Option (Nat × List am_V × List am_V) := match i with
  | .invokestatic _ => match ops with
    | [m, n] => if n ≤ st.length ∧ ((st.drop n).map am_cat).sum ≤ 8 ∧ (((st.take n).reverse.map am_cat).sum : Int) ≤ v then some (m, (st.take n).reverse, st.drop n) else none
    | _ => none
  | .invokevirtual _ => match ops with
    | [m, n, c] => match (st.take n).reverse with
      | .inr (.inr (some a)) :: as => if n ≤ st.length ∧ ((st.drop n).map am_cat).sum ≤ 8 ∧ (((vR a :: as).map am_cat).sum : Int) ≤ v ∧ am_isO σ a c = true then some (m, vR a :: as, st.drop n) else none
      | _ => none
    | _ => none
  | .invokespecial _ => match ops with
    | [m, n] => match (st.take n).reverse with
      | .inr (.inr (some a)) :: as => if n ≤ st.length ∧ ((st.drop n).map am_cat).sum ≤ 8 ∧ (((vR a :: as).map am_cat).sum : Int) ≤ v then some (m, vR a :: as, st.drop n) else none
      | _ => none
    | _ => none
  | _ => none
/-- ends -/
def am_rt (i : Instr) (ops : List Nat) (st : List am_V) : Option (Option am_V) := match i with
  | .return_ => match st with
    | [] => some none
    | _ => none
  | .ireturn => match st with
    | [.inl x] => if ops.headD 0 = 0 ∨ x = 0 ∨ x = 1 then some (some (vI x)) else none
    | _ => none
  | .lreturn => match st with
    | [.inr (.inl x)] => some (some (vL x))
    | _ => none
  | _ => none
def am_args : Nat → List am_V → am_Lc
  | _, [] => []
  | i, v :: vs => (i, v) :: am_args (if am_two v then i + 2 else i + 1) vs
def am_run (P : Nat → List (List am_I)) : Nat → List (List am_I) → List am_I → am_Lc → List am_V → am_S → Option (Option am_V × am_S)
  | 0, _, _, _, _, _ => none
  | _ + 1, _, [], _, _, _ => none
  | n + 1, bs, (i, ops, v) :: is, l, st, σ =>
    match am_ar i v l st with
    | some (l', st') => am_run P n bs is l' st' σ
    | none => match am_me i ops st σ with
      | some (st', σ') => am_run P n bs is l st' σ'
      | none => match am_ct i ops st with
        | some (some b, st') => am_run P n bs (bs.getD b []) l st' σ
        | some (none, st') => am_run P n bs is l st' σ
        | none => match am_ca i ops v st σ with
          | some (m, as, st') => match am_run P n (P m) ((P m).getD 0 []) (am_args 0 as) [] σ with
            | some (r, σ') => am_run P n bs is l (r.toList ++ st') σ'
            | none => none
          | none => match am_rt i ops st with
            | some r => some (r, σ)
            | none => none
/-! more fuel does no harm; a run's end is one -/
set_option maxHeartbeats 1000000 in
theorem am_run_mono (P : Nat → List (List am_I)) : ∀ (n : Nat) (bs : List (List am_I)) (is : List am_I) (l : am_Lc) (st : List am_V) (σ : am_S) (o : Option am_V × am_S), am_run P n bs is l st σ = some o → am_run P (n + 1) bs is l st σ = some o := by
  intro n
  induction n with
  | zero => intro bs is l st σ o h; simp [am_run] at h
  | succ n ih =>
    intro bs is l st σ o h
    cases is with
    | nil => simp [am_run] at h
    | cons i is =>
      obtain ⟨i, ops, v⟩ := i
      rw [am_run] at h ⊢
      cases h1 : am_ar i v l st with
      | some q => rw [h1] at h; exact ih _ _ _ _ _ _ h
      | none =>
        rw [h1] at h
        dsimp only at h ⊢
        cases h2 : am_me i ops st σ with
        | some q => rw [h2] at h; exact ih _ _ _ _ _ _ h
        | none =>
          rw [h2] at h
          dsimp only at h ⊢
          cases h3 : am_ct i ops st with
          | some q =>
            obtain ⟨b, st'⟩ := q
            rw [h3] at h
            cases b with
            | some b => exact ih _ _ _ _ _ _ h
            | none => exact ih _ _ _ _ _ _ h
          | none =>
            rw [h3] at h
            dsimp only at h ⊢
            cases h4 : am_ca i ops v st σ with
            | some q =>
              obtain ⟨m, as, st'⟩ := q
              rw [h4] at h
              dsimp only at h ⊢
              cases h5 : am_run P n (P m) ((P m).getD 0 []) (am_args 0 as) [] σ with
              | none => rw [h5] at h; cases h
              | some r =>
                obtain ⟨r, σ'⟩ := r
                rw [h5] at h
                rw [ih _ _ _ _ _ _ h5]
                exact ih _ _ _ _ _ _ h
            | none =>
              rw [h4] at h
              exact h
theorem am_run_le (P : Nat → List (List am_I)) {n k : Nat} (hk : n ≤ k) {bs : List (List am_I)} {is : List am_I} {l : am_Lc} {st : List am_V} {σ : am_S} {o : Option am_V × am_S} (h : am_run P n bs is l st σ = some o) : am_run P k bs is l st σ = some o := by
  obtain ⟨d, rfl⟩ := Nat.le.dest hk
  induction d with
  | zero => exact h
  | succ d ih => exact am_run_mono P (n + d) bs is l st σ o (ih (Nat.le_add_right n d))
end
section
/-! THE METHODS: each as blocks of instructions; printed by a program (wip/tools/gen_names.py) -/
/-- WashLineLaw.law([I)Z -/
def am_b0 : List (List am_I) := [[(.new 7, [9], 0), (.dup, [], 0), (.invokespecial 9, [1, 1], 1), (.astore_n 1, [], 0), (.new 10, [10], 0), (.dup, [], 0), (.invokespecial 12, [172, 1], 1), (.astore_n 2, [], 0), (.iconst 0, [], 0), (.istore_n 3, [], 0), (.nop, [1], 0)],
  [(.iload_n 3, [], 0), (.aload_n 0, [], 0), (.arraylength, [], 0), (.bipush 6, [], 0), (.isub, [], 0), (.if_icmp .gt 1550, [51], 0), (.aload_n 0, [], 0), (.iload_n 3, [], 0), (.iaload, [], 0), (.bipush 63, [], 0), (.iand, [], 0), (.tableswitch 1535 0 47 #[207, 240, 283, 316, 339, 402, 425, 458, 501, 524, 547, 580, 603, 616, 649, 692, 735, 768, 791, 834, 867, 900, 923, 946, 979, 1012, 1025, 1048, 1061, 1094, 1137, 1170, 1193, 1246, 1279, 1312, 1335, 1348, 1371, 1384, 1407, 1420, 1434, 1448, 1462, 1485, 1498, 1521], [50, 2, 3, 4, 5, 6, 7, 8, 9, 10, 11, 12, 13, 14, 15, 16, 17, 18, 19, 20, 21, 22, 23, 24, 25, 26, 27, 28, 29, 30, 31, 32, 33, 34, 35, 36, 37, 38, 39, 40, 41, 42, 43, 44, 45, 46, 47, 48, 49], 0)],
  [(.aload_n 1, [], 0), (.aload_n 0, [], 0), (.iload_n 3, [], 0), (.iconst 1, [], 0), (.iadd, [], 0), (.iaload, [], 0), (.aload_n 0, [], 0), (.iload_n 3, [], 0), (.iconst 2, [], 0), (.iadd, [], 0), (.iaload, [], 0), (.invokevirtual 13, [21, 3, 9], 3), (.aload_n 2, [], 0), (.aload_n 0, [], 0), (.iload_n 3, [], 0), (.iconst 1, [], 0), (.iadd, [], 0), (.iaload, [], 0), (.aload_n 0, [], 0), (.iload_n 3, [], 0), (.iconst 2, [], 0), (.iadd, [], 0), (.iaload, [], 0), (.invokevirtual 17, [177, 3, 10], 3), (.if_icmp .eq 1300, [50], 0), (.iconst 0, [], 0), (.ireturn, [1], 0)],
  [(.aload_n 1, [], 0), (.aload_n 0, [], 0), (.iload_n 3, [], 0), (.iconst 1, [], 0), (.iadd, [], 0), (.iaload, [], 0), (.aload_n 0, [], 0), (.iload_n 3, [], 0), (.iconst 2, [], 0), (.iadd, [], 0), (.iaload, [], 0), (.aload_n 0, [], 0), (.iload_n 3, [], 0), (.iconst 3, [], 0), (.iadd, [], 0), (.iaload, [], 0), (.invokevirtual 18, [26, 4, 9], 4), (.aload_n 2, [], 0), (.aload_n 0, [], 0), (.iload_n 3, [], 0), (.iconst 1, [], 0), (.iadd, [], 0), (.iaload, [], 0), (.aload_n 0, [], 0), (.iload_n 3, [], 0), (.iconst 2, [], 0), (.iadd, [], 0), (.iaload, [], 0), (.aload_n 0, [], 0), (.iload_n 3, [], 0), (.iconst 3, [], 0), (.iadd, [], 0), (.iaload, [], 0), (.invokevirtual 22, [184, 4, 10], 4), (.if_icmp .eq 1257, [50], 0), (.iconst 0, [], 0), (.ireturn, [1], 0)],
  [(.aload_n 1, [], 0), (.aload_n 0, [], 0), (.iload_n 3, [], 0), (.iconst 1, [], 0), (.iadd, [], 0), (.iaload, [], 0), (.aload_n 0, [], 0), (.iload_n 3, [], 0), (.iconst 2, [], 0), (.iadd, [], 0), (.iaload, [], 0), (.invokevirtual 23, [31, 3, 9], 3), (.aload_n 2, [], 0), (.aload_n 0, [], 0), (.iload_n 3, [], 0), (.iconst 1, [], 0), (.iadd, [], 0), (.iaload, [], 0), (.aload_n 0, [], 0), (.iload_n 3, [], 0), (.iconst 2, [], 0), (.iadd, [], 0), (.iaload, [], 0), (.invokevirtual 26, [180, 3, 10], 3), (.if_icmp .eq 1224, [50], 0), (.iconst 0, [], 0), (.ireturn, [1], 0)],
  [(.aload_n 1, [], 0), (.aload_n 0, [], 0), (.iload_n 3, [], 0), (.iconst 1, [], 0), (.iadd, [], 0), (.iaload, [], 0), (.invokevirtual 27, [32, 2, 9], 2), (.aload_n 2, [], 0), (.aload_n 0, [], 0), (.iload_n 3, [], 0), (.iconst 1, [], 0), (.iadd, [], 0), (.iaload, [], 0), (.invokevirtual 31, [185, 2, 10], 2), (.if_icmp .eq 1201, [50], 0), (.iconst 0, [], 0), (.ireturn, [1], 0)],
  [(.aload_n 1, [], 0), (.aload_n 0, [], 0), (.iload_n 3, [], 0), (.iconst 1, [], 0), (.iadd, [], 0), (.iaload, [], 0), (.aload_n 0, [], 0), (.iload_n 3, [], 0), (.iconst 2, [], 0), (.iadd, [], 0), (.iaload, [], 0), (.aload_n 0, [], 0), (.iload_n 3, [], 0), (.iconst 3, [], 0), (.iadd, [], 0), (.iaload, [], 0), (.aload_n 0, [], 0), (.iload_n 3, [], 0), (.iconst 4, [], 0), (.iadd, [], 0), (.iaload, [], 0), (.aload_n 0, [], 0), (.iload_n 3, [], 0), (.iconst 5, [], 0), (.iadd, [], 0), (.iaload, [], 0), (.invokevirtual 32, [33, 6, 9], 6), (.aload_n 2, [], 0), (.aload_n 0, [], 0), (.iload_n 3, [], 0), (.iconst 1, [], 0), (.iadd, [], 0), (.iaload, [], 0), (.aload_n 0, [], 0), (.iload_n 3, [], 0), (.iconst 2, [], 0), (.iadd, [], 0), (.iaload, [], 0), (.aload_n 0, [], 0), (.iload_n 3, [], 0), (.iconst 3, [], 0), (.iadd, [], 0), (.iaload, [], 0), (.aload_n 0, [], 0), (.iload_n 3, [], 0), (.iconst 4, [], 0), (.iadd, [], 0), (.iaload, [], 0), (.aload_n 0, [], 0), (.iload_n 3, [], 0), (.iconst 5, [], 0), (.iadd, [], 0), (.iaload, [], 0), (.invokevirtual 36, [186, 6, 10], 6), (.if_icmp .eq 1138, [50], 0), (.iconst 0, [], 0), (.ireturn, [1], 0)],
  [(.aload_n 1, [], 0), (.aload_n 0, [], 0), (.iload_n 3, [], 0), (.iconst 1, [], 0), (.iadd, [], 0), (.iaload, [], 0), (.invokevirtual 37, [35, 2, 9], 2), (.aload_n 2, [], 0), (.aload_n 0, [], 0), (.iload_n 3, [], 0), (.iconst 1, [], 0), (.iadd, [], 0), (.iaload, [], 0), (.invokevirtual 40, [187, 2, 10], 2), (.if_icmp .eq 1115, [50], 0), (.iconst 0, [], 0), (.ireturn, [1], 0)],
  [(.aload_n 1, [], 0), (.aload_n 0, [], 0), (.iload_n 3, [], 0), (.iconst 1, [], 0), (.iadd, [], 0), (.iaload, [], 0), (.aload_n 0, [], 0), (.iload_n 3, [], 0), (.iconst 2, [], 0), (.iadd, [], 0), (.iaload, [], 0), (.invokevirtual 41, [37, 3, 9], 3), (.aload_n 2, [], 0), (.aload_n 0, [], 0), (.iload_n 3, [], 0), (.iconst 1, [], 0), (.iadd, [], 0), (.iaload, [], 0), (.aload_n 0, [], 0), (.iload_n 3, [], 0), (.iconst 2, [], 0), (.iadd, [], 0), (.iaload, [], 0), (.invokevirtual 44, [188, 3, 10], 3), (.if_icmp .eq 1082, [50], 0), (.iconst 0, [], 0), (.ireturn, [1], 0)],
  [(.aload_n 1, [], 0), (.aload_n 0, [], 0), (.iload_n 3, [], 0), (.iconst 1, [], 0), (.iadd, [], 0), (.iaload, [], 0), (.aload_n 0, [], 0), (.iload_n 3, [], 0), (.iconst 2, [], 0), (.iadd, [], 0), (.iaload, [], 0), (.aload_n 0, [], 0), (.iload_n 3, [], 0), (.iconst 3, [], 0), (.iadd, [], 0), (.iaload, [], 0), (.invokevirtual 45, [39, 4, 9], 4), (.aload_n 2, [], 0), (.aload_n 0, [], 0), (.iload_n 3, [], 0), (.iconst 1, [], 0), (.iadd, [], 0), (.iaload, [], 0), (.aload_n 0, [], 0), (.iload_n 3, [], 0), (.iconst 2, [], 0), (.iadd, [], 0), (.iaload, [], 0), (.aload_n 0, [], 0), (.iload_n 3, [], 0), (.iconst 3, [], 0), (.iadd, [], 0), (.iaload, [], 0), (.invokevirtual 48, [190, 4, 10], 4), (.if_icmp .eq 1039, [50], 0), (.iconst 0, [], 0), (.ireturn, [1], 0)],
  [(.aload_n 1, [], 0), (.aload_n 0, [], 0), (.iload_n 3, [], 0), (.iconst 1, [], 0), (.iadd, [], 0), (.iaload, [], 0), (.invokevirtual 49, [40, 2, 9], 2), (.aload_n 2, [], 0), (.aload_n 0, [], 0), (.iload_n 3, [], 0), (.iconst 1, [], 0), (.iadd, [], 0), (.iaload, [], 0), (.invokevirtual 52, [192, 2, 10], 2), (.if_icmp .eq 1016, [50], 0), (.iconst 0, [], 0), (.ireturn, [1], 0)],
  [(.aload_n 1, [], 0), (.aload_n 0, [], 0), (.iload_n 3, [], 0), (.iconst 1, [], 0), (.iadd, [], 0), (.iaload, [], 0), (.invokevirtual 53, [51, 2, 9], 2), (.aload_n 2, [], 0), (.aload_n 0, [], 0), (.iload_n 3, [], 0), (.iconst 1, [], 0), (.iadd, [], 0), (.iaload, [], 0), (.invokevirtual 56, [200, 2, 10], 2), (.if_icmp .eq 993, [50], 0), (.iconst 0, [], 0), (.ireturn, [1], 0)],
  [(.aload_n 1, [], 0), (.aload_n 0, [], 0), (.iload_n 3, [], 0), (.iconst 1, [], 0), (.iadd, [], 0), (.iaload, [], 0), (.aload_n 0, [], 0), (.iload_n 3, [], 0), (.iconst 2, [], 0), (.iadd, [], 0), (.iaload, [], 0), (.invokevirtual 57, [55, 3, 9], 3), (.aload_n 2, [], 0), (.aload_n 0, [], 0), (.iload_n 3, [], 0), (.iconst 1, [], 0), (.iadd, [], 0), (.iaload, [], 0), (.aload_n 0, [], 0), (.iload_n 3, [], 0), (.iconst 2, [], 0), (.iadd, [], 0), (.iaload, [], 0), (.invokevirtual 60, [201, 3, 10], 3), (.if_icmp .eq 960, [50], 0), (.iconst 0, [], 0), (.ireturn, [1], 0)],
  [(.aload_n 1, [], 0), (.aload_n 0, [], 0), (.iload_n 3, [], 0), (.iconst 1, [], 0), (.iadd, [], 0), (.iaload, [], 0), (.invokevirtual 61, [58, 2, 9], 2), (.aload_n 2, [], 0), (.aload_n 0, [], 0), (.iload_n 3, [], 0), (.iconst 1, [], 0), (.iadd, [], 0), (.iaload, [], 0), (.invokevirtual 64, [204, 2, 10], 2), (.if_icmp .eq 937, [50], 0), (.iconst 0, [], 0), (.ireturn, [1], 0)],
  [(.aload_n 1, [], 0), (.invokevirtual 65, [59, 1, 9], 1), (.aload_n 2, [], 0), (.invokevirtual 69, [205, 1, 10], 1), (.if_icmp .eq 924, [50], 0), (.iconst 0, [], 0), (.ireturn, [1], 0)],
  [(.aload_n 1, [], 0), (.aload_n 0, [], 0), (.iload_n 3, [], 0), (.iconst 1, [], 0), (.iadd, [], 0), (.iaload, [], 0), (.aload_n 0, [], 0), (.iload_n 3, [], 0), (.iconst 2, [], 0), (.iadd, [], 0), (.iaload, [], 0), (.invokevirtual 70, [60, 3, 9], 3), (.aload_n 2, [], 0), (.aload_n 0, [], 0), (.iload_n 3, [], 0), (.iconst 1, [], 0), (.iadd, [], 0), (.iaload, [], 0), (.aload_n 0, [], 0), (.iload_n 3, [], 0), (.iconst 2, [], 0), (.iadd, [], 0), (.iaload, [], 0), (.invokevirtual 73, [206, 3, 10], 3), (.if_icmp .eq 891, [50], 0), (.iconst 0, [], 0), (.ireturn, [1], 0)],
  [(.aload_n 1, [], 0), (.aload_n 0, [], 0), (.iload_n 3, [], 0), (.iconst 1, [], 0), (.iadd, [], 0), (.iaload, [], 0), (.aload_n 0, [], 0), (.iload_n 3, [], 0), (.iconst 2, [], 0), (.iadd, [], 0), (.iaload, [], 0), (.aload_n 0, [], 0), (.iload_n 3, [], 0), (.iconst 3, [], 0), (.iadd, [], 0), (.iaload, [], 0), (.invokevirtual 74, [61, 4, 9], 4), (.aload_n 2, [], 0), (.aload_n 0, [], 0), (.iload_n 3, [], 0), (.iconst 1, [], 0), (.iadd, [], 0), (.iaload, [], 0), (.aload_n 0, [], 0), (.iload_n 3, [], 0), (.iconst 2, [], 0), (.iadd, [], 0), (.iaload, [], 0), (.aload_n 0, [], 0), (.iload_n 3, [], 0), (.iconst 3, [], 0), (.iadd, [], 0), (.iaload, [], 0), (.invokevirtual 77, [207, 4, 10], 4), (.if_icmp .eq 848, [50], 0), (.iconst 0, [], 0), (.ireturn, [1], 0)],
  [(.aload_n 1, [], 0), (.aload_n 0, [], 0), (.iload_n 3, [], 0), (.iconst 1, [], 0), (.iadd, [], 0), (.iaload, [], 0), (.aload_n 0, [], 0), (.iload_n 3, [], 0), (.iconst 2, [], 0), (.iadd, [], 0), (.iaload, [], 0), (.aload_n 0, [], 0), (.iload_n 3, [], 0), (.iconst 3, [], 0), (.iadd, [], 0), (.iaload, [], 0), (.invokevirtual 78, [65, 4, 9], 4), (.aload_n 2, [], 0), (.aload_n 0, [], 0), (.iload_n 3, [], 0), (.iconst 1, [], 0), (.iadd, [], 0), (.iaload, [], 0), (.aload_n 0, [], 0), (.iload_n 3, [], 0), (.iconst 2, [], 0), (.iadd, [], 0), (.iaload, [], 0), (.aload_n 0, [], 0), (.iload_n 3, [], 0), (.iconst 3, [], 0), (.iadd, [], 0), (.iaload, [], 0), (.invokevirtual 81, [208, 4, 10], 4), (.if_icmp .eq 805, [50], 0), (.iconst 0, [], 0), (.ireturn, [1], 0)],
  [(.aload_n 1, [], 0), (.aload_n 0, [], 0), (.iload_n 3, [], 0), (.iconst 1, [], 0), (.iadd, [], 0), (.iaload, [], 0), (.aload_n 0, [], 0), (.iload_n 3, [], 0), (.iconst 2, [], 0), (.iadd, [], 0), (.iaload, [], 0), (.invokevirtual 82, [67, 3, 9], 3), (.aload_n 2, [], 0), (.aload_n 0, [], 0), (.iload_n 3, [], 0), (.iconst 1, [], 0), (.iadd, [], 0), (.iaload, [], 0), (.aload_n 0, [], 0), (.iload_n 3, [], 0), (.iconst 2, [], 0), (.iadd, [], 0), (.iaload, [], 0), (.invokevirtual 85, [211, 3, 10], 3), (.if_icmp .eq 772, [50], 0), (.iconst 0, [], 0), (.ireturn, [1], 0)],
  [(.aload_n 1, [], 0), (.aload_n 0, [], 0), (.iload_n 3, [], 0), (.iconst 1, [], 0), (.iadd, [], 0), (.iaload, [], 0), (.invokevirtual 86, [69, 2, 9], 2), (.aload_n 2, [], 0), (.aload_n 0, [], 0), (.iload_n 3, [], 0), (.iconst 1, [], 0), (.iadd, [], 0), (.iaload, [], 0), (.invokevirtual 89, [212, 2, 10], 2), (.if_icmp .eq 749, [50], 0), (.iconst 0, [], 0), (.ireturn, [1], 0)],
  [(.aload_n 1, [], 0), (.aload_n 0, [], 0), (.iload_n 3, [], 0), (.iconst 1, [], 0), (.iadd, [], 0), (.iaload, [], 0), (.aload_n 0, [], 0), (.iload_n 3, [], 0), (.iconst 2, [], 0), (.iadd, [], 0), (.iaload, [], 0), (.aload_n 0, [], 0), (.iload_n 3, [], 0), (.iconst 3, [], 0), (.iadd, [], 0), (.iaload, [], 0), (.invokevirtual 90, [70, 4, 9], 4), (.aload_n 2, [], 0), (.aload_n 0, [], 0), (.iload_n 3, [], 0), (.iconst 1, [], 0), (.iadd, [], 0), (.iaload, [], 0), (.aload_n 0, [], 0), (.iload_n 3, [], 0), (.iconst 2, [], 0), (.iadd, [], 0), (.iaload, [], 0), (.aload_n 0, [], 0), (.iload_n 3, [], 0), (.iconst 3, [], 0), (.iadd, [], 0), (.iaload, [], 0), (.invokevirtual 93, [213, 4, 10], 4), (.if_icmp .eq 706, [50], 0), (.iconst 0, [], 0), (.ireturn, [1], 0)],
  [(.aload_n 1, [], 0), (.aload_n 0, [], 0), (.iload_n 3, [], 0), (.iconst 1, [], 0), (.iadd, [], 0), (.iaload, [], 0), (.aload_n 0, [], 0), (.iload_n 3, [], 0), (.iconst 2, [], 0), (.iadd, [], 0), (.iaload, [], 0), (.invokevirtual 94, [73, 3, 9], 3), (.aload_n 2, [], 0), (.aload_n 0, [], 0), (.iload_n 3, [], 0), (.iconst 1, [], 0), (.iadd, [], 0), (.iaload, [], 0), (.aload_n 0, [], 0), (.iload_n 3, [], 0), (.iconst 2, [], 0), (.iadd, [], 0), (.iaload, [], 0), (.invokevirtual 97, [218, 3, 10], 3), (.if_icmp .eq 673, [50], 0), (.iconst 0, [], 0), (.ireturn, [1], 0)],
  [(.aload_n 1, [], 0), (.aload_n 0, [], 0), (.iload_n 3, [], 0), (.iconst 1, [], 0), (.iadd, [], 0), (.iaload, [], 0), (.aload_n 0, [], 0), (.iload_n 3, [], 0), (.iconst 2, [], 0), (.iadd, [], 0), (.iaload, [], 0), (.invokevirtual 98, [82, 3, 9], 3), (.aload_n 2, [], 0), (.aload_n 0, [], 0), (.iload_n 3, [], 0), (.iconst 1, [], 0), (.iadd, [], 0), (.iaload, [], 0), (.aload_n 0, [], 0), (.iload_n 3, [], 0), (.iconst 2, [], 0), (.iadd, [], 0), (.iaload, [], 0), (.invokevirtual 101, [222, 3, 10], 3), (.if_icmp .eq 640, [50], 0), (.iconst 0, [], 0), (.ireturn, [1], 0)],
  [(.aload_n 1, [], 0), (.aload_n 0, [], 0), (.iload_n 3, [], 0), (.iconst 1, [], 0), (.iadd, [], 0), (.iaload, [], 0), (.invokevirtual 102, [85, 2, 9], 2), (.aload_n 2, [], 0), (.aload_n 0, [], 0), (.iload_n 3, [], 0), (.iconst 1, [], 0), (.iadd, [], 0), (.iaload, [], 0), (.invokevirtual 105, [223, 2, 10], 2), (.if_icmp .eq 617, [50], 0), (.iconst 0, [], 0), (.ireturn, [1], 0)],
  [(.aload_n 1, [], 0), (.aload_n 0, [], 0), (.iload_n 3, [], 0), (.iconst 1, [], 0), (.iadd, [], 0), (.iaload, [], 0), (.invokevirtual 106, [87, 2, 9], 2), (.aload_n 2, [], 0), (.aload_n 0, [], 0), (.iload_n 3, [], 0), (.iconst 1, [], 0), (.iadd, [], 0), (.iaload, [], 0), (.invokevirtual 109, [225, 2, 10], 2), (.if_icmp .eq 594, [50], 0), (.iconst 0, [], 0), (.ireturn, [1], 0)],
  [(.aload_n 1, [], 0), (.aload_n 0, [], 0), (.iload_n 3, [], 0), (.iconst 1, [], 0), (.iadd, [], 0), (.iaload, [], 0), (.aload_n 0, [], 0), (.iload_n 3, [], 0), (.iconst 2, [], 0), (.iadd, [], 0), (.iaload, [], 0), (.invokevirtual 110, [90, 3, 9], 3), (.aload_n 2, [], 0), (.aload_n 0, [], 0), (.iload_n 3, [], 0), (.iconst 1, [], 0), (.iadd, [], 0), (.iaload, [], 0), (.aload_n 0, [], 0), (.iload_n 3, [], 0), (.iconst 2, [], 0), (.iadd, [], 0), (.iaload, [], 0), (.invokevirtual 113, [227, 3, 10], 3), (.if_icmp .eq 561, [50], 0), (.iconst 0, [], 0), (.ireturn, [1], 0)],
  [(.aload_n 1, [], 0), (.aload_n 0, [], 0), (.iload_n 3, [], 0), (.iconst 1, [], 0), (.iadd, [], 0), (.iaload, [], 0), (.aload_n 0, [], 0), (.iload_n 3, [], 0), (.iconst 2, [], 0), (.iadd, [], 0), (.iaload, [], 0), (.invokevirtual 114, [92, 3, 9], 3), (.aload_n 2, [], 0), (.aload_n 0, [], 0), (.iload_n 3, [], 0), (.iconst 1, [], 0), (.iadd, [], 0), (.iaload, [], 0), (.aload_n 0, [], 0), (.iload_n 3, [], 0), (.iconst 2, [], 0), (.iadd, [], 0), (.iaload, [], 0), (.invokevirtual 117, [228, 3, 10], 3), (.if_icmp .eq 528, [50], 0), (.iconst 0, [], 0), (.ireturn, [1], 0)],
  [(.aload_n 1, [], 0), (.invokevirtual 118, [101, 1, 9], 1), (.aload_n 2, [], 0), (.invokevirtual 121, [234, 1, 10], 1), (.if_icmp .eq 515, [50], 0), (.iconst 0, [], 0), (.ireturn, [1], 0)],
  [(.aload_n 1, [], 0), (.aload_n 0, [], 0), (.iload_n 3, [], 0), (.iconst 1, [], 0), (.iadd, [], 0), (.iaload, [], 0), (.invokevirtual 122, [114, 2, 9], 2), (.aload_n 2, [], 0), (.aload_n 0, [], 0), (.iload_n 3, [], 0), (.iconst 1, [], 0), (.iadd, [], 0), (.iaload, [], 0), (.invokevirtual 125, [237, 2, 10], 2), (.if_icmp .eq 492, [50], 0), (.iconst 0, [], 0), (.ireturn, [1], 0)],
  [(.aload_n 1, [], 0), (.invokevirtual 126, [115, 1, 9], 1), (.aload_n 2, [], 0), (.invokevirtual 129, [240, 1, 10], 1), (.if_icmp .eq 479, [50], 0), (.iconst 0, [], 0), (.ireturn, [1], 0)],
  [(.aload_n 1, [], 0), (.aload_n 0, [], 0), (.iload_n 3, [], 0), (.iconst 1, [], 0), (.iadd, [], 0), (.iaload, [], 0), (.aload_n 0, [], 0), (.iload_n 3, [], 0), (.iconst 2, [], 0), (.iadd, [], 0), (.iaload, [], 0), (.invokevirtual 130, [120, 3, 9], 3), (.aload_n 2, [], 0), (.aload_n 0, [], 0), (.iload_n 3, [], 0), (.iconst 1, [], 0), (.iadd, [], 0), (.iaload, [], 0), (.aload_n 0, [], 0), (.iload_n 3, [], 0), (.iconst 2, [], 0), (.iadd, [], 0), (.iaload, [], 0), (.invokevirtual 133, [243, 3, 10], 3), (.if_icmp .eq 446, [50], 0), (.iconst 0, [], 0), (.ireturn, [1], 0)],
  [(.aload_n 1, [], 0), (.aload_n 0, [], 0), (.iload_n 3, [], 0), (.iconst 1, [], 0), (.iadd, [], 0), (.iaload, [], 0), (.aload_n 0, [], 0), (.iload_n 3, [], 0), (.iconst 2, [], 0), (.iadd, [], 0), (.iaload, [], 0), (.aload_n 0, [], 0), (.iload_n 3, [], 0), (.iconst 3, [], 0), (.iadd, [], 0), (.iaload, [], 0), (.invokevirtual 134, [123, 4, 9], 4), (.aload_n 2, [], 0), (.aload_n 0, [], 0), (.iload_n 3, [], 0), (.iconst 1, [], 0), (.iadd, [], 0), (.iaload, [], 0), (.aload_n 0, [], 0), (.iload_n 3, [], 0), (.iconst 2, [], 0), (.iadd, [], 0), (.iaload, [], 0), (.aload_n 0, [], 0), (.iload_n 3, [], 0), (.iconst 3, [], 0), (.iadd, [], 0), (.iaload, [], 0), (.invokevirtual 137, [244, 4, 10], 4), (.if_icmp .eq 403, [50], 0), (.iconst 0, [], 0), (.ireturn, [1], 0)],
  [(.aload_n 1, [], 0), (.aload_n 0, [], 0), (.iload_n 3, [], 0), (.iconst 1, [], 0), (.iadd, [], 0), (.iaload, [], 0), (.aload_n 0, [], 0), (.iload_n 3, [], 0), (.iconst 2, [], 0), (.iadd, [], 0), (.iaload, [], 0), (.invokevirtual 138, [127, 3, 9], 3), (.aload_n 2, [], 0), (.aload_n 0, [], 0), (.iload_n 3, [], 0), (.iconst 1, [], 0), (.iadd, [], 0), (.iaload, [], 0), (.aload_n 0, [], 0), (.iload_n 3, [], 0), (.iconst 2, [], 0), (.iadd, [], 0), (.iaload, [], 0), (.invokevirtual 141, [247, 3, 10], 3), (.if_icmp .eq 370, [50], 0), (.iconst 0, [], 0), (.ireturn, [1], 0)],
  [(.aload_n 1, [], 0), (.aload_n 0, [], 0), (.iload_n 3, [], 0), (.iconst 1, [], 0), (.iadd, [], 0), (.iaload, [], 0), (.invokevirtual 142, [128, 2, 9], 2), (.aload_n 2, [], 0), (.aload_n 0, [], 0), (.iload_n 3, [], 0), (.iconst 1, [], 0), (.iadd, [], 0), (.iaload, [], 0), (.invokevirtual 145, [248, 2, 10], 2), (.if_icmp .eq 347, [50], 0), (.iconst 0, [], 0), (.ireturn, [1], 0)],
  [(.aload_n 1, [], 0), (.aload_n 0, [], 0), (.iload_n 3, [], 0), (.iconst 1, [], 0), (.iadd, [], 0), (.iaload, [], 0), (.aload_n 0, [], 0), (.iload_n 3, [], 0), (.iconst 2, [], 0), (.iadd, [], 0), (.iaload, [], 0), (.aload_n 0, [], 0), (.iload_n 3, [], 0), (.iconst 3, [], 0), (.iadd, [], 0), (.iaload, [], 0), (.aload_n 0, [], 0), (.iload_n 3, [], 0), (.iconst 4, [], 0), (.iadd, [], 0), (.iaload, [], 0), (.invokevirtual 146, [130, 5, 9], 5), (.aload_n 2, [], 0), (.aload_n 0, [], 0), (.iload_n 3, [], 0), (.iconst 1, [], 0), (.iadd, [], 0), (.iaload, [], 0), (.aload_n 0, [], 0), (.iload_n 3, [], 0), (.iconst 2, [], 0), (.iadd, [], 0), (.iaload, [], 0), (.aload_n 0, [], 0), (.iload_n 3, [], 0), (.iconst 3, [], 0), (.iadd, [], 0), (.iaload, [], 0), (.aload_n 0, [], 0), (.iload_n 3, [], 0), (.iconst 4, [], 0), (.iadd, [], 0), (.iaload, [], 0), (.invokevirtual 150, [249, 5, 10], 5), (.if_icmp .eq 294, [50], 0), (.iconst 0, [], 0), (.ireturn, [1], 0)],
  [(.aload_n 1, [], 0), (.aload_n 0, [], 0), (.iload_n 3, [], 0), (.iconst 1, [], 0), (.iadd, [], 0), (.iaload, [], 0), (.aload_n 0, [], 0), (.iload_n 3, [], 0), (.iconst 2, [], 0), (.iadd, [], 0), (.iaload, [], 0), (.invokevirtual 151, [132, 3, 9], 3), (.aload_n 2, [], 0), (.aload_n 0, [], 0), (.iload_n 3, [], 0), (.iconst 1, [], 0), (.iadd, [], 0), (.iaload, [], 0), (.aload_n 0, [], 0), (.iload_n 3, [], 0), (.iconst 2, [], 0), (.iadd, [], 0), (.iaload, [], 0), (.invokevirtual 154, [250, 3, 10], 3), (.if_icmp .eq 261, [50], 0), (.iconst 0, [], 0), (.ireturn, [1], 0)],
  [(.aload_n 1, [], 0), (.aload_n 0, [], 0), (.iload_n 3, [], 0), (.iconst 1, [], 0), (.iadd, [], 0), (.iaload, [], 0), (.aload_n 0, [], 0), (.iload_n 3, [], 0), (.iconst 2, [], 0), (.iadd, [], 0), (.iaload, [], 0), (.invokevirtual 155, [135, 3, 9], 3), (.aload_n 2, [], 0), (.aload_n 0, [], 0), (.iload_n 3, [], 0), (.iconst 1, [], 0), (.iadd, [], 0), (.iaload, [], 0), (.aload_n 0, [], 0), (.iload_n 3, [], 0), (.iconst 2, [], 0), (.iadd, [], 0), (.iaload, [], 0), (.invokevirtual 158, [253, 3, 10], 3), (.if_icmp .eq 228, [50], 0), (.iconst 0, [], 0), (.ireturn, [1], 0)],
  [(.aload_n 1, [], 0), (.aload_n 0, [], 0), (.iload_n 3, [], 0), (.iconst 1, [], 0), (.iadd, [], 0), (.iaload, [], 0), (.invokevirtual 159, [143, 2, 9], 2), (.aload_n 2, [], 0), (.aload_n 0, [], 0), (.iload_n 3, [], 0), (.iconst 1, [], 0), (.iadd, [], 0), (.iaload, [], 0), (.invokevirtual 162, [256, 2, 10], 2), (.if_icmp .eq 205, [50], 0), (.iconst 0, [], 0), (.ireturn, [1], 0)],
  [(.aload_n 1, [], 0), (.invokevirtual 163, [145, 1, 9], 1), (.aload_n 2, [], 0), (.invokevirtual 166, [257, 1, 10], 1), (.if_icmp .eq 192, [50], 0), (.iconst 0, [], 0), (.ireturn, [1], 0)],
  [(.aload_n 1, [], 0), (.aload_n 0, [], 0), (.iload_n 3, [], 0), (.iconst 1, [], 0), (.iadd, [], 0), (.iaload, [], 0), (.invokevirtual 167, [152, 2, 9], 2), (.aload_n 2, [], 0), (.aload_n 0, [], 0), (.iload_n 3, [], 0), (.iconst 1, [], 0), (.iadd, [], 0), (.iaload, [], 0), (.invokevirtual 170, [262, 2, 10], 2), (.if_icmp .eq 169, [50], 0), (.iconst 0, [], 0), (.ireturn, [1], 0)],
  [(.aload_n 1, [], 0), (.invokevirtual 171, [154, 1, 9], 1), (.aload_n 2, [], 0), (.invokevirtual 174, [264, 1, 10], 1), (.if_icmp .eq 156, [50], 0), (.iconst 0, [], 0), (.ireturn, [1], 0)],
  [(.aload_n 1, [], 0), (.aload_n 0, [], 0), (.iload_n 3, [], 0), (.iconst 1, [], 0), (.iadd, [], 0), (.iaload, [], 0), (.invokevirtual 175, [156, 2, 9], 2), (.aload_n 2, [], 0), (.aload_n 0, [], 0), (.iload_n 3, [], 0), (.iconst 1, [], 0), (.iadd, [], 0), (.iaload, [], 0), (.invokevirtual 178, [265, 2, 10], 2), (.if_icmp .eq 133, [50], 0), (.iconst 0, [], 0), (.ireturn, [1], 0)],
  [(.aload_n 1, [], 0), (.invokevirtual 179, [158, 1, 9], 1), (.aload_n 2, [], 0), (.invokevirtual 182, [267, 1, 10], 1), (.if_icmp .eq 120, [50], 0), (.iconst 0, [], 0), (.ireturn, [1], 0)],
  [(.aload_n 1, [], 0), (.invokevirtual 183, [159, 1, 9], 1), (.aload_n 2, [], 0), (.invokevirtual 187, [242, 1, 10], 1), (.lcmp, [], 0), (.ifCond .eq 106, [50], 0), (.iconst 0, [], 0), (.ireturn, [1], 0)],
  [(.aload_n 1, [], 0), (.invokevirtual 188, [160, 1, 9], 1), (.aload_n 2, [], 0), (.invokevirtual 191, [268, 1, 10], 1), (.lcmp, [], 0), (.ifCond .eq 92, [50], 0), (.iconst 0, [], 0), (.ireturn, [1], 0)],
  [(.aload_n 1, [], 0), (.invokevirtual 192, [161, 1, 9], 1), (.aload_n 2, [], 0), (.invokevirtual 195, [269, 1, 10], 1), (.lcmp, [], 0), (.ifCond .eq 78, [50], 0), (.iconst 0, [], 0), (.ireturn, [1], 0)],
  [(.aload_n 1, [], 0), (.aload_n 0, [], 0), (.iload_n 3, [], 0), (.iconst 1, [], 0), (.iadd, [], 0), (.iaload, [], 0), (.invokevirtual 196, [162, 2, 9], 2), (.aload_n 2, [], 0), (.aload_n 0, [], 0), (.iload_n 3, [], 0), (.iconst 1, [], 0), (.iadd, [], 0), (.iaload, [], 0), (.invokevirtual 199, [270, 2, 10], 2), (.if_icmp .eq 55, [50], 0), (.iconst 0, [], 0), (.ireturn, [1], 0)],
  [(.aload_n 1, [], 0), (.invokevirtual 200, [165, 1, 9], 1), (.aload_n 2, [], 0), (.invokevirtual 203, [272, 1, 10], 1), (.if_icmp .eq 42, [50], 0), (.iconst 0, [], 0), (.ireturn, [1], 0)],
  [(.aload_n 1, [], 0), (.aload_n 0, [], 0), (.iload_n 3, [], 0), (.iconst 1, [], 0), (.iadd, [], 0), (.iaload, [], 0), (.invokevirtual 204, [166, 2, 9], 2), (.aload_n 2, [], 0), (.aload_n 0, [], 0), (.iload_n 3, [], 0), (.iconst 1, [], 0), (.iadd, [], 0), (.iaload, [], 0), (.invokevirtual 207, [273, 2, 10], 2), (.if_icmp .eq 19, [50], 0), (.iconst 0, [], 0), (.ireturn, [1], 0)],
  [(.aload_n 1, [], 0), (.invokevirtual 208, [167, 1, 9], 1), (.aload_n 2, [], 0), (.invokevirtual 211, [274, 1, 10], 1), (.lcmp, [], 0), (.ifCond .eq 5, [50], 0), (.iconst 0, [], 0), (.ireturn, [1], 0)],
  [(.iinc 3 6, [], 0), (.goto (-1553), [1], 0)],
  [(.iconst 1, [], 0), (.ireturn, [1], 0)]]
def am_s0 : List Nat := [0, 18, 240, 273, 316, 349, 372, 435, 458, 491, 534, 557, 580, 613, 636, 649, 682, 725, 768, 801, 824, 867, 900, 933, 956, 979, 1012, 1045, 1058, 1081, 1094, 1127, 1170, 1203, 1226, 1279, 1312, 1345, 1368, 1381, 1404, 1417, 1440, 1453, 1467, 1481, 1495, 1518, 1531, 1554, 1568, 1574]
/-- WashLine.<init>()V -/
def am_b1 : List (List am_I) := [[(.aload_n 0, [], 0), (.invokespecial 3, [], 0), (.aload_n 0, [], 0), (.bipush 6, [], 0), (.anewarray 9, [6], 0), (.putfield 11, [9, 0], 0), (.aload_n 0, [], 0), (.iconst 4, [], 0), (.anewarray 9, [6], 0), (.putfield 15, [9, 1], 0), (.aload_n 0, [], 0), (.new 18, [8], 0), (.dup, [], 0), (.invokespecial 20, [2, 1], 1), (.putfield 21, [9, 2], 0), (.aload_n 0, [], 0), (.new 25, [3], 0), (.dup, [], 0), (.invokespecial 27, [5, 1], 1), (.putfield 28, [9, 3], 0), (.aload_n 0, [], 0), (.new 32, [0], 0), (.dup, [], 0), (.aload_n 0, [], 0), (.getfield 21, [9, 2], 0), (.invokespecial 34, [7, 2], 2), (.putfield 37, [9, 4], 0), (.aload_n 0, [], 0), (.new 41, [1], 0), (.dup, [], 0), (.invokespecial 43, [16, 1], 1), (.putfield 44, [9, 5], 0), (.aload_n 0, [], 0), (.new 48, [2], 0), (.dup, [], 0), (.aload_n 0, [], 0), (.getfield 21, [9, 2], 0), (.aload_n 0, [], 0), (.getfield 37, [9, 4], 0), (.aload_n 0, [], 0), (.getfield 44, [9, 5], 0), (.invokespecial 50, [17, 4], 4), (.putfield 53, [9, 6], 0), (.aload_n 0, [], 0), (.new 57, [4], 0), (.dup, [], 0), (.aload_n 0, [], 0), (.getfield 21, [9, 2], 0), (.aload_n 0, [], 0), (.getfield 37, [9, 4], 0), (.invokespecial 59, [18, 3], 3), (.putfield 62, [9, 7], 0), (.aload_n 0, [], 0), (.new 66, [7], 0), (.dup, [], 0), (.aload_n 0, [], 0), (.getfield 37, [9, 4], 0), (.aload_n 0, [], 0), (.getfield 44, [9, 5], 0), (.aload_n 0, [], 0), (.getfield 53, [9, 6], 0), (.aload_n 0, [], 0), (.getfield 62, [9, 7], 0), (.invokespecial 68, [19, 5], 5), (.putfield 71, [9, 8], 0), (.aload_n 0, [], 0), (.new 75, [5], 0), (.dup, [], 0), (.aload_n 0, [], 0), (.getfield 21, [9, 2], 0), (.aload_n 0, [], 0), (.getfield 44, [9, 5], 0), (.invokespecial 77, [20, 3], 3), (.putfield 80, [9, 9], 0), (.aload_n 0, [], 0), (.bipush 6, [], 0), (.newarray .int, [], 0), (.putfield 84, [9, 10], 0), (.aload_n 0, [], 0), (.iconst 0, [], 0), (.putfield 88, [9, 11], 0), (.aload_n 0, [], 0), (.iconst 0, [], 0), (.putfield 92, [9, 12], 0), (.aload_n 0, [], 0), (.lconst 0, [], 0), (.putfield 95, [9, 13], 0), (.aload_n 0, [], 0), (.lconst 0, [], 0), (.putfield 99, [9, 14], 0), (.aload_n 0, [], 0), (.lconst 1, [], 0), (.putfield 102, [9, 15], 0), (.iconst 0, [], 0), (.istore_n 1, [], 0), (.nop, [1], 0)],
  [(.iload_n 1, [], 0), (.bipush 6, [], 0), (.if_icmp .ge 24, [2], 0), (.aload_n 0, [], 0), (.getfield 11, [9, 0], 0), (.iload_n 1, [], 0), (.new 9, [6], 0), (.dup, [], 0), (.bipush 40, [], 0), (.invokespecial 105, [6, 2], 2), (.aastore, [], 0), (.iinc 1 1, [], 0), (.goto (-24), [1], 0)],
  [(.iconst 0, [], 0), (.istore_n 1, [], 0), (.nop, [3], 0)],
  [(.iload_n 1, [], 0), (.iconst 4, [], 0), (.if_icmp .ge 24, [4], 0), (.aload_n 0, [], 0), (.getfield 15, [9, 1], 0), (.iload_n 1, [], 0), (.new 9, [6], 0), (.dup, [], 0), (.bipush 120, [], 0), (.invokespecial 105, [6, 2], 2), (.aastore, [], 0), (.iinc 1 1, [], 0), (.goto (-23), [3], 0)],
  [(.return_, [], 0)]]
def am_s1 : List Nat := [0, 192, 219, 221, 247]
/-- WashLine$World.<init>()V -/
def am_b2 : List (List am_I) := [[(.aload_n 0, [], 0), (.invokespecial 3, [], 0), (.aload_n 0, [], 0), (.bipush 6, [], 0), (.newarray .int, [], 0), (.putfield 9, [8, 1], 0), (.aload_n 0, [], 0), (.bipush 48, [], 0), (.newarray .int, [], 0), (.putfield 15, [8, 2], 0), (.aload_n 0, [], 0), (.bipush 48, [], 0), (.newarray .int, [], 0), (.putfield 18, [8, 3], 0), (.aload_n 0, [], 0), (.iconst 5, [], 0), (.newarray .int, [], 0), (.putfield 21, [8, 5], 0), (.aload_n 0, [], 0), (.invokevirtual 24, [3, 1, 8], 1), (.return_, [], 0)]]
def am_s2 : List Nat := [0]
/-- WashLine$World.clear()V -/
def am_b3 : List (List am_I) := [[(.aload_n 0, [], 0), (.iconst 0, [], 0), (.putfield 27, [8, 0], 0), (.aload_n 0, [], 0), (.iconst 0, [], 0), (.putfield 31, [8, 4], 0), (.aload_n 0, [], 0), (.getfield 9, [8, 1], 0), (.bipush (-9), [], 0), (.invokestatic 34, [4, 2], 2), (.aload_n 0, [], 0), (.getfield 15, [8, 2], 0), (.iconst 0, [], 0), (.invokestatic 34, [4, 2], 2), (.aload_n 0, [], 0), (.getfield 18, [8, 3], 0), (.iconst 0, [], 0), (.invokestatic 34, [4, 2], 2), (.aload_n 0, [], 0), (.getfield 21, [8, 5], 0), (.iconst 0, [], 0), (.iconst 3, [], 0), (.iastore, [], 0), (.aload_n 0, [], 0), (.getfield 21, [8, 5], 0), (.iconst 1, [], 0), (.iconst 3, [], 0), (.iastore, [], 0), (.aload_n 0, [], 0), (.getfield 21, [8, 5], 0), (.iconst 2, [], 0), (.iconst 1, [], 0), (.iastore, [], 0), (.aload_n 0, [], 0), (.getfield 21, [8, 5], 0), (.iconst 3, [], 0), (.iconst 2, [], 0), (.iastore, [], 0), (.aload_n 0, [], 0), (.getfield 21, [8, 5], 0), (.iconst 4, [], 0), (.iconst 2, [], 0), (.iastore, [], 0), (.return_, [], 0)]]
def am_s3 : List Nat := [0]
/-- java/util/Arrays.fill([II)V -/
def am_b4 : List (List am_I) := [[(.iconst 0, [], 0), (.istore_n 2, [], 0), (.aload_n 0, [], 0), (.arraylength, [], 0), (.istore_n 3, [], 0), (.nop, [1], 0)],
  [(.iload_n 2, [], 0), (.iload_n 3, [], 0), (.if_icmp .ge 13, [2], 0), (.aload_n 0, [], 0), (.iload_n 2, [], 0), (.iload_n 1, [], 0), (.iastore, [], 0), (.iinc 2 1, [], 0), (.goto (-12), [1], 0)],
  [(.return_, [], 0)]]
def am_s4 : List Nat := [0, 5, 20]
/-- WashLine$Reader.<init>()V -/
def am_b5 : List (List am_I) := [[(.aload_n 0, [], 0), (.invokespecial 3, [], 0), (.aload_n 0, [], 0), (.new 9, [6], 0), (.dup, [], 0), (.iconst 0, [], 0), (.invokespecial 11, [6, 2], 2), (.putfield 14, [3, 0], 0), (.aload_n 0, [], 0), (.new 20, [8], 0), (.dup, [], 0), (.invokespecial 22, [2, 1], 1), (.putfield 23, [3, 2], 0), (.return_, [], 0)]]
def am_s5 : List Nat := [0]
/-- WashLine$Strip.<init>(I)V -/
def am_b6 : List (List am_I) := [[(.aload_n 0, [], 0), (.invokespecial 1, [], 0), (.aload_n 0, [], 0), (.iconst (-1), [], 0), (.putfield 7, [6, 1], 0), (.aload_n 0, [], 0), (.iload_n 1, [], 0), (.newarray .int, [], 0), (.putfield 13, [6, 0], 0), (.return_, [], 0)]]
def am_s6 : List Nat := [0]
/-- WashLine$Houses.<init>(LWashLine$World;)V -/
def am_b7 : List (List am_I) := [[(.aload_n 0, [], 0), (.invokespecial 3, [], 0), (.aload_n 0, [], 0), (.sipush 462, [], 0), (.newarray .int, [], 0), (.putfield 9, [0, 2], 0), (.aload_n 0, [], 0), (.sipush 462, [], 0), (.newarray .int, [], 0), (.putfield 15, [0, 3], 0), (.aload_n 0, [], 0), (.sipush 2772, [], 0), (.newarray .int, [], 0), (.putfield 18, [0, 4], 0), (.aload_n 0, [], 0), (.sipush 2772, [], 0), (.newarray .int, [], 0), (.putfield 21, [0, 5], 0), (.aload_n 0, [], 0), (.sipush 2772, [], 0), (.newarray .int, [], 0), (.putfield 24, [0, 6], 0), (.aload_n 0, [], 0), (.sipush 2772, [], 0), (.newarray .int, [], 0), (.putfield 27, [0, 7], 0), (.aload_n 0, [], 0), (.sipush 3696, [], 0), (.newarray .int, [], 0), (.putfield 30, [0, 8], 0), (.aload_n 0, [], 0), (.sipush 3696, [], 0), (.newarray .int, [], 0), (.putfield 33, [0, 9], 0), (.aload_n 0, [], 0), (.aload_n 1, [], 0), (.putfield 36, [0, 0], 0), (.aload_n 0, [], 0), (.invokevirtual 40, [8, 1, 0], 1), (.return_, [], 0)]]
def am_s7 : List Nat := [0]
/-- WashLine$Houses.build()V -/
def am_b8 : List (List am_I) := [[(.aload_n 0, [], 0), (.invokevirtual 43, [9, 1, 0], 1), (.iconst 0, [], 0), (.istore_n 1, [], 0), (.nop, [1], 0)],
  [(.iload_n 1, [], 0), (.aload_n 0, [], 0), (.getfield 46, [0, 1], 0), (.if_icmp .ge 115, [8], 0), (.iconst 0, [], 0), (.istore_n 2, [], 0), (.nop, [2], 0)],
  [(.iload_n 2, [], 0), (.bipush 6, [], 0), (.if_icmp .ge 96, [7], 0), (.aload_n 0, [], 0), (.getfield 21, [0, 5], 0), (.iload_n 1, [], 0), (.bipush 6, [], 0), (.imul, [], 0), (.iload_n 2, [], 0), (.iadd, [], 0), (.iload_n 2, [], 0), (.aload_n 0, [], 0), (.getfield 36, [0, 0], 0), (.getfield 50, [8, 0], 0), (.if_icmp .ge 22, [3], 0), (.aload_n 0, [], 0), (.aload_n 0, [], 0), (.getfield 9, [0, 2], 0), (.iload_n 1, [], 0), (.iaload, [], 0), (.getstatic 55, [], 0), (.iload_n 2, [], 0), (.iaload, [], 0), (.iadd, [], 0), (.invokevirtual 58, [13, 2, 0], 2), (.goto 4, [4], 0)],
  [(.iconst (-1), [], 0), (.nop, [4], 0)],
  [(.iastore, [], 0), (.aload_n 0, [], 0), (.getfield 24, [0, 6], 0), (.iload_n 1, [], 0), (.bipush 6, [], 0), (.imul, [], 0), (.iload_n 2, [], 0), (.iadd, [], 0), (.aload_n 0, [], 0), (.getfield 18, [0, 4], 0), (.iload_n 1, [], 0), (.bipush 6, [], 0), (.imul, [], 0), (.iload_n 2, [], 0), (.iadd, [], 0), (.iaload, [], 0), (.ifCond .le 22, [5], 0), (.aload_n 0, [], 0), (.aload_n 0, [], 0), (.getfield 9, [0, 2], 0), (.iload_n 1, [], 0), (.iaload, [], 0), (.getstatic 55, [], 0), (.iload_n 2, [], 0), (.iaload, [], 0), (.isub, [], 0), (.invokevirtual 58, [13, 2, 0], 2), (.goto 4, [6], 0)],
  [(.iconst (-1), [], 0), (.nop, [6], 0)],
  [(.iastore, [], 0), (.iinc 2 1, [], 0), (.goto (-96), [2], 0)],
  [(.aload_n 0, [], 0), (.iload_n 1, [], 0), (.invokevirtual 62, [14, 2, 0], 2), (.iinc 1 1, [], 0), (.goto (-117), [1], 0)],
  [(.iconst 0, [], 0), (.istore_n 1, [], 0), (.nop, [9], 0)],
  [(.iload_n 1, [], 0), (.aload_n 0, [], 0), (.getfield 46, [0, 1], 0), (.if_icmp .ge 40, [12], 0), (.iconst 0, [], 0), (.istore_n 2, [], 0), (.nop, [10], 0)],
  [(.iload_n 2, [], 0), (.bipush 6, [], 0), (.if_icmp .ge 26, [11], 0), (.aload_n 0, [], 0), (.getfield 27, [0, 7], 0), (.iload_n 1, [], 0), (.bipush 6, [], 0), (.imul, [], 0), (.iload_n 2, [], 0), (.iadd, [], 0), (.aload_n 0, [], 0), (.iload_n 1, [], 0), (.iload_n 2, [], 0), (.invokevirtual 66, [15, 3, 0], 3), (.iastore, [], 0), (.iinc 2 1, [], 0), (.goto (-26), [10], 0)],
  [(.iinc 1 1, [], 0), (.goto (-42), [9], 0)],
  [(.return_, [], 0)]]
def am_s8 : List Nat := [0, 6, 16, 62, 63, 107, 108, 115, 126, 128, 138, 167, 173]
/-- WashLine$Houses.list()V -/
def am_b9 : List (List am_I) := [[(.aload_n 0, [], 0), (.iconst 1, [], 0), (.putfield 46, [0, 1], 0), (.aload_n 0, [], 0), (.getfield 9, [0, 2], 0), (.iconst 0, [], 0), (.iconst 0, [], 0), (.iastore, [], 0), (.aload_n 0, [], 0), (.getfield 15, [0, 3], 0), (.iconst 0, [], 0), (.iconst 0, [], 0), (.iastore, [], 0), (.aload_n 0, [], 0), (.getfield 18, [0, 4], 0), (.iconst 0, [], 0), (.bipush 6, [], 0), (.iconst 0, [], 0), (.invokestatic 70, [10, 4], 4), (.nop, [1], 0)],
  [(.aload_n 0, [], 0), (.getfield 46, [0, 1], 0), (.sipush 462, [], 0), (.if_icmp .ge 33, [2], 0), (.aload_n 0, [], 0), (.aload_n 0, [], 0), (.getfield 46, [0, 1], 0), (.iconst 1, [], 0), (.isub, [], 0), (.aload_n 0, [], 0), (.getfield 46, [0, 1], 0), (.invokevirtual 76, [12, 3, 0], 3), (.ifCond .eq 16, [2], 0), (.aload_n 0, [], 0), (.dup, [], 0), (.getfield 46, [0, 1], 0), (.iconst 1, [], 0), (.iadd, [], 0), (.putfield 46, [0, 1], 0), (.goto (-37), [1], 0)],
  [(.return_, [], 0)]]
def am_s9 : List Nat := [0, 30, 70]
/-- java/util/Arrays.fill([IIII)V -/
def am_b10 : List (List am_I) := [[(.aload_n 0, [], 0), (.arraylength, [], 0), (.iload_n 1, [], 0), (.iload_n 2, [], 0), (.invokestatic 13, [11, 3], 3), (.iload_n 1, [], 0), (.istore 4, [], 0), (.nop, [1], 0)],
  [(.iload 4, [], 0), (.iload_n 2, [], 0), (.if_icmp .ge 14, [2], 0), (.aload_n 0, [], 0), (.iload 4, [], 0), (.iload_n 3, [], 0), (.iastore, [], 0), (.iinc 4 1, [], 0), (.goto (-14), [1], 0)],
  [(.return_, [], 0)]]
def am_s10 : List Nat := [0, 10, 27]
/-- java/util/Arrays.rangeCheck(III)V -/
def am_b11 : List (List am_I) := [[(.iload_n 1, [], 0), (.iload_n 2, [], 0), (.if_icmp .le 44, [1], 0)],
  [(.iload_n 1, [], 0), (.ifCond .ge 12, [2], 0)],
  [(.iload_n 2, [], 0), (.iload_n 0, [], 0), (.if_icmp .le 12, [3], 0)],
  [(.return_, [], 0)]]
def am_s11 : List Nat := [0, 46, 59, 73]
/-- WashLine$Houses.follow(II)Z -/
def am_b12 : List (List am_I) := [[(.aload_n 0, [], 0), (.getfield 15, [0, 3], 0), (.iload_n 1, [], 0), (.iaload, [], 0), (.istore_n 3, [], 0), (.aload_n 0, [], 0), (.getfield 9, [0, 2], 0), (.iload_n 1, [], 0), (.iaload, [], 0), (.istore 4, [], 0), (.iconst 0, [], 0), (.istore 5, [], 0), (.nop, [1], 0)],
  [(.iload 5, [], 0), (.aload_n 0, [], 0), (.getfield 36, [0, 0], 0), (.getfield 50, [8, 0], 0), (.if_icmp .ge 135, [3], 0), (.iload_n 3, [], 0), (.iconst 5, [], 0), (.if_icmp .ge 85, [2], 0), (.aload_n 0, [], 0), (.getfield 18, [0, 4], 0), (.iload_n 1, [], 0), (.bipush 6, [], 0), (.imul, [], 0), (.aload_n 0, [], 0), (.getfield 18, [0, 4], 0), (.iload_n 2, [], 0), (.bipush 6, [], 0), (.imul, [], 0), (.bipush 6, [], 0), (.invokestatic 80, [], 0), (.aload_n 0, [], 0), (.getfield 18, [0, 4], 0), (.iload_n 2, [], 0), (.bipush 6, [], 0), (.imul, [], 0), (.iload_n 2, [], 0), (.bipush 6, [], 0), (.imul, [], 0), (.iload 5, [], 0), (.iadd, [], 0), (.iconst 0, [], 0), (.invokestatic 70, [10, 4], 4), (.aload_n 0, [], 0), (.getfield 18, [0, 4], 0), (.iload_n 2, [], 0), (.bipush 6, [], 0), (.imul, [], 0), (.iload 5, [], 0), (.iadd, [], 0), (.dup2, [], 0), (.iaload, [], 0), (.iconst 1, [], 0), (.iadd, [], 0), (.iastore, [], 0), (.aload_n 0, [], 0), (.getfield 15, [0, 3], 0), (.iload_n 2, [], 0), (.iload_n 3, [], 0), (.iconst 1, [], 0), (.iadd, [], 0), (.iastore, [], 0), (.aload_n 0, [], 0), (.getfield 9, [0, 2], 0), (.iload_n 2, [], 0), (.iload 4, [], 0), (.getstatic 55, [], 0), (.iload 5, [], 0), (.iaload, [], 0), (.iadd, [], 0), (.iastore, [], 0), (.iconst 1, [], 0), (.ireturn, [1], 0)],
  [(.iload_n 3, [], 0), (.aload_n 0, [], 0), (.getfield 18, [0, 4], 0), (.iload_n 1, [], 0), (.bipush 6, [], 0), (.imul, [], 0), (.iload 5, [], 0), (.iadd, [], 0), (.iaload, [], 0), (.isub, [], 0), (.istore_n 3, [], 0), (.iload 4, [], 0), (.aload_n 0, [], 0), (.getfield 18, [0, 4], 0), (.iload_n 1, [], 0), (.bipush 6, [], 0), (.imul, [], 0), (.iload 5, [], 0), (.iadd, [], 0), (.iaload, [], 0), (.getstatic 55, [], 0), (.iload 5, [], 0), (.iaload, [], 0), (.imul, [], 0), (.isub, [], 0), (.istore 4, [], 0), (.iinc 5 1, [], 0), (.goto (-141), [1], 0)],
  [(.iconst 0, [], 0), (.ireturn, [1], 0)]]
def am_s12 : List Nat := [0, 18, 117, 162]
/-- WashLine$Houses.find(I)I -/
def am_b13 : List (List am_I) := [[(.iconst 0, [], 0), (.istore_n 2, [], 0), (.aload_n 0, [], 0), (.getfield 46, [0, 1], 0), (.iconst 1, [], 0), (.isub, [], 0), (.istore_n 3, [], 0), (.nop, [1], 0)],
  [(.iload_n 2, [], 0), (.iload_n 3, [], 0), (.if_icmp .gt 51, [5], 0), (.iload_n 2, [], 0), (.iload_n 3, [], 0), (.iadd, [], 0), (.iconst 2, [], 0), (.idiv, [], 0), (.istore 4, [], 0), (.aload_n 0, [], 0), (.getfield 9, [0, 2], 0), (.iload 4, [], 0), (.iaload, [], 0), (.iload_n 1, [], 0), (.if_icmp .ne 6, [2], 0), (.iload 4, [], 0), (.ireturn, [0], 0)],
  [(.aload_n 0, [], 0), (.getfield 9, [0, 2], 0), (.iload 4, [], 0), (.iaload, [], 0), (.iload_n 1, [], 0), (.if_icmp .ge 11, [3], 0), (.iload 4, [], 0), (.iconst 1, [], 0), (.iadd, [], 0), (.istore_n 2, [], 0), (.goto 8, [4], 0)],
  [(.iload 4, [], 0), (.iconst 1, [], 0), (.isub, [], 0), (.istore_n 3, [], 0), (.nop, [4], 0)],
  [(.goto (-50), [1], 0)],
  [(.iconst (-1), [], 0), (.ireturn, [0], 0)]]
def am_s13 : List Nat := [0, 9, 35, 54, 59, 62]
/-- WashLine$Houses.hang(I)V -/
def am_b14 : List (List am_I) := [[(.iconst 0, [], 0), (.istore_n 2, [], 0), (.nop, [1], 0)],
  [(.iload_n 2, [], 0), (.bipush 8, [], 0), (.if_icmp .ge 124, [4], 0), (.iconst 0, [], 0), (.istore_n 3, [], 0), (.iconst 0, [], 0), (.istore 4, [], 0), (.iconst 0, [], 0), (.istore 5, [], 0), (.nop, [2], 0)],
  [(.iload 5, [], 0), (.aload_n 0, [], 0), (.getfield 36, [0, 0], 0), (.getfield 50, [8, 0], 0), (.if_icmp .ge 73, [3], 0), (.iload_n 3, [], 0), (.aload_n 0, [], 0), (.getfield 18, [0, 4], 0), (.iload_n 1, [], 0), (.bipush 6, [], 0), (.imul, [], 0), (.iload 5, [], 0), (.iadd, [], 0), (.iaload, [], 0), (.aload_n 0, [], 0), (.getfield 36, [0, 0], 0), (.getfield 89, [8, 2], 0), (.iload 5, [], 0), (.bipush 8, [], 0), (.imul, [], 0), (.iload_n 2, [], 0), (.iadd, [], 0), (.iaload, [], 0), (.imul, [], 0), (.iadd, [], 0), (.istore_n 3, [], 0), (.iload 4, [], 0), (.aload_n 0, [], 0), (.getfield 18, [0, 4], 0), (.iload_n 1, [], 0), (.bipush 6, [], 0), (.imul, [], 0), (.iload 5, [], 0), (.iadd, [], 0), (.iaload, [], 0), (.aload_n 0, [], 0), (.getfield 36, [0, 0], 0), (.getfield 90, [8, 3], 0), (.iload 5, [], 0), (.bipush 8, [], 0), (.imul, [], 0), (.iload_n 2, [], 0), (.iadd, [], 0), (.iaload, [], 0), (.imul, [], 0), (.iadd, [], 0), (.istore 4, [], 0), (.iinc 5 1, [], 0), (.goto (-79), [2], 0)],
  [(.aload_n 0, [], 0), (.getfield 30, [0, 8], 0), (.iload_n 1, [], 0), (.bipush 8, [], 0), (.imul, [], 0), (.iload_n 2, [], 0), (.iadd, [], 0), (.iload_n 3, [], 0), (.iastore, [], 0), (.aload_n 0, [], 0), (.getfield 33, [0, 9], 0), (.iload_n 1, [], 0), (.bipush 8, [], 0), (.imul, [], 0), (.iload_n 2, [], 0), (.iadd, [], 0), (.iload 4, [], 0), (.iastore, [], 0), (.iinc 2 1, [], 0), (.goto (-124), [1], 0)],
  [(.return_, [], 0)]]
def am_s14 : List Nat := [0, 2, 16, 98, 129]
/-- WashLine$Houses.grown(II)I -/
def am_b15 : List (List am_I) := [[(.aload_n 0, [], 0), (.getfield 24, [0, 6], 0), (.iload_n 1, [], 0), (.bipush 6, [], 0), (.imul, [], 0), (.iload_n 2, [], 0), (.iadd, [], 0), (.iaload, [], 0), (.istore_n 3, [], 0), (.iload_n 3, [], 0), (.ifCond .lt 15, [1], 0), (.aload_n 0, [], 0), (.getfield 36, [0, 0], 0), (.getfield 86, [8, 1], 0), (.iload_n 2, [], 0), (.iaload, [], 0), (.ifCond .ge 7, [2], 0), (.nop, [1], 0)],
  [(.iconst (-1), [], 0), (.goto 22, [3], 0)],
  [(.aload_n 0, [], 0), (.getfield 21, [0, 5], 0), (.iload_n 3, [], 0), (.bipush 6, [], 0), (.imul, [], 0), (.aload_n 0, [], 0), (.getfield 36, [0, 0], 0), (.getfield 86, [8, 1], 0), (.iload_n 2, [], 0), (.iaload, [], 0), (.iadd, [], 0), (.iaload, [], 0), (.nop, [3], 0)],
  [(.ireturn, [0], 0)]]
def am_s15 : List Nat := [0, 28, 32, 51]
/-- WashLine$Line.<init>()V -/
def am_b16 : List (List am_I) := [[(.aload_n 0, [], 0), (.invokespecial 3, [], 0), (.aload_n 0, [], 0), (.iconst 0, [], 0), (.putfield 9, [1, 0], 0), (.aload_n 0, [], 0), (.bipush 12, [], 0), (.newarray .int, [], 0), (.putfield 15, [1, 1], 0), (.aload_n 0, [], 0), (.bipush 12, [], 0), (.newarray .int, [], 0), (.putfield 19, [1, 2], 0), (.aload_n 0, [], 0), (.bipush 96, [], 0), (.newarray .int, [], 0), (.putfield 22, [1, 3], 0), (.return_, [], 0)]]
def am_s16 : List Nat := [0]
/-- WashLine$Looks.<init>(LWashLine$World;LWashLine$Houses;LWashLine$Line;)V -/
def am_b17 : List (List am_I) := [[(.aload_n 0, [], 0), (.invokespecial 3, [], 0), (.aload_n 0, [], 0), (.aload_n 1, [], 0), (.putfield 9, [2, 0], 0), (.aload_n 0, [], 0), (.aload_n 2, [], 0), (.putfield 15, [2, 1], 0), (.aload_n 0, [], 0), (.aload_n 3, [], 0), (.putfield 19, [2, 2], 0), (.return_, [], 0)]]
def am_s17 : List Nat := [0]
/-- WashLine$Steps.<init>(LWashLine$World;LWashLine$Houses;)V -/
def am_b18 : List (List am_I) := [[(.aload_n 0, [], 0), (.invokespecial 3, [], 0), (.aload_n 0, [], 0), (.sipush 462, [], 0), (.newarray .int, [], 0), (.putfield 9, [4, 2], 0), (.aload_n 0, [], 0), (.iconst 0, [], 0), (.newarray .byte, [], 0), (.putfield 15, [4, 3], 0), (.aload_n 0, [], 0), (.sipush 462, [], 0), (.newarray .boolean, [], 0), (.putfield 19, [4, 4], 0), (.aload_n 0, [], 0), (.aload_n 1, [], 0), (.putfield 23, [4, 0], 0), (.aload_n 0, [], 0), (.aload_n 2, [], 0), (.putfield 27, [4, 1], 0), (.return_, [], 0)]]
def am_s18 : List Nat := [0]
/-- WashLine$Winter.<init>(LWashLine$Houses;LWashLine$Line;LWashLine$Looks;LWashLine$Steps;)V -/
def am_b19 : List (List am_I) := [[(.aload_n 0, [], 0), (.invokespecial 3, [], 0), (.aload_n 0, [], 0), (.iconst 0, [], 0), (.putfield 9, [7, 4], 0), (.aload_n 0, [], 0), (.iconst 0, [], 0), (.putfield 15, [7, 5], 0), (.aload_n 0, [], 0), (.iconst 0, [], 0), (.putfield 18, [7, 6], 0), (.aload_n 0, [], 0), (.lconst 0, [], 0), (.putfield 22, [7, 7], 0), (.aload_n 0, [], 0), (.bipush 12, [], 0), (.newarray .int, [], 0), (.putfield 26, [7, 8], 0), (.aload_n 0, [], 0), (.sipush 462, [], 0), (.newarray .int, [], 0), (.putfield 30, [7, 9], 0), (.aload_n 0, [], 0), (.sipush 5544, [], 0), (.newarray .int, [], 0), (.putfield 33, [7, 10], 0), (.aload_n 0, [], 0), (.sipush 5544, [], 0), (.newarray .int, [], 0), (.putfield 36, [7, 11], 0), (.aload_n 0, [], 0), (.sipush 5544, [], 0), (.newarray .int, [], 0), (.putfield 39, [7, 12], 0), (.aload_n 0, [], 0), (.sipush 5544, [], 0), (.newarray .int, [], 0), (.putfield 42, [7, 13], 0), (.aload_n 0, [], 0), (.bipush 12, [], 0), (.newarray .int, [], 0), (.putfield 45, [7, 14], 0), (.aload_n 0, [], 0), (.sipush 5544, [], 0), (.newarray .long, [], 0), (.putfield 48, [7, 15], 0), (.aload_n 0, [], 0), (.sipush 5544, [], 0), (.newarray .long, [], 0), (.putfield 52, [7, 16], 0), (.aload_n 0, [], 0), (.bipush 64, [], 0), (.newarray .int, [], 0), (.putfield 55, [7, 17], 0), (.aload_n 0, [], 0), (.aload_n 1, [], 0), (.putfield 58, [7, 0], 0), (.aload_n 0, [], 0), (.aload_n 2, [], 0), (.putfield 62, [7, 1], 0), (.aload_n 0, [], 0), (.aload_n 3, [], 0), (.putfield 66, [7, 2], 0), (.aload_n 0, [], 0), (.aload 4, [], 0), (.putfield 70, [7, 3], 0), (.return_, [], 0)]]
def am_s19 : List Nat := [0]
/-- WashLine$Story.<init>(LWashLine$World;LWashLine$Line;)V -/
def am_b20 : List (List am_I) := [[(.aload_n 0, [], 0), (.invokespecial 3, [], 0), (.aload_n 0, [], 0), (.iconst 0, [], 0), (.putfield 9, [5, 2], 0), (.aload_n 0, [], 0), (.bipush 16, [], 0), (.newarray .int, [], 0), (.putfield 15, [5, 3], 0), (.aload_n 0, [], 0), (.bipush 16, [], 0), (.newarray .int, [], 0), (.putfield 19, [5, 4], 0), (.aload_n 0, [], 0), (.bipush 16, [], 0), (.newarray .int, [], 0), (.putfield 22, [5, 5], 0), (.aload_n 0, [], 0), (.bipush 16, [], 0), (.newarray .int, [], 0), (.putfield 25, [5, 6], 0), (.aload_n 0, [], 0), (.bipush 6, [], 0), (.newarray .int, [], 0), (.putfield 28, [5, 7], 0), (.aload_n 0, [], 0), (.bipush 8, [], 0), (.newarray .int, [], 0), (.putfield 31, [5, 8], 0), (.aload_n 0, [], 0), (.bipush 8, [], 0), (.newarray .int, [], 0), (.putfield 34, [5, 9], 0), (.aload_n 0, [], 0), (.bipush (-9), [], 0), (.putfield 37, [5, 10], 0), (.aload_n 0, [], 0), (.aload_n 1, [], 0), (.putfield 40, [5, 0], 0), (.aload_n 0, [], 0), (.aload_n 2, [], 0), (.putfield 44, [5, 1], 0), (.return_, [], 0)]]
def am_s20 : List Nat := [0]
/-- WashLine.row(II)I -/
def am_b21 : List (List am_I) := [[(.iload_n 1, [], 0), (.invokestatic 108, [22, 1], 1), (.ifCond .eq 9, [1], 0), (.iload_n 2, [], 0), (.bipush 40, [], 0), (.if_icmp .le 5, [2], 0), (.nop, [1], 0)],
  [(.iconst (-1), [], 0), (.ireturn, [0], 0)],
  [(.iload_n 2, [], 0), (.ifCond .ge 9, [3], 0), (.aload_n 0, [], 0), (.iconst 5, [], 0), (.invokevirtual 112, [24, 2, 9], 2), (.ireturn, [0], 0)],
  [(.aload_n 0, [], 0), (.getfield 11, [9, 0], 0), (.iload_n 1, [], 0), (.aaload, [], 0), (.iload_n 2, [], 0), (.iconst 0, [], 0), (.invokevirtual 116, [25, 3, 6], 3), (.iload_n 2, [], 0), (.ireturn, [0], 0)]]
def am_s21 : List Nat := [0, 13, 15, 25]
/-- WashLine.isRow(I)Z -/
def am_b22 : List (List am_I) := [[(.iload_n 0, [], 0), (.iconst 5, [], 0), (.invokestatic 197, [23, 2], 2), (.ireturn, [1], 0)]]
def am_s22 : List Nat := [0]
/-- WashLine.isWithin(II)Z -/
def am_b23 : List (List am_I) := [[(.iload_n 0, [], 0), (.ifCond .lt 12, [1], 0), (.iload_n 0, [], 0), (.iload_n 1, [], 0), (.if_icmp .gt 7, [1], 0), (.iconst 1, [], 0), (.goto 4, [2], 0)],
  [(.iconst 0, [], 0), (.nop, [2], 0)],
  [(.ireturn, [1], 0)]]
def am_s23 : List Nat := [0, 13, 14]
/-- WashLine.finds(I)I -/
def am_b24 : List (List am_I) := [[(.aload_n 0, [], 0), (.iload_n 1, [], 0), (.putfield 88, [9, 11], 0), (.aload_n 0, [], 0), (.getfield 84, [9, 10], 0), (.iload_n 1, [], 0), (.dup2, [], 0), (.iaload, [], 0), (.iconst 1, [], 0), (.iadd, [], 0), (.iastore, [], 0), (.bipush (-3), [], 0), (.ireturn, [0], 0)]]
def am_s24 : List Nat := [0]
/-- WashLine$Strip.begin(II)V -/
def am_b25 : List (List am_I) := [[(.aload_n 0, [], 0), (.iload_n 1, [], 0), (.putfield 7, [6, 1], 0), (.aload_n 0, [], 0), (.getfield 13, [6, 0], 0), (.iload_n 2, [], 0), (.invokestatic 17, [4, 2], 2), (.return_, [], 0)]]
def am_s25 : List Nat := [0]
/-- WashLine.lay(III)I -/
def am_b26 : List (List am_I) := [[(.iload_n 1, [], 0), (.invokestatic 108, [22, 1], 1), (.ifCond .ne 5, [1], 0), (.iconst (-1), [], 0), (.ireturn, [0], 0)],
  [(.aload_n 0, [], 0), (.getfield 11, [9, 0], 0), (.iload_n 1, [], 0), (.aaload, [], 0), (.invokevirtual 120, [27, 1, 6], 1), (.ifCond .eq 9, [2], 0), (.aload_n 0, [], 0), (.iconst 1, [], 0), (.invokevirtual 112, [24, 2, 9], 2), (.ireturn, [0], 0)],
  [(.aload_n 0, [], 0), (.getfield 11, [9, 0], 0), (.iload_n 1, [], 0), (.aaload, [], 0), (.iload_n 2, [], 0), (.invokevirtual 124, [28, 2, 6], 2), (.ifCond .ne 9, [3], 0), (.aload_n 0, [], 0), (.iconst 2, [], 0), (.invokevirtual 112, [24, 2, 9], 2), (.ireturn, [0], 0)],
  [(.aload_n 0, [], 0), (.aload_n 0, [], 0), (.getfield 11, [9, 0], 0), (.iload_n 1, [], 0), (.aaload, [], 0), (.iload_n 2, [], 0), (.iload_n 3, [], 0), (.invokevirtual 127, [29, 3, 6], 3), (.iconst 1, [], 0), (.invokevirtual 131, [30, 3, 9], 3), (.ireturn, [0], 0)]]
def am_s26 : List Nat := [0, 9, 27, 46]
/-- WashLine$Strip.isMissing()Z -/
def am_b27 : List (List am_I) := [[(.aload_n 0, [], 0), (.getfield 7, [6, 1], 0), (.ifCond .ge 7, [1], 0), (.iconst 1, [], 0), (.goto 4, [2], 0)],
  [(.iconst 0, [], 0), (.nop, [2], 0)],
  [(.ireturn, [1], 0)]]
def am_s27 : List Nat := [0, 11, 12]
/-- WashLine$Strip.has(I)Z -/
def am_b28 : List (List am_I) := [[(.iload_n 1, [], 0), (.ifCond .lt 15, [1], 0), (.iload_n 1, [], 0), (.aload_n 0, [], 0), (.getfield 7, [6, 1], 0), (.if_icmp .ge 7, [1], 0), (.iconst 1, [], 0), (.goto 4, [2], 0)],
  [(.iconst 0, [], 0), (.nop, [2], 0)],
  [(.ireturn, [1], 0)]]
def am_s28 : List Nat := [0, 16, 17]
/-- WashLine$Strip.swap(II)I -/
def am_b29 : List (List am_I) := [[(.aload_n 0, [], 0), (.getfield 13, [6, 0], 0), (.iload_n 1, [], 0), (.iaload, [], 0), (.istore_n 3, [], 0), (.aload_n 0, [], 0), (.getfield 13, [6, 0], 0), (.iload_n 1, [], 0), (.iload_n 2, [], 0), (.iastore, [], 0), (.iload_n 3, [], 0), (.ireturn, [0], 0)]]
def am_s29 : List Nat := [0]
/-- WashLine.tells(II)I -/
def am_b30 : List (List am_I) := [[(.aload_n 0, [], 0), (.iload_n 1, [], 0), (.putfield 92, [9, 12], 0), (.iload_n 2, [], 0), (.ireturn, [0], 0)]]
def am_s30 : List Nat := [0]
/-- WashLine.at(II)I -/
def am_b31 : List (List am_I) := [[(.iload_n 1, [], 0), (.invokestatic 108, [22, 1], 1), (.ifCond .ne 5, [1], 0), (.iconst (-1), [], 0), (.ireturn, [0], 0)],
  [(.aload_n 0, [], 0), (.getfield 11, [9, 0], 0), (.iload_n 1, [], 0), (.aaload, [], 0), (.invokevirtual 120, [27, 1, 6], 1), (.ifCond .eq 9, [2], 0), (.aload_n 0, [], 0), (.iconst 1, [], 0), (.invokevirtual 112, [24, 2, 9], 2), (.ireturn, [0], 0)],
  [(.aload_n 0, [], 0), (.getfield 11, [9, 0], 0), (.iload_n 1, [], 0), (.aaload, [], 0), (.iload_n 2, [], 0), (.invokevirtual 124, [28, 2, 6], 2), (.ifCond .ne 9, [3], 0), (.aload_n 0, [], 0), (.iconst 2, [], 0), (.invokevirtual 112, [24, 2, 9], 2), (.ireturn, [0], 0)],
  [(.aload_n 0, [], 0), (.aload_n 0, [], 0), (.getfield 11, [9, 0], 0), (.iload_n 1, [], 0), (.aaload, [], 0), (.getfield 134, [6, 0], 0), (.iload_n 2, [], 0), (.iaload, [], 0), (.iconst 1, [], 0), (.invokevirtual 131, [30, 3, 9], 3), (.ireturn, [0], 0)]]
def am_s31 : List Nat := [0, 9, 27, 46]
/-- WashLine.tear(I)I -/
def am_b32 : List (List am_I) := [[(.iload_n 1, [], 0), (.invokestatic 108, [22, 1], 1), (.ifCond .ne 5, [1], 0), (.iconst (-1), [], 0), (.ireturn, [0], 0)],
  [(.aload_n 0, [], 0), (.getfield 11, [9, 0], 0), (.iload_n 1, [], 0), (.aaload, [], 0), (.invokevirtual 120, [27, 1, 6], 1), (.ifCond .eq 9, [2], 0), (.aload_n 0, [], 0), (.iconst 1, [], 0), (.invokevirtual 112, [24, 2, 9], 2), (.ireturn, [0], 0)],
  [(.aload_n 0, [], 0), (.getfield 11, [9, 0], 0), (.iload_n 1, [], 0), (.aaload, [], 0), (.iconst (-1), [], 0), (.putfield 137, [6, 1], 0), (.iconst 1, [], 0), (.ireturn, [0], 0)]]
def am_s32 : List Nat := [0, 9, 27]
/-- WashLine.copy(IIIII)I -/
def am_b33 : List (List am_I) := [[(.iload_n 1, [], 0), (.invokestatic 108, [22, 1], 1), (.ifCond .eq 10, [1], 0), (.iload_n 3, [], 0), (.invokestatic 108, [22, 1], 1), (.ifCond .ne 5, [2], 0), (.nop, [1], 0)],
  [(.iconst (-1), [], 0), (.ireturn, [0], 0)],
  [(.iload 5, [], 0), (.ifCond .ge 9, [3], 0), (.aload_n 0, [], 0), (.iconst 5, [], 0), (.invokevirtual 112, [24, 2, 9], 2), (.ireturn, [0], 0)],
  [(.aload_n 0, [], 0), (.getfield 11, [9, 0], 0), (.iload_n 1, [], 0), (.aaload, [], 0), (.invokevirtual 120, [27, 1, 6], 1), (.ifCond .ne 15, [4], 0), (.aload_n 0, [], 0), (.getfield 11, [9, 0], 0), (.iload_n 3, [], 0), (.aaload, [], 0), (.invokevirtual 120, [27, 1, 6], 1), (.ifCond .eq 9, [5], 0), (.nop, [4], 0)],
  [(.aload_n 0, [], 0), (.iconst 1, [], 0), (.invokevirtual 112, [24, 2, 9], 2), (.ireturn, [0], 0)],
  [(.aload_n 0, [], 0), (.getfield 11, [9, 0], 0), (.iload_n 1, [], 0), (.aaload, [], 0), (.iload_n 2, [], 0), (.iload 5, [], 0), (.invokevirtual 140, [34, 3, 6], 3), (.ifCond .eq 19, [6], 0), (.aload_n 0, [], 0), (.getfield 11, [9, 0], 0), (.iload_n 3, [], 0), (.aaload, [], 0), (.iload 4, [], 0), (.iload 5, [], 0), (.invokevirtual 140, [34, 3, 6], 3), (.ifCond .ne 9, [7], 0), (.nop, [6], 0)],
  [(.aload_n 0, [], 0), (.iconst 2, [], 0), (.invokevirtual 112, [24, 2, 9], 2), (.ireturn, [0], 0)],
  [(.aload_n 0, [], 0), (.getfield 11, [9, 0], 0), (.iload_n 1, [], 0), (.aaload, [], 0), (.getfield 134, [6, 0], 0), (.iload_n 2, [], 0), (.aload_n 0, [], 0), (.getfield 11, [9, 0], 0), (.iload_n 3, [], 0), (.aaload, [], 0), (.getfield 134, [6, 0], 0), (.iload 4, [], 0), (.iload 5, [], 0), (.invokestatic 144, [], 0), (.iconst 1, [], 0), (.ireturn, [0], 0)]]
def am_s33 : List Nat := [0, 14, 16, 27, 51, 57, 88, 94]
/-- WashLine$Strip.hasRun(II)Z -/
def am_b34 : List (List am_I) := [[(.iload_n 1, [], 0), (.ifCond .lt 25, [1], 0), (.iload_n 2, [], 0), (.aload_n 0, [], 0), (.getfield 7, [6, 1], 0), (.if_icmp .gt 17, [1], 0), (.iload_n 1, [], 0), (.aload_n 0, [], 0), (.getfield 7, [6, 1], 0), (.iload_n 2, [], 0), (.isub, [], 0), (.if_icmp .gt 7, [1], 0), (.iconst 1, [], 0), (.goto 4, [2], 0)],
  [(.iconst 0, [], 0), (.nop, [2], 0)],
  [(.ireturn, [1], 0)]]
def am_s34 : List Nat := [0, 26, 27]
/-- WashLine.mean(I)I -/
def am_b35 : List (List am_I) := [[(.iload_n 1, [], 0), (.invokestatic 108, [22, 1], 1), (.ifCond .ne 5, [1], 0), (.iconst (-1), [], 0), (.ireturn, [0], 0)],
  [(.aload_n 0, [], 0), (.getfield 11, [9, 0], 0), (.iload_n 1, [], 0), (.aaload, [], 0), (.invokevirtual 120, [27, 1, 6], 1), (.ifCond .eq 9, [2], 0), (.aload_n 0, [], 0), (.iconst 1, [], 0), (.invokevirtual 112, [24, 2, 9], 2), (.ireturn, [0], 0)],
  [(.aload_n 0, [], 0), (.getfield 11, [9, 0], 0), (.iload_n 1, [], 0), (.aaload, [], 0), (.getfield 137, [6, 1], 0), (.ifCond .ne 9, [3], 0), (.aload_n 0, [], 0), (.iconst 4, [], 0), (.invokevirtual 112, [24, 2, 9], 2), (.ireturn, [0], 0)],
  [(.aload_n 0, [], 0), (.aload_n 0, [], 0), (.getfield 11, [9, 0], 0), (.iload_n 1, [], 0), (.aaload, [], 0), (.invokevirtual 150, [36, 1, 6], 1), (.aload_n 0, [], 0), (.getfield 11, [9, 0], 0), (.iload_n 1, [], 0), (.aaload, [], 0), (.getfield 137, [6, 1], 0), (.i2l, [], 0), (.ldiv, [], 0), (.l2i, [], 0), (.iconst 1, [], 0), (.invokevirtual 131, [30, 3, 9], 3), (.ireturn, [0], 0)]]
def am_s35 : List Nat := [0, 9, 27, 45]
/-- WashLine$Strip.sum()J -/
def am_b36 : List (List am_I) := [[(.lconst 0, [], 0), (.lstore_n 1, [], 0), (.iconst 0, [], 0), (.istore_n 3, [], 0), (.nop, [1], 0)],
  [(.iload_n 3, [], 0), (.aload_n 0, [], 0), (.getfield 7, [6, 1], 0), (.if_icmp .ge 19, [2], 0), (.lload_n 1, [], 0), (.aload_n 0, [], 0), (.getfield 13, [6, 0], 0), (.iload_n 3, [], 0), (.iaload, [], 0), (.i2l, [], 0), (.ladd, [], 0), (.lstore_n 1, [], 0), (.iinc 3 1, [], 0), (.goto (-21), [1], 0)],
  [(.lload_n 1, [], 0), (.lreturn, [], 0)]]
def am_s36 : List Nat := [0, 4, 28]
/-- WashLine.text(II)I -/
def am_b37 : List (List am_I) := [[(.iload_n 1, [], 0), (.invokestatic 154, [38, 1], 1), (.ifCond .eq 9, [1], 0), (.iload_n 2, [], 0), (.bipush 120, [], 0), (.if_icmp .le 5, [2], 0), (.nop, [1], 0)],
  [(.iconst (-1), [], 0), (.ireturn, [0], 0)],
  [(.iload_n 2, [], 0), (.ifCond .ge 9, [3], 0), (.aload_n 0, [], 0), (.iconst 5, [], 0), (.invokevirtual 112, [24, 2, 9], 2), (.ireturn, [0], 0)],
  [(.aload_n 0, [], 0), (.getfield 15, [9, 1], 0), (.iload_n 1, [], 0), (.aaload, [], 0), (.iload_n 2, [], 0), (.bipush 32, [], 0), (.invokevirtual 116, [25, 3, 6], 3), (.iload_n 2, [], 0), (.ireturn, [0], 0)]]
def am_s37 : List Nat := [0, 13, 15, 25]
/-- WashLine.isText(I)Z -/
def am_b38 : List (List am_I) := [[(.iload_n 0, [], 0), (.iconst 3, [], 0), (.invokestatic 197, [23, 2], 2), (.ireturn, [1], 0)]]
def am_s38 : List Nat := [0]
/-- WashLine.put(III)I -/
def am_b39 : List (List am_I) := [[(.iload_n 1, [], 0), (.invokestatic 154, [38, 1], 1), (.ifCond .ne 5, [1], 0), (.iconst (-1), [], 0), (.ireturn, [0], 0)],
  [(.aload_n 0, [], 0), (.getfield 15, [9, 1], 0), (.iload_n 1, [], 0), (.aaload, [], 0), (.invokevirtual 120, [27, 1, 6], 1), (.ifCond .eq 9, [2], 0), (.aload_n 0, [], 0), (.iconst 1, [], 0), (.invokevirtual 112, [24, 2, 9], 2), (.ireturn, [0], 0)],
  [(.aload_n 0, [], 0), (.getfield 15, [9, 1], 0), (.iload_n 1, [], 0), (.aaload, [], 0), (.iload_n 2, [], 0), (.invokevirtual 124, [28, 2, 6], 2), (.ifCond .ne 9, [3], 0), (.aload_n 0, [], 0), (.iconst 2, [], 0), (.invokevirtual 112, [24, 2, 9], 2), (.ireturn, [0], 0)],
  [(.aload_n 0, [], 0), (.getfield 15, [9, 1], 0), (.iload_n 1, [], 0), (.aaload, [], 0), (.iload_n 2, [], 0), (.iload_n 3, [], 0), (.i2b, [], 0), (.invokevirtual 127, [29, 3, 6], 3), (.sipush 1000, [], 0), (.iadd, [], 0), (.ireturn, [0], 0)]]
def am_s39 : List Nat := [0, 9, 27, 46]
/-- WashLine.fault(I)I -/
def am_b40 : List (List am_I) := [[(.iload_n 1, [], 0), (.invokestatic 154, [38, 1], 1), (.ifCond .ne 5, [1], 0), (.iconst (-1), [], 0), (.ireturn, [0], 0)],
  [(.aload_n 0, [], 0), (.getfield 15, [9, 1], 0), (.iload_n 1, [], 0), (.aaload, [], 0), (.invokevirtual 120, [27, 1, 6], 1), (.ifCond .eq 9, [2], 0), (.aload_n 0, [], 0), (.iconst 1, [], 0), (.invokevirtual 112, [24, 2, 9], 2), (.ireturn, [0], 0)],
  [(.aload_n 0, [], 0), (.getfield 28, [9, 3], 0), (.aload_n 0, [], 0), (.getfield 15, [9, 1], 0), (.iload_n 1, [], 0), (.aaload, [], 0), (.invokevirtual 157, [41, 2, 3], 2), (.ireturn, [0], 0)]]
def am_s40 : List Nat := [0, 9, 27]
/-- WashLine$Reader.read(LWashLine$Strip;)I -/
def am_b41 : List (List am_I) := [[(.aload_n 0, [], 0), (.aload_n 1, [], 0), (.putfield 14, [3, 0], 0), (.aload_n 0, [], 0), (.iconst 0, [], 0), (.putfield 27, [3, 1], 0), (.aload_n 0, [], 0), (.getfield 23, [3, 2], 0), (.invokevirtual 31, [3, 1, 8], 1), (.iconst 1, [], 0), (.istore_n 2, [], 0), (.iconst 0, [], 0), (.istore_n 3, [], 0), (.nop, [1], 0)],
  [(.iload_n 2, [], 0), (.ifCond .eq 51, [5], 0), (.aload_n 0, [], 0), (.getfield 27, [3, 1], 0), (.aload_n 0, [], 0), (.getfield 14, [3, 0], 0), (.getfield 34, [6, 1], 0), (.if_icmp .ge 37, [5], 0), (.iload_n 3, [], 0), (.bipush 120, [], 0), (.if_icmp .ge 31, [5], 0), (.aload_n 0, [], 0), (.bipush 32, [], 0), (.invokevirtual 37, [42, 2, 3], 2), (.ifCond .ne 10, [2], 0), (.aload_n 0, [], 0), (.invokevirtual 41, [44, 1, 3], 1), (.ifCond .eq 7, [3], 0), (.nop, [2], 0)],
  [(.iconst 1, [], 0), (.goto 4, [4], 0)],
  [(.iconst 0, [], 0), (.nop, [4], 0)],
  [(.istore_n 2, [], 0), (.iinc 3 1, [], 0), (.goto (-49), [1], 0)],
  [(.aload_n 0, [], 0), (.getfield 23, [3, 2], 0), (.invokevirtual 45, [50, 1, 8], 1), (.iload_n 2, [], 0), (.ifCond .eq 8, [6], 0), (.bipush (-9), [], 0), (.goto 7, [7], 0)],
  [(.aload_n 0, [], 0), (.getfield 27, [3, 1], 0), (.nop, [7], 0)],
  [(.ireturn, [0], 0)]]
def am_s41 : List Nat := [0, 21, 61, 65, 66, 73, 89, 93]
/-- WashLine$Reader.letter(I)Z -/
def am_b42 : List (List am_I) := [[(.aload_n 0, [], 0), (.invokevirtual 55, [43, 1, 3], 1), (.iload_n 1, [], 0), (.if_icmp .eq 5, [1], 0), (.iconst 0, [], 0), (.ireturn, [1], 0)],
  [(.aload_n 0, [], 0), (.dup, [], 0), (.getfield 27, [3, 1], 0), (.iconst 1, [], 0), (.iadd, [], 0), (.putfield 27, [3, 1], 0), (.iconst 1, [], 0), (.ireturn, [1], 0)]]
def am_s42 : List Nat := [0, 10]
/-- WashLine$Reader.sign()I -/
def am_b43 : List (List am_I) := [[(.aload_n 0, [], 0), (.getfield 14, [3, 0], 0), (.aload_n 0, [], 0), (.getfield 27, [3, 1], 0), (.invokevirtual 48, [28, 2, 6], 2), (.ifCond .eq 18, [1], 0), (.aload_n 0, [], 0), (.getfield 14, [3, 0], 0), (.getfield 51, [6, 0], 0), (.aload_n 0, [], 0), (.getfield 27, [3, 1], 0), (.iaload, [], 0), (.goto 6, [2], 0)],
  [(.sipush 1000, [], 0), (.nop, [2], 0)],
  [(.ireturn, [0], 0)]]
def am_s43 : List Nat := [0, 29, 32]
/-- WashLine$Reader.item()Z -/
def am_b44 : List (List am_I) := [[(.aload_n 0, [], 0), (.invokevirtual 55, [43, 1, 3], 1), (.lookupswitch 64 #[(99, 59), (105, 54), (107, 44), (119, 49)], [5, 4, 3, 1, 2], 0)],
  [(.aload_n 0, [], 0), (.invokevirtual 59, [45, 1, 3], 1), (.ireturn, [1], 0)],
  [(.aload_n 0, [], 0), (.invokevirtual 62, [47, 1, 3], 1), (.ireturn, [1], 0)],
  [(.aload_n 0, [], 0), (.invokevirtual 65, [48, 1, 3], 1), (.ireturn, [1], 0)],
  [(.aload_n 0, [], 0), (.invokevirtual 68, [49, 1, 3], 1), (.ireturn, [1], 0)],
  [(.iconst 0, [], 0), (.ireturn, [1], 0)]]
def am_s44 : List Nat := [0, 48, 53, 58, 63, 68]
/-- WashLine$Reader.sort()Z -/
def am_b45 : List (List am_I) := [[(.aload_n 0, [], 0), (.getfield 23, [3, 2], 0), (.getfield 71, [8, 0], 0), (.bipush 6, [], 0), (.if_icmp .lt 5, [1], 0), (.iconst 0, [], 0), (.ireturn, [1], 0)],
  [(.aload_n 0, [], 0), (.dup, [], 0), (.getfield 27, [3, 1], 0), (.iconst 1, [], 0), (.iadd, [], 0), (.putfield 27, [3, 1], 0), (.aload_n 0, [], 0), (.bipush 45, [], 0), (.invokevirtual 37, [42, 2, 3], 2), (.ifCond .eq 8, [2], 0), (.bipush (-9), [], 0), (.goto 9, [3], 0)],
  [(.aload_n 0, [], 0), (.iconst 0, [], 0), (.iconst 5, [], 0), (.invokevirtual 74, [46, 3, 3], 3), (.nop, [3], 0)],
  [(.istore_n 1, [], 0), (.iload_n 1, [], 0), (.iconst (-1), [], 0), (.if_icmp .ne 5, [4], 0), (.iconst 0, [], 0), (.ireturn, [1], 0)],
  [(.aload_n 0, [], 0), (.getfield 23, [3, 2], 0), (.getfield 78, [8, 1], 0), (.aload_n 0, [], 0), (.getfield 23, [3, 2], 0), (.getfield 71, [8, 0], 0), (.iload_n 1, [], 0), (.iastore, [], 0), (.aload_n 0, [], 0), (.getfield 23, [3, 2], 0), (.dup, [], 0), (.getfield 71, [8, 0], 0), (.iconst 1, [], 0), (.iadd, [], 0), (.putfield 71, [8, 0], 0), (.iconst 1, [], 0), (.ireturn, [1], 0)]]
def am_s45 : List Nat := [0, 14, 38, 44, 52]
/-- WashLine$Reader.figure(II)I -/
def am_b46 : List (List am_I) := [[(.aload_n 0, [], 0), (.invokevirtual 55, [43, 1, 3], 1), (.bipush 48, [], 0), (.isub, [], 0), (.istore_n 3, [], 0), (.iload_n 3, [], 0), (.iload_n 1, [], 0), (.if_icmp .lt 8, [1], 0), (.iload_n 3, [], 0), (.iload_n 2, [], 0), (.if_icmp .le 5, [2], 0), (.nop, [1], 0)],
  [(.iconst (-1), [], 0), (.ireturn, [0], 0)],
  [(.aload_n 0, [], 0), (.dup, [], 0), (.getfield 27, [3, 1], 0), (.iconst 1, [], 0), (.iadd, [], 0), (.putfield 27, [3, 1], 0), (.iload_n 3, [], 0), (.ireturn, [0], 0)]]
def am_s46 : List Nat := [0, 18, 20]
/-- WashLine$Reader.wash()Z -/
def am_b47 : List (List am_I) := [[(.aload_n 0, [], 0), (.dup, [], 0), (.getfield 27, [3, 1], 0), (.iconst 1, [], 0), (.iadd, [], 0), (.putfield 27, [3, 1], 0), (.aload_n 0, [], 0), (.iconst 0, [], 0), (.aload_n 0, [], 0), (.getfield 23, [3, 2], 0), (.getfield 71, [8, 0], 0), (.iconst 1, [], 0), (.isub, [], 0), (.invokevirtual 74, [46, 3, 3], 3), (.istore_n 1, [], 0), (.iload_n 1, [], 0), (.ifCond .lt 12, [1], 0), (.aload_n 0, [], 0), (.bipush 116, [], 0), (.invokevirtual 37, [42, 2, 3], 2), (.ifCond .ne 5, [2], 0), (.nop, [1], 0)],
  [(.iconst 0, [], 0), (.ireturn, [1], 0)],
  [(.aload_n 0, [], 0), (.iconst 0, [], 0), (.bipush 7, [], 0), (.invokevirtual 74, [46, 3, 3], 3), (.istore_n 2, [], 0), (.iload_n 2, [], 0), (.ifCond .lt 12, [3], 0), (.aload_n 0, [], 0), (.bipush 58, [], 0), (.invokevirtual 37, [42, 2, 3], 2), (.ifCond .ne 5, [4], 0), (.nop, [3], 0)],
  [(.iconst 0, [], 0), (.ireturn, [1], 0)],
  [(.aload_n 0, [], 0), (.iconst 0, [], 0), (.bipush 9, [], 0), (.invokevirtual 74, [46, 3, 3], 3), (.istore_n 3, [], 0), (.iload_n 3, [], 0), (.ifCond .lt 12, [5], 0), (.aload_n 0, [], 0), (.bipush 45, [], 0), (.invokevirtual 37, [42, 2, 3], 2), (.ifCond .ne 5, [6], 0), (.nop, [5], 0)],
  [(.iconst 0, [], 0), (.ireturn, [1], 0)],
  [(.aload_n 0, [], 0), (.iload_n 3, [], 0), (.bipush 9, [], 0), (.invokevirtual 74, [46, 3, 3], 3), (.istore 4, [], 0), (.iload 4, [], 0), (.ifCond .ge 5, [7], 0), (.iconst 0, [], 0), (.ireturn, [1], 0)],
  [(.aload_n 0, [], 0), (.getfield 23, [3, 2], 0), (.getfield 81, [8, 2], 0), (.iload_n 1, [], 0), (.bipush 8, [], 0), (.imul, [], 0), (.iload_n 2, [], 0), (.iadd, [], 0), (.iload_n 3, [], 0), (.iastore, [], 0), (.aload_n 0, [], 0), (.getfield 23, [3, 2], 0), (.getfield 84, [8, 3], 0), (.iload_n 1, [], 0), (.bipush 8, [], 0), (.imul, [], 0), (.iload_n 2, [], 0), (.iadd, [], 0), (.iload 4, [], 0), (.iastore, [], 0), (.iconst 1, [], 0), (.ireturn, [1], 0)]]
def am_s47 : List Nat := [0, 38, 40, 61, 63, 84, 86, 102]
/-- WashLine$Reader.inside()Z -/
def am_b48 : List (List am_I) := [[(.aload_n 0, [], 0), (.dup, [], 0), (.getfield 27, [3, 1], 0), (.iconst 1, [], 0), (.iadd, [], 0), (.putfield 27, [3, 1], 0), (.aload_n 0, [], 0), (.iconst 0, [], 0), (.bipush 7, [], 0), (.invokevirtual 74, [46, 3, 3], 3), (.istore_n 1, [], 0), (.iload_n 1, [], 0), (.ifCond .ge 5, [1], 0), (.iconst 0, [], 0), (.ireturn, [1], 0)],
  [(.aload_n 0, [], 0), (.getfield 23, [3, 2], 0), (.dup, [], 0), (.getfield 87, [8, 4], 0), (.iconst 1, [], 0), (.iload_n 1, [], 0), (.ishl, [], 0), (.ior, [], 0), (.putfield 87, [8, 4], 0), (.iconst 1, [], 0), (.ireturn, [1], 0)]]
def am_s48 : List Nat := [0, 24]
/-- WashLine$Reader.costs()Z -/
def am_b49 : List (List am_I) := [[(.aload_n 0, [], 0), (.dup, [], 0), (.getfield 27, [3, 1], 0), (.iconst 1, [], 0), (.iadd, [], 0), (.putfield 27, [3, 1], 0), (.iconst 0, [], 0), (.istore_n 1, [], 0), (.nop, [1], 0)],
  [(.iload_n 1, [], 0), (.iconst 5, [], 0), (.if_icmp .ge 33, [3], 0), (.aload_n 0, [], 0), (.iconst 0, [], 0), (.bipush 9, [], 0), (.invokevirtual 74, [46, 3, 3], 3), (.istore_n 2, [], 0), (.iload_n 2, [], 0), (.ifCond .ge 5, [2], 0), (.iconst 0, [], 0), (.ireturn, [1], 0)],
  [(.aload_n 0, [], 0), (.getfield 23, [3, 2], 0), (.getfield 89, [8, 5], 0), (.iload_n 1, [], 0), (.iload_n 2, [], 0), (.iastore, [], 0), (.iinc 1 1, [], 0), (.goto (-32), [1], 0)],
  [(.iconst 1, [], 0), (.ireturn, [1], 0)]]
def am_s49 : List Nat := [0, 12, 31, 47]
/-- WashLine$World.growIntoToldOnly()V -/
def am_b50 : List (List am_I) := [[(.iconst 0, [], 0), (.istore_n 1, [], 0), (.nop, [1], 0)],
  [(.iload_n 1, [], 0), (.bipush 6, [], 0), (.if_icmp .ge 30, [3], 0), (.aload_n 0, [], 0), (.getfield 9, [8, 1], 0), (.iload_n 1, [], 0), (.iaload, [], 0), (.aload_n 0, [], 0), (.getfield 27, [8, 0], 0), (.if_icmp .lt 11, [2], 0), (.aload_n 0, [], 0), (.getfield 9, [8, 1], 0), (.iload_n 1, [], 0), (.bipush (-9), [], 0), (.iastore, [], 0), (.nop, [2], 0)],
  [(.iinc 1 1, [], 0), (.goto (-30), [1], 0)],
  [(.return_, [], 0)]]
def am_s50 : List Nat := [0, 2, 29, 35]
/-- WashLine.world(I)I -/
def am_b51 : List (List am_I) := [[(.iload_n 1, [], 0), (.invokestatic 154, [38, 1], 1), (.ifCond .ne 5, [1], 0), (.iconst (-1), [], 0), (.ireturn, [0], 0)],
  [(.aload_n 0, [], 0), (.getfield 15, [9, 1], 0), (.iload_n 1, [], 0), (.aaload, [], 0), (.invokevirtual 120, [27, 1, 6], 1), (.ifCond .eq 9, [2], 0), (.aload_n 0, [], 0), (.iconst 1, [], 0), (.invokevirtual 112, [24, 2, 9], 2), (.ireturn, [0], 0)],
  [(.aload_n 0, [], 0), (.getfield 28, [9, 3], 0), (.aload_n 0, [], 0), (.getfield 15, [9, 1], 0), (.iload_n 1, [], 0), (.aaload, [], 0), (.invokevirtual 157, [41, 2, 3], 2), (.bipush (-9), [], 0), (.if_icmp .eq 6, [3], 0), (.bipush (-4), [], 0), (.ireturn, [0], 0)],
  [(.aload_n 0, [], 0), (.getfield 21, [9, 2], 0), (.aload_n 0, [], 0), (.getfield 28, [9, 3], 0), (.getfield 161, [3, 2], 0), (.invokevirtual 164, [52, 2, 8], 2), (.aload_n 0, [], 0), (.getfield 37, [9, 4], 0), (.invokevirtual 167, [8, 1, 0], 1), (.aload_n 0, [], 0), (.getfield 44, [9, 5], 0), (.iconst 0, [], 0), (.putfield 170, [1, 0], 0), (.aload_n 0, [], 0), (.getfield 80, [9, 9], 0), (.iconst 0, [], 0), (.putfield 171, [5, 2], 0), (.aload_n 0, [], 0), (.getfield 62, [9, 7], 0), (.invokevirtual 172, [53, 1, 4], 1), (.aload_n 0, [], 0), (.getfield 71, [9, 8], 0), (.invokevirtual 175, [54, 1, 7], 1), (.aload_n 0, [], 0), (.getfield 21, [9, 2], 0), (.getfield 176, [8, 0], 0), (.ireturn, [0], 0)]]
def am_s51 : List Nat := [0, 9, 27, 48]
/-- WashLine$World.take(LWashLine$World;)V -/
def am_b52 : List (List am_I) := [[(.aload_n 0, [], 0), (.aload_n 1, [], 0), (.getfield 27, [8, 0], 0), (.putfield 27, [8, 0], 0), (.aload_n 0, [], 0), (.aload_n 1, [], 0), (.getfield 31, [8, 4], 0), (.putfield 31, [8, 4], 0), (.aload_n 1, [], 0), (.getfield 9, [8, 1], 0), (.iconst 0, [], 0), (.aload_n 0, [], 0), (.getfield 9, [8, 1], 0), (.iconst 0, [], 0), (.bipush 6, [], 0), (.invokestatic 40, [], 0), (.aload_n 1, [], 0), (.getfield 15, [8, 2], 0), (.iconst 0, [], 0), (.aload_n 0, [], 0), (.getfield 15, [8, 2], 0), (.iconst 0, [], 0), (.bipush 48, [], 0), (.invokestatic 40, [], 0), (.aload_n 1, [], 0), (.getfield 18, [8, 3], 0), (.iconst 0, [], 0), (.aload_n 0, [], 0), (.getfield 18, [8, 3], 0), (.iconst 0, [], 0), (.bipush 48, [], 0), (.invokestatic 40, [], 0), (.aload_n 1, [], 0), (.getfield 21, [8, 5], 0), (.iconst 0, [], 0), (.aload_n 0, [], 0), (.getfield 21, [8, 5], 0), (.iconst 0, [], 0), (.iconst 5, [], 0), (.invokestatic 40, [], 0), (.return_, [], 0)]]
def am_s52 : List Nat := [0]
/-- WashLine$Steps.forget()V -/
def am_b53 : List (List am_I) := [[(.iconst 0, [], 0), (.istore_n 1, [], 0), (.nop, [1], 0)],
  [(.iload_n 1, [], 0), (.sipush 462, [], 0), (.if_icmp .ge 16, [2], 0), (.aload_n 0, [], 0), (.getfield 19, [4, 4], 0), (.iload_n 1, [], 0), (.iconst 0, [], 0), (.bastore, [], 0), (.iinc 1 1, [], 0), (.goto (-17), [1], 0)],
  [(.return_, [], 0)]]
def am_s53 : List Nat := [0, 2, 22]
/-- WashLine$Winter.forget()V -/
def am_b54 : List (List am_I) := [[(.aload_n 0, [], 0), (.iconst 0, [], 0), (.putfield 9, [7, 4], 0), (.aload_n 0, [], 0), (.iconst 0, [], 0), (.putfield 15, [7, 5], 0), (.return_, [], 0)]]
def am_s54 : List Nat := [0]
/-- WashLine.wears(II)I -/
def am_b55 : List (List am_I) := [[(.aload_n 0, [], 0), (.iload_n 1, [], 0), (.invokevirtual 179, [56, 2, 9], 2), (.ifCond .eq 10, [1], 0), (.iload_n 2, [], 0), (.invokestatic 182, [57, 1], 1), (.ifCond .ne 5, [2], 0), (.nop, [1], 0)],
  [(.iconst (-1), [], 0), (.ireturn, [0], 0)],
  [(.aload_n 0, [], 0), (.aload_n 0, [], 0), (.getfield 21, [9, 2], 0), (.getfield 185, [8, 3], 0), (.iload_n 1, [], 0), (.bipush 8, [], 0), (.imul, [], 0), (.iload_n 2, [], 0), (.iadd, [], 0), (.iaload, [], 0), (.aload_n 0, [], 0), (.getfield 21, [9, 2], 0), (.getfield 188, [8, 2], 0), (.iload_n 1, [], 0), (.bipush 8, [], 0), (.imul, [], 0), (.iload_n 2, [], 0), (.iadd, [], 0), (.iaload, [], 0), (.invokevirtual 131, [30, 3, 9], 3), (.ireturn, [0], 0)]]
def am_s55 : List Nat := [0, 15, 17]
/-- WashLine.isSort(I)Z -/
def am_b56 : List (List am_I) := [[(.iload_n 1, [], 0), (.aload_n 0, [], 0), (.getfield 21, [9, 2], 0), (.getfield 176, [8, 0], 0), (.iconst 1, [], 0), (.isub, [], 0), (.invokestatic 197, [23, 2], 2), (.ireturn, [1], 0)]]
def am_s56 : List Nat := [0]
/-- WashLine.isThing(I)Z -/
def am_b57 : List (List am_I) := [[(.iload_n 0, [], 0), (.bipush 7, [], 0), (.invokestatic 197, [23, 2], 2), (.ireturn, [1], 0)]]
def am_s57 : List Nat := [0]
/-- WashLine.grows(I)I -/
def am_b58 : List (List am_I) := [[(.aload_n 0, [], 0), (.iload_n 1, [], 0), (.invokevirtual 179, [56, 2, 9], 2), (.ifCond .eq 15, [1], 0), (.aload_n 0, [], 0), (.getfield 21, [9, 2], 0), (.getfield 191, [8, 1], 0), (.iload_n 1, [], 0), (.iaload, [], 0), (.goto 4, [2], 0)],
  [(.iconst (-1), [], 0), (.nop, [2], 0)],
  [(.ireturn, [0], 0)]]
def am_s58 : List Nat := [0, 20, 21]
/-- WashLine.indoors()I -/
def am_b59 : List (List am_I) := [[(.aload_n 0, [], 0), (.getfield 21, [9, 2], 0), (.getfield 194, [8, 4], 0), (.ireturn, [0], 0)]]
def am_s59 : List Nat := [0]
/-- WashLine.price(II)I -/
def am_b60 : List (List am_I) := [[(.iload_n 1, [], 0), (.iconst 4, [], 0), (.invokestatic 197, [23, 2], 2), (.ifCond .eq 18, [1], 0), (.iload_n 2, [], 0), (.bipush (-9), [], 0), (.if_icmp .eq 14, [2], 0), (.iload_n 2, [], 0), (.bipush 9, [], 0), (.invokestatic 197, [23, 2], 2), (.ifCond .ne 5, [2], 0), (.nop, [1], 0)],
  [(.iconst (-1), [], 0), (.ireturn, [0], 0)],
  [(.aload_n 0, [], 0), (.getfield 21, [9, 2], 0), (.getfield 200, [8, 5], 0), (.iload_n 1, [], 0), (.iaload, [], 0), (.istore_n 3, [], 0), (.iload_n 2, [], 0), (.bipush (-9), [], 0), (.if_icmp .eq 32, [3], 0), (.iload_n 2, [], 0), (.iload_n 3, [], 0), (.if_icmp .eq 27, [3], 0), (.aload_n 0, [], 0), (.getfield 21, [9, 2], 0), (.getfield 200, [8, 5], 0), (.iload_n 1, [], 0), (.iload_n 2, [], 0), (.iastore, [], 0), (.aload_n 0, [], 0), (.getfield 62, [9, 7], 0), (.invokevirtual 172, [53, 1, 4], 1), (.aload_n 0, [], 0), (.getfield 71, [9, 8], 0), (.invokevirtual 175, [54, 1, 7], 1), (.nop, [3], 0)],
  [(.iload_n 3, [], 0), (.ireturn, [0], 0)]]
def am_s60 : List Nat := [0, 23, 25, 70]
/-- WashLine.monday(III)I -/
def am_b61 : List (List am_I) := [[(.iload_n 1, [], 0), (.invokestatic 203, [62, 1], 1), (.ifCond .eq 19, [1], 0), (.iload_n 2, [], 0), (.invokestatic 108, [22, 1], 1), (.ifCond .eq 12, [1], 0), (.iload_n 3, [], 0), (.bipush 9, [], 0), (.invokestatic 197, [23, 2], 2), (.ifCond .ne 5, [2], 0), (.nop, [1], 0)],
  [(.iconst (-1), [], 0), (.ireturn, [0], 0)],
  [(.aload_n 0, [], 0), (.getfield 11, [9, 0], 0), (.iload_n 2, [], 0), (.aaload, [], 0), (.invokevirtual 120, [27, 1, 6], 1), (.ifCond .eq 9, [3], 0), (.aload_n 0, [], 0), (.iconst 1, [], 0), (.invokevirtual 112, [24, 2, 9], 2), (.ireturn, [0], 0)],
  [(.aload_n 0, [], 0), (.getfield 11, [9, 0], 0), (.iload_n 2, [], 0), (.aaload, [], 0), (.getfield 137, [6, 1], 0), (.bipush 8, [], 0), (.if_icmp .eq 9, [4], 0), (.aload_n 0, [], 0), (.iconst 5, [], 0), (.invokevirtual 112, [24, 2, 9], 2), (.ireturn, [0], 0)],
  [(.aload_n 0, [], 0), (.getfield 11, [9, 0], 0), (.iload_n 2, [], 0), (.aaload, [], 0), (.bipush 40, [], 0), (.invokevirtual 206, [63, 2, 6], 2), (.ifCond .ne 9, [5], 0), (.aload_n 0, [], 0), (.iconst 3, [], 0), (.invokevirtual 112, [24, 2, 9], 2), (.ireturn, [0], 0)],
  [(.aload_n 0, [], 0), (.getfield 44, [9, 5], 0), (.getfield 170, [1, 0], 0), (.bipush 12, [], 0), (.if_icmp .lt 6, [6], 0), (.bipush (-2), [], 0), (.ireturn, [0], 0)],
  [(.aload_n 0, [], 0), (.getfield 71, [9, 8], 0), (.invokevirtual 175, [54, 1, 7], 1), (.aload_n 0, [], 0), (.getfield 44, [9, 5], 0), (.iload_n 1, [], 0), (.aload_n 0, [], 0), (.getfield 11, [9, 0], 0), (.iload_n 2, [], 0), (.aaload, [], 0), (.getfield 134, [6, 0], 0), (.iload_n 3, [], 0), (.invokevirtual 209, [64, 4, 1], 4), (.ireturn, [0], 0)]]
def am_s61 : List Nat := [0, 23, 25, 43, 63, 83, 98]
/-- WashLine.isWeather(I)Z -/
def am_b62 : List (List am_I) := [[(.iload_n 0, [], 0), (.iconst 1, [], 0), (.invokestatic 197, [23, 2], 2), (.ireturn, [1], 0)]]
def am_s62 : List Nat := [0]
/-- WashLine$Strip.holdsUpTo(I)Z -/
def am_b63 : List (List am_I) := [[(.iconst 0, [], 0), (.istore_n 2, [], 0), (.nop, [1], 0)],
  [(.iload_n 2, [], 0), (.aload_n 0, [], 0), (.getfield 7, [6, 1], 0), (.if_icmp .ge 30, [4], 0), (.aload_n 0, [], 0), (.getfield 13, [6, 0], 0), (.iload_n 2, [], 0), (.iaload, [], 0), (.ifCond .lt 13, [2], 0), (.aload_n 0, [], 0), (.getfield 13, [6, 0], 0), (.iload_n 2, [], 0), (.iaload, [], 0), (.iload_n 1, [], 0), (.if_icmp .le 5, [3], 0), (.nop, [2], 0)],
  [(.iconst 0, [], 0), (.ireturn, [1], 0)],
  [(.iinc 2 1, [], 0), (.goto (-32), [1], 0)],
  [(.iconst 1, [], 0), (.ireturn, [1], 0)]]
def am_s63 : List Nat := [0, 2, 29, 31, 37]
/-- WashLine$Line.add(I[II)I -/
def am_b64 : List (List am_I) := [[(.aload_n 0, [], 0), (.getfield 15, [1, 1], 0), (.aload_n 0, [], 0), (.getfield 9, [1, 0], 0), (.iload_n 1, [], 0), (.iastore, [], 0), (.aload_n 0, [], 0), (.getfield 19, [1, 2], 0), (.aload_n 0, [], 0), (.getfield 9, [1, 0], 0), (.iload_n 3, [], 0), (.iastore, [], 0), (.aload_n 2, [], 0), (.iconst 0, [], 0), (.aload_n 0, [], 0), (.getfield 22, [1, 3], 0), (.aload_n 0, [], 0), (.getfield 9, [1, 0], 0), (.bipush 8, [], 0), (.imul, [], 0), (.bipush 8, [], 0), (.invokestatic 25, [], 0), (.aload_n 0, [], 0), (.dup, [], 0), (.getfield 9, [1, 0], 0), (.iconst 1, [], 0), (.iadd, [], 0), (.putfield 9, [1, 0], 0), (.aload_n 0, [], 0), (.getfield 9, [1, 0], 0), (.iconst 1, [], 0), (.isub, [], 0), (.ireturn, [0], 0)]]
def am_s64 : List Nat := [0]
/-- WashLine.hung(III)I -/
def am_b65 : List (List am_I) := [[(.aload_n 0, [], 0), (.iload_n 1, [], 0), (.invokevirtual 213, [66, 2, 9], 2), (.ifCond .eq 19, [1], 0), (.iload_n 2, [], 0), (.invokestatic 182, [57, 1], 1), (.ifCond .eq 12, [1], 0), (.iload_n 3, [], 0), (.bipush 40, [], 0), (.invokestatic 197, [23, 2], 2), (.ifCond .ne 5, [2], 0), (.nop, [1], 0)],
  [(.iconst (-1), [], 0), (.ireturn, [0], 0)],
  [(.aload_n 0, [], 0), (.getfield 44, [9, 5], 0), (.getfield 216, [1, 3], 0), (.iload_n 1, [], 0), (.bipush 8, [], 0), (.imul, [], 0), (.iload_n 2, [], 0), (.iadd, [], 0), (.iaload, [], 0), (.istore 4, [], 0), (.iload_n 3, [], 0), (.iload 4, [], 0), (.if_icmp .eq 25, [3], 0), (.aload_n 0, [], 0), (.getfield 44, [9, 5], 0), (.getfield 216, [1, 3], 0), (.iload_n 1, [], 0), (.bipush 8, [], 0), (.imul, [], 0), (.iload_n 2, [], 0), (.iadd, [], 0), (.iload_n 3, [], 0), (.iastore, [], 0), (.aload_n 0, [], 0), (.getfield 71, [9, 8], 0), (.invokevirtual 175, [54, 1, 7], 1), (.nop, [3], 0)],
  [(.iload 4, [], 0), (.ireturn, [0], 0)]]
def am_s65 : List Nat := [0, 24, 26, 70]
/-- WashLine.isMonday(I)Z -/
def am_b66 : List (List am_I) := [[(.iload_n 1, [], 0), (.aload_n 0, [], 0), (.getfield 44, [9, 5], 0), (.getfield 170, [1, 0], 0), (.iconst 1, [], 0), (.isub, [], 0), (.invokestatic 197, [23, 2], 2), (.ireturn, [1], 0)]]
def am_s66 : List Nat := [0]
/-- WashLine.told(II)I -/
def am_b67 : List (List am_I) := [[(.aload_n 0, [], 0), (.iload_n 1, [], 0), (.invokevirtual 213, [66, 2, 9], 2), (.ifCond .eq 12, [1], 0), (.iload_n 2, [], 0), (.bipush 9, [], 0), (.invokestatic 197, [23, 2], 2), (.ifCond .ne 5, [2], 0), (.nop, [1], 0)],
  [(.iconst (-1), [], 0), (.ireturn, [0], 0)],
  [(.aload_n 0, [], 0), (.aload_n 0, [], 0), (.getfield 44, [9, 5], 0), (.iload_n 1, [], 0), (.iload_n 2, [], 0), (.invokevirtual 219, [68, 3, 1], 3), (.iconst 1, [], 0), (.invokevirtual 131, [30, 3, 9], 3), (.ireturn, [0], 0)]]
def am_s67 : List Nat := [0, 17, 19]
/-- WashLine$Line.detail(II)I -/
def am_b68 : List (List am_I) := [[(.iload_n 2, [], 0), (.ifCond .ne 10, [1], 0), (.aload_n 0, [], 0), (.getfield 15, [1, 1], 0), (.iload_n 1, [], 0), (.iaload, [], 0), (.ireturn, [0], 0)],
  [(.iload_n 2, [], 0), (.iconst 1, [], 0), (.if_icmp .ne 12, [2], 0), (.aload_n 0, [], 0), (.getfield 19, [1, 2], 0), (.iload_n 1, [], 0), (.iaload, [], 0), (.goto 16, [3], 0)],
  [(.aload_n 0, [], 0), (.getfield 22, [1, 3], 0), (.iload_n 1, [], 0), (.bipush 8, [], 0), (.imul, [], 0), (.iload_n 2, [], 0), (.iadd, [], 0), (.iconst 2, [], 0), (.isub, [], 0), (.iaload, [], 0), (.nop, [3], 0)],
  [(.ireturn, [0], 0)]]
def am_s68 : List Nat := [0, 11, 25, 38]
/-- WashLine.back(I)I -/
def am_b69 : List (List am_I) := [[(.iload_n 1, [], 0), (.aload_n 0, [], 0), (.getfield 44, [9, 5], 0), (.getfield 170, [1, 0], 0), (.invokestatic 197, [23, 2], 2), (.ifCond .ne 5, [1], 0), (.iconst (-1), [], 0), (.ireturn, [0], 0)],
  [(.aload_n 0, [], 0), (.getfield 44, [9, 5], 0), (.getfield 170, [1, 0], 0), (.iload_n 1, [], 0), (.isub, [], 0), (.istore_n 2, [], 0), (.iload_n 2, [], 0), (.ifCond .le 18, [2], 0), (.aload_n 0, [], 0), (.getfield 44, [9, 5], 0), (.iload_n 1, [], 0), (.putfield 170, [1, 0], 0), (.aload_n 0, [], 0), (.getfield 71, [9, 8], 0), (.invokevirtual 175, [54, 1, 7], 1), (.nop, [2], 0)],
  [(.iload_n 2, [], 0), (.ireturn, [0], 0)]]
def am_s69 : List Nat := [0, 16, 45]
/-- WashLine.hangs(III)I -/
def am_b70 : List (List am_I) := [[(.aload_n 0, [], 0), (.getfield 37, [9, 4], 0), (.iload_n 1, [], 0), (.invokevirtual 222, [13, 2, 0], 2), (.istore 4, [], 0), (.iload 4, [], 0), (.ifCond .lt 17, [1], 0), (.iload_n 2, [], 0), (.invokestatic 203, [62, 1], 1), (.ifCond .eq 10, [1], 0), (.iload_n 3, [], 0), (.invokestatic 182, [57, 1], 1), (.ifCond .ne 5, [2], 0), (.nop, [1], 0)],
  [(.iconst (-1), [], 0), (.ireturn, [0], 0)],
  [(.aload_n 0, [], 0), (.aload_n 0, [], 0), (.getfield 37, [9, 4], 0), (.getfield 225, [0, 9], 0), (.iload 4, [], 0), (.bipush 8, [], 0), (.imul, [], 0), (.iload_n 3, [], 0), (.iadd, [], 0), (.iaload, [], 0), (.aload_n 0, [], 0), (.getfield 37, [9, 4], 0), (.iload 4, [], 0), (.iload_n 2, [], 0), (.iload_n 3, [], 0), (.invokevirtual 226, [71, 4, 0], 4), (.invokevirtual 131, [30, 3, 9], 3), (.ireturn, [0], 0)]]
def am_s70 : List Nat := [0, 29, 31]
/-- WashLine$Houses.leastIn(III)I -/
def am_b71 : List (List am_I) := [[(.aload_n 0, [], 0), (.getfield 36, [0, 0], 0), (.iload_n 2, [], 0), (.iload_n 3, [], 0), (.invokevirtual 91, [72, 3, 8], 3), (.ifCond .eq 7, [1], 0), (.iconst 0, [], 0), (.goto 14, [2], 0)],
  [(.aload_n 0, [], 0), (.getfield 30, [0, 8], 0), (.iload_n 1, [], 0), (.bipush 8, [], 0), (.imul, [], 0), (.iload_n 3, [], 0), (.iadd, [], 0), (.iaload, [], 0), (.nop, [2], 0)],
  [(.ireturn, [0], 0)]]
def am_s71 : List Nat := [0, 16, 27]
/-- WashLine$World.isInside(II)Z -/
def am_b72 : List (List am_I) := [[(.iload_n 1, [], 0), (.iconst 1, [], 0), (.if_icmp .ne 19, [1], 0), (.aload_n 0, [], 0), (.getfield 31, [8, 4], 0), (.iload_n 2, [], 0), (.ishr, [], 0), (.iconst 1, [], 0), (.iand, [], 0), (.iconst 1, [], 0), (.if_icmp .ne 7, [1], 0), (.iconst 1, [], 0), (.goto 4, [2], 0)],
  [(.iconst 0, [], 0), (.nop, [2], 0)],
  [(.ireturn, [1], 0)]]
def am_s72 : List Nat := [0, 21, 22]
/-- WashLine.explains(II)I -/
def am_b73 : List (List am_I) := [[(.aload_n 0, [], 0), (.getfield 37, [9, 4], 0), (.iload_n 2, [], 0), (.invokevirtual 222, [13, 2, 0], 2), (.istore_n 3, [], 0), (.iload_n 3, [], 0), (.ifCond .lt 11, [1], 0), (.aload_n 0, [], 0), (.iload_n 1, [], 0), (.invokevirtual 213, [66, 2, 9], 2), (.ifCond .ne 5, [2], 0), (.nop, [1], 0)],
  [(.iconst (-1), [], 0), (.ireturn, [0], 0)],
  [(.aload_n 0, [], 0), (.getfield 53, [9, 6], 0), (.iload_n 1, [], 0), (.iload_n 3, [], 0), (.invokevirtual 230, [74, 3, 2], 3), (.istore 4, [], 0), (.iload 4, [], 0), (.bipush (-9), [], 0), (.if_icmp .ne 8, [3], 0), (.bipush (-9), [], 0), (.goto 18, [4], 0)],
  [(.aload_n 0, [], 0), (.iload 4, [], 0), (.aload_n 0, [], 0), (.getfield 53, [9, 6], 0), (.iload 4, [], 0), (.invokevirtual 233, [81, 2, 2], 2), (.invokevirtual 131, [30, 3, 9], 3), (.nop, [4], 0)],
  [(.ireturn, [0], 0)]]
def am_s73 : List Nat := [0, 21, 23, 46, 61]
/-- WashLine$Looks.explain(II)I -/
def am_b74 : List (List am_I) := [[(.aload_n 0, [], 0), (.iload_n 1, [], 0), (.iload_n 2, [], 0), (.invokevirtual 56, [75, 3, 2], 3), (.ifCond .eq 5, [1], 0), (.iconst 0, [], 0), (.ireturn, [0], 0)],
  [(.aload_n 0, [], 0), (.iload_n 1, [], 0), (.iload_n 2, [], 0), (.invokevirtual 59, [79, 3, 2], 3), (.istore_n 3, [], 0), (.iload_n 3, [], 0), (.bipush (-9), [], 0), (.if_icmp .ne 12, [2], 0), (.aload_n 0, [], 0), (.iload_n 1, [], 0), (.iload_n 2, [], 0), (.invokevirtual 63, [80, 3, 2], 3), (.goto 4, [3], 0)],
  [(.iload_n 3, [], 0), (.nop, [3], 0)],
  [(.ireturn, [0], 0)]]
def am_s74 : List Nat := [0, 11, 33, 34]
/-- WashLine$Looks.agrees(II)Z -/
def am_b75 : List (List am_I) := [[(.aload_n 0, [], 0), (.iload_n 1, [], 0), (.iload_n 2, [], 0), (.iconst 0, [], 0), (.iconst 0, [], 0), (.iconst 0, [], 0), (.invokevirtual 23, [76, 6, 2], 6), (.ireturn, [1], 0)]]
def am_s75 : List Nat := [0]
/-- WashLine$Looks.agreesWith(IIIII)Z -/
def am_b76 : List (List am_I) := [[(.iconst 0, [], 0), (.istore 6, [], 0), (.nop, [1], 0)],
  [(.iload 6, [], 0), (.bipush 8, [], 0), (.if_icmp .ge 134, [4], 0), (.aload_n 0, [], 0), (.getfield 15, [2, 1], 0), (.getfield 27, [0, 9], 0), (.iload_n 2, [], 0), (.bipush 8, [], 0), (.imul, [], 0), (.iload 6, [], 0), (.iadd, [], 0), (.iaload, [], 0), (.iload 5, [], 0), (.aload_n 0, [], 0), (.getfield 9, [2, 0], 0), (.getfield 33, [8, 3], 0), (.iload_n 3, [], 0), (.bipush 8, [], 0), (.imul, [], 0), (.iload 6, [], 0), (.iadd, [], 0), (.iaload, [], 0), (.imul, [], 0), (.iadd, [], 0), (.istore 7, [], 0), (.aload_n 0, [], 0), (.getfield 15, [2, 1], 0), (.getfield 36, [0, 8], 0), (.iload_n 2, [], 0), (.bipush 8, [], 0), (.imul, [], 0), (.iload 6, [], 0), (.iadd, [], 0), (.iaload, [], 0), (.iload 4, [], 0), (.aload_n 0, [], 0), (.getfield 9, [2, 0], 0), (.getfield 39, [8, 2], 0), (.iload_n 3, [], 0), (.bipush 8, [], 0), (.imul, [], 0), (.iload 6, [], 0), (.iadd, [], 0), (.iaload, [], 0), (.imul, [], 0), (.iadd, [], 0), (.istore 8, [], 0), (.aload_n 0, [], 0), (.getfield 19, [2, 2], 0), (.iload_n 1, [], 0), (.iload 6, [], 0), (.iload 7, [], 0), (.invokevirtual 40, [77, 4, 1], 4), (.ifCond .ne 39, [2], 0), (.aload_n 0, [], 0), (.getfield 19, [2, 2], 0), (.iload_n 1, [], 0), (.iload 6, [], 0), (.iload 8, [], 0), (.invokevirtual 46, [78, 4, 1], 4), (.ifCond .eq 26, [3], 0), (.aload_n 0, [], 0), (.getfield 9, [2, 0], 0), (.aload_n 0, [], 0), (.getfield 19, [2, 2], 0), (.getfield 49, [1, 1], 0), (.iload_n 1, [], 0), (.iaload, [], 0), (.iload 6, [], 0), (.invokevirtual 52, [72, 3, 8], 3), (.ifCond .ne 5, [3], 0), (.nop, [2], 0)],
  [(.iconst 0, [], 0), (.ireturn, [1], 0)],
  [(.iinc 6 1, [], 0), (.goto (-135), [1], 0)],
  [(.iconst 1, [], 0), (.ireturn, [1], 0)]]
def am_s76 : List Nat := [0, 3, 133, 135, 141]
/-- WashLine$Line.isAbove(III)Z -/
def am_b77 : List (List am_I) := [[(.aload_n 0, [], 0), (.getfield 22, [1, 3], 0), (.iload_n 1, [], 0), (.bipush 8, [], 0), (.imul, [], 0), (.iload_n 2, [], 0), (.iadd, [], 0), (.iaload, [], 0), (.aload_n 0, [], 0), (.getfield 19, [1, 2], 0), (.iload_n 1, [], 0), (.iaload, [], 0), (.isub, [], 0), (.iload_n 3, [], 0), (.if_icmp .le 7, [1], 0), (.iconst 1, [], 0), (.goto 4, [2], 0)],
  [(.iconst 0, [], 0), (.nop, [2], 0)],
  [(.ireturn, [1], 0)]]
def am_s77 : List Nat := [0, 26, 27]
/-- WashLine$Line.isBelow(III)Z -/
def am_b78 : List (List am_I) := [[(.aload_n 0, [], 0), (.getfield 22, [1, 3], 0), (.iload_n 1, [], 0), (.bipush 8, [], 0), (.imul, [], 0), (.iload_n 2, [], 0), (.iadd, [], 0), (.iaload, [], 0), (.aload_n 0, [], 0), (.getfield 19, [1, 2], 0), (.iload_n 1, [], 0), (.iaload, [], 0), (.iadd, [], 0), (.iload_n 3, [], 0), (.if_icmp .ge 7, [1], 0), (.iconst 1, [], 0), (.goto 4, [2], 0)],
  [(.iconst 0, [], 0), (.nop, [2], 0)],
  [(.ireturn, [1], 0)]]
def am_s78 : List Nat := [0, 26, 27]
/-- WashLine$Looks.explainIll(II)I -/
def am_b79 : List (List am_I) := [[(.iconst 0, [], 0), (.istore_n 3, [], 0), (.nop, [1], 0)],
  [(.iload_n 3, [], 0), (.aload_n 0, [], 0), (.getfield 9, [2, 0], 0), (.getfield 66, [8, 0], 0), (.if_icmp .ge 43, [3], 0), (.aload_n 0, [], 0), (.getfield 15, [2, 1], 0), (.getfield 70, [0, 4], 0), (.iload_n 2, [], 0), (.bipush 6, [], 0), (.imul, [], 0), (.iload_n 3, [], 0), (.iadd, [], 0), (.iaload, [], 0), (.ifCond .le 20, [2], 0), (.aload_n 0, [], 0), (.iload_n 1, [], 0), (.iload_n 2, [], 0), (.iload_n 3, [], 0), (.iconst (-1), [], 0), (.iconst 0, [], 0), (.invokevirtual 23, [76, 6, 2], 6), (.ifCond .eq 8, [2], 0), (.bipush 10, [], 0), (.iload_n 3, [], 0), (.iadd, [], 0), (.ireturn, [0], 0)],
  [(.iinc 3 1, [], 0), (.goto (-48), [1], 0)],
  [(.bipush (-9), [], 0), (.ireturn, [0], 0)]]
def am_s79 : List Nat := [0, 2, 47, 53]
/-- WashLine$Looks.explainGuest(II)I -/
def am_b80 : List (List am_I) := [[(.iconst 0, [], 0), (.istore_n 3, [], 0), (.nop, [1], 0)],
  [(.iload_n 3, [], 0), (.aload_n 0, [], 0), (.getfield 9, [2, 0], 0), (.getfield 66, [8, 0], 0), (.if_icmp .ge 26, [3], 0), (.aload_n 0, [], 0), (.iload_n 1, [], 0), (.iload_n 2, [], 0), (.iload_n 3, [], 0), (.iconst 1, [], 0), (.iconst 1, [], 0), (.invokevirtual 23, [76, 6, 2], 6), (.ifCond .eq 8, [2], 0), (.bipush 20, [], 0), (.iload_n 3, [], 0), (.iadd, [], 0), (.ireturn, [0], 0)],
  [(.iinc 3 1, [], 0), (.goto (-31), [1], 0)],
  [(.bipush (-9), [], 0), (.ireturn, [0], 0)]]
def am_s80 : List Nat := [0, 2, 30, 36]
/-- WashLine$Looks.priceOf(I)I -/
def am_b81 : List (List am_I) := [[(.iload_n 1, [], 0), (.bipush 10, [], 0), (.if_icmp .ge 5, [1], 0), (.iconst 0, [], 0), (.ireturn, [0], 0)],
  [(.aload_n 0, [], 0), (.getfield 9, [2, 0], 0), (.getfield 73, [8, 5], 0), (.iload_n 1, [], 0), (.bipush 20, [], 0), (.if_icmp .ge 7, [2], 0), (.iconst 3, [], 0), (.goto 4, [3], 0)],
  [(.iconst 4, [], 0), (.nop, [3], 0)],
  [(.iaload, [], 0), (.ireturn, [0], 0)]]
def am_s81 : List Nat := [0, 8, 25, 26]
/-- WashLine.lacks(II)I -/
def am_b82 : List (List am_I) := [[(.aload_n 0, [], 0), (.getfield 37, [9, 4], 0), (.iload_n 2, [], 0), (.invokevirtual 222, [13, 2, 0], 2), (.istore_n 3, [], 0), (.iload_n 3, [], 0), (.ifCond .lt 11, [1], 0), (.aload_n 0, [], 0), (.iload_n 1, [], 0), (.invokevirtual 213, [66, 2, 9], 2), (.ifCond .ne 5, [2], 0), (.nop, [1], 0)],
  [(.iconst (-1), [], 0), (.ireturn, [0], 0)],
  [(.aload_n 0, [], 0), (.aload_n 0, [], 0), (.getfield 53, [9, 6], 0), (.iload_n 1, [], 0), (.iload_n 3, [], 0), (.invokevirtual 236, [83, 3, 2], 3), (.aload_n 0, [], 0), (.getfield 53, [9, 6], 0), (.iload_n 1, [], 0), (.iload_n 3, [], 0), (.invokevirtual 239, [84, 3, 2], 3), (.invokevirtual 131, [30, 3, 9], 3), (.ireturn, [0], 0)]]
def am_s82 : List Nat := [0, 21, 23]
/-- WashLine$Looks.tooMuch(II)I -/
def am_b83 : List (List am_I) := [[(.iconst 0, [], 0), (.istore_n 3, [], 0), (.iconst 0, [], 0), (.istore 4, [], 0), (.nop, [1], 0)],
  [(.iload 4, [], 0), (.bipush 8, [], 0), (.if_icmp .ge 44, [3], 0), (.aload_n 0, [], 0), (.getfield 19, [2, 2], 0), (.iload_n 1, [], 0), (.iload 4, [], 0), (.aload_n 0, [], 0), (.getfield 15, [2, 1], 0), (.getfield 27, [0, 9], 0), (.iload_n 2, [], 0), (.bipush 8, [], 0), (.imul, [], 0), (.iload 4, [], 0), (.iadd, [], 0), (.iaload, [], 0), (.invokevirtual 40, [77, 4, 1], 4), (.ifCond .eq 10, [2], 0), (.iload_n 3, [], 0), (.iconst 1, [], 0), (.iload 4, [], 0), (.ishl, [], 0), (.ior, [], 0), (.istore_n 3, [], 0), (.nop, [2], 0)],
  [(.iinc 4 1, [], 0), (.goto (-45), [1], 0)],
  [(.iload_n 3, [], 0), (.ireturn, [0], 0)]]
def am_s83 : List Nat := [0, 5, 47, 53]
/-- WashLine$Looks.tooLittle(II)I -/
def am_b84 : List (List am_I) := [[(.iconst 0, [], 0), (.istore_n 3, [], 0), (.iconst 0, [], 0), (.istore 4, [], 0), (.nop, [1], 0)],
  [(.iload 4, [], 0), (.bipush 8, [], 0), (.if_icmp .ge 48, [3], 0), (.aload_n 0, [], 0), (.getfield 19, [2, 2], 0), (.iload_n 1, [], 0), (.iload 4, [], 0), (.aload_n 0, [], 0), (.getfield 15, [2, 1], 0), (.iload_n 2, [], 0), (.aload_n 0, [], 0), (.getfield 19, [2, 2], 0), (.getfield 49, [1, 1], 0), (.iload_n 1, [], 0), (.iaload, [], 0), (.iload 4, [], 0), (.invokevirtual 86, [71, 4, 0], 4), (.invokevirtual 46, [78, 4, 1], 4), (.ifCond .eq 10, [2], 0), (.iload_n 3, [], 0), (.iconst 1, [], 0), (.iload 4, [], 0), (.ishl, [], 0), (.ior, [], 0), (.istore_n 3, [], 0), (.nop, [2], 0)],
  [(.iinc 4 1, [], 0), (.goto (-49), [1], 0)],
  [(.iload_n 3, [], 0), (.ireturn, [0], 0)]]
def am_s84 : List Nat := [0, 5, 51, 57]
/-- WashLine.fewest(I)I -/
def am_b85 : List (List am_I) := [[(.aload_n 0, [], 0), (.iload_n 1, [], 0), (.invokevirtual 213, [66, 2, 9], 2), (.ifCond .ne 5, [1], 0), (.iconst (-1), [], 0), (.ireturn, [0], 0)],
  [(.aload_n 0, [], 0), (.getfield 53, [9, 6], 0), (.iload_n 1, [], 0), (.invokevirtual 242, [86, 2, 2], 2), (.istore_n 2, [], 0), (.iload_n 2, [], 0), (.ifCond .ge 8, [2], 0), (.bipush (-9), [], 0), (.goto 25, [3], 0)],
  [(.aload_n 0, [], 0), (.aload_n 0, [], 0), (.getfield 37, [9, 4], 0), (.getfield 245, [0, 2], 0), (.iload_n 2, [], 0), (.iaload, [], 0), (.aload_n 0, [], 0), (.getfield 37, [9, 4], 0), (.getfield 248, [0, 3], 0), (.iload_n 2, [], 0), (.iaload, [], 0), (.invokevirtual 131, [30, 3, 9], 3), (.nop, [3], 0)],
  [(.ireturn, [0], 0)]]
def am_s85 : List Nat := [0, 10, 28, 50]
/-- WashLine$Looks.smallest(I)I -/
def am_b86 : List (List am_I) := [[(.iconst (-1), [], 0), (.istore_n 2, [], 0), (.iconst 0, [], 0), (.istore_n 3, [], 0), (.nop, [1], 0)],
  [(.iload_n 3, [], 0), (.aload_n 0, [], 0), (.getfield 15, [2, 1], 0), (.getfield 76, [0, 1], 0), (.if_icmp .ge 45, [4], 0), (.iload_n 2, [], 0), (.ifCond .lt 24, [2], 0), (.aload_n 0, [], 0), (.getfield 15, [2, 1], 0), (.getfield 90, [0, 3], 0), (.iload_n 3, [], 0), (.iaload, [], 0), (.aload_n 0, [], 0), (.getfield 15, [2, 1], 0), (.getfield 90, [0, 3], 0), (.iload_n 2, [], 0), (.iaload, [], 0), (.if_icmp .ge 14, [3], 0), (.nop, [2], 0)],
  [(.aload_n 0, [], 0), (.iload_n 1, [], 0), (.iload_n 3, [], 0), (.invokevirtual 56, [75, 3, 2], 3), (.ifCond .eq 5, [3], 0), (.iload_n 3, [], 0), (.istore_n 2, [], 0), (.nop, [3], 0)],
  [(.iinc 3 1, [], 0), (.goto (-50), [1], 0)],
  [(.iload_n 2, [], 0), (.ireturn, [0], 0)]]
def am_s86 : List Nat := [0, 4, 40, 51, 57]
/-- WashLine.bound(I)I -/
def am_b87 : List (List am_I) := [[(.aload_n 0, [], 0), (.iload_n 1, [], 0), (.invokevirtual 213, [66, 2, 9], 2), (.ifCond .eq 14, [1], 0), (.aload_n 0, [], 0), (.getfield 53, [9, 6], 0), (.iload_n 1, [], 0), (.invokevirtual 251, [88, 2, 2], 2), (.goto 4, [2], 0)],
  [(.iconst (-1), [], 0), (.nop, [2], 0)],
  [(.ireturn, [0], 0)]]
def am_s87 : List Nat := [0, 19, 20]
/-- WashLine$Looks.peopleByThings(I)I -/
def am_b88 : List (List am_I) := [[(.iconst 0, [], 0), (.istore_n 2, [], 0), (.iconst 0, [], 0), (.istore_n 3, [], 0), (.nop, [1], 0)],
  [(.iload_n 3, [], 0), (.bipush 8, [], 0), (.if_icmp .ge 75, [4], 0), (.aload_n 0, [], 0), (.getfield 19, [2, 2], 0), (.getfield 93, [1, 3], 0), (.iload_n 1, [], 0), (.bipush 8, [], 0), (.imul, [], 0), (.iload_n 3, [], 0), (.iadd, [], 0), (.iaload, [], 0), (.aload_n 0, [], 0), (.getfield 19, [2, 2], 0), (.getfield 96, [1, 2], 0), (.iload_n 1, [], 0), (.iaload, [], 0), (.isub, [], 0), (.istore 4, [], 0), (.aload_n 0, [], 0), (.iload_n 3, [], 0), (.invokevirtual 99, [89, 2, 2], 2), (.istore 5, [], 0), (.iload 4, [], 0), (.ifCond .le 11, [2], 0), (.iload 5, [], 0), (.ifCond .gt 6, [2], 0), (.bipush (-9), [], 0), (.ireturn, [0], 0)],
  [(.iload 4, [], 0), (.ifCond .le 18, [3], 0), (.iload_n 2, [], 0), (.iload 4, [], 0), (.iload 5, [], 0), (.iadd, [], 0), (.iconst 1, [], 0), (.isub, [], 0), (.iload 5, [], 0), (.idiv, [], 0), (.invokestatic 102, [0], 0), (.istore_n 2, [], 0), (.nop, [3], 0)],
  [(.iinc 3 1, [], 0), (.goto (-75), [1], 0)],
  [(.iload_n 2, [], 0), (.ireturn, [0], 0)]]
def am_s88 : List Nat := [0, 4, 56, 76, 82]
/-- WashLine$Looks.mostOfAny(I)I -/
def am_b89 : List (List am_I) := [[(.iconst 0, [], 0), (.istore_n 2, [], 0), (.iconst 0, [], 0), (.istore_n 3, [], 0), (.nop, [1], 0)],
  [(.iload_n 3, [], 0), (.aload_n 0, [], 0), (.getfield 9, [2, 0], 0), (.getfield 66, [8, 0], 0), (.if_icmp .ge 28, [2], 0), (.iload_n 2, [], 0), (.aload_n 0, [], 0), (.getfield 9, [2, 0], 0), (.getfield 33, [8, 3], 0), (.iload_n 3, [], 0), (.bipush 8, [], 0), (.imul, [], 0), (.iload_n 1, [], 0), (.iadd, [], 0), (.iaload, [], 0), (.invokestatic 102, [0], 0), (.istore_n 2, [], 0), (.iinc 3 1, [], 0), (.goto (-33), [1], 0)],
  [(.iload_n 2, [], 0), (.ireturn, [0], 0)]]
def am_s89 : List Nat := [0, 4, 40]
/-- WashLine.many(II)I -/
def am_b90 : List (List am_I) := [[(.aload_n 0, [], 0), (.iload_n 1, [], 0), (.invokevirtual 213, [66, 2, 9], 2), (.ifCond .eq 12, [1], 0), (.iload_n 2, [], 0), (.bipush 9, [], 0), (.invokestatic 197, [23, 2], 2), (.ifCond .ne 5, [2], 0), (.nop, [1], 0)],
  [(.iconst (-1), [], 0), (.ireturn, [0], 0)],
  [(.aload_n 0, [], 0), (.getfield 53, [9, 6], 0), (.iload_n 1, [], 0), (.iload_n 2, [], 0), (.invokevirtual 254, [91, 3, 2], 3), (.ireturn, [0], 0)]]
def am_s90 : List Nat := [0, 17, 19]
/-- WashLine$Looks.explained(II)I -/
def am_b91 : List (List am_I) := [[(.iconst 0, [], 0), (.istore_n 3, [], 0), (.iconst 0, [], 0), (.istore 4, [], 0), (.nop, [1], 0)],
  [(.iload 4, [], 0), (.aload_n 0, [], 0), (.getfield 15, [2, 1], 0), (.getfield 76, [0, 1], 0), (.if_icmp .ge 38, [3], 0), (.aload_n 0, [], 0), (.iload_n 1, [], 0), (.iload 4, [], 0), (.invokevirtual 79, [74, 3, 2], 3), (.istore 5, [], 0), (.iload 5, [], 0), (.bipush (-9), [], 0), (.if_icmp .eq 16, [2], 0), (.aload_n 0, [], 0), (.iload 5, [], 0), (.invokevirtual 82, [81, 2, 2], 2), (.iload_n 2, [], 0), (.if_icmp .gt 6, [2], 0), (.iinc 3 1, [], 0), (.nop, [2], 0)],
  [(.iinc 4 1, [], 0), (.goto (-44), [1], 0)],
  [(.iload_n 3, [], 0), (.ireturn, [0], 0)]]
def am_s91 : List Nat := [0, 5, 46, 52]
/-- WashLine.step(II)I -/
def am_b92 : List (List am_I) := [[(.aload_n 0, [], 0), (.getfield 37, [9, 4], 0), (.iload_n 1, [], 0), (.invokevirtual 222, [13, 2, 0], 2), (.istore_n 3, [], 0), (.aload_n 0, [], 0), (.getfield 37, [9, 4], 0), (.iload_n 2, [], 0), (.invokevirtual 222, [13, 2, 0], 2), (.istore 4, [], 0), (.iload_n 3, [], 0), (.ifCond .lt 8, [1], 0), (.iload 4, [], 0), (.ifCond .ge 5, [2], 0), (.nop, [1], 0)],
  [(.iconst (-1), [], 0), (.ireturn, [0], 0)],
  [(.aload_n 0, [], 0), (.getfield 62, [9, 7], 0), (.iload_n 3, [], 0), (.invokevirtual 257, [93, 2, 4], 2), (.aload_n 0, [], 0), (.getfield 62, [9, 7], 0), (.iload_n 3, [], 0), (.iload 4, [], 0), (.invokevirtual 260, [100, 3, 4], 3), (.ireturn, [0], 0)]]
def am_s92 : List Nat := [0, 28, 30]
/-- WashLine$Steps.know(I)V -/
def am_b93 : List (List am_I) := [[(.aload_n 0, [], 0), (.getfield 19, [4, 4], 0), (.iload_n 1, [], 0), (.baload, [], 0), (.ifCond .eq 4, [1], 0), (.return_, [], 0)],
  [(.aload_n 0, [], 0), (.getfield 27, [4, 1], 0), (.getfield 31, [0, 1], 0), (.istore_n 2, [], 0), (.aload_n 0, [], 0), (.getfield 15, [4, 3], 0), (.arraylength, [], 0), (.iload_n 2, [], 0), (.iload_n 2, [], 0), (.imul, [], 0), (.if_icmp .ge 12, [2], 0), (.aload_n 0, [], 0), (.iload_n 2, [], 0), (.iload_n 2, [], 0), (.imul, [], 0), (.newarray .byte, [], 0), (.putfield 15, [4, 3], 0), (.nop, [2], 0)],
  [(.aload_n 0, [], 0), (.getfield 9, [4, 2], 0), (.ldc 37, [], 1000000), (.invokestatic 38, [4, 2], 2), (.aload_n 0, [], 0), (.getfield 9, [4, 2], 0), (.iload_n 1, [], 0), (.iconst 0, [], 0), (.iastore, [], 0), (.aload_n 0, [], 0), (.aload_n 0, [], 0), (.getfield 9, [4, 2], 0), (.invokevirtual 44, [94, 2, 4], 2), (.iconst 0, [], 0), (.istore_n 3, [], 0), (.nop, [3], 0)],
  [(.iload_n 3, [], 0), (.iload_n 2, [], 0), (.if_icmp .ge 26, [4], 0), (.aload_n 0, [], 0), (.getfield 15, [4, 3], 0), (.iload_n 1, [], 0), (.iload_n 2, [], 0), (.imul, [], 0), (.iload_n 3, [], 0), (.iadd, [], 0), (.aload_n 0, [], 0), (.getfield 9, [4, 2], 0), (.iload_n 3, [], 0), (.iaload, [], 0), (.i2b, [], 0), (.bastore, [], 0), (.iinc 3 1, [], 0), (.goto (-25), [3], 0)],
  [(.aload_n 0, [], 0), (.getfield 19, [4, 4], 0), (.iload_n 1, [], 0), (.iconst 1, [], 0), (.bastore, [], 0), (.return_, [], 0)]]
def am_s93 : List Nat := [0, 10, 38, 64, 92]
/-- WashLine$Steps.spread([I)V -/
def am_b94 : List (List am_I) := [[(.aload_n 0, [], 0), (.aload_n 1, [], 0), (.aload_n 0, [], 0), (.getfield 23, [4, 0], 0), (.getfield 48, [8, 5], 0), (.iconst 1, [], 0), (.iaload, [], 0), (.invokevirtual 53, [95, 3, 4], 3), (.aload_n 0, [], 0), (.aload_n 1, [], 0), (.invokevirtual 56, [97, 2, 4], 2), (.aload_n 0, [], 0), (.aload_n 1, [], 0), (.aload_n 0, [], 0), (.getfield 23, [4, 0], 0), (.getfield 48, [8, 5], 0), (.iconst 0, [], 0), (.iaload, [], 0), (.invokevirtual 59, [99, 3, 4], 3), (.return_, [], 0)]]
def am_s94 : List Nat := [0]
/-- WashLine$Steps.fromMore([II)V -/
def am_b95 : List (List am_I) := [[(.aload_n 0, [], 0), (.getfield 27, [4, 1], 0), (.getfield 31, [0, 1], 0), (.iconst 1, [], 0), (.isub, [], 0), (.istore_n 3, [], 0), (.nop, [1], 0)],
  [(.iload_n 3, [], 0), (.ifCond .lt 26, [2], 0), (.aload_n 1, [], 0), (.iload_n 3, [], 0), (.aload_n 0, [], 0), (.aload_n 1, [], 0), (.aload_n 0, [], 0), (.getfield 27, [4, 1], 0), (.getfield 65, [0, 5], 0), (.iload_n 3, [], 0), (.iload_n 2, [], 0), (.invokevirtual 68, [96, 5, 4], 5), (.iastore, [], 0), (.iinc 3 (-1), [], 0), (.goto (-24), [1], 0)],
  [(.return_, [], 0)]]
def am_s95 : List Nat := [0, 10, 37]
/-- WashLine$Steps.leastOf([I[III)I -/
def am_b96 : List (List am_I) := [[(.aload_n 1, [], 0), (.iload_n 3, [], 0), (.iaload, [], 0), (.istore 5, [], 0), (.iload_n 3, [], 0), (.bipush 6, [], 0), (.imul, [], 0), (.istore 6, [], 0), (.nop, [1], 0)],
  [(.iload 6, [], 0), (.iload_n 3, [], 0), (.bipush 6, [], 0), (.imul, [], 0), (.aload_n 0, [], 0), (.getfield 23, [4, 0], 0), (.getfield 75, [8, 0], 0), (.iadd, [], 0), (.if_icmp .ge 41, [3], 0), (.aload_n 2, [], 0), (.iload 6, [], 0), (.iaload, [], 0), (.ifCond .lt 28, [2], 0), (.aload_n 1, [], 0), (.aload_n 2, [], 0), (.iload 6, [], 0), (.iaload, [], 0), (.iaload, [], 0), (.iload 4, [], 0), (.iadd, [], 0), (.iload 5, [], 0), (.if_icmp .ge 14, [2], 0), (.aload_n 1, [], 0), (.aload_n 2, [], 0), (.iload 6, [], 0), (.iaload, [], 0), (.iaload, [], 0), (.iload 4, [], 0), (.iadd, [], 0), (.istore 5, [], 0), (.nop, [2], 0)],
  [(.iinc 6 1, [], 0), (.goto (-52), [1], 0)],
  [(.iload 5, [], 0), (.ireturn, [0], 0)]]
def am_s96 : List Nat := [0, 11, 60, 66]
/-- WashLine$Steps.grow([I)V -/
def am_b97 : List (List am_I) := [[(.iconst 1, [], 0), (.istore_n 2, [], 0), (.iconst 0, [], 0), (.istore_n 3, [], 0), (.nop, [1], 0)],
  [(.iload_n 2, [], 0), (.ifCond .eq 50, [5], 0), (.iload_n 3, [], 0), (.bipush 64, [], 0), (.if_icmp .ge 44, [5], 0), (.iconst 0, [], 0), (.istore_n 2, [], 0), (.iconst 0, [], 0), (.istore 4, [], 0), (.nop, [2], 0)],
  [(.iload 4, [], 0), (.aload_n 0, [], 0), (.getfield 27, [4, 1], 0), (.getfield 31, [0, 1], 0), (.if_icmp .ge 21, [4], 0), (.aload_n 0, [], 0), (.aload_n 1, [], 0), (.iload 4, [], 0), (.invokevirtual 78, [98, 3, 4], 3), (.ifCond .eq 5, [3], 0), (.iconst 1, [], 0), (.istore_n 2, [], 0), (.nop, [3], 0)],
  [(.iinc 4 1, [], 0), (.goto (-27), [2], 0)],
  [(.iinc 3 1, [], 0), (.goto (-48), [1], 0)],
  [(.return_, [], 0)]]
def am_s97 : List Nat := [0, 4, 19, 43, 49, 55]
/-- WashLine$Steps.growOne([II)Z -/
def am_b98 : List (List am_I) := [[(.aload_n 1, [], 0), (.iload_n 2, [], 0), (.iaload, [], 0), (.aload_n 0, [], 0), (.getfield 23, [4, 0], 0), (.getfield 48, [8, 5], 0), (.iconst 2, [], 0), (.iaload, [], 0), (.iadd, [], 0), (.istore_n 3, [], 0), (.iconst 0, [], 0), (.istore 4, [], 0), (.iload_n 2, [], 0), (.bipush 6, [], 0), (.imul, [], 0), (.istore 5, [], 0), (.nop, [1], 0)],
  [(.iload 5, [], 0), (.iload_n 2, [], 0), (.bipush 6, [], 0), (.imul, [], 0), (.aload_n 0, [], 0), (.getfield 23, [4, 0], 0), (.getfield 75, [8, 0], 0), (.iadd, [], 0), (.if_icmp .ge 54, [3], 0), (.aload_n 0, [], 0), (.getfield 27, [4, 1], 0), (.getfield 82, [0, 7], 0), (.iload 5, [], 0), (.iaload, [], 0), (.ifCond .lt 35, [2], 0), (.iload_n 3, [], 0), (.aload_n 1, [], 0), (.aload_n 0, [], 0), (.getfield 27, [4, 1], 0), (.getfield 82, [0, 7], 0), (.iload 5, [], 0), (.iaload, [], 0), (.iaload, [], 0), (.if_icmp .ge 19, [2], 0), (.aload_n 1, [], 0), (.aload_n 0, [], 0), (.getfield 27, [4, 1], 0), (.getfield 82, [0, 7], 0), (.iload 5, [], 0), (.iaload, [], 0), (.iload_n 3, [], 0), (.iastore, [], 0), (.iconst 1, [], 0), (.istore 4, [], 0), (.nop, [2], 0)],
  [(.iinc 5 1, [], 0), (.goto (-65), [1], 0)],
  [(.iload 4, [], 0), (.ireturn, [1], 0)]]
def am_s98 : List Nat := [0, 23, 85, 91]
/-- WashLine$Steps.fromLess([II)V -/
def am_b99 : List (List am_I) := [[(.iconst 0, [], 0), (.istore_n 3, [], 0), (.nop, [1], 0)],
  [(.iload_n 3, [], 0), (.aload_n 0, [], 0), (.getfield 27, [4, 1], 0), (.getfield 31, [0, 1], 0), (.if_icmp .ge 26, [2], 0), (.aload_n 1, [], 0), (.iload_n 3, [], 0), (.aload_n 0, [], 0), (.aload_n 1, [], 0), (.aload_n 0, [], 0), (.getfield 27, [4, 1], 0), (.getfield 72, [0, 6], 0), (.iload_n 3, [], 0), (.iload_n 2, [], 0), (.invokevirtual 68, [96, 5, 4], 5), (.iastore, [], 0), (.iinc 3 1, [], 0), (.goto (-31), [1], 0)],
  [(.return_, [], 0)]]
def am_s99 : List Nat := [0, 2, 36]
/-- WashLine$Steps.between(II)I -/
def am_b100 : List (List am_I) := [[(.aload_n 0, [], 0), (.getfield 15, [4, 3], 0), (.iload_n 1, [], 0), (.aload_n 0, [], 0), (.getfield 27, [4, 1], 0), (.getfield 31, [0, 1], 0), (.imul, [], 0), (.iload_n 2, [], 0), (.iadd, [], 0), (.baload, [], 0), (.ireturn, [0], 0)]]
def am_s100 : List Nat := [0]
/-- WashLine.plain()I -/
def am_b101 : List (List am_I) := [[(.aload_n 0, [], 0), (.getfield 71, [9, 8], 0), (.invokevirtual 263, [102, 1, 7], 1), (.aload_n 0, [], 0), (.getfield 71, [9, 8], 0), (.invokevirtual 266, [106, 1, 7], 1), (.ifCond .eq 13, [1], 0), (.aload_n 0, [], 0), (.getfield 71, [9, 8], 0), (.getfield 269, [7, 6], 0), (.goto 5, [2], 0)],
  [(.bipush (-9), [], 0), (.nop, [2], 0)],
  [(.ireturn, [0], 0)]]
def am_s101 : List Nat := [0, 27, 29]
/-- WashLine$Winter.weigh()V -/
def am_b102 : List (List am_I) := [[(.aload_n 0, [], 0), (.getfield 9, [7, 4], 0), (.ifCond .eq 4, [1], 0), (.return_, [], 0)],
  [(.aload_n 0, [], 0), (.iconst 1, [], 0), (.putfield 9, [7, 4], 0), (.iconst 0, [], 0), (.istore_n 1, [], 0), (.nop, [2], 0)],
  [(.iload_n 1, [], 0), (.aload_n 0, [], 0), (.getfield 62, [7, 1], 0), (.getfield 75, [1, 0], 0), (.if_icmp .ge 14, [3], 0), (.aload_n 0, [], 0), (.iload_n 1, [], 0), (.invokevirtual 80, [103, 2, 7], 2), (.iinc 1 1, [], 0), (.goto (-19), [2], 0)],
  [(.aload_n 0, [], 0), (.aload_n 0, [], 0), (.invokevirtual 84, [104, 1, 7], 1), (.putfield 18, [7, 6], 0), (.aload_n 0, [], 0), (.invokevirtual 88, [106, 1, 7], 1), (.ifCond .eq 35, [6], 0), (.aload_n 0, [], 0), (.invokevirtual 92, [107, 1, 7], 1), (.iconst 0, [], 0), (.istore_n 1, [], 0), (.nop, [4], 0)],
  [(.iload_n 1, [], 0), (.aload_n 0, [], 0), (.getfield 62, [7, 1], 0), (.getfield 75, [1, 0], 0), (.if_icmp .ge 14, [5], 0), (.aload_n 0, [], 0), (.iload_n 1, [], 0), (.invokevirtual 95, [110, 2, 7], 2), (.iinc 1 1, [], 0), (.goto (-19), [4], 0)],
  [(.aload_n 0, [], 0), (.invokevirtual 98, [112, 1, 7], 1), (.nop, [6], 0)],
  [(.return_, [], 0)]]
def am_s102 : List Nat := [0, 8, 15, 37, 58, 80, 84]
/-- WashLine$Winter.setPrices(I)V -/
def am_b103 : List (List am_I) := [[(.iconst 0, [], 0), (.istore_n 2, [], 0), (.nop, [1], 0)],
  [(.iload_n 2, [], 0), (.aload_n 0, [], 0), (.getfield 58, [7, 0], 0), (.getfield 101, [0, 1], 0), (.if_icmp .ge 50, [4], 0), (.aload_n 0, [], 0), (.getfield 66, [7, 2], 0), (.iload_n 1, [], 0), (.iload_n 2, [], 0), (.invokevirtual 104, [74, 3, 2], 3), (.istore_n 3, [], 0), (.aload_n 0, [], 0), (.getfield 33, [7, 10], 0), (.iload_n 1, [], 0), (.sipush 462, [], 0), (.imul, [], 0), (.iload_n 2, [], 0), (.iadd, [], 0), (.iload_n 3, [], 0), (.bipush (-9), [], 0), (.if_icmp .ne 8, [2], 0), (.ldc 74, [], 1000000), (.goto 11, [3], 0)],
  [(.aload_n 0, [], 0), (.getfield 66, [7, 2], 0), (.iload_n 3, [], 0), (.invokevirtual 110, [81, 2, 2], 2), (.nop, [3], 0)],
  [(.iastore, [], 0), (.iinc 2 1, [], 0), (.goto (-55), [1], 0)],
  [(.return_, [], 0)]]
def am_s103 : List Nat := [0, 2, 45, 53, 60]
/-- WashLine$Winter.goAhead()I -/
def am_b104 : List (List am_I) := [[(.aload_n 0, [], 0), (.getfield 30, [7, 9], 0), (.ldc 74, [], 1000000), (.invokestatic 114, [4, 2], 2), (.aload_n 0, [], 0), (.getfield 30, [7, 9], 0), (.iconst 0, [], 0), (.iconst 0, [], 0), (.iastore, [], 0), (.iconst 0, [], 0), (.istore_n 1, [], 0), (.nop, [1], 0)],
  [(.iload_n 1, [], 0), (.aload_n 0, [], 0), (.getfield 62, [7, 1], 0), (.getfield 75, [1, 0], 0), (.if_icmp .ge 45, [2], 0), (.aload_n 0, [], 0), (.getfield 70, [7, 3], 0), (.aload_n 0, [], 0), (.getfield 30, [7, 9], 0), (.invokevirtual 120, [94, 2, 4], 2), (.aload_n 0, [], 0), (.iload_n 1, [], 0), (.invokevirtual 126, [105, 2, 7], 2), (.aload_n 0, [], 0), (.getfield 30, [7, 9], 0), (.iconst 0, [], 0), (.aload_n 0, [], 0), (.getfield 36, [7, 11], 0), (.iload_n 1, [], 0), (.sipush 462, [], 0), (.imul, [], 0), (.sipush 462, [], 0), (.invokestatic 128, [], 0), (.iinc 1 1, [], 0), (.goto (-50), [1], 0)],
  [(.ldc 74, [], 1000000), (.istore_n 1, [], 0), (.iconst 0, [], 0), (.istore_n 2, [], 0), (.nop, [3], 0)],
  [(.iload_n 2, [], 0), (.aload_n 0, [], 0), (.getfield 58, [7, 0], 0), (.getfield 101, [0, 1], 0), (.if_icmp .ge 20, [4], 0), (.iload_n 1, [], 0), (.aload_n 0, [], 0), (.getfield 30, [7, 9], 0), (.iload_n 2, [], 0), (.iaload, [], 0), (.invokestatic 134, [1], 0), (.istore_n 1, [], 0), (.iinc 2 1, [], 0), (.goto (-25), [3], 0)],
  [(.iload_n 1, [], 0), (.ireturn, [0], 0)]]
def am_s104 : List Nat := [0, 18, 71, 76, 104]
/-- WashLine$Winter.explain(I)V -/
def am_b105 : List (List am_I) := [[(.iconst 0, [], 0), (.istore_n 2, [], 0), (.nop, [1], 0)],
  [(.iload_n 2, [], 0), (.aload_n 0, [], 0), (.getfield 58, [7, 0], 0), (.getfield 101, [0, 1], 0), (.if_icmp .ge 39, [2], 0), (.aload_n 0, [], 0), (.getfield 30, [7, 9], 0), (.iload_n 2, [], 0), (.ldc 74, [], 1000000), (.aload_n 0, [], 0), (.getfield 30, [7, 9], 0), (.iload_n 2, [], 0), (.iaload, [], 0), (.aload_n 0, [], 0), (.getfield 33, [7, 10], 0), (.iload_n 1, [], 0), (.sipush 462, [], 0), (.imul, [], 0), (.iload_n 2, [], 0), (.iadd, [], 0), (.iaload, [], 0), (.iadd, [], 0), (.invokestatic 134, [1], 0), (.iastore, [], 0), (.iinc 2 1, [], 0), (.goto (-44), [1], 0)],
  [(.return_, [], 0)]]
def am_s105 : List Nat := [0, 2, 49]
/-- WashLine$Winter.isTold()Z -/
def am_b106 : List (List am_I) := [[(.aload_n 0, [], 0), (.getfield 18, [7, 6], 0), (.ldc 74, [], 1000000), (.if_icmp .ge 7, [1], 0), (.iconst 1, [], 0), (.goto 4, [2], 0)],
  [(.iconst 0, [], 0), (.nop, [2], 0)],
  [(.ireturn, [1], 0)]]
def am_s106 : List Nat := [0, 13, 14]
/-- WashLine$Winter.goBack()V -/
def am_b107 : List (List am_I) := [[(.aload_n 0, [], 0), (.getfield 30, [7, 9], 0), (.iconst 0, [], 0), (.invokestatic 114, [4, 2], 2), (.aload_n 0, [], 0), (.getfield 62, [7, 1], 0), (.getfield 75, [1, 0], 0), (.iconst 1, [], 0), (.isub, [], 0), (.istore_n 1, [], 0), (.nop, [1], 0)],
  [(.iload_n 1, [], 0), (.ifCond .lt 45, [2], 0), (.aload_n 0, [], 0), (.getfield 30, [7, 9], 0), (.iconst 0, [], 0), (.aload_n 0, [], 0), (.getfield 39, [7, 12], 0), (.iload_n 1, [], 0), (.sipush 462, [], 0), (.imul, [], 0), (.sipush 462, [], 0), (.invokestatic 128, [], 0), (.aload_n 0, [], 0), (.iload_n 1, [], 0), (.invokevirtual 126, [105, 2, 7], 2), (.aload_n 0, [], 0), (.getfield 70, [7, 3], 0), (.aload_n 0, [], 0), (.getfield 30, [7, 9], 0), (.invokevirtual 139, [108, 2, 4], 2), (.iinc 1 (-1), [], 0), (.goto (-43), [1], 0)],
  [(.return_, [], 0)]]
def am_s107 : List Nat := [0, 18, 64]
/-- WashLine$Steps.gather([I)V -/
def am_b108 : List (List am_I) := [[(.aload_n 0, [], 0), (.aload_n 1, [], 0), (.aload_n 0, [], 0), (.getfield 23, [4, 0], 0), (.getfield 48, [8, 5], 0), (.iconst 0, [], 0), (.iaload, [], 0), (.invokevirtual 53, [95, 3, 4], 3), (.aload_n 0, [], 0), (.aload_n 1, [], 0), (.invokevirtual 62, [109, 2, 4], 2), (.aload_n 0, [], 0), (.aload_n 1, [], 0), (.aload_n 0, [], 0), (.getfield 23, [4, 0], 0), (.getfield 48, [8, 5], 0), (.iconst 1, [], 0), (.iaload, [], 0), (.invokevirtual 59, [99, 3, 4], 3), (.return_, [], 0)]]
def am_s108 : List Nat := [0]
/-- WashLine$Steps.growBack([I)V -/
def am_b109 : List (List am_I) := [[(.aload_n 0, [], 0), (.getfield 23, [4, 0], 0), (.getfield 48, [8, 5], 0), (.iconst 2, [], 0), (.iaload, [], 0), (.istore_n 2, [], 0), (.iconst 1, [], 0), (.istore_n 3, [], 0), (.iconst 0, [], 0), (.istore 4, [], 0), (.nop, [1], 0)],
  [(.iload_n 3, [], 0), (.ifCond .eq 74, [5], 0), (.iload 4, [], 0), (.bipush 64, [], 0), (.if_icmp .ge 67, [5], 0), (.iconst 0, [], 0), (.istore_n 3, [], 0), (.aload_n 0, [], 0), (.getfield 27, [4, 1], 0), (.getfield 31, [0, 1], 0), (.iconst 1, [], 0), (.isub, [], 0), (.istore 5, [], 0), (.nop, [2], 0)],
  [(.iload 5, [], 0), (.ifCond .lt 43, [4], 0), (.aload_n 0, [], 0), (.aload_n 1, [], 0), (.aload_n 0, [], 0), (.getfield 27, [4, 1], 0), (.getfield 82, [0, 7], 0), (.iload 5, [], 0), (.iload_n 2, [], 0), (.invokevirtual 68, [96, 5, 4], 5), (.istore 6, [], 0), (.iload 6, [], 0), (.aload_n 1, [], 0), (.iload 5, [], 0), (.iaload, [], 0), (.if_icmp .ge 11, [3], 0), (.aload_n 1, [], 0), (.iload 5, [], 0), (.iload 6, [], 0), (.iastore, [], 0), (.iconst 1, [], 0), (.istore_n 3, [], 0), (.nop, [3], 0)],
  [(.iinc 5 (-1), [], 0), (.goto (-42), [2], 0)],
  [(.iinc 4 1, [], 0), (.goto (-72), [1], 0)],
  [(.return_, [], 0)]]
def am_s109 : List Nat := [0, 15, 39, 78, 84, 90]
/-- WashLine$Winter.list(I)V -/
def am_b110 : List (List am_I) := [[(.iconst 0, [], 0), (.istore_n 2, [], 0), (.iconst 0, [], 0), (.istore_n 3, [], 0), (.nop, [1], 0)],
  [(.iload_n 3, [], 0), (.aload_n 0, [], 0), (.getfield 58, [7, 0], 0), (.getfield 101, [0, 1], 0), (.if_icmp .ge 38, [3], 0), (.aload_n 0, [], 0), (.iload_n 1, [], 0), (.iload_n 3, [], 0), (.invokevirtual 142, [111, 3, 7], 3), (.aload_n 0, [], 0), (.getfield 18, [7, 6], 0), (.if_icmp .ne 19, [2], 0), (.aload_n 0, [], 0), (.getfield 42, [7, 13], 0), (.iload_n 1, [], 0), (.sipush 462, [], 0), (.imul, [], 0), (.iload_n 2, [], 0), (.iadd, [], 0), (.iload_n 3, [], 0), (.iastore, [], 0), (.iinc 2 1, [], 0), (.nop, [2], 0)],
  [(.iinc 3 1, [], 0), (.goto (-43), [1], 0)],
  [(.aload_n 0, [], 0), (.getfield 45, [7, 14], 0), (.iload_n 1, [], 0), (.iload_n 2, [], 0), (.iastore, [], 0), (.return_, [], 0)]]
def am_s110 : List Nat := [0, 4, 44, 50]
/-- WashLine$Winter.costBy(II)I -/
def am_b111 : List (List am_I) := [[(.aload_n 0, [], 0), (.invokevirtual 88, [106, 1, 7], 1), (.ifCond .eq 31, [1], 0), (.aload_n 0, [], 0), (.getfield 36, [7, 11], 0), (.iload_n 1, [], 0), (.sipush 462, [], 0), (.imul, [], 0), (.iload_n 2, [], 0), (.iadd, [], 0), (.iaload, [], 0), (.aload_n 0, [], 0), (.getfield 39, [7, 12], 0), (.iload_n 1, [], 0), (.sipush 462, [], 0), (.imul, [], 0), (.iload_n 2, [], 0), (.iadd, [], 0), (.iaload, [], 0), (.iadd, [], 0), (.goto 5, [2], 0)],
  [(.ldc 74, [], 1000000), (.nop, [2], 0)],
  [(.ireturn, [0], 0)]]
def am_s111 : List Nat := [0, 35, 37]
/-- WashLine$Winter.findFirst()V -/
def am_b112 : List (List am_I) := [[(.iconst 0, [], 0), (.istore_n 1, [], 0), (.nop, [1], 0)],
  [(.iload_n 1, [], 0), (.aload_n 0, [], 0), (.getfield 62, [7, 1], 0), (.getfield 75, [1, 0], 0), (.if_icmp .ge 100, [7], 0), (.iconst 1, [], 0), (.istore_n 2, [], 0), (.iload_n 1, [], 0), (.ifCond .le 18, [2], 0), (.aload_n 0, [], 0), (.getfield 70, [7, 3], 0), (.aload_n 0, [], 0), (.getfield 26, [7, 8], 0), (.iload_n 1, [], 0), (.iconst 1, [], 0), (.isub, [], 0), (.iaload, [], 0), (.invokevirtual 145, [93, 2, 4], 2), (.nop, [2], 0)],
  [(.iconst 0, [], 0), (.istore_n 3, [], 0), (.nop, [3], 0)],
  [(.iload_n 2, [], 0), (.ifCond .eq 67, [6], 0), (.iload_n 3, [], 0), (.aload_n 0, [], 0), (.getfield 45, [7, 14], 0), (.iload_n 1, [], 0), (.iaload, [], 0), (.if_icmp .ge 57, [6], 0), (.aload_n 0, [], 0), (.getfield 42, [7, 13], 0), (.iload_n 1, [], 0), (.sipush 462, [], 0), (.imul, [], 0), (.iload_n 3, [], 0), (.iadd, [], 0), (.iaload, [], 0), (.istore 4, [], 0), (.iload_n 1, [], 0), (.ifCond .eq 23, [4], 0), (.aload_n 0, [], 0), (.iload_n 1, [], 0), (.iconst 1, [], 0), (.isub, [], 0), (.aload_n 0, [], 0), (.getfield 26, [7, 8], 0), (.iload_n 1, [], 0), (.iconst 1, [], 0), (.isub, [], 0), (.iaload, [], 0), (.iload 4, [], 0), (.invokevirtual 148, [113, 4, 7], 4), (.ifCond .eq 13, [5], 0), (.nop, [4], 0)],
  [(.aload_n 0, [], 0), (.getfield 26, [7, 8], 0), (.iload_n 1, [], 0), (.iload 4, [], 0), (.iastore, [], 0), (.iconst 0, [], 0), (.istore_n 2, [], 0), (.nop, [5], 0)],
  [(.iinc 3 1, [], 0), (.goto (-65), [3], 0)],
  [(.iinc 1 1, [], 0), (.goto (-105), [1], 0)],
  [(.return_, [], 0)]]
def am_s112 : List Nat := [0, 2, 34, 36, 88, 98, 104, 110]
/-- WashLine$Winter.follows(III)Z -/
def am_b113 : List (List am_I) := [[(.iload_n 1, [], 0), (.iconst 1, [], 0), (.iadd, [], 0), (.sipush 462, [], 0), (.imul, [], 0), (.iload_n 3, [], 0), (.iadd, [], 0), (.istore 4, [], 0), (.aload_n 0, [], 0), (.getfield 36, [7, 11], 0), (.iload_n 1, [], 0), (.sipush 462, [], 0), (.imul, [], 0), (.iload_n 2, [], 0), (.iadd, [], 0), (.iaload, [], 0), (.aload_n 0, [], 0), (.getfield 70, [7, 3], 0), (.iload_n 2, [], 0), (.iload_n 3, [], 0), (.invokevirtual 152, [100, 3, 4], 3), (.iadd, [], 0), (.aload_n 0, [], 0), (.getfield 33, [7, 10], 0), (.iload 4, [], 0), (.iaload, [], 0), (.iadd, [], 0), (.aload_n 0, [], 0), (.getfield 36, [7, 11], 0), (.iload 4, [], 0), (.iaload, [], 0), (.if_icmp .ne 7, [1], 0), (.iconst 1, [], 0), (.goto 4, [2], 0)],
  [(.iconst 0, [], 0), (.nop, [2], 0)],
  [(.ireturn, [1], 0)]]
def am_s113 : List Nat := [0, 55, 56]
/-- WashLine.tale(I)I -/
def am_b114 : List (List am_I) := [[(.iload_n 1, [], 0), (.invokestatic 108, [22, 1], 1), (.ifCond .ne 5, [1], 0), (.iconst (-1), [], 0), (.ireturn, [0], 0)],
  [(.aload_n 0, [], 0), (.getfield 71, [9, 8], 0), (.invokevirtual 263, [102, 1, 7], 1), (.aload_n 0, [], 0), (.getfield 71, [9, 8], 0), (.invokevirtual 266, [106, 1, 7], 1), (.ifCond .ne 9, [2], 0), (.aload_n 0, [], 0), (.iconst 4, [], 0), (.invokevirtual 112, [24, 2, 9], 2), (.ireturn, [0], 0)],
  [(.aload_n 0, [], 0), (.getfield 11, [9, 0], 0), (.iload_n 1, [], 0), (.aaload, [], 0), (.aload_n 0, [], 0), (.getfield 44, [9, 5], 0), (.getfield 170, [1, 0], 0), (.iconst 0, [], 0), (.invokevirtual 116, [25, 3, 6], 3), (.iconst 0, [], 0), (.istore_n 2, [], 0), (.nop, [3], 0)],
  [(.iload_n 2, [], 0), (.aload_n 0, [], 0), (.getfield 44, [9, 5], 0), (.getfield 170, [1, 0], 0), (.if_icmp .ge 37, [4], 0), (.aload_n 0, [], 0), (.getfield 11, [9, 0], 0), (.iload_n 1, [], 0), (.aaload, [], 0), (.getfield 134, [6, 0], 0), (.iload_n 2, [], 0), (.aload_n 0, [], 0), (.getfield 37, [9, 4], 0), (.getfield 245, [0, 2], 0), (.aload_n 0, [], 0), (.getfield 71, [9, 8], 0), (.getfield 272, [7, 8], 0), (.iload_n 2, [], 0), (.iaload, [], 0), (.iaload, [], 0), (.iastore, [], 0), (.iinc 2 1, [], 0), (.goto (-42), [3], 0)],
  [(.aload_n 0, [], 0), (.getfield 44, [9, 5], 0), (.getfield 170, [1, 0], 0), (.ireturn, [0], 0)]]
def am_s114 : List Nat := [0, 9, 32, 51, 96]
/-- WashLine.ways()I -/
def am_b115 : List (List am_I) := [[(.aload_n 0, [], 0), (.getfield 71, [9, 8], 0), (.invokevirtual 263, [102, 1, 7], 1), (.aload_n 0, [], 0), (.getfield 71, [9, 8], 0), (.invokevirtual 275, [116, 1, 7], 1), (.aload_n 0, [], 0), (.getfield 71, [9, 8], 0), (.getfield 278, [7, 7], 0), (.ldc2_w 281, [], 1000000000000000), (.lcmp, [], 0), (.ifCond .le 6, [1], 0), (.bipush (-6), [], 0), (.ireturn, [0], 0)],
  [(.aload_n 0, [], 0), (.aload_n 0, [], 0), (.getfield 71, [9, 8], 0), (.getfield 278, [7, 7], 0), (.putfield 95, [9, 13], 0), (.aload_n 0, [], 0), (.getfield 71, [9, 8], 0), (.getfield 278, [7, 7], 0), (.lconst 0, [], 0), (.lcmp, [], 0), (.ifCond .le 7, [2], 0), (.iconst 1, [], 0), (.goto 4, [3], 0)],
  [(.iconst 0, [], 0), (.nop, [3], 0)],
  [(.ireturn, [0], 0)]]
def am_s115 : List Nat := [0, 31, 58, 59]
/-- WashLine$Winter.countWays()V -/
def am_b116 : List (List am_I) := [[(.aload_n 0, [], 0), (.getfield 15, [7, 5], 0), (.ifCond .eq 4, [1], 0), (.return_, [], 0)],
  [(.aload_n 0, [], 0), (.iconst 1, [], 0), (.putfield 15, [7, 5], 0), (.aload_n 0, [], 0), (.aload_n 0, [], 0), (.invokevirtual 88, [106, 1, 7], 1), (.ifCond .eq 7, [2], 0), (.lconst 1, [], 0), (.goto 4, [3], 0)],
  [(.lconst 0, [], 0), (.nop, [3], 0)],
  [(.putfield 22, [7, 7], 0), (.aload_n 0, [], 0), (.invokevirtual 88, [106, 1, 7], 1), (.ifCond .eq 119, [9], 0), (.aload_n 0, [], 0), (.getfield 62, [7, 1], 0), (.getfield 75, [1, 0], 0), (.ifCond .le 109, [9], 0), (.aload_n 0, [], 0), (.getfield 62, [7, 1], 0), (.getfield 75, [1, 0], 0), (.iconst 1, [], 0), (.isub, [], 0), (.istore_n 1, [], 0), (.nop, [4], 0)],
  [(.iload_n 1, [], 0), (.ifCond .lt 14, [5], 0), (.aload_n 0, [], 0), (.iload_n 1, [], 0), (.invokevirtual 161, [117, 2, 7], 2), (.iinc 1 (-1), [], 0), (.goto (-12), [4], 0)],
  [(.aload_n 0, [], 0), (.lconst 0, [], 0), (.putfield 22, [7, 7], 0), (.iconst 0, [], 0), (.istore_n 1, [], 0), (.nop, [6], 0)],
  [(.iload_n 1, [], 0), (.aload_n 0, [], 0), (.getfield 45, [7, 14], 0), (.iconst 0, [], 0), (.iaload, [], 0), (.if_icmp .ge 32, [7], 0), (.aload_n 0, [], 0), (.aload_n 0, [], 0), (.getfield 22, [7, 7], 0), (.aload_n 0, [], 0), (.getfield 52, [7, 16], 0), (.aload_n 0, [], 0), (.getfield 42, [7, 13], 0), (.iload_n 1, [], 0), (.iaload, [], 0), (.laload, [], 0), (.ladd, [], 0), (.invokestatic 164, [118, 1], 2), (.putfield 22, [7, 7], 0), (.iinc 1 1, [], 0), (.goto (-36), [6], 0)],
  [(.iconst 0, [], 0), (.istore_n 1, [], 0), (.nop, [8], 0)],
  [(.iload_n 1, [], 0), (.aload_n 0, [], 0), (.getfield 62, [7, 1], 0), (.getfield 75, [1, 0], 0), (.if_icmp .ge 25, [9], 0), (.aload_n 0, [], 0), (.getfield 22, [7, 7], 0), (.ldc2_w 168, [], 1000000000000000), (.lcmp, [], 0), (.ifCond .gt 14, [9], 0), (.aload_n 0, [], 0), (.iload_n 1, [], 0), (.invokevirtual 170, [119, 2, 7], 2), (.iinc 1 1, [], 0), (.goto (-30), [8], 0)],
  [(.return_, [], 0)]]
def am_s116 : List Nat := [0, 8, 25, 26, 56, 71, 78, 117, 119, 152]
/-- WashLine$Winter.countOn(I)V -/
def am_b117 : List (List am_I) := [[(.iload_n 1, [], 0), (.aload_n 0, [], 0), (.getfield 62, [7, 1], 0), (.getfield 75, [1, 0], 0), (.iconst 1, [], 0), (.isub, [], 0), (.if_icmp .ne 7, [1], 0), (.iconst 1, [], 0), (.goto 4, [2], 0)],
  [(.iconst 0, [], 0), (.nop, [2], 0)],
  [(.istore_n 2, [], 0), (.iconst 0, [], 0), (.istore_n 3, [], 0), (.nop, [3], 0)],
  [(.iload_n 3, [], 0), (.aload_n 0, [], 0), (.getfield 45, [7, 14], 0), (.iload_n 1, [], 0), (.iaload, [], 0), (.if_icmp .ge 136, [9], 0), (.aload_n 0, [], 0), (.getfield 42, [7, 13], 0), (.iload_n 1, [], 0), (.sipush 462, [], 0), (.imul, [], 0), (.iload_n 3, [], 0), (.iadd, [], 0), (.iaload, [], 0), (.istore 4, [], 0), (.iload_n 2, [], 0), (.ifCond .eq 7, [4], 0), (.lconst 1, [], 0), (.goto 4, [5], 0)],
  [(.lconst 0, [], 0), (.nop, [5], 0)],
  [(.lstore 5, [], 0), (.aload_n 0, [], 0), (.getfield 70, [7, 3], 0), (.iload 4, [], 0), (.invokevirtual 145, [93, 2, 4], 2), (.iconst 0, [], 0), (.istore 7, [], 0), (.nop, [6], 0)],
  [(.iload_n 2, [], 0), (.ifCond .ne 74, [8], 0), (.iload 7, [], 0), (.aload_n 0, [], 0), (.getfield 45, [7, 14], 0), (.iload_n 1, [], 0), (.iconst 1, [], 0), (.iadd, [], 0), (.iaload, [], 0), (.if_icmp .ge 61, [8], 0), (.aload_n 0, [], 0), (.getfield 42, [7, 13], 0), (.iload_n 1, [], 0), (.iconst 1, [], 0), (.iadd, [], 0), (.sipush 462, [], 0), (.imul, [], 0), (.iload 7, [], 0), (.iadd, [], 0), (.iaload, [], 0), (.istore 8, [], 0), (.aload_n 0, [], 0), (.iload_n 1, [], 0), (.iload 4, [], 0), (.iload 8, [], 0), (.invokevirtual 148, [113, 4, 7], 4), (.ifCond .eq 26, [7], 0), (.lload 5, [], 0), (.aload_n 0, [], 0), (.getfield 52, [7, 16], 0), (.iload_n 1, [], 0), (.iconst 1, [], 0), (.iadd, [], 0), (.sipush 462, [], 0), (.imul, [], 0), (.iload 8, [], 0), (.iadd, [], 0), (.laload, [], 0), (.ladd, [], 0), (.invokestatic 164, [118, 1], 2), (.lstore 5, [], 0), (.nop, [7], 0)],
  [(.iinc 7 1, [], 0), (.goto (-72), [6], 0)],
  [(.aload_n 0, [], 0), (.getfield 52, [7, 16], 0), (.iload_n 1, [], 0), (.sipush 462, [], 0), (.imul, [], 0), (.iload 4, [], 0), (.iadd, [], 0), (.lload 5, [], 0), (.lastore, [], 0), (.iinc 3 1, [], 0), (.goto (-140), [3], 0)],
  [(.return_, [], 0)]]
def am_s117 : List Nat := [0, 17, 18, 21, 53, 54, 68, 137, 143, 164]
/-- WashLine$Winter.capped(J)J -/
def am_b118 : List (List am_I) := [[(.lload_n 0, [], 0), (.ldc2_w 173, [], 1000000000000001), (.invokestatic 175, [2], 0), (.lreturn, [], 0)]]
def am_s118 : List Nat := [0]
/-- WashLine$Winter.countTo(I)V -/
def am_b119 : List (List am_I) := [[(.iconst 0, [], 0), (.istore_n 2, [], 0), (.nop, [1], 0)],
  [(.iload_n 2, [], 0), (.aload_n 0, [], 0), (.getfield 45, [7, 14], 0), (.iload_n 1, [], 0), (.iaload, [], 0), (.if_icmp .ge 126, [7], 0), (.aload_n 0, [], 0), (.getfield 42, [7, 13], 0), (.iload_n 1, [], 0), (.sipush 462, [], 0), (.imul, [], 0), (.iload_n 2, [], 0), (.iadd, [], 0), (.iaload, [], 0), (.istore_n 3, [], 0), (.iload_n 1, [], 0), (.ifCond .ne 7, [2], 0), (.lconst 1, [], 0), (.goto 4, [3], 0)],
  [(.lconst 0, [], 0), (.nop, [3], 0)],
  [(.lstore 4, [], 0), (.iconst 0, [], 0), (.istore 6, [], 0), (.nop, [4], 0)],
  [(.iload_n 1, [], 0), (.ifCond .le 75, [6], 0), (.iload 6, [], 0), (.aload_n 0, [], 0), (.getfield 45, [7, 14], 0), (.iload_n 1, [], 0), (.iconst 1, [], 0), (.isub, [], 0), (.iaload, [], 0), (.if_icmp .ge 62, [6], 0), (.aload_n 0, [], 0), (.getfield 42, [7, 13], 0), (.iload_n 1, [], 0), (.iconst 1, [], 0), (.isub, [], 0), (.sipush 462, [], 0), (.imul, [], 0), (.iload 6, [], 0), (.iadd, [], 0), (.iaload, [], 0), (.istore 7, [], 0), (.aload_n 0, [], 0), (.iload_n 1, [], 0), (.iconst 1, [], 0), (.isub, [], 0), (.iload 7, [], 0), (.iload_n 3, [], 0), (.invokevirtual 148, [113, 4, 7], 4), (.ifCond .eq 26, [5], 0), (.lload 4, [], 0), (.aload_n 0, [], 0), (.getfield 48, [7, 15], 0), (.iload_n 1, [], 0), (.iconst 1, [], 0), (.isub, [], 0), (.sipush 462, [], 0), (.imul, [], 0), (.iload 7, [], 0), (.iadd, [], 0), (.laload, [], 0), (.ladd, [], 0), (.invokestatic 164, [118, 1], 2), (.lstore 4, [], 0), (.nop, [5], 0)],
  [(.iinc 6 1, [], 0), (.goto (-73), [4], 0)],
  [(.aload_n 0, [], 0), (.getfield 48, [7, 15], 0), (.iload_n 1, [], 0), (.sipush 462, [], 0), (.imul, [], 0), (.iload_n 3, [], 0), (.iadd, [], 0), (.lload 4, [], 0), (.lastore, [], 0), (.iinc 2 1, [], 0), (.goto (-130), [1], 0)],
  [(.return_, [], 0)]]
def am_s119 : List Nat := [0, 2, 33, 34, 39, 109, 115, 135]
/-- WashLine.sure(II)I -/
def am_b120 : List (List am_I) := [[(.aload_n 0, [], 0), (.iload_n 1, [], 0), (.invokevirtual 213, [66, 2, 9], 2), (.ifCond .eq 11, [1], 0), (.aload_n 0, [], 0), (.iload_n 2, [], 0), (.invokevirtual 179, [56, 2, 9], 2), (.ifCond .ne 5, [2], 0), (.nop, [1], 0)],
  [(.iconst (-1), [], 0), (.ireturn, [0], 0)],
  [(.aload_n 0, [], 0), (.getfield 71, [9, 8], 0), (.invokevirtual 263, [102, 1, 7], 1), (.aload_n 0, [], 0), (.getfield 71, [9, 8], 0), (.invokevirtual 266, [106, 1, 7], 1), (.ifCond .ne 9, [3], 0), (.aload_n 0, [], 0), (.iconst 4, [], 0), (.invokevirtual 112, [24, 2, 9], 2), (.ireturn, [0], 0)],
  [(.aload_n 0, [], 0), (.aload_n 0, [], 0), (.getfield 71, [9, 8], 0), (.iload_n 1, [], 0), (.iload_n 2, [], 0), (.invokevirtual 283, [121, 3, 7], 3), (.aload_n 0, [], 0), (.getfield 71, [9, 8], 0), (.iload_n 1, [], 0), (.iload_n 2, [], 0), (.invokevirtual 286, [122, 3, 7], 3), (.invokevirtual 131, [30, 3, 9], 3), (.ireturn, [0], 0)]]
def am_s120 : List Nat := [0, 16, 18, 41]
/-- WashLine$Winter.mostOf(II)I -/
def am_b121 : List (List am_I) := [[(.iconst 0, [], 0), (.istore_n 3, [], 0), (.iconst 0, [], 0), (.istore 4, [], 0), (.nop, [1], 0)],
  [(.iload 4, [], 0), (.aload_n 0, [], 0), (.getfield 45, [7, 14], 0), (.iload_n 1, [], 0), (.iaload, [], 0), (.if_icmp .ge 40, [2], 0), (.iload_n 3, [], 0), (.aload_n 0, [], 0), (.getfield 58, [7, 0], 0), (.getfield 155, [0, 4], 0), (.aload_n 0, [], 0), (.getfield 42, [7, 13], 0), (.iload_n 1, [], 0), (.sipush 462, [], 0), (.imul, [], 0), (.iload 4, [], 0), (.iadd, [], 0), (.iaload, [], 0), (.bipush 6, [], 0), (.imul, [], 0), (.iload_n 2, [], 0), (.iadd, [], 0), (.iaload, [], 0), (.invokestatic 158, [0], 0), (.istore_n 3, [], 0), (.iinc 4 1, [], 0), (.goto (-45), [1], 0)],
  [(.iload_n 3, [], 0), (.ireturn, [0], 0)]]
def am_s121 : List Nat := [0, 5, 53]
/-- WashLine$Winter.leastOf(II)I -/
def am_b122 : List (List am_I) := [[(.iconst 5, [], 0), (.istore_n 3, [], 0), (.iconst 0, [], 0), (.istore 4, [], 0), (.nop, [1], 0)],
  [(.iload 4, [], 0), (.aload_n 0, [], 0), (.getfield 45, [7, 14], 0), (.iload_n 1, [], 0), (.iaload, [], 0), (.if_icmp .ge 40, [2], 0), (.iload_n 3, [], 0), (.aload_n 0, [], 0), (.getfield 58, [7, 0], 0), (.getfield 155, [0, 4], 0), (.aload_n 0, [], 0), (.getfield 42, [7, 13], 0), (.iload_n 1, [], 0), (.sipush 462, [], 0), (.imul, [], 0), (.iload 4, [], 0), (.iadd, [], 0), (.iaload, [], 0), (.bipush 6, [], 0), (.imul, [], 0), (.iload_n 2, [], 0), (.iadd, [], 0), (.iaload, [], 0), (.invokestatic 134, [1], 0), (.istore_n 3, [], 0), (.iinc 4 1, [], 0), (.goto (-45), [1], 0)],
  [(.iload_n 3, [], 0), (.ireturn, [0], 0)]]
def am_s122 : List Nat := [0, 5, 53]
/-- WashLine.share(III)I -/
def am_b123 : List (List am_I) := [[(.aload_n 0, [], 0), (.iload_n 1, [], 0), (.invokevirtual 213, [66, 2, 9], 2), (.ifCond .eq 19, [1], 0), (.aload_n 0, [], 0), (.iload_n 2, [], 0), (.invokevirtual 179, [56, 2, 9], 2), (.ifCond .eq 11, [1], 0), (.iload_n 3, [], 0), (.iconst 5, [], 0), (.invokestatic 197, [23, 2], 2), (.ifCond .ne 5, [2], 0), (.nop, [1], 0)],
  [(.iconst (-1), [], 0), (.ireturn, [0], 0)],
  [(.aload_n 0, [], 0), (.getfield 71, [9, 8], 0), (.invokevirtual 263, [102, 1, 7], 1), (.aload_n 0, [], 0), (.getfield 71, [9, 8], 0), (.invokevirtual 266, [106, 1, 7], 1), (.ifCond .ne 9, [3], 0), (.aload_n 0, [], 0), (.iconst 4, [], 0), (.invokevirtual 112, [24, 2, 9], 2), (.ireturn, [0], 0)],
  [(.aload_n 0, [], 0), (.getfield 71, [9, 8], 0), (.invokevirtual 275, [116, 1, 7], 1), (.aload_n 0, [], 0), (.getfield 71, [9, 8], 0), (.getfield 278, [7, 7], 0), (.ldc2_w 281, [], 1000000000000000), (.lcmp, [], 0), (.ifCond .le 6, [4], 0), (.bipush (-6), [], 0), (.ireturn, [0], 0)],
  [(.aload_n 0, [], 0), (.aload_n 0, [], 0), (.getfield 71, [9, 8], 0), (.iload_n 1, [], 0), (.iload_n 2, [], 0), (.iload_n 3, [], 0), (.invokevirtual 289, [124, 4, 7], 4), (.aload_n 0, [], 0), (.getfield 71, [9, 8], 0), (.getfield 278, [7, 7], 0), (.invokevirtual 293, [125, 3, 9], 5), (.iconst 1, [], 0), (.ireturn, [0], 0)]]
def am_s123 : List Nat := [0, 24, 26, 49, 73]
/-- WashLine$Winter.having(III)J -/
def am_b124 : List (List am_I) := [[(.lconst 0, [], 0), (.lstore 4, [], 0), (.iconst 0, [], 0), (.istore 6, [], 0), (.nop, [1], 0)],
  [(.iload 6, [], 0), (.aload_n 0, [], 0), (.getfield 45, [7, 14], 0), (.iload_n 1, [], 0), (.iaload, [], 0), (.if_icmp .ge 75, [3], 0), (.aload_n 0, [], 0), (.getfield 42, [7, 13], 0), (.iload_n 1, [], 0), (.sipush 462, [], 0), (.imul, [], 0), (.iload 6, [], 0), (.iadd, [], 0), (.iaload, [], 0), (.istore 7, [], 0), (.aload_n 0, [], 0), (.getfield 58, [7, 0], 0), (.getfield 155, [0, 4], 0), (.iload 7, [], 0), (.bipush 6, [], 0), (.imul, [], 0), (.iload_n 2, [], 0), (.iadd, [], 0), (.iaload, [], 0), (.iload_n 3, [], 0), (.if_icmp .ne 35, [2], 0), (.lload 4, [], 0), (.aload_n 0, [], 0), (.getfield 48, [7, 15], 0), (.iload_n 1, [], 0), (.sipush 462, [], 0), (.imul, [], 0), (.iload 7, [], 0), (.iadd, [], 0), (.laload, [], 0), (.aload_n 0, [], 0), (.getfield 52, [7, 16], 0), (.iload_n 1, [], 0), (.sipush 462, [], 0), (.imul, [], 0), (.iload 7, [], 0), (.iadd, [], 0), (.laload, [], 0), (.lmul, [], 0), (.ladd, [], 0), (.lstore 4, [], 0), (.nop, [2], 0)],
  [(.iinc 6 1, [], 0), (.goto (-80), [1], 0)],
  [(.lload 4, [], 0), (.lreturn, [], 0)]]
def am_s124 : List Nat := [0, 6, 83, 89]
/-- WashLine.tellFraction(JJ)V -/
def am_b125 : List (List am_I) := [[(.lload_n 1, [], 0), (.lload_n 3, [], 0), (.invokestatic 359, [126, 2], 4), (.lstore 5, [], 0), (.lload 5, [], 0), (.lconst 0, [], 0), (.lcmp, [], 0), (.ifCond .le 19, [1], 0), (.aload_n 0, [], 0), (.lload_n 1, [], 0), (.lload 5, [], 0), (.ldiv, [], 0), (.putfield 99, [9, 14], 0), (.aload_n 0, [], 0), (.lload_n 3, [], 0), (.lload 5, [], 0), (.ldiv, [], 0), (.putfield 102, [9, 15], 0), (.nop, [1], 0)],
  [(.return_, [], 0)]]
def am_s125 : List Nat := [0, 30]
/-- WashLine.commonDivisor(JJ)J -/
def am_b126 : List (List am_I) := [[(.lload_n 2, [], 0), (.lstore 4, [], 0), (.lload_n 0, [], 0), (.lstore 6, [], 0), (.iconst 0, [], 0), (.istore 8, [], 0), (.nop, [1], 0)],
  [(.iload 8, [], 0), (.sipush 200, [], 0), (.if_icmp .ge 31, [2], 0), (.lload 6, [], 0), (.lconst 0, [], 0), (.lcmp, [], 0), (.ifCond .eq 24, [2], 0), (.lload 4, [], 0), (.lload 6, [], 0), (.lrem, [], 0), (.lstore 9, [], 0), (.lload 6, [], 0), (.lstore 4, [], 0), (.lload 9, [], 0), (.lstore 6, [], 0), (.iinc 8 1, [], 0), (.goto (-33), [1], 0)],
  [(.lload 4, [], 0), (.lreturn, [], 0)]]
def am_s126 : List Nat := [0, 9, 45]
/-- WashLine.through(II)I -/
def am_b127 : List (List am_I) := [[(.aload_n 0, [], 0), (.getfield 37, [9, 4], 0), (.iload_n 2, [], 0), (.invokevirtual 222, [13, 2, 0], 2), (.istore_n 3, [], 0), (.iload_n 3, [], 0), (.ifCond .lt 11, [1], 0), (.aload_n 0, [], 0), (.iload_n 1, [], 0), (.invokevirtual 213, [66, 2, 9], 2), (.ifCond .ne 5, [2], 0), (.nop, [1], 0)],
  [(.iconst (-1), [], 0), (.ireturn, [0], 0)],
  [(.aload_n 0, [], 0), (.getfield 71, [9, 8], 0), (.invokevirtual 263, [102, 1, 7], 1), (.aload_n 0, [], 0), (.getfield 71, [9, 8], 0), (.iload_n 1, [], 0), (.iload_n 3, [], 0), (.invokevirtual 297, [111, 3, 7], 3), (.istore 4, [], 0), (.iload 4, [], 0), (.ldc_w 300, [], 1000000), (.if_icmp .ge 8, [3], 0), (.iload 4, [], 0), (.goto 5, [4], 0)],
  [(.bipush (-9), [], 0), (.nop, [4], 0)],
  [(.ireturn, [0], 0)]]
def am_s127 : List Nat := [0, 21, 23, 54, 56]
/-- WashLine.rival(I)I -/
def am_b128 : List (List am_I) := [[(.aload_n 0, [], 0), (.iload_n 1, [], 0), (.invokevirtual 213, [66, 2, 9], 2), (.ifCond .ne 5, [1], 0), (.iconst (-1), [], 0), (.ireturn, [0], 0)],
  [(.aload_n 0, [], 0), (.getfield 71, [9, 8], 0), (.invokevirtual 263, [102, 1, 7], 1), (.aload_n 0, [], 0), (.getfield 71, [9, 8], 0), (.invokevirtual 266, [106, 1, 7], 1), (.ifCond .ne 9, [2], 0), (.aload_n 0, [], 0), (.iconst 4, [], 0), (.invokevirtual 112, [24, 2, 9], 2), (.ireturn, [0], 0)],
  [(.aload_n 0, [], 0), (.getfield 71, [9, 8], 0), (.iload_n 1, [], 0), (.invokevirtual 301, [129, 2, 7], 2), (.istore_n 2, [], 0), (.iload_n 2, [], 0), (.ifCond .ge 8, [3], 0), (.bipush (-9), [], 0), (.goto 25, [4], 0)],
  [(.aload_n 0, [], 0), (.aload_n 0, [], 0), (.getfield 37, [9, 4], 0), (.getfield 245, [0, 2], 0), (.iload_n 2, [], 0), (.iaload, [], 0), (.aload_n 0, [], 0), (.getfield 71, [9, 8], 0), (.iload_n 1, [], 0), (.iload_n 2, [], 0), (.invokevirtual 297, [111, 3, 7], 3), (.invokevirtual 131, [30, 3, 9], 3), (.nop, [4], 0)],
  [(.ireturn, [0], 0)]]
def am_s128 : List Nat := [0, 10, 33, 51, 73]
/-- WashLine$Winter.other(I)I -/
def am_b129 : List (List am_I) := [[(.iconst (-1), [], 0), (.istore_n 2, [], 0), (.ldc 74, [], 1000000), (.istore_n 3, [], 0), (.iconst 0, [], 0), (.istore 4, [], 0), (.nop, [1], 0)],
  [(.iload 4, [], 0), (.aload_n 0, [], 0), (.getfield 58, [7, 0], 0), (.getfield 101, [0, 1], 0), (.if_icmp .ge 42, [3], 0), (.iload 4, [], 0), (.aload_n 0, [], 0), (.getfield 26, [7, 8], 0), (.iload_n 1, [], 0), (.iaload, [], 0), (.if_icmp .eq 25, [2], 0), (.aload_n 0, [], 0), (.iload_n 1, [], 0), (.iload 4, [], 0), (.invokevirtual 142, [111, 3, 7], 3), (.iload_n 3, [], 0), (.if_icmp .ge 14, [2], 0), (.iload 4, [], 0), (.istore_n 2, [], 0), (.aload_n 0, [], 0), (.iload_n 1, [], 0), (.iload 4, [], 0), (.invokevirtual 142, [111, 3, 7], 3), (.istore_n 3, [], 0), (.nop, [2], 0)],
  [(.iinc 4 1, [], 0), (.goto (-48), [1], 0)],
  [(.iload_n 2, [], 0), (.ireturn, [0], 0)]]
def am_s129 : List Nat := [0, 8, 53, 59]
/-- WashLine.happen(IIII)I -/
def am_b130 : List (List am_I) := [[(.iload_n 1, [], 0), (.bipush 11, [], 0), (.invokestatic 197, [23, 2], 2), (.ifCond .eq 12, [1], 0), (.iload_n 2, [], 0), (.bipush 6, [], 0), (.invokestatic 197, [23, 2], 2), (.ifCond .ne 5, [2], 0), (.nop, [1], 0)],
  [(.iconst (-1), [], 0), (.ireturn, [0], 0)],
  [(.iload_n 2, [], 0), (.bipush 6, [], 0), (.if_icmp .ne 26, [4], 0), (.iload_n 3, [], 0), (.invokestatic 182, [57, 1], 1), (.ifCond .eq 17, [3], 0), (.iload 4, [], 0), (.invokestatic 182, [57, 1], 1), (.ifCond .eq 9, [3], 0), (.iload_n 3, [], 0), (.iload 4, [], 0), (.if_icmp .ne 5, [4], 0), (.nop, [3], 0)],
  [(.iconst (-1), [], 0), (.ireturn, [0], 0)],
  [(.iload_n 2, [], 0), (.ifCond .eq 13, [5], 0), (.iload_n 2, [], 0), (.bipush 6, [], 0), (.if_icmp .eq 7, [5], 0), (.iconst 1, [], 0), (.goto 4, [6], 0)],
  [(.iconst 0, [], 0), (.nop, [6], 0)],
  [(.istore 5, [], 0), (.iload 5, [], 0), (.ifCond .eq 13, [7], 0), (.aload_n 0, [], 0), (.iload_n 3, [], 0), (.invokevirtual 179, [56, 2, 9], 2), (.ifCond .ne 5, [7], 0), (.iconst (-1), [], 0), (.ireturn, [0], 0)],
  [(.aload_n 0, [], 0), (.getfield 80, [9, 9], 0), (.getfield 171, [5, 2], 0), (.bipush 16, [], 0), (.if_icmp .lt 6, [8], 0), (.bipush (-2), [], 0), (.ireturn, [0], 0)],
  [(.aload_n 0, [], 0), (.getfield 80, [9, 9], 0), (.iload_n 1, [], 0), (.iload_n 2, [], 0), (.iload_n 2, [], 0), (.ifCond .ne 7, [9], 0), (.iconst 0, [], 0), (.goto 4, [10], 0)],
  [(.iload_n 3, [], 0), (.nop, [10], 0)],
  [(.iload_n 2, [], 0), (.bipush 6, [], 0), (.if_icmp .ne 8, [11], 0), (.iload 4, [], 0), (.goto 4, [12], 0)],
  [(.iconst 0, [], 0), (.nop, [12], 0)],
  [(.invokevirtual 304, [131, 5, 5], 5), (.ireturn, [0], 0)]]
def am_s130 : List Nat := [0, 18, 20, 47, 49, 63, 64, 81, 96, 110, 111, 122, 123]
/-- WashLine$Story.add(IIII)I -/
def am_b131 : List (List am_I) := [[(.aload_n 0, [], 0), (.getfield 15, [5, 3], 0), (.aload_n 0, [], 0), (.getfield 9, [5, 2], 0), (.iload_n 2, [], 0), (.iastore, [], 0), (.aload_n 0, [], 0), (.getfield 19, [5, 4], 0), (.aload_n 0, [], 0), (.getfield 9, [5, 2], 0), (.iload_n 1, [], 0), (.iastore, [], 0), (.aload_n 0, [], 0), (.getfield 22, [5, 5], 0), (.aload_n 0, [], 0), (.getfield 9, [5, 2], 0), (.iload_n 3, [], 0), (.iastore, [], 0), (.aload_n 0, [], 0), (.getfield 25, [5, 6], 0), (.aload_n 0, [], 0), (.getfield 9, [5, 2], 0), (.iload 4, [], 0), (.iastore, [], 0), (.aload_n 0, [], 0), (.dup, [], 0), (.getfield 9, [5, 2], 0), (.iconst 1, [], 0), (.iadd, [], 0), (.putfield 9, [5, 2], 0), (.aload_n 0, [], 0), (.getfield 9, [5, 2], 0), (.iconst 1, [], 0), (.isub, [], 0), (.ireturn, [0], 0)]]
def am_s131 : List Nat := [0]
/-- WashLine.event(II)I -/
def am_b132 : List (List am_I) := [[(.aload_n 0, [], 0), (.iload_n 1, [], 0), (.invokevirtual 307, [133, 2, 9], 2), (.ifCond .eq 11, [1], 0), (.iload_n 2, [], 0), (.iconst 3, [], 0), (.invokestatic 197, [23, 2], 2), (.ifCond .ne 5, [2], 0), (.nop, [1], 0)],
  [(.iconst (-1), [], 0), (.ireturn, [0], 0)],
  [(.aload_n 0, [], 0), (.aload_n 0, [], 0), (.getfield 80, [9, 9], 0), (.iload_n 1, [], 0), (.iload_n 2, [], 0), (.invokevirtual 310, [134, 3, 5], 3), (.iconst 1, [], 0), (.invokevirtual 131, [30, 3, 9], 3), (.ireturn, [0], 0)]]
def am_s132 : List Nat := [0, 16, 18]
/-- WashLine.isHappening(I)Z -/
def am_b133 : List (List am_I) := [[(.iload_n 1, [], 0), (.aload_n 0, [], 0), (.getfield 80, [9, 9], 0), (.getfield 171, [5, 2], 0), (.iconst 1, [], 0), (.isub, [], 0), (.invokestatic 197, [23, 2], 2), (.ireturn, [1], 0)]]
def am_s133 : List Nat := [0]
/-- WashLine$Story.detail(II)I -/
def am_b134 : List (List am_I) := [[(.iload_n 2, [], 0), (.ifCond .ne 10, [1], 0), (.aload_n 0, [], 0), (.getfield 15, [5, 3], 0), (.iload_n 1, [], 0), (.iaload, [], 0), (.ireturn, [0], 0)],
  [(.iload_n 2, [], 0), (.iconst 1, [], 0), (.if_icmp .ne 10, [2], 0), (.aload_n 0, [], 0), (.getfield 19, [5, 4], 0), (.iload_n 1, [], 0), (.iaload, [], 0), (.ireturn, [0], 0)],
  [(.iload_n 2, [], 0), (.iconst 2, [], 0), (.if_icmp .ne 12, [3], 0), (.aload_n 0, [], 0), (.getfield 22, [5, 5], 0), (.iload_n 1, [], 0), (.iaload, [], 0), (.goto 9, [4], 0)],
  [(.aload_n 0, [], 0), (.getfield 25, [5, 6], 0), (.iload_n 1, [], 0), (.iaload, [], 0), (.nop, [4], 0)],
  [(.ireturn, [0], 0)]]
def am_s134 : List Nat := [0, 11, 23, 37, 43]
/-- WashLine.mark(II)I -/
def am_b135 : List (List am_I) := [[(.aload_n 0, [], 0), (.iload_n 1, [], 0), (.invokevirtual 307, [133, 2, 9], 2), (.ifCond .eq 16, [1], 0), (.iload_n 2, [], 0), (.ifCond .eq 12, [1], 0), (.iload_n 2, [], 0), (.bipush 6, [], 0), (.invokestatic 197, [23, 2], 2), (.ifCond .ne 5, [2], 0), (.nop, [1], 0)],
  [(.iconst (-1), [], 0), (.ireturn, [0], 0)],
  [(.aload_n 0, [], 0), (.getfield 80, [9, 9], 0), (.iload_n 1, [], 0), (.iload_n 2, [], 0), (.invokevirtual 311, [136, 3, 5], 3), (.ifCond .eq 15, [3], 0), (.aload_n 0, [], 0), (.getfield 80, [9, 9], 0), (.iload_n 1, [], 0), (.iload_n 2, [], 0), (.invokevirtual 314, [137, 3, 5], 3), (.goto 8, [4], 0)],
  [(.aload_n 0, [], 0), (.iconst 3, [], 0), (.invokevirtual 112, [24, 2, 9], 2), (.nop, [4], 0)],
  [(.ireturn, [0], 0)]]
def am_s135 : List Nat := [0, 21, 23, 47, 52]
/-- WashLine$Story.is(II)Z -/
def am_b136 : List (List am_I) := [[(.aload_n 0, [], 0), (.getfield 15, [5, 3], 0), (.iload_n 1, [], 0), (.iaload, [], 0), (.iload_n 2, [], 0), (.if_icmp .eq 18, [1], 0), (.iload_n 2, [], 0), (.iconst 1, [], 0), (.if_icmp .ne 17, [2], 0), (.aload_n 0, [], 0), (.getfield 15, [5, 3], 0), (.iload_n 1, [], 0), (.iaload, [], 0), (.iconst 5, [], 0), (.if_icmp .ne 7, [2], 0), (.nop, [1], 0)],
  [(.iconst 1, [], 0), (.goto 4, [3], 0)],
  [(.iconst 0, [], 0), (.nop, [3], 0)],
  [(.ireturn, [1], 0)]]
def am_s136 : List Nat := [0, 25, 29, 30]
/-- WashLine$Story.tell(II)I -/
def am_b137 : List (List am_I) := [[(.iload_n 2, [], 0), (.bipush 6, [], 0), (.if_icmp .ne 20, [1], 0), (.bipush 10, [], 0), (.aload_n 0, [], 0), (.getfield 22, [5, 5], 0), (.iload_n 1, [], 0), (.iaload, [], 0), (.imul, [], 0), (.aload_n 0, [], 0), (.getfield 25, [5, 6], 0), (.iload_n 1, [], 0), (.iaload, [], 0), (.iadd, [], 0), (.ireturn, [0], 0)],
  [(.iload_n 2, [], 0), (.iconst 5, [], 0), (.if_icmp .ne 26, [4], 0), (.aload_n 0, [], 0), (.aload_n 0, [], 0), (.getfield 19, [5, 4], 0), (.iload_n 1, [], 0), (.iaload, [], 0), (.invokevirtual 52, [138, 2, 5], 2), (.ifCond .eq 10, [2], 0), (.aload_n 0, [], 0), (.invokevirtual 56, [141, 1, 5], 1), (.goto 5, [3], 0)],
  [(.bipush (-9), [], 0), (.nop, [3], 0)],
  [(.ireturn, [0], 0)],
  [(.aload_n 0, [], 0), (.getfield 22, [5, 5], 0), (.iload_n 1, [], 0), (.iaload, [], 0), (.ireturn, [0], 0)]]
def am_s137 : List Nat := [0, 23, 48, 50, 51]
/-- WashLine$Story.live(I)Z -/
def am_b138 : List (List am_I) := [[(.aload_n 0, [], 0), (.getfield 28, [5, 7], 0), (.iconst 0, [], 0), (.invokestatic 60, [4, 2], 2), (.iconst 0, [], 0), (.istore_n 2, [], 0), (.nop, [1], 0)],
  [(.iload_n 2, [], 0), (.iload_n 1, [], 0), (.if_icmp .gt 45, [5], 0), (.iconst 0, [], 0), (.istore_n 3, [], 0), (.nop, [2], 0)],
  [(.iload_n 3, [], 0), (.aload_n 0, [], 0), (.getfield 9, [5, 2], 0), (.if_icmp .ge 29, [4], 0), (.aload_n 0, [], 0), (.getfield 19, [5, 4], 0), (.iload_n 3, [], 0), (.iaload, [], 0), (.iload_n 2, [], 0), (.if_icmp .ne 13, [3], 0), (.aload_n 0, [], 0), (.iload_n 3, [], 0), (.invokevirtual 66, [139, 2, 5], 2), (.ifCond .ne 5, [3], 0), (.iconst 0, [], 0), (.ireturn, [1], 0)],
  [(.iinc 3 1, [], 0), (.goto (-31), [2], 0)],
  [(.iinc 2 1, [], 0), (.goto (-44), [1], 0)],
  [(.iconst 1, [], 0), (.ireturn, [1], 0)]]
def am_s138 : List Nat := [0, 10, 17, 45, 51, 57]
/-- WashLine$Story.comesTrue(I)Z -/
def am_b139 : List (List am_I) := [[(.aload_n 0, [], 0), (.getfield 15, [5, 3], 0), (.iload_n 1, [], 0), (.iaload, [], 0), (.tableswitch 88 1 3 #[26, 37, 48], [6, 1, 2, 3], 0)],
  [(.aload_n 0, [], 0), (.aload_n 0, [], 0), (.getfield 22, [5, 5], 0), (.iload_n 1, [], 0), (.iaload, [], 0), (.invokevirtual 69, [140, 2, 5], 2), (.ireturn, [1], 0)],
  [(.aload_n 0, [], 0), (.aload_n 0, [], 0), (.getfield 22, [5, 5], 0), (.iload_n 1, [], 0), (.iaload, [], 0), (.invokevirtual 72, [142, 2, 5], 2), (.ireturn, [1], 0)],
  [(.aload_n 0, [], 0), (.aload_n 0, [], 0), (.getfield 22, [5, 5], 0), (.iload_n 1, [], 0), (.iaload, [], 0), (.invokevirtual 72, [142, 2, 5], 2), (.ifCond .eq 28, [4], 0), (.aload_n 0, [], 0), (.aload_n 0, [], 0), (.getfield 40, [5, 0], 0), (.getfield 75, [8, 1], 0), (.aload_n 0, [], 0), (.getfield 22, [5, 5], 0), (.iload_n 1, [], 0), (.iaload, [], 0), (.iaload, [], 0), (.invokevirtual 69, [140, 2, 5], 2), (.ifCond .eq 7, [4], 0), (.iconst 1, [], 0), (.goto 4, [5], 0)],
  [(.iconst 0, [], 0), (.nop, [5], 0)],
  [(.ireturn, [1], 0)],
  [(.iconst 1, [], 0), (.ireturn, [1], 0)]]
def am_s139 : List Nat := [0, 32, 43, 54, 92, 93, 94]
/-- WashLine$Story.join(I)Z -/
def am_b140 : List (List am_I) := [[(.iload_n 1, [], 0), (.ifCond .lt 11, [1], 0), (.aload_n 0, [], 0), (.invokevirtual 56, [141, 1, 5], 1), (.iconst 5, [], 0), (.if_icmp .lt 5, [2], 0), (.nop, [1], 0)],
  [(.iconst 0, [], 0), (.ireturn, [1], 0)],
  [(.aload_n 0, [], 0), (.getfield 28, [5, 7], 0), (.iload_n 1, [], 0), (.dup2, [], 0), (.iaload, [], 0), (.iconst 1, [], 0), (.iadd, [], 0), (.iastore, [], 0), (.iconst 1, [], 0), (.ireturn, [1], 0)]]
def am_s140 : List Nat := [0, 12, 14]
/-- WashLine$Story.everybody()I -/
def am_b141 : List (List am_I) := [[(.iconst 0, [], 0), (.istore_n 1, [], 0), (.aload_n 0, [], 0), (.getfield 28, [5, 7], 0), (.astore_n 2, [], 0), (.aload_n 2, [], 0), (.arraylength, [], 0), (.istore_n 3, [], 0), (.iconst 0, [], 0), (.istore 4, [], 0), (.nop, [1], 0)],
  [(.iload 4, [], 0), (.iload_n 3, [], 0), (.if_icmp .ge 20, [2], 0), (.aload_n 2, [], 0), (.iload 4, [], 0), (.iaload, [], 0), (.istore 5, [], 0), (.iload_n 1, [], 0), (.iload 5, [], 0), (.iadd, [], 0), (.istore_n 1, [], 0), (.iinc 4 1, [], 0), (.goto (-20), [1], 0)],
  [(.iload_n 1, [], 0), (.ireturn, [0], 0)]]
def am_s141 : List Nat := [0, 13, 36]
/-- WashLine$Story.leave(I)Z -/
def am_b142 : List (List am_I) := [[(.aload_n 0, [], 0), (.getfield 28, [5, 7], 0), (.iload_n 1, [], 0), (.iaload, [], 0), (.ifCond .gt 5, [1], 0), (.iconst 0, [], 0), (.ireturn, [1], 0)],
  [(.aload_n 0, [], 0), (.getfield 28, [5, 7], 0), (.iload_n 1, [], 0), (.dup2, [], 0), (.iaload, [], 0), (.iconst 1, [], 0), (.isub, [], 0), (.iastore, [], 0), (.iconst 1, [], 0), (.ireturn, [1], 0)]]
def am_s142 : List Nat := [0, 11]
/-- WashLine.household(I)I -/
def am_b143 : List (List am_I) := [[(.iload_n 1, [], 0), (.bipush 11, [], 0), (.invokestatic 197, [23, 2], 2), (.ifCond .ne 5, [1], 0), (.iconst (-1), [], 0), (.ireturn, [0], 0)],
  [(.aload_n 0, [], 0), (.getfield 80, [9, 9], 0), (.iload_n 1, [], 0), (.invokevirtual 317, [138, 2, 5], 2), (.ifCond .eq 13, [2], 0), (.aload_n 0, [], 0), (.getfield 80, [9, 9], 0), (.invokevirtual 320, [144, 1, 5], 1), (.goto 5, [3], 0)],
  [(.bipush (-9), [], 0), (.nop, [3], 0)],
  [(.ireturn, [0], 0)]]
def am_s143 : List Nat := [0, 11, 32, 34]
/-- WashLine$Story.number()I -/
def am_b144 : List (List am_I) := [[(.iconst 0, [], 0), (.istore_n 1, [], 0), (.iconst 0, [], 0), (.istore_n 2, [], 0), (.nop, [1], 0)],
  [(.iload_n 2, [], 0), (.bipush 6, [], 0), (.if_icmp .ge 24, [2], 0), (.iload_n 1, [], 0), (.aload_n 0, [], 0), (.getfield 28, [5, 7], 0), (.iload_n 2, [], 0), (.iaload, [], 0), (.getstatic 80, [], 0), (.iload_n 2, [], 0), (.iaload, [], 0), (.imul, [], 0), (.iadd, [], 0), (.istore_n 1, [], 0), (.iinc 2 1, [], 0), (.goto (-24), [1], 0)],
  [(.iload_n 1, [], 0), (.ireturn, [0], 0)]]
def am_s144 : List Nat := [0, 4, 31]
/-- WashLine.judge()I -/
def am_b145 : List (List am_I) := [[(.aload_n 0, [], 0), (.getfield 80, [9, 9], 0), (.invokevirtual 323, [146, 1, 5], 1), (.istore_n 1, [], 0), (.iload_n 1, [], 0), (.bipush (-9), [], 0), (.if_icmp .ne 8, [1], 0), (.bipush (-9), [], 0), (.goto 15, [2], 0)],
  [(.aload_n 0, [], 0), (.aload_n 0, [], 0), (.getfield 80, [9, 9], 0), (.getfield 326, [5, 10], 0), (.iload_n 1, [], 0), (.invokevirtual 131, [30, 3, 9], 3), (.nop, [2], 0)],
  [(.ireturn, [0], 0)]]
def am_s145 : List Nat := [0, 19, 31]
/-- WashLine$Story.firstOff()I -/
def am_b146 : List (List am_I) := [[(.iconst 0, [], 0), (.istore_n 1, [], 0), (.nop, [1], 0)],
  [(.iload_n 1, [], 0), (.aload_n 0, [], 0), (.getfield 44, [5, 1], 0), (.getfield 83, [1, 0], 0), (.if_icmp .ge 19, [3], 0), (.aload_n 0, [], 0), (.iload_n 1, [], 0), (.invokevirtual 86, [147, 2, 5], 2), (.ifCond .ne 5, [2], 0), (.iload_n 1, [], 0), (.ireturn, [0], 0)],
  [(.iinc 1 1, [], 0), (.goto (-24), [1], 0)],
  [(.bipush (-9), [], 0), (.ireturn, [0], 0)]]
def am_s146 : List Nat := [0, 2, 23, 29]
/-- WashLine$Story.isAgreed(I)Z -/
def am_b147 : List (List am_I) := [[(.aload_n 0, [], 0), (.bipush (-9), [], 0), (.putfield 37, [5, 10], 0), (.aload_n 0, [], 0), (.iload_n 1, [], 0), (.invokevirtual 52, [138, 2, 5], 2), (.ifCond .ne 5, [1], 0), (.iconst 0, [], 0), (.ireturn, [1], 0)],
  [(.aload_n 0, [], 0), (.iload_n 1, [], 0), (.invokevirtual 89, [148, 2, 5], 2), (.iconst 0, [], 0), (.istore_n 2, [], 0), (.nop, [2], 0)],
  [(.iload_n 2, [], 0), (.bipush 8, [], 0), (.if_icmp .ge 52, [5], 0), (.aload_n 0, [], 0), (.getfield 44, [5, 1], 0), (.iload_n 1, [], 0), (.iload_n 2, [], 0), (.aload_n 0, [], 0), (.getfield 34, [5, 9], 0), (.iload_n 2, [], 0), (.iaload, [], 0), (.invokevirtual 93, [77, 4, 1], 4), (.ifCond .ne 21, [3], 0), (.aload_n 0, [], 0), (.getfield 44, [5, 1], 0), (.iload_n 1, [], 0), (.iload_n 2, [], 0), (.aload_n 0, [], 0), (.getfield 31, [5, 8], 0), (.iload_n 2, [], 0), (.iaload, [], 0), (.invokevirtual 97, [78, 4, 1], 4), (.ifCond .eq 10, [4], 0), (.nop, [3], 0)],
  [(.aload_n 0, [], 0), (.iload_n 2, [], 0), (.putfield 37, [5, 10], 0), (.iconst 0, [], 0), (.ireturn, [1], 0)],
  [(.iinc 2 1, [], 0), (.goto (-52), [2], 0)],
  [(.iconst 1, [], 0), (.ireturn, [1], 0)]]
def am_s147 : List Nat := [0, 16, 23, 65, 72, 78]
/-- WashLine$Story.hang(I)V -/
def am_b148 : List (List am_I) := [[(.aload_n 0, [], 0), (.getfield 31, [5, 8], 0), (.iconst 0, [], 0), (.invokestatic 60, [4, 2], 2), (.aload_n 0, [], 0), (.getfield 34, [5, 9], 0), (.iconst 0, [], 0), (.invokestatic 60, [4, 2], 2), (.iconst 0, [], 0), (.istore_n 2, [], 0), (.nop, [1], 0)],
  [(.iload_n 2, [], 0), (.aload_n 0, [], 0), (.getfield 40, [5, 0], 0), (.getfield 100, [8, 0], 0), (.if_icmp .ge 122, [4], 0), (.aload_n 0, [], 0), (.iload_n 1, [], 0), (.iconst 5, [], 0), (.iload_n 2, [], 0), (.invokevirtual 103, [149, 4, 5], 4), (.istore_n 3, [], 0), (.aload_n 0, [], 0), (.iload_n 1, [], 0), (.iconst 4, [], 0), (.iload_n 2, [], 0), (.invokevirtual 103, [149, 4, 5], 4), (.aload_n 0, [], 0), (.getfield 28, [5, 7], 0), (.iload_n 2, [], 0), (.iaload, [], 0), (.invokestatic 107, [1], 0), (.istore 4, [], 0), (.iconst 0, [], 0), (.istore 5, [], 0), (.nop, [2], 0)],
  [(.iload 5, [], 0), (.bipush 8, [], 0), (.if_icmp .ge 80, [3], 0), (.aload_n 0, [], 0), (.getfield 31, [5, 8], 0), (.iload 5, [], 0), (.dup2, [], 0), (.iaload, [], 0), (.aload_n 0, [], 0), (.getfield 28, [5, 7], 0), (.iload_n 2, [], 0), (.iaload, [], 0), (.iload_n 3, [], 0), (.iadd, [], 0), (.iload 4, [], 0), (.isub, [], 0), (.aload_n 0, [], 0), (.getfield 40, [5, 0], 0), (.getfield 113, [8, 2], 0), (.iload_n 2, [], 0), (.bipush 8, [], 0), (.imul, [], 0), (.iload 5, [], 0), (.iadd, [], 0), (.iaload, [], 0), (.imul, [], 0), (.iadd, [], 0), (.iastore, [], 0), (.aload_n 0, [], 0), (.getfield 34, [5, 9], 0), (.iload 5, [], 0), (.dup2, [], 0), (.iaload, [], 0), (.aload_n 0, [], 0), (.getfield 28, [5, 7], 0), (.iload_n 2, [], 0), (.iaload, [], 0), (.iload_n 3, [], 0), (.iadd, [], 0), (.aload_n 0, [], 0), (.getfield 40, [5, 0], 0), (.getfield 114, [8, 3], 0), (.iload_n 2, [], 0), (.bipush 8, [], 0), (.imul, [], 0), (.iload 5, [], 0), (.iadd, [], 0), (.iaload, [], 0), (.imul, [], 0), (.iadd, [], 0), (.iastore, [], 0), (.iinc 5 1, [], 0), (.goto (-81), [2], 0)],
  [(.iinc 2 1, [], 0), (.goto (-127), [1], 0)],
  [(.aload_n 0, [], 0), (.iload_n 1, [], 0), (.invokevirtual 115, [150, 2, 5], 2), (.iconst 0, [], 0), (.istore_n 2, [], 0), (.nop, [5], 0)],
  [(.iload_n 2, [], 0), (.bipush 8, [], 0), (.if_icmp .ge 36, [7], 0), (.aload_n 0, [], 0), (.getfield 40, [5, 0], 0), (.aload_n 0, [], 0), (.getfield 44, [5, 1], 0), (.getfield 118, [1, 1], 0), (.iload_n 1, [], 0), (.iaload, [], 0), (.iload_n 2, [], 0), (.invokevirtual 121, [72, 3, 8], 3), (.ifCond .eq 10, [6], 0), (.aload_n 0, [], 0), (.getfield 31, [5, 8], 0), (.iload_n 2, [], 0), (.iconst 0, [], 0), (.iastore, [], 0), (.nop, [6], 0)],
  [(.iinc 2 1, [], 0), (.goto (-36), [5], 0)],
  [(.return_, [], 0)]]
def am_s148 : List Nat := [0, 18, 58, 142, 148, 155, 188, 194]
/-- WashLine$Story.among(III)I -/
def am_b149 : List (List am_I) := [[(.iconst 0, [], 0), (.istore 4, [], 0), (.iconst 0, [], 0), (.istore 5, [], 0), (.nop, [1], 0)],
  [(.iload 5, [], 0), (.aload_n 0, [], 0), (.getfield 9, [5, 2], 0), (.if_icmp .ge 45, [3], 0), (.aload_n 0, [], 0), (.getfield 19, [5, 4], 0), (.iload 5, [], 0), (.iaload, [], 0), (.iload_n 1, [], 0), (.if_icmp .ne 28, [2], 0), (.aload_n 0, [], 0), (.getfield 15, [5, 3], 0), (.iload 5, [], 0), (.iaload, [], 0), (.iload_n 2, [], 0), (.if_icmp .ne 17, [2], 0), (.aload_n 0, [], 0), (.getfield 22, [5, 5], 0), (.iload 5, [], 0), (.iaload, [], 0), (.iload_n 3, [], 0), (.if_icmp .ne 6, [2], 0), (.iinc 4 1, [], 0), (.nop, [2], 0)],
  [(.iinc 5 1, [], 0), (.goto (-48), [1], 0)],
  [(.iload 4, [], 0), (.ireturn, [0], 0)]]
def am_s149 : List Nat := [0, 6, 51, 57]
/-- WashLine$Story.handDown(I)V -/
def am_b150 : List (List am_I) := [[(.iconst 0, [], 0), (.istore_n 2, [], 0), (.nop, [1], 0)],
  [(.iload_n 2, [], 0), (.iload_n 1, [], 0), (.if_icmp .gt 62, [5], 0), (.iconst 0, [], 0), (.istore_n 3, [], 0), (.nop, [2], 0)],
  [(.iload_n 3, [], 0), (.aload_n 0, [], 0), (.getfield 9, [5, 2], 0), (.if_icmp .ge 46, [4], 0), (.aload_n 0, [], 0), (.getfield 19, [5, 4], 0), (.iload_n 3, [], 0), (.iaload, [], 0), (.iload_n 2, [], 0), (.if_icmp .ne 30, [3], 0), (.aload_n 0, [], 0), (.getfield 15, [5, 3], 0), (.iload_n 3, [], 0), (.iaload, [], 0), (.bipush 6, [], 0), (.if_icmp .ne 19, [3], 0), (.aload_n 0, [], 0), (.aload_n 0, [], 0), (.getfield 22, [5, 5], 0), (.iload_n 3, [], 0), (.iaload, [], 0), (.aload_n 0, [], 0), (.getfield 25, [5, 6], 0), (.iload_n 3, [], 0), (.iaload, [], 0), (.invokevirtual 124, [151, 3, 5], 3), (.nop, [3], 0)],
  [(.iinc 3 1, [], 0), (.goto (-48), [2], 0)],
  [(.iinc 2 1, [], 0), (.goto (-61), [1], 0)],
  [(.return_, [], 0)]]
def am_s150 : List Nat := [0, 2, 9, 54, 60, 66]
/-- WashLine$Story.handOver(II)V -/
def am_b151 : List (List am_I) := [[(.aload_n 0, [], 0), (.getfield 31, [5, 8], 0), (.iload_n 1, [], 0), (.iconst 0, [], 0), (.aload_n 0, [], 0), (.getfield 31, [5, 8], 0), (.iload_n 1, [], 0), (.iaload, [], 0), (.iconst 1, [], 0), (.isub, [], 0), (.invokestatic 128, [0], 0), (.iastore, [], 0), (.aload_n 0, [], 0), (.getfield 34, [5, 9], 0), (.iload_n 1, [], 0), (.iconst 0, [], 0), (.aload_n 0, [], 0), (.getfield 34, [5, 9], 0), (.iload_n 1, [], 0), (.iaload, [], 0), (.iconst 1, [], 0), (.isub, [], 0), (.invokestatic 128, [0], 0), (.iastore, [], 0), (.aload_n 0, [], 0), (.getfield 31, [5, 8], 0), (.iload_n 2, [], 0), (.dup2, [], 0), (.iaload, [], 0), (.iconst 1, [], 0), (.iadd, [], 0), (.iastore, [], 0), (.aload_n 0, [], 0), (.getfield 34, [5, 9], 0), (.iload_n 2, [], 0), (.dup2, [], 0), (.iaload, [], 0), (.iconst 1, [], 0), (.iadd, [], 0), (.iastore, [], 0), (.return_, [], 0)]]
def am_s151 : List Nat := [0]
/-- WashLine.doubts(I)I -/
def am_b152 : List (List am_I) := [[(.aload_n 0, [], 0), (.getfield 37, [9, 4], 0), (.iload_n 1, [], 0), (.invokevirtual 222, [13, 2, 0], 2), (.istore_n 2, [], 0), (.iload_n 2, [], 0), (.ifCond .ge 7, [1], 0), (.iconst (-1), [], 0), (.goto 11, [2], 0)],
  [(.aload_n 0, [], 0), (.getfield 53, [9, 6], 0), (.iload_n 2, [], 0), (.invokevirtual 329, [153, 2, 2], 2), (.nop, [2], 0)],
  [(.ireturn, [0], 0)]]
def am_s152 : List Nat := [0, 17, 25]
/-- WashLine$Looks.doubted(I)I -/
def am_b153 : List (List am_I) := [[(.iconst 0, [], 0), (.istore_n 2, [], 0), (.iconst 0, [], 0), (.istore_n 3, [], 0), (.nop, [1], 0)],
  [(.iload_n 3, [], 0), (.aload_n 0, [], 0), (.getfield 19, [2, 2], 0), (.getfield 107, [1, 0], 0), (.if_icmp .ge 96, [4], 0), (.iconst 0, [], 0), (.istore 4, [], 0), (.nop, [2], 0)],
  [(.iload 4, [], 0), (.bipush 8, [], 0), (.if_icmp .ge 80, [3], 0), (.aload_n 0, [], 0), (.getfield 19, [2, 2], 0), (.getfield 93, [1, 3], 0), (.iload_n 3, [], 0), (.bipush 8, [], 0), (.imul, [], 0), (.iload 4, [], 0), (.iadd, [], 0), (.iaload, [], 0), (.istore 5, [], 0), (.iload_n 2, [], 0), (.iconst 0, [], 0), (.aload_n 0, [], 0), (.getfield 15, [2, 1], 0), (.iload_n 1, [], 0), (.aload_n 0, [], 0), (.getfield 19, [2, 2], 0), (.getfield 49, [1, 1], 0), (.iload_n 3, [], 0), (.iaload, [], 0), (.iload 4, [], 0), (.invokevirtual 86, [71, 4, 0], 4), (.iload 5, [], 0), (.isub, [], 0), (.invokestatic 102, [0], 0), (.iadd, [], 0), (.istore_n 2, [], 0), (.iload_n 2, [], 0), (.iconst 0, [], 0), (.iload 5, [], 0), (.aload_n 0, [], 0), (.getfield 15, [2, 1], 0), (.getfield 27, [0, 9], 0), (.iload_n 1, [], 0), (.bipush 8, [], 0), (.imul, [], 0), (.iload 4, [], 0), (.iadd, [], 0), (.iaload, [], 0), (.isub, [], 0), (.invokestatic 102, [0], 0), (.iadd, [], 0), (.istore_n 2, [], 0), (.iinc 4 1, [], 0), (.goto (-81), [2], 0)],
  [(.iinc 3 1, [], 0), (.goto (-101), [1], 0)],
  [(.iload_n 2, [], 0), (.ireturn, [0], 0)]]
def am_s153 : List Nat := [0, 4, 18, 102, 108]
/-- WashLine.least()I -/
def am_b154 : List (List am_I) := [[(.aload_n 0, [], 0), (.getfield 53, [9, 6], 0), (.invokevirtual 332, [155, 1, 2], 1), (.istore_n 1, [], 0), (.aload_n 0, [], 0), (.aload_n 0, [], 0), (.getfield 53, [9, 6], 0), (.iload_n 1, [], 0), (.invokevirtual 329, [153, 2, 2], 2), (.aload_n 0, [], 0), (.getfield 37, [9, 4], 0), (.getfield 245, [0, 2], 0), (.iload_n 1, [], 0), (.iaload, [], 0), (.invokevirtual 131, [30, 3, 9], 3), (.ireturn, [0], 0)]]
def am_s154 : List Nat := [0]
/-- WashLine$Looks.leastDoubted()I -/
def am_b155 : List (List am_I) := [[(.iconst 0, [], 0), (.istore_n 1, [], 0), (.aload_n 0, [], 0), (.iconst 0, [], 0), (.invokevirtual 108, [153, 2, 2], 2), (.istore_n 2, [], 0), (.iconst 1, [], 0), (.istore_n 3, [], 0), (.nop, [1], 0)],
  [(.iload_n 3, [], 0), (.aload_n 0, [], 0), (.getfield 15, [2, 1], 0), (.getfield 76, [0, 1], 0), (.if_icmp .ge 54, [4], 0), (.aload_n 0, [], 0), (.iload_n 3, [], 0), (.invokevirtual 108, [153, 2, 2], 2), (.istore 4, [], 0), (.iload 4, [], 0), (.iload_n 2, [], 0), (.if_icmp .lt 30, [2], 0), (.iload 4, [], 0), (.iload_n 2, [], 0), (.if_icmp .ne 29, [3], 0), (.aload_n 0, [], 0), (.getfield 15, [2, 1], 0), (.getfield 90, [0, 3], 0), (.iload_n 3, [], 0), (.iaload, [], 0), (.aload_n 0, [], 0), (.getfield 15, [2, 1], 0), (.getfield 90, [0, 3], 0), (.iload_n 1, [], 0), (.iaload, [], 0), (.if_icmp .ge 8, [3], 0), (.nop, [2], 0)],
  [(.iload_n 3, [], 0), (.istore_n 1, [], 0), (.iload 4, [], 0), (.istore_n 2, [], 0), (.nop, [3], 0)],
  [(.iinc 3 1, [], 0), (.goto (-59), [1], 0)],
  [(.iload_n 1, [], 0), (.ireturn, [0], 0)]]
def am_s155 : List Nat := [0, 10, 61, 66, 72]
/-- WashLine.see(I)I -/
def am_b156 : List (List am_I) := [[(.iload_n 1, [], 0), (.invokestatic 203, [62, 1], 1), (.ifCond .ne 5, [1], 0), (.iconst (-1), [], 0), (.ireturn, [0], 0)],
  [(.aload_n 0, [], 0), (.getfield 71, [9, 8], 0), (.invokevirtual 263, [102, 1, 7], 1), (.aload_n 0, [], 0), (.getfield 71, [9, 8], 0), (.invokevirtual 266, [106, 1, 7], 1), (.ifCond .eq 13, [2], 0), (.aload_n 0, [], 0), (.getfield 44, [9, 5], 0), (.getfield 170, [1, 0], 0), (.ifCond .ne 9, [3], 0), (.nop, [2], 0)],
  [(.aload_n 0, [], 0), (.iconst 4, [], 0), (.invokevirtual 112, [24, 2, 9], 2), (.ireturn, [0], 0)],
  [(.iconst 0, [], 0), (.istore_n 2, [], 0), (.aload_n 0, [], 0), (.getfield 71, [9, 8], 0), (.iload_n 1, [], 0), (.iconst 0, [], 0), (.invokevirtual 335, [157, 3, 7], 3), (.istore_n 3, [], 0), (.iconst 1, [], 0), (.istore 4, [], 0), (.nop, [4], 0)],
  [(.iload 4, [], 0), (.bipush 8, [], 0), (.if_icmp .ge 33, [6], 0), (.aload_n 0, [], 0), (.getfield 71, [9, 8], 0), (.iload_n 1, [], 0), (.iload 4, [], 0), (.invokevirtual 335, [157, 3, 7], 3), (.istore 5, [], 0), (.iload 5, [], 0), (.iload_n 3, [], 0), (.if_icmp .le 9, [5], 0), (.iload 4, [], 0), (.istore_n 2, [], 0), (.iload 5, [], 0), (.istore_n 3, [], 0), (.nop, [5], 0)],
  [(.iinc 4 1, [], 0), (.goto (-34), [4], 0)],
  [(.aload_n 0, [], 0), (.iload_n 3, [], 0), (.iload_n 2, [], 0), (.invokevirtual 131, [30, 3, 9], 3), (.ireturn, [0], 0)]]
def am_s156 : List Nat := [0, 9, 36, 42, 57, 88, 94]
/-- WashLine$Winter.parted(II)I -/
def am_b157 : List (List am_I) := [[(.aload_n 0, [], 0), (.getfield 62, [7, 1], 0), (.getfield 75, [1, 0], 0), (.iconst 1, [], 0), (.isub, [], 0), (.istore_n 3, [], 0), (.aload_n 0, [], 0), (.getfield 55, [7, 17], 0), (.iconst 0, [], 0), (.invokestatic 114, [4, 2], 2), (.iconst 0, [], 0), (.istore 4, [], 0), (.nop, [1], 0)],
  [(.iload 4, [], 0), (.aload_n 0, [], 0), (.getfield 45, [7, 14], 0), (.iload_n 3, [], 0), (.iaload, [], 0), (.if_icmp .ge 40, [2], 0), (.aload_n 0, [], 0), (.getfield 55, [7, 17], 0), (.aload_n 0, [], 0), (.getfield 58, [7, 0], 0), (.aload_n 0, [], 0), (.getfield 42, [7, 13], 0), (.iload_n 3, [], 0), (.sipush 462, [], 0), (.imul, [], 0), (.iload 4, [], 0), (.iadd, [], 0), (.iaload, [], 0), (.iload_n 1, [], 0), (.iload_n 2, [], 0), (.invokevirtual 178, [71, 4, 0], 4), (.dup2, [], 0), (.iaload, [], 0), (.iconst 1, [], 0), (.iadd, [], 0), (.iastore, [], 0), (.iinc 4 1, [], 0), (.goto (-45), [1], 0)],
  [(.bipush 62, [], 0), (.istore 4, [], 0), (.nop, [3], 0)],
  [(.iload 4, [], 0), (.ifCond .lt 28, [4], 0), (.aload_n 0, [], 0), (.getfield 55, [7, 17], 0), (.iload 4, [], 0), (.dup2, [], 0), (.iaload, [], 0), (.aload_n 0, [], 0), (.getfield 55, [7, 17], 0), (.iload 4, [], 0), (.iconst 1, [], 0), (.iadd, [], 0), (.iaload, [], 0), (.iadd, [], 0), (.iastore, [], 0), (.iinc 4 (-1), [], 0), (.goto (-27), [3], 0)],
  [(.iconst 0, [], 0), (.istore 4, [], 0), (.iconst 0, [], 0), (.istore 5, [], 0), (.nop, [5], 0)],
  [(.iload 5, [], 0), (.aload_n 0, [], 0), (.getfield 45, [7, 14], 0), (.iload_n 3, [], 0), (.iaload, [], 0), (.if_icmp .ge 47, [6], 0), (.iload 4, [], 0), (.aload_n 0, [], 0), (.getfield 55, [7, 17], 0), (.aload_n 0, [], 0), (.getfield 58, [7, 0], 0), (.getfield 182, [0, 9], 0), (.aload_n 0, [], 0), (.getfield 42, [7, 13], 0), (.iload_n 3, [], 0), (.sipush 462, [], 0), (.imul, [], 0), (.iload 5, [], 0), (.iadd, [], 0), (.iaload, [], 0), (.bipush 8, [], 0), (.imul, [], 0), (.iload_n 2, [], 0), (.iadd, [], 0), (.iaload, [], 0), (.iconst 1, [], 0), (.iadd, [], 0), (.iaload, [], 0), (.iadd, [], 0), (.istore 4, [], 0), (.iinc 5 1, [], 0), (.goto (-52), [5], 0)],
  [(.iload 4, [], 0), (.ireturn, [0], 0)]]
def am_s157 : List Nat := [0, 21, 69, 73, 103, 109, 164]
/-- WashLine.asked()I -/
def am_b158 : List (List am_I) := [[(.aload_n 0, [], 0), (.getfield 92, [9, 12], 0), (.ireturn, [0], 0)]]
def am_s158 : List Nat := [0]
/-- WashLine.tales()J -/
def am_b159 : List (List am_I) := [[(.aload_n 0, [], 0), (.getfield 95, [9, 13], 0), (.lreturn, [], 0)]]
def am_s159 : List Nat := [0]
/-- WashLine.upper()J -/
def am_b160 : List (List am_I) := [[(.aload_n 0, [], 0), (.getfield 99, [9, 14], 0), (.lreturn, [], 0)]]
def am_s160 : List Nat := [0]
/-- WashLine.lower()J -/
def am_b161 : List (List am_I) := [[(.aload_n 0, [], 0), (.getfield 102, [9, 15], 0), (.lreturn, [], 0)]]
def am_s161 : List Nat := [0]
/-- WashLine.count(I)I -/
def am_b162 : List (List am_I) := [[(.iload_n 1, [], 0), (.tableswitch 87 0 5 #[39, 47, 55, 63, 71, 79], [7, 1, 2, 3, 4, 5, 6], 0)],
  [(.aload_n 0, [], 0), (.getfield 21, [9, 2], 0), (.getfield 176, [8, 0], 0), (.ireturn, [0], 0)],
  [(.aload_n 0, [], 0), (.getfield 44, [9, 5], 0), (.getfield 170, [1, 0], 0), (.ireturn, [0], 0)],
  [(.aload_n 0, [], 0), (.getfield 80, [9, 9], 0), (.getfield 171, [5, 2], 0), (.ireturn, [0], 0)],
  [(.aload_n 0, [], 0), (.getfield 80, [9, 9], 0), (.invokevirtual 338, [163, 1, 5], 1), (.ireturn, [0], 0)],
  [(.aload_n 0, [], 0), (.getfield 11, [9, 0], 0), (.invokestatic 341, [164, 1], 1), (.ireturn, [0], 0)],
  [(.aload_n 0, [], 0), (.getfield 15, [9, 1], 0), (.invokestatic 341, [164, 1], 1), (.ireturn, [0], 0)],
  [(.iconst (-1), [], 0), (.ireturn, [0], 0)]]
def am_s162 : List Nat := [0, 40, 48, 56, 64, 72, 80, 88]
/-- WashLine$Story.comes()I -/
def am_b163 : List (List am_I) := [[(.iconst 0, [], 0), (.istore_n 1, [], 0), (.iconst 0, [], 0), (.istore_n 2, [], 0), (.nop, [1], 0)],
  [(.iload_n 2, [], 0), (.aload_n 0, [], 0), (.getfield 9, [5, 2], 0), (.if_icmp .ge 26, [4], 0), (.iload_n 1, [], 0), (.aload_n 0, [], 0), (.iload_n 2, [], 0), (.iconst 1, [], 0), (.invokevirtual 48, [136, 3, 5], 3), (.ifCond .eq 7, [2], 0), (.iconst 1, [], 0), (.goto 4, [3], 0)],
  [(.iconst 0, [], 0), (.nop, [3], 0)],
  [(.iadd, [], 0), (.istore_n 1, [], 0), (.iinc 2 1, [], 0), (.goto (-28), [1], 0)],
  [(.iload_n 1, [], 0), (.ireturn, [0], 0)]]
def am_s163 : List Nat := [0, 4, 26, 27, 35]
/-- WashLine.there([LWashLine$Strip;)I -/
def am_b164 : List (List am_I) := [[(.iconst 0, [], 0), (.istore_n 1, [], 0), (.aload_n 0, [], 0), (.astore_n 2, [], 0), (.aload_n 2, [], 0), (.arraylength, [], 0), (.istore_n 3, [], 0), (.iconst 0, [], 0), (.istore 4, [], 0), (.nop, [1], 0)],
  [(.iload 4, [], 0), (.iload_n 3, [], 0), (.if_icmp .ge 26, [3], 0), (.aload_n 2, [], 0), (.iload 4, [], 0), (.aaload, [], 0), (.astore 5, [], 0), (.aload 5, [], 0), (.invokevirtual 120, [27, 1, 6], 1), (.ifCond .ne 6, [2], 0), (.iinc 1 1, [], 0), (.nop, [2], 0)],
  [(.iinc 4 1, [], 0), (.goto (-26), [1], 0)],
  [(.iload_n 1, [], 0), (.ireturn, [0], 0)]]
def am_s164 : List Nat := [0, 10, 33, 39]
/-- WashLine.finding()I -/
def am_b165 : List (List am_I) := [[(.aload_n 0, [], 0), (.getfield 88, [9, 11], 0), (.ireturn, [0], 0)]]
def am_s165 : List Nat := [0]
/-- WashLine.findings(I)I -/
def am_b166 : List (List am_I) := [[(.iload_n 1, [], 0), (.iconst 1, [], 0), (.if_icmp .lt 17, [1], 0), (.iload_n 1, [], 0), (.iconst 5, [], 0), (.if_icmp .gt 12, [1], 0), (.aload_n 0, [], 0), (.getfield 84, [9, 10], 0), (.iload_n 1, [], 0), (.iaload, [], 0), (.goto 4, [2], 0)],
  [(.iconst (-1), [], 0), (.nop, [2], 0)],
  [(.ireturn, [0], 0)]]
def am_s166 : List Nat := [0, 19, 20]
/-- WashLine.digest()J -/
def am_b167 : List (List am_I) := [[(.ldc2_w 345, [], 17), (.lstore_n 1, [], 0), (.iconst 0, [], 0), (.istore_n 3, [], 0), (.nop, [1], 0)],
  [(.iload_n 3, [], 0), (.bipush 6, [], 0), (.if_icmp .ge 22, [2], 0), (.ldc2_w 347, [], 31), (.lload_n 1, [], 0), (.lmul, [], 0), (.aload_n 0, [], 0), (.iload_n 3, [], 0), (.invokevirtual 349, [162, 2, 9], 2), (.i2l, [], 0), (.ladd, [], 0), (.lstore_n 1, [], 0), (.iinc 3 1, [], 0), (.goto (-22), [1], 0)],
  [(.aload_n 0, [], 0), (.getfield 21, [9, 2], 0), (.lload_n 1, [], 0), (.invokevirtual 352, [168, 2, 8], 3), (.lstore_n 1, [], 0), (.aload_n 0, [], 0), (.getfield 44, [9, 5], 0), (.lload_n 1, [], 0), (.invokevirtual 356, [169, 2, 1], 3), (.lstore_n 1, [], 0), (.aload_n 0, [], 0), (.getfield 80, [9, 9], 0), (.lload_n 1, [], 0), (.invokevirtual 357, [170, 2, 5], 3), (.lstore_n 1, [], 0), (.aload_n 0, [], 0), (.getfield 11, [9, 0], 0), (.astore_n 3, [], 0), (.aload_n 3, [], 0), (.arraylength, [], 0), (.istore 4, [], 0), (.iconst 0, [], 0), (.istore 5, [], 0), (.nop, [3], 0)],
  [(.iload 5, [], 0), (.iload 4, [], 0), (.if_icmp .ge 22, [4], 0), (.aload_n 3, [], 0), (.iload 5, [], 0), (.aaload, [], 0), (.astore 6, [], 0), (.aload 6, [], 0), (.lload_n 1, [], 0), (.invokevirtual 358, [171, 2, 6], 3), (.lstore_n 1, [], 0), (.iinc 5 1, [], 0), (.goto (-23), [3], 0)],
  [(.aload_n 0, [], 0), (.getfield 15, [9, 1], 0), (.astore_n 3, [], 0), (.aload_n 3, [], 0), (.arraylength, [], 0), (.istore 4, [], 0), (.iconst 0, [], 0), (.istore 5, [], 0), (.nop, [5], 0)],
  [(.iload 5, [], 0), (.iload 4, [], 0), (.if_icmp .ge 22, [6], 0), (.aload_n 3, [], 0), (.iload 5, [], 0), (.aaload, [], 0), (.astore 6, [], 0), (.aload 6, [], 0), (.lload_n 1, [], 0), (.invokevirtual 358, [171, 2, 6], 3), (.lstore_n 1, [], 0), (.iinc 5 1, [], 0), (.goto (-23), [5], 0)],
  [(.lload_n 1, [], 0), (.lreturn, [], 0)]]
def am_s167 : List Nat := [0, 6, 31, 70, 96, 108, 134]
/-- WashLine$World.digestOn(J)J -/
def am_b168 : List (List am_I) := [[(.lload_n 1, [], 0), (.lstore_n 3, [], 0), (.iconst 0, [], 0), (.istore 5, [], 0), (.nop, [1], 0)],
  [(.iload 5, [], 0), (.aload_n 0, [], 0), (.getfield 27, [8, 0], 0), (.if_icmp .ge 79, [4], 0), (.ldc2_w 46, [], 31), (.lload_n 3, [], 0), (.lmul, [], 0), (.aload_n 0, [], 0), (.getfield 9, [8, 1], 0), (.iload 5, [], 0), (.iaload, [], 0), (.i2l, [], 0), (.ladd, [], 0), (.lstore_n 3, [], 0), (.iload 5, [], 0), (.bipush 8, [], 0), (.imul, [], 0), (.istore 6, [], 0), (.nop, [2], 0)],
  [(.iload 6, [], 0), (.iload 5, [], 0), (.iconst 1, [], 0), (.iadd, [], 0), (.bipush 8, [], 0), (.imul, [], 0), (.if_icmp .ge 39, [3], 0), (.ldc2_w 46, [], 31), (.lload_n 3, [], 0), (.lmul, [], 0), (.aload_n 0, [], 0), (.getfield 15, [8, 2], 0), (.iload 6, [], 0), (.iaload, [], 0), (.i2l, [], 0), (.ladd, [], 0), (.lstore_n 3, [], 0), (.ldc2_w 46, [], 31), (.lload_n 3, [], 0), (.lmul, [], 0), (.aload_n 0, [], 0), (.getfield 18, [8, 3], 0), (.iload 6, [], 0), (.iaload, [], 0), (.i2l, [], 0), (.ladd, [], 0), (.lstore_n 3, [], 0), (.iinc 6 1, [], 0), (.goto (-45), [2], 0)],
  [(.iinc 5 1, [], 0), (.goto (-82), [1], 0)],
  [(.ldc2_w 46, [], 31), (.lload_n 3, [], 0), (.lmul, [], 0), (.aload_n 0, [], 0), (.getfield 31, [8, 4], 0), (.i2l, [], 0), (.ladd, [], 0), (.lstore_n 3, [], 0), (.aload_n 0, [], 0), (.getfield 21, [8, 5], 0), (.astore 5, [], 0), (.aload 5, [], 0), (.arraylength, [], 0), (.istore 6, [], 0), (.iconst 0, [], 0), (.istore 7, [], 0), (.nop, [5], 0)],
  [(.iload 7, [], 0), (.iload 6, [], 0), (.if_icmp .ge 26, [6], 0), (.aload 5, [], 0), (.iload 7, [], 0), (.iaload, [], 0), (.istore 8, [], 0), (.ldc2_w 46, [], 31), (.lload_n 3, [], 0), (.lmul, [], 0), (.iload 8, [], 0), (.i2l, [], 0), (.ladd, [], 0), (.lstore_n 3, [], 0), (.iinc 7 1, [], 0), (.goto (-27), [5], 0)],
  [(.lload_n 3, [], 0), (.lreturn, [], 0)]]
def am_s168 : List Nat := [0, 5, 36, 84, 90, 116, 146]
/-- WashLine$Line.digestOn(J)J -/
def am_b169 : List (List am_I) := [[(.lload_n 1, [], 0), (.lstore_n 3, [], 0), (.iconst 0, [], 0), (.istore 5, [], 0), (.nop, [1], 0)],
  [(.iload 5, [], 0), (.aload_n 0, [], 0), (.getfield 9, [1, 0], 0), (.if_icmp .ge 41, [4], 0), (.iconst 0, [], 0), (.istore 6, [], 0), (.nop, [2], 0)],
  [(.iload 6, [], 0), (.bipush 10, [], 0), (.if_icmp .ge 25, [3], 0), (.ldc2_w 31, [], 31), (.lload_n 3, [], 0), (.lmul, [], 0), (.aload_n 0, [], 0), (.iload 5, [], 0), (.iload 6, [], 0), (.invokevirtual 33, [68, 3, 1], 3), (.i2l, [], 0), (.ladd, [], 0), (.lstore_n 3, [], 0), (.iinc 6 1, [], 0), (.goto (-26), [2], 0)],
  [(.iinc 5 1, [], 0), (.goto (-44), [1], 0)],
  [(.lload_n 3, [], 0), (.lreturn, [], 0)]]
def am_s169 : List Nat := [0, 5, 17, 46, 52]
/-- WashLine$Story.digestOn(J)J -/
def am_b170 : List (List am_I) := [[(.lload_n 1, [], 0), (.lstore_n 3, [], 0), (.iconst 0, [], 0), (.istore 5, [], 0), (.nop, [1], 0)],
  [(.iload 5, [], 0), (.aload_n 0, [], 0), (.getfield 9, [5, 2], 0), (.if_icmp .ge 40, [4], 0), (.iconst 0, [], 0), (.istore 6, [], 0), (.nop, [2], 0)],
  [(.iload 6, [], 0), (.iconst 4, [], 0), (.if_icmp .ge 25, [3], 0), (.ldc2_w 131, [], 31), (.lload_n 3, [], 0), (.lmul, [], 0), (.aload_n 0, [], 0), (.iload 5, [], 0), (.iload 6, [], 0), (.invokevirtual 133, [134, 3, 5], 3), (.i2l, [], 0), (.ladd, [], 0), (.lstore_n 3, [], 0), (.iinc 6 1, [], 0), (.goto (-25), [2], 0)],
  [(.iinc 5 1, [], 0), (.goto (-43), [1], 0)],
  [(.lload_n 3, [], 0), (.lreturn, [], 0)]]
def am_s170 : List Nat := [0, 5, 17, 45, 51]
/-- WashLine$Strip.digestOn(J)J -/
def am_b171 : List (List am_I) := [[(.ldc2_w 23, [], 31), (.lload_n 1, [], 0), (.lmul, [], 0), (.aload_n 0, [], 0), (.getfield 7, [6, 1], 0), (.i2l, [], 0), (.ladd, [], 0), (.lstore_n 3, [], 0), (.iconst 0, [], 0), (.istore 5, [], 0), (.nop, [1], 0)],
  [(.iload 5, [], 0), (.aload_n 0, [], 0), (.getfield 7, [6, 1], 0), (.if_icmp .ge 24, [2], 0), (.ldc2_w 23, [], 31), (.lload_n 3, [], 0), (.lmul, [], 0), (.aload_n 0, [], 0), (.getfield 13, [6, 0], 0), (.iload 5, [], 0), (.iaload, [], 0), (.i2l, [], 0), (.ladd, [], 0), (.lstore_n 3, [], 0), (.iinc 5 1, [], 0), (.goto (-27), [1], 0)],
  [(.lload_n 3, [], 0), (.lreturn, [], 0)]]
def am_s171 : List Nat := [0, 15, 45]
/-- WashLineModel.<init>()V -/
def am_b172 : List (List am_I) := [[(.aload_n 0, [], 0), (.invokespecial 1, [], 0), (.aload_n 0, [], 0), (.bipush 6, [], 0), (.newarray .int, [], 0), (.putfield 7, [10, 1], 0), (.aload_n 0, [], 0), (.lconst 1, [], 0), (.putfield 13, [10, 5], 0), (.aload_n 0, [], 0), (.bipush 6, [], 0), (.newarray .int, [], 0), (.putfield 17, [10, 6], 0), (.aload_n 0, [], 0), (.sipush 240, [], 0), (.newarray .int, [], 0), (.putfield 20, [10, 7], 0), (.aload_n 0, [], 0), (.bipush 40, [], 0), (.newarray .int, [], 0), (.putfield 23, [10, 8], 0), (.aload_n 0, [], 0), (.iconst 4, [], 0), (.newarray .int, [], 0), (.putfield 26, [10, 9], 0), (.aload_n 0, [], 0), (.sipush 480, [], 0), (.newarray .int, [], 0), (.putfield 29, [10, 10], 0), (.aload_n 0, [], 0), (.bipush 6, [], 0), (.newarray .int, [], 0), (.putfield 32, [10, 12], 0), (.aload_n 0, [], 0), (.bipush 48, [], 0), (.newarray .int, [], 0), (.putfield 35, [10, 13], 0), (.aload_n 0, [], 0), (.bipush 48, [], 0), (.newarray .int, [], 0), (.putfield 38, [10, 14], 0), (.aload_n 0, [], 0), (.iconst 5, [], 0), (.newarray .int, [], 0), (.putfield 41, [10, 16], 0), (.aload_n 0, [], 0), (.bipush 6, [], 0), (.newarray .int, [], 0), (.putfield 44, [10, 18], 0), (.aload_n 0, [], 0), (.bipush 48, [], 0), (.newarray .int, [], 0), (.putfield 47, [10, 19], 0), (.aload_n 0, [], 0), (.bipush 48, [], 0), (.newarray .int, [], 0), (.putfield 50, [10, 20], 0), (.aload_n 0, [], 0), (.iconst 5, [], 0), (.newarray .int, [], 0), (.putfield 53, [10, 22], 0), (.aload_n 0, [], 0), (.bipush 120, [], 0), (.newarray .int, [], 0), (.putfield 56, [10, 26], 0), (.aload_n 0, [], 0), (.sipush 462, [], 0), (.newarray .int, [], 0), (.putfield 59, [10, 28], 0), (.aload_n 0, [], 0), (.sipush 2772, [], 0), (.newarray .int, [], 0), (.putfield 62, [10, 29], 0), (.aload_n 0, [], 0), (.ldc 65, [], 213444), (.newarray .int, [], 0), (.putfield 66, [10, 32], 0), (.aload_n 0, [], 0), (.sipush 462, [], 0), (.newarray .int, [], 0), (.putfield 69, [10, 33], 0), (.aload_n 0, [], 0), (.sipush 462, [], 0), (.newarray .boolean, [], 0), (.putfield 72, [10, 34], 0), (.aload_n 0, [], 0), (.sipush 8316, [], 0), (.newarray .int, [], 0), (.putfield 76, [10, 35], 0), (.aload_n 0, [], 0), (.sipush 5544, [], 0), (.newarray .int, [], 0), (.putfield 79, [10, 36], 0), (.aload_n 0, [], 0), (.sipush 5544, [], 0), (.newarray .int, [], 0), (.putfield 82, [10, 37], 0), (.aload_n 0, [], 0), (.sipush 5544, [], 0), (.newarray .int, [], 0), (.putfield 85, [10, 38], 0), (.aload_n 0, [], 0), (.bipush 12, [], 0), (.newarray .int, [], 0), (.putfield 88, [10, 40], 0), (.aload_n 0, [], 0), (.sipush 5544, [], 0), (.newarray .long, [], 0), (.putfield 91, [10, 41], 0), (.aload_n 0, [], 0), (.sipush 5544, [], 0), (.newarray .long, [], 0), (.putfield 95, [10, 42], 0), (.aload_n 0, [], 0), (.bipush 64, [], 0), (.newarray .int, [], 0), (.putfield 98, [10, 44], 0), (.aload_n 0, [], 0), (.bipush 8, [], 0), (.newarray .int, [], 0), (.putfield 101, [10, 45], 0), (.aload_n 0, [], 0), (.bipush 8, [], 0), (.newarray .int, [], 0), (.putfield 104, [10, 46], 0), (.iconst 0, [], 0), (.istore_n 1, [], 0), (.nop, [1], 0)],
  [(.iload_n 1, [], 0), (.bipush 6, [], 0), (.if_icmp .ge 17, [2], 0), (.aload_n 0, [], 0), (.getfield 17, [10, 6], 0), (.iload_n 1, [], 0), (.bipush (-9), [], 0), (.iastore, [], 0), (.iinc 1 1, [], 0), (.goto (-17), [1], 0)],
  [(.iconst 0, [], 0), (.istore_n 1, [], 0), (.nop, [3], 0)],
  [(.iload_n 1, [], 0), (.iconst 4, [], 0), (.if_icmp .ge 17, [4], 0), (.aload_n 0, [], 0), (.getfield 26, [10, 9], 0), (.iload_n 1, [], 0), (.bipush (-9), [], 0), (.iastore, [], 0), (.iinc 1 1, [], 0), (.goto (-16), [3], 0)],
  [(.aload_n 0, [], 0), (.invokevirtual 107, [173, 1, 10], 1), (.aload_n 0, [], 0), (.invokevirtual 110, [174, 1, 10], 1), (.return_, [], 0)]]
def am_s172 : List Nat := [0, 260, 280, 282, 301]
/-- WashLineModel.wipeRead()V -/
def am_b173 : List (List am_I) := [[(.aload_n 0, [], 0), (.iconst 0, [], 0), (.putfield 154, [10, 17], 0), (.aload_n 0, [], 0), (.iconst 0, [], 0), (.putfield 157, [10, 21], 0), (.iconst 0, [], 0), (.istore_n 1, [], 0), (.nop, [1], 0)],
  [(.iload_n 1, [], 0), (.bipush 48, [], 0), (.if_icmp .ge 23, [2], 0), (.aload_n 0, [], 0), (.getfield 47, [10, 19], 0), (.iload_n 1, [], 0), (.iconst 0, [], 0), (.iastore, [], 0), (.aload_n 0, [], 0), (.getfield 50, [10, 20], 0), (.iload_n 1, [], 0), (.iconst 0, [], 0), (.iastore, [], 0), (.iinc 1 1, [], 0), (.goto (-23), [1], 0)],
  [(.iconst 0, [], 0), (.istore_n 1, [], 0), (.nop, [3], 0)],
  [(.iload_n 1, [], 0), (.iconst 5, [], 0), (.if_icmp .ge 34, [7], 0), (.aload_n 0, [], 0), (.getfield 53, [10, 22], 0), (.iload_n 1, [], 0), (.iload_n 1, [], 0), (.iconst 2, [], 0), (.if_icmp .ge 7, [4], 0), (.iconst 3, [], 0), (.goto 13, [6], 0)],
  [(.iload_n 1, [], 0), (.iconst 2, [], 0), (.if_icmp .ne 7, [5], 0), (.iconst 1, [], 0), (.goto 4, [6], 0)],
  [(.iconst 2, [], 0), (.nop, [6], 0)],
  [(.iastore, [], 0), (.iinc 1 1, [], 0), (.goto (-33), [3], 0)],
  [(.return_, [], 0)]]
def am_s173 : List Nat := [0, 12, 38, 40, 59, 68, 69, 76]
/-- WashLineModel.takeWorld()V -/
def am_b174 : List (List am_I) := [[(.aload_n 0, [], 0), (.aload_n 0, [], 0), (.getfield 154, [10, 17], 0), (.putfield 188, [10, 11], 0), (.aload_n 0, [], 0), (.aload_n 0, [], 0), (.getfield 157, [10, 21], 0), (.putfield 191, [10, 15], 0), (.iconst 0, [], 0), (.istore_n 1, [], 0), (.nop, [1], 0)],
  [(.iload_n 1, [], 0), (.aload_n 0, [], 0), (.getfield 188, [10, 11], 0), (.if_icmp .ge 45, [4], 0), (.aload_n 0, [], 0), (.getfield 32, [10, 12], 0), (.iload_n 1, [], 0), (.aload_n 0, [], 0), (.getfield 44, [10, 18], 0), (.iload_n 1, [], 0), (.iaload, [], 0), (.iconst 0, [], 0), (.aload_n 0, [], 0), (.getfield 188, [10, 11], 0), (.iconst 1, [], 0), (.isub, [], 0), (.invokestatic 123, [175, 3], 3), (.ifCond .eq 12, [2], 0), (.aload_n 0, [], 0), (.getfield 44, [10, 18], 0), (.iload_n 1, [], 0), (.iaload, [], 0), (.goto 5, [3], 0)],
  [(.bipush (-9), [], 0), (.nop, [3], 0)],
  [(.iastore, [], 0), (.iinc 1 1, [], 0), (.goto (-47), [1], 0)],
  [(.iconst 0, [], 0), (.istore_n 1, [], 0), (.nop, [5], 0)],
  [(.iload_n 1, [], 0), (.bipush 48, [], 0), (.if_icmp .ge 33, [6], 0), (.aload_n 0, [], 0), (.getfield 35, [10, 13], 0), (.iload_n 1, [], 0), (.aload_n 0, [], 0), (.getfield 47, [10, 19], 0), (.iload_n 1, [], 0), (.iaload, [], 0), (.iastore, [], 0), (.aload_n 0, [], 0), (.getfield 38, [10, 14], 0), (.iload_n 1, [], 0), (.aload_n 0, [], 0), (.getfield 50, [10, 20], 0), (.iload_n 1, [], 0), (.iaload, [], 0), (.iastore, [], 0), (.iinc 1 1, [], 0), (.goto (-33), [5], 0)],
  [(.iconst 0, [], 0), (.istore_n 1, [], 0), (.nop, [7], 0)],
  [(.iload_n 1, [], 0), (.iconst 5, [], 0), (.if_icmp .ge 21, [8], 0), (.aload_n 0, [], 0), (.getfield 41, [10, 16], 0), (.iload_n 1, [], 0), (.aload_n 0, [], 0), (.getfield 53, [10, 22], 0), (.iload_n 1, [], 0), (.iaload, [], 0), (.iastore, [], 0), (.iinc 1 1, [], 0), (.goto (-20), [7], 0)],
  [(.aload_n 0, [], 0), (.iconst 0, [], 0), (.putfield 194, [10, 25], 0), (.aload_n 0, [], 0), (.iconst 0, [], 0), (.putfield 197, [10, 43], 0), (.aload_n 0, [], 0), (.invokevirtual 200, [176, 1, 10], 1), (.aload_n 0, [], 0), (.iconst 0, [], 0), (.putfield 203, [10, 31], 0), (.return_, [], 0)]]
def am_s174 : List Nat := [0, 18, 59, 61, 68, 70, 106, 108, 131]
/-- WashLineModel.in(III)Z -/
def am_b175 : List (List am_I) := [[(.iload_n 0, [], 0), (.iload_n 1, [], 0), (.if_icmp .lt 12, [1], 0), (.iload_n 0, [], 0), (.iload_n 2, [], 0), (.if_icmp .gt 7, [1], 0), (.iconst 1, [], 0), (.goto 4, [2], 0)],
  [(.iconst 0, [], 0), (.nop, [2], 0)],
  [(.ireturn, [1], 0)]]
def am_s175 : List Nat := [0, 14, 15]
/-- WashLineModel.setHouses()V -/
def am_b176 : List (List am_I) := [[(.aload_n 0, [], 0), (.iconst 0, [], 0), (.putfield 219, [10, 27], 0), (.iconst 1, [], 0), (.istore_n 1, [], 0), (.iconst 0, [], 0), (.istore_n 2, [], 0), (.nop, [1], 0)],
  [(.iload_n 2, [], 0), (.aload_n 0, [], 0), (.getfield 188, [10, 11], 0), (.if_icmp .ge 14, [2], 0), (.iload_n 1, [], 0), (.bipush 10, [], 0), (.imul, [], 0), (.istore_n 1, [], 0), (.iinc 2 1, [], 0), (.goto (-16), [1], 0)],
  [(.iconst 0, [], 0), (.istore_n 2, [], 0), (.nop, [3], 0)],
  [(.iload_n 2, [], 0), (.iload_n 1, [], 0), (.if_icmp .ge 108, [9], 0), (.iconst 0, [], 0), (.istore_n 3, [], 0), (.iload_n 2, [], 0), (.istore 4, [], 0), (.nop, [4], 0)],
  [(.iload 4, [], 0), (.ifCond .le 21, [5], 0), (.iload_n 3, [], 0), (.iload 4, [], 0), (.bipush 10, [], 0), (.irem, [], 0), (.iadd, [], 0), (.istore_n 3, [], 0), (.iload 4, [], 0), (.bipush 10, [], 0), (.idiv, [], 0), (.istore 4, [], 0), (.goto (-20), [4], 0)],
  [(.iload_n 3, [], 0), (.iconst 5, [], 0), (.if_icmp .gt 69, [8], 0), (.aload_n 0, [], 0), (.getfield 59, [10, 28], 0), (.aload_n 0, [], 0), (.getfield 219, [10, 27], 0), (.iload_n 2, [], 0), (.iastore, [], 0), (.iload_n 2, [], 0), (.istore 4, [], 0), (.iconst 0, [], 0), (.istore 5, [], 0), (.nop, [6], 0)],
  [(.iload 5, [], 0), (.bipush 6, [], 0), (.if_icmp .ge 36, [7], 0), (.aload_n 0, [], 0), (.getfield 62, [10, 29], 0), (.bipush 6, [], 0), (.aload_n 0, [], 0), (.getfield 219, [10, 27], 0), (.imul, [], 0), (.iload 5, [], 0), (.iadd, [], 0), (.iload 4, [], 0), (.bipush 10, [], 0), (.irem, [], 0), (.iastore, [], 0), (.iload 4, [], 0), (.bipush 10, [], 0), (.idiv, [], 0), (.istore 4, [], 0), (.iinc 5 1, [], 0), (.goto (-37), [6], 0)],
  [(.aload_n 0, [], 0), (.dup, [], 0), (.getfield 219, [10, 27], 0), (.iconst 1, [], 0), (.iadd, [], 0), (.putfield 219, [10, 27], 0), (.nop, [8], 0)],
  [(.iinc 2 1, [], 0), (.goto (-107), [3], 0)],
  [(.return_, [], 0)]]
def am_s176 : List Nat := [0, 9, 28, 30, 40, 63, 84, 124, 134, 140]
/-- WashLineModel.row(II)I -/
def am_b177 : List (List am_I) := [[(.iload_n 1, [], 0), (.invokestatic 127, [178, 1], 1), (.ifCond .eq 9, [1], 0), (.iload_n 2, [], 0), (.bipush 40, [], 0), (.if_icmp .le 5, [2], 0), (.nop, [1], 0)],
  [(.iconst (-1), [], 0), (.ireturn, [0], 0)],
  [(.iload_n 2, [], 0), (.ifCond .ge 9, [3], 0), (.aload_n 0, [], 0), (.iconst 5, [], 0), (.invokevirtual 131, [179, 2, 10], 2), (.ireturn, [0], 0)],
  [(.aload_n 0, [], 0), (.getfield 17, [10, 6], 0), (.iload_n 1, [], 0), (.iload_n 2, [], 0), (.iastore, [], 0), (.iconst 0, [], 0), (.istore_n 3, [], 0), (.nop, [4], 0)],
  [(.iload_n 3, [], 0), (.bipush 40, [], 0), (.if_icmp .ge 21, [5], 0), (.aload_n 0, [], 0), (.getfield 20, [10, 7], 0), (.bipush 40, [], 0), (.iload_n 1, [], 0), (.imul, [], 0), (.iload_n 3, [], 0), (.iadd, [], 0), (.iconst 0, [], 0), (.iastore, [], 0), (.iinc 3 1, [], 0), (.goto (-21), [4], 0)],
  [(.iload_n 2, [], 0), (.ireturn, [0], 0)]]
def am_s177 : List Nat := [0, 13, 15, 25, 34, 58]
/-- WashLineModel.isRow(I)Z -/
def am_b178 : List (List am_I) := [[(.iload_n 0, [], 0), (.iconst 0, [], 0), (.iconst 5, [], 0), (.invokestatic 123, [175, 3], 3), (.ireturn, [1], 0)]]
def am_s178 : List Nat := [0]
/-- WashLineModel.meets(I)I -/
def am_b179 : List (List am_I) := [[(.aload_n 0, [], 0), (.iload_n 1, [], 0), (.putfield 113, [10, 0], 0), (.aload_n 0, [], 0), (.getfield 7, [10, 1], 0), (.iload_n 1, [], 0), (.dup2, [], 0), (.iaload, [], 0), (.iconst 1, [], 0), (.iadd, [], 0), (.iastore, [], 0), (.bipush (-3), [], 0), (.ireturn, [0], 0)]]
def am_s179 : List Nat := [0]
/-- WashLineModel.at(II)I -/
def am_b180 : List (List am_I) := [[(.aload_n 0, [], 0), (.iload_n 1, [], 0), (.invokevirtual 138, [181, 2, 10], 2), (.istore_n 3, [], 0), (.iload_n 3, [], 0), (.ifCond .ge 5, [1], 0), (.iload_n 3, [], 0), (.ireturn, [0], 0)],
  [(.iload_n 2, [], 0), (.iconst 0, [], 0), (.aload_n 0, [], 0), (.getfield 17, [10, 6], 0), (.iload_n 1, [], 0), (.iaload, [], 0), (.iconst 1, [], 0), (.isub, [], 0), (.invokestatic 123, [175, 3], 3), (.ifCond .eq 17, [2], 0), (.aload_n 0, [], 0), (.aload_n 0, [], 0), (.iload_n 1, [], 0), (.iload_n 2, [], 0), (.invokevirtual 141, [182, 3, 10], 3), (.iconst 1, [], 0), (.invokevirtual 145, [183, 3, 10], 3), (.goto 8, [3], 0)],
  [(.aload_n 0, [], 0), (.iconst 2, [], 0), (.invokevirtual 131, [179, 2, 10], 2), (.nop, [3], 0)],
  [(.ireturn, [0], 0)]]
def am_s180 : List Nat := [0, 12, 42, 47]
/-- WashLineModel.askedRow(I)I -/
def am_b181 : List (List am_I) := [[(.iload_n 1, [], 0), (.invokestatic 127, [178, 1], 1), (.ifCond .ne 7, [1], 0), (.iconst (-1), [], 0), (.goto 21, [3], 0)],
  [(.aload_n 0, [], 0), (.getfield 17, [10, 6], 0), (.iload_n 1, [], 0), (.iaload, [], 0), (.ifCond .ge 11, [2], 0), (.aload_n 0, [], 0), (.iconst 1, [], 0), (.invokevirtual 131, [179, 2, 10], 2), (.goto 4, [3], 0)],
  [(.iconst 0, [], 0), (.nop, [3], 0)],
  [(.ireturn, [0], 0)]]
def am_s181 : List Nat := [0, 11, 28, 29]
/-- WashLineModel.rowAt(II)I -/
def am_b182 : List (List am_I) := [[(.aload_n 0, [], 0), (.getfield 20, [10, 7], 0), (.bipush 40, [], 0), (.iload_n 1, [], 0), (.imul, [], 0), (.iload_n 2, [], 0), (.iadd, [], 0), (.iaload, [], 0), (.ireturn, [0], 0)]]
def am_s182 : List Nat := [0]
/-- WashLineModel.ask(II)I -/
def am_b183 : List (List am_I) := [[(.aload_n 0, [], 0), (.iload_n 1, [], 0), (.putfield 117, [10, 2], 0), (.iload_n 2, [], 0), (.ireturn, [0], 0)]]
def am_s183 : List Nat := [0]
/-- WashLineModel.lay(III)I -/
def am_b184 : List (List am_I) := [[(.aload_n 0, [], 0), (.iload_n 1, [], 0), (.iload_n 2, [], 0), (.invokevirtual 148, [180, 3, 10], 3), (.istore 4, [], 0), (.iload 4, [], 0), (.ifCond .ge 6, [1], 0), (.iload 4, [], 0), (.ireturn, [0], 0)],
  [(.aload_n 0, [], 0), (.getfield 20, [10, 7], 0), (.bipush 40, [], 0), (.iload_n 1, [], 0), (.imul, [], 0), (.iload_n 2, [], 0), (.iadd, [], 0), (.iload_n 3, [], 0), (.iastore, [], 0), (.iconst 1, [], 0), (.ireturn, [0], 0)]]
def am_s184 : List Nat := [0, 16]
/-- WashLineModel.tear(I)I -/
def am_b185 : List (List am_I) := [[(.aload_n 0, [], 0), (.iload_n 1, [], 0), (.invokevirtual 138, [181, 2, 10], 2), (.istore_n 2, [], 0), (.iload_n 2, [], 0), (.ifCond .ge 5, [1], 0), (.iload_n 2, [], 0), (.ireturn, [0], 0)],
  [(.aload_n 0, [], 0), (.getfield 17, [10, 6], 0), (.iload_n 1, [], 0), (.bipush (-9), [], 0), (.iastore, [], 0), (.iconst 1, [], 0), (.ireturn, [0], 0)]]
def am_s185 : List Nat := [0, 12]
/-- WashLineModel.copy(IIIII)I -/
def am_b186 : List (List am_I) := [[(.iload_n 1, [], 0), (.invokestatic 127, [178, 1], 1), (.ifCond .eq 10, [1], 0), (.iload_n 3, [], 0), (.invokestatic 127, [178, 1], 1), (.ifCond .ne 5, [2], 0), (.nop, [1], 0)],
  [(.iconst (-1), [], 0), (.ireturn, [0], 0)],
  [(.iload 5, [], 0), (.ifCond .ge 9, [3], 0), (.aload_n 0, [], 0), (.iconst 5, [], 0), (.invokevirtual 131, [179, 2, 10], 2), (.ireturn, [0], 0)],
  [(.aload_n 0, [], 0), (.getfield 17, [10, 6], 0), (.iload_n 1, [], 0), (.iaload, [], 0), (.ifCond .lt 12, [4], 0), (.aload_n 0, [], 0), (.getfield 17, [10, 6], 0), (.iload_n 3, [], 0), (.iaload, [], 0), (.ifCond .ge 9, [5], 0), (.nop, [4], 0)],
  [(.aload_n 0, [], 0), (.iconst 1, [], 0), (.invokevirtual 131, [179, 2, 10], 2), (.ireturn, [0], 0)],
  [(.iload_n 2, [], 0), (.ifCond .lt 43, [6], 0), (.iload 4, [], 0), (.ifCond .lt 38, [6], 0), (.iload_n 2, [], 0), (.i2l, [], 0), (.iload 5, [], 0), (.i2l, [], 0), (.ladd, [], 0), (.aload_n 0, [], 0), (.getfield 17, [10, 6], 0), (.iload_n 1, [], 0), (.iaload, [], 0), (.i2l, [], 0), (.lcmp, [], 0), (.ifCond .gt 21, [6], 0), (.iload 4, [], 0), (.i2l, [], 0), (.iload 5, [], 0), (.i2l, [], 0), (.ladd, [], 0), (.aload_n 0, [], 0), (.getfield 17, [10, 6], 0), (.iload_n 3, [], 0), (.iaload, [], 0), (.i2l, [], 0), (.lcmp, [], 0), (.ifCond .le 9, [7], 0), (.nop, [6], 0)],
  [(.aload_n 0, [], 0), (.iconst 2, [], 0), (.invokevirtual 131, [179, 2, 10], 2), (.ireturn, [0], 0)],
  [(.iconst 0, [], 0), (.istore 6, [], 0), (.nop, [8], 0)],
  [(.iload 6, [], 0), (.iload 5, [], 0), (.if_icmp .ge 25, [9], 0), (.aload_n 0, [], 0), (.getfield 23, [10, 8], 0), (.iload 6, [], 0), (.aload_n 0, [], 0), (.iload_n 1, [], 0), (.iload_n 2, [], 0), (.iload 6, [], 0), (.iadd, [], 0), (.invokevirtual 141, [182, 3, 10], 3), (.iastore, [], 0), (.iinc 6 1, [], 0), (.goto (-26), [8], 0)],
  [(.iconst 0, [], 0), (.istore 6, [], 0), (.nop, [10], 0)],
  [(.iload 6, [], 0), (.iload 5, [], 0), (.if_icmp .ge 31, [11], 0), (.aload_n 0, [], 0), (.getfield 20, [10, 7], 0), (.bipush 40, [], 0), (.iload_n 3, [], 0), (.imul, [], 0), (.iload 4, [], 0), (.iadd, [], 0), (.iload 6, [], 0), (.iadd, [], 0), (.aload_n 0, [], 0), (.getfield 23, [10, 8], 0), (.iload 6, [], 0), (.iaload, [], 0), (.iastore, [], 0), (.iinc 6 1, [], 0), (.goto (-32), [10], 0)],
  [(.iconst 1, [], 0), (.ireturn, [0], 0)]]
def am_s186 : List Nat := [0, 14, 16, 27, 45, 51, 95, 101, 104, 133, 136, 171]
/-- WashLineModel.mean(I)I -/
def am_b187 : List (List am_I) := [[(.aload_n 0, [], 0), (.iload_n 1, [], 0), (.invokevirtual 138, [181, 2, 10], 2), (.istore_n 2, [], 0), (.iload_n 2, [], 0), (.ifCond .ge 5, [1], 0), (.iload_n 2, [], 0), (.ireturn, [0], 0)],
  [(.lconst 0, [], 0), (.lstore_n 3, [], 0), (.iconst 0, [], 0), (.istore 5, [], 0), (.nop, [2], 0)],
  [(.iload 5, [], 0), (.aload_n 0, [], 0), (.getfield 17, [10, 6], 0), (.iload_n 1, [], 0), (.iaload, [], 0), (.if_icmp .ge 20, [3], 0), (.lload_n 3, [], 0), (.aload_n 0, [], 0), (.iload_n 1, [], 0), (.iload 5, [], 0), (.invokevirtual 141, [182, 3, 10], 3), (.i2l, [], 0), (.ladd, [], 0), (.lstore_n 3, [], 0), (.iinc 5 1, [], 0), (.goto (-25), [2], 0)],
  [(.aload_n 0, [], 0), (.getfield 17, [10, 6], 0), (.iload_n 1, [], 0), (.iaload, [], 0), (.ifCond .ne 11, [4], 0), (.aload_n 0, [], 0), (.iconst 4, [], 0), (.invokevirtual 131, [179, 2, 10], 2), (.goto 18, [5], 0)],
  [(.aload_n 0, [], 0), (.lload_n 3, [], 0), (.aload_n 0, [], 0), (.getfield 17, [10, 6], 0), (.iload_n 1, [], 0), (.iaload, [], 0), (.i2l, [], 0), (.ldiv, [], 0), (.l2i, [], 0), (.iconst 1, [], 0), (.invokevirtual 145, [183, 3, 10], 3), (.nop, [5], 0)],
  [(.ireturn, [0], 0)]]
def am_s187 : List Nat := [0, 12, 17, 45, 62, 77]
/-- WashLineModel.text(II)I -/
def am_b188 : List (List am_I) := [[(.iload_n 1, [], 0), (.invokestatic 135, [189, 1], 1), (.ifCond .eq 9, [1], 0), (.iload_n 2, [], 0), (.bipush 120, [], 0), (.if_icmp .le 5, [2], 0), (.nop, [1], 0)],
  [(.iconst (-1), [], 0), (.ireturn, [0], 0)],
  [(.iload_n 2, [], 0), (.ifCond .ge 9, [3], 0), (.aload_n 0, [], 0), (.iconst 5, [], 0), (.invokevirtual 131, [179, 2, 10], 2), (.ireturn, [0], 0)],
  [(.aload_n 0, [], 0), (.getfield 26, [10, 9], 0), (.iload_n 1, [], 0), (.iload_n 2, [], 0), (.iastore, [], 0), (.iconst 0, [], 0), (.istore_n 3, [], 0), (.nop, [4], 0)],
  [(.iload_n 3, [], 0), (.bipush 120, [], 0), (.if_icmp .ge 22, [5], 0), (.aload_n 0, [], 0), (.getfield 29, [10, 10], 0), (.bipush 120, [], 0), (.iload_n 1, [], 0), (.imul, [], 0), (.iload_n 3, [], 0), (.iadd, [], 0), (.bipush 32, [], 0), (.iastore, [], 0), (.iinc 3 1, [], 0), (.goto (-22), [4], 0)],
  [(.iload_n 2, [], 0), (.ireturn, [0], 0)]]
def am_s188 : List Nat := [0, 13, 15, 25, 34, 59]
/-- WashLineModel.isText(I)Z -/
def am_b189 : List (List am_I) := [[(.iload_n 0, [], 0), (.iconst 0, [], 0), (.iconst 3, [], 0), (.invokestatic 123, [175, 3], 3), (.ireturn, [1], 0)]]
def am_s189 : List Nat := [0]
/-- WashLineModel.put(III)I -/
def am_b190 : List (List am_I) := [[(.aload_n 0, [], 0), (.iload_n 1, [], 0), (.invokevirtual 151, [191, 2, 10], 2), (.istore 4, [], 0), (.iload 4, [], 0), (.ifCond .ge 6, [1], 0), (.iload 4, [], 0), (.ireturn, [0], 0)],
  [(.iload_n 2, [], 0), (.iconst 0, [], 0), (.aload_n 0, [], 0), (.getfield 26, [10, 9], 0), (.iload_n 1, [], 0), (.iaload, [], 0), (.iconst 1, [], 0), (.isub, [], 0), (.invokestatic 123, [175, 3], 3), (.ifCond .ne 9, [2], 0), (.aload_n 0, [], 0), (.iconst 2, [], 0), (.invokevirtual 131, [179, 2, 10], 2), (.ireturn, [0], 0)],
  [(.aload_n 0, [], 0), (.getfield 29, [10, 10], 0), (.bipush 120, [], 0), (.iload_n 1, [], 0), (.imul, [], 0), (.iload_n 2, [], 0), (.iadd, [], 0), (.iaload, [], 0), (.istore 5, [], 0), (.aload_n 0, [], 0), (.getfield 29, [10, 10], 0), (.bipush 120, [], 0), (.iload_n 1, [], 0), (.imul, [], 0), (.iload_n 2, [], 0), (.iadd, [], 0), (.iload_n 3, [], 0), (.i2b, [], 0), (.iastore, [], 0), (.iload 5, [], 0), (.sipush 1000, [], 0), (.iadd, [], 0), (.ireturn, [0], 0)]]
def am_s190 : List Nat := [0, 15, 37]
/-- WashLineModel.askedText(I)I -/
def am_b191 : List (List am_I) := [[(.iload_n 1, [], 0), (.invokestatic 135, [189, 1], 1), (.ifCond .ne 7, [1], 0), (.iconst (-1), [], 0), (.goto 21, [3], 0)],
  [(.aload_n 0, [], 0), (.getfield 26, [10, 9], 0), (.iload_n 1, [], 0), (.iaload, [], 0), (.ifCond .ge 11, [2], 0), (.aload_n 0, [], 0), (.iconst 1, [], 0), (.invokevirtual 131, [179, 2, 10], 2), (.goto 4, [3], 0)],
  [(.iconst 0, [], 0), (.nop, [3], 0)],
  [(.ireturn, [0], 0)]]
def am_s191 : List Nat := [0, 11, 28, 29]
/-- WashLineModel.fault(I)I -/
def am_b192 : List (List am_I) := [[(.aload_n 0, [], 0), (.iload_n 1, [], 0), (.invokevirtual 151, [191, 2, 10], 2), (.istore_n 2, [], 0), (.iload_n 2, [], 0), (.ifCond .ge 7, [1], 0), (.iload_n 2, [], 0), (.goto 8, [2], 0)],
  [(.aload_n 0, [], 0), (.iload_n 1, [], 0), (.invokevirtual 185, [193, 2, 10], 2), (.nop, [2], 0)],
  [(.ireturn, [0], 0)]]
def am_s192 : List Nat := [0, 14, 19]
/-- WashLineModel.goesOn(I)I -/
def am_b193 : List (List am_I) := [[(.aload_n 0, [], 0), (.invokevirtual 107, [173, 1, 10], 1), (.aload_n 0, [], 0), (.iconst 0, [], 0), (.putfield 160, [10, 23], 0), (.nop, [1], 0)],
  [(.aload_n 0, [], 0), (.getfield 160, [10, 23], 0), (.aload_n 0, [], 0), (.getfield 26, [10, 9], 0), (.iload_n 1, [], 0), (.iaload, [], 0), (.if_icmp .ge 93, [6], 0), (.aload_n 0, [], 0), (.iload_n 1, [], 0), (.invokevirtual 163, [194, 2, 10], 2), (.istore_n 2, [], 0), (.iload_n 2, [], 0), (.bipush 32, [], 0), (.if_icmp .ne 16, [2], 0), (.aload_n 0, [], 0), (.dup, [], 0), (.getfield 160, [10, 23], 0), (.iconst 1, [], 0), (.iadd, [], 0), (.putfield 160, [10, 23], 0), (.goto (-35), [1], 0)],
  [(.iload_n 2, [], 0), (.bipush 107, [], 0), (.if_icmp .ne 12, [3], 0), (.aload_n 0, [], 0), (.getfield 154, [10, 17], 0), (.bipush 6, [], 0), (.if_icmp .lt 26, [4], 0), (.nop, [3], 0)],
  [(.iload_n 2, [], 0), (.bipush 119, [], 0), (.if_icmp .eq 20, [4], 0), (.iload_n 2, [], 0), (.bipush 105, [], 0), (.if_icmp .eq 14, [4], 0), (.iload_n 2, [], 0), (.bipush 99, [], 0), (.if_icmp .eq 8, [4], 0), (.aload_n 0, [], 0), (.getfield 160, [10, 23], 0), (.ireturn, [0], 0)],
  [(.aload_n 0, [], 0), (.dup, [], 0), (.getfield 160, [10, 23], 0), (.iconst 1, [], 0), (.iadd, [], 0), (.putfield 160, [10, 23], 0), (.aload_n 0, [], 0), (.iload_n 1, [], 0), (.iload_n 2, [], 0), (.invokevirtual 182, [195, 3, 10], 3), (.ifCond .ne 8, [5], 0), (.aload_n 0, [], 0), (.getfield 160, [10, 23], 0), (.ireturn, [0], 0)],
  [(.goto (-100), [1], 0)],
  [(.bipush (-9), [], 0), (.ireturn, [0], 0)]]
def am_s193 : List Nat := [0, 9, 47, 62, 85, 109, 112]
/-- WashLineModel.here(I)I -/
def am_b194 : List (List am_I) := [[(.aload_n 0, [], 0), (.getfield 160, [10, 23], 0), (.aload_n 0, [], 0), (.getfield 26, [10, 9], 0), (.iload_n 1, [], 0), (.iaload, [], 0), (.if_icmp .ge 20, [1], 0), (.aload_n 0, [], 0), (.getfield 29, [10, 10], 0), (.bipush 120, [], 0), (.iload_n 1, [], 0), (.imul, [], 0), (.aload_n 0, [], 0), (.getfield 160, [10, 23], 0), (.iadd, [], 0), (.iaload, [], 0), (.goto 5, [2], 0)],
  [(.bipush (-9), [], 0), (.nop, [2], 0)],
  [(.ireturn, [0], 0)]]
def am_s194 : List Nat := [0, 30, 32]
/-- WashLineModel.readsItem(II)Z -/
def am_b195 : List (List am_I) := [[(.iload_n 2, [], 0), (.bipush 107, [], 0), (.if_icmp .ne 9, [1], 0), (.aload_n 0, [], 0), (.iload_n 1, [], 0), (.invokevirtual 176, [196, 2, 10], 2), (.ireturn, [1], 0)],
  [(.iload_n 2, [], 0), (.bipush 119, [], 0), (.if_icmp .ne 9, [2], 0), (.aload_n 0, [], 0), (.iload_n 1, [], 0), (.invokevirtual 179, [199, 2, 10], 2), (.ireturn, [1], 0)],
  [(.iload_n 2, [], 0), (.bipush 105, [], 0), (.if_icmp .ne 37, [5], 0), (.aload_n 0, [], 0), (.iload_n 1, [], 0), (.iconst 0, [], 0), (.bipush 7, [], 0), (.invokevirtual 173, [198, 4, 10], 4), (.istore_n 3, [], 0), (.aload_n 0, [], 0), (.dup, [], 0), (.getfield 157, [10, 21], 0), (.iload_n 3, [], 0), (.ifCond .eq 12, [3], 0), (.iconst 1, [], 0), (.aload_n 0, [], 0), (.getfield 166, [10, 24], 0), (.ishl, [], 0), (.goto 4, [4], 0)],
  [(.iconst 0, [], 0), (.nop, [4], 0)],
  [(.ior, [], 0), (.putfield 157, [10, 21], 0), (.iload_n 3, [], 0), (.ireturn, [1], 0)],
  [(.iconst 0, [], 0), (.istore_n 3, [], 0), (.nop, [6], 0)],
  [(.iload_n 3, [], 0), (.iconst 5, [], 0), (.if_icmp .ge 32, [8], 0), (.aload_n 0, [], 0), (.iload_n 1, [], 0), (.iconst 0, [], 0), (.bipush 9, [], 0), (.invokevirtual 173, [198, 4, 10], 4), (.ifCond .ne 5, [7], 0), (.iconst 0, [], 0), (.ireturn, [1], 0)],
  [(.aload_n 0, [], 0), (.getfield 53, [10, 22], 0), (.iload_n 3, [], 0), (.aload_n 0, [], 0), (.getfield 166, [10, 24], 0), (.iastore, [], 0), (.iinc 3 1, [], 0), (.goto (-31), [6], 0)],
  [(.iconst 1, [], 0), (.ireturn, [1], 0)]]
def am_s195 : List Nat := [0, 12, 24, 57, 58, 64, 66, 84, 100]
/-- WashLineModel.readsSort(I)Z -/
def am_b196 : List (List am_I) := [[(.aload_n 0, [], 0), (.iload_n 1, [], 0), (.bipush 45, [], 0), (.invokevirtual 169, [197, 3, 10], 3), (.ifCond .eq 12, [1], 0), (.aload_n 0, [], 0), (.bipush (-9), [], 0), (.putfield 166, [10, 24], 0), (.goto 15, [2], 0)],
  [(.aload_n 0, [], 0), (.iload_n 1, [], 0), (.iconst 0, [], 0), (.iconst 5, [], 0), (.invokevirtual 173, [198, 4, 10], 4), (.ifCond .ne 5, [2], 0), (.iconst 0, [], 0), (.ireturn, [1], 0)],
  [(.aload_n 0, [], 0), (.getfield 44, [10, 18], 0), (.aload_n 0, [], 0), (.getfield 154, [10, 17], 0), (.aload_n 0, [], 0), (.getfield 166, [10, 24], 0), (.iastore, [], 0), (.aload_n 0, [], 0), (.dup, [], 0), (.getfield 154, [10, 17], 0), (.iconst 1, [], 0), (.iadd, [], 0), (.putfield 154, [10, 17], 0), (.iconst 1, [], 0), (.ireturn, [1], 0)]]
def am_s196 : List Nat := [0, 19, 31]
/-- WashLineModel.reads(II)Z -/
def am_b197 : List (List am_I) := [[(.aload_n 0, [], 0), (.iload_n 1, [], 0), (.invokevirtual 163, [194, 2, 10], 2), (.iload_n 2, [], 0), (.if_icmp .ne 7, [1], 0), (.iconst 1, [], 0), (.goto 4, [2], 0)],
  [(.iconst 0, [], 0), (.nop, [2], 0)],
  [(.istore_n 3, [], 0), (.aload_n 0, [], 0), (.dup, [], 0), (.getfield 160, [10, 23], 0), (.iload_n 3, [], 0), (.ifCond .eq 7, [3], 0), (.iconst 1, [], 0), (.goto 4, [4], 0)],
  [(.iconst 0, [], 0), (.nop, [4], 0)],
  [(.iadd, [], 0), (.putfield 160, [10, 23], 0), (.iload_n 3, [], 0), (.ireturn, [1], 0)]]
def am_s197 : List Nat := [0, 13, 14, 28, 29]
/-- WashLineModel.readsFigure(III)Z -/
def am_b198 : List (List am_I) := [[(.aload_n 0, [], 0), (.aload_n 0, [], 0), (.iload_n 1, [], 0), (.invokevirtual 163, [194, 2, 10], 2), (.bipush 48, [], 0), (.isub, [], 0), (.putfield 166, [10, 24], 0), (.aload_n 0, [], 0), (.getfield 166, [10, 24], 0), (.iload_n 2, [], 0), (.iload_n 3, [], 0), (.invokestatic 123, [175, 3], 3), (.istore 4, [], 0), (.aload_n 0, [], 0), (.dup, [], 0), (.getfield 160, [10, 23], 0), (.iload 4, [], 0), (.ifCond .eq 7, [1], 0), (.iconst 1, [], 0), (.goto 4, [2], 0)],
  [(.iconst 0, [], 0), (.nop, [2], 0)],
  [(.iadd, [], 0), (.putfield 160, [10, 23], 0), (.iload 4, [], 0), (.ireturn, [1], 0)]]
def am_s198 : List Nat := [0, 37, 38]
/-- WashLineModel.readsWear(I)Z -/
def am_b199 : List (List am_I) := [[(.aload_n 0, [], 0), (.iload_n 1, [], 0), (.iconst 0, [], 0), (.aload_n 0, [], 0), (.getfield 154, [10, 17], 0), (.iconst 1, [], 0), (.isub, [], 0), (.invokevirtual 173, [198, 4, 10], 4), (.ifCond .ne 5, [1], 0), (.iconst 0, [], 0), (.ireturn, [1], 0)],
  [(.bipush 8, [], 0), (.aload_n 0, [], 0), (.getfield 166, [10, 24], 0), (.imul, [], 0), (.istore_n 2, [], 0), (.aload_n 0, [], 0), (.iload_n 1, [], 0), (.bipush 116, [], 0), (.invokevirtual 169, [197, 3, 10], 3), (.ifCond .eq 14, [2], 0), (.aload_n 0, [], 0), (.iload_n 1, [], 0), (.iconst 0, [], 0), (.bipush 7, [], 0), (.invokevirtual 173, [198, 4, 10], 4), (.ifCond .ne 5, [3], 0), (.nop, [2], 0)],
  [(.iconst 0, [], 0), (.ireturn, [1], 0)],
  [(.iload_n 2, [], 0), (.aload_n 0, [], 0), (.getfield 166, [10, 24], 0), (.iadd, [], 0), (.istore_n 2, [], 0), (.aload_n 0, [], 0), (.iload_n 1, [], 0), (.bipush 58, [], 0), (.invokevirtual 169, [197, 3, 10], 3), (.ifCond .eq 14, [4], 0), (.aload_n 0, [], 0), (.iload_n 1, [], 0), (.iconst 0, [], 0), (.bipush 9, [], 0), (.invokevirtual 173, [198, 4, 10], 4), (.ifCond .ne 5, [5], 0), (.nop, [4], 0)],
  [(.iconst 0, [], 0), (.ireturn, [1], 0)],
  [(.aload_n 0, [], 0), (.getfield 166, [10, 24], 0), (.istore_n 3, [], 0), (.aload_n 0, [], 0), (.iload_n 1, [], 0), (.bipush 45, [], 0), (.invokevirtual 169, [197, 3, 10], 3), (.ifCond .eq 14, [6], 0), (.aload_n 0, [], 0), (.iload_n 1, [], 0), (.iload_n 3, [], 0), (.bipush 9, [], 0), (.invokevirtual 173, [198, 4, 10], 4), (.ifCond .ne 5, [7], 0), (.nop, [6], 0)],
  [(.iconst 0, [], 0), (.ireturn, [1], 0)],
  [(.aload_n 0, [], 0), (.getfield 47, [10, 19], 0), (.iload_n 2, [], 0), (.iload_n 3, [], 0), (.iastore, [], 0), (.aload_n 0, [], 0), (.getfield 50, [10, 20], 0), (.iload_n 2, [], 0), (.aload_n 0, [], 0), (.getfield 166, [10, 24], 0), (.iastore, [], 0), (.iconst 1, [], 0), (.ireturn, [1], 0)]]
def am_s199 : List Nat := [0, 17, 46, 48, 76, 78, 104, 106]
/-- WashLineModel.world(I)I -/
def am_b200 : List (List am_I) := [[(.aload_n 0, [], 0), (.iload_n 1, [], 0), (.invokevirtual 151, [191, 2, 10], 2), (.istore_n 2, [], 0), (.iload_n 2, [], 0), (.ifCond .ge 5, [1], 0), (.iload_n 2, [], 0), (.ireturn, [0], 0)],
  [(.aload_n 0, [], 0), (.iload_n 1, [], 0), (.invokevirtual 185, [193, 2, 10], 2), (.bipush (-9), [], 0), (.if_icmp .eq 6, [2], 0), (.bipush (-4), [], 0), (.ireturn, [0], 0)],
  [(.aload_n 0, [], 0), (.invokevirtual 110, [174, 1, 10], 1), (.aload_n 0, [], 0), (.getfield 188, [10, 11], 0), (.ireturn, [0], 0)]]
def am_s200 : List Nat := [0, 12, 25]
/-- WashLineModel.wears(II)I -/
def am_b201 : List (List am_I) := [[(.aload_n 0, [], 0), (.iload_n 1, [], 0), (.invokevirtual 207, [202, 2, 10], 2), (.ifCond .eq 39, [1], 0), (.iload_n 2, [], 0), (.invokestatic 210, [203, 1], 1), (.ifCond .eq 32, [1], 0), (.aload_n 0, [], 0), (.aload_n 0, [], 0), (.getfield 38, [10, 14], 0), (.bipush 8, [], 0), (.iload_n 1, [], 0), (.imul, [], 0), (.iload_n 2, [], 0), (.iadd, [], 0), (.iaload, [], 0), (.aload_n 0, [], 0), (.getfield 35, [10, 13], 0), (.bipush 8, [], 0), (.iload_n 1, [], 0), (.imul, [], 0), (.iload_n 2, [], 0), (.iadd, [], 0), (.iaload, [], 0), (.invokevirtual 145, [183, 3, 10], 3), (.goto 4, [2], 0)],
  [(.iconst (-1), [], 0), (.nop, [2], 0)],
  [(.ireturn, [0], 0)]]
def am_s201 : List Nat := [0, 44, 45]
/-- WashLineModel.isSort(I)Z -/
def am_b202 : List (List am_I) := [[(.iload_n 1, [], 0), (.iconst 0, [], 0), (.aload_n 0, [], 0), (.getfield 188, [10, 11], 0), (.iconst 1, [], 0), (.isub, [], 0), (.invokestatic 123, [175, 3], 3), (.ireturn, [1], 0)]]
def am_s202 : List Nat := [0]
/-- WashLineModel.isThing(I)Z -/
def am_b203 : List (List am_I) := [[(.iload_n 0, [], 0), (.iconst 0, [], 0), (.bipush 7, [], 0), (.invokestatic 123, [175, 3], 3), (.ireturn, [1], 0)]]
def am_s203 : List Nat := [0]
/-- WashLineModel.grows(I)I -/
def am_b204 : List (List am_I) := [[(.aload_n 0, [], 0), (.iload_n 1, [], 0), (.invokevirtual 207, [202, 2, 10], 2), (.ifCond .eq 12, [1], 0), (.aload_n 0, [], 0), (.getfield 32, [10, 12], 0), (.iload_n 1, [], 0), (.iaload, [], 0), (.goto 4, [2], 0)],
  [(.iconst (-1), [], 0), (.nop, [2], 0)],
  [(.ireturn, [0], 0)]]
def am_s204 : List Nat := [0, 17, 18]
/-- WashLineModel.indoors()I -/
def am_b205 : List (List am_I) := [[(.aload_n 0, [], 0), (.getfield 191, [10, 15], 0), (.ireturn, [0], 0)]]
def am_s205 : List Nat := [0]
/-- WashLineModel.price(II)I -/
def am_b206 : List (List am_I) := [[(.iload_n 1, [], 0), (.iconst 0, [], 0), (.iconst 4, [], 0), (.invokestatic 123, [175, 3], 3), (.ifCond .eq 19, [1], 0), (.iload_n 2, [], 0), (.bipush (-9), [], 0), (.if_icmp .eq 15, [2], 0), (.iload_n 2, [], 0), (.iconst 0, [], 0), (.bipush 9, [], 0), (.invokestatic 123, [175, 3], 3), (.ifCond .ne 5, [2], 0), (.nop, [1], 0)],
  [(.iconst (-1), [], 0), (.ireturn, [0], 0)],
  [(.aload_n 0, [], 0), (.getfield 41, [10, 16], 0), (.iload_n 1, [], 0), (.iaload, [], 0), (.istore_n 3, [], 0), (.iload_n 2, [], 0), (.ifCond .lt 15, [3], 0), (.aload_n 0, [], 0), (.getfield 41, [10, 16], 0), (.iload_n 1, [], 0), (.iload_n 2, [], 0), (.iastore, [], 0), (.aload_n 0, [], 0), (.iconst 0, [], 0), (.putfield 203, [10, 31], 0), (.nop, [3], 0)],
  [(.iload_n 3, [], 0), (.ireturn, [0], 0)]]
def am_s206 : List Nat := [0, 25, 27, 50]
/-- WashLineModel.monday(III)I -/
def am_b207 : List (List am_I) := [[(.iload_n 1, [], 0), (.iconst 0, [], 0), (.iconst 1, [], 0), (.invokestatic 123, [175, 3], 3), (.ifCond .eq 13, [1], 0), (.iload_n 3, [], 0), (.iconst 0, [], 0), (.bipush 9, [], 0), (.invokestatic 123, [175, 3], 3), (.ifCond .ne 5, [2], 0), (.nop, [1], 0)],
  [(.iconst (-1), [], 0), (.ireturn, [0], 0)],
  [(.aload_n 0, [], 0), (.iload_n 2, [], 0), (.invokevirtual 138, [181, 2, 10], 2), (.istore 4, [], 0), (.iload 4, [], 0), (.ifCond .ge 6, [3], 0), (.iload 4, [], 0), (.ireturn, [0], 0)],
  [(.aload_n 0, [], 0), (.getfield 17, [10, 6], 0), (.iload_n 2, [], 0), (.iaload, [], 0), (.bipush 8, [], 0), (.if_icmp .eq 9, [4], 0), (.aload_n 0, [], 0), (.iconst 5, [], 0), (.invokevirtual 131, [179, 2, 10], 2), (.ireturn, [0], 0)],
  [(.iconst 1, [], 0), (.istore 5, [], 0), (.iconst 0, [], 0), (.istore 6, [], 0), (.nop, [5], 0)],
  [(.iload 6, [], 0), (.bipush 8, [], 0), (.if_icmp .ge 37, [8], 0), (.iload 5, [], 0), (.ifCond .eq 23, [6], 0), (.aload_n 0, [], 0), (.iload_n 2, [], 0), (.iload 6, [], 0), (.invokevirtual 141, [182, 3, 10], 3), (.iconst 0, [], 0), (.bipush 40, [], 0), (.invokestatic 123, [175, 3], 3), (.ifCond .eq 7, [6], 0), (.iconst 1, [], 0), (.goto 4, [7], 0)],
  [(.iconst 0, [], 0), (.nop, [7], 0)],
  [(.istore 5, [], 0), (.iinc 6 1, [], 0), (.goto (-38), [5], 0)],
  [(.iload 5, [], 0), (.ifCond .ne 9, [9], 0), (.aload_n 0, [], 0), (.iconst 3, [], 0), (.invokevirtual 131, [179, 2, 10], 2), (.ireturn, [0], 0)],
  [(.aload_n 0, [], 0), (.getfield 194, [10, 25], 0), (.bipush 12, [], 0), (.if_icmp .ne 6, [10], 0), (.bipush (-2), [], 0), (.ireturn, [0], 0)],
  [(.aload_n 0, [], 0), (.getfield 56, [10, 26], 0), (.bipush 10, [], 0), (.aload_n 0, [], 0), (.getfield 194, [10, 25], 0), (.imul, [], 0), (.iload_n 1, [], 0), (.iastore, [], 0), (.aload_n 0, [], 0), (.getfield 56, [10, 26], 0), (.bipush 10, [], 0), (.aload_n 0, [], 0), (.getfield 194, [10, 25], 0), (.imul, [], 0), (.iconst 1, [], 0), (.iadd, [], 0), (.iload_n 3, [], 0), (.iastore, [], 0), (.iconst 0, [], 0), (.istore 6, [], 0), (.nop, [11], 0)],
  [(.iload 6, [], 0), (.bipush 8, [], 0), (.if_icmp .ge 33, [12], 0), (.aload_n 0, [], 0), (.getfield 56, [10, 26], 0), (.bipush 10, [], 0), (.aload_n 0, [], 0), (.getfield 194, [10, 25], 0), (.imul, [], 0), (.iconst 2, [], 0), (.iadd, [], 0), (.iload 6, [], 0), (.iadd, [], 0), (.aload_n 0, [], 0), (.iload_n 2, [], 0), (.iload 6, [], 0), (.invokevirtual 141, [182, 3, 10], 3), (.iastore, [], 0), (.iinc 6 1, [], 0), (.goto (-34), [11], 0)],
  [(.aload_n 0, [], 0), (.dup, [], 0), (.getfield 194, [10, 25], 0), (.iconst 1, [], 0), (.iadd, [], 0), (.putfield 194, [10, 25], 0), (.aload_n 0, [], 0), (.getfield 194, [10, 25], 0), (.iconst 1, [], 0), (.isub, [], 0), (.ireturn, [0], 0)]]
def am_s207 : List Nat := [0, 19, 21, 36, 53, 59, 91, 92, 100, 111, 123, 154, 191]
/-- WashLineModel.hung(III)I -/
def am_b208 : List (List am_I) := [[(.aload_n 0, [], 0), (.iload_n 1, [], 0), (.invokevirtual 213, [209, 2, 10], 2), (.ifCond .eq 20, [1], 0), (.iload_n 2, [], 0), (.invokestatic 210, [203, 1], 1), (.ifCond .eq 13, [1], 0), (.iload_n 3, [], 0), (.iconst 0, [], 0), (.bipush 40, [], 0), (.invokestatic 123, [175, 3], 3), (.ifCond .ne 5, [2], 0), (.nop, [1], 0)],
  [(.iconst (-1), [], 0), (.ireturn, [0], 0)],
  [(.aload_n 0, [], 0), (.iload_n 1, [], 0), (.iconst 2, [], 0), (.iload_n 2, [], 0), (.iadd, [], 0), (.invokevirtual 216, [210, 3, 10], 3), (.istore 4, [], 0), (.aload_n 0, [], 0), (.getfield 56, [10, 26], 0), (.bipush 10, [], 0), (.iload_n 1, [], 0), (.imul, [], 0), (.iconst 2, [], 0), (.iadd, [], 0), (.iload_n 2, [], 0), (.iadd, [], 0), (.iload_n 3, [], 0), (.iastore, [], 0), (.iload 4, [], 0), (.ireturn, [0], 0)]]
def am_s208 : List Nat := [0, 25, 27]
/-- WashLineModel.isMonday(I)Z -/
def am_b209 : List (List am_I) := [[(.iload_n 1, [], 0), (.iconst 0, [], 0), (.aload_n 0, [], 0), (.getfield 194, [10, 25], 0), (.iconst 1, [], 0), (.isub, [], 0), (.invokestatic 123, [175, 3], 3), (.ireturn, [1], 0)]]
def am_s209 : List Nat := [0]
/-- WashLineModel.tells(II)I -/
def am_b210 : List (List am_I) := [[(.aload_n 0, [], 0), (.getfield 56, [10, 26], 0), (.bipush 10, [], 0), (.iload_n 1, [], 0), (.imul, [], 0), (.iload_n 2, [], 0), (.iadd, [], 0), (.iaload, [], 0), (.ireturn, [0], 0)]]
def am_s210 : List Nat := [0]
/-- WashLineModel.told(II)I -/
def am_b211 : List (List am_I) := [[(.aload_n 0, [], 0), (.iload_n 1, [], 0), (.invokevirtual 213, [209, 2, 10], 2), (.ifCond .eq 27, [1], 0), (.iload_n 2, [], 0), (.iconst 0, [], 0), (.bipush 9, [], 0), (.invokestatic 123, [175, 3], 3), (.ifCond .eq 17, [1], 0), (.aload_n 0, [], 0), (.aload_n 0, [], 0), (.iload_n 1, [], 0), (.iload_n 2, [], 0), (.invokevirtual 216, [210, 3, 10], 3), (.iconst 1, [], 0), (.invokevirtual 145, [183, 3, 10], 3), (.goto 4, [2], 0)],
  [(.iconst (-1), [], 0), (.nop, [2], 0)],
  [(.ireturn, [0], 0)]]
def am_s211 : List Nat := [0, 32, 33]
/-- WashLineModel.back(I)I -/
def am_b212 : List (List am_I) := [[(.iload_n 1, [], 0), (.iconst 0, [], 0), (.aload_n 0, [], 0), (.getfield 194, [10, 25], 0), (.invokestatic 123, [175, 3], 3), (.ifCond .ne 5, [1], 0), (.iconst (-1), [], 0), (.ireturn, [0], 0)],
  [(.aload_n 0, [], 0), (.getfield 194, [10, 25], 0), (.iload_n 1, [], 0), (.isub, [], 0), (.istore_n 2, [], 0), (.aload_n 0, [], 0), (.iload_n 1, [], 0), (.putfield 194, [10, 25], 0), (.iload_n 2, [], 0), (.ireturn, [0], 0)]]
def am_s212 : List Nat := [0, 14]
/-- WashLineModel.hangs(III)I -/
def am_b213 : List (List am_I) := [[(.aload_n 0, [], 0), (.iload_n 1, [], 0), (.invokevirtual 229, [214, 2, 10], 2), (.istore 4, [], 0), (.iload 4, [], 0), (.ifCond .lt 19, [1], 0), (.iload_n 2, [], 0), (.iconst 0, [], 0), (.iconst 1, [], 0), (.invokestatic 123, [175, 3], 3), (.ifCond .eq 10, [1], 0), (.iload_n 3, [], 0), (.invokestatic 210, [203, 1], 1), (.ifCond .ne 5, [2], 0), (.nop, [1], 0)],
  [(.iconst (-1), [], 0), (.ireturn, [0], 0)],
  [(.aload_n 0, [], 0), (.aload_n 0, [], 0), (.aload_n 0, [], 0), (.getfield 38, [10, 14], 0), (.iload 4, [], 0), (.iload_n 3, [], 0), (.invokevirtual 225, [215, 4, 10], 4), (.aload_n 0, [], 0), (.iload 4, [], 0), (.iload_n 2, [], 0), (.iload_n 3, [], 0), (.invokevirtual 232, [216, 4, 10], 4), (.invokevirtual 145, [183, 3, 10], 3), (.ireturn, [0], 0)]]
def am_s213 : List Nat := [0, 28, 30]
/-- WashLineModel.placeOf(I)I -/
def am_b214 : List (List am_I) := [[(.iconst 0, [], 0), (.istore_n 2, [], 0), (.aload_n 0, [], 0), (.getfield 219, [10, 27], 0), (.iconst 1, [], 0), (.isub, [], 0), (.istore_n 3, [], 0), (.nop, [1], 0)],
  [(.iload_n 2, [], 0), (.iload_n 3, [], 0), (.if_icmp .ge 35, [4], 0), (.iload_n 2, [], 0), (.iload_n 3, [], 0), (.iadd, [], 0), (.iconst 2, [], 0), (.idiv, [], 0), (.istore 4, [], 0), (.aload_n 0, [], 0), (.getfield 59, [10, 28], 0), (.iload 4, [], 0), (.iaload, [], 0), (.iload_n 1, [], 0), (.if_icmp .ge 11, [2], 0), (.iload 4, [], 0), (.iconst 1, [], 0), (.iadd, [], 0), (.istore_n 2, [], 0), (.goto 6, [3], 0)],
  [(.iload 4, [], 0), (.istore_n 3, [], 0), (.nop, [3], 0)],
  [(.goto (-34), [1], 0)],
  [(.aload_n 0, [], 0), (.getfield 59, [10, 28], 0), (.iload_n 2, [], 0), (.iaload, [], 0), (.iload_n 1, [], 0), (.if_icmp .ne 7, [5], 0), (.iload_n 2, [], 0), (.goto 5, [6], 0)],
  [(.bipush (-9), [], 0), (.nop, [6], 0)],
  [(.ireturn, [0], 0)]]
def am_s214 : List Nat := [0, 9, 40, 43, 46, 60, 62]
/-- WashLineModel.sumOf([III)I -/
def am_b215 : List (List am_I) := [[(.iconst 0, [], 0), (.istore 4, [], 0), (.iconst 0, [], 0), (.istore 5, [], 0), (.nop, [1], 0)],
  [(.iload 5, [], 0), (.aload_n 0, [], 0), (.getfield 188, [10, 11], 0), (.if_icmp .ge 36, [2], 0), (.iload 4, [], 0), (.aload_n 0, [], 0), (.getfield 62, [10, 29], 0), (.bipush 6, [], 0), (.iload_n 2, [], 0), (.imul, [], 0), (.iload 5, [], 0), (.iadd, [], 0), (.iaload, [], 0), (.aload_n 1, [], 0), (.bipush 8, [], 0), (.iload 5, [], 0), (.imul, [], 0), (.iload_n 3, [], 0), (.iadd, [], 0), (.iaload, [], 0), (.imul, [], 0), (.iadd, [], 0), (.istore 4, [], 0), (.iinc 5 1, [], 0), (.goto (-39), [1], 0)],
  [(.iload 4, [], 0), (.ireturn, [0], 0)]]
def am_s215 : List Nat := [0, 6, 48]
/-- WashLineModel.leastOf(III)I -/
def am_b216 : List (List am_I) := [[(.aload_n 0, [], 0), (.iload_n 2, [], 0), (.iload_n 3, [], 0), (.invokevirtual 222, [217, 3, 10], 3), (.ifCond .eq 7, [1], 0), (.iconst 0, [], 0), (.goto 13, [2], 0)],
  [(.aload_n 0, [], 0), (.aload_n 0, [], 0), (.getfield 35, [10, 13], 0), (.iload_n 1, [], 0), (.iload_n 3, [], 0), (.invokevirtual 225, [215, 4, 10], 4), (.nop, [2], 0)],
  [(.ireturn, [0], 0)]]
def am_s216 : List Nat := [0, 13, 23]
/-- WashLineModel.isIndoors(II)Z -/
def am_b217 : List (List am_I) := [[(.iload_n 1, [], 0), (.iconst 1, [], 0), (.if_icmp .ne 19, [1], 0), (.aload_n 0, [], 0), (.getfield 191, [10, 15], 0), (.iload_n 2, [], 0), (.ishr, [], 0), (.iconst 1, [], 0), (.iand, [], 0), (.iconst 1, [], 0), (.if_icmp .ne 7, [1], 0), (.iconst 1, [], 0), (.goto 4, [2], 0)],
  [(.iconst 0, [], 0), (.nop, [2], 0)],
  [(.ireturn, [1], 0)]]
def am_s217 : List Nat := [0, 21, 22]
/-- WashLineModel.explains(II)I -/
def am_b218 : List (List am_I) := [[(.aload_n 0, [], 0), (.iload_n 2, [], 0), (.invokevirtual 229, [214, 2, 10], 2), (.istore_n 3, [], 0), (.aload_n 0, [], 0), (.iload_n 1, [], 0), (.invokevirtual 213, [209, 2, 10], 2), (.ifCond .eq 7, [1], 0), (.iload_n 3, [], 0), (.ifCond .ge 5, [2], 0), (.nop, [1], 0)],
  [(.iconst (-1), [], 0), (.ireturn, [0], 0)],
  [(.aload_n 0, [], 0), (.iload_n 1, [], 0), (.iload_n 3, [], 0), (.invokevirtual 247, [219, 3, 10], 3), (.istore 4, [], 0), (.iload 4, [], 0), (.ldc 246, [], 100000), (.if_icmp .ne 8, [3], 0), (.bipush (-9), [], 0), (.goto 13, [4], 0)],
  [(.aload_n 0, [], 0), (.aload_n 0, [], 0), (.getfield 240, [10, 30], 0), (.iload 4, [], 0), (.invokevirtual 145, [183, 3, 10], 3), (.nop, [4], 0)],
  [(.ireturn, [0], 0)]]
def am_s218 : List Nat := [0, 18, 20, 40, 50]
/-- WashLineModel.explainsOf(II)I -/
def am_b219 : List (List am_I) := [[(.aload_n 0, [], 0), (.iconst 0, [], 0), (.putfield 240, [10, 30], 0), (.aload_n 0, [], 0), (.iload_n 1, [], 0), (.iload_n 2, [], 0), (.bipush (-9), [], 0), (.bipush (-9), [], 0), (.invokevirtual 243, [220, 5, 10], 5), (.ifCond .eq 5, [1], 0), (.iconst 0, [], 0), (.ireturn, [0], 0)],
  [(.ldc 246, [], 100000), (.istore_n 3, [], 0), (.iconst 0, [], 0), (.istore 4, [], 0), (.nop, [2], 0)],
  [(.iload 4, [], 0), (.aload_n 0, [], 0), (.getfield 188, [10, 11], 0), (.if_icmp .ge 63, [4], 0), (.aload_n 0, [], 0), (.getfield 41, [10, 16], 0), (.iconst 3, [], 0), (.iaload, [], 0), (.iload_n 3, [], 0), (.if_icmp .ge 47, [3], 0), (.aload_n 0, [], 0), (.getfield 62, [10, 29], 0), (.bipush 6, [], 0), (.iload_n 2, [], 0), (.imul, [], 0), (.iload 4, [], 0), (.iadd, [], 0), (.iaload, [], 0), (.ifCond .le 32, [3], 0), (.aload_n 0, [], 0), (.iload_n 1, [], 0), (.iload_n 2, [], 0), (.iload 4, [], 0), (.bipush (-9), [], 0), (.invokevirtual 243, [220, 5, 10], 5), (.ifCond .eq 19, [3], 0), (.aload_n 0, [], 0), (.getfield 41, [10, 16], 0), (.iconst 3, [], 0), (.iaload, [], 0), (.istore_n 3, [], 0), (.aload_n 0, [], 0), (.bipush 10, [], 0), (.iload 4, [], 0), (.iadd, [], 0), (.putfield 240, [10, 30], 0), (.nop, [3], 0)],
  [(.iinc 4 1, [], 0), (.goto (-66), [2], 0)],
  [(.iconst 0, [], 0), (.istore 4, [], 0), (.nop, [5], 0)],
  [(.iload 4, [], 0), (.aload_n 0, [], 0), (.getfield 188, [10, 11], 0), (.if_icmp .ge 48, [7], 0), (.aload_n 0, [], 0), (.getfield 41, [10, 16], 0), (.iconst 4, [], 0), (.iaload, [], 0), (.iload_n 3, [], 0), (.if_icmp .ge 32, [6], 0), (.aload_n 0, [], 0), (.iload_n 1, [], 0), (.iload_n 2, [], 0), (.bipush (-9), [], 0), (.iload 4, [], 0), (.invokevirtual 243, [220, 5, 10], 5), (.ifCond .eq 19, [6], 0), (.aload_n 0, [], 0), (.getfield 41, [10, 16], 0), (.iconst 4, [], 0), (.iaload, [], 0), (.istore_n 3, [], 0), (.aload_n 0, [], 0), (.bipush 20, [], 0), (.iload 4, [], 0), (.iadd, [], 0), (.putfield 240, [10, 30], 0), (.nop, [6], 0)],
  [(.iinc 4 1, [], 0), (.goto (-51), [5], 0)],
  [(.iload_n 3, [], 0), (.ireturn, [0], 0)]]
def am_s219 : List Nat := [0, 20, 26, 89, 95, 98, 146, 152]
/-- WashLineModel.agrees(IIII)Z -/
def am_b220 : List (List am_I) := [[(.iconst 1, [], 0), (.istore 5, [], 0), (.iconst 0, [], 0), (.istore 6, [], 0), (.nop, [1], 0)],
  [(.iload 6, [], 0), (.bipush 8, [], 0), (.if_icmp .ge 147, [12], 0), (.aload_n 0, [], 0), (.aload_n 0, [], 0), (.getfield 35, [10, 13], 0), (.iload_n 2, [], 0), (.iload 6, [], 0), (.invokevirtual 225, [215, 4, 10], 4), (.iload_n 3, [], 0), (.ifCond .ge 7, [2], 0), (.iconst 0, [], 0), (.goto 15, [3], 0)],
  [(.aload_n 0, [], 0), (.getfield 35, [10, 13], 0), (.bipush 8, [], 0), (.iload_n 3, [], 0), (.imul, [], 0), (.iload 6, [], 0), (.iadd, [], 0), (.iaload, [], 0), (.nop, [3], 0)],
  [(.isub, [], 0), (.iload 4, [], 0), (.ifCond .ge 7, [4], 0), (.iconst 0, [], 0), (.goto 16, [5], 0)],
  [(.aload_n 0, [], 0), (.getfield 35, [10, 13], 0), (.bipush 8, [], 0), (.iload 4, [], 0), (.imul, [], 0), (.iload 6, [], 0), (.iadd, [], 0), (.iaload, [], 0), (.nop, [5], 0)],
  [(.iadd, [], 0), (.istore 7, [], 0), (.aload_n 0, [], 0), (.aload_n 0, [], 0), (.getfield 38, [10, 14], 0), (.iload_n 2, [], 0), (.iload 6, [], 0), (.invokevirtual 225, [215, 4, 10], 4), (.iload 4, [], 0), (.ifCond .ge 7, [6], 0), (.iconst 0, [], 0), (.goto 16, [7], 0)],
  [(.aload_n 0, [], 0), (.getfield 38, [10, 14], 0), (.bipush 8, [], 0), (.iload 4, [], 0), (.imul, [], 0), (.iload 6, [], 0), (.iadd, [], 0), (.iaload, [], 0), (.nop, [7], 0)],
  [(.iadd, [], 0), (.istore 8, [], 0), (.iload 5, [], 0), (.ifCond .eq 40, [10], 0), (.aload_n 0, [], 0), (.iload_n 1, [], 0), (.iload 6, [], 0), (.aload_n 0, [], 0), (.aload_n 0, [], 0), (.iload_n 1, [], 0), (.iconst 0, [], 0), (.invokevirtual 216, [210, 3, 10], 3), (.iload 6, [], 0), (.invokevirtual 222, [217, 3, 10], 3), (.ifCond .eq 7, [8], 0), (.iconst 0, [], 0), (.goto 5, [9], 0)],
  [(.iload 7, [], 0), (.nop, [9], 0)],
  [(.iload 8, [], 0), (.invokevirtual 236, [221, 5, 10], 5), (.ifCond .eq 7, [10], 0), (.iconst 1, [], 0), (.goto 4, [11], 0)],
  [(.iconst 0, [], 0), (.nop, [11], 0)],
  [(.istore 5, [], 0), (.iinc 6 1, [], 0), (.goto (-148), [1], 0)],
  [(.iload 5, [], 0), (.ireturn, [1], 0)]]
def am_s220 : List Nat := [0, 6, 32, 44, 54, 67, 90, 103, 134, 136, 148, 149, 157]
/-- WashLineModel.isWithin(IIII)Z -/
def am_b221 : List (List am_I) := [[(.aload_n 0, [], 0), (.iload_n 1, [], 0), (.iconst 2, [], 0), (.iload_n 2, [], 0), (.iadd, [], 0), (.invokevirtual 216, [210, 3, 10], 3), (.istore 5, [], 0), (.aload_n 0, [], 0), (.iload_n 1, [], 0), (.iconst 1, [], 0), (.invokevirtual 216, [210, 3, 10], 3), (.istore 6, [], 0), (.iload 5, [], 0), (.iload 6, [], 0), (.isub, [], 0), (.iload 4, [], 0), (.if_icmp .gt 16, [1], 0), (.iload 5, [], 0), (.iload 6, [], 0), (.iadd, [], 0), (.iload_n 3, [], 0), (.if_icmp .lt 7, [1], 0), (.iconst 1, [], 0), (.goto 4, [2], 0)],
  [(.iconst 0, [], 0), (.nop, [2], 0)],
  [(.ireturn, [1], 0)]]
def am_s221 : List Nat := [0, 41, 42]
/-- WashLineModel.lacks(II)I -/
def am_b222 : List (List am_I) := [[(.aload_n 0, [], 0), (.iload_n 2, [], 0), (.invokevirtual 229, [214, 2, 10], 2), (.istore_n 3, [], 0), (.aload_n 0, [], 0), (.iload_n 1, [], 0), (.invokevirtual 213, [209, 2, 10], 2), (.ifCond .eq 7, [1], 0), (.iload_n 3, [], 0), (.ifCond .ge 5, [2], 0), (.nop, [1], 0)],
  [(.iconst (-1), [], 0), (.ireturn, [0], 0)],
  [(.iconst 0, [], 0), (.istore 4, [], 0), (.iconst 0, [], 0), (.istore 5, [], 0), (.iconst 0, [], 0), (.istore 6, [], 0), (.nop, [3], 0)],
  [(.iload 6, [], 0), (.bipush 8, [], 0), (.if_icmp .ge 97, [8], 0), (.iload 4, [], 0), (.aload_n 0, [], 0), (.iload_n 1, [], 0), (.iconst 2, [], 0), (.iload 6, [], 0), (.iadd, [], 0), (.invokevirtual 216, [210, 3, 10], 3), (.aload_n 0, [], 0), (.iload_n 1, [], 0), (.iconst 1, [], 0), (.invokevirtual 216, [210, 3, 10], 3), (.iadd, [], 0), (.aload_n 0, [], 0), (.iload_n 3, [], 0), (.aload_n 0, [], 0), (.iload_n 1, [], 0), (.iconst 0, [], 0), (.invokevirtual 216, [210, 3, 10], 3), (.iload 6, [], 0), (.invokevirtual 232, [216, 4, 10], 4), (.if_icmp .ge 10, [4], 0), (.iconst 1, [], 0), (.iload 6, [], 0), (.ishl, [], 0), (.goto 4, [5], 0)],
  [(.iconst 0, [], 0), (.nop, [5], 0)],
  [(.ior, [], 0), (.istore 4, [], 0), (.iload 5, [], 0), (.aload_n 0, [], 0), (.iload_n 1, [], 0), (.iconst 2, [], 0), (.iload 6, [], 0), (.iadd, [], 0), (.invokevirtual 216, [210, 3, 10], 3), (.aload_n 0, [], 0), (.iload_n 1, [], 0), (.iconst 1, [], 0), (.invokevirtual 216, [210, 3, 10], 3), (.isub, [], 0), (.aload_n 0, [], 0), (.aload_n 0, [], 0), (.getfield 38, [10, 14], 0), (.iload_n 3, [], 0), (.iload 6, [], 0), (.invokevirtual 225, [215, 4, 10], 4), (.if_icmp .le 10, [6], 0), (.iconst 1, [], 0), (.iload 6, [], 0), (.ishl, [], 0), (.goto 4, [7], 0)],
  [(.iconst 0, [], 0), (.nop, [7], 0)],
  [(.ior, [], 0), (.istore 5, [], 0), (.iinc 6 1, [], 0), (.goto (-98), [3], 0)],
  [(.aload_n 0, [], 0), (.iload 5, [], 0), (.iload 4, [], 0), (.invokevirtual 145, [183, 3, 10], 3), (.ireturn, [0], 0)]]
def am_s222 : List Nat := [0, 18, 20, 29, 77, 78, 120, 121, 130]
/-- WashLineModel.fewest(I)I -/
def am_b223 : List (List am_I) := [[(.aload_n 0, [], 0), (.iload_n 1, [], 0), (.invokevirtual 213, [209, 2, 10], 2), (.ifCond .ne 5, [1], 0), (.iconst (-1), [], 0), (.ireturn, [0], 0)],
  [(.bipush (-9), [], 0), (.istore_n 2, [], 0), (.iconst 0, [], 0), (.istore_n 3, [], 0), (.nop, [2], 0)],
  [(.iload_n 3, [], 0), (.aload_n 0, [], 0), (.getfield 219, [10, 27], 0), (.if_icmp .ge 41, [5], 0), (.iload_n 2, [], 0), (.ifCond .lt 16, [3], 0), (.aload_n 0, [], 0), (.iload_n 3, [], 0), (.invokevirtual 250, [224, 2, 10], 2), (.aload_n 0, [], 0), (.iload_n 2, [], 0), (.invokevirtual 250, [224, 2, 10], 2), (.if_icmp .ge 18, [4], 0), (.nop, [3], 0)],
  [(.aload_n 0, [], 0), (.iload_n 1, [], 0), (.iload_n 3, [], 0), (.bipush (-9), [], 0), (.bipush (-9), [], 0), (.invokevirtual 243, [220, 5, 10], 5), (.ifCond .eq 5, [4], 0), (.iload_n 3, [], 0), (.istore_n 2, [], 0), (.nop, [4], 0)],
  [(.iinc 3 1, [], 0), (.goto (-43), [2], 0)],
  [(.iload_n 2, [], 0), (.ifCond .ge 8, [6], 0), (.bipush (-9), [], 0), (.goto 18, [7], 0)],
  [(.aload_n 0, [], 0), (.aload_n 0, [], 0), (.getfield 59, [10, 28], 0), (.iload_n 2, [], 0), (.iaload, [], 0), (.aload_n 0, [], 0), (.iload_n 2, [], 0), (.invokevirtual 250, [224, 2, 10], 2), (.invokevirtual 145, [183, 3, 10], 3), (.nop, [7], 0)],
  [(.ireturn, [0], 0)]]
def am_s223 : List Nat := [0, 10, 15, 40, 55, 61, 70, 85]
/-- WashLineModel.peopleOf(I)I -/
def am_b224 : List (List am_I) := [[(.iconst 0, [], 0), (.istore_n 2, [], 0), (.iconst 0, [], 0), (.istore_n 3, [], 0), (.nop, [1], 0)],
  [(.iload_n 3, [], 0), (.bipush 6, [], 0), (.if_icmp .ge 23, [2], 0), (.iload_n 2, [], 0), (.aload_n 0, [], 0), (.getfield 62, [10, 29], 0), (.bipush 6, [], 0), (.iload_n 1, [], 0), (.imul, [], 0), (.iload_n 3, [], 0), (.iadd, [], 0), (.iaload, [], 0), (.iadd, [], 0), (.istore_n 2, [], 0), (.iinc 3 1, [], 0), (.goto (-23), [1], 0)],
  [(.iload_n 2, [], 0), (.ireturn, [0], 0)]]
def am_s224 : List Nat := [0, 4, 30]
/-- WashLineModel.bound(I)I -/
def am_b225 : List (List am_I) := [[(.aload_n 0, [], 0), (.iload_n 1, [], 0), (.invokevirtual 213, [209, 2, 10], 2), (.ifCond .ne 5, [1], 0), (.iconst (-1), [], 0), (.ireturn, [0], 0)],
  [(.iconst 0, [], 0), (.istore_n 2, [], 0), (.iconst 0, [], 0), (.istore_n 3, [], 0), (.nop, [2], 0)],
  [(.iload_n 3, [], 0), (.bipush 8, [], 0), (.if_icmp .ge 103, [8], 0), (.aload_n 0, [], 0), (.iload_n 1, [], 0), (.iconst 2, [], 0), (.iload_n 3, [], 0), (.iadd, [], 0), (.invokevirtual 216, [210, 3, 10], 3), (.aload_n 0, [], 0), (.iload_n 1, [], 0), (.iconst 1, [], 0), (.invokevirtual 216, [210, 3, 10], 3), (.isub, [], 0), (.istore 4, [], 0), (.iconst 0, [], 0), (.istore 5, [], 0), (.iconst 0, [], 0), (.istore 6, [], 0), (.nop, [3], 0)],
  [(.iload 6, [], 0), (.aload_n 0, [], 0), (.getfield 188, [10, 11], 0), (.if_icmp .ge 28, [4], 0), (.iload 5, [], 0), (.aload_n 0, [], 0), (.getfield 38, [10, 14], 0), (.bipush 8, [], 0), (.iload 6, [], 0), (.imul, [], 0), (.iload_n 3, [], 0), (.iadd, [], 0), (.iaload, [], 0), (.invokestatic 253, [226, 2], 2), (.istore 5, [], 0), (.iinc 6 1, [], 0), (.goto (-31), [3], 0)],
  [(.iload 4, [], 0), (.ifCond .le 11, [5], 0), (.iload 5, [], 0), (.ifCond .ne 6, [5], 0), (.bipush (-9), [], 0), (.ireturn, [0], 0)],
  [(.iload 4, [], 0), (.ifCond .le 20, [6], 0), (.iload_n 2, [], 0), (.iload 4, [], 0), (.iload 5, [], 0), (.iadd, [], 0), (.iconst 1, [], 0), (.isub, [], 0), (.iload 5, [], 0), (.idiv, [], 0), (.invokestatic 253, [226, 2], 2), (.goto 4, [7], 0)],
  [(.iload_n 2, [], 0), (.nop, [7], 0)],
  [(.istore_n 2, [], 0), (.iinc 3 1, [], 0), (.goto (-103), [2], 0)],
  [(.iload_n 2, [], 0), (.ireturn, [0], 0)]]
def am_s225 : List Nat := [0, 10, 14, 43, 77, 90, 112, 113, 120]
/-- WashLineModel.greater(II)I -/
def am_b226 : List (List am_I) := [[(.iload_n 0, [], 0), (.iload_n 1, [], 0), (.if_icmp .le 7, [1], 0), (.iload_n 0, [], 0), (.goto 4, [2], 0)],
  [(.iload_n 1, [], 0), (.nop, [2], 0)],
  [(.ireturn, [0], 0)]]
def am_s226 : List Nat := [0, 9, 10]
/-- WashLineModel.many(II)I -/
def am_b227 : List (List am_I) := [[(.aload_n 0, [], 0), (.iload_n 1, [], 0), (.invokevirtual 213, [209, 2, 10], 2), (.ifCond .eq 13, [1], 0), (.iload_n 2, [], 0), (.iconst 0, [], 0), (.bipush 9, [], 0), (.invokestatic 123, [175, 3], 3), (.ifCond .ne 5, [2], 0), (.nop, [1], 0)],
  [(.iconst (-1), [], 0), (.ireturn, [0], 0)],
  [(.iconst 0, [], 0), (.istore_n 3, [], 0), (.iconst 0, [], 0), (.istore 4, [], 0), (.nop, [3], 0)],
  [(.iload 4, [], 0), (.aload_n 0, [], 0), (.getfield 219, [10, 27], 0), (.if_icmp .ge 28, [6], 0), (.iload_n 3, [], 0), (.aload_n 0, [], 0), (.iload_n 1, [], 0), (.iload 4, [], 0), (.invokevirtual 247, [219, 3, 10], 3), (.iload_n 2, [], 0), (.if_icmp .gt 7, [4], 0), (.iconst 1, [], 0), (.goto 4, [5], 0)],
  [(.iconst 0, [], 0), (.nop, [5], 0)],
  [(.iadd, [], 0), (.istore_n 3, [], 0), (.iinc 4 1, [], 0), (.goto (-31), [3], 0)],
  [(.iload_n 3, [], 0), (.ireturn, [0], 0)]]
def am_s227 : List Nat := [0, 18, 20, 25, 50, 51, 59]
/-- WashLineModel.step(II)I -/
def am_b228 : List (List am_I) := [[(.aload_n 0, [], 0), (.iload_n 1, [], 0), (.invokevirtual 229, [214, 2, 10], 2), (.istore_n 3, [], 0), (.aload_n 0, [], 0), (.iload_n 2, [], 0), (.invokevirtual 229, [214, 2, 10], 2), (.istore 4, [], 0), (.iload_n 3, [], 0), (.ifCond .lt 8, [1], 0), (.iload 4, [], 0), (.ifCond .ge 5, [2], 0), (.nop, [1], 0)],
  [(.iconst (-1), [], 0), (.ireturn, [0], 0)],
  [(.aload_n 0, [], 0), (.invokevirtual 266, [229, 1, 10], 1), (.aload_n 0, [], 0), (.iload_n 3, [], 0), (.iload 4, [], 0), (.invokevirtual 269, [233, 3, 10], 3), (.ireturn, [0], 0)]]
def am_s228 : List Nat := [0, 22, 24]
/-- WashLineModel.setSteps()V -/
def am_b229 : List (List am_I) := [[(.aload_n 0, [], 0), (.getfield 203, [10, 31], 0), (.ifCond .ne 33, [3], 0), (.aload_n 0, [], 0), (.invokevirtual 259, [230, 1, 10], 1), (.iconst 0, [], 0), (.istore_n 1, [], 0), (.nop, [1], 0)],
  [(.iload_n 1, [], 0), (.aload_n 0, [], 0), (.getfield 219, [10, 27], 0), (.if_icmp .ge 14, [2], 0), (.aload_n 0, [], 0), (.iload_n 1, [], 0), (.invokevirtual 262, [232, 2, 10], 2), (.iinc 1 1, [], 0), (.goto (-16), [1], 0)],
  [(.aload_n 0, [], 0), (.iconst 1, [], 0), (.putfield 203, [10, 31], 0), (.nop, [3], 0)],
  [(.return_, [], 0)]]
def am_s229 : List Nat := [0, 13, 32, 37]
/-- WashLineModel.setNexts()V -/
def am_b230 : List (List am_I) := [[(.iconst 0, [], 0), (.istore_n 1, [], 0), (.nop, [1], 0)],
  [(.iload_n 1, [], 0), (.aload_n 0, [], 0), (.getfield 219, [10, 27], 0), (.if_icmp .ge 60, [6], 0), (.iconst 0, [], 0), (.istore_n 2, [], 0), (.nop, [2], 0)],
  [(.iload_n 2, [], 0), (.bipush 18, [], 0), (.if_icmp .ge 46, [5], 0), (.aload_n 0, [], 0), (.getfield 76, [10, 35], 0), (.bipush 18, [], 0), (.iload_n 1, [], 0), (.imul, [], 0), (.iload_n 2, [], 0), (.iadd, [], 0), (.iload_n 2, [], 0), (.iconst 3, [], 0), (.idiv, [], 0), (.aload_n 0, [], 0), (.getfield 188, [10, 11], 0), (.if_icmp .ge 17, [3], 0), (.aload_n 0, [], 0), (.iload_n 1, [], 0), (.iload_n 2, [], 0), (.iconst 3, [], 0), (.idiv, [], 0), (.iload_n 2, [], 0), (.iconst 3, [], 0), (.irem, [], 0), (.invokevirtual 256, [231, 4, 10], 4), (.goto 5, [4], 0)],
  [(.bipush (-9), [], 0), (.nop, [4], 0)],
  [(.iastore, [], 0), (.iinc 2 1, [], 0), (.goto (-46), [2], 0)],
  [(.iinc 1 1, [], 0), (.goto (-62), [1], 0)],
  [(.return_, [], 0)]]
def am_s230 : List Nat := [0, 2, 12, 52, 54, 61, 67]
/-- WashLineModel.changed(III)I -/
def am_b231 : List (List am_I) := [[(.iconst 1, [], 0), (.istore 4, [], 0), (.iconst 0, [], 0), (.istore 5, [], 0), (.nop, [1], 0)],
  [(.iload 5, [], 0), (.iload_n 2, [], 0), (.if_icmp .ge 16, [2], 0), (.iload 4, [], 0), (.bipush 10, [], 0), (.imul, [], 0), (.istore 4, [], 0), (.iinc 5 1, [], 0), (.goto (-16), [1], 0)],
  [(.iload_n 3, [], 0), (.ifCond .ne 31, [5], 0), (.aload_n 0, [], 0), (.iload_n 1, [], 0), (.invokevirtual 250, [224, 2, 10], 2), (.iconst 5, [], 0), (.if_icmp .ne 8, [3], 0), (.bipush (-9), [], 0), (.goto 16, [4], 0)],
  [(.aload_n 0, [], 0), (.aload_n 0, [], 0), (.getfield 59, [10, 28], 0), (.iload_n 1, [], 0), (.iaload, [], 0), (.iload 4, [], 0), (.iadd, [], 0), (.invokevirtual 229, [214, 2, 10], 2), (.nop, [4], 0)],
  [(.ireturn, [0], 0)],
  [(.aload_n 0, [], 0), (.getfield 62, [10, 29], 0), (.bipush 6, [], 0), (.iload_n 1, [], 0), (.imul, [], 0), (.iload_n 2, [], 0), (.iadd, [], 0), (.iaload, [], 0), (.ifCond .ne 6, [6], 0), (.bipush (-9), [], 0), (.ireturn, [0], 0)],
  [(.iload_n 3, [], 0), (.iconst 1, [], 0), (.if_icmp .ne 17, [7], 0), (.aload_n 0, [], 0), (.aload_n 0, [], 0), (.getfield 59, [10, 28], 0), (.iload_n 1, [], 0), (.iaload, [], 0), (.iload 4, [], 0), (.isub, [], 0), (.invokevirtual 229, [214, 2, 10], 2), (.ireturn, [0], 0)],
  [(.iconst 1, [], 0), (.istore 5, [], 0), (.iconst 0, [], 0), (.istore 6, [], 0), (.nop, [8], 0)],
  [(.iload 6, [], 0), (.aload_n 0, [], 0), (.getfield 32, [10, 12], 0), (.iload_n 2, [], 0), (.iaload, [], 0), (.if_icmp .ge 16, [9], 0), (.iload 5, [], 0), (.bipush 10, [], 0), (.imul, [], 0), (.istore 5, [], 0), (.iinc 6 1, [], 0), (.goto (-21), [8], 0)],
  [(.aload_n 0, [], 0), (.getfield 32, [10, 12], 0), (.iload_n 2, [], 0), (.iaload, [], 0), (.ifCond .ge 8, [10], 0), (.bipush (-9), [], 0), (.goto 19, [11], 0)],
  [(.aload_n 0, [], 0), (.aload_n 0, [], 0), (.getfield 59, [10, 28], 0), (.iload_n 1, [], 0), (.iaload, [], 0), (.iload 4, [], 0), (.isub, [], 0), (.iload 5, [], 0), (.iadd, [], 0), (.invokevirtual 229, [214, 2, 10], 2), (.nop, [11], 0)],
  [(.ireturn, [0], 0)]]
def am_s231 : List Nat := [0, 6, 25, 43, 56, 57, 74, 93, 99, 123, 137, 153]
/-- WashLineModel.setStepsFrom(I)V -/
def am_b232 : List (List am_I) := [[(.sipush 462, [], 0), (.iload_n 1, [], 0), (.imul, [], 0), (.istore_n 2, [], 0), (.iconst 0, [], 0), (.istore_n 3, [], 0), (.nop, [1], 0)],
  [(.iload_n 3, [], 0), (.aload_n 0, [], 0), (.getfield 219, [10, 27], 0), (.if_icmp .ge 26, [2], 0), (.aload_n 0, [], 0), (.getfield 66, [10, 32], 0), (.iload_n 2, [], 0), (.iload_n 3, [], 0), (.iadd, [], 0), (.ldc 246, [], 100000), (.iastore, [], 0), (.aload_n 0, [], 0), (.getfield 72, [10, 34], 0), (.iload_n 3, [], 0), (.iconst 0, [], 0), (.bastore, [], 0), (.iinc 3 1, [], 0), (.goto (-28), [1], 0)],
  [(.aload_n 0, [], 0), (.getfield 66, [10, 32], 0), (.iload_n 2, [], 0), (.iload_n 1, [], 0), (.iadd, [], 0), (.iconst 0, [], 0), (.iastore, [], 0), (.aload_n 0, [], 0), (.getfield 69, [10, 33], 0), (.iconst 0, [], 0), (.iload_n 1, [], 0), (.iastore, [], 0), (.aload_n 0, [], 0), (.getfield 72, [10, 34], 0), (.iload_n 1, [], 0), (.iconst 1, [], 0), (.bastore, [], 0), (.iconst 0, [], 0), (.istore_n 3, [], 0), (.iconst 1, [], 0), (.istore 4, [], 0), (.nop, [3], 0)],
  [(.iload 4, [], 0), (.ifCond .le 164, [7], 0), (.aload_n 0, [], 0), (.getfield 69, [10, 33], 0), (.iload_n 3, [], 0), (.iaload, [], 0), (.istore 5, [], 0), (.iload_n 3, [], 0), (.iconst 1, [], 0), (.iadd, [], 0), (.sipush 462, [], 0), (.irem, [], 0), (.istore_n 3, [], 0), (.iinc 4 (-1), [], 0), (.aload_n 0, [], 0), (.getfield 72, [10, 34], 0), (.iload 5, [], 0), (.iconst 0, [], 0), (.bastore, [], 0), (.iconst 0, [], 0), (.istore 6, [], 0), (.nop, [4], 0)],
  [(.iload 6, [], 0), (.bipush 18, [], 0), (.if_icmp .ge 124, [6], 0), (.aload_n 0, [], 0), (.getfield 76, [10, 35], 0), (.bipush 18, [], 0), (.iload 5, [], 0), (.imul, [], 0), (.iload 6, [], 0), (.iadd, [], 0), (.iaload, [], 0), (.istore 7, [], 0), (.iload 7, [], 0), (.ifCond .lt 98, [5], 0), (.aload_n 0, [], 0), (.getfield 66, [10, 32], 0), (.iload_n 2, [], 0), (.iload 5, [], 0), (.iadd, [], 0), (.iaload, [], 0), (.aload_n 0, [], 0), (.getfield 41, [10, 16], 0), (.iload 6, [], 0), (.iconst 3, [], 0), (.irem, [], 0), (.iaload, [], 0), (.iadd, [], 0), (.aload_n 0, [], 0), (.getfield 66, [10, 32], 0), (.iload_n 2, [], 0), (.iload 7, [], 0), (.iadd, [], 0), (.iaload, [], 0), (.if_icmp .ge 67, [5], 0), (.aload_n 0, [], 0), (.getfield 66, [10, 32], 0), (.iload_n 2, [], 0), (.iload 7, [], 0), (.iadd, [], 0), (.aload_n 0, [], 0), (.getfield 66, [10, 32], 0), (.iload_n 2, [], 0), (.iload 5, [], 0), (.iadd, [], 0), (.iaload, [], 0), (.aload_n 0, [], 0), (.getfield 41, [10, 16], 0), (.iload 6, [], 0), (.iconst 3, [], 0), (.irem, [], 0), (.iaload, [], 0), (.iadd, [], 0), (.iastore, [], 0), (.aload_n 0, [], 0), (.getfield 72, [10, 34], 0), (.iload 7, [], 0), (.baload, [], 0), (.ifCond .ne 29, [5], 0), (.aload_n 0, [], 0), (.getfield 72, [10, 34], 0), (.iload 7, [], 0), (.iconst 1, [], 0), (.bastore, [], 0), (.aload_n 0, [], 0), (.getfield 69, [10, 33], 0), (.iload_n 3, [], 0), (.iload 4, [], 0), (.iadd, [], 0), (.sipush 462, [], 0), (.irem, [], 0), (.iload 7, [], 0), (.iastore, [], 0), (.iinc 4 1, [], 0), (.nop, [5], 0)],
  [(.iinc 6 1, [], 0), (.goto (-125), [4], 0)],
  [(.goto (-163), [3], 0)],
  [(.return_, [], 0)]]
def am_s232 : List Nat := [0, 8, 39, 67, 102, 224, 230, 233]
/-- WashLineModel.stepOf(II)I -/
def am_b233 : List (List am_I) := [[(.aload_n 0, [], 0), (.getfield 66, [10, 32], 0), (.sipush 462, [], 0), (.iload_n 1, [], 0), (.imul, [], 0), (.iload_n 2, [], 0), (.iadd, [], 0), (.iaload, [], 0), (.ireturn, [0], 0)]]
def am_s233 : List Nat := [0]
/-- WashLineModel.plain()I -/
def am_b234 : List (List am_I) := [[(.aload_n 0, [], 0), (.invokevirtual 278, [235, 1, 10], 1), (.aload_n 0, [], 0), (.getfield 272, [10, 39], 0), (.ldc 246, [], 100000), (.if_icmp .ne 8, [1], 0), (.bipush (-9), [], 0), (.goto 7, [2], 0)],
  [(.aload_n 0, [], 0), (.getfield 272, [10, 39], 0), (.nop, [2], 0)],
  [(.ireturn, [0], 0)]]
def am_s234 : List Nat := [0, 18, 22]
/-- WashLineModel.setTales()V -/
def am_b235 : List (List am_I) := [[(.aload_n 0, [], 0), (.invokevirtual 266, [229, 1, 10], 1), (.iconst 0, [], 0), (.istore_n 1, [], 0), (.nop, [1], 0)],
  [(.iload_n 1, [], 0), (.aload_n 0, [], 0), (.getfield 194, [10, 25], 0), (.if_icmp .ge 154, [9], 0), (.iconst 0, [], 0), (.istore_n 2, [], 0), (.nop, [2], 0)],
  [(.iload_n 2, [], 0), (.aload_n 0, [], 0), (.getfield 219, [10, 27], 0), (.if_icmp .ge 138, [8], 0), (.aload_n 0, [], 0), (.iload_n 1, [], 0), (.iload_n 2, [], 0), (.invokevirtual 247, [219, 3, 10], 3), (.istore_n 3, [], 0), (.aload_n 0, [], 0), (.getfield 79, [10, 36], 0), (.sipush 462, [], 0), (.iload_n 1, [], 0), (.imul, [], 0), (.iload_n 2, [], 0), (.iadd, [], 0), (.iload_n 3, [], 0), (.iastore, [], 0), (.ldc 246, [], 100000), (.istore 4, [], 0), (.iload_n 3, [], 0), (.ldc 246, [], 100000), (.if_icmp .ge 17, [3], 0), (.iload_n 1, [], 0), (.ifCond .ne 13, [3], 0), (.aload_n 0, [], 0), (.iconst 0, [], 0), (.iload_n 2, [], 0), (.invokevirtual 269, [233, 3, 10], 3), (.iload_n 3, [], 0), (.iadd, [], 0), (.istore 4, [], 0), (.nop, [3], 0)],
  [(.iconst 0, [], 0), (.istore 5, [], 0), (.nop, [4], 0)],
  [(.iload 5, [], 0), (.aload_n 0, [], 0), (.getfield 219, [10, 27], 0), (.if_icmp .ge 62, [7], 0), (.iload_n 1, [], 0), (.ifCond .le 58, [7], 0), (.iload_n 3, [], 0), (.ldc 246, [], 100000), (.if_icmp .ge 52, [7], 0), (.aload_n 0, [], 0), (.getfield 82, [10, 37], 0), (.sipush 462, [], 0), (.iload_n 1, [], 0), (.iconst 1, [], 0), (.isub, [], 0), (.imul, [], 0), (.iload 5, [], 0), (.iadd, [], 0), (.iaload, [], 0), (.aload_n 0, [], 0), (.iload 5, [], 0), (.iload_n 2, [], 0), (.invokevirtual 269, [233, 3, 10], 3), (.iadd, [], 0), (.iload_n 3, [], 0), (.iadd, [], 0), (.istore 6, [], 0), (.iload 6, [], 0), (.iload 4, [], 0), (.if_icmp .ge 8, [5], 0), (.iload 6, [], 0), (.goto 5, [6], 0)],
  [(.iload 4, [], 0), (.nop, [6], 0)],
  [(.istore 4, [], 0), (.iinc 5 1, [], 0), (.goto (-65), [4], 0)],
  [(.aload_n 0, [], 0), (.getfield 82, [10, 37], 0), (.sipush 462, [], 0), (.iload_n 1, [], 0), (.imul, [], 0), (.iload_n 2, [], 0), (.iadd, [], 0), (.iload 4, [], 0), (.iastore, [], 0), (.iinc 2 1, [], 0), (.goto (-140), [2], 0)],
  [(.iinc 1 1, [], 0), (.goto (-156), [1], 0)],
  [(.aload_n 0, [], 0), (.getfield 194, [10, 25], 0), (.iconst 1, [], 0), (.isub, [], 0), (.istore_n 1, [], 0), (.nop, [10], 0)],
  [(.iload_n 1, [], 0), (.ifCond .lt 150, [21], 0), (.iconst 0, [], 0), (.istore_n 2, [], 0), (.nop, [11], 0)],
  [(.iload_n 2, [], 0), (.aload_n 0, [], 0), (.getfield 219, [10, 27], 0), (.if_icmp .ge 134, [20], 0), (.iload_n 1, [], 0), (.aload_n 0, [], 0), (.getfield 194, [10, 25], 0), (.iconst 1, [], 0), (.isub, [], 0), (.if_icmp .ne 7, [12], 0), (.iconst 0, [], 0), (.goto 5, [13], 0)],
  [(.ldc 246, [], 100000), (.nop, [13], 0)],
  [(.istore_n 3, [], 0), (.iconst 0, [], 0), (.istore 4, [], 0), (.nop, [14], 0)],
  [(.iload 4, [], 0), (.aload_n 0, [], 0), (.getfield 219, [10, 27], 0), (.if_icmp .ge 86, [19], 0), (.iload_n 1, [], 0), (.aload_n 0, [], 0), (.getfield 194, [10, 25], 0), (.iconst 1, [], 0), (.isub, [], 0), (.if_icmp .ge 76, [19], 0), (.sipush 462, [], 0), (.iload_n 1, [], 0), (.iconst 1, [], 0), (.iadd, [], 0), (.imul, [], 0), (.iload 4, [], 0), (.iadd, [], 0), (.istore 5, [], 0), (.aload_n 0, [], 0), (.getfield 79, [10, 36], 0), (.iload 5, [], 0), (.iaload, [], 0), (.ldc 246, [], 100000), (.if_icmp .ge 29, [15], 0), (.aload_n 0, [], 0), (.iload_n 2, [], 0), (.iload 4, [], 0), (.invokevirtual 269, [233, 3, 10], 3), (.aload_n 0, [], 0), (.getfield 79, [10, 36], 0), (.iload 5, [], 0), (.iaload, [], 0), (.iadd, [], 0), (.aload_n 0, [], 0), (.getfield 85, [10, 38], 0), (.iload 5, [], 0), (.iaload, [], 0), (.iadd, [], 0), (.goto 5, [16], 0)],
  [(.ldc 246, [], 100000), (.nop, [16], 0)],
  [(.istore 6, [], 0), (.iload 6, [], 0), (.iload_n 3, [], 0), (.if_icmp .ge 8, [17], 0), (.iload 6, [], 0), (.goto 4, [18], 0)],
  [(.iload_n 3, [], 0), (.nop, [18], 0)],
  [(.istore_n 3, [], 0), (.iinc 4 1, [], 0), (.goto (-89), [14], 0)],
  [(.aload_n 0, [], 0), (.getfield 85, [10, 38], 0), (.sipush 462, [], 0), (.iload_n 1, [], 0), (.imul, [], 0), (.iload_n 2, [], 0), (.iadd, [], 0), (.iload_n 3, [], 0), (.iastore, [], 0), (.iinc 2 1, [], 0), (.goto (-136), [11], 0)],
  [(.iinc 1 (-1), [], 0), (.goto (-148), [10], 0)],
  [(.aload_n 0, [], 0), (.aload_n 0, [], 0), (.getfield 194, [10, 25], 0), (.ifCond .ne 7, [22], 0), (.iconst 0, [], 0), (.goto 5, [23], 0)],
  [(.ldc 246, [], 100000), (.nop, [23], 0)],
  [(.putfield 272, [10, 39], 0), (.iconst 0, [], 0), (.istore_n 1, [], 0), (.nop, [24], 0)],
  [(.iload_n 1, [], 0), (.aload_n 0, [], 0), (.getfield 219, [10, 27], 0), (.if_icmp .ge 42, [27], 0), (.aload_n 0, [], 0), (.getfield 194, [10, 25], 0), (.ifCond .le 35, [27], 0), (.aload_n 0, [], 0), (.iload_n 1, [], 0), (.invokevirtual 275, [236, 2, 10], 2), (.istore_n 2, [], 0), (.aload_n 0, [], 0), (.iload_n 2, [], 0), (.aload_n 0, [], 0), (.getfield 272, [10, 39], 0), (.if_icmp .ge 7, [25], 0), (.iload_n 2, [], 0), (.goto 7, [26], 0)],
  [(.aload_n 0, [], 0), (.getfield 272, [10, 39], 0), (.nop, [26], 0)],
  [(.putfield 272, [10, 39], 0), (.iinc 1 1, [], 0), (.goto (-44), [24], 0)],
  [(.return_, [], 0)]]
def am_s235 : List Nat := [0, 6, 16, 68, 71, 129, 131, 139, 159, 165, 172, 178, 200, 202, 206, 275, 277, 290, 291, 298, 317, 323, 335, 337, 342, 376, 380, 389]
/-- WashLineModel.costAt(I)I -/
def am_b236 : List (List am_I) := [[(.aload_n 0, [], 0), (.getfield 82, [10, 37], 0), (.iload_n 1, [], 0), (.iaload, [], 0), (.aload_n 0, [], 0), (.getfield 85, [10, 38], 0), (.iload_n 1, [], 0), (.iaload, [], 0), (.iadd, [], 0), (.istore_n 2, [], 0), (.iload_n 2, [], 0), (.ldc 246, [], 100000), (.if_icmp .ge 7, [1], 0), (.iload_n 2, [], 0), (.goto 5, [2], 0)],
  [(.ldc 246, [], 100000), (.nop, [2], 0)],
  [(.ireturn, [0], 0)]]
def am_s236 : List Nat := [0, 24, 26]
/-- WashLineModel.tale(I)I -/
def am_b237 : List (List am_I) := [[(.iload_n 1, [], 0), (.invokestatic 127, [178, 1], 1), (.ifCond .ne 5, [1], 0), (.iconst (-1), [], 0), (.ireturn, [0], 0)],
  [(.aload_n 0, [], 0), (.invokevirtual 278, [235, 1, 10], 1), (.aload_n 0, [], 0), (.getfield 272, [10, 39], 0), (.ldc 246, [], 100000), (.if_icmp .ne 9, [2], 0), (.aload_n 0, [], 0), (.iconst 4, [], 0), (.invokevirtual 131, [179, 2, 10], 2), (.ireturn, [0], 0)],
  [(.aload_n 0, [], 0), (.invokevirtual 284, [238, 1, 10], 1), (.aload_n 0, [], 0), (.iload_n 1, [], 0), (.aload_n 0, [], 0), (.getfield 194, [10, 25], 0), (.invokevirtual 287, [177, 3, 10], 3), (.pop, [], 0), (.iconst 0, [], 0), (.istore_n 2, [], 0), (.nop, [3], 0)],
  [(.iload_n 2, [], 0), (.aload_n 0, [], 0), (.getfield 194, [10, 25], 0), (.if_icmp .ge 31, [4], 0), (.aload_n 0, [], 0), (.getfield 20, [10, 7], 0), (.bipush 40, [], 0), (.iload_n 1, [], 0), (.imul, [], 0), (.iload_n 2, [], 0), (.iadd, [], 0), (.aload_n 0, [], 0), (.getfield 59, [10, 28], 0), (.aload_n 0, [], 0), (.getfield 88, [10, 40], 0), (.iload_n 2, [], 0), (.iaload, [], 0), (.iaload, [], 0), (.iastore, [], 0), (.iinc 2 1, [], 0), (.goto (-33), [3], 0)],
  [(.aload_n 0, [], 0), (.getfield 194, [10, 25], 0), (.ireturn, [0], 0)]]
def am_s237 : List Nat := [0, 9, 28, 44, 80]
/-- WashLineModel.setFirst()V -/
def am_b238 : List (List am_I) := [[(.iconst 0, [], 0), (.istore_n 1, [], 0), (.nop, [1], 0)],
  [(.iload_n 1, [], 0), (.aload_n 0, [], 0), (.getfield 194, [10, 25], 0), (.if_icmp .ge 100, [5], 0), (.iconst 0, [], 0), (.istore_n 2, [], 0), (.nop, [2], 0)],
  [(.aload_n 0, [], 0), (.iload_n 1, [], 0), (.iload_n 2, [], 0), (.invokevirtual 281, [239, 3, 10], 3), (.ifCond .eq 70, [3], 0), (.iload_n 1, [], 0), (.ifCond .le 72, [4], 0), (.aload_n 0, [], 0), (.getfield 82, [10, 37], 0), (.sipush 462, [], 0), (.iload_n 1, [], 0), (.iconst 1, [], 0), (.isub, [], 0), (.imul, [], 0), (.aload_n 0, [], 0), (.getfield 88, [10, 40], 0), (.iload_n 1, [], 0), (.iconst 1, [], 0), (.isub, [], 0), (.iaload, [], 0), (.iadd, [], 0), (.iaload, [], 0), (.aload_n 0, [], 0), (.aload_n 0, [], 0), (.getfield 88, [10, 40], 0), (.iload_n 1, [], 0), (.iconst 1, [], 0), (.isub, [], 0), (.iaload, [], 0), (.iload_n 2, [], 0), (.invokevirtual 269, [233, 3, 10], 3), (.iadd, [], 0), (.aload_n 0, [], 0), (.getfield 79, [10, 36], 0), (.sipush 462, [], 0), (.iload_n 1, [], 0), (.imul, [], 0), (.iload_n 2, [], 0), (.iadd, [], 0), (.iaload, [], 0), (.iadd, [], 0), (.aload_n 0, [], 0), (.getfield 82, [10, 37], 0), (.sipush 462, [], 0), (.iload_n 1, [], 0), (.imul, [], 0), (.iload_n 2, [], 0), (.iadd, [], 0), (.iaload, [], 0), (.if_icmp .eq 9, [4], 0), (.nop, [3], 0)],
  [(.iinc 2 1, [], 0), (.goto (-79), [2], 0)],
  [(.aload_n 0, [], 0), (.getfield 88, [10, 40], 0), (.iload_n 1, [], 0), (.iload_n 2, [], 0), (.iastore, [], 0), (.iinc 1 1, [], 0), (.goto (-102), [1], 0)],
  [(.return_, [], 0)]]
def am_s238 : List Nat := [0, 2, 12, 88, 94, 107]
/-- WashLineModel.isPlain(II)Z -/
def am_b239 : List (List am_I) := [[(.aload_n 0, [], 0), (.sipush 462, [], 0), (.iload_n 1, [], 0), (.imul, [], 0), (.iload_n 2, [], 0), (.iadd, [], 0), (.invokevirtual 275, [236, 2, 10], 2), (.aload_n 0, [], 0), (.getfield 272, [10, 39], 0), (.if_icmp .ne 7, [1], 0), (.iconst 1, [], 0), (.goto 4, [2], 0)],
  [(.iconst 0, [], 0), (.nop, [2], 0)],
  [(.ireturn, [1], 0)]]
def am_s239 : List Nat := [0, 22, 23]
/-- WashLineModel.ways()I -/
def am_b240 : List (List am_I) := [[(.aload_n 0, [], 0), (.invokevirtual 278, [235, 1, 10], 1), (.aload_n 0, [], 0), (.getfield 272, [10, 39], 0), (.ldc 246, [], 100000), (.if_icmp .ne 10, [1], 0), (.aload_n 0, [], 0), (.lconst 0, [], 0), (.putfield 294, [10, 3], 0), (.iconst 0, [], 0), (.ireturn, [0], 0)],
  [(.aload_n 0, [], 0), (.invokevirtual 297, [241, 1, 10], 1), (.lstore_n 1, [], 0), (.lload_n 1, [], 0), (.ldc2_w 290, [], 1000000000000000), (.lcmp, [], 0), (.ifCond .le 6, [2], 0), (.bipush (-6), [], 0), (.ireturn, [0], 0)],
  [(.aload_n 0, [], 0), (.lload_n 1, [], 0), (.putfield 294, [10, 3], 0), (.iconst 1, [], 0), (.ireturn, [0], 0)]]
def am_s240 : List Nat := [0, 20, 36]
/-- WashLineModel.countTales()J -/
def am_b241 : List (List am_I) := [[(.aload_n 0, [], 0), (.getfield 194, [10, 25], 0), (.ifCond .ne 7, [1], 0), (.lconst 1, [], 0), (.goto 4, [2], 0)],
  [(.lconst 0, [], 0), (.nop, [2], 0)],
  [(.lstore_n 1, [], 0), (.iconst 0, [], 0), (.istore_n 3, [], 0), (.nop, [3], 0)],
  [(.iload_n 3, [], 0), (.aload_n 0, [], 0), (.getfield 194, [10, 25], 0), (.if_icmp .ge 201, [14], 0), (.lconst 0, [], 0), (.lstore_n 1, [], 0), (.iconst 0, [], 0), (.istore 4, [], 0), (.nop, [4], 0)],
  [(.iload 4, [], 0), (.aload_n 0, [], 0), (.getfield 219, [10, 27], 0), (.if_icmp .ge 181, [13], 0), (.sipush 462, [], 0), (.iload_n 3, [], 0), (.imul, [], 0), (.iload 4, [], 0), (.iadd, [], 0), (.istore 5, [], 0), (.iload_n 3, [], 0), (.ifCond .ne 17, [5], 0), (.aload_n 0, [], 0), (.iconst 0, [], 0), (.iload 4, [], 0), (.invokevirtual 281, [239, 3, 10], 3), (.ifCond .eq 7, [5], 0), (.lconst 1, [], 0), (.goto 4, [6], 0)],
  [(.lconst 0, [], 0), (.nop, [6], 0)],
  [(.lstore 6, [], 0), (.iconst 0, [], 0), (.istore 8, [], 0), (.nop, [7], 0)],
  [(.iload 8, [], 0), (.aload_n 0, [], 0), (.getfield 219, [10, 27], 0), (.if_icmp .ge 97, [10], 0), (.iload_n 3, [], 0), (.ifCond .le 93, [10], 0), (.aload_n 0, [], 0), (.iload_n 3, [], 0), (.iload 4, [], 0), (.invokevirtual 281, [239, 3, 10], 3), (.ifCond .eq 83, [10], 0), (.sipush 462, [], 0), (.iload_n 3, [], 0), (.iconst 1, [], 0), (.isub, [], 0), (.imul, [], 0), (.iload 8, [], 0), (.iadd, [], 0), (.istore 9, [], 0), (.lload 6, [], 0), (.aload_n 0, [], 0), (.getfield 91, [10, 41], 0), (.iload 9, [], 0), (.laload, [], 0), (.lconst 0, [], 0), (.lcmp, [], 0), (.ifCond .le 47, [8], 0), (.aload_n 0, [], 0), (.getfield 82, [10, 37], 0), (.iload 9, [], 0), (.iaload, [], 0), (.aload_n 0, [], 0), (.iload 8, [], 0), (.iload 4, [], 0), (.invokevirtual 269, [233, 3, 10], 3), (.iadd, [], 0), (.aload_n 0, [], 0), (.getfield 79, [10, 36], 0), (.iload 5, [], 0), (.iaload, [], 0), (.iadd, [], 0), (.aload_n 0, [], 0), (.getfield 82, [10, 37], 0), (.iload 5, [], 0), (.iaload, [], 0), (.if_icmp .ne 13, [8], 0), (.aload_n 0, [], 0), (.getfield 91, [10, 41], 0), (.iload 9, [], 0), (.laload, [], 0), (.goto 4, [9], 0)],
  [(.lconst 0, [], 0), (.nop, [9], 0)],
  [(.ladd, [], 0), (.lstore 6, [], 0), (.iinc 8 1, [], 0), (.goto (-100), [7], 0)],
  [(.aload_n 0, [], 0), (.getfield 91, [10, 41], 0), (.iload 5, [], 0), (.lload 6, [], 0), (.lastore, [], 0), (.lload_n 1, [], 0), (.lload 6, [], 0), (.ladd, [], 0), (.lstore_n 1, [], 0), (.lload 6, [], 0), (.ldc2_w 290, [], 1000000000000000), (.lcmp, [], 0), (.ifCond .gt 11, [11], 0), (.lload_n 1, [], 0), (.ldc2_w 290, [], 1000000000000000), (.lcmp, [], 0), (.ifCond .le 7, [12], 0), (.nop, [11], 0)],
  [(.ldc2_w 292, [], 1000000000000001), (.lreturn, [], 0)],
  [(.iinc 4 1, [], 0), (.goto (-184), [4], 0)],
  [(.iinc 3 1, [], 0), (.goto (-203), [3], 0)],
  [(.lload_n 1, [], 0), (.lreturn, [], 0)]]
def am_s241 : List Nat := [0, 11, 12, 15, 28, 65, 66, 71, 164, 165, 174, 205, 209, 215, 221]
/-- WashLineModel.tales()J -/
def am_b242 : List (List am_I) := [[(.aload_n 0, [], 0), (.getfield 294, [10, 3], 0), (.lreturn, [], 0)]]
def am_s242 : List Nat := [0]
/-- WashLineModel.sure(II)I -/
def am_b243 : List (List am_I) := [[(.aload_n 0, [], 0), (.iload_n 1, [], 0), (.invokevirtual 213, [209, 2, 10], 2), (.ifCond .eq 11, [1], 0), (.aload_n 0, [], 0), (.iload_n 2, [], 0), (.invokevirtual 207, [202, 2, 10], 2), (.ifCond .ne 5, [2], 0), (.nop, [1], 0)],
  [(.iconst (-1), [], 0), (.ireturn, [0], 0)],
  [(.aload_n 0, [], 0), (.invokevirtual 278, [235, 1, 10], 1), (.aload_n 0, [], 0), (.getfield 272, [10, 39], 0), (.ldc 246, [], 100000), (.if_icmp .ne 9, [3], 0), (.aload_n 0, [], 0), (.iconst 4, [], 0), (.invokevirtual 131, [179, 2, 10], 2), (.ireturn, [0], 0)],
  [(.iconst 5, [], 0), (.istore_n 3, [], 0), (.iconst 0, [], 0), (.istore 4, [], 0), (.iconst 0, [], 0), (.istore 5, [], 0), (.nop, [4], 0)],
  [(.iload 5, [], 0), (.aload_n 0, [], 0), (.getfield 219, [10, 27], 0), (.if_icmp .ge 55, [8], 0), (.aload_n 0, [], 0), (.iload_n 1, [], 0), (.iload 5, [], 0), (.invokevirtual 281, [239, 3, 10], 3), (.ifCond .eq 39, [7], 0), (.aload_n 0, [], 0), (.getfield 62, [10, 29], 0), (.bipush 6, [], 0), (.iload 5, [], 0), (.imul, [], 0), (.iload_n 2, [], 0), (.iadd, [], 0), (.iaload, [], 0), (.istore 6, [], 0), (.iload 6, [], 0), (.iload_n 3, [], 0), (.if_icmp .ge 8, [5], 0), (.iload 6, [], 0), (.goto 4, [6], 0)],
  [(.iload_n 3, [], 0), (.nop, [6], 0)],
  [(.istore_n 3, [], 0), (.iload 4, [], 0), (.iload 6, [], 0), (.invokestatic 253, [226, 2], 2), (.istore 4, [], 0), (.nop, [7], 0)],
  [(.iinc 5 1, [], 0), (.goto (-58), [4], 0)],
  [(.aload_n 0, [], 0), (.iload 4, [], 0), (.iload_n 3, [], 0), (.invokevirtual 145, [183, 3, 10], 3), (.ireturn, [0], 0)]]
def am_s243 : List Nat := [0, 16, 18, 37, 45, 89, 90, 100, 106]
/-- WashLineModel.share(III)I -/
def am_b244 : List (List am_I) := [[(.aload_n 0, [], 0), (.iload_n 1, [], 0), (.invokevirtual 213, [209, 2, 10], 2), (.ifCond .eq 20, [1], 0), (.aload_n 0, [], 0), (.iload_n 2, [], 0), (.invokevirtual 207, [202, 2, 10], 2), (.ifCond .eq 12, [1], 0), (.iload_n 3, [], 0), (.iconst 0, [], 0), (.iconst 5, [], 0), (.invokestatic 123, [175, 3], 3), (.ifCond .ne 5, [2], 0), (.nop, [1], 0)],
  [(.iconst (-1), [], 0), (.ireturn, [0], 0)],
  [(.aload_n 0, [], 0), (.invokevirtual 278, [235, 1, 10], 1), (.aload_n 0, [], 0), (.getfield 272, [10, 39], 0), (.ldc 246, [], 100000), (.if_icmp .ne 9, [3], 0), (.aload_n 0, [], 0), (.iconst 4, [], 0), (.invokevirtual 131, [179, 2, 10], 2), (.ireturn, [0], 0)],
  [(.aload_n 0, [], 0), (.invokevirtual 297, [241, 1, 10], 1), (.lstore 4, [], 0), (.lload 4, [], 0), (.ldc2_w 290, [], 1000000000000000), (.lcmp, [], 0), (.ifCond .le 6, [4], 0), (.bipush (-6), [], 0), (.ireturn, [0], 0)],
  [(.aload_n 0, [], 0), (.invokevirtual 301, [245, 1, 10], 1), (.lconst 0, [], 0), (.lstore 6, [], 0), (.iconst 0, [], 0), (.istore 8, [], 0), (.nop, [5], 0)],
  [(.iload 8, [], 0), (.aload_n 0, [], 0), (.getfield 219, [10, 27], 0), (.if_icmp .ge 61, [8], 0), (.lload 6, [], 0), (.aload_n 0, [], 0), (.getfield 62, [10, 29], 0), (.bipush 6, [], 0), (.iload 8, [], 0), (.imul, [], 0), (.iload_n 2, [], 0), (.iadd, [], 0), (.iaload, [], 0), (.iload_n 3, [], 0), (.if_icmp .ne 33, [6], 0), (.aload_n 0, [], 0), (.getfield 91, [10, 41], 0), (.sipush 462, [], 0), (.iload_n 1, [], 0), (.imul, [], 0), (.iload 8, [], 0), (.iadd, [], 0), (.laload, [], 0), (.aload_n 0, [], 0), (.getfield 95, [10, 42], 0), (.sipush 462, [], 0), (.iload_n 1, [], 0), (.imul, [], 0), (.iload 8, [], 0), (.iadd, [], 0), (.laload, [], 0), (.lmul, [], 0), (.goto 4, [7], 0)],
  [(.lconst 0, [], 0), (.nop, [7], 0)],
  [(.ladd, [], 0), (.lstore 6, [], 0), (.iinc 8 1, [], 0), (.goto (-64), [5], 0)],
  [(.aload_n 0, [], 0), (.lload 6, [], 0), (.lload 4, [], 0), (.iconst 1, [], 0), (.invokevirtual 304, [246, 4, 10], 6), (.ireturn, [0], 0)]]
def am_s244 : List Nat := [0, 25, 27, 46, 64, 74, 131, 132, 141]
/-- WashLineModel.countOn()V -/
def am_b245 : List (List am_I) := [[(.aload_n 0, [], 0), (.getfield 194, [10, 25], 0), (.iconst 1, [], 0), (.isub, [], 0), (.istore_n 1, [], 0), (.nop, [1], 0)],
  [(.iload_n 1, [], 0), (.ifCond .lt 176, [10], 0), (.iconst 0, [], 0), (.istore_n 2, [], 0), (.nop, [2], 0)],
  [(.iload_n 2, [], 0), (.aload_n 0, [], 0), (.getfield 219, [10, 27], 0), (.if_icmp .ge 160, [9], 0), (.sipush 462, [], 0), (.iload_n 1, [], 0), (.imul, [], 0), (.iload_n 2, [], 0), (.iadd, [], 0), (.istore_n 3, [], 0), (.iload_n 1, [], 0), (.aload_n 0, [], 0), (.getfield 194, [10, 25], 0), (.iconst 1, [], 0), (.isub, [], 0), (.if_icmp .ne 16, [3], 0), (.aload_n 0, [], 0), (.iload_n 1, [], 0), (.iload_n 2, [], 0), (.invokevirtual 281, [239, 3, 10], 3), (.ifCond .eq 7, [3], 0), (.lconst 1, [], 0), (.goto 4, [4], 0)],
  [(.lconst 0, [], 0), (.nop, [4], 0)],
  [(.lstore 4, [], 0), (.iconst 0, [], 0), (.istore 6, [], 0), (.nop, [5], 0)],
  [(.iload 6, [], 0), (.aload_n 0, [], 0), (.getfield 219, [10, 27], 0), (.if_icmp .ge 100, [8], 0), (.iload_n 1, [], 0), (.aload_n 0, [], 0), (.getfield 194, [10, 25], 0), (.iconst 1, [], 0), (.isub, [], 0), (.if_icmp .ge 90, [8], 0), (.aload_n 0, [], 0), (.iload_n 1, [], 0), (.iload_n 2, [], 0), (.invokevirtual 281, [239, 3, 10], 3), (.ifCond .eq 81, [8], 0), (.sipush 462, [], 0), (.iload_n 1, [], 0), (.iconst 1, [], 0), (.iadd, [], 0), (.imul, [], 0), (.iload 6, [], 0), (.iadd, [], 0), (.istore 7, [], 0), (.lload 4, [], 0), (.aload_n 0, [], 0), (.iload_n 1, [], 0), (.iconst 1, [], 0), (.iadd, [], 0), (.iload 6, [], 0), (.invokevirtual 281, [239, 3, 10], 3), (.ifCond .eq 45, [6], 0), (.aload_n 0, [], 0), (.getfield 82, [10, 37], 0), (.iload_n 3, [], 0), (.iaload, [], 0), (.aload_n 0, [], 0), (.iload_n 2, [], 0), (.iload 6, [], 0), (.invokevirtual 269, [233, 3, 10], 3), (.iadd, [], 0), (.aload_n 0, [], 0), (.getfield 79, [10, 36], 0), (.iload 7, [], 0), (.iaload, [], 0), (.iadd, [], 0), (.aload_n 0, [], 0), (.getfield 82, [10, 37], 0), (.iload 7, [], 0), (.iaload, [], 0), (.if_icmp .ne 13, [6], 0), (.aload_n 0, [], 0), (.getfield 95, [10, 42], 0), (.iload 7, [], 0), (.laload, [], 0), (.goto 4, [7], 0)],
  [(.lconst 0, [], 0), (.nop, [7], 0)],
  [(.ladd, [], 0), (.lstore 4, [], 0), (.iinc 6 1, [], 0), (.goto (-103), [5], 0)],
  [(.aload_n 0, [], 0), (.getfield 95, [10, 42], 0), (.iload_n 3, [], 0), (.lload 4, [], 0), (.lastore, [], 0), (.iinc 2 1, [], 0), (.goto (-162), [2], 0)],
  [(.iinc 1 (-1), [], 0), (.goto (-174), [1], 0)],
  [(.return_, [], 0)]]
def am_s245 : List Nat := [0, 7, 13, 52, 53, 58, 154, 155, 164, 178, 184]
/-- WashLineModel.part(JJI)I -/
def am_b246 : List (List am_I) := [[(.lload_n 1, [], 0), (.lstore 6, [], 0), (.lload_n 3, [], 0), (.lstore 8, [], 0), (.nop, [1], 0)],
  [(.lload 8, [], 0), (.lconst 0, [], 0), (.lcmp, [], 0), (.ifCond .eq 21, [2], 0), (.lload 6, [], 0), (.lload 8, [], 0), (.lrem, [], 0), (.lstore 10, [], 0), (.lload 8, [], 0), (.lstore 6, [], 0), (.lload 10, [], 0), (.lstore 8, [], 0), (.goto (-22), [1], 0)],
  [(.aload_n 0, [], 0), (.lload_n 1, [], 0), (.lload 6, [], 0), (.ldiv, [], 0), (.putfield 120, [10, 4], 0), (.aload_n 0, [], 0), (.lload_n 3, [], 0), (.lload 6, [], 0), (.ldiv, [], 0), (.putfield 13, [10, 5], 0), (.iload 5, [], 0), (.ireturn, [0], 0)]]
def am_s246 : List Nat := [0, 6, 31]
/-- WashLineModel.through(II)I -/
def am_b247 : List (List am_I) := [[(.aload_n 0, [], 0), (.iload_n 2, [], 0), (.invokevirtual 229, [214, 2, 10], 2), (.istore_n 3, [], 0), (.aload_n 0, [], 0), (.iload_n 1, [], 0), (.invokevirtual 213, [209, 2, 10], 2), (.ifCond .eq 7, [1], 0), (.iload_n 3, [], 0), (.ifCond .ge 5, [2], 0), (.nop, [1], 0)],
  [(.iconst (-1), [], 0), (.ireturn, [0], 0)],
  [(.aload_n 0, [], 0), (.invokevirtual 278, [235, 1, 10], 1), (.aload_n 0, [], 0), (.sipush 462, [], 0), (.iload_n 1, [], 0), (.imul, [], 0), (.iload_n 3, [], 0), (.iadd, [], 0), (.invokevirtual 275, [236, 2, 10], 2), (.istore 4, [], 0), (.iload 4, [], 0), (.ldc 246, [], 100000), (.if_icmp .ne 8, [3], 0), (.bipush (-9), [], 0), (.goto 5, [4], 0)],
  [(.iload 4, [], 0), (.nop, [4], 0)],
  [(.ireturn, [0], 0)]]
def am_s247 : List Nat := [0, 18, 20, 49, 51]
/-- WashLineModel.rival(I)I -/
def am_b248 : List (List am_I) := [[(.aload_n 0, [], 0), (.iload_n 1, [], 0), (.invokevirtual 213, [209, 2, 10], 2), (.ifCond .ne 5, [1], 0), (.iconst (-1), [], 0), (.ireturn, [0], 0)],
  [(.aload_n 0, [], 0), (.invokevirtual 278, [235, 1, 10], 1), (.aload_n 0, [], 0), (.getfield 272, [10, 39], 0), (.ldc 246, [], 100000), (.if_icmp .ne 9, [2], 0), (.aload_n 0, [], 0), (.iconst 4, [], 0), (.invokevirtual 131, [179, 2, 10], 2), (.ireturn, [0], 0)],
  [(.aload_n 0, [], 0), (.invokevirtual 284, [238, 1, 10], 1), (.bipush (-9), [], 0), (.istore_n 2, [], 0), (.ldc 246, [], 100000), (.istore_n 3, [], 0), (.iconst 0, [], 0), (.istore 4, [], 0), (.nop, [3], 0)],
  [(.iload 4, [], 0), (.aload_n 0, [], 0), (.getfield 219, [10, 27], 0), (.if_icmp .ge 46, [5], 0), (.aload_n 0, [], 0), (.sipush 462, [], 0), (.iload_n 1, [], 0), (.imul, [], 0), (.iload 4, [], 0), (.iadd, [], 0), (.invokevirtual 275, [236, 2, 10], 2), (.istore 5, [], 0), (.iload 4, [], 0), (.aload_n 0, [], 0), (.getfield 88, [10, 40], 0), (.iload_n 1, [], 0), (.iaload, [], 0), (.if_icmp .eq 15, [4], 0), (.iload 5, [], 0), (.iload_n 3, [], 0), (.if_icmp .ge 9, [4], 0), (.iload 4, [], 0), (.istore_n 2, [], 0), (.iload 5, [], 0), (.istore_n 3, [], 0), (.nop, [4], 0)],
  [(.iinc 4 1, [], 0), (.goto (-49), [3], 0)],
  [(.iload_n 2, [], 0), (.ifCond .ge 8, [6], 0), (.bipush (-9), [], 0), (.goto 14, [7], 0)],
  [(.aload_n 0, [], 0), (.aload_n 0, [], 0), (.getfield 59, [10, 28], 0), (.iload_n 2, [], 0), (.iaload, [], 0), (.iload_n 3, [], 0), (.invokevirtual 145, [183, 3, 10], 3), (.nop, [7], 0)],
  [(.ireturn, [0], 0)]]
def am_s248 : List Nat := [0, 10, 29, 42, 88, 94, 103, 114]
/-- WashLineModel.happen(IIII)I -/
def am_b249 : List (List am_I) := [[(.iload_n 1, [], 0), (.iconst 0, [], 0), (.bipush 11, [], 0), (.invokestatic 123, [175, 3], 3), (.ifCond .eq 57, [2], 0), (.iload_n 2, [], 0), (.iconst 0, [], 0), (.bipush 6, [], 0), (.invokestatic 123, [175, 3], 3), (.ifCond .eq 47, [2], 0), (.iload_n 2, [], 0), (.iconst 1, [], 0), (.iconst 5, [], 0), (.invokestatic 123, [175, 3], 3), (.ifCond .eq 11, [1], 0), (.aload_n 0, [], 0), (.iload_n 3, [], 0), (.invokevirtual 207, [202, 2, 10], 2), (.ifCond .eq 30, [2], 0), (.nop, [1], 0)],
  [(.iload_n 2, [], 0), (.bipush 6, [], 0), (.if_icmp .ne 26, [3], 0), (.iload_n 3, [], 0), (.invokestatic 210, [203, 1], 1), (.ifCond .eq 17, [2], 0), (.iload 4, [], 0), (.invokestatic 210, [203, 1], 1), (.ifCond .eq 9, [2], 0), (.iload_n 3, [], 0), (.iload 4, [], 0), (.if_icmp .ne 5, [3], 0), (.nop, [2], 0)],
  [(.iconst (-1), [], 0), (.ireturn, [0], 0)],
  [(.aload_n 0, [], 0), (.getfield 197, [10, 43], 0), (.bipush 16, [], 0), (.if_icmp .ne 6, [4], 0), (.bipush (-2), [], 0), (.ireturn, [0], 0)],
  [(.iconst 4, [], 0), (.aload_n 0, [], 0), (.getfield 197, [10, 43], 0), (.imul, [], 0), (.istore 5, [], 0), (.aload_n 0, [], 0), (.getfield 98, [10, 44], 0), (.iload 5, [], 0), (.iload_n 2, [], 0), (.iastore, [], 0), (.aload_n 0, [], 0), (.getfield 98, [10, 44], 0), (.iload 5, [], 0), (.iconst 1, [], 0), (.iadd, [], 0), (.iload_n 1, [], 0), (.iastore, [], 0), (.aload_n 0, [], 0), (.getfield 98, [10, 44], 0), (.iload 5, [], 0), (.iconst 2, [], 0), (.iadd, [], 0), (.iload_n 2, [], 0), (.ifCond .ne 7, [5], 0), (.iconst 0, [], 0), (.goto 4, [6], 0)],
  [(.iload_n 3, [], 0), (.nop, [6], 0)],
  [(.iastore, [], 0), (.aload_n 0, [], 0), (.getfield 98, [10, 44], 0), (.iload 5, [], 0), (.iconst 3, [], 0), (.iadd, [], 0), (.iload_n 2, [], 0), (.bipush 6, [], 0), (.if_icmp .ne 8, [7], 0), (.iload 4, [], 0), (.goto 4, [8], 0)],
  [(.iconst 0, [], 0), (.nop, [8], 0)],
  [(.iastore, [], 0), (.aload_n 0, [], 0), (.dup, [], 0), (.getfield 197, [10, 43], 0), (.iconst 1, [], 0), (.iadd, [], 0), (.putfield 197, [10, 43], 0), (.aload_n 0, [], 0), (.getfield 197, [10, 43], 0), (.iconst 1, [], 0), (.isub, [], 0), (.ireturn, [0], 0)]]
def am_s249 : List Nat := [0, 37, 64, 66, 78, 120, 121, 141, 142]
/-- WashLineModel.event(II)I -/
def am_b250 : List (List am_I) := [[(.aload_n 0, [], 0), (.iload_n 1, [], 0), (.invokevirtual 308, [251, 2, 10], 2), (.ifCond .eq 26, [1], 0), (.iload_n 2, [], 0), (.iconst 0, [], 0), (.iconst 3, [], 0), (.invokestatic 123, [175, 3], 3), (.ifCond .eq 17, [1], 0), (.aload_n 0, [], 0), (.aload_n 0, [], 0), (.iload_n 1, [], 0), (.iload_n 2, [], 0), (.invokevirtual 311, [252, 3, 10], 3), (.iconst 1, [], 0), (.invokevirtual 145, [183, 3, 10], 3), (.goto 4, [2], 0)],
  [(.iconst (-1), [], 0), (.nop, [2], 0)],
  [(.ireturn, [0], 0)]]
def am_s250 : List Nat := [0, 31, 32]
/-- WashLineModel.isHappening(I)Z -/
def am_b251 : List (List am_I) := [[(.iload_n 1, [], 0), (.iconst 0, [], 0), (.aload_n 0, [], 0), (.getfield 197, [10, 43], 0), (.iconst 1, [], 0), (.isub, [], 0), (.invokestatic 123, [175, 3], 3), (.ireturn, [1], 0)]]
def am_s251 : List Nat := [0]
/-- WashLineModel.tell(II)I -/
def am_b252 : List (List am_I) := [[(.aload_n 0, [], 0), (.getfield 98, [10, 44], 0), (.iconst 4, [], 0), (.iload_n 1, [], 0), (.imul, [], 0), (.iload_n 2, [], 0), (.iadd, [], 0), (.iaload, [], 0), (.ireturn, [0], 0)]]
def am_s252 : List Nat := [0]
/-- WashLineModel.mark(II)I -/
def am_b253 : List (List am_I) := [[(.aload_n 0, [], 0), (.iload_n 1, [], 0), (.invokevirtual 308, [251, 2, 10], 2), (.ifCond .eq 13, [1], 0), (.iload_n 2, [], 0), (.iconst 1, [], 0), (.bipush 6, [], 0), (.invokestatic 123, [175, 3], 3), (.ifCond .ne 5, [2], 0), (.nop, [1], 0)],
  [(.iconst (-1), [], 0), (.ireturn, [0], 0)],
  [(.aload_n 0, [], 0), (.iload_n 1, [], 0), (.iconst 0, [], 0), (.invokevirtual 311, [252, 3, 10], 3), (.iload_n 2, [], 0), (.invokestatic 314, [254, 2], 2), (.ifCond .ne 9, [3], 0), (.aload_n 0, [], 0), (.iconst 3, [], 0), (.invokevirtual 131, [179, 2, 10], 2), (.ireturn, [0], 0)],
  [(.iload_n 2, [], 0), (.iconst 5, [], 0), (.if_icmp .ne 29, [6], 0), (.aload_n 0, [], 0), (.aload_n 0, [], 0), (.iload_n 1, [], 0), (.iconst 1, [], 0), (.invokevirtual 311, [252, 3, 10], 3), (.invokevirtual 317, [255, 2, 10], 2), (.istore_n 3, [], 0), (.iload_n 3, [], 0), (.ifCond .ge 8, [4], 0), (.bipush (-9), [], 0), (.goto 8, [5], 0)],
  [(.aload_n 0, [], 0), (.iload_n 3, [], 0), (.invokevirtual 250, [224, 2, 10], 2), (.nop, [5], 0)],
  [(.ireturn, [0], 0)],
  [(.iload_n 2, [], 0), (.bipush 6, [], 0), (.if_icmp .ne 22, [7], 0), (.bipush 10, [], 0), (.aload_n 0, [], 0), (.iload_n 1, [], 0), (.iconst 2, [], 0), (.invokevirtual 311, [252, 3, 10], 3), (.imul, [], 0), (.aload_n 0, [], 0), (.iload_n 1, [], 0), (.iconst 3, [], 0), (.invokevirtual 311, [252, 3, 10], 3), (.iadd, [], 0), (.goto 9, [8], 0)],
  [(.aload_n 0, [], 0), (.iload_n 1, [], 0), (.iconst 2, [], 0), (.invokevirtual 311, [252, 3, 10], 3), (.nop, [8], 0)],
  [(.ireturn, [0], 0)]]
def am_s253 : List Nat := [0, 18, 20, 39, 64, 69, 70, 95, 101]
/-- WashLineModel.isOf(II)Z -/
def am_b254 : List (List am_I) := [[(.iload_n 0, [], 0), (.iload_n 1, [], 0), (.if_icmp .eq 13, [1], 0), (.iload_n 1, [], 0), (.iconst 1, [], 0), (.if_icmp .ne 12, [2], 0), (.iload_n 0, [], 0), (.iconst 5, [], 0), (.if_icmp .ne 7, [2], 0), (.nop, [1], 0)],
  [(.iconst 1, [], 0), (.goto 4, [3], 0)],
  [(.iconst 0, [], 0), (.nop, [3], 0)],
  [(.ireturn, [1], 0)]]
def am_s254 : List Nat := [0, 15, 19, 20]
/-- WashLineModel.toldOf(I)I -/
def am_b255 : List (List am_I) := [[(.iconst 0, [], 0), (.istore_n 2, [], 0), (.iconst 0, [], 0), (.istore_n 3, [], 0), (.nop, [1], 0)],
  [(.iload_n 3, [], 0), (.iload_n 1, [], 0), (.if_icmp .gt 79, [5], 0), (.iconst 0, [], 0), (.istore 4, [], 0), (.nop, [2], 0)],
  [(.iload 4, [], 0), (.aload_n 0, [], 0), (.getfield 197, [10, 43], 0), (.if_icmp .ge 61, [4], 0), (.iload_n 2, [], 0), (.ifCond .lt 57, [4], 0), (.aload_n 0, [], 0), (.iload 4, [], 0), (.iconst 1, [], 0), (.invokevirtual 311, [252, 3, 10], 3), (.iload_n 3, [], 0), (.if_icmp .ne 40, [3], 0), (.aload_n 0, [], 0), (.iload 4, [], 0), (.iconst 0, [], 0), (.invokevirtual 311, [252, 3, 10], 3), (.iconst 1, [], 0), (.iconst 3, [], 0), (.invokestatic 123, [175, 3], 3), (.ifCond .eq 25, [3], 0), (.aload_n 0, [], 0), (.iload_n 2, [], 0), (.aload_n 0, [], 0), (.iload 4, [], 0), (.iconst 2, [], 0), (.invokevirtual 311, [252, 3, 10], 3), (.aload_n 0, [], 0), (.iload 4, [], 0), (.iconst 0, [], 0), (.invokevirtual 311, [252, 3, 10], 3), (.iconst 1, [], 0), (.isub, [], 0), (.invokevirtual 256, [231, 4, 10], 4), (.istore_n 2, [], 0), (.nop, [3], 0)],
  [(.iinc 4 1, [], 0), (.goto (-64), [2], 0)],
  [(.iinc 3 1, [], 0), (.goto (-78), [1], 0)],
  [(.iload_n 2, [], 0), (.ireturn, [0], 0)]]
def am_s255 : List Nat := [0, 4, 12, 73, 79, 85]
/-- WashLineModel.household(I)I -/
def am_b256 : List (List am_I) := [[(.iload_n 1, [], 0), (.iconst 0, [], 0), (.bipush 11, [], 0), (.invokestatic 123, [175, 3], 3), (.ifCond .ne 5, [1], 0), (.iconst (-1), [], 0), (.ireturn, [0], 0)],
  [(.aload_n 0, [], 0), (.iload_n 1, [], 0), (.invokevirtual 317, [255, 2, 10], 2), (.istore_n 2, [], 0), (.iload_n 2, [], 0), (.ifCond .ge 8, [2], 0), (.bipush (-9), [], 0), (.goto 9, [3], 0)],
  [(.aload_n 0, [], 0), (.getfield 59, [10, 28], 0), (.iload_n 2, [], 0), (.iaload, [], 0), (.nop, [3], 0)],
  [(.ireturn, [0], 0)]]
def am_s256 : List Nat := [0, 12, 27, 33]
/-- WashLineModel.judge()I -/
def am_b257 : List (List am_I) := [[(.iconst 0, [], 0), (.istore_n 1, [], 0), (.nop, [1], 0)],
  [(.iload_n 1, [], 0), (.aload_n 0, [], 0), (.getfield 194, [10, 25], 0), (.if_icmp .ge 75, [6], 0), (.aload_n 0, [], 0), (.iload_n 1, [], 0), (.invokevirtual 317, [255, 2, 10], 2), (.istore_n 2, [], 0), (.iload_n 2, [], 0), (.ifCond .ge 11, [2], 0), (.aload_n 0, [], 0), (.bipush (-9), [], 0), (.iload_n 1, [], 0), (.invokevirtual 145, [183, 3, 10], 3), (.ireturn, [0], 0)],
  [(.aload_n 0, [], 0), (.iload_n 1, [], 0), (.iload_n 2, [], 0), (.invokevirtual 331, [258, 3, 10], 3), (.iconst 0, [], 0), (.istore_n 3, [], 0), (.nop, [3], 0)],
  [(.iload_n 3, [], 0), (.bipush 8, [], 0), (.if_icmp .ge 37, [5], 0), (.aload_n 0, [], 0), (.iload_n 1, [], 0), (.iload_n 3, [], 0), (.aload_n 0, [], 0), (.getfield 101, [10, 45], 0), (.iload_n 3, [], 0), (.iaload, [], 0), (.aload_n 0, [], 0), (.getfield 104, [10, 46], 0), (.iload_n 3, [], 0), (.iaload, [], 0), (.invokevirtual 236, [221, 5, 10], 5), (.ifCond .ne 10, [4], 0), (.aload_n 0, [], 0), (.iload_n 3, [], 0), (.iload_n 1, [], 0), (.invokevirtual 145, [183, 3, 10], 3), (.ireturn, [0], 0)],
  [(.iinc 3 1, [], 0), (.goto (-37), [3], 0)],
  [(.iinc 1 1, [], 0), (.goto (-77), [1], 0)],
  [(.bipush (-9), [], 0), (.ireturn, [0], 0)]]
def am_s257 : List Nat := [0, 2, 28, 36, 70, 76, 82]
/-- WashLineModel.setHangs(II)V -/
def am_b258 : List (List am_I) := [[(.iconst 0, [], 0), (.istore_n 3, [], 0), (.nop, [1], 0)],
  [(.iload_n 3, [], 0), (.bipush 8, [], 0), (.if_icmp .ge 23, [2], 0), (.aload_n 0, [], 0), (.getfield 101, [10, 45], 0), (.iload_n 3, [], 0), (.iconst 0, [], 0), (.iastore, [], 0), (.aload_n 0, [], 0), (.getfield 104, [10, 46], 0), (.iload_n 3, [], 0), (.iconst 0, [], 0), (.iastore, [], 0), (.iinc 3 1, [], 0), (.goto (-23), [1], 0)],
  [(.iconst 0, [], 0), (.istore_n 3, [], 0), (.nop, [3], 0)],
  [(.iload_n 3, [], 0), (.aload_n 0, [], 0), (.getfield 188, [10, 11], 0), (.if_icmp .ge 70, [6], 0), (.aload_n 0, [], 0), (.getfield 62, [10, 29], 0), (.bipush 6, [], 0), (.iload_n 2, [], 0), (.imul, [], 0), (.iload_n 3, [], 0), (.iadd, [], 0), (.iaload, [], 0), (.istore 4, [], 0), (.aload_n 0, [], 0), (.iload_n 1, [], 0), (.iconst 5, [], 0), (.iload_n 3, [], 0), (.invokevirtual 320, [259, 4, 10], 4), (.istore 5, [], 0), (.aload_n 0, [], 0), (.iload_n 1, [], 0), (.iconst 4, [], 0), (.iload_n 3, [], 0), (.invokevirtual 320, [259, 4, 10], 4), (.istore 6, [], 0), (.aload_n 0, [], 0), (.iload_n 3, [], 0), (.iload 4, [], 0), (.iload 5, [], 0), (.iadd, [], 0), (.iload 6, [], 0), (.iload 4, [], 0), (.if_icmp .ge 8, [4], 0), (.iload 6, [], 0), (.goto 5, [5], 0)],
  [(.iload 4, [], 0), (.nop, [5], 0)],
  [(.isub, [], 0), (.iload 4, [], 0), (.iload 5, [], 0), (.iadd, [], 0), (.invokevirtual 323, [260, 4, 10], 4), (.iinc 3 1, [], 0), (.goto (-72), [3], 0)],
  [(.iconst 0, [], 0), (.istore_n 3, [], 0), (.nop, [7], 0)],
  [(.iload_n 3, [], 0), (.iload_n 1, [], 0), (.if_icmp .gt 68, [11], 0), (.iconst 0, [], 0), (.istore 4, [], 0), (.nop, [8], 0)],
  [(.iload 4, [], 0), (.aload_n 0, [], 0), (.getfield 197, [10, 43], 0), (.if_icmp .ge 50, [10], 0), (.aload_n 0, [], 0), (.iload 4, [], 0), (.iconst 0, [], 0), (.invokevirtual 311, [252, 3, 10], 3), (.bipush 6, [], 0), (.if_icmp .ne 32, [9], 0), (.aload_n 0, [], 0), (.iload 4, [], 0), (.iconst 1, [], 0), (.invokevirtual 311, [252, 3, 10], 3), (.iload_n 3, [], 0), (.if_icmp .ne 21, [9], 0), (.aload_n 0, [], 0), (.aload_n 0, [], 0), (.iload 4, [], 0), (.iconst 2, [], 0), (.invokevirtual 311, [252, 3, 10], 3), (.aload_n 0, [], 0), (.iload 4, [], 0), (.iconst 3, [], 0), (.invokevirtual 311, [252, 3, 10], 3), (.invokevirtual 327, [261, 3, 10], 3), (.nop, [9], 0)],
  [(.iinc 4 1, [], 0), (.goto (-53), [8], 0)],
  [(.iinc 3 1, [], 0), (.goto (-67), [7], 0)],
  [(.iconst 0, [], 0), (.istore_n 3, [], 0), (.nop, [12], 0)],
  [(.iload_n 3, [], 0), (.bipush 8, [], 0), (.if_icmp .ge 39, [15], 0), (.aload_n 0, [], 0), (.getfield 101, [10, 45], 0), (.iload_n 3, [], 0), (.aload_n 0, [], 0), (.aload_n 0, [], 0), (.iload_n 1, [], 0), (.iconst 0, [], 0), (.invokevirtual 216, [210, 3, 10], 3), (.iload_n 3, [], 0), (.invokevirtual 222, [217, 3, 10], 3), (.ifCond .eq 7, [13], 0), (.iconst 0, [], 0), (.goto 9, [14], 0)],
  [(.aload_n 0, [], 0), (.getfield 101, [10, 45], 0), (.iload_n 3, [], 0), (.iaload, [], 0), (.nop, [14], 0)],
  [(.iastore, [], 0), (.iinc 3 1, [], 0), (.goto (-39), [12], 0)],
  [(.return_, [], 0)]]
def am_s258 : List Nat := [0, 2, 28, 30, 88, 90, 105, 107, 115, 165, 171, 177, 179, 208, 214, 221]
/-- WashLineModel.manyOf(III)I -/
def am_b259 : List (List am_I) := [[(.iconst 0, [], 0), (.istore 4, [], 0), (.iconst 0, [], 0), (.istore 5, [], 0), (.nop, [1], 0)],
  [(.iload 5, [], 0), (.aload_n 0, [], 0), (.getfield 197, [10, 43], 0), (.if_icmp .ge 52, [4], 0), (.iload 4, [], 0), (.aload_n 0, [], 0), (.iload 5, [], 0), (.iconst 0, [], 0), (.invokevirtual 311, [252, 3, 10], 3), (.iload_n 2, [], 0), (.if_icmp .ne 29, [2], 0), (.aload_n 0, [], 0), (.iload 5, [], 0), (.iconst 1, [], 0), (.invokevirtual 311, [252, 3, 10], 3), (.iload_n 1, [], 0), (.if_icmp .ne 18, [2], 0), (.aload_n 0, [], 0), (.iload 5, [], 0), (.iconst 2, [], 0), (.invokevirtual 311, [252, 3, 10], 3), (.iload_n 3, [], 0), (.if_icmp .ne 7, [2], 0), (.iconst 1, [], 0), (.goto 4, [3], 0)],
  [(.iconst 0, [], 0), (.nop, [3], 0)],
  [(.iadd, [], 0), (.istore 4, [], 0), (.iinc 5 1, [], 0), (.goto (-55), [1], 0)],
  [(.iload 4, [], 0), (.ireturn, [0], 0)]]
def am_s259 : List Nat := [0, 6, 54, 55, 64]
/-- WashLineModel.wear(III)V -/
def am_b260 : List (List am_I) := [[(.iconst 0, [], 0), (.istore 4, [], 0), (.nop, [1], 0)],
  [(.iload 4, [], 0), (.bipush 8, [], 0), (.if_icmp .ge 57, [2], 0), (.aload_n 0, [], 0), (.getfield 101, [10, 45], 0), (.iload 4, [], 0), (.dup2, [], 0), (.iaload, [], 0), (.iload_n 2, [], 0), (.aload_n 0, [], 0), (.getfield 35, [10, 13], 0), (.bipush 8, [], 0), (.iload_n 1, [], 0), (.imul, [], 0), (.iload 4, [], 0), (.iadd, [], 0), (.iaload, [], 0), (.imul, [], 0), (.iadd, [], 0), (.iastore, [], 0), (.aload_n 0, [], 0), (.getfield 104, [10, 46], 0), (.iload 4, [], 0), (.dup2, [], 0), (.iaload, [], 0), (.iload_n 3, [], 0), (.aload_n 0, [], 0), (.getfield 38, [10, 14], 0), (.bipush 8, [], 0), (.iload_n 1, [], 0), (.imul, [], 0), (.iload 4, [], 0), (.iadd, [], 0), (.iaload, [], 0), (.imul, [], 0), (.iadd, [], 0), (.iastore, [], 0), (.iinc 4 1, [], 0), (.goto (-58), [1], 0)],
  [(.return_, [], 0)]]
def am_s260 : List Nat := [0, 3, 64]
/-- WashLineModel.hand(II)V -/
def am_b261 : List (List am_I) := [[(.aload_n 0, [], 0), (.getfield 101, [10, 45], 0), (.iload_n 1, [], 0), (.iconst 0, [], 0), (.aload_n 0, [], 0), (.getfield 101, [10, 45], 0), (.iload_n 1, [], 0), (.iaload, [], 0), (.iconst 1, [], 0), (.isub, [], 0), (.invokestatic 253, [226, 2], 2), (.iastore, [], 0), (.aload_n 0, [], 0), (.getfield 104, [10, 46], 0), (.iload_n 1, [], 0), (.iconst 0, [], 0), (.aload_n 0, [], 0), (.getfield 104, [10, 46], 0), (.iload_n 1, [], 0), (.iaload, [], 0), (.iconst 1, [], 0), (.isub, [], 0), (.invokestatic 253, [226, 2], 2), (.iastore, [], 0), (.aload_n 0, [], 0), (.getfield 101, [10, 45], 0), (.iload_n 2, [], 0), (.dup2, [], 0), (.iaload, [], 0), (.iconst 1, [], 0), (.iadd, [], 0), (.iastore, [], 0), (.aload_n 0, [], 0), (.getfield 104, [10, 46], 0), (.iload_n 2, [], 0), (.dup2, [], 0), (.iaload, [], 0), (.iconst 1, [], 0), (.iadd, [], 0), (.iastore, [], 0), (.return_, [], 0)]]
def am_s261 : List Nat := [0]
/-- WashLineModel.doubts(I)I -/
def am_b262 : List (List am_I) := [[(.aload_n 0, [], 0), (.iload_n 1, [], 0), (.invokevirtual 229, [214, 2, 10], 2), (.istore_n 2, [], 0), (.iload_n 2, [], 0), (.ifCond .ge 7, [1], 0), (.iconst (-1), [], 0), (.goto 8, [2], 0)],
  [(.aload_n 0, [], 0), (.iload_n 2, [], 0), (.invokevirtual 334, [263, 2, 10], 2), (.nop, [2], 0)],
  [(.ireturn, [0], 0)]]
def am_s262 : List Nat := [0, 14, 19]
/-- WashLineModel.doubtsOf(I)I -/
def am_b263 : List (List am_I) := [[(.iconst 0, [], 0), (.istore_n 2, [], 0), (.iconst 0, [], 0), (.istore_n 3, [], 0), (.nop, [1], 0)],
  [(.iload_n 3, [], 0), (.aload_n 0, [], 0), (.getfield 194, [10, 25], 0), (.if_icmp .ge 86, [4], 0), (.iconst 0, [], 0), (.istore 4, [], 0), (.nop, [2], 0)],
  [(.iload 4, [], 0), (.bipush 8, [], 0), (.if_icmp .ge 70, [3], 0), (.aload_n 0, [], 0), (.iload_n 3, [], 0), (.iconst 2, [], 0), (.iload 4, [], 0), (.iadd, [], 0), (.invokevirtual 216, [210, 3, 10], 3), (.istore 5, [], 0), (.aload_n 0, [], 0), (.iload_n 1, [], 0), (.aload_n 0, [], 0), (.iload_n 3, [], 0), (.iconst 0, [], 0), (.invokevirtual 216, [210, 3, 10], 3), (.iload 4, [], 0), (.invokevirtual 232, [216, 4, 10], 4), (.iload 5, [], 0), (.isub, [], 0), (.istore 6, [], 0), (.iload 5, [], 0), (.aload_n 0, [], 0), (.aload_n 0, [], 0), (.getfield 38, [10, 14], 0), (.iload_n 1, [], 0), (.iload 4, [], 0), (.invokevirtual 225, [215, 4, 10], 4), (.isub, [], 0), (.istore 7, [], 0), (.iload_n 2, [], 0), (.iconst 0, [], 0), (.iload 6, [], 0), (.invokestatic 253, [226, 2], 2), (.iconst 0, [], 0), (.iload 7, [], 0), (.invokestatic 253, [226, 2], 2), (.iadd, [], 0), (.iadd, [], 0), (.istore_n 2, [], 0), (.iinc 4 1, [], 0), (.goto (-71), [2], 0)],
  [(.iinc 3 1, [], 0), (.goto (-88), [1], 0)],
  [(.iload_n 2, [], 0), (.ireturn, [0], 0)]]
def am_s263 : List Nat := [0, 4, 15, 89, 95]
/-- WashLineModel.least()I -/
def am_b264 : List (List am_I) := [[(.iconst 0, [], 0), (.istore_n 1, [], 0), (.aload_n 0, [], 0), (.iconst 0, [], 0), (.invokevirtual 334, [263, 2, 10], 2), (.istore_n 2, [], 0), (.iconst 1, [], 0), (.istore_n 3, [], 0), (.nop, [1], 0)],
  [(.iload_n 3, [], 0), (.aload_n 0, [], 0), (.getfield 219, [10, 27], 0), (.if_icmp .ge 46, [4], 0), (.aload_n 0, [], 0), (.iload_n 3, [], 0), (.invokevirtual 334, [263, 2, 10], 2), (.istore 4, [], 0), (.iload 4, [], 0), (.iload_n 2, [], 0), (.if_icmp .lt 22, [2], 0), (.iload 4, [], 0), (.iload_n 2, [], 0), (.if_icmp .ne 21, [3], 0), (.aload_n 0, [], 0), (.iload_n 3, [], 0), (.invokevirtual 250, [224, 2, 10], 2), (.aload_n 0, [], 0), (.iload_n 1, [], 0), (.invokevirtual 250, [224, 2, 10], 2), (.if_icmp .ge 8, [3], 0), (.nop, [2], 0)],
  [(.iload_n 3, [], 0), (.istore_n 1, [], 0), (.iload 4, [], 0), (.istore_n 2, [], 0), (.nop, [3], 0)],
  [(.iinc 3 1, [], 0), (.goto (-48), [1], 0)],
  [(.aload_n 0, [], 0), (.iload_n 2, [], 0), (.aload_n 0, [], 0), (.getfield 59, [10, 28], 0), (.iload_n 1, [], 0), (.iaload, [], 0), (.invokevirtual 145, [183, 3, 10], 3), (.ireturn, [0], 0)]]
def am_s264 : List Nat := [0, 10, 50, 55, 61]
/-- WashLineModel.see(I)I -/
def am_b265 : List (List am_I) := [[(.iload_n 1, [], 0), (.iconst 0, [], 0), (.iconst 1, [], 0), (.invokestatic 123, [175, 3], 3), (.ifCond .ne 5, [1], 0), (.iconst (-1), [], 0), (.ireturn, [0], 0)],
  [(.aload_n 0, [], 0), (.invokevirtual 278, [235, 1, 10], 1), (.aload_n 0, [], 0), (.getfield 194, [10, 25], 0), (.ifCond .eq 12, [2], 0), (.aload_n 0, [], 0), (.getfield 272, [10, 39], 0), (.ldc 246, [], 100000), (.if_icmp .ne 9, [3], 0), (.nop, [2], 0)],
  [(.aload_n 0, [], 0), (.iconst 4, [], 0), (.invokevirtual 131, [179, 2, 10], 2), (.ireturn, [0], 0)],
  [(.iconst 0, [], 0), (.istore_n 2, [], 0), (.aload_n 0, [], 0), (.iload_n 1, [], 0), (.iconst 0, [], 0), (.invokevirtual 337, [266, 3, 10], 3), (.istore_n 3, [], 0), (.iconst 1, [], 0), (.istore 4, [], 0), (.nop, [4], 0)],
  [(.iload 4, [], 0), (.bipush 8, [], 0), (.if_icmp .ge 38, [7], 0), (.aload_n 0, [], 0), (.iload_n 1, [], 0), (.iload 4, [], 0), (.invokevirtual 337, [266, 3, 10], 3), (.istore 5, [], 0), (.iload 5, [], 0), (.iload_n 3, [], 0), (.if_icmp .le 8, [5], 0), (.iload 4, [], 0), (.goto 4, [6], 0)],
  [(.iload_n 2, [], 0), (.nop, [6], 0)],
  [(.istore_n 2, [], 0), (.iload_n 3, [], 0), (.iload 5, [], 0), (.invokestatic 253, [226, 2], 2), (.istore_n 3, [], 0), (.iinc 4 1, [], 0), (.goto (-39), [4], 0)],
  [(.aload_n 0, [], 0), (.iload_n 3, [], 0), (.iload_n 2, [], 0), (.invokevirtual 145, [183, 3, 10], 3), (.ireturn, [0], 0)]]
def am_s265 : List Nat := [0, 11, 31, 37, 49, 76, 77, 91]
/-- WashLineModel.partsOf(II)I -/
def am_b266 : List (List am_I) := [[(.iconst 0, [], 0), (.istore_n 3, [], 0), (.iconst 0, [], 0), (.istore 4, [], 0), (.nop, [1], 0)],
  [(.iload 4, [], 0), (.aload_n 0, [], 0), (.getfield 219, [10, 27], 0), (.if_icmp .ge 124, [9], 0), (.iload 4, [], 0), (.iconst 1, [], 0), (.iadd, [], 0), (.istore 5, [], 0), (.nop, [2], 0)],
  [(.iload 5, [], 0), (.aload_n 0, [], 0), (.getfield 219, [10, 27], 0), (.if_icmp .ge 103, [8], 0), (.aload_n 0, [], 0), (.aload_n 0, [], 0), (.getfield 194, [10, 25], 0), (.iconst 1, [], 0), (.isub, [], 0), (.iload 4, [], 0), (.invokevirtual 281, [239, 3, 10], 3), (.ifCond .eq 88, [8], 0), (.aload_n 0, [], 0), (.aload_n 0, [], 0), (.getfield 38, [10, 14], 0), (.iload 4, [], 0), (.iload_n 2, [], 0), (.invokevirtual 225, [215, 4, 10], 4), (.aload_n 0, [], 0), (.iload 5, [], 0), (.iload_n 1, [], 0), (.iload_n 2, [], 0), (.invokevirtual 232, [216, 4, 10], 4), (.if_icmp .lt 25, [3], 0), (.aload_n 0, [], 0), (.aload_n 0, [], 0), (.getfield 38, [10, 14], 0), (.iload 5, [], 0), (.iload_n 2, [], 0), (.invokevirtual 225, [215, 4, 10], 4), (.aload_n 0, [], 0), (.iload 4, [], 0), (.iload_n 1, [], 0), (.iload_n 2, [], 0), (.invokevirtual 232, [216, 4, 10], 4), (.if_icmp .ge 7, [4], 0), (.nop, [3], 0)],
  [(.iconst 1, [], 0), (.goto 4, [5], 0)],
  [(.iconst 0, [], 0), (.nop, [5], 0)],
  [(.istore 6, [], 0), (.iload_n 3, [], 0), (.iload 6, [], 0), (.ifCond .eq 22, [6], 0), (.aload_n 0, [], 0), (.aload_n 0, [], 0), (.getfield 194, [10, 25], 0), (.iconst 1, [], 0), (.isub, [], 0), (.iload 5, [], 0), (.invokevirtual 281, [239, 3, 10], 3), (.ifCond .eq 7, [6], 0), (.iconst 1, [], 0), (.goto 4, [7], 0)],
  [(.iconst 0, [], 0), (.nop, [7], 0)],
  [(.iadd, [], 0), (.istore_n 3, [], 0), (.iinc 5 1, [], 0), (.goto (-106), [2], 0)],
  [(.iinc 4 1, [], 0), (.goto (-127), [1], 0)],
  [(.iload_n 3, [], 0), (.ireturn, [0], 0)]]
def am_s266 : List Nat := [0, 5, 20, 88, 92, 93, 120, 121, 129, 135]
/-- WashLineModel.asked()I -/
def am_b267 : List (List am_I) := [[(.aload_n 0, [], 0), (.getfield 117, [10, 2], 0), (.ireturn, [0], 0)]]
def am_s267 : List Nat := [0]
/-- WashLineModel.upper()J -/
def am_b268 : List (List am_I) := [[(.aload_n 0, [], 0), (.getfield 120, [10, 4], 0), (.lreturn, [], 0)]]
def am_s268 : List Nat := [0]
/-- WashLineModel.lower()J -/
def am_b269 : List (List am_I) := [[(.aload_n 0, [], 0), (.getfield 13, [10, 5], 0), (.lreturn, [], 0)]]
def am_s269 : List Nat := [0]
/-- WashLineModel.count(I)I -/
def am_b270 : List (List am_I) := [[(.iload_n 1, [], 0), (.iconst 0, [], 0), (.iconst 5, [], 0), (.invokestatic 123, [175, 3], 3), (.ifCond .eq 11, [1], 0), (.aload_n 0, [], 0), (.iload_n 1, [], 0), (.invokevirtual 340, [271, 2, 10], 2), (.goto 4, [2], 0)],
  [(.iconst (-1), [], 0), (.nop, [2], 0)],
  [(.ireturn, [0], 0)]]
def am_s270 : List Nat := [0, 17, 18]
/-- WashLineModel.counts(I)I -/
def am_b271 : List (List am_I) := [[(.iconst 0, [], 0), (.istore_n 2, [], 0), (.iconst 0, [], 0), (.istore_n 3, [], 0), (.nop, [1], 0)],
  [(.iload_n 3, [], 0), (.bipush 6, [], 0), (.if_icmp .ge 50, [6], 0), (.iload_n 2, [], 0), (.iload_n 1, [], 0), (.iconst 4, [], 0), (.if_icmp .ne 12, [2], 0), (.aload_n 0, [], 0), (.getfield 17, [10, 6], 0), (.iload_n 3, [], 0), (.iaload, [], 0), (.ifCond .ge 22, [3], 0), (.nop, [2], 0)],
  [(.iload_n 1, [], 0), (.iconst 5, [], 0), (.if_icmp .ne 21, [4], 0), (.iload_n 3, [], 0), (.iconst 4, [], 0), (.if_icmp .ge 16, [4], 0), (.aload_n 0, [], 0), (.getfield 26, [10, 9], 0), (.iload_n 3, [], 0), (.iaload, [], 0), (.ifCond .lt 7, [4], 0), (.nop, [3], 0)],
  [(.iconst 1, [], 0), (.goto 4, [5], 0)],
  [(.iconst 0, [], 0), (.nop, [5], 0)],
  [(.iadd, [], 0), (.istore_n 2, [], 0), (.iinc 3 1, [], 0), (.goto (-50), [1], 0)],
  [(.iconst 0, [], 0), (.istore_n 3, [], 0), (.nop, [7], 0)],
  [(.iload_n 3, [], 0), (.aload_n 0, [], 0), (.getfield 197, [10, 43], 0), (.if_icmp .ge 40, [11], 0), (.iload_n 2, [], 0), (.iload_n 1, [], 0), (.iconst 2, [], 0), (.if_icmp .eq 21, [8], 0), (.iload_n 1, [], 0), (.iconst 3, [], 0), (.if_icmp .ne 20, [9], 0), (.aload_n 0, [], 0), (.iload_n 3, [], 0), (.iconst 0, [], 0), (.invokevirtual 311, [252, 3, 10], 3), (.iconst 1, [], 0), (.invokestatic 314, [254, 2], 2), (.ifCond .eq 7, [9], 0), (.nop, [8], 0)],
  [(.iconst 1, [], 0), (.goto 4, [10], 0)],
  [(.iconst 0, [], 0), (.nop, [10], 0)],
  [(.iadd, [], 0), (.istore_n 2, [], 0), (.iinc 3 1, [], 0), (.goto (-42), [7], 0)],
  [(.iload_n 1, [], 0), (.ifCond .ne 10, [12], 0), (.aload_n 0, [], 0), (.getfield 188, [10, 11], 0), (.goto 16, [14], 0)],
  [(.iload_n 1, [], 0), (.iconst 1, [], 0), (.if_icmp .ne 10, [13], 0), (.aload_n 0, [], 0), (.getfield 194, [10, 25], 0), (.goto 4, [14], 0)],
  [(.iload_n 2, [], 0), (.nop, [14], 0)],
  [(.ireturn, [0], 0)]]
def am_s271 : List Nat := [0, 4, 25, 44, 48, 49, 57, 59, 91, 95, 96, 104, 115, 127, 128]
/-- WashLineModel.finding()I -/
def am_b272 : List (List am_I) := [[(.aload_n 0, [], 0), (.getfield 113, [10, 0], 0), (.ireturn, [0], 0)]]
def am_s272 : List Nat := [0]
/-- WashLineModel.findings(I)I -/
def am_b273 : List (List am_I) := [[(.iload_n 1, [], 0), (.iconst 1, [], 0), (.iconst 5, [], 0), (.invokestatic 123, [175, 3], 3), (.ifCond .eq 12, [1], 0), (.aload_n 0, [], 0), (.getfield 7, [10, 1], 0), (.iload_n 1, [], 0), (.iaload, [], 0), (.goto 4, [2], 0)],
  [(.iconst (-1), [], 0), (.nop, [2], 0)],
  [(.ireturn, [0], 0)]]
def am_s273 : List Nat := [0, 18, 19]
/-- WashLineModel.digest()J -/
def am_b274 : List (List am_I) := [[(.aload_n 0, [], 0), (.ldc2_w 351, [], 17), (.putfield 345, [10, 47], 0), (.iconst 0, [], 0), (.istore_n 1, [], 0), (.nop, [1], 0)],
  [(.iload_n 1, [], 0), (.iconst 5, [], 0), (.if_icmp .gt 18, [2], 0), (.aload_n 0, [], 0), (.aload_n 0, [], 0), (.iload_n 1, [], 0), (.invokevirtual 340, [271, 2, 10], 2), (.invokevirtual 348, [275, 2, 10], 2), (.iinc 1 1, [], 0), (.goto (-17), [1], 0)],
  [(.aload_n 0, [], 0), (.invokevirtual 353, [276, 1, 10], 1), (.iconst 0, [], 0), (.istore_n 1, [], 0), (.nop, [3], 0)],
  [(.iload_n 1, [], 0), (.bipush 6, [], 0), (.if_icmp .ge 60, [8], 0), (.aload_n 0, [], 0), (.aload_n 0, [], 0), (.getfield 17, [10, 6], 0), (.iload_n 1, [], 0), (.iaload, [], 0), (.ifCond .ge 7, [4], 0), (.iconst (-1), [], 0), (.goto 9, [5], 0)],
  [(.aload_n 0, [], 0), (.getfield 17, [10, 6], 0), (.iload_n 1, [], 0), (.iaload, [], 0), (.nop, [5], 0)],
  [(.invokevirtual 348, [275, 2, 10], 2), (.iconst 0, [], 0), (.istore_n 2, [], 0), (.nop, [6], 0)],
  [(.iload_n 2, [], 0), (.aload_n 0, [], 0), (.getfield 17, [10, 6], 0), (.iload_n 1, [], 0), (.iaload, [], 0), (.if_icmp .ge 19, [7], 0), (.aload_n 0, [], 0), (.aload_n 0, [], 0), (.iload_n 1, [], 0), (.iload_n 2, [], 0), (.invokevirtual 141, [182, 3, 10], 3), (.invokevirtual 348, [275, 2, 10], 2), (.iinc 2 1, [], 0), (.goto (-23), [6], 0)],
  [(.iinc 1 1, [], 0), (.goto (-60), [3], 0)],
  [(.iconst 0, [], 0), (.istore_n 1, [], 0), (.nop, [9], 0)],
  [(.iload_n 1, [], 0), (.iconst 4, [], 0), (.if_icmp .ge 65, [14], 0), (.aload_n 0, [], 0), (.aload_n 0, [], 0), (.getfield 26, [10, 9], 0), (.iload_n 1, [], 0), (.iaload, [], 0), (.ifCond .ge 7, [10], 0), (.iconst (-1), [], 0), (.goto 9, [11], 0)],
  [(.aload_n 0, [], 0), (.getfield 26, [10, 9], 0), (.iload_n 1, [], 0), (.iaload, [], 0), (.nop, [11], 0)],
  [(.invokevirtual 348, [275, 2, 10], 2), (.iconst 0, [], 0), (.istore_n 2, [], 0), (.nop, [12], 0)],
  [(.iload_n 2, [], 0), (.aload_n 0, [], 0), (.getfield 26, [10, 9], 0), (.iload_n 1, [], 0), (.iaload, [], 0), (.if_icmp .ge 24, [13], 0), (.aload_n 0, [], 0), (.aload_n 0, [], 0), (.getfield 29, [10, 10], 0), (.bipush 120, [], 0), (.iload_n 1, [], 0), (.imul, [], 0), (.iload_n 2, [], 0), (.iadd, [], 0), (.iaload, [], 0), (.invokevirtual 348, [275, 2, 10], 2), (.iinc 2 1, [], 0), (.goto (-28), [12], 0)],
  [(.iinc 1 1, [], 0), (.goto (-64), [9], 0)],
  [(.aload_n 0, [], 0), (.getfield 345, [10, 47], 0), (.lreturn, [], 0)]]
def am_s274 : List Nat := [0, 9, 29, 35, 55, 61, 66, 92, 98, 100, 119, 125, 130, 161, 167]
/-- WashLineModel.mix(I)V -/
def am_b275 : List (List am_I) := [[(.aload_n 0, [], 0), (.ldc2_w 343, [], 31), (.aload_n 0, [], 0), (.getfield 345, [10, 47], 0), (.lmul, [], 0), (.iload_n 1, [], 0), (.i2l, [], 0), (.ladd, [], 0), (.putfield 345, [10, 47], 0), (.return_, [], 0)]]
def am_s275 : List Nat := [0]
/-- WashLineModel.mixWorld()V -/
def am_b276 : List (List am_I) := [[(.iconst 0, [], 0), (.istore_n 1, [], 0), (.nop, [1], 0)],
  [(.iload_n 1, [], 0), (.aload_n 0, [], 0), (.getfield 188, [10, 11], 0), (.if_icmp .ge 63, [4], 0), (.aload_n 0, [], 0), (.aload_n 0, [], 0), (.getfield 32, [10, 12], 0), (.iload_n 1, [], 0), (.iaload, [], 0), (.invokevirtual 348, [275, 2, 10], 2), (.iconst 0, [], 0), (.istore_n 2, [], 0), (.nop, [2], 0)],
  [(.iload_n 2, [], 0), (.bipush 8, [], 0), (.if_icmp .ge 39, [3], 0), (.aload_n 0, [], 0), (.aload_n 0, [], 0), (.getfield 35, [10, 13], 0), (.bipush 8, [], 0), (.iload_n 1, [], 0), (.imul, [], 0), (.iload_n 2, [], 0), (.iadd, [], 0), (.iaload, [], 0), (.invokevirtual 348, [275, 2, 10], 2), (.aload_n 0, [], 0), (.aload_n 0, [], 0), (.getfield 38, [10, 14], 0), (.bipush 8, [], 0), (.iload_n 1, [], 0), (.imul, [], 0), (.iload_n 2, [], 0), (.iadd, [], 0), (.iaload, [], 0), (.invokevirtual 348, [275, 2, 10], 2), (.iinc 2 1, [], 0), (.goto (-39), [2], 0)],
  [(.iinc 1 1, [], 0), (.goto (-65), [1], 0)],
  [(.aload_n 0, [], 0), (.aload_n 0, [], 0), (.getfield 191, [10, 15], 0), (.invokevirtual 348, [275, 2, 10], 2), (.iconst 0, [], 0), (.istore_n 1, [], 0), (.nop, [5], 0)],
  [(.iload_n 1, [], 0), (.iconst 5, [], 0), (.if_icmp .ge 19, [6], 0), (.aload_n 0, [], 0), (.aload_n 0, [], 0), (.getfield 41, [10, 16], 0), (.iload_n 1, [], 0), (.iaload, [], 0), (.invokevirtual 348, [275, 2, 10], 2), (.iinc 1 1, [], 0), (.goto (-18), [5], 0)],
  [(.iconst 0, [], 0), (.istore_n 1, [], 0), (.nop, [7], 0)],
  [(.iload_n 1, [], 0), (.bipush 10, [], 0), (.aload_n 0, [], 0), (.getfield 194, [10, 25], 0), (.imul, [], 0), (.if_icmp .ge 19, [8], 0), (.aload_n 0, [], 0), (.aload_n 0, [], 0), (.getfield 56, [10, 26], 0), (.iload_n 1, [], 0), (.iaload, [], 0), (.invokevirtual 348, [275, 2, 10], 2), (.iinc 1 1, [], 0), (.goto (-24), [7], 0)],
  [(.iconst 0, [], 0), (.istore_n 1, [], 0), (.nop, [9], 0)],
  [(.iload_n 1, [], 0), (.iconst 4, [], 0), (.aload_n 0, [], 0), (.getfield 197, [10, 43], 0), (.imul, [], 0), (.if_icmp .ge 19, [10], 0), (.aload_n 0, [], 0), (.aload_n 0, [], 0), (.getfield 98, [10, 44], 0), (.iload_n 1, [], 0), (.iaload, [], 0), (.invokevirtual 348, [275, 2, 10], 2), (.iinc 1 1, [], 0), (.goto (-23), [9], 0)],
  [(.return_, [], 0)]]
def am_s276 : List Nat := [0, 2, 22, 64, 70, 80, 101, 103, 130, 132, 158]
/-- name, bytes, places for locals, answer, frames and words that it needs, how many arguments, how it is called (0 static, 1 virtual, 2 making, 3 making a nest mate), blocks' starts, blocks -/
abbrev am_M : Type := MethodName × ByteArray × Nat × Option FieldType × (Nat × Nat) × Nat × Nat × List Nat × List (List am_I)
def am_m0 : am_M := (⟨"WashLineLaw", "law", "([I)Z"⟩, code, 4, some .boolean, (9, 334), 1, 0, am_s0, am_b0)
def am_m1 : am_M := (⟨"WashLine", "<init>", "()V"⟩, prog_1_method_1_code, 2, none, (6, 134), 1, 2, am_s1, am_b1)
def am_m2 : am_M := (⟨"WashLine$World", "<init>", "()V"⟩, prog_10_method_1_code, 1, none, (2, 43), 1, 2, am_s2, am_b2)
def am_m3 : am_M := (⟨"WashLine$World", "clear", "()V"⟩, prog_10_method_2_code, 1, none, (1, 23), 1, 1, am_s3, am_b3)
def am_m4 : am_M := (⟨"java/util/Arrays", "fill", "([II)V"⟩, prog_15_method_103_code, 4, none, (0, 0), 2, 0, am_s4, am_b4)
def am_m5 : am_M := (⟨"WashLine$Reader", "<init>", "()V"⟩, prog_5_method_1_code, 1, none, (3, 63), 1, 3, am_s5, am_b5)
def am_m6 : am_M := (⟨"WashLine$Strip", "<init>", "(I)V"⟩, prog_8_method_1_code, 2, none, (1, 20), 2, 2, am_s6, am_b6)
def am_m7 : am_M := (⟨"WashLine$Houses", "<init>", "(LWashLine$World;)V"⟩, prog_2_method_1_code, 2, none, (5, 113), 2, 2, am_s7, am_b7)
def am_m8 : am_M := (⟨"WashLine$Houses", "build", "()V"⟩, prog_2_method_2_code, 3, none, (4, 91), 1, 1, am_s8, am_b8)
def am_m9 : am_M := (⟨"WashLine$Houses", "list", "()V"⟩, prog_2_method_3_code, 1, none, (3, 71), 1, 1, am_s9, am_b9)
def am_m10 : am_M := (⟨"java/util/Arrays", "fill", "([IIII)V"⟩, prog_15_method_104_code, 5, none, (1, 22), 4, 0, am_s10, am_b10)
def am_m11 : am_M := (⟨"java/util/Arrays", "rangeCheck", "(III)V"⟩, prog_15_method_30_code, 3, none, (0, 0), 3, 0, am_s11, am_b11)
def am_m12 : am_M := (⟨"WashLine$Houses", "follow", "(II)Z"⟩, prog_2_method_4_code, 6, some .boolean, (2, 46), 3, 1, am_s12, am_b12)
def am_m13 : am_M := (⟨"WashLine$Houses", "find", "(I)I"⟩, prog_2_method_5_code, 5, some .int, (0, 0), 2, 1, am_s13, am_b13)
def am_m14 : am_M := (⟨"WashLine$Houses", "hang", "(I)V"⟩, prog_2_method_7_code, 6, none, (0, 0), 2, 1, am_s14, am_b14)
def am_m15 : am_M := (⟨"WashLine$Houses", "grown", "(II)I"⟩, prog_2_method_6_code, 4, some .int, (0, 0), 3, 1, am_s15, am_b15)
def am_m16 : am_M := (⟨"WashLine$Line", "<init>", "()V"⟩, prog_3_method_1_code, 1, none, (1, 20), 1, 3, am_s16, am_b16)
def am_m17 : am_M := (⟨"WashLine$Looks", "<init>", "(LWashLine$World;LWashLine$Houses;LWashLine$Line;)V"⟩, prog_4_method_1_code, 4, none, (1, 20), 4, 2, am_s17, am_b17)
def am_m18 : am_M := (⟨"WashLine$Steps", "<init>", "(LWashLine$World;LWashLine$Houses;)V"⟩, prog_6_method_1_code, 3, none, (1, 20), 3, 2, am_s18, am_b18)
def am_m19 : am_M := (⟨"WashLine$Winter", "<init>", "(LWashLine$Houses;LWashLine$Line;LWashLine$Looks;LWashLine$Steps;)V"⟩, prog_9_method_1_code, 5, none, (1, 20), 5, 2, am_s19, am_b19)
def am_m20 : am_M := (⟨"WashLine$Story", "<init>", "(LWashLine$World;LWashLine$Line;)V"⟩, prog_7_method_1_code, 3, none, (1, 20), 3, 2, am_s20, am_b20)
def am_m21 : am_M := (⟨"WashLine", "row", "(II)I"⟩, prog_1_method_2_code, 3, some .int, (2, 45), 3, 1, am_s21, am_b21)
def am_m22 : am_M := (⟨"WashLine", "isRow", "(I)Z"⟩, prog_1_method_56_code, 1, some .boolean, (1, 21), 1, 0, am_s22, am_b22)
def am_m23 : am_M := (⟨"WashLine", "isWithin", "(II)Z"⟩, prog_1_method_55_code, 2, some .boolean, (0, 0), 2, 0, am_s23, am_b23)
def am_m24 : am_M := (⟨"WashLine", "finds", "(I)I"⟩, prog_1_method_50_code, 2, some .int, (0, 0), 2, 1, am_s24, am_b24)
def am_m25 : am_M := (⟨"WashLine$Strip", "begin", "(II)V"⟩, prog_8_method_2_code, 3, none, (1, 23), 3, 1, am_s25, am_b25)
def am_m26 : am_M := (⟨"WashLine", "lay", "(III)I"⟩, prog_1_method_3_code, 4, some .int, (2, 41), 4, 1, am_s26, am_b26)
def am_m27 : am_M := (⟨"WashLine$Strip", "isMissing", "()Z"⟩, prog_8_method_3_code, 1, some .boolean, (0, 0), 1, 1, am_s27, am_b27)
def am_m28 : am_M := (⟨"WashLine$Strip", "has", "(I)Z"⟩, prog_8_method_4_code, 2, some .boolean, (0, 0), 2, 1, am_s28, am_b28)
def am_m29 : am_M := (⟨"WashLine$Strip", "swap", "(II)I"⟩, prog_8_method_6_code, 4, some .int, (0, 0), 3, 1, am_s29, am_b29)
def am_m30 : am_M := (⟨"WashLine", "tells", "(II)I"⟩, prog_1_method_51_code, 3, some .int, (0, 0), 3, 1, am_s30, am_b30)
def am_m31 : am_M := (⟨"WashLine", "at", "(II)I"⟩, prog_1_method_4_code, 3, some .int, (2, 41), 3, 1, am_s31, am_b31)
def am_m32 : am_M := (⟨"WashLine", "tear", "(I)I"⟩, prog_1_method_5_code, 2, some .int, (2, 41), 2, 1, am_s32, am_b32)
def am_m33 : am_M := (⟨"WashLine", "copy", "(IIIII)I"⟩, prog_1_method_6_code, 6, some .int, (2, 41), 6, 1, am_s33, am_b33)
def am_m34 : am_M := (⟨"WashLine$Strip", "hasRun", "(II)Z"⟩, prog_8_method_5_code, 3, some .boolean, (0, 0), 3, 1, am_s34, am_b34)
def am_m35 : am_M := (⟨"WashLine", "mean", "(I)I"⟩, prog_1_method_7_code, 2, some .int, (2, 41), 2, 1, am_s35, am_b35)
def am_m36 : am_M := (⟨"WashLine$Strip", "sum", "()J"⟩, prog_8_method_7_code, 4, some .long, (0, 0), 1, 1, am_s36, am_b36)
def am_m37 : am_M := (⟨"WashLine", "text", "(II)I"⟩, prog_1_method_8_code, 3, some .int, (2, 45), 3, 1, am_s37, am_b37)
def am_m38 : am_M := (⟨"WashLine", "isText", "(I)Z"⟩, prog_1_method_57_code, 1, some .boolean, (1, 21), 1, 0, am_s38, am_b38)
def am_m39 : am_M := (⟨"WashLine", "put", "(III)I"⟩, prog_1_method_9_code, 4, some .int, (2, 41), 4, 1, am_s39, am_b39)
def am_m40 : am_M := (⟨"WashLine", "fault", "(I)I"⟩, prog_1_method_10_code, 2, some .int, (6, 131), 2, 1, am_s40, am_b40)
def am_m41 : am_M := (⟨"WashLine$Reader", "read", "(LWashLine$Strip;)I"⟩, prog_5_method_2_code, 4, some .int, (5, 108), 2, 1, am_s41, am_b41)
def am_m42 : am_M := (⟨"WashLine$Reader", "letter", "(I)Z"⟩, prog_5_method_9_code, 2, some .boolean, (2, 41), 2, 1, am_s42, am_b42)
def am_m43 : am_M := (⟨"WashLine$Reader", "sign", "()I"⟩, prog_5_method_3_code, 1, some .int, (1, 21), 1, 1, am_s43, am_b43)
def am_m44 : am_M := (⟨"WashLine$Reader", "item", "()Z"⟩, prog_5_method_4_code, 1, some .boolean, (4, 88), 1, 1, am_s44, am_b44)
def am_m45 : am_M := (⟨"WashLine$Reader", "sort", "()Z"⟩, prog_5_method_5_code, 2, some .boolean, (3, 64), 1, 1, am_s45, am_b45)
def am_m46 : am_M := (⟨"WashLine$Reader", "figure", "(II)I"⟩, prog_5_method_10_code, 4, some .int, (2, 41), 3, 1, am_s46, am_b46)
def am_m47 : am_M := (⟨"WashLine$Reader", "wash", "()Z"⟩, prog_5_method_6_code, 5, some .boolean, (3, 64), 1, 1, am_s47, am_b47)
def am_m48 : am_M := (⟨"WashLine$Reader", "inside", "()Z"⟩, prog_5_method_7_code, 2, some .boolean, (3, 64), 1, 1, am_s48, am_b48)
def am_m49 : am_M := (⟨"WashLine$Reader", "costs", "()Z"⟩, prog_5_method_8_code, 3, some .boolean, (3, 64), 1, 1, am_s49, am_b49)
def am_m50 : am_M := (⟨"WashLine$World", "growIntoToldOnly", "()V"⟩, prog_10_method_5_code, 2, none, (0, 0), 1, 1, am_s50, am_b50)
def am_m51 : am_M := (⟨"WashLine", "world", "(I)I"⟩, prog_1_method_11_code, 2, some .int, (6, 131), 2, 1, am_s51, am_b51)
def am_m52 : am_M := (⟨"WashLine$World", "take", "(LWashLine$World;)V"⟩, prog_10_method_3_code, 2, none, (1, 26), 2, 1, am_s52, am_b52)
def am_m53 : am_M := (⟨"WashLine$Steps", "forget", "()V"⟩, prog_6_method_2_code, 2, none, (0, 0), 1, 1, am_s53, am_b53)
def am_m54 : am_M := (⟨"WashLine$Winter", "forget", "()V"⟩, prog_9_method_2_code, 1, none, (0, 0), 1, 1, am_s54, am_b54)
def am_m55 : am_M := (⟨"WashLine", "wears", "(II)I"⟩, prog_1_method_12_code, 3, some .int, (2, 42), 3, 1, am_s55, am_b55)
def am_m56 : am_M := (⟨"WashLine", "isSort", "(I)Z"⟩, prog_1_method_60_code, 2, some .boolean, (1, 21), 2, 1, am_s56, am_b56)
def am_m57 : am_M := (⟨"WashLine", "isThing", "(I)Z"⟩, prog_1_method_58_code, 1, some .boolean, (1, 21), 1, 0, am_s57, am_b57)
def am_m58 : am_M := (⟨"WashLine", "grows", "(I)I"⟩, prog_1_method_13_code, 2, some .int, (2, 42), 2, 1, am_s58, am_b58)
def am_m59 : am_M := (⟨"WashLine", "indoors", "()I"⟩, prog_1_method_14_code, 1, some .int, (0, 0), 1, 1, am_s59, am_b59)
def am_m60 : am_M := (⟨"WashLine", "price", "(II)I"⟩, prog_1_method_15_code, 4, some .int, (1, 21), 3, 1, am_s60, am_b60)
def am_m61 : am_M := (⟨"WashLine", "monday", "(III)I"⟩, prog_1_method_16_code, 4, some .int, (2, 49), 4, 1, am_s61, am_b61)
def am_m62 : am_M := (⟨"WashLine", "isWeather", "(I)Z"⟩, prog_1_method_59_code, 1, some .boolean, (1, 21), 1, 0, am_s62, am_b62)
def am_m63 : am_M := (⟨"WashLine$Strip", "holdsUpTo", "(I)Z"⟩, prog_8_method_8_code, 3, some .boolean, (0, 0), 2, 1, am_s63, am_b63)
def am_m64 : am_M := (⟨"WashLine$Line", "add", "(I[II)I"⟩, prog_3_method_2_code, 4, some .int, (1, 26), 4, 1, am_s64, am_b64)
def am_m65 : am_M := (⟨"WashLine", "hung", "(III)I"⟩, prog_1_method_17_code, 5, some .int, (2, 42), 4, 1, am_s65, am_b65)
def am_m66 : am_M := (⟨"WashLine", "isMonday", "(I)Z"⟩, prog_1_method_61_code, 2, some .boolean, (1, 21), 2, 1, am_s66, am_b66)
def am_m67 : am_M := (⟨"WashLine", "told", "(II)I"⟩, prog_1_method_18_code, 3, some .int, (2, 42), 3, 1, am_s67, am_b67)
def am_m68 : am_M := (⟨"WashLine$Line", "detail", "(II)I"⟩, prog_3_method_3_code, 3, some .int, (0, 0), 3, 1, am_s68, am_b68)
def am_m69 : am_M := (⟨"WashLine", "back", "(I)I"⟩, prog_1_method_19_code, 3, some .int, (1, 21), 2, 1, am_s69, am_b69)
def am_m70 : am_M := (⟨"WashLine", "hangs", "(III)I"⟩, prog_1_method_20_code, 5, some .int, (2, 45), 4, 1, am_s70, am_b70)
def am_m71 : am_M := (⟨"WashLine$Houses", "leastIn", "(III)I"⟩, prog_2_method_8_code, 4, some .int, (1, 22), 4, 1, am_s71, am_b71)
def am_m72 : am_M := (⟨"WashLine$World", "isInside", "(II)Z"⟩, prog_10_method_4_code, 3, some .boolean, (0, 0), 3, 1, am_s72, am_b72)
def am_m73 : am_M := (⟨"WashLine", "explains", "(II)I"⟩, prog_1_method_21_code, 5, some .int, (4, 97), 3, 1, am_s73, am_b73)
def am_m74 : am_M := (⟨"WashLine$Looks", "explain", "(II)I"⟩, prog_4_method_4_code, 4, some .int, (3, 74), 3, 1, am_s74, am_b74)
def am_m75 : am_M := (⟨"WashLine$Looks", "agrees", "(II)Z"⟩, prog_4_method_2_code, 3, some .boolean, (2, 51), 3, 1, am_s75, am_b75)
def am_m76 : am_M := (⟨"WashLine$Looks", "agreesWith", "(IIIII)Z"⟩, prog_4_method_3_code, 9, some .boolean, (1, 23), 6, 1, am_s76, am_b76)
def am_m77 : am_M := (⟨"WashLine$Line", "isAbove", "(III)Z"⟩, prog_3_method_4_code, 4, some .boolean, (0, 0), 4, 1, am_s77, am_b77)
def am_m78 : am_M := (⟨"WashLine$Line", "isBelow", "(III)Z"⟩, prog_3_method_5_code, 4, some .boolean, (0, 0), 4, 1, am_s78, am_b78)
def am_m79 : am_M := (⟨"WashLine$Looks", "explainIll", "(II)I"⟩, prog_4_method_5_code, 4, some .int, (2, 51), 3, 1, am_s79, am_b79)
def am_m80 : am_M := (⟨"WashLine$Looks", "explainGuest", "(II)I"⟩, prog_4_method_6_code, 4, some .int, (2, 51), 3, 1, am_s80, am_b80)
def am_m81 : am_M := (⟨"WashLine$Looks", "priceOf", "(I)I"⟩, prog_4_method_7_code, 2, some .int, (0, 0), 2, 1, am_s81, am_b81)
def am_m82 : am_M := (⟨"WashLine", "lacks", "(II)I"⟩, prog_1_method_22_code, 4, some .int, (3, 69), 3, 1, am_s82, am_b82)
def am_m83 : am_M := (⟨"WashLine$Looks", "tooMuch", "(II)I"⟩, prog_4_method_10_code, 5, some .int, (1, 23), 3, 1, am_s83, am_b83)
def am_m84 : am_M := (⟨"WashLine$Looks", "tooLittle", "(II)I"⟩, prog_4_method_9_code, 5, some .int, (2, 45), 3, 1, am_s84, am_b84)
def am_m85 : am_M := (⟨"WashLine", "fewest", "(I)I"⟩, prog_1_method_23_code, 3, some .int, (4, 96), 2, 1, am_s85, am_b85)
def am_m86 : am_M := (⟨"WashLine$Looks", "smallest", "(I)I"⟩, prog_4_method_11_code, 4, some .int, (3, 73), 2, 1, am_s86, am_b86)
def am_m87 : am_M := (⟨"WashLine", "bound", "(I)I"⟩, prog_1_method_24_code, 2, some .int, (3, 71), 2, 1, am_s87, am_b87)
def am_m88 : am_M := (⟨"WashLine$Looks", "peopleByThings", "(I)I"⟩, prog_4_method_12_code, 6, some .int, (2, 46), 2, 1, am_s88, am_b88)
def am_m89 : am_M := (⟨"WashLine$Looks", "mostOfAny", "(I)I"⟩, prog_4_method_13_code, 4, some .int, (1, 23), 2, 1, am_s89, am_b89)
def am_m90 : am_M := (⟨"WashLine", "many", "(II)I"⟩, prog_1_method_25_code, 3, some .int, (5, 122), 3, 1, am_s90, am_b90)
def am_m91 : am_M := (⟨"WashLine$Looks", "explained", "(II)I"⟩, prog_4_method_8_code, 6, some .int, (4, 97), 3, 1, am_s91, am_b91)
def am_m92 : am_M := (⟨"WashLine", "step", "(II)I"⟩, prog_1_method_26_code, 5, some .int, (4, 93), 3, 1, am_s92, am_b92)
def am_m93 : am_M := (⟨"WashLine$Steps", "know", "(I)V"⟩, prog_6_method_3_code, 4, none, (3, 70), 2, 1, am_s93, am_b93)
def am_m94 : am_M := (⟨"WashLine$Steps", "spread", "([I)V"⟩, prog_6_method_5_code, 2, none, (2, 49), 2, 1, am_s94, am_b94)
def am_m95 : am_M := (⟨"WashLine$Steps", "fromMore", "([II)V"⟩, prog_6_method_7_code, 4, none, (1, 26), 3, 1, am_s95, am_b95)
def am_m96 : am_M := (⟨"WashLine$Steps", "leastOf", "([I[III)I"⟩, prog_6_method_9_code, 7, some .int, (0, 0), 5, 1, am_s96, am_b96)
def am_m97 : am_M := (⟨"WashLine$Steps", "grow", "([I)V"⟩, prog_6_method_10_code, 5, none, (1, 25), 2, 1, am_s97, am_b97)
def am_m98 : am_M := (⟨"WashLine$Steps", "growOne", "([II)Z"⟩, prog_6_method_11_code, 6, some .boolean, (0, 0), 3, 1, am_s98, am_b98)
def am_m99 : am_M := (⟨"WashLine$Steps", "fromLess", "([II)V"⟩, prog_6_method_8_code, 4, none, (1, 26), 3, 1, am_s99, am_b99)
def am_m100 : am_M := (⟨"WashLine$Steps", "between", "(II)I"⟩, prog_6_method_4_code, 3, some .int, (0, 0), 3, 1, am_s100, am_b100)
def am_m101 : am_M := (⟨"WashLine", "plain", "()I"⟩, prog_1_method_27_code, 1, some .int, (6, 141), 1, 1, am_s101, am_b101)
def am_m102 : am_M := (⟨"WashLine$Winter", "weigh", "()V"⟩, prog_9_method_4_code, 2, none, (5, 120), 1, 1, am_s102, am_b102)
def am_m103 : am_M := (⟨"WashLine$Winter", "setPrices", "(I)V"⟩, prog_9_method_5_code, 4, none, (4, 97), 2, 1, am_s103, am_b103)
def am_m104 : am_M := (⟨"WashLine$Winter", "goAhead", "()I"⟩, prog_9_method_6_code, 3, some .int, (3, 70), 1, 1, am_s104, am_b104)
def am_m105 : am_M := (⟨"WashLine$Winter", "explain", "(I)V"⟩, prog_9_method_8_code, 3, none, (1, 23), 2, 1, am_s105, am_b105)
def am_m106 : am_M := (⟨"WashLine$Winter", "isTold", "()Z"⟩, prog_9_method_3_code, 1, some .boolean, (0, 0), 1, 1, am_s106, am_b106)
def am_m107 : am_M := (⟨"WashLine$Winter", "goBack", "()V"⟩, prog_9_method_7_code, 2, none, (3, 73), 1, 1, am_s107, am_b107)
def am_m108 : am_M := (⟨"WashLine$Steps", "gather", "([I)V"⟩, prog_6_method_6_code, 2, none, (2, 52), 2, 1, am_s108, am_b108)
def am_m109 : am_M := (⟨"WashLine$Steps", "growBack", "([I)V"⟩, prog_6_method_12_code, 7, none, (1, 26), 2, 1, am_s109, am_b109)
def am_m110 : am_M := (⟨"WashLine$Winter", "list", "(I)V"⟩, prog_9_method_9_code, 4, none, (2, 42), 2, 1, am_s110, am_b110)
def am_m111 : am_M := (⟨"WashLine$Winter", "costBy", "(II)I"⟩, prog_9_method_12_code, 3, some .int, (1, 20), 3, 1, am_s111, am_b111)
def am_m112 : am_M := (⟨"WashLine$Winter", "findFirst", "()V"⟩, prog_9_method_10_code, 5, none, (4, 93), 1, 1, am_s112, am_b112)
def am_m113 : am_M := (⟨"WashLine$Winter", "follows", "(III)Z"⟩, prog_9_method_11_code, 5, some .boolean, (1, 22), 4, 1, am_s113, am_b113)
def am_m114 : am_M := (⟨"WashLine", "tale", "(I)I"⟩, prog_1_method_28_code, 3, some .int, (6, 141), 2, 1, am_s114, am_b114)
def am_m115 : am_M := (⟨"WashLine", "ways", "()I"⟩, prog_1_method_29_code, 1, some .int, (6, 142), 1, 1, am_s115, am_b115)
def am_m116 : am_M := (⟨"WashLine$Winter", "countWays", "()V"⟩, prog_9_method_16_code, 2, none, (5, 121), 1, 1, am_s116, am_b116)
def am_m117 : am_M := (⟨"WashLine$Winter", "countOn", "(I)V"⟩, prog_9_method_17_code, 9, none, (4, 93), 2, 1, am_s117, am_b117)
def am_m118 : am_M := (⟨"WashLine$Winter", "capped", "(J)J"⟩, prog_9_method_19_code, 2, some .long, (1, 23), 1, 0, am_s118, am_b118)
def am_m119 : am_M := (⟨"WashLine$Winter", "countTo", "(I)V"⟩, prog_9_method_18_code, 8, none, (2, 46), 2, 1, am_s119, am_b119)
def am_m120 : am_M := (⟨"WashLine", "sure", "(II)I"⟩, prog_1_method_30_code, 3, some .int, (6, 141), 3, 1, am_s120, am_b120)
def am_m121 : am_M := (⟨"WashLine$Winter", "mostOf", "(II)I"⟩, prog_9_method_15_code, 5, some .int, (1, 23), 3, 1, am_s121, am_b121)
def am_m122 : am_M := (⟨"WashLine$Winter", "leastOf", "(II)I"⟩, prog_9_method_14_code, 5, some .int, (1, 23), 3, 1, am_s122, am_b122)
def am_m123 : am_M := (⟨"WashLine", "share", "(III)I"⟩, prog_1_method_31_code, 4, some .int, (6, 142), 4, 1, am_s123, am_b123)
def am_m124 : am_M := (⟨"WashLine$Winter", "having", "(III)J"⟩, prog_9_method_20_code, 8, some .long, (0, 0), 4, 1, am_s124, am_b124)
def am_m125 : am_M := (⟨"WashLine", "tellFraction", "(JJ)V"⟩, prog_1_method_52_code, 7, none, (1, 30), 3, 1, am_s125, am_b125)
def am_m126 : am_M := (⟨"WashLine", "commonDivisor", "(JJ)J"⟩, prog_1_method_53_code, 11, some .long, (0, 0), 2, 0, am_s126, am_b126)
def am_m127 : am_M := (⟨"WashLine", "through", "(II)I"⟩, prog_1_method_32_code, 5, some .int, (6, 141), 3, 1, am_s127, am_b127)
def am_m128 : am_M := (⟨"WashLine", "rival", "(I)I"⟩, prog_1_method_33_code, 3, some .int, (6, 141), 2, 1, am_s128, am_b128)
def am_m129 : am_M := (⟨"WashLine$Winter", "other", "(I)I"⟩, prog_9_method_13_code, 5, some .int, (2, 42), 2, 1, am_s129, am_b129)
def am_m130 : am_M := (⟨"WashLine", "happen", "(IIII)I"⟩, prog_1_method_34_code, 6, some .int, (2, 42), 5, 1, am_s130, am_b130)
def am_m131 : am_M := (⟨"WashLine$Story", "add", "(IIII)I"⟩, prog_7_method_2_code, 5, some .int, (0, 0), 5, 1, am_s131, am_b131)
def am_m132 : am_M := (⟨"WashLine", "event", "(II)I"⟩, prog_1_method_35_code, 3, some .int, (2, 42), 3, 1, am_s132, am_b132)
def am_m133 : am_M := (⟨"WashLine", "isHappening", "(I)Z"⟩, prog_1_method_62_code, 2, some .boolean, (1, 21), 2, 1, am_s133, am_b133)
def am_m134 : am_M := (⟨"WashLine$Story", "detail", "(II)I"⟩, prog_7_method_3_code, 3, some .int, (0, 0), 3, 1, am_s134, am_b134)
def am_m135 : am_M := (⟨"WashLine", "mark", "(II)I"⟩, prog_1_method_36_code, 3, some .int, (5, 112), 3, 1, am_s135, am_b135)
def am_m136 : am_M := (⟨"WashLine$Story", "is", "(II)Z"⟩, prog_7_method_4_code, 3, some .boolean, (0, 0), 3, 1, am_s136, am_b136)
def am_m137 : am_M := (⟨"WashLine$Story", "tell", "(II)I"⟩, prog_7_method_6_code, 3, some .int, (4, 90), 3, 1, am_s137, am_b137)
def am_m138 : am_M := (⟨"WashLine$Story", "live", "(I)Z"⟩, prog_7_method_7_code, 4, some .boolean, (3, 67), 2, 1, am_s138, am_b138)
def am_m139 : am_M := (⟨"WashLine$Story", "comesTrue", "(I)Z"⟩, prog_7_method_8_code, 2, some .boolean, (2, 46), 2, 1, am_s139, am_b139)
def am_m140 : am_M := (⟨"WashLine$Story", "join", "(I)Z"⟩, prog_7_method_9_code, 2, some .boolean, (1, 25), 2, 1, am_s140, am_b140)
def am_m141 : am_M := (⟨"WashLine$Story", "everybody", "()I"⟩, prog_7_method_11_code, 6, some .int, (0, 0), 1, 1, am_s141, am_b141)
def am_m142 : am_M := (⟨"WashLine$Story", "leave", "(I)Z"⟩, prog_7_method_10_code, 2, some .boolean, (0, 0), 2, 1, am_s142, am_b142)
def am_m143 : am_M := (⟨"WashLine", "household", "(I)I"⟩, prog_1_method_37_code, 2, some .int, (4, 90), 2, 1, am_s143, am_b143)
def am_m144 : am_M := (⟨"WashLine$Story", "number", "()I"⟩, prog_7_method_12_code, 3, some .int, (0, 0), 1, 1, am_s144, am_b144)
def am_m145 : am_M := (⟨"WashLine", "judge", "()I"⟩, prog_1_method_38_code, 2, some .int, (6, 136), 1, 1, am_s145, am_b145)
def am_m146 : am_M := (⟨"WashLine$Story", "firstOff", "()I"⟩, prog_7_method_13_code, 2, some .int, (5, 115), 1, 1, am_s146, am_b146)
def am_m147 : am_M := (⟨"WashLine$Story", "isAgreed", "(I)Z"⟩, prog_7_method_14_code, 3, some .boolean, (4, 93), 2, 1, am_s147, am_b147)
def am_m148 : am_M := (⟨"WashLine$Story", "hang", "(I)V"⟩, prog_7_method_15_code, 6, none, (3, 68), 2, 1, am_s148, am_b148)
def am_m149 : am_M := (⟨"WashLine$Story", "among", "(III)I"⟩, prog_7_method_16_code, 6, some .int, (0, 0), 4, 1, am_s149, am_b149)
def am_m150 : am_M := (⟨"WashLine$Story", "handDown", "(I)V"⟩, prog_7_method_17_code, 4, none, (2, 45), 2, 1, am_s150, am_b150)
def am_m151 : am_M := (⟨"WashLine$Story", "handOver", "(II)V"⟩, prog_7_method_18_code, 3, none, (1, 23), 3, 1, am_s151, am_b151)
def am_m152 : am_M := (⟨"WashLine", "doubts", "(I)I"⟩, prog_1_method_39_code, 3, some .int, (3, 70), 2, 1, am_s152, am_b152)
def am_m153 : am_M := (⟨"WashLine$Looks", "doubted", "(I)I"⟩, prog_4_method_14_code, 6, some .int, (2, 45), 2, 1, am_s153, am_b153)
def am_m154 : am_M := (⟨"WashLine", "least", "()I"⟩, prog_1_method_40_code, 2, some .int, (4, 94), 1, 1, am_s154, am_b154)
def am_m155 : am_M := (⟨"WashLine$Looks", "leastDoubted", "()I"⟩, prog_4_method_15_code, 5, some .int, (3, 70), 1, 1, am_s155, am_b155)
def am_m156 : am_M := (⟨"WashLine", "see", "(I)I"⟩, prog_1_method_41_code, 6, some .int, (6, 141), 2, 1, am_s156, am_b156)
def am_m157 : am_M := (⟨"WashLine$Winter", "parted", "(II)I"⟩, prog_9_method_21_code, 6, some .int, (2, 45), 3, 1, am_s157, am_b157)
def am_m158 : am_M := (⟨"WashLine", "asked", "()I"⟩, prog_1_method_42_code, 1, some .int, (0, 0), 1, 1, am_s158, am_b158)
def am_m159 : am_M := (⟨"WashLine", "tales", "()J"⟩, prog_1_method_43_code, 1, some .long, (0, 0), 1, 1, am_s159, am_b159)
def am_m160 : am_M := (⟨"WashLine", "upper", "()J"⟩, prog_1_method_44_code, 1, some .long, (0, 0), 1, 1, am_s160, am_b160)
def am_m161 : am_M := (⟨"WashLine", "lower", "()J"⟩, prog_1_method_45_code, 1, some .long, (0, 0), 1, 1, am_s161, am_b161)
def am_m162 : am_M := (⟨"WashLine", "count", "(I)I"⟩, prog_1_method_46_code, 2, some .int, (2, 45), 2, 1, am_s162, am_b162)
def am_m163 : am_M := (⟨"WashLine$Story", "comes", "()I"⟩, prog_7_method_5_code, 3, some .int, (1, 22), 1, 1, am_s163, am_b163)
def am_m164 : am_M := (⟨"WashLine", "there", "([LWashLine$Strip;)I"⟩, prog_1_method_54_code, 6, some .int, (1, 20), 1, 0, am_s164, am_b164)
def am_m165 : am_M := (⟨"WashLine", "finding", "()I"⟩, prog_1_method_47_code, 1, some .int, (0, 0), 1, 1, am_s165, am_b165)
def am_m166 : am_M := (⟨"WashLine", "findings", "(I)I"⟩, prog_1_method_48_code, 2, some .int, (0, 0), 2, 1, am_s166, am_b166)
def am_m167 : am_M := (⟨"WashLine", "digest", "()J"⟩, prog_1_method_49_code, 7, some .long, (3, 66), 1, 1, am_s167, am_b167)
def am_m168 : am_M := (⟨"WashLine$World", "digestOn", "(J)J"⟩, prog_10_method_6_code, 9, some .long, (0, 0), 2, 1, am_s168, am_b168)
def am_m169 : am_M := (⟨"WashLine$Line", "digestOn", "(J)J"⟩, prog_3_method_6_code, 7, some .long, (1, 22), 2, 1, am_s169, am_b169)
def am_m170 : am_M := (⟨"WashLine$Story", "digestOn", "(J)J"⟩, prog_7_method_19_code, 7, some .long, (1, 22), 2, 1, am_s170, am_b170)
def am_m171 : am_M := (⟨"WashLine$Strip", "digestOn", "(J)J"⟩, prog_8_method_9_code, 6, some .long, (0, 0), 2, 1, am_s171, am_b171)
def am_m172 : am_M := (⟨"WashLineModel", "<init>", "()V"⟩, prog_12_method_1_code, 2, none, (2, 46), 1, 2, am_s172, am_b172)
def am_m173 : am_M := (⟨"WashLineModel", "wipeRead", "()V"⟩, prog_12_method_21_code, 2, none, (0, 0), 1, 1, am_s173, am_b173)
def am_m174 : am_M := (⟨"WashLineModel", "takeWorld", "()V"⟩, prog_12_method_30_code, 2, none, (1, 25), 1, 1, am_s174, am_b174)
def am_m175 : am_M := (⟨"WashLineModel", "in", "(III)Z"⟩, prog_12_method_3_code, 3, some .boolean, (0, 0), 3, 0, am_s175, am_b175)
def am_m176 : am_M := (⟨"WashLineModel", "setHouses", "()V"⟩, prog_12_method_44_code, 6, none, (0, 0), 1, 1, am_s176, am_b176)
def am_m177 : am_M := (⟨"WashLineModel", "row", "(II)I"⟩, prog_12_method_13_code, 4, some .int, (2, 42), 3, 1, am_s177, am_b177)
def am_m178 : am_M := (⟨"WashLineModel", "isRow", "(I)Z"⟩, prog_12_method_8_code, 1, some .boolean, (1, 22), 1, 0, am_s178, am_b178)
def am_m179 : am_M := (⟨"WashLineModel", "meets", "(I)I"⟩, prog_12_method_4_code, 2, some .int, (0, 0), 2, 1, am_s179, am_b179)
def am_m180 : am_M := (⟨"WashLineModel", "at", "(II)I"⟩, prog_12_method_14_code, 4, some .int, (3, 63), 3, 1, am_s180, am_b180)
def am_m181 : am_M := (⟨"WashLineModel", "askedRow", "(I)I"⟩, prog_12_method_10_code, 2, some .int, (2, 42), 2, 1, am_s181, am_b181)
def am_m182 : am_M := (⟨"WashLineModel", "rowAt", "(II)I"⟩, prog_12_method_12_code, 3, some .int, (0, 0), 3, 1, am_s182, am_b182)
def am_m183 : am_M := (⟨"WashLineModel", "ask", "(II)I"⟩, prog_12_method_5_code, 3, some .int, (0, 0), 3, 1, am_s183, am_b183)
def am_m184 : am_M := (⟨"WashLineModel", "lay", "(III)I"⟩, prog_12_method_15_code, 5, some .int, (4, 86), 4, 1, am_s184, am_b184)
def am_m185 : am_M := (⟨"WashLineModel", "tear", "(I)I"⟩, prog_12_method_16_code, 3, some .int, (3, 63), 2, 1, am_s185, am_b185)
def am_m186 : am_M := (⟨"WashLineModel", "copy", "(IIIII)I"⟩, prog_12_method_17_code, 7, some .int, (2, 42), 6, 1, am_s186, am_b186)
def am_m187 : am_M := (⟨"WashLineModel", "mean", "(I)I"⟩, prog_12_method_18_code, 6, some .int, (3, 63), 2, 1, am_s187, am_b187)
def am_m188 : am_M := (⟨"WashLineModel", "text", "(II)I"⟩, prog_12_method_19_code, 4, some .int, (2, 42), 3, 1, am_s188, am_b188)
def am_m189 : am_M := (⟨"WashLineModel", "isText", "(I)Z"⟩, prog_12_method_9_code, 1, some .boolean, (1, 22), 1, 0, am_s189, am_b189)
def am_m190 : am_M := (⟨"WashLineModel", "put", "(III)I"⟩, prog_12_method_20_code, 6, some .int, (3, 63), 4, 1, am_s190, am_b190)
def am_m191 : am_M := (⟨"WashLineModel", "askedText", "(I)I"⟩, prog_12_method_11_code, 2, some .int, (2, 42), 2, 1, am_s191, am_b191)
def am_m192 : am_M := (⟨"WashLineModel", "fault", "(I)I"⟩, prog_12_method_29_code, 3, some .int, (5, 114), 2, 1, am_s192, am_b192)
def am_m193 : am_M := (⟨"WashLineModel", "goesOn", "(I)I"⟩, prog_12_method_28_code, 3, some .int, (4, 92), 2, 1, am_s193, am_b193)
def am_m194 : am_M := (⟨"WashLineModel", "here", "(I)I"⟩, prog_12_method_22_code, 2, some .int, (0, 0), 2, 1, am_s194, am_b194)
def am_m195 : am_M := (⟨"WashLineModel", "readsItem", "(II)Z"⟩, prog_12_method_27_code, 4, some .boolean, (3, 69), 3, 1, am_s195, am_b195)
def am_m196 : am_M := (⟨"WashLineModel", "readsSort", "(I)Z"⟩, prog_12_method_25_code, 2, some .boolean, (2, 46), 2, 1, am_s196, am_b196)
def am_m197 : am_M := (⟨"WashLineModel", "reads", "(II)Z"⟩, prog_12_method_23_code, 4, some .boolean, (1, 21), 3, 1, am_s197, am_b197)
def am_m198 : am_M := (⟨"WashLineModel", "readsFigure", "(III)Z"⟩, prog_12_method_24_code, 5, some .boolean, (1, 22), 4, 1, am_s198, am_b198)
def am_m199 : am_M := (⟨"WashLineModel", "readsWear", "(I)Z"⟩, prog_12_method_26_code, 4, some .boolean, (2, 46), 2, 1, am_s199, am_b199)
def am_m200 : am_M := (⟨"WashLineModel", "world", "(I)I"⟩, prog_12_method_31_code, 3, some .int, (5, 114), 2, 1, am_s200, am_b200)
def am_m201 : am_M := (⟨"WashLineModel", "wears", "(II)I"⟩, prog_12_method_34_code, 3, some .int, (2, 43), 3, 1, am_s201, am_b201)
def am_m202 : am_M := (⟨"WashLineModel", "isSort", "(I)Z"⟩, prog_12_method_32_code, 2, some .boolean, (1, 22), 2, 1, am_s202, am_b202)
def am_m203 : am_M := (⟨"WashLineModel", "isThing", "(I)Z"⟩, prog_12_method_33_code, 1, some .boolean, (1, 22), 1, 0, am_s203, am_b203)
def am_m204 : am_M := (⟨"WashLineModel", "grows", "(I)I"⟩, prog_12_method_35_code, 2, some .int, (2, 43), 2, 1, am_s204, am_b204)
def am_m205 : am_M := (⟨"WashLineModel", "indoors", "()I"⟩, prog_12_method_36_code, 1, some .int, (0, 0), 1, 1, am_s205, am_b205)
def am_m206 : am_M := (⟨"WashLineModel", "price", "(II)I"⟩, prog_12_method_37_code, 4, some .int, (1, 22), 3, 1, am_s206, am_b206)
def am_m207 : am_M := (⟨"WashLineModel", "monday", "(III)I"⟩, prog_12_method_40_code, 7, some .int, (3, 63), 4, 1, am_s207, am_b207)
def am_m208 : am_M := (⟨"WashLineModel", "hung", "(III)I"⟩, prog_12_method_41_code, 5, some .int, (2, 43), 4, 1, am_s208, am_b208)
def am_m209 : am_M := (⟨"WashLineModel", "isMonday", "(I)Z"⟩, prog_12_method_38_code, 2, some .boolean, (1, 22), 2, 1, am_s209, am_b209)
def am_m210 : am_M := (⟨"WashLineModel", "tells", "(II)I"⟩, prog_12_method_39_code, 3, some .int, (0, 0), 3, 1, am_s210, am_b210)
def am_m211 : am_M := (⟨"WashLineModel", "told", "(II)I"⟩, prog_12_method_42_code, 3, some .int, (2, 43), 3, 1, am_s211, am_b211)
def am_m212 : am_M := (⟨"WashLineModel", "back", "(I)I"⟩, prog_12_method_43_code, 3, some .int, (1, 22), 2, 1, am_s212, am_b212)
def am_m213 : am_M := (⟨"WashLineModel", "hangs", "(III)I"⟩, prog_12_method_50_code, 5, some .int, (2, 48), 4, 1, am_s213, am_b213)
def am_m214 : am_M := (⟨"WashLineModel", "placeOf", "(I)I"⟩, prog_12_method_45_code, 5, some .int, (0, 0), 2, 1, am_s214, am_b214)
def am_m215 : am_M := (⟨"WashLineModel", "sumOf", "([III)I"⟩, prog_12_method_47_code, 6, some .int, (0, 0), 4, 1, am_s215, am_b215)
def am_m216 : am_M := (⟨"WashLineModel", "leastOf", "(III)I"⟩, prog_12_method_49_code, 4, some .int, (1, 25), 4, 1, am_s216, am_b216)
def am_m217 : am_M := (⟨"WashLineModel", "isIndoors", "(II)Z"⟩, prog_12_method_48_code, 3, some .boolean, (0, 0), 3, 1, am_s217, am_b217)
def am_m218 : am_M := (⟨"WashLineModel", "explains", "(II)I"⟩, prog_12_method_54_code, 5, some .int, (4, 100), 3, 1, am_s218, am_b218)
def am_m219 : am_M := (⟨"WashLineModel", "explainsOf", "(II)I"⟩, prog_12_method_53_code, 5, some .int, (3, 76), 3, 1, am_s219, am_b219)
def am_m220 : am_M := (⟨"WashLineModel", "agrees", "(IIII)Z"⟩, prog_12_method_52_code, 9, some .boolean, (2, 48), 5, 1, am_s220, am_b220)
def am_m221 : am_M := (⟨"WashLineModel", "isWithin", "(IIII)Z"⟩, prog_12_method_51_code, 7, some .boolean, (1, 22), 5, 1, am_s221, am_b221)
def am_m222 : am_M := (⟨"WashLineModel", "lacks", "(II)I"⟩, prog_12_method_55_code, 7, some .int, (2, 48), 3, 1, am_s222, am_b222)
def am_m223 : am_M := (⟨"WashLineModel", "fewest", "(I)I"⟩, prog_12_method_56_code, 4, some .int, (3, 76), 2, 1, am_s223, am_b223)
def am_m224 : am_M := (⟨"WashLineModel", "peopleOf", "(I)I"⟩, prog_12_method_46_code, 4, some .int, (0, 0), 2, 1, am_s224, am_b224)
def am_m225 : am_M := (⟨"WashLineModel", "bound", "(I)I"⟩, prog_12_method_57_code, 7, some .int, (2, 43), 2, 1, am_s225, am_b225)
def am_m226 : am_M := (⟨"WashLineModel", "greater", "(II)I"⟩, prog_12_method_6_code, 2, some .int, (0, 0), 2, 0, am_s226, am_b226)
def am_m227 : am_M := (⟨"WashLineModel", "many", "(II)I"⟩, prog_12_method_58_code, 5, some .int, (4, 100), 3, 1, am_s227, am_b227)
def am_m228 : am_M := (⟨"WashLineModel", "step", "(II)I"⟩, prog_12_method_64_code, 5, some .int, (4, 93), 3, 1, am_s228, am_b228)
def am_m229 : am_M := (⟨"WashLineModel", "setSteps", "()V"⟩, prog_12_method_62_code, 2, none, (3, 72), 1, 1, am_s229, am_b229)
def am_m230 : am_M := (⟨"WashLineModel", "setNexts", "()V"⟩, prog_12_method_60_code, 3, none, (2, 50), 1, 1, am_s230, am_b230)
def am_m231 : am_M := (⟨"WashLineModel", "changed", "(III)I"⟩, prog_12_method_59_code, 7, some .int, (1, 24), 4, 1, am_s231, am_b231)
def am_m232 : am_M := (⟨"WashLineModel", "setStepsFrom", "(I)V"⟩, prog_12_method_61_code, 8, none, (0, 0), 2, 1, am_s232, am_b232)
def am_m233 : am_M := (⟨"WashLineModel", "stepOf", "(II)I"⟩, prog_12_method_63_code, 3, some .int, (0, 0), 3, 1, am_s233, am_b233)
def am_m234 : am_M := (⟨"WashLineModel", "plain", "()I"⟩, prog_12_method_68_code, 1, some .int, (5, 126), 1, 1, am_s234, am_b234)
def am_m235 : am_M := (⟨"WashLineModel", "setTales", "()V"⟩, prog_12_method_65_code, 7, none, (4, 100), 1, 1, am_s235, am_b235)
def am_m236 : am_M := (⟨"WashLineModel", "costAt", "(I)I"⟩, prog_12_method_66_code, 3, some .int, (0, 0), 2, 1, am_s236, am_b236)
def am_m237 : am_M := (⟨"WashLineModel", "tale", "(I)I"⟩, prog_12_method_70_code, 3, some .int, (5, 126), 2, 1, am_s237, am_b237)
def am_m238 : am_M := (⟨"WashLineModel", "setFirst", "()V"⟩, prog_12_method_69_code, 3, none, (2, 44), 1, 1, am_s238, am_b238)
def am_m239 : am_M := (⟨"WashLineModel", "isPlain", "(II)Z"⟩, prog_12_method_67_code, 3, some .boolean, (1, 22), 3, 1, am_s239, am_b239)
def am_m240 : am_M := (⟨"WashLineModel", "ways", "()I"⟩, prog_12_method_73_code, 3, some .int, (5, 126), 1, 1, am_s240, am_b240)
def am_m241 : am_M := (⟨"WashLineModel", "countTales", "()J"⟩, prog_12_method_71_code, 10, some .long, (2, 44), 1, 1, am_s241, am_b241)
def am_m242 : am_M := (⟨"WashLineModel", "tales", "()J"⟩, prog_12_method_74_code, 1, some .long, (0, 0), 1, 1, am_s242, am_b242)
def am_m243 : am_M := (⟨"WashLineModel", "sure", "(II)I"⟩, prog_12_method_75_code, 7, some .int, (5, 126), 3, 1, am_s243, am_b243)
def am_m244 : am_M := (⟨"WashLineModel", "share", "(III)I"⟩, prog_12_method_76_code, 9, some .int, (5, 126), 4, 1, am_s244, am_b244)
def am_m245 : am_M := (⟨"WashLineModel", "countOn", "()V"⟩, prog_12_method_72_code, 8, none, (2, 44), 1, 1, am_s245, am_b245)
def am_m246 : am_M := (⟨"WashLineModel", "part", "(JJI)I"⟩, prog_12_method_7_code, 12, some .int, (0, 0), 4, 1, am_s246, am_b246)
def am_m247 : am_M := (⟨"WashLineModel", "through", "(II)I"⟩, prog_12_method_77_code, 5, some .int, (5, 126), 3, 1, am_s247, am_b247)
def am_m248 : am_M := (⟨"WashLineModel", "rival", "(I)I"⟩, prog_12_method_78_code, 6, some .int, (5, 126), 2, 1, am_s248, am_b248)
def am_m249 : am_M := (⟨"WashLineModel", "happen", "(IIII)I"⟩, prog_12_method_80_code, 6, some .int, (2, 43), 5, 1, am_s249, am_b249)
def am_m250 : am_M := (⟨"WashLineModel", "event", "(II)I"⟩, prog_12_method_82_code, 3, some .int, (2, 43), 3, 1, am_s250, am_b250)
def am_m251 : am_M := (⟨"WashLineModel", "isHappening", "(I)Z"⟩, prog_12_method_81_code, 2, some .boolean, (1, 22), 2, 1, am_s251, am_b251)
def am_m252 : am_M := (⟨"WashLineModel", "tell", "(II)I"⟩, prog_12_method_79_code, 3, some .int, (0, 0), 3, 1, am_s252, am_b252)
def am_m253 : am_M := (⟨"WashLineModel", "mark", "(II)I"⟩, prog_12_method_84_code, 4, some .int, (3, 74), 3, 1, am_s253, am_b253)
def am_m254 : am_M := (⟨"WashLineModel", "isOf", "(II)Z"⟩, prog_12_method_83_code, 2, some .boolean, (0, 0), 2, 0, am_s254, am_b254)
def am_m255 : am_M := (⟨"WashLineModel", "toldOf", "(I)I"⟩, prog_12_method_85_code, 5, some .int, (2, 50), 2, 1, am_s255, am_b255)
def am_m256 : am_M := (⟨"WashLineModel", "household", "(I)I"⟩, prog_12_method_86_code, 3, some .int, (3, 74), 2, 1, am_s256, am_b256)
def am_m257 : am_M := (⟨"WashLineModel", "judge", "()I"⟩, prog_12_method_91_code, 4, some .int, (3, 74), 1, 1, am_s257, am_b257)
def am_m258 : am_M := (⟨"WashLineModel", "setHangs", "(II)V"⟩, prog_12_method_90_code, 7, none, (2, 47), 3, 1, am_s258, am_b258)
def am_m259 : am_M := (⟨"WashLineModel", "manyOf", "(III)I"⟩, prog_12_method_88_code, 6, some .int, (1, 22), 4, 1, am_s259, am_b259)
def am_m260 : am_M := (⟨"WashLineModel", "wear", "(III)V"⟩, prog_12_method_87_code, 5, none, (0, 0), 4, 1, am_s260, am_b260)
def am_m261 : am_M := (⟨"WashLineModel", "hand", "(II)V"⟩, prog_12_method_89_code, 3, none, (1, 21), 3, 1, am_s261, am_b261)
def am_m262 : am_M := (⟨"WashLineModel", "doubts", "(I)I"⟩, prog_12_method_93_code, 3, some .int, (3, 75), 2, 1, am_s262, am_b262)
def am_m263 : am_M := (⟨"WashLineModel", "doubtsOf", "(I)I"⟩, prog_12_method_92_code, 8, some .int, (2, 48), 2, 1, am_s263, am_b263)
def am_m264 : am_M := (⟨"WashLineModel", "least", "()I"⟩, prog_12_method_94_code, 5, some .int, (3, 75), 1, 1, am_s264, am_b264)
def am_m265 : am_M := (⟨"WashLineModel", "see", "(I)I"⟩, prog_12_method_96_code, 6, some .int, (5, 126), 2, 1, am_s265, am_b265)
def am_m266 : am_M := (⟨"WashLineModel", "partsOf", "(II)I"⟩, prog_12_method_95_code, 7, some .int, (2, 48), 3, 1, am_s266, am_b266)
def am_m267 : am_M := (⟨"WashLineModel", "asked", "()I"⟩, prog_12_method_97_code, 1, some .int, (0, 0), 1, 1, am_s267, am_b267)
def am_m268 : am_M := (⟨"WashLineModel", "upper", "()J"⟩, prog_12_method_98_code, 1, some .long, (0, 0), 1, 1, am_s268, am_b268)
def am_m269 : am_M := (⟨"WashLineModel", "lower", "()J"⟩, prog_12_method_99_code, 1, some .long, (0, 0), 1, 1, am_s269, am_b269)
def am_m270 : am_M := (⟨"WashLineModel", "count", "(I)I"⟩, prog_12_method_101_code, 2, some .int, (2, 45), 2, 1, am_s270, am_b270)
def am_m271 : am_M := (⟨"WashLineModel", "counts", "(I)I"⟩, prog_12_method_100_code, 4, some .int, (1, 22), 2, 1, am_s271, am_b271)
def am_m272 : am_M := (⟨"WashLineModel", "finding", "()I"⟩, prog_12_method_102_code, 1, some .int, (0, 0), 1, 1, am_s272, am_b272)
def am_m273 : am_M := (⟨"WashLineModel", "findings", "(I)I"⟩, prog_12_method_103_code, 2, some .int, (1, 22), 2, 1, am_s273, am_b273)
def am_m274 : am_M := (⟨"WashLineModel", "digest", "()J"⟩, prog_12_method_106_code, 3, some .long, (2, 45), 1, 1, am_s274, am_b274)
def am_m275 : am_M := (⟨"WashLineModel", "mix", "(I)V"⟩, prog_12_method_104_code, 2, none, (0, 0), 2, 1, am_s275, am_b275)
def am_m276 : am_M := (⟨"WashLineModel", "mixWorld", "()V"⟩, prog_12_method_105_code, 3, none, (1, 21), 1, 1, am_s276, am_b276)
def am_meths : List am_M := [am_m0, am_m1, am_m2, am_m3, am_m4, am_m5, am_m6, am_m7, am_m8, am_m9, am_m10, am_m11, am_m12, am_m13, am_m14, am_m15, am_m16, am_m17, am_m18, am_m19, am_m20, am_m21, am_m22, am_m23, am_m24, am_m25, am_m26, am_m27, am_m28, am_m29, am_m30, am_m31, am_m32, am_m33, am_m34, am_m35, am_m36, am_m37, am_m38, am_m39, am_m40, am_m41, am_m42, am_m43, am_m44, am_m45, am_m46, am_m47, am_m48, am_m49, am_m50, am_m51, am_m52, am_m53, am_m54, am_m55, am_m56, am_m57, am_m58, am_m59, am_m60, am_m61, am_m62, am_m63, am_m64, am_m65, am_m66, am_m67, am_m68, am_m69, am_m70, am_m71, am_m72, am_m73, am_m74, am_m75, am_m76, am_m77, am_m78, am_m79, am_m80, am_m81, am_m82, am_m83, am_m84, am_m85, am_m86, am_m87, am_m88, am_m89, am_m90, am_m91, am_m92, am_m93, am_m94, am_m95, am_m96, am_m97, am_m98, am_m99, am_m100, am_m101, am_m102, am_m103, am_m104, am_m105, am_m106, am_m107, am_m108, am_m109, am_m110, am_m111, am_m112, am_m113, am_m114, am_m115, am_m116, am_m117, am_m118, am_m119, am_m120, am_m121, am_m122, am_m123, am_m124, am_m125, am_m126, am_m127, am_m128, am_m129, am_m130, am_m131, am_m132, am_m133, am_m134, am_m135, am_m136, am_m137, am_m138, am_m139, am_m140, am_m141, am_m142, am_m143, am_m144, am_m145, am_m146, am_m147, am_m148, am_m149, am_m150, am_m151, am_m152, am_m153, am_m154, am_m155, am_m156, am_m157, am_m158, am_m159, am_m160, am_m161, am_m162, am_m163, am_m164, am_m165, am_m166, am_m167, am_m168, am_m169, am_m170, am_m171, am_m172, am_m173, am_m174, am_m175, am_m176, am_m177, am_m178, am_m179, am_m180, am_m181, am_m182, am_m183, am_m184, am_m185, am_m186, am_m187, am_m188, am_m189, am_m190, am_m191, am_m192, am_m193, am_m194, am_m195, am_m196, am_m197, am_m198, am_m199, am_m200, am_m201, am_m202, am_m203, am_m204, am_m205, am_m206, am_m207, am_m208, am_m209, am_m210, am_m211, am_m212, am_m213, am_m214, am_m215, am_m216, am_m217, am_m218, am_m219, am_m220, am_m221, am_m222, am_m223, am_m224, am_m225, am_m226, am_m227, am_m228, am_m229, am_m230, am_m231, am_m232, am_m233, am_m234, am_m235, am_m236, am_m237, am_m238, am_m239, am_m240, am_m241, am_m242, am_m243, am_m244, am_m245, am_m246, am_m247, am_m248, am_m249, am_m250, am_m251, am_m252, am_m253, am_m254, am_m255, am_m256, am_m257, am_m258, am_m259, am_m260, am_m261, am_m262, am_m263, am_m264, am_m265, am_m266, am_m267, am_m268, am_m269, am_m270, am_m271, am_m272, am_m273, am_m274, am_m275, am_m276]
/-- frames, words, locals, arguments, call: what a caller must know -/
def am_RM : List (Nat × Nat × Nat × Nat × Nat) := [(9, 334, 4, 1, 0), (6, 134, 2, 1, 2), (2, 43, 1, 1, 2), (1, 23, 1, 1, 1), (0, 0, 4, 2, 0), (3, 63, 1, 1, 3), (1, 20, 2, 2, 2), (5, 113, 2, 2, 2), (4, 91, 3, 1, 1), (3, 71, 1, 1, 1), (1, 22, 5, 4, 0), (0, 0, 3, 3, 0), (2, 46, 6, 3, 1), (0, 0, 5, 2, 1), (0, 0, 6, 2, 1), (0, 0, 4, 3, 1), (1, 20, 1, 1, 3), (1, 20, 4, 4, 2), (1, 20, 3, 3, 2), (1, 20, 5, 5, 2), (1, 20, 3, 3, 2), (2, 45, 3, 3, 1), (1, 21, 1, 1, 0), (0, 0, 2, 2, 0), (0, 0, 2, 2, 1), (1, 23, 3, 3, 1), (2, 41, 4, 4, 1), (0, 0, 1, 1, 1), (0, 0, 2, 2, 1), (0, 0, 4, 3, 1), (0, 0, 3, 3, 1), (2, 41, 3, 3, 1), (2, 41, 2, 2, 1), (2, 41, 6, 6, 1), (0, 0, 3, 3, 1), (2, 41, 2, 2, 1), (0, 0, 4, 1, 1), (2, 45, 3, 3, 1), (1, 21, 1, 1, 0), (2, 41, 4, 4, 1), (6, 131, 2, 2, 1), (5, 108, 4, 2, 1), (2, 41, 2, 2, 1), (1, 21, 1, 1, 1), (4, 88, 1, 1, 1), (3, 64, 2, 1, 1), (2, 41, 4, 3, 1), (3, 64, 5, 1, 1), (3, 64, 2, 1, 1), (3, 64, 3, 1, 1), (0, 0, 2, 1, 1), (6, 131, 2, 2, 1), (1, 26, 2, 2, 1), (0, 0, 2, 1, 1), (0, 0, 1, 1, 1), (2, 42, 3, 3, 1), (1, 21, 2, 2, 1), (1, 21, 1, 1, 0), (2, 42, 2, 2, 1), (0, 0, 1, 1, 1), (1, 21, 4, 3, 1), (2, 49, 4, 4, 1), (1, 21, 1, 1, 0), (0, 0, 3, 2, 1), (1, 26, 4, 4, 1), (2, 42, 5, 4, 1), (1, 21, 2, 2, 1), (2, 42, 3, 3, 1), (0, 0, 3, 3, 1), (1, 21, 3, 2, 1), (2, 45, 5, 4, 1), (1, 22, 4, 4, 1), (0, 0, 3, 3, 1), (4, 97, 5, 3, 1), (3, 74, 4, 3, 1), (2, 51, 3, 3, 1), (1, 23, 9, 6, 1), (0, 0, 4, 4, 1), (0, 0, 4, 4, 1), (2, 51, 4, 3, 1), (2, 51, 4, 3, 1), (0, 0, 2, 2, 1), (3, 69, 4, 3, 1), (1, 23, 5, 3, 1), (2, 45, 5, 3, 1), (4, 96, 3, 2, 1), (3, 73, 4, 2, 1), (3, 71, 2, 2, 1), (2, 46, 6, 2, 1), (1, 23, 4, 2, 1), (5, 122, 3, 3, 1), (4, 97, 6, 3, 1), (4, 93, 5, 3, 1), (3, 70, 4, 2, 1), (2, 49, 2, 2, 1), (1, 26, 4, 3, 1), (0, 0, 7, 5, 1), (1, 25, 5, 2, 1), (0, 0, 6, 3, 1), (1, 26, 4, 3, 1), (0, 0, 3, 3, 1), (6, 141, 1, 1, 1), (5, 120, 2, 1, 1), (4, 97, 4, 2, 1), (3, 70, 3, 1, 1), (1, 23, 3, 2, 1), (0, 0, 1, 1, 1), (3, 73, 2, 1, 1), (2, 52, 2, 2, 1), (1, 26, 7, 2, 1), (2, 42, 4, 2, 1), (1, 20, 3, 3, 1), (4, 93, 5, 1, 1), (1, 22, 5, 4, 1), (6, 141, 3, 2, 1), (6, 142, 1, 1, 1), (5, 121, 2, 1, 1), (4, 93, 9, 2, 1), (1, 23, 2, 1, 0), (2, 46, 8, 2, 1), (6, 141, 3, 3, 1), (1, 23, 5, 3, 1), (1, 23, 5, 3, 1), (6, 142, 4, 4, 1), (0, 0, 8, 4, 1), (1, 30, 7, 3, 1), (0, 0, 11, 2, 0), (6, 141, 5, 3, 1), (6, 141, 3, 2, 1), (2, 42, 5, 2, 1), (2, 42, 6, 5, 1), (0, 0, 5, 5, 1), (2, 42, 3, 3, 1), (1, 21, 2, 2, 1), (0, 0, 3, 3, 1), (5, 112, 3, 3, 1), (0, 0, 3, 3, 1), (4, 90, 3, 3, 1), (3, 67, 4, 2, 1), (2, 46, 2, 2, 1), (1, 25, 2, 2, 1), (0, 0, 6, 1, 1), (0, 0, 2, 2, 1), (4, 90, 2, 2, 1), (0, 0, 3, 1, 1), (6, 136, 2, 1, 1), (5, 115, 2, 1, 1), (4, 93, 3, 2, 1), (3, 68, 6, 2, 1), (0, 0, 6, 4, 1), (2, 45, 4, 2, 1), (1, 23, 3, 3, 1), (3, 70, 3, 2, 1), (2, 45, 6, 2, 1), (4, 94, 2, 1, 1), (3, 70, 5, 1, 1), (6, 141, 6, 2, 1), (2, 45, 6, 3, 1), (0, 0, 1, 1, 1), (0, 0, 1, 1, 1), (0, 0, 1, 1, 1), (0, 0, 1, 1, 1), (2, 45, 2, 2, 1), (1, 22, 3, 1, 1), (1, 20, 6, 1, 0), (0, 0, 1, 1, 1), (0, 0, 2, 2, 1), (3, 66, 7, 1, 1), (0, 0, 9, 2, 1), (1, 22, 7, 2, 1), (1, 22, 7, 2, 1), (0, 0, 6, 2, 1), (2, 46, 2, 1, 2), (0, 0, 2, 1, 1), (1, 25, 2, 1, 1), (0, 0, 3, 3, 0), (0, 0, 6, 1, 1), (2, 42, 4, 3, 1), (1, 22, 1, 1, 0), (0, 0, 2, 2, 1), (3, 63, 4, 3, 1), (2, 42, 2, 2, 1), (0, 0, 3, 3, 1), (0, 0, 3, 3, 1), (4, 86, 5, 4, 1), (3, 63, 3, 2, 1), (2, 42, 7, 6, 1), (3, 63, 6, 2, 1), (2, 42, 4, 3, 1), (1, 22, 1, 1, 0), (3, 63, 6, 4, 1), (2, 42, 2, 2, 1), (5, 114, 3, 2, 1), (4, 92, 3, 2, 1), (0, 0, 2, 2, 1), (3, 69, 4, 3, 1), (2, 46, 2, 2, 1), (1, 21, 4, 3, 1), (1, 22, 5, 4, 1), (2, 46, 4, 2, 1), (5, 114, 3, 2, 1), (2, 43, 3, 3, 1), (1, 22, 2, 2, 1), (1, 22, 1, 1, 0), (2, 43, 2, 2, 1), (0, 0, 1, 1, 1), (1, 22, 4, 3, 1), (3, 63, 7, 4, 1), (2, 43, 5, 4, 1), (1, 22, 2, 2, 1), (0, 0, 3, 3, 1), (2, 43, 3, 3, 1), (1, 22, 3, 2, 1), (2, 48, 5, 4, 1), (0, 0, 5, 2, 1), (0, 0, 6, 4, 1), (1, 25, 4, 4, 1), (0, 0, 3, 3, 1), (4, 100, 5, 3, 1), (3, 76, 5, 3, 1), (2, 48, 9, 5, 1), (1, 22, 7, 5, 1), (2, 48, 7, 3, 1), (3, 76, 4, 2, 1), (0, 0, 4, 2, 1), (2, 43, 7, 2, 1), (0, 0, 2, 2, 0), (4, 100, 5, 3, 1), (4, 93, 5, 3, 1), (3, 72, 2, 1, 1), (2, 50, 3, 1, 1), (1, 24, 7, 4, 1), (0, 0, 8, 2, 1), (0, 0, 3, 3, 1), (5, 126, 1, 1, 1), (4, 100, 7, 1, 1), (0, 0, 3, 2, 1), (5, 126, 3, 2, 1), (2, 44, 3, 1, 1), (1, 22, 3, 3, 1), (5, 126, 3, 1, 1), (2, 44, 10, 1, 1), (0, 0, 1, 1, 1), (5, 126, 7, 3, 1), (5, 126, 9, 4, 1), (2, 44, 8, 1, 1), (0, 0, 12, 4, 1), (5, 126, 5, 3, 1), (5, 126, 6, 2, 1), (2, 43, 6, 5, 1), (2, 43, 3, 3, 1), (1, 22, 2, 2, 1), (0, 0, 3, 3, 1), (3, 74, 4, 3, 1), (0, 0, 2, 2, 0), (2, 50, 5, 2, 1), (3, 74, 3, 2, 1), (3, 74, 4, 1, 1), (2, 47, 7, 3, 1), (1, 22, 6, 4, 1), (0, 0, 5, 4, 1), (1, 21, 3, 3, 1), (3, 75, 3, 2, 1), (2, 48, 8, 2, 1), (3, 75, 5, 1, 1), (5, 126, 6, 2, 1), (2, 48, 7, 3, 1), (0, 0, 1, 1, 1), (0, 0, 1, 1, 1), (0, 0, 1, 1, 1), (2, 45, 2, 2, 1), (1, 22, 4, 2, 1), (0, 0, 1, 1, 1), (1, 22, 2, 2, 1), (2, 45, 3, 1, 1), (0, 0, 2, 2, 1), (1, 21, 3, 1, 1)]
end
section
def am_OW : List Nat := [11, 9, 8, 8, 12, 3, 6, 0, 0, 0, 12, 12, 0, 0, 0, 0, 1, 2, 4, 7, 5, 9, 9, 9, 9, 6, 9, 6, 6, 6, 9, 9, 9, 9, 6, 9, 6, 9, 9, 9, 9, 3, 3, 3, 3, 3, 3, 3, 3, 3, 8, 9, 8, 4, 7, 9, 9, 9, 9, 9, 9, 9, 9, 6, 1, 9, 9, 9, 1, 9, 9, 0, 8, 9, 2, 2, 2, 1, 1, 2, 2, 2, 9, 2, 2, 9, 2, 9, 2, 2, 9, 2, 9, 4, 4, 4, 4, 4, 4, 4, 4, 9, 7, 7, 7, 7, 7, 7, 4, 4, 7, 7, 7, 7, 9, 9, 7, 7, 7, 7, 9, 7, 7, 9, 7, 9, 9, 9, 9, 7, 9, 5, 9, 9, 5, 9, 5, 5, 5, 5, 5, 5, 5, 9, 5, 9, 5, 5, 5, 5, 5, 5, 9, 2, 9, 2, 9, 7, 9, 9, 9, 9, 9, 5, 9, 9, 9, 9, 8, 1, 5, 6, 10, 10, 10, 10, 10, 10, 10, 10, 10, 10, 10, 10, 10, 10, 10, 10, 10, 10, 10, 10, 10, 10, 10, 10, 10, 10, 10, 10, 10, 10, 10, 10, 10, 10, 10, 10, 10, 10, 10, 10, 10, 10, 10, 10, 10, 10, 10, 10, 10, 10, 10, 10, 10, 10, 10, 10, 10, 10, 10, 10, 10, 10, 10, 10, 10, 10, 10, 10, 10, 10, 10, 10, 10, 10, 10, 10, 10, 10, 10, 10, 10, 10, 10, 10, 10, 10, 10, 10, 10, 10, 10, 10, 10, 10, 10, 10, 10, 10, 10, 10, 10, 10, 10, 10, 10]
/-! THE WORDS THAT A CALL HANDS ON -/
def lw_gt : List Jvm.Cond := lw_tbl.filter goodWord
theorem am_gm {w : Jvm.Cond} (h : w ∈ lw_tbl) (hg : goodWord w = true) : w ∈ lw_gt := List.mem_filter.mpr ⟨h, hg⟩
theorem am_gg : GoodIn lw_gt lw_gt := fun w h => ⟨h, good_of_word (List.mem_filter.mp h).2⟩
theorem am_gt {w : Jvm.Cond} (h : w ∈ lw_gt) : w ∈ lw_tbl := (List.mem_filter.mp h).1
/-! A METHOD'S BLOCKS AGAINST ITS BYTES -/
def am_jmp (sts : List Nat) (pc : Nat) (off : Int) (b : Nat) : Bool := match sts[b]? with
  | some t => decide ((pc : Int) + off = (t : Int))
  | none => false
def am_jmps (sts : List Nat) (pc : Nat) : List Int → List Nat → Bool
  | [], [] => true
  | o :: os, b :: bs => am_jmp sts pc o b && am_jmps sts pc os bs
  | _, _ => false
def am_side (o : Nat) (ini : Bool) (maxL : Nat) (ret : Option FieldType) (RF RL : Nat) (sts : List Nat) (pc len : Nat) (i : Instr) (ops : List Nat) (v : Int) : Bool := match i with
  | .iconst n => len == 1 && decide (-10 ≤ n ∧ n ≤ 10)
  | .bipush n => len == 2 && decide (-128 ≤ n ∧ n < 128)
  | .sipush n => len == 3 && decide (-32768 ≤ n ∧ n < 32768)
  | .ldc x => len == 2 && am_CT.any (fun e => e.1 == o && e.2.1 == x && e.2.2.1 == v) && decide (-2147483648 ≤ v ∧ v < 2147483648)
  | .ldc_w x => len == 3 && am_CT.any (fun e => e.1 == o && e.2.1 == x && e.2.2.1 == v) && decide (-2147483648 ≤ v ∧ v < 2147483648)
  | .lconst _ => len == 1
  | .ldc2_w x => len == 3 && am_CJ.any (fun e => e.1 == o && e.2.1 == x && e.2.2.1 == v) && decide (-9223372036854775808 ≤ v ∧ v < 9223372036854775808)
  | .iload_n _ => len == 1
  | .iload _ => len == 2
  | .lload_n _ => len == 1
  | .lload _ => len == 2
  | .aload_n _ => len == 1
  | .aload _ => len == 2
  | .istore_n k => len == 1 && decide ((k : Nat) < maxL)
  | .istore k => len == 2 && decide (k < maxL)
  | .lstore_n k => len == 1 && decide ((k : Nat) + 1 < maxL)
  | .lstore k => len == 2 && decide (k + 1 < maxL)
  | .astore_n k => len == 1 && decide ((k : Nat) < maxL)
  | .astore k => len == 2 && decide (k < maxL)
  | .iinc k _ => len == 3 && decide (k < maxL)
  | .ifCond _ off => len == 3 && am_jmp sts pc off (ops.headD 0)
  | .if_icmp _ off => len == 3 && am_jmp sts pc off (ops.headD 0)
  | .goto off => len == 3 && am_jmp sts pc off (ops.headD 0)
  | .tableswitch d lo hi offs => am_jmp sts pc d (ops.headD 0) && am_jmps sts pc offs.toList ops.tail && decide (hi - lo < (offs.size : Int))
  | .lookupswitch d ps => am_jmp sts pc d (ops.headD 0) && am_jmps sts pc (ps.toList.map (fun q => q.2)) ops.tail && (ps.toList.zip (ps.toList.drop 1)).all (fun (a, next) => a.1 < next.1)
  | .getfield x => len == 3 && (match ops with
    | [c, k] => decide (c < 11) && decide (k < am_cN c) && am_FL.any (fun e => e.1 == o && e.2.1 == x && e.2.2.1 == c && e.2.2.2.1 == k)
    | _ => false)
  | .putfield x => len == 3 && (match ops with
    | [c, k] => decide (c < 11) && decide (k < am_cN c) && am_FL.any (fun e => e.1 == o && e.2.1 == x && e.2.2.1 == c && e.2.2.2.1 == k) && (!(am_Tt c k).2.2.2 || (ini && decide (c = o)))
    | _ => false)
  | .getstatic x => len == 3 && am_NG.any (fun e => e.1 == o && e.2 == x)
  | .newarray t => len == 2 && decide (newarray.typeOf t = .int ∨ newarray.typeOf t = .long ∨ newarray.typeOf t = .byte ∨ newarray.typeOf t = .boolean)
  | .anewarray x => len == 3 && am_CK.any (fun e => e.1 == o && e.2.1 == x && e.2.2.1 == 6)
  | .new x => len == 3 && (match ops with
    | [c] => decide (c < 11) && am_CK.any (fun e => e.1 == o && e.2.1 == x && e.2.2.1 == c)
    | _ => false)
  | .invokespecial x => len == 3 && (match ops with
    | [] => am_OI.any (fun e => e.1 == o && e.2.1 == x) && decide (1 ≤ RF) && decide (20 ≤ RL)
    | [m, n] => (match am_RM[m]? with
      | some (a, b, c, d, k) => decide (d = n) && decide (a + 1 ≤ RF) && decide (8 + (c + 11) + b ≤ RL) && decide (v ≤ (c : Int)) && ((decide (k = 2) && am_ML.any (fun e => e.1 == o && e.2.1 == x && e.2.2.1 == m)) || (decide (k = 3) && am_NM.any (fun e => e.1 == o && e.2.1 == x && e.2.2 == m)))
      | none => false)
    | _ => false)
  | .invokestatic x => len == 3 && (match ops with
    | [] => am_AC.any (fun e => e.1 == o && e.2.1 == x) && decide (1 ≤ RF) && decide (26 ≤ RL)
    | [m] => am_MA.any (fun e => e.1 == o && e.2.1 == x && e.2.2.1 == m) && decide (1 ≤ RF) && decide (23 ≤ RL)
    | [m, n] => (match am_RM[m]? with
      | some (a, b, c, d, k) => decide (d = n) && decide (a + 1 ≤ RF) && decide (8 + (c + 11) + b ≤ RL) && decide (v ≤ (c : Int)) && decide (k = 0) && am_ML.any (fun e => e.1 == o && e.2.1 == x && e.2.2.1 == m)
      | none => false)
    | _ => false)
  | .invokevirtual x => len == 3 && (match ops with
    | [m, n, cc] => (match am_RM[m]? with
      | some (a, b, c, d, k) => decide (d = n) && decide (a + 1 ≤ RF) && decide (8 + (c + 11) + b ≤ RL) && decide (v ≤ (c : Int)) && decide (k = 1) && decide (cc < 11) && decide (am_OW.getD m 99 = cc) && am_ML.any (fun e => e.1 == o && e.2.1 == x && e.2.2.1 == m)
      | none => false)
    | _ => false)
  | .return_ => len == 1 && decide (ret = none)
  | .ireturn => len == 1 && decide ((ops = [0] ∧ ret = some .int) ∨ (ops = [1] ∧ ret = some .boolean))
  | .lreturn => len == 1 && decide (ret = some .long)
  | _ => len == 1
def am_chk (o : Nat) (ini : Bool) (maxL : Nat) (ret : Option FieldType) (RF RL : Nat) (sts : List Nat) (code : ByteArray) : Nat → List am_I → Bool
  | _, [] => true
  | pc, (i, ops, v) :: is => if i = .nop then (match sts[ops.headD 0]? with
      | some t => decide (t = pc)
      | none => false)
    else match decode code pc with
    | .ok (j, len) => decide (j = i) && am_side o ini maxL ret RF RL sts pc len i ops v && am_chk o ini maxL ret RF RL sts code (pc + len) is
    | .error _ => false
def am_chkM (o : Nat) (m : am_M) : Bool := match m with
  | (y, bytes, maxL, ret, (RF, RL), _, _, sts, bs) => decide (sts[0]? = some 0) && decide (sts.length = bs.length) && (sts.zip bs).all (fun q => am_chk o (y.name == "<init>") maxL ret RF RL sts bytes q.1 q.2)
/-- the words of a method, by how it is called -/
def am_kw (y : MethodName) (n : Nat) (k : Nat) : Prop := match k with
  | 0 => Jvm.Cond.static y ∈ lw_gt ∧ (parseMethodDescriptor y.desc).map (fun d => d.parameters.length) = some n
  | 1 => Jvm.Cond.instanceMethod y ∈ lw_gt ∧ Jvm.Cond.selects y.cls y y ∈ lw_gt ∧ (parseMethodDescriptor y.desc).map (fun d => d.parameters.length) = some (n - 1)
  | _ => Jvm.Cond.instanceMethod y ∈ lw_gt ∧ y.name = "<init>" ∧ (parseMethodDescriptor y.desc).map (fun d => d.parameters.length) = some (n - 1)
def am_good (j : Nat) (m : am_M) : Prop := match m with
  | (y, bytes, maxL, ret, (RF, RL), n, k, sts, bs) => ∃ o, o < 14 ∧ am_OW[j]? = some o ∧ y.cls = am_cn o ∧ am_chkM o (y, bytes, maxL, ret, (RF, RL), n, k, sts, bs) = true ∧ am_RM[j]? = some (RF, RL, maxL, n, k) ∧ plainName y.cls = true ∧ Jvm.Cond.code y bytes maxL ret ∈ lw_gt ∧ Jvm.Cond.initialized y.cls ∈ lw_gt ∧ am_kw y n k
end
section
set_option maxRecDepth 100000 in
theorem am_g1 : am_good 1 am_m1 := ⟨9, by decide, rfl, rfl, by decide +kernel, rfl, by decide +kernel, am_gm (List.mem_of_getElem? (i := 116) rfl) rfl, am_gm (List.mem_of_getElem? (i := 98) rfl) rfl, ⟨am_gm (List.mem_of_getElem? (i := 115) rfl) rfl, rfl, by decide +kernel⟩⟩
set_option maxRecDepth 100000 in
theorem am_g2 : am_good 2 am_m2 := ⟨8, by decide, rfl, rfl, by decide +kernel, rfl, by decide +kernel, am_gm (List.mem_of_getElem? (i := 126) rfl) rfl, am_gm (List.mem_of_getElem? (i := 99) rfl) rfl, ⟨am_gm (List.mem_of_getElem? (i := 125) rfl) rfl, rfl, by decide +kernel⟩⟩
set_option maxRecDepth 100000 in
theorem am_g3 : am_good 3 am_m3 := ⟨8, by decide, rfl, rfl, by decide +kernel, rfl, by decide +kernel, am_gm (List.mem_of_getElem? (i := 131) rfl) rfl, am_gm (List.mem_of_getElem? (i := 99) rfl) rfl, ⟨am_gm (List.mem_of_getElem? (i := 129) rfl) rfl, am_gm (List.mem_of_getElem? (i := 130) rfl) rfl, by decide +kernel⟩⟩
set_option maxRecDepth 100000 in
theorem am_g4 : am_good 4 am_m4 := ⟨12, by decide, rfl, rfl, by decide +kernel, rfl, by decide +kernel, am_gm (List.mem_of_getElem? (i := 134) rfl) rfl, am_gm (List.mem_of_getElem? (i := 100) rfl) rfl, ⟨am_gm (List.mem_of_getElem? (i := 133) rfl) rfl, by decide +kernel⟩⟩
set_option maxRecDepth 100000 in
theorem am_g5 : am_good 5 am_m5 := ⟨3, by decide, rfl, rfl, by decide +kernel, rfl, by decide +kernel, am_gm (List.mem_of_getElem? (i := 185) rfl) rfl, am_gm (List.mem_of_getElem? (i := 101) rfl) rfl, ⟨am_gm (List.mem_of_getElem? (i := 184) rfl) rfl, rfl, by decide +kernel⟩⟩
set_option maxRecDepth 100000 in
theorem am_g6 : am_good 6 am_m6 := ⟨6, by decide, rfl, rfl, by decide +kernel, rfl, by decide +kernel, am_gm (List.mem_of_getElem? (i := 191) rfl) rfl, am_gm (List.mem_of_getElem? (i := 102) rfl) rfl, ⟨am_gm (List.mem_of_getElem? (i := 190) rfl) rfl, rfl, by decide +kernel⟩⟩
set_option maxRecDepth 100000 in
theorem am_g7 : am_good 7 am_m7 := ⟨0, by decide, rfl, rfl, by decide +kernel, rfl, by decide +kernel, am_gm (List.mem_of_getElem? (i := 221) rfl) rfl, am_gm (List.mem_of_getElem? (i := 103) rfl) rfl, ⟨am_gm (List.mem_of_getElem? (i := 220) rfl) rfl, rfl, by decide +kernel⟩⟩
set_option maxRecDepth 100000 in
theorem am_g8 : am_good 8 am_m8 := ⟨0, by decide, rfl, rfl, by decide +kernel, rfl, by decide +kernel, am_gm (List.mem_of_getElem? (i := 226) rfl) rfl, am_gm (List.mem_of_getElem? (i := 103) rfl) rfl, ⟨am_gm (List.mem_of_getElem? (i := 224) rfl) rfl, am_gm (List.mem_of_getElem? (i := 225) rfl) rfl, by decide +kernel⟩⟩
set_option maxRecDepth 100000 in
theorem am_g9 : am_good 9 am_m9 := ⟨0, by decide, rfl, rfl, by decide +kernel, rfl, by decide +kernel, am_gm (List.mem_of_getElem? (i := 230) rfl) rfl, am_gm (List.mem_of_getElem? (i := 103) rfl) rfl, ⟨am_gm (List.mem_of_getElem? (i := 229) rfl) rfl, am_gm (List.mem_of_getElem? (i := 0) rfl) rfl, by decide +kernel⟩⟩
set_option maxRecDepth 100000 in
theorem am_g10 : am_good 10 am_m10 := ⟨12, by decide, rfl, rfl, by decide +kernel, rfl, by decide +kernel, am_gm (List.mem_of_getElem? (i := 233) rfl) rfl, am_gm (List.mem_of_getElem? (i := 100) rfl) rfl, ⟨am_gm (List.mem_of_getElem? (i := 232) rfl) rfl, by decide +kernel⟩⟩
set_option maxRecDepth 100000 in
theorem am_g11 : am_good 11 am_m11 := ⟨12, by decide, rfl, rfl, by decide +kernel, rfl, by decide +kernel, am_gm (List.mem_of_getElem? (i := 236) rfl) rfl, am_gm (List.mem_of_getElem? (i := 100) rfl) rfl, ⟨am_gm (List.mem_of_getElem? (i := 235) rfl) rfl, by decide +kernel⟩⟩
set_option maxRecDepth 100000 in
theorem am_g12 : am_good 12 am_m12 := ⟨0, by decide, rfl, rfl, by decide +kernel, rfl, by decide +kernel, am_gm (List.mem_of_getElem? (i := 240) rfl) rfl, am_gm (List.mem_of_getElem? (i := 103) rfl) rfl, ⟨am_gm (List.mem_of_getElem? (i := 239) rfl) rfl, am_gm (List.mem_of_getElem? (i := 1) rfl) rfl, by decide +kernel⟩⟩
set_option maxRecDepth 100000 in
theorem am_g13 : am_good 13 am_m13 := ⟨0, by decide, rfl, rfl, by decide +kernel, rfl, by decide +kernel, am_gm (List.mem_of_getElem? (i := 249) rfl) rfl, am_gm (List.mem_of_getElem? (i := 103) rfl) rfl, ⟨am_gm (List.mem_of_getElem? (i := 247) rfl) rfl, am_gm (List.mem_of_getElem? (i := 248) rfl) rfl, by decide +kernel⟩⟩
set_option maxRecDepth 100000 in
theorem am_g14 : am_good 14 am_m14 := ⟨0, by decide, rfl, rfl, by decide +kernel, rfl, by decide +kernel, am_gm (List.mem_of_getElem? (i := 253) rfl) rfl, am_gm (List.mem_of_getElem? (i := 103) rfl) rfl, ⟨am_gm (List.mem_of_getElem? (i := 252) rfl) rfl, am_gm (List.mem_of_getElem? (i := 2) rfl) rfl, by decide +kernel⟩⟩
set_option maxRecDepth 100000 in
theorem am_g15 : am_good 15 am_m15 := ⟨0, by decide, rfl, rfl, by decide +kernel, rfl, by decide +kernel, am_gm (List.mem_of_getElem? (i := 257) rfl) rfl, am_gm (List.mem_of_getElem? (i := 103) rfl) rfl, ⟨am_gm (List.mem_of_getElem? (i := 256) rfl) rfl, am_gm (List.mem_of_getElem? (i := 3) rfl) rfl, by decide +kernel⟩⟩
set_option maxRecDepth 100000 in
theorem am_g16 : am_good 16 am_m16 := ⟨1, by decide, rfl, rfl, by decide +kernel, rfl, by decide +kernel, am_gm (List.mem_of_getElem? (i := 308) rfl) rfl, am_gm (List.mem_of_getElem? (i := 105) rfl) rfl, ⟨am_gm (List.mem_of_getElem? (i := 307) rfl) rfl, rfl, by decide +kernel⟩⟩
set_option maxRecDepth 100000 in
theorem am_g17 : am_good 17 am_m17 := ⟨2, by decide, rfl, rfl, by decide +kernel, rfl, by decide +kernel, am_gm (List.mem_of_getElem? (i := 336) rfl) rfl, am_gm (List.mem_of_getElem? (i := 106) rfl) rfl, ⟨am_gm (List.mem_of_getElem? (i := 335) rfl) rfl, rfl, by decide +kernel⟩⟩
set_option maxRecDepth 100000 in
theorem am_g18 : am_good 18 am_m18 := ⟨4, by decide, rfl, rfl, by decide +kernel, rfl, by decide +kernel, am_gm (List.mem_of_getElem? (i := 352) rfl) rfl, am_gm (List.mem_of_getElem? (i := 107) rfl) rfl, ⟨am_gm (List.mem_of_getElem? (i := 351) rfl) rfl, rfl, by decide +kernel⟩⟩
set_option maxRecDepth 100000 in
theorem am_g19 : am_good 19 am_m19 := ⟨7, by decide, rfl, rfl, by decide +kernel, rfl, by decide +kernel, am_gm (List.mem_of_getElem? (i := 376) rfl) rfl, am_gm (List.mem_of_getElem? (i := 108) rfl) rfl, ⟨am_gm (List.mem_of_getElem? (i := 375) rfl) rfl, rfl, by decide +kernel⟩⟩
set_option maxRecDepth 100000 in
theorem am_g20 : am_good 20 am_m20 := ⟨5, by decide, rfl, rfl, by decide +kernel, rfl, by decide +kernel, am_gm (List.mem_of_getElem? (i := 441) rfl) rfl, am_gm (List.mem_of_getElem? (i := 109) rfl) rfl, ⟨am_gm (List.mem_of_getElem? (i := 440) rfl) rfl, rfl, by decide +kernel⟩⟩
set_option maxRecDepth 100000 in
theorem am_g21 : am_good 21 am_m21 := ⟨9, by decide, rfl, rfl, by decide +kernel, rfl, by decide +kernel, am_gm (List.mem_of_getElem? (i := 532) rfl) rfl, am_gm (List.mem_of_getElem? (i := 98) rfl) rfl, ⟨am_gm (List.mem_of_getElem? (i := 530) rfl) rfl, am_gm (List.mem_of_getElem? (i := 531) rfl) rfl, by decide +kernel⟩⟩
set_option maxRecDepth 100000 in
theorem am_g22 : am_good 22 am_m22 := ⟨9, by decide, rfl, rfl, by decide +kernel, rfl, by decide +kernel, am_gm (List.mem_of_getElem? (i := 535) rfl) rfl, am_gm (List.mem_of_getElem? (i := 98) rfl) rfl, ⟨am_gm (List.mem_of_getElem? (i := 534) rfl) rfl, by decide +kernel⟩⟩
set_option maxRecDepth 100000 in
theorem am_g23 : am_good 23 am_m23 := ⟨9, by decide, rfl, rfl, by decide +kernel, rfl, by decide +kernel, am_gm (List.mem_of_getElem? (i := 538) rfl) rfl, am_gm (List.mem_of_getElem? (i := 98) rfl) rfl, ⟨am_gm (List.mem_of_getElem? (i := 537) rfl) rfl, by decide +kernel⟩⟩
set_option maxRecDepth 100000 in
theorem am_g24 : am_good 24 am_m24 := ⟨9, by decide, rfl, rfl, by decide +kernel, rfl, by decide +kernel, am_gm (List.mem_of_getElem? (i := 542) rfl) rfl, am_gm (List.mem_of_getElem? (i := 98) rfl) rfl, ⟨am_gm (List.mem_of_getElem? (i := 541) rfl) rfl, am_gm (List.mem_of_getElem? (i := 4) rfl) rfl, by decide +kernel⟩⟩
set_option maxRecDepth 100000 in
theorem am_g25 : am_good 25 am_m25 := ⟨6, by decide, rfl, rfl, by decide +kernel, rfl, by decide +kernel, am_gm (List.mem_of_getElem? (i := 546) rfl) rfl, am_gm (List.mem_of_getElem? (i := 102) rfl) rfl, ⟨am_gm (List.mem_of_getElem? (i := 544) rfl) rfl, am_gm (List.mem_of_getElem? (i := 545) rfl) rfl, by decide +kernel⟩⟩
set_option maxRecDepth 100000 in
theorem am_g26 : am_good 26 am_m26 := ⟨9, by decide, rfl, rfl, by decide +kernel, rfl, by decide +kernel, am_gm (List.mem_of_getElem? (i := 551) rfl) rfl, am_gm (List.mem_of_getElem? (i := 98) rfl) rfl, ⟨am_gm (List.mem_of_getElem? (i := 549) rfl) rfl, am_gm (List.mem_of_getElem? (i := 550) rfl) rfl, by decide +kernel⟩⟩
set_option maxRecDepth 100000 in
theorem am_g27 : am_good 27 am_m27 := ⟨6, by decide, rfl, rfl, by decide +kernel, rfl, by decide +kernel, am_gm (List.mem_of_getElem? (i := 555) rfl) rfl, am_gm (List.mem_of_getElem? (i := 102) rfl) rfl, ⟨am_gm (List.mem_of_getElem? (i := 553) rfl) rfl, am_gm (List.mem_of_getElem? (i := 554) rfl) rfl, by decide +kernel⟩⟩
set_option maxRecDepth 100000 in
theorem am_g28 : am_good 28 am_m28 := ⟨6, by decide, rfl, rfl, by decide +kernel, rfl, by decide +kernel, am_gm (List.mem_of_getElem? (i := 559) rfl) rfl, am_gm (List.mem_of_getElem? (i := 102) rfl) rfl, ⟨am_gm (List.mem_of_getElem? (i := 557) rfl) rfl, am_gm (List.mem_of_getElem? (i := 558) rfl) rfl, by decide +kernel⟩⟩
set_option maxRecDepth 100000 in
theorem am_g29 : am_good 29 am_m29 := ⟨6, by decide, rfl, rfl, by decide +kernel, rfl, by decide +kernel, am_gm (List.mem_of_getElem? (i := 563) rfl) rfl, am_gm (List.mem_of_getElem? (i := 102) rfl) rfl, ⟨am_gm (List.mem_of_getElem? (i := 561) rfl) rfl, am_gm (List.mem_of_getElem? (i := 562) rfl) rfl, by decide +kernel⟩⟩
set_option maxRecDepth 100000 in
theorem am_g30 : am_good 30 am_m30 := ⟨9, by decide, rfl, rfl, by decide +kernel, rfl, by decide +kernel, am_gm (List.mem_of_getElem? (i := 567) rfl) rfl, am_gm (List.mem_of_getElem? (i := 98) rfl) rfl, ⟨am_gm (List.mem_of_getElem? (i := 566) rfl) rfl, am_gm (List.mem_of_getElem? (i := 5) rfl) rfl, by decide +kernel⟩⟩
set_option maxRecDepth 100000 in
theorem am_g31 : am_good 31 am_m31 := ⟨9, by decide, rfl, rfl, by decide +kernel, rfl, by decide +kernel, am_gm (List.mem_of_getElem? (i := 571) rfl) rfl, am_gm (List.mem_of_getElem? (i := 98) rfl) rfl, ⟨am_gm (List.mem_of_getElem? (i := 569) rfl) rfl, am_gm (List.mem_of_getElem? (i := 570) rfl) rfl, by decide +kernel⟩⟩
set_option maxRecDepth 100000 in
theorem am_g32 : am_good 32 am_m32 := ⟨9, by decide, rfl, rfl, by decide +kernel, rfl, by decide +kernel, am_gm (List.mem_of_getElem? (i := 575) rfl) rfl, am_gm (List.mem_of_getElem? (i := 98) rfl) rfl, ⟨am_gm (List.mem_of_getElem? (i := 573) rfl) rfl, am_gm (List.mem_of_getElem? (i := 574) rfl) rfl, by decide +kernel⟩⟩
set_option maxRecDepth 100000 in
theorem am_g33 : am_good 33 am_m33 := ⟨9, by decide, rfl, rfl, by decide +kernel, rfl, by decide +kernel, am_gm (List.mem_of_getElem? (i := 579) rfl) rfl, am_gm (List.mem_of_getElem? (i := 98) rfl) rfl, ⟨am_gm (List.mem_of_getElem? (i := 577) rfl) rfl, am_gm (List.mem_of_getElem? (i := 578) rfl) rfl, by decide +kernel⟩⟩
set_option maxRecDepth 100000 in
theorem am_g34 : am_good 34 am_m34 := ⟨6, by decide, rfl, rfl, by decide +kernel, rfl, by decide +kernel, am_gm (List.mem_of_getElem? (i := 583) rfl) rfl, am_gm (List.mem_of_getElem? (i := 102) rfl) rfl, ⟨am_gm (List.mem_of_getElem? (i := 581) rfl) rfl, am_gm (List.mem_of_getElem? (i := 582) rfl) rfl, by decide +kernel⟩⟩
set_option maxRecDepth 100000 in
theorem am_g35 : am_good 35 am_m35 := ⟨9, by decide, rfl, rfl, by decide +kernel, rfl, by decide +kernel, am_gm (List.mem_of_getElem? (i := 588) rfl) rfl, am_gm (List.mem_of_getElem? (i := 98) rfl) rfl, ⟨am_gm (List.mem_of_getElem? (i := 586) rfl) rfl, am_gm (List.mem_of_getElem? (i := 587) rfl) rfl, by decide +kernel⟩⟩
set_option maxRecDepth 100000 in
theorem am_g36 : am_good 36 am_m36 := ⟨6, by decide, rfl, rfl, by decide +kernel, rfl, by decide +kernel, am_gm (List.mem_of_getElem? (i := 592) rfl) rfl, am_gm (List.mem_of_getElem? (i := 102) rfl) rfl, ⟨am_gm (List.mem_of_getElem? (i := 590) rfl) rfl, am_gm (List.mem_of_getElem? (i := 591) rfl) rfl, by decide +kernel⟩⟩
set_option maxRecDepth 100000 in
theorem am_g37 : am_good 37 am_m37 := ⟨9, by decide, rfl, rfl, by decide +kernel, rfl, by decide +kernel, am_gm (List.mem_of_getElem? (i := 596) rfl) rfl, am_gm (List.mem_of_getElem? (i := 98) rfl) rfl, ⟨am_gm (List.mem_of_getElem? (i := 594) rfl) rfl, am_gm (List.mem_of_getElem? (i := 595) rfl) rfl, by decide +kernel⟩⟩
set_option maxRecDepth 100000 in
theorem am_g38 : am_good 38 am_m38 := ⟨9, by decide, rfl, rfl, by decide +kernel, rfl, by decide +kernel, am_gm (List.mem_of_getElem? (i := 599) rfl) rfl, am_gm (List.mem_of_getElem? (i := 98) rfl) rfl, ⟨am_gm (List.mem_of_getElem? (i := 598) rfl) rfl, by decide +kernel⟩⟩
set_option maxRecDepth 100000 in
theorem am_g39 : am_good 39 am_m39 := ⟨9, by decide, rfl, rfl, by decide +kernel, rfl, by decide +kernel, am_gm (List.mem_of_getElem? (i := 603) rfl) rfl, am_gm (List.mem_of_getElem? (i := 98) rfl) rfl, ⟨am_gm (List.mem_of_getElem? (i := 601) rfl) rfl, am_gm (List.mem_of_getElem? (i := 602) rfl) rfl, by decide +kernel⟩⟩
set_option maxRecDepth 100000 in
theorem am_g40 : am_good 40 am_m40 := ⟨9, by decide, rfl, rfl, by decide +kernel, rfl, by decide +kernel, am_gm (List.mem_of_getElem? (i := 607) rfl) rfl, am_gm (List.mem_of_getElem? (i := 98) rfl) rfl, ⟨am_gm (List.mem_of_getElem? (i := 605) rfl) rfl, am_gm (List.mem_of_getElem? (i := 606) rfl) rfl, by decide +kernel⟩⟩
set_option maxRecDepth 100000 in
theorem am_g41 : am_good 41 am_m41 := ⟨3, by decide, rfl, rfl, by decide +kernel, rfl, by decide +kernel, am_gm (List.mem_of_getElem? (i := 611) rfl) rfl, am_gm (List.mem_of_getElem? (i := 101) rfl) rfl, ⟨am_gm (List.mem_of_getElem? (i := 609) rfl) rfl, am_gm (List.mem_of_getElem? (i := 610) rfl) rfl, by decide +kernel⟩⟩
set_option maxRecDepth 100000 in
theorem am_g42 : am_good 42 am_m42 := ⟨3, by decide, rfl, rfl, by decide +kernel, rfl, by decide +kernel, am_gm (List.mem_of_getElem? (i := 616) rfl) rfl, am_gm (List.mem_of_getElem? (i := 101) rfl) rfl, ⟨am_gm (List.mem_of_getElem? (i := 615) rfl) rfl, am_gm (List.mem_of_getElem? (i := 6) rfl) rfl, by decide +kernel⟩⟩
set_option maxRecDepth 100000 in
theorem am_g43 : am_good 43 am_m43 := ⟨3, by decide, rfl, rfl, by decide +kernel, rfl, by decide +kernel, am_gm (List.mem_of_getElem? (i := 620) rfl) rfl, am_gm (List.mem_of_getElem? (i := 101) rfl) rfl, ⟨am_gm (List.mem_of_getElem? (i := 619) rfl) rfl, am_gm (List.mem_of_getElem? (i := 7) rfl) rfl, by decide +kernel⟩⟩
set_option maxRecDepth 100000 in
theorem am_g44 : am_good 44 am_m44 := ⟨3, by decide, rfl, rfl, by decide +kernel, rfl, by decide +kernel, am_gm (List.mem_of_getElem? (i := 625) rfl) rfl, am_gm (List.mem_of_getElem? (i := 101) rfl) rfl, ⟨am_gm (List.mem_of_getElem? (i := 624) rfl) rfl, am_gm (List.mem_of_getElem? (i := 8) rfl) rfl, by decide +kernel⟩⟩
set_option maxRecDepth 100000 in
theorem am_g45 : am_good 45 am_m45 := ⟨3, by decide, rfl, rfl, by decide +kernel, rfl, by decide +kernel, am_gm (List.mem_of_getElem? (i := 629) rfl) rfl, am_gm (List.mem_of_getElem? (i := 101) rfl) rfl, ⟨am_gm (List.mem_of_getElem? (i := 628) rfl) rfl, am_gm (List.mem_of_getElem? (i := 9) rfl) rfl, by decide +kernel⟩⟩
set_option maxRecDepth 100000 in
theorem am_g46 : am_good 46 am_m46 := ⟨3, by decide, rfl, rfl, by decide +kernel, rfl, by decide +kernel, am_gm (List.mem_of_getElem? (i := 633) rfl) rfl, am_gm (List.mem_of_getElem? (i := 101) rfl) rfl, ⟨am_gm (List.mem_of_getElem? (i := 632) rfl) rfl, am_gm (List.mem_of_getElem? (i := 10) rfl) rfl, by decide +kernel⟩⟩
set_option maxRecDepth 100000 in
theorem am_g47 : am_good 47 am_m47 := ⟨3, by decide, rfl, rfl, by decide +kernel, rfl, by decide +kernel, am_gm (List.mem_of_getElem? (i := 637) rfl) rfl, am_gm (List.mem_of_getElem? (i := 101) rfl) rfl, ⟨am_gm (List.mem_of_getElem? (i := 636) rfl) rfl, am_gm (List.mem_of_getElem? (i := 11) rfl) rfl, by decide +kernel⟩⟩
set_option maxRecDepth 100000 in
theorem am_g48 : am_good 48 am_m48 := ⟨3, by decide, rfl, rfl, by decide +kernel, rfl, by decide +kernel, am_gm (List.mem_of_getElem? (i := 641) rfl) rfl, am_gm (List.mem_of_getElem? (i := 101) rfl) rfl, ⟨am_gm (List.mem_of_getElem? (i := 640) rfl) rfl, am_gm (List.mem_of_getElem? (i := 12) rfl) rfl, by decide +kernel⟩⟩
set_option maxRecDepth 100000 in
theorem am_g49 : am_good 49 am_m49 := ⟨3, by decide, rfl, rfl, by decide +kernel, rfl, by decide +kernel, am_gm (List.mem_of_getElem? (i := 645) rfl) rfl, am_gm (List.mem_of_getElem? (i := 101) rfl) rfl, ⟨am_gm (List.mem_of_getElem? (i := 644) rfl) rfl, am_gm (List.mem_of_getElem? (i := 13) rfl) rfl, by decide +kernel⟩⟩
set_option maxRecDepth 100000 in
theorem am_g50 : am_good 50 am_m50 := ⟨8, by decide, rfl, rfl, by decide +kernel, rfl, by decide +kernel, am_gm (List.mem_of_getElem? (i := 649) rfl) rfl, am_gm (List.mem_of_getElem? (i := 99) rfl) rfl, ⟨am_gm (List.mem_of_getElem? (i := 647) rfl) rfl, am_gm (List.mem_of_getElem? (i := 648) rfl) rfl, by decide +kernel⟩⟩
set_option maxRecDepth 100000 in
theorem am_g51 : am_good 51 am_m51 := ⟨9, by decide, rfl, rfl, by decide +kernel, rfl, by decide +kernel, am_gm (List.mem_of_getElem? (i := 653) rfl) rfl, am_gm (List.mem_of_getElem? (i := 98) rfl) rfl, ⟨am_gm (List.mem_of_getElem? (i := 651) rfl) rfl, am_gm (List.mem_of_getElem? (i := 652) rfl) rfl, by decide +kernel⟩⟩
set_option maxRecDepth 100000 in
theorem am_g52 : am_good 52 am_m52 := ⟨8, by decide, rfl, rfl, by decide +kernel, rfl, by decide +kernel, am_gm (List.mem_of_getElem? (i := 657) rfl) rfl, am_gm (List.mem_of_getElem? (i := 99) rfl) rfl, ⟨am_gm (List.mem_of_getElem? (i := 655) rfl) rfl, am_gm (List.mem_of_getElem? (i := 656) rfl) rfl, by decide +kernel⟩⟩
set_option maxRecDepth 100000 in
theorem am_g53 : am_good 53 am_m53 := ⟨4, by decide, rfl, rfl, by decide +kernel, rfl, by decide +kernel, am_gm (List.mem_of_getElem? (i := 663) rfl) rfl, am_gm (List.mem_of_getElem? (i := 107) rfl) rfl, ⟨am_gm (List.mem_of_getElem? (i := 661) rfl) rfl, am_gm (List.mem_of_getElem? (i := 662) rfl) rfl, by decide +kernel⟩⟩
set_option maxRecDepth 100000 in
theorem am_g54 : am_good 54 am_m54 := ⟨7, by decide, rfl, rfl, by decide +kernel, rfl, by decide +kernel, am_gm (List.mem_of_getElem? (i := 667) rfl) rfl, am_gm (List.mem_of_getElem? (i := 108) rfl) rfl, ⟨am_gm (List.mem_of_getElem? (i := 665) rfl) rfl, am_gm (List.mem_of_getElem? (i := 666) rfl) rfl, by decide +kernel⟩⟩
set_option maxRecDepth 100000 in
theorem am_g55 : am_good 55 am_m55 := ⟨9, by decide, rfl, rfl, by decide +kernel, rfl, by decide +kernel, am_gm (List.mem_of_getElem? (i := 671) rfl) rfl, am_gm (List.mem_of_getElem? (i := 98) rfl) rfl, ⟨am_gm (List.mem_of_getElem? (i := 669) rfl) rfl, am_gm (List.mem_of_getElem? (i := 670) rfl) rfl, by decide +kernel⟩⟩
set_option maxRecDepth 100000 in
theorem am_g56 : am_good 56 am_m56 := ⟨9, by decide, rfl, rfl, by decide +kernel, rfl, by decide +kernel, am_gm (List.mem_of_getElem? (i := 675) rfl) rfl, am_gm (List.mem_of_getElem? (i := 98) rfl) rfl, ⟨am_gm (List.mem_of_getElem? (i := 674) rfl) rfl, am_gm (List.mem_of_getElem? (i := 14) rfl) rfl, by decide +kernel⟩⟩
set_option maxRecDepth 100000 in
theorem am_g57 : am_good 57 am_m57 := ⟨9, by decide, rfl, rfl, by decide +kernel, rfl, by decide +kernel, am_gm (List.mem_of_getElem? (i := 678) rfl) rfl, am_gm (List.mem_of_getElem? (i := 98) rfl) rfl, ⟨am_gm (List.mem_of_getElem? (i := 677) rfl) rfl, by decide +kernel⟩⟩
set_option maxRecDepth 100000 in
theorem am_g58 : am_good 58 am_m58 := ⟨9, by decide, rfl, rfl, by decide +kernel, rfl, by decide +kernel, am_gm (List.mem_of_getElem? (i := 682) rfl) rfl, am_gm (List.mem_of_getElem? (i := 98) rfl) rfl, ⟨am_gm (List.mem_of_getElem? (i := 680) rfl) rfl, am_gm (List.mem_of_getElem? (i := 681) rfl) rfl, by decide +kernel⟩⟩
set_option maxRecDepth 100000 in
theorem am_g59 : am_good 59 am_m59 := ⟨9, by decide, rfl, rfl, by decide +kernel, rfl, by decide +kernel, am_gm (List.mem_of_getElem? (i := 686) rfl) rfl, am_gm (List.mem_of_getElem? (i := 98) rfl) rfl, ⟨am_gm (List.mem_of_getElem? (i := 684) rfl) rfl, am_gm (List.mem_of_getElem? (i := 685) rfl) rfl, by decide +kernel⟩⟩
set_option maxRecDepth 100000 in
theorem am_g60 : am_good 60 am_m60 := ⟨9, by decide, rfl, rfl, by decide +kernel, rfl, by decide +kernel, am_gm (List.mem_of_getElem? (i := 690) rfl) rfl, am_gm (List.mem_of_getElem? (i := 98) rfl) rfl, ⟨am_gm (List.mem_of_getElem? (i := 688) rfl) rfl, am_gm (List.mem_of_getElem? (i := 689) rfl) rfl, by decide +kernel⟩⟩
set_option maxRecDepth 100000 in
theorem am_g61 : am_good 61 am_m61 := ⟨9, by decide, rfl, rfl, by decide +kernel, rfl, by decide +kernel, am_gm (List.mem_of_getElem? (i := 694) rfl) rfl, am_gm (List.mem_of_getElem? (i := 98) rfl) rfl, ⟨am_gm (List.mem_of_getElem? (i := 692) rfl) rfl, am_gm (List.mem_of_getElem? (i := 693) rfl) rfl, by decide +kernel⟩⟩
set_option maxRecDepth 100000 in
theorem am_g62 : am_good 62 am_m62 := ⟨9, by decide, rfl, rfl, by decide +kernel, rfl, by decide +kernel, am_gm (List.mem_of_getElem? (i := 697) rfl) rfl, am_gm (List.mem_of_getElem? (i := 98) rfl) rfl, ⟨am_gm (List.mem_of_getElem? (i := 696) rfl) rfl, by decide +kernel⟩⟩
set_option maxRecDepth 100000 in
theorem am_g63 : am_good 63 am_m63 := ⟨6, by decide, rfl, rfl, by decide +kernel, rfl, by decide +kernel, am_gm (List.mem_of_getElem? (i := 701) rfl) rfl, am_gm (List.mem_of_getElem? (i := 102) rfl) rfl, ⟨am_gm (List.mem_of_getElem? (i := 699) rfl) rfl, am_gm (List.mem_of_getElem? (i := 700) rfl) rfl, by decide +kernel⟩⟩
set_option maxRecDepth 100000 in
theorem am_g64 : am_good 64 am_m64 := ⟨1, by decide, rfl, rfl, by decide +kernel, rfl, by decide +kernel, am_gm (List.mem_of_getElem? (i := 705) rfl) rfl, am_gm (List.mem_of_getElem? (i := 105) rfl) rfl, ⟨am_gm (List.mem_of_getElem? (i := 703) rfl) rfl, am_gm (List.mem_of_getElem? (i := 704) rfl) rfl, by decide +kernel⟩⟩
set_option maxRecDepth 100000 in
theorem am_g65 : am_good 65 am_m65 := ⟨9, by decide, rfl, rfl, by decide +kernel, rfl, by decide +kernel, am_gm (List.mem_of_getElem? (i := 710) rfl) rfl, am_gm (List.mem_of_getElem? (i := 98) rfl) rfl, ⟨am_gm (List.mem_of_getElem? (i := 708) rfl) rfl, am_gm (List.mem_of_getElem? (i := 709) rfl) rfl, by decide +kernel⟩⟩
set_option maxRecDepth 100000 in
theorem am_g66 : am_good 66 am_m66 := ⟨9, by decide, rfl, rfl, by decide +kernel, rfl, by decide +kernel, am_gm (List.mem_of_getElem? (i := 714) rfl) rfl, am_gm (List.mem_of_getElem? (i := 98) rfl) rfl, ⟨am_gm (List.mem_of_getElem? (i := 713) rfl) rfl, am_gm (List.mem_of_getElem? (i := 15) rfl) rfl, by decide +kernel⟩⟩
set_option maxRecDepth 100000 in
theorem am_g67 : am_good 67 am_m67 := ⟨9, by decide, rfl, rfl, by decide +kernel, rfl, by decide +kernel, am_gm (List.mem_of_getElem? (i := 718) rfl) rfl, am_gm (List.mem_of_getElem? (i := 98) rfl) rfl, ⟨am_gm (List.mem_of_getElem? (i := 716) rfl) rfl, am_gm (List.mem_of_getElem? (i := 717) rfl) rfl, by decide +kernel⟩⟩
set_option maxRecDepth 100000 in
theorem am_g68 : am_good 68 am_m68 := ⟨1, by decide, rfl, rfl, by decide +kernel, rfl, by decide +kernel, am_gm (List.mem_of_getElem? (i := 722) rfl) rfl, am_gm (List.mem_of_getElem? (i := 105) rfl) rfl, ⟨am_gm (List.mem_of_getElem? (i := 720) rfl) rfl, am_gm (List.mem_of_getElem? (i := 721) rfl) rfl, by decide +kernel⟩⟩
set_option maxRecDepth 100000 in
theorem am_g69 : am_good 69 am_m69 := ⟨9, by decide, rfl, rfl, by decide +kernel, rfl, by decide +kernel, am_gm (List.mem_of_getElem? (i := 726) rfl) rfl, am_gm (List.mem_of_getElem? (i := 98) rfl) rfl, ⟨am_gm (List.mem_of_getElem? (i := 724) rfl) rfl, am_gm (List.mem_of_getElem? (i := 725) rfl) rfl, by decide +kernel⟩⟩
set_option maxRecDepth 100000 in
theorem am_g70 : am_good 70 am_m70 := ⟨9, by decide, rfl, rfl, by decide +kernel, rfl, by decide +kernel, am_gm (List.mem_of_getElem? (i := 730) rfl) rfl, am_gm (List.mem_of_getElem? (i := 98) rfl) rfl, ⟨am_gm (List.mem_of_getElem? (i := 728) rfl) rfl, am_gm (List.mem_of_getElem? (i := 729) rfl) rfl, by decide +kernel⟩⟩
set_option maxRecDepth 100000 in
theorem am_g71 : am_good 71 am_m71 := ⟨0, by decide, rfl, rfl, by decide +kernel, rfl, by decide +kernel, am_gm (List.mem_of_getElem? (i := 735) rfl) rfl, am_gm (List.mem_of_getElem? (i := 103) rfl) rfl, ⟨am_gm (List.mem_of_getElem? (i := 733) rfl) rfl, am_gm (List.mem_of_getElem? (i := 734) rfl) rfl, by decide +kernel⟩⟩
set_option maxRecDepth 100000 in
theorem am_g72 : am_good 72 am_m72 := ⟨8, by decide, rfl, rfl, by decide +kernel, rfl, by decide +kernel, am_gm (List.mem_of_getElem? (i := 739) rfl) rfl, am_gm (List.mem_of_getElem? (i := 99) rfl) rfl, ⟨am_gm (List.mem_of_getElem? (i := 737) rfl) rfl, am_gm (List.mem_of_getElem? (i := 738) rfl) rfl, by decide +kernel⟩⟩
set_option maxRecDepth 100000 in
theorem am_g73 : am_good 73 am_m73 := ⟨9, by decide, rfl, rfl, by decide +kernel, rfl, by decide +kernel, am_gm (List.mem_of_getElem? (i := 743) rfl) rfl, am_gm (List.mem_of_getElem? (i := 98) rfl) rfl, ⟨am_gm (List.mem_of_getElem? (i := 741) rfl) rfl, am_gm (List.mem_of_getElem? (i := 742) rfl) rfl, by decide +kernel⟩⟩
set_option maxRecDepth 100000 in
theorem am_g74 : am_good 74 am_m74 := ⟨2, by decide, rfl, rfl, by decide +kernel, rfl, by decide +kernel, am_gm (List.mem_of_getElem? (i := 747) rfl) rfl, am_gm (List.mem_of_getElem? (i := 106) rfl) rfl, ⟨am_gm (List.mem_of_getElem? (i := 745) rfl) rfl, am_gm (List.mem_of_getElem? (i := 746) rfl) rfl, by decide +kernel⟩⟩
set_option maxRecDepth 100000 in
theorem am_g75 : am_good 75 am_m75 := ⟨2, by decide, rfl, rfl, by decide +kernel, rfl, by decide +kernel, am_gm (List.mem_of_getElem? (i := 751) rfl) rfl, am_gm (List.mem_of_getElem? (i := 106) rfl) rfl, ⟨am_gm (List.mem_of_getElem? (i := 750) rfl) rfl, am_gm (List.mem_of_getElem? (i := 16) rfl) rfl, by decide +kernel⟩⟩
set_option maxRecDepth 100000 in
theorem am_g76 : am_good 76 am_m76 := ⟨2, by decide, rfl, rfl, by decide +kernel, rfl, by decide +kernel, am_gm (List.mem_of_getElem? (i := 755) rfl) rfl, am_gm (List.mem_of_getElem? (i := 106) rfl) rfl, ⟨am_gm (List.mem_of_getElem? (i := 754) rfl) rfl, am_gm (List.mem_of_getElem? (i := 17) rfl) rfl, by decide +kernel⟩⟩
set_option maxRecDepth 100000 in
theorem am_g77 : am_good 77 am_m77 := ⟨1, by decide, rfl, rfl, by decide +kernel, rfl, by decide +kernel, am_gm (List.mem_of_getElem? (i := 759) rfl) rfl, am_gm (List.mem_of_getElem? (i := 105) rfl) rfl, ⟨am_gm (List.mem_of_getElem? (i := 757) rfl) rfl, am_gm (List.mem_of_getElem? (i := 758) rfl) rfl, by decide +kernel⟩⟩
set_option maxRecDepth 100000 in
theorem am_g78 : am_good 78 am_m78 := ⟨1, by decide, rfl, rfl, by decide +kernel, rfl, by decide +kernel, am_gm (List.mem_of_getElem? (i := 763) rfl) rfl, am_gm (List.mem_of_getElem? (i := 105) rfl) rfl, ⟨am_gm (List.mem_of_getElem? (i := 761) rfl) rfl, am_gm (List.mem_of_getElem? (i := 762) rfl) rfl, by decide +kernel⟩⟩
set_option maxRecDepth 100000 in
theorem am_g79 : am_good 79 am_m79 := ⟨2, by decide, rfl, rfl, by decide +kernel, rfl, by decide +kernel, am_gm (List.mem_of_getElem? (i := 768) rfl) rfl, am_gm (List.mem_of_getElem? (i := 106) rfl) rfl, ⟨am_gm (List.mem_of_getElem? (i := 767) rfl) rfl, am_gm (List.mem_of_getElem? (i := 18) rfl) rfl, by decide +kernel⟩⟩
set_option maxRecDepth 100000 in
theorem am_g80 : am_good 80 am_m80 := ⟨2, by decide, rfl, rfl, by decide +kernel, rfl, by decide +kernel, am_gm (List.mem_of_getElem? (i := 772) rfl) rfl, am_gm (List.mem_of_getElem? (i := 106) rfl) rfl, ⟨am_gm (List.mem_of_getElem? (i := 771) rfl) rfl, am_gm (List.mem_of_getElem? (i := 19) rfl) rfl, by decide +kernel⟩⟩
set_option maxRecDepth 100000 in
theorem am_g81 : am_good 81 am_m81 := ⟨2, by decide, rfl, rfl, by decide +kernel, rfl, by decide +kernel, am_gm (List.mem_of_getElem? (i := 776) rfl) rfl, am_gm (List.mem_of_getElem? (i := 106) rfl) rfl, ⟨am_gm (List.mem_of_getElem? (i := 774) rfl) rfl, am_gm (List.mem_of_getElem? (i := 775) rfl) rfl, by decide +kernel⟩⟩
set_option maxRecDepth 100000 in
theorem am_g82 : am_good 82 am_m82 := ⟨9, by decide, rfl, rfl, by decide +kernel, rfl, by decide +kernel, am_gm (List.mem_of_getElem? (i := 780) rfl) rfl, am_gm (List.mem_of_getElem? (i := 98) rfl) rfl, ⟨am_gm (List.mem_of_getElem? (i := 778) rfl) rfl, am_gm (List.mem_of_getElem? (i := 779) rfl) rfl, by decide +kernel⟩⟩
set_option maxRecDepth 100000 in
theorem am_g83 : am_good 83 am_m83 := ⟨2, by decide, rfl, rfl, by decide +kernel, rfl, by decide +kernel, am_gm (List.mem_of_getElem? (i := 784) rfl) rfl, am_gm (List.mem_of_getElem? (i := 106) rfl) rfl, ⟨am_gm (List.mem_of_getElem? (i := 782) rfl) rfl, am_gm (List.mem_of_getElem? (i := 783) rfl) rfl, by decide +kernel⟩⟩
set_option maxRecDepth 100000 in
theorem am_g84 : am_good 84 am_m84 := ⟨2, by decide, rfl, rfl, by decide +kernel, rfl, by decide +kernel, am_gm (List.mem_of_getElem? (i := 788) rfl) rfl, am_gm (List.mem_of_getElem? (i := 106) rfl) rfl, ⟨am_gm (List.mem_of_getElem? (i := 786) rfl) rfl, am_gm (List.mem_of_getElem? (i := 787) rfl) rfl, by decide +kernel⟩⟩
set_option maxRecDepth 100000 in
theorem am_g85 : am_good 85 am_m85 := ⟨9, by decide, rfl, rfl, by decide +kernel, rfl, by decide +kernel, am_gm (List.mem_of_getElem? (i := 793) rfl) rfl, am_gm (List.mem_of_getElem? (i := 98) rfl) rfl, ⟨am_gm (List.mem_of_getElem? (i := 791) rfl) rfl, am_gm (List.mem_of_getElem? (i := 792) rfl) rfl, by decide +kernel⟩⟩
set_option maxRecDepth 100000 in
theorem am_g86 : am_good 86 am_m86 := ⟨2, by decide, rfl, rfl, by decide +kernel, rfl, by decide +kernel, am_gm (List.mem_of_getElem? (i := 797) rfl) rfl, am_gm (List.mem_of_getElem? (i := 106) rfl) rfl, ⟨am_gm (List.mem_of_getElem? (i := 795) rfl) rfl, am_gm (List.mem_of_getElem? (i := 796) rfl) rfl, by decide +kernel⟩⟩
set_option maxRecDepth 100000 in
theorem am_g87 : am_good 87 am_m87 := ⟨9, by decide, rfl, rfl, by decide +kernel, rfl, by decide +kernel, am_gm (List.mem_of_getElem? (i := 801) rfl) rfl, am_gm (List.mem_of_getElem? (i := 98) rfl) rfl, ⟨am_gm (List.mem_of_getElem? (i := 799) rfl) rfl, am_gm (List.mem_of_getElem? (i := 800) rfl) rfl, by decide +kernel⟩⟩
set_option maxRecDepth 100000 in
theorem am_g88 : am_good 88 am_m88 := ⟨2, by decide, rfl, rfl, by decide +kernel, rfl, by decide +kernel, am_gm (List.mem_of_getElem? (i := 805) rfl) rfl, am_gm (List.mem_of_getElem? (i := 106) rfl) rfl, ⟨am_gm (List.mem_of_getElem? (i := 803) rfl) rfl, am_gm (List.mem_of_getElem? (i := 804) rfl) rfl, by decide +kernel⟩⟩
set_option maxRecDepth 100000 in
theorem am_g89 : am_good 89 am_m89 := ⟨2, by decide, rfl, rfl, by decide +kernel, rfl, by decide +kernel, am_gm (List.mem_of_getElem? (i := 809) rfl) rfl, am_gm (List.mem_of_getElem? (i := 106) rfl) rfl, ⟨am_gm (List.mem_of_getElem? (i := 808) rfl) rfl, am_gm (List.mem_of_getElem? (i := 20) rfl) rfl, by decide +kernel⟩⟩
set_option maxRecDepth 100000 in
theorem am_g90 : am_good 90 am_m90 := ⟨9, by decide, rfl, rfl, by decide +kernel, rfl, by decide +kernel, am_gm (List.mem_of_getElem? (i := 816) rfl) rfl, am_gm (List.mem_of_getElem? (i := 98) rfl) rfl, ⟨am_gm (List.mem_of_getElem? (i := 814) rfl) rfl, am_gm (List.mem_of_getElem? (i := 815) rfl) rfl, by decide +kernel⟩⟩
set_option maxRecDepth 100000 in
theorem am_g91 : am_good 91 am_m91 := ⟨2, by decide, rfl, rfl, by decide +kernel, rfl, by decide +kernel, am_gm (List.mem_of_getElem? (i := 820) rfl) rfl, am_gm (List.mem_of_getElem? (i := 106) rfl) rfl, ⟨am_gm (List.mem_of_getElem? (i := 818) rfl) rfl, am_gm (List.mem_of_getElem? (i := 819) rfl) rfl, by decide +kernel⟩⟩
set_option maxRecDepth 100000 in
theorem am_g92 : am_good 92 am_m92 := ⟨9, by decide, rfl, rfl, by decide +kernel, rfl, by decide +kernel, am_gm (List.mem_of_getElem? (i := 826) rfl) rfl, am_gm (List.mem_of_getElem? (i := 98) rfl) rfl, ⟨am_gm (List.mem_of_getElem? (i := 824) rfl) rfl, am_gm (List.mem_of_getElem? (i := 825) rfl) rfl, by decide +kernel⟩⟩
set_option maxRecDepth 100000 in
theorem am_g93 : am_good 93 am_m93 := ⟨4, by decide, rfl, rfl, by decide +kernel, rfl, by decide +kernel, am_gm (List.mem_of_getElem? (i := 830) rfl) rfl, am_gm (List.mem_of_getElem? (i := 107) rfl) rfl, ⟨am_gm (List.mem_of_getElem? (i := 828) rfl) rfl, am_gm (List.mem_of_getElem? (i := 829) rfl) rfl, by decide +kernel⟩⟩
set_option maxRecDepth 100000 in
theorem am_g94 : am_good 94 am_m94 := ⟨4, by decide, rfl, rfl, by decide +kernel, rfl, by decide +kernel, am_gm (List.mem_of_getElem? (i := 836) rfl) rfl, am_gm (List.mem_of_getElem? (i := 107) rfl) rfl, ⟨am_gm (List.mem_of_getElem? (i := 834) rfl) rfl, am_gm (List.mem_of_getElem? (i := 835) rfl) rfl, by decide +kernel⟩⟩
set_option maxRecDepth 100000 in
theorem am_g95 : am_good 95 am_m95 := ⟨4, by decide, rfl, rfl, by decide +kernel, rfl, by decide +kernel, am_gm (List.mem_of_getElem? (i := 840) rfl) rfl, am_gm (List.mem_of_getElem? (i := 107) rfl) rfl, ⟨am_gm (List.mem_of_getElem? (i := 839) rfl) rfl, am_gm (List.mem_of_getElem? (i := 21) rfl) rfl, by decide +kernel⟩⟩
set_option maxRecDepth 100000 in
theorem am_g96 : am_good 96 am_m96 := ⟨4, by decide, rfl, rfl, by decide +kernel, rfl, by decide +kernel, am_gm (List.mem_of_getElem? (i := 844) rfl) rfl, am_gm (List.mem_of_getElem? (i := 107) rfl) rfl, ⟨am_gm (List.mem_of_getElem? (i := 843) rfl) rfl, am_gm (List.mem_of_getElem? (i := 22) rfl) rfl, by decide +kernel⟩⟩
set_option maxRecDepth 100000 in
theorem am_g97 : am_good 97 am_m97 := ⟨4, by decide, rfl, rfl, by decide +kernel, rfl, by decide +kernel, am_gm (List.mem_of_getElem? (i := 848) rfl) rfl, am_gm (List.mem_of_getElem? (i := 107) rfl) rfl, ⟨am_gm (List.mem_of_getElem? (i := 847) rfl) rfl, am_gm (List.mem_of_getElem? (i := 23) rfl) rfl, by decide +kernel⟩⟩
set_option maxRecDepth 100000 in
theorem am_g98 : am_good 98 am_m98 := ⟨4, by decide, rfl, rfl, by decide +kernel, rfl, by decide +kernel, am_gm (List.mem_of_getElem? (i := 852) rfl) rfl, am_gm (List.mem_of_getElem? (i := 107) rfl) rfl, ⟨am_gm (List.mem_of_getElem? (i := 851) rfl) rfl, am_gm (List.mem_of_getElem? (i := 24) rfl) rfl, by decide +kernel⟩⟩
set_option maxRecDepth 100000 in
theorem am_g99 : am_good 99 am_m99 := ⟨4, by decide, rfl, rfl, by decide +kernel, rfl, by decide +kernel, am_gm (List.mem_of_getElem? (i := 856) rfl) rfl, am_gm (List.mem_of_getElem? (i := 107) rfl) rfl, ⟨am_gm (List.mem_of_getElem? (i := 855) rfl) rfl, am_gm (List.mem_of_getElem? (i := 25) rfl) rfl, by decide +kernel⟩⟩
set_option maxRecDepth 100000 in
theorem am_g100 : am_good 100 am_m100 := ⟨4, by decide, rfl, rfl, by decide +kernel, rfl, by decide +kernel, am_gm (List.mem_of_getElem? (i := 860) rfl) rfl, am_gm (List.mem_of_getElem? (i := 107) rfl) rfl, ⟨am_gm (List.mem_of_getElem? (i := 858) rfl) rfl, am_gm (List.mem_of_getElem? (i := 859) rfl) rfl, by decide +kernel⟩⟩
set_option maxRecDepth 100000 in
theorem am_g101 : am_good 101 am_m101 := ⟨9, by decide, rfl, rfl, by decide +kernel, rfl, by decide +kernel, am_gm (List.mem_of_getElem? (i := 864) rfl) rfl, am_gm (List.mem_of_getElem? (i := 98) rfl) rfl, ⟨am_gm (List.mem_of_getElem? (i := 862) rfl) rfl, am_gm (List.mem_of_getElem? (i := 863) rfl) rfl, by decide +kernel⟩⟩
set_option maxRecDepth 100000 in
theorem am_g102 : am_good 102 am_m102 := ⟨7, by decide, rfl, rfl, by decide +kernel, rfl, by decide +kernel, am_gm (List.mem_of_getElem? (i := 868) rfl) rfl, am_gm (List.mem_of_getElem? (i := 108) rfl) rfl, ⟨am_gm (List.mem_of_getElem? (i := 866) rfl) rfl, am_gm (List.mem_of_getElem? (i := 867) rfl) rfl, by decide +kernel⟩⟩
set_option maxRecDepth 100000 in
theorem am_g103 : am_good 103 am_m103 := ⟨7, by decide, rfl, rfl, by decide +kernel, rfl, by decide +kernel, am_gm (List.mem_of_getElem? (i := 872) rfl) rfl, am_gm (List.mem_of_getElem? (i := 108) rfl) rfl, ⟨am_gm (List.mem_of_getElem? (i := 871) rfl) rfl, am_gm (List.mem_of_getElem? (i := 26) rfl) rfl, by decide +kernel⟩⟩
set_option maxRecDepth 100000 in
theorem am_g104 : am_good 104 am_m104 := ⟨7, by decide, rfl, rfl, by decide +kernel, rfl, by decide +kernel, am_gm (List.mem_of_getElem? (i := 879) rfl) rfl, am_gm (List.mem_of_getElem? (i := 108) rfl) rfl, ⟨am_gm (List.mem_of_getElem? (i := 878) rfl) rfl, am_gm (List.mem_of_getElem? (i := 27) rfl) rfl, by decide +kernel⟩⟩
set_option maxRecDepth 100000 in
theorem am_g105 : am_good 105 am_m105 := ⟨7, by decide, rfl, rfl, by decide +kernel, rfl, by decide +kernel, am_gm (List.mem_of_getElem? (i := 885) rfl) rfl, am_gm (List.mem_of_getElem? (i := 108) rfl) rfl, ⟨am_gm (List.mem_of_getElem? (i := 884) rfl) rfl, am_gm (List.mem_of_getElem? (i := 28) rfl) rfl, by decide +kernel⟩⟩
set_option maxRecDepth 100000 in
theorem am_g106 : am_good 106 am_m106 := ⟨7, by decide, rfl, rfl, by decide +kernel, rfl, by decide +kernel, am_gm (List.mem_of_getElem? (i := 893) rfl) rfl, am_gm (List.mem_of_getElem? (i := 108) rfl) rfl, ⟨am_gm (List.mem_of_getElem? (i := 891) rfl) rfl, am_gm (List.mem_of_getElem? (i := 892) rfl) rfl, by decide +kernel⟩⟩
set_option maxRecDepth 100000 in
theorem am_g107 : am_good 107 am_m107 := ⟨7, by decide, rfl, rfl, by decide +kernel, rfl, by decide +kernel, am_gm (List.mem_of_getElem? (i := 897) rfl) rfl, am_gm (List.mem_of_getElem? (i := 108) rfl) rfl, ⟨am_gm (List.mem_of_getElem? (i := 896) rfl) rfl, am_gm (List.mem_of_getElem? (i := 29) rfl) rfl, by decide +kernel⟩⟩
set_option maxRecDepth 100000 in
theorem am_g108 : am_good 108 am_m108 := ⟨4, by decide, rfl, rfl, by decide +kernel, rfl, by decide +kernel, am_gm (List.mem_of_getElem? (i := 901) rfl) rfl, am_gm (List.mem_of_getElem? (i := 107) rfl) rfl, ⟨am_gm (List.mem_of_getElem? (i := 899) rfl) rfl, am_gm (List.mem_of_getElem? (i := 900) rfl) rfl, by decide +kernel⟩⟩
set_option maxRecDepth 100000 in
theorem am_g109 : am_good 109 am_m109 := ⟨4, by decide, rfl, rfl, by decide +kernel, rfl, by decide +kernel, am_gm (List.mem_of_getElem? (i := 905) rfl) rfl, am_gm (List.mem_of_getElem? (i := 107) rfl) rfl, ⟨am_gm (List.mem_of_getElem? (i := 904) rfl) rfl, am_gm (List.mem_of_getElem? (i := 30) rfl) rfl, by decide +kernel⟩⟩
set_option maxRecDepth 100000 in
theorem am_g110 : am_good 110 am_m110 := ⟨7, by decide, rfl, rfl, by decide +kernel, rfl, by decide +kernel, am_gm (List.mem_of_getElem? (i := 909) rfl) rfl, am_gm (List.mem_of_getElem? (i := 108) rfl) rfl, ⟨am_gm (List.mem_of_getElem? (i := 908) rfl) rfl, am_gm (List.mem_of_getElem? (i := 31) rfl) rfl, by decide +kernel⟩⟩
set_option maxRecDepth 100000 in
theorem am_g111 : am_good 111 am_m111 := ⟨7, by decide, rfl, rfl, by decide +kernel, rfl, by decide +kernel, am_gm (List.mem_of_getElem? (i := 913) rfl) rfl, am_gm (List.mem_of_getElem? (i := 108) rfl) rfl, ⟨am_gm (List.mem_of_getElem? (i := 911) rfl) rfl, am_gm (List.mem_of_getElem? (i := 912) rfl) rfl, by decide +kernel⟩⟩
set_option maxRecDepth 100000 in
theorem am_g112 : am_good 112 am_m112 := ⟨7, by decide, rfl, rfl, by decide +kernel, rfl, by decide +kernel, am_gm (List.mem_of_getElem? (i := 917) rfl) rfl, am_gm (List.mem_of_getElem? (i := 108) rfl) rfl, ⟨am_gm (List.mem_of_getElem? (i := 916) rfl) rfl, am_gm (List.mem_of_getElem? (i := 32) rfl) rfl, by decide +kernel⟩⟩
set_option maxRecDepth 100000 in
theorem am_g113 : am_good 113 am_m113 := ⟨7, by decide, rfl, rfl, by decide +kernel, rfl, by decide +kernel, am_gm (List.mem_of_getElem? (i := 922) rfl) rfl, am_gm (List.mem_of_getElem? (i := 108) rfl) rfl, ⟨am_gm (List.mem_of_getElem? (i := 921) rfl) rfl, am_gm (List.mem_of_getElem? (i := 33) rfl) rfl, by decide +kernel⟩⟩
set_option maxRecDepth 100000 in
theorem am_g114 : am_good 114 am_m114 := ⟨9, by decide, rfl, rfl, by decide +kernel, rfl, by decide +kernel, am_gm (List.mem_of_getElem? (i := 928) rfl) rfl, am_gm (List.mem_of_getElem? (i := 98) rfl) rfl, ⟨am_gm (List.mem_of_getElem? (i := 926) rfl) rfl, am_gm (List.mem_of_getElem? (i := 927) rfl) rfl, by decide +kernel⟩⟩
set_option maxRecDepth 100000 in
theorem am_g115 : am_good 115 am_m115 := ⟨9, by decide, rfl, rfl, by decide +kernel, rfl, by decide +kernel, am_gm (List.mem_of_getElem? (i := 932) rfl) rfl, am_gm (List.mem_of_getElem? (i := 98) rfl) rfl, ⟨am_gm (List.mem_of_getElem? (i := 930) rfl) rfl, am_gm (List.mem_of_getElem? (i := 931) rfl) rfl, by decide +kernel⟩⟩
set_option maxRecDepth 100000 in
theorem am_g116 : am_good 116 am_m116 := ⟨7, by decide, rfl, rfl, by decide +kernel, rfl, by decide +kernel, am_gm (List.mem_of_getElem? (i := 936) rfl) rfl, am_gm (List.mem_of_getElem? (i := 108) rfl) rfl, ⟨am_gm (List.mem_of_getElem? (i := 934) rfl) rfl, am_gm (List.mem_of_getElem? (i := 935) rfl) rfl, by decide +kernel⟩⟩
set_option maxRecDepth 100000 in
theorem am_g117 : am_good 117 am_m117 := ⟨7, by decide, rfl, rfl, by decide +kernel, rfl, by decide +kernel, am_gm (List.mem_of_getElem? (i := 940) rfl) rfl, am_gm (List.mem_of_getElem? (i := 108) rfl) rfl, ⟨am_gm (List.mem_of_getElem? (i := 939) rfl) rfl, am_gm (List.mem_of_getElem? (i := 34) rfl) rfl, by decide +kernel⟩⟩
set_option maxRecDepth 100000 in
theorem am_g118 : am_good 118 am_m118 := ⟨7, by decide, rfl, rfl, by decide +kernel, rfl, by decide +kernel, am_gm (List.mem_of_getElem? (i := 943) rfl) rfl, am_gm (List.mem_of_getElem? (i := 108) rfl) rfl, ⟨am_gm (List.mem_of_getElem? (i := 942) rfl) rfl, by decide +kernel⟩⟩
set_option maxRecDepth 100000 in
theorem am_g119 : am_good 119 am_m119 := ⟨7, by decide, rfl, rfl, by decide +kernel, rfl, by decide +kernel, am_gm (List.mem_of_getElem? (i := 952) rfl) rfl, am_gm (List.mem_of_getElem? (i := 108) rfl) rfl, ⟨am_gm (List.mem_of_getElem? (i := 951) rfl) rfl, am_gm (List.mem_of_getElem? (i := 35) rfl) rfl, by decide +kernel⟩⟩
set_option maxRecDepth 100000 in
theorem am_g120 : am_good 120 am_m120 := ⟨9, by decide, rfl, rfl, by decide +kernel, rfl, by decide +kernel, am_gm (List.mem_of_getElem? (i := 957) rfl) rfl, am_gm (List.mem_of_getElem? (i := 98) rfl) rfl, ⟨am_gm (List.mem_of_getElem? (i := 955) rfl) rfl, am_gm (List.mem_of_getElem? (i := 956) rfl) rfl, by decide +kernel⟩⟩
set_option maxRecDepth 100000 in
theorem am_g121 : am_good 121 am_m121 := ⟨7, by decide, rfl, rfl, by decide +kernel, rfl, by decide +kernel, am_gm (List.mem_of_getElem? (i := 961) rfl) rfl, am_gm (List.mem_of_getElem? (i := 108) rfl) rfl, ⟨am_gm (List.mem_of_getElem? (i := 959) rfl) rfl, am_gm (List.mem_of_getElem? (i := 960) rfl) rfl, by decide +kernel⟩⟩
set_option maxRecDepth 100000 in
theorem am_g122 : am_good 122 am_m122 := ⟨7, by decide, rfl, rfl, by decide +kernel, rfl, by decide +kernel, am_gm (List.mem_of_getElem? (i := 966) rfl) rfl, am_gm (List.mem_of_getElem? (i := 108) rfl) rfl, ⟨am_gm (List.mem_of_getElem? (i := 964) rfl) rfl, am_gm (List.mem_of_getElem? (i := 965) rfl) rfl, by decide +kernel⟩⟩
set_option maxRecDepth 100000 in
theorem am_g123 : am_good 123 am_m123 := ⟨9, by decide, rfl, rfl, by decide +kernel, rfl, by decide +kernel, am_gm (List.mem_of_getElem? (i := 970) rfl) rfl, am_gm (List.mem_of_getElem? (i := 98) rfl) rfl, ⟨am_gm (List.mem_of_getElem? (i := 968) rfl) rfl, am_gm (List.mem_of_getElem? (i := 969) rfl) rfl, by decide +kernel⟩⟩
set_option maxRecDepth 100000 in
theorem am_g124 : am_good 124 am_m124 := ⟨7, by decide, rfl, rfl, by decide +kernel, rfl, by decide +kernel, am_gm (List.mem_of_getElem? (i := 974) rfl) rfl, am_gm (List.mem_of_getElem? (i := 108) rfl) rfl, ⟨am_gm (List.mem_of_getElem? (i := 972) rfl) rfl, am_gm (List.mem_of_getElem? (i := 973) rfl) rfl, by decide +kernel⟩⟩
set_option maxRecDepth 100000 in
theorem am_g125 : am_good 125 am_m125 := ⟨9, by decide, rfl, rfl, by decide +kernel, rfl, by decide +kernel, am_gm (List.mem_of_getElem? (i := 978) rfl) rfl, am_gm (List.mem_of_getElem? (i := 98) rfl) rfl, ⟨am_gm (List.mem_of_getElem? (i := 977) rfl) rfl, am_gm (List.mem_of_getElem? (i := 36) rfl) rfl, by decide +kernel⟩⟩
set_option maxRecDepth 100000 in
theorem am_g126 : am_good 126 am_m126 := ⟨9, by decide, rfl, rfl, by decide +kernel, rfl, by decide +kernel, am_gm (List.mem_of_getElem? (i := 981) rfl) rfl, am_gm (List.mem_of_getElem? (i := 98) rfl) rfl, ⟨am_gm (List.mem_of_getElem? (i := 980) rfl) rfl, by decide +kernel⟩⟩
set_option maxRecDepth 100000 in
theorem am_g127 : am_good 127 am_m127 := ⟨9, by decide, rfl, rfl, by decide +kernel, rfl, by decide +kernel, am_gm (List.mem_of_getElem? (i := 985) rfl) rfl, am_gm (List.mem_of_getElem? (i := 98) rfl) rfl, ⟨am_gm (List.mem_of_getElem? (i := 983) rfl) rfl, am_gm (List.mem_of_getElem? (i := 984) rfl) rfl, by decide +kernel⟩⟩
set_option maxRecDepth 100000 in
theorem am_g128 : am_good 128 am_m128 := ⟨9, by decide, rfl, rfl, by decide +kernel, rfl, by decide +kernel, am_gm (List.mem_of_getElem? (i := 991) rfl) rfl, am_gm (List.mem_of_getElem? (i := 98) rfl) rfl, ⟨am_gm (List.mem_of_getElem? (i := 989) rfl) rfl, am_gm (List.mem_of_getElem? (i := 990) rfl) rfl, by decide +kernel⟩⟩
set_option maxRecDepth 100000 in
theorem am_g129 : am_good 129 am_m129 := ⟨7, by decide, rfl, rfl, by decide +kernel, rfl, by decide +kernel, am_gm (List.mem_of_getElem? (i := 995) rfl) rfl, am_gm (List.mem_of_getElem? (i := 108) rfl) rfl, ⟨am_gm (List.mem_of_getElem? (i := 993) rfl) rfl, am_gm (List.mem_of_getElem? (i := 994) rfl) rfl, by decide +kernel⟩⟩
set_option maxRecDepth 100000 in
theorem am_g130 : am_good 130 am_m130 := ⟨9, by decide, rfl, rfl, by decide +kernel, rfl, by decide +kernel, am_gm (List.mem_of_getElem? (i := 999) rfl) rfl, am_gm (List.mem_of_getElem? (i := 98) rfl) rfl, ⟨am_gm (List.mem_of_getElem? (i := 997) rfl) rfl, am_gm (List.mem_of_getElem? (i := 998) rfl) rfl, by decide +kernel⟩⟩
set_option maxRecDepth 100000 in
theorem am_g131 : am_good 131 am_m131 := ⟨5, by decide, rfl, rfl, by decide +kernel, rfl, by decide +kernel, am_gm (List.mem_of_getElem? (i := 1003) rfl) rfl, am_gm (List.mem_of_getElem? (i := 109) rfl) rfl, ⟨am_gm (List.mem_of_getElem? (i := 1001) rfl) rfl, am_gm (List.mem_of_getElem? (i := 1002) rfl) rfl, by decide +kernel⟩⟩
set_option maxRecDepth 100000 in
theorem am_g132 : am_good 132 am_m132 := ⟨9, by decide, rfl, rfl, by decide +kernel, rfl, by decide +kernel, am_gm (List.mem_of_getElem? (i := 1007) rfl) rfl, am_gm (List.mem_of_getElem? (i := 98) rfl) rfl, ⟨am_gm (List.mem_of_getElem? (i := 1005) rfl) rfl, am_gm (List.mem_of_getElem? (i := 1006) rfl) rfl, by decide +kernel⟩⟩
set_option maxRecDepth 100000 in
theorem am_g133 : am_good 133 am_m133 := ⟨9, by decide, rfl, rfl, by decide +kernel, rfl, by decide +kernel, am_gm (List.mem_of_getElem? (i := 1011) rfl) rfl, am_gm (List.mem_of_getElem? (i := 98) rfl) rfl, ⟨am_gm (List.mem_of_getElem? (i := 1010) rfl) rfl, am_gm (List.mem_of_getElem? (i := 37) rfl) rfl, by decide +kernel⟩⟩
set_option maxRecDepth 100000 in
theorem am_g134 : am_good 134 am_m134 := ⟨5, by decide, rfl, rfl, by decide +kernel, rfl, by decide +kernel, am_gm (List.mem_of_getElem? (i := 1015) rfl) rfl, am_gm (List.mem_of_getElem? (i := 109) rfl) rfl, ⟨am_gm (List.mem_of_getElem? (i := 1013) rfl) rfl, am_gm (List.mem_of_getElem? (i := 1014) rfl) rfl, by decide +kernel⟩⟩
set_option maxRecDepth 100000 in
theorem am_g135 : am_good 135 am_m135 := ⟨9, by decide, rfl, rfl, by decide +kernel, rfl, by decide +kernel, am_gm (List.mem_of_getElem? (i := 1019) rfl) rfl, am_gm (List.mem_of_getElem? (i := 98) rfl) rfl, ⟨am_gm (List.mem_of_getElem? (i := 1017) rfl) rfl, am_gm (List.mem_of_getElem? (i := 1018) rfl) rfl, by decide +kernel⟩⟩
set_option maxRecDepth 100000 in
theorem am_g136 : am_good 136 am_m136 := ⟨5, by decide, rfl, rfl, by decide +kernel, rfl, by decide +kernel, am_gm (List.mem_of_getElem? (i := 1023) rfl) rfl, am_gm (List.mem_of_getElem? (i := 109) rfl) rfl, ⟨am_gm (List.mem_of_getElem? (i := 1021) rfl) rfl, am_gm (List.mem_of_getElem? (i := 1022) rfl) rfl, by decide +kernel⟩⟩
set_option maxRecDepth 100000 in
theorem am_g137 : am_good 137 am_m137 := ⟨5, by decide, rfl, rfl, by decide +kernel, rfl, by decide +kernel, am_gm (List.mem_of_getElem? (i := 1027) rfl) rfl, am_gm (List.mem_of_getElem? (i := 109) rfl) rfl, ⟨am_gm (List.mem_of_getElem? (i := 1025) rfl) rfl, am_gm (List.mem_of_getElem? (i := 1026) rfl) rfl, by decide +kernel⟩⟩
set_option maxRecDepth 100000 in
theorem am_g138 : am_good 138 am_m138 := ⟨5, by decide, rfl, rfl, by decide +kernel, rfl, by decide +kernel, am_gm (List.mem_of_getElem? (i := 1031) rfl) rfl, am_gm (List.mem_of_getElem? (i := 109) rfl) rfl, ⟨am_gm (List.mem_of_getElem? (i := 1029) rfl) rfl, am_gm (List.mem_of_getElem? (i := 1030) rfl) rfl, by decide +kernel⟩⟩
set_option maxRecDepth 100000 in
theorem am_g139 : am_good 139 am_m139 := ⟨5, by decide, rfl, rfl, by decide +kernel, rfl, by decide +kernel, am_gm (List.mem_of_getElem? (i := 1036) rfl) rfl, am_gm (List.mem_of_getElem? (i := 109) rfl) rfl, ⟨am_gm (List.mem_of_getElem? (i := 1035) rfl) rfl, am_gm (List.mem_of_getElem? (i := 38) rfl) rfl, by decide +kernel⟩⟩
set_option maxRecDepth 100000 in
theorem am_g140 : am_good 140 am_m140 := ⟨5, by decide, rfl, rfl, by decide +kernel, rfl, by decide +kernel, am_gm (List.mem_of_getElem? (i := 1040) rfl) rfl, am_gm (List.mem_of_getElem? (i := 109) rfl) rfl, ⟨am_gm (List.mem_of_getElem? (i := 1039) rfl) rfl, am_gm (List.mem_of_getElem? (i := 39) rfl) rfl, by decide +kernel⟩⟩
end
section
set_option maxRecDepth 100000 in
theorem am_g141 : am_good 141 am_m141 := ⟨5, by decide, rfl, rfl, by decide +kernel, rfl, by decide +kernel, am_gm (List.mem_of_getElem? (i := 1044) rfl) rfl, am_gm (List.mem_of_getElem? (i := 109) rfl) rfl, ⟨am_gm (List.mem_of_getElem? (i := 1043) rfl) rfl, am_gm (List.mem_of_getElem? (i := 40) rfl) rfl, by decide +kernel⟩⟩
set_option maxRecDepth 100000 in
theorem am_g142 : am_good 142 am_m142 := ⟨5, by decide, rfl, rfl, by decide +kernel, rfl, by decide +kernel, am_gm (List.mem_of_getElem? (i := 1048) rfl) rfl, am_gm (List.mem_of_getElem? (i := 109) rfl) rfl, ⟨am_gm (List.mem_of_getElem? (i := 1047) rfl) rfl, am_gm (List.mem_of_getElem? (i := 41) rfl) rfl, by decide +kernel⟩⟩
set_option maxRecDepth 100000 in
theorem am_g143 : am_good 143 am_m143 := ⟨9, by decide, rfl, rfl, by decide +kernel, rfl, by decide +kernel, am_gm (List.mem_of_getElem? (i := 1052) rfl) rfl, am_gm (List.mem_of_getElem? (i := 98) rfl) rfl, ⟨am_gm (List.mem_of_getElem? (i := 1050) rfl) rfl, am_gm (List.mem_of_getElem? (i := 1051) rfl) rfl, by decide +kernel⟩⟩
set_option maxRecDepth 100000 in
theorem am_g144 : am_good 144 am_m144 := ⟨5, by decide, rfl, rfl, by decide +kernel, rfl, by decide +kernel, am_gm (List.mem_of_getElem? (i := 1057) rfl) rfl, am_gm (List.mem_of_getElem? (i := 109) rfl) rfl, ⟨am_gm (List.mem_of_getElem? (i := 1055) rfl) rfl, am_gm (List.mem_of_getElem? (i := 1056) rfl) rfl, by decide +kernel⟩⟩
set_option maxRecDepth 100000 in
theorem am_g145 : am_good 145 am_m145 := ⟨9, by decide, rfl, rfl, by decide +kernel, rfl, by decide +kernel, am_gm (List.mem_of_getElem? (i := 1062) rfl) rfl, am_gm (List.mem_of_getElem? (i := 98) rfl) rfl, ⟨am_gm (List.mem_of_getElem? (i := 1060) rfl) rfl, am_gm (List.mem_of_getElem? (i := 1061) rfl) rfl, by decide +kernel⟩⟩
set_option maxRecDepth 100000 in
theorem am_g146 : am_good 146 am_m146 := ⟨5, by decide, rfl, rfl, by decide +kernel, rfl, by decide +kernel, am_gm (List.mem_of_getElem? (i := 1066) rfl) rfl, am_gm (List.mem_of_getElem? (i := 109) rfl) rfl, ⟨am_gm (List.mem_of_getElem? (i := 1064) rfl) rfl, am_gm (List.mem_of_getElem? (i := 1065) rfl) rfl, by decide +kernel⟩⟩
set_option maxRecDepth 100000 in
theorem am_g147 : am_good 147 am_m147 := ⟨5, by decide, rfl, rfl, by decide +kernel, rfl, by decide +kernel, am_gm (List.mem_of_getElem? (i := 1070) rfl) rfl, am_gm (List.mem_of_getElem? (i := 109) rfl) rfl, ⟨am_gm (List.mem_of_getElem? (i := 1069) rfl) rfl, am_gm (List.mem_of_getElem? (i := 42) rfl) rfl, by decide +kernel⟩⟩
set_option maxRecDepth 100000 in
theorem am_g148 : am_good 148 am_m148 := ⟨5, by decide, rfl, rfl, by decide +kernel, rfl, by decide +kernel, am_gm (List.mem_of_getElem? (i := 1074) rfl) rfl, am_gm (List.mem_of_getElem? (i := 109) rfl) rfl, ⟨am_gm (List.mem_of_getElem? (i := 1073) rfl) rfl, am_gm (List.mem_of_getElem? (i := 43) rfl) rfl, by decide +kernel⟩⟩
set_option maxRecDepth 100000 in
theorem am_g149 : am_good 149 am_m149 := ⟨5, by decide, rfl, rfl, by decide +kernel, rfl, by decide +kernel, am_gm (List.mem_of_getElem? (i := 1078) rfl) rfl, am_gm (List.mem_of_getElem? (i := 109) rfl) rfl, ⟨am_gm (List.mem_of_getElem? (i := 1077) rfl) rfl, am_gm (List.mem_of_getElem? (i := 44) rfl) rfl, by decide +kernel⟩⟩
set_option maxRecDepth 100000 in
theorem am_g150 : am_good 150 am_m150 := ⟨5, by decide, rfl, rfl, by decide +kernel, rfl, by decide +kernel, am_gm (List.mem_of_getElem? (i := 1083) rfl) rfl, am_gm (List.mem_of_getElem? (i := 109) rfl) rfl, ⟨am_gm (List.mem_of_getElem? (i := 1082) rfl) rfl, am_gm (List.mem_of_getElem? (i := 45) rfl) rfl, by decide +kernel⟩⟩
set_option maxRecDepth 100000 in
theorem am_g151 : am_good 151 am_m151 := ⟨5, by decide, rfl, rfl, by decide +kernel, rfl, by decide +kernel, am_gm (List.mem_of_getElem? (i := 1087) rfl) rfl, am_gm (List.mem_of_getElem? (i := 109) rfl) rfl, ⟨am_gm (List.mem_of_getElem? (i := 1086) rfl) rfl, am_gm (List.mem_of_getElem? (i := 46) rfl) rfl, by decide +kernel⟩⟩
set_option maxRecDepth 100000 in
theorem am_g152 : am_good 152 am_m152 := ⟨9, by decide, rfl, rfl, by decide +kernel, rfl, by decide +kernel, am_gm (List.mem_of_getElem? (i := 1095) rfl) rfl, am_gm (List.mem_of_getElem? (i := 98) rfl) rfl, ⟨am_gm (List.mem_of_getElem? (i := 1093) rfl) rfl, am_gm (List.mem_of_getElem? (i := 1094) rfl) rfl, by decide +kernel⟩⟩
set_option maxRecDepth 100000 in
theorem am_g153 : am_good 153 am_m153 := ⟨2, by decide, rfl, rfl, by decide +kernel, rfl, by decide +kernel, am_gm (List.mem_of_getElem? (i := 1099) rfl) rfl, am_gm (List.mem_of_getElem? (i := 106) rfl) rfl, ⟨am_gm (List.mem_of_getElem? (i := 1097) rfl) rfl, am_gm (List.mem_of_getElem? (i := 1098) rfl) rfl, by decide +kernel⟩⟩
set_option maxRecDepth 100000 in
theorem am_g154 : am_good 154 am_m154 := ⟨9, by decide, rfl, rfl, by decide +kernel, rfl, by decide +kernel, am_gm (List.mem_of_getElem? (i := 1103) rfl) rfl, am_gm (List.mem_of_getElem? (i := 98) rfl) rfl, ⟨am_gm (List.mem_of_getElem? (i := 1101) rfl) rfl, am_gm (List.mem_of_getElem? (i := 1102) rfl) rfl, by decide +kernel⟩⟩
set_option maxRecDepth 100000 in
theorem am_g155 : am_good 155 am_m155 := ⟨2, by decide, rfl, rfl, by decide +kernel, rfl, by decide +kernel, am_gm (List.mem_of_getElem? (i := 1107) rfl) rfl, am_gm (List.mem_of_getElem? (i := 106) rfl) rfl, ⟨am_gm (List.mem_of_getElem? (i := 1105) rfl) rfl, am_gm (List.mem_of_getElem? (i := 1106) rfl) rfl, by decide +kernel⟩⟩
set_option maxRecDepth 100000 in
theorem am_g156 : am_good 156 am_m156 := ⟨9, by decide, rfl, rfl, by decide +kernel, rfl, by decide +kernel, am_gm (List.mem_of_getElem? (i := 1112) rfl) rfl, am_gm (List.mem_of_getElem? (i := 98) rfl) rfl, ⟨am_gm (List.mem_of_getElem? (i := 1110) rfl) rfl, am_gm (List.mem_of_getElem? (i := 1111) rfl) rfl, by decide +kernel⟩⟩
set_option maxRecDepth 100000 in
theorem am_g157 : am_good 157 am_m157 := ⟨7, by decide, rfl, rfl, by decide +kernel, rfl, by decide +kernel, am_gm (List.mem_of_getElem? (i := 1116) rfl) rfl, am_gm (List.mem_of_getElem? (i := 108) rfl) rfl, ⟨am_gm (List.mem_of_getElem? (i := 1114) rfl) rfl, am_gm (List.mem_of_getElem? (i := 1115) rfl) rfl, by decide +kernel⟩⟩
set_option maxRecDepth 100000 in
theorem am_g158 : am_good 158 am_m158 := ⟨9, by decide, rfl, rfl, by decide +kernel, rfl, by decide +kernel, am_gm (List.mem_of_getElem? (i := 1121) rfl) rfl, am_gm (List.mem_of_getElem? (i := 98) rfl) rfl, ⟨am_gm (List.mem_of_getElem? (i := 1119) rfl) rfl, am_gm (List.mem_of_getElem? (i := 1120) rfl) rfl, by decide +kernel⟩⟩
set_option maxRecDepth 100000 in
theorem am_g159 : am_good 159 am_m159 := ⟨9, by decide, rfl, rfl, by decide +kernel, rfl, by decide +kernel, am_gm (List.mem_of_getElem? (i := 1125) rfl) rfl, am_gm (List.mem_of_getElem? (i := 98) rfl) rfl, ⟨am_gm (List.mem_of_getElem? (i := 1123) rfl) rfl, am_gm (List.mem_of_getElem? (i := 1124) rfl) rfl, by decide +kernel⟩⟩
set_option maxRecDepth 100000 in
theorem am_g160 : am_good 160 am_m160 := ⟨9, by decide, rfl, rfl, by decide +kernel, rfl, by decide +kernel, am_gm (List.mem_of_getElem? (i := 1129) rfl) rfl, am_gm (List.mem_of_getElem? (i := 98) rfl) rfl, ⟨am_gm (List.mem_of_getElem? (i := 1127) rfl) rfl, am_gm (List.mem_of_getElem? (i := 1128) rfl) rfl, by decide +kernel⟩⟩
set_option maxRecDepth 100000 in
theorem am_g161 : am_good 161 am_m161 := ⟨9, by decide, rfl, rfl, by decide +kernel, rfl, by decide +kernel, am_gm (List.mem_of_getElem? (i := 1133) rfl) rfl, am_gm (List.mem_of_getElem? (i := 98) rfl) rfl, ⟨am_gm (List.mem_of_getElem? (i := 1131) rfl) rfl, am_gm (List.mem_of_getElem? (i := 1132) rfl) rfl, by decide +kernel⟩⟩
set_option maxRecDepth 100000 in
theorem am_g162 : am_good 162 am_m162 := ⟨9, by decide, rfl, rfl, by decide +kernel, rfl, by decide +kernel, am_gm (List.mem_of_getElem? (i := 1137) rfl) rfl, am_gm (List.mem_of_getElem? (i := 98) rfl) rfl, ⟨am_gm (List.mem_of_getElem? (i := 1135) rfl) rfl, am_gm (List.mem_of_getElem? (i := 1136) rfl) rfl, by decide +kernel⟩⟩
set_option maxRecDepth 100000 in
theorem am_g163 : am_good 163 am_m163 := ⟨5, by decide, rfl, rfl, by decide +kernel, rfl, by decide +kernel, am_gm (List.mem_of_getElem? (i := 1141) rfl) rfl, am_gm (List.mem_of_getElem? (i := 109) rfl) rfl, ⟨am_gm (List.mem_of_getElem? (i := 1139) rfl) rfl, am_gm (List.mem_of_getElem? (i := 1140) rfl) rfl, by decide +kernel⟩⟩
set_option maxRecDepth 100000 in
theorem am_g164 : am_good 164 am_m164 := ⟨9, by decide, rfl, rfl, by decide +kernel, rfl, by decide +kernel, am_gm (List.mem_of_getElem? (i := 1145) rfl) rfl, am_gm (List.mem_of_getElem? (i := 98) rfl) rfl, ⟨am_gm (List.mem_of_getElem? (i := 1144) rfl) rfl, by decide +kernel⟩⟩
set_option maxRecDepth 100000 in
theorem am_g165 : am_good 165 am_m165 := ⟨9, by decide, rfl, rfl, by decide +kernel, rfl, by decide +kernel, am_gm (List.mem_of_getElem? (i := 1149) rfl) rfl, am_gm (List.mem_of_getElem? (i := 98) rfl) rfl, ⟨am_gm (List.mem_of_getElem? (i := 1147) rfl) rfl, am_gm (List.mem_of_getElem? (i := 1148) rfl) rfl, by decide +kernel⟩⟩
set_option maxRecDepth 100000 in
theorem am_g166 : am_good 166 am_m166 := ⟨9, by decide, rfl, rfl, by decide +kernel, rfl, by decide +kernel, am_gm (List.mem_of_getElem? (i := 1153) rfl) rfl, am_gm (List.mem_of_getElem? (i := 98) rfl) rfl, ⟨am_gm (List.mem_of_getElem? (i := 1151) rfl) rfl, am_gm (List.mem_of_getElem? (i := 1152) rfl) rfl, by decide +kernel⟩⟩
set_option maxRecDepth 100000 in
theorem am_g167 : am_good 167 am_m167 := ⟨9, by decide, rfl, rfl, by decide +kernel, rfl, by decide +kernel, am_gm (List.mem_of_getElem? (i := 1157) rfl) rfl, am_gm (List.mem_of_getElem? (i := 98) rfl) rfl, ⟨am_gm (List.mem_of_getElem? (i := 1155) rfl) rfl, am_gm (List.mem_of_getElem? (i := 1156) rfl) rfl, by decide +kernel⟩⟩
set_option maxRecDepth 100000 in
theorem am_g168 : am_good 168 am_m168 := ⟨8, by decide, rfl, rfl, by decide +kernel, rfl, by decide +kernel, am_gm (List.mem_of_getElem? (i := 1164) rfl) rfl, am_gm (List.mem_of_getElem? (i := 99) rfl) rfl, ⟨am_gm (List.mem_of_getElem? (i := 1162) rfl) rfl, am_gm (List.mem_of_getElem? (i := 1163) rfl) rfl, by decide +kernel⟩⟩
set_option maxRecDepth 100000 in
theorem am_g169 : am_good 169 am_m169 := ⟨1, by decide, rfl, rfl, by decide +kernel, rfl, by decide +kernel, am_gm (List.mem_of_getElem? (i := 1169) rfl) rfl, am_gm (List.mem_of_getElem? (i := 105) rfl) rfl, ⟨am_gm (List.mem_of_getElem? (i := 1167) rfl) rfl, am_gm (List.mem_of_getElem? (i := 1168) rfl) rfl, by decide +kernel⟩⟩
set_option maxRecDepth 100000 in
theorem am_g170 : am_good 170 am_m170 := ⟨5, by decide, rfl, rfl, by decide +kernel, rfl, by decide +kernel, am_gm (List.mem_of_getElem? (i := 1175) rfl) rfl, am_gm (List.mem_of_getElem? (i := 109) rfl) rfl, ⟨am_gm (List.mem_of_getElem? (i := 1173) rfl) rfl, am_gm (List.mem_of_getElem? (i := 1174) rfl) rfl, by decide +kernel⟩⟩
set_option maxRecDepth 100000 in
theorem am_g171 : am_good 171 am_m171 := ⟨6, by decide, rfl, rfl, by decide +kernel, rfl, by decide +kernel, am_gm (List.mem_of_getElem? (i := 1181) rfl) rfl, am_gm (List.mem_of_getElem? (i := 102) rfl) rfl, ⟨am_gm (List.mem_of_getElem? (i := 1179) rfl) rfl, am_gm (List.mem_of_getElem? (i := 1180) rfl) rfl, by decide +kernel⟩⟩
set_option maxRecDepth 100000 in
theorem am_g172 : am_good 172 am_m172 := ⟨10, by decide, rfl, rfl, by decide +kernel, rfl, by decide +kernel, am_gm (List.mem_of_getElem? (i := 1187) rfl) rfl, am_gm (List.mem_of_getElem? (i := 110) rfl) rfl, ⟨am_gm (List.mem_of_getElem? (i := 1186) rfl) rfl, rfl, by decide +kernel⟩⟩
set_option maxRecDepth 100000 in
theorem am_g173 : am_good 173 am_m173 := ⟨10, by decide, rfl, rfl, by decide +kernel, rfl, by decide +kernel, am_gm (List.mem_of_getElem? (i := 1193) rfl) rfl, am_gm (List.mem_of_getElem? (i := 110) rfl) rfl, ⟨am_gm (List.mem_of_getElem? (i := 1192) rfl) rfl, am_gm (List.mem_of_getElem? (i := 47) rfl) rfl, by decide +kernel⟩⟩
set_option maxRecDepth 100000 in
theorem am_g174 : am_good 174 am_m174 := ⟨10, by decide, rfl, rfl, by decide +kernel, rfl, by decide +kernel, am_gm (List.mem_of_getElem? (i := 1197) rfl) rfl, am_gm (List.mem_of_getElem? (i := 110) rfl) rfl, ⟨am_gm (List.mem_of_getElem? (i := 1196) rfl) rfl, am_gm (List.mem_of_getElem? (i := 48) rfl) rfl, by decide +kernel⟩⟩
set_option maxRecDepth 100000 in
theorem am_g175 : am_good 175 am_m175 := ⟨10, by decide, rfl, rfl, by decide +kernel, rfl, by decide +kernel, am_gm (List.mem_of_getElem? (i := 1200) rfl) rfl, am_gm (List.mem_of_getElem? (i := 110) rfl) rfl, ⟨am_gm (List.mem_of_getElem? (i := 1199) rfl) rfl, by decide +kernel⟩⟩
set_option maxRecDepth 100000 in
theorem am_g176 : am_good 176 am_m176 := ⟨10, by decide, rfl, rfl, by decide +kernel, rfl, by decide +kernel, am_gm (List.mem_of_getElem? (i := 1204) rfl) rfl, am_gm (List.mem_of_getElem? (i := 110) rfl) rfl, ⟨am_gm (List.mem_of_getElem? (i := 1203) rfl) rfl, am_gm (List.mem_of_getElem? (i := 49) rfl) rfl, by decide +kernel⟩⟩
set_option maxRecDepth 100000 in
theorem am_g177 : am_good 177 am_m177 := ⟨10, by decide, rfl, rfl, by decide +kernel, rfl, by decide +kernel, am_gm (List.mem_of_getElem? (i := 1353) rfl) rfl, am_gm (List.mem_of_getElem? (i := 110) rfl) rfl, ⟨am_gm (List.mem_of_getElem? (i := 1351) rfl) rfl, am_gm (List.mem_of_getElem? (i := 1352) rfl) rfl, by decide +kernel⟩⟩
set_option maxRecDepth 100000 in
theorem am_g178 : am_good 178 am_m178 := ⟨10, by decide, rfl, rfl, by decide +kernel, rfl, by decide +kernel, am_gm (List.mem_of_getElem? (i := 1356) rfl) rfl, am_gm (List.mem_of_getElem? (i := 110) rfl) rfl, ⟨am_gm (List.mem_of_getElem? (i := 1355) rfl) rfl, by decide +kernel⟩⟩
set_option maxRecDepth 100000 in
theorem am_g179 : am_good 179 am_m179 := ⟨10, by decide, rfl, rfl, by decide +kernel, rfl, by decide +kernel, am_gm (List.mem_of_getElem? (i := 1360) rfl) rfl, am_gm (List.mem_of_getElem? (i := 110) rfl) rfl, ⟨am_gm (List.mem_of_getElem? (i := 1359) rfl) rfl, am_gm (List.mem_of_getElem? (i := 50) rfl) rfl, by decide +kernel⟩⟩
set_option maxRecDepth 100000 in
theorem am_g180 : am_good 180 am_m180 := ⟨10, by decide, rfl, rfl, by decide +kernel, rfl, by decide +kernel, am_gm (List.mem_of_getElem? (i := 1364) rfl) rfl, am_gm (List.mem_of_getElem? (i := 110) rfl) rfl, ⟨am_gm (List.mem_of_getElem? (i := 1362) rfl) rfl, am_gm (List.mem_of_getElem? (i := 1363) rfl) rfl, by decide +kernel⟩⟩
set_option maxRecDepth 100000 in
theorem am_g181 : am_good 181 am_m181 := ⟨10, by decide, rfl, rfl, by decide +kernel, rfl, by decide +kernel, am_gm (List.mem_of_getElem? (i := 1368) rfl) rfl, am_gm (List.mem_of_getElem? (i := 110) rfl) rfl, ⟨am_gm (List.mem_of_getElem? (i := 1367) rfl) rfl, am_gm (List.mem_of_getElem? (i := 51) rfl) rfl, by decide +kernel⟩⟩
set_option maxRecDepth 100000 in
theorem am_g182 : am_good 182 am_m182 := ⟨10, by decide, rfl, rfl, by decide +kernel, rfl, by decide +kernel, am_gm (List.mem_of_getElem? (i := 1372) rfl) rfl, am_gm (List.mem_of_getElem? (i := 110) rfl) rfl, ⟨am_gm (List.mem_of_getElem? (i := 1371) rfl) rfl, am_gm (List.mem_of_getElem? (i := 52) rfl) rfl, by decide +kernel⟩⟩
set_option maxRecDepth 100000 in
theorem am_g183 : am_good 183 am_m183 := ⟨10, by decide, rfl, rfl, by decide +kernel, rfl, by decide +kernel, am_gm (List.mem_of_getElem? (i := 1376) rfl) rfl, am_gm (List.mem_of_getElem? (i := 110) rfl) rfl, ⟨am_gm (List.mem_of_getElem? (i := 1375) rfl) rfl, am_gm (List.mem_of_getElem? (i := 53) rfl) rfl, by decide +kernel⟩⟩
set_option maxRecDepth 100000 in
theorem am_g184 : am_good 184 am_m184 := ⟨10, by decide, rfl, rfl, by decide +kernel, rfl, by decide +kernel, am_gm (List.mem_of_getElem? (i := 1380) rfl) rfl, am_gm (List.mem_of_getElem? (i := 110) rfl) rfl, ⟨am_gm (List.mem_of_getElem? (i := 1378) rfl) rfl, am_gm (List.mem_of_getElem? (i := 1379) rfl) rfl, by decide +kernel⟩⟩
set_option maxRecDepth 100000 in
theorem am_g185 : am_good 185 am_m185 := ⟨10, by decide, rfl, rfl, by decide +kernel, rfl, by decide +kernel, am_gm (List.mem_of_getElem? (i := 1385) rfl) rfl, am_gm (List.mem_of_getElem? (i := 110) rfl) rfl, ⟨am_gm (List.mem_of_getElem? (i := 1383) rfl) rfl, am_gm (List.mem_of_getElem? (i := 1384) rfl) rfl, by decide +kernel⟩⟩
set_option maxRecDepth 100000 in
theorem am_g186 : am_good 186 am_m186 := ⟨10, by decide, rfl, rfl, by decide +kernel, rfl, by decide +kernel, am_gm (List.mem_of_getElem? (i := 1389) rfl) rfl, am_gm (List.mem_of_getElem? (i := 110) rfl) rfl, ⟨am_gm (List.mem_of_getElem? (i := 1387) rfl) rfl, am_gm (List.mem_of_getElem? (i := 1388) rfl) rfl, by decide +kernel⟩⟩
set_option maxRecDepth 100000 in
theorem am_g187 : am_good 187 am_m187 := ⟨10, by decide, rfl, rfl, by decide +kernel, rfl, by decide +kernel, am_gm (List.mem_of_getElem? (i := 1393) rfl) rfl, am_gm (List.mem_of_getElem? (i := 110) rfl) rfl, ⟨am_gm (List.mem_of_getElem? (i := 1391) rfl) rfl, am_gm (List.mem_of_getElem? (i := 1392) rfl) rfl, by decide +kernel⟩⟩
set_option maxRecDepth 100000 in
theorem am_g188 : am_good 188 am_m188 := ⟨10, by decide, rfl, rfl, by decide +kernel, rfl, by decide +kernel, am_gm (List.mem_of_getElem? (i := 1397) rfl) rfl, am_gm (List.mem_of_getElem? (i := 110) rfl) rfl, ⟨am_gm (List.mem_of_getElem? (i := 1395) rfl) rfl, am_gm (List.mem_of_getElem? (i := 1396) rfl) rfl, by decide +kernel⟩⟩
set_option maxRecDepth 100000 in
theorem am_g189 : am_good 189 am_m189 := ⟨10, by decide, rfl, rfl, by decide +kernel, rfl, by decide +kernel, am_gm (List.mem_of_getElem? (i := 1400) rfl) rfl, am_gm (List.mem_of_getElem? (i := 110) rfl) rfl, ⟨am_gm (List.mem_of_getElem? (i := 1399) rfl) rfl, by decide +kernel⟩⟩
set_option maxRecDepth 100000 in
theorem am_g190 : am_good 190 am_m190 := ⟨10, by decide, rfl, rfl, by decide +kernel, rfl, by decide +kernel, am_gm (List.mem_of_getElem? (i := 1404) rfl) rfl, am_gm (List.mem_of_getElem? (i := 110) rfl) rfl, ⟨am_gm (List.mem_of_getElem? (i := 1402) rfl) rfl, am_gm (List.mem_of_getElem? (i := 1403) rfl) rfl, by decide +kernel⟩⟩
set_option maxRecDepth 100000 in
theorem am_g191 : am_good 191 am_m191 := ⟨10, by decide, rfl, rfl, by decide +kernel, rfl, by decide +kernel, am_gm (List.mem_of_getElem? (i := 1408) rfl) rfl, am_gm (List.mem_of_getElem? (i := 110) rfl) rfl, ⟨am_gm (List.mem_of_getElem? (i := 1407) rfl) rfl, am_gm (List.mem_of_getElem? (i := 54) rfl) rfl, by decide +kernel⟩⟩
set_option maxRecDepth 100000 in
theorem am_g192 : am_good 192 am_m192 := ⟨10, by decide, rfl, rfl, by decide +kernel, rfl, by decide +kernel, am_gm (List.mem_of_getElem? (i := 1412) rfl) rfl, am_gm (List.mem_of_getElem? (i := 110) rfl) rfl, ⟨am_gm (List.mem_of_getElem? (i := 1410) rfl) rfl, am_gm (List.mem_of_getElem? (i := 1411) rfl) rfl, by decide +kernel⟩⟩
set_option maxRecDepth 100000 in
theorem am_g193 : am_good 193 am_m193 := ⟨10, by decide, rfl, rfl, by decide +kernel, rfl, by decide +kernel, am_gm (List.mem_of_getElem? (i := 1416) rfl) rfl, am_gm (List.mem_of_getElem? (i := 110) rfl) rfl, ⟨am_gm (List.mem_of_getElem? (i := 1415) rfl) rfl, am_gm (List.mem_of_getElem? (i := 55) rfl) rfl, by decide +kernel⟩⟩
set_option maxRecDepth 100000 in
theorem am_g194 : am_good 194 am_m194 := ⟨10, by decide, rfl, rfl, by decide +kernel, rfl, by decide +kernel, am_gm (List.mem_of_getElem? (i := 1420) rfl) rfl, am_gm (List.mem_of_getElem? (i := 110) rfl) rfl, ⟨am_gm (List.mem_of_getElem? (i := 1419) rfl) rfl, am_gm (List.mem_of_getElem? (i := 56) rfl) rfl, by decide +kernel⟩⟩
set_option maxRecDepth 100000 in
theorem am_g195 : am_good 195 am_m195 := ⟨10, by decide, rfl, rfl, by decide +kernel, rfl, by decide +kernel, am_gm (List.mem_of_getElem? (i := 1424) rfl) rfl, am_gm (List.mem_of_getElem? (i := 110) rfl) rfl, ⟨am_gm (List.mem_of_getElem? (i := 1423) rfl) rfl, am_gm (List.mem_of_getElem? (i := 57) rfl) rfl, by decide +kernel⟩⟩
set_option maxRecDepth 100000 in
theorem am_g196 : am_good 196 am_m196 := ⟨10, by decide, rfl, rfl, by decide +kernel, rfl, by decide +kernel, am_gm (List.mem_of_getElem? (i := 1428) rfl) rfl, am_gm (List.mem_of_getElem? (i := 110) rfl) rfl, ⟨am_gm (List.mem_of_getElem? (i := 1427) rfl) rfl, am_gm (List.mem_of_getElem? (i := 58) rfl) rfl, by decide +kernel⟩⟩
set_option maxRecDepth 100000 in
theorem am_g197 : am_good 197 am_m197 := ⟨10, by decide, rfl, rfl, by decide +kernel, rfl, by decide +kernel, am_gm (List.mem_of_getElem? (i := 1432) rfl) rfl, am_gm (List.mem_of_getElem? (i := 110) rfl) rfl, ⟨am_gm (List.mem_of_getElem? (i := 1431) rfl) rfl, am_gm (List.mem_of_getElem? (i := 59) rfl) rfl, by decide +kernel⟩⟩
set_option maxRecDepth 100000 in
theorem am_g198 : am_good 198 am_m198 := ⟨10, by decide, rfl, rfl, by decide +kernel, rfl, by decide +kernel, am_gm (List.mem_of_getElem? (i := 1436) rfl) rfl, am_gm (List.mem_of_getElem? (i := 110) rfl) rfl, ⟨am_gm (List.mem_of_getElem? (i := 1435) rfl) rfl, am_gm (List.mem_of_getElem? (i := 60) rfl) rfl, by decide +kernel⟩⟩
set_option maxRecDepth 100000 in
theorem am_g199 : am_good 199 am_m199 := ⟨10, by decide, rfl, rfl, by decide +kernel, rfl, by decide +kernel, am_gm (List.mem_of_getElem? (i := 1440) rfl) rfl, am_gm (List.mem_of_getElem? (i := 110) rfl) rfl, ⟨am_gm (List.mem_of_getElem? (i := 1439) rfl) rfl, am_gm (List.mem_of_getElem? (i := 61) rfl) rfl, by decide +kernel⟩⟩
set_option maxRecDepth 100000 in
theorem am_g200 : am_good 200 am_m200 := ⟨10, by decide, rfl, rfl, by decide +kernel, rfl, by decide +kernel, am_gm (List.mem_of_getElem? (i := 1444) rfl) rfl, am_gm (List.mem_of_getElem? (i := 110) rfl) rfl, ⟨am_gm (List.mem_of_getElem? (i := 1442) rfl) rfl, am_gm (List.mem_of_getElem? (i := 1443) rfl) rfl, by decide +kernel⟩⟩
set_option maxRecDepth 100000 in
theorem am_g201 : am_good 201 am_m201 := ⟨10, by decide, rfl, rfl, by decide +kernel, rfl, by decide +kernel, am_gm (List.mem_of_getElem? (i := 1448) rfl) rfl, am_gm (List.mem_of_getElem? (i := 110) rfl) rfl, ⟨am_gm (List.mem_of_getElem? (i := 1446) rfl) rfl, am_gm (List.mem_of_getElem? (i := 1447) rfl) rfl, by decide +kernel⟩⟩
set_option maxRecDepth 100000 in
theorem am_g202 : am_good 202 am_m202 := ⟨10, by decide, rfl, rfl, by decide +kernel, rfl, by decide +kernel, am_gm (List.mem_of_getElem? (i := 1452) rfl) rfl, am_gm (List.mem_of_getElem? (i := 110) rfl) rfl, ⟨am_gm (List.mem_of_getElem? (i := 1451) rfl) rfl, am_gm (List.mem_of_getElem? (i := 62) rfl) rfl, by decide +kernel⟩⟩
set_option maxRecDepth 100000 in
theorem am_g203 : am_good 203 am_m203 := ⟨10, by decide, rfl, rfl, by decide +kernel, rfl, by decide +kernel, am_gm (List.mem_of_getElem? (i := 1455) rfl) rfl, am_gm (List.mem_of_getElem? (i := 110) rfl) rfl, ⟨am_gm (List.mem_of_getElem? (i := 1454) rfl) rfl, by decide +kernel⟩⟩
set_option maxRecDepth 100000 in
theorem am_g204 : am_good 204 am_m204 := ⟨10, by decide, rfl, rfl, by decide +kernel, rfl, by decide +kernel, am_gm (List.mem_of_getElem? (i := 1459) rfl) rfl, am_gm (List.mem_of_getElem? (i := 110) rfl) rfl, ⟨am_gm (List.mem_of_getElem? (i := 1457) rfl) rfl, am_gm (List.mem_of_getElem? (i := 1458) rfl) rfl, by decide +kernel⟩⟩
set_option maxRecDepth 100000 in
theorem am_g205 : am_good 205 am_m205 := ⟨10, by decide, rfl, rfl, by decide +kernel, rfl, by decide +kernel, am_gm (List.mem_of_getElem? (i := 1463) rfl) rfl, am_gm (List.mem_of_getElem? (i := 110) rfl) rfl, ⟨am_gm (List.mem_of_getElem? (i := 1461) rfl) rfl, am_gm (List.mem_of_getElem? (i := 1462) rfl) rfl, by decide +kernel⟩⟩
set_option maxRecDepth 100000 in
theorem am_g206 : am_good 206 am_m206 := ⟨10, by decide, rfl, rfl, by decide +kernel, rfl, by decide +kernel, am_gm (List.mem_of_getElem? (i := 1467) rfl) rfl, am_gm (List.mem_of_getElem? (i := 110) rfl) rfl, ⟨am_gm (List.mem_of_getElem? (i := 1465) rfl) rfl, am_gm (List.mem_of_getElem? (i := 1466) rfl) rfl, by decide +kernel⟩⟩
set_option maxRecDepth 100000 in
theorem am_g207 : am_good 207 am_m207 := ⟨10, by decide, rfl, rfl, by decide +kernel, rfl, by decide +kernel, am_gm (List.mem_of_getElem? (i := 1471) rfl) rfl, am_gm (List.mem_of_getElem? (i := 110) rfl) rfl, ⟨am_gm (List.mem_of_getElem? (i := 1469) rfl) rfl, am_gm (List.mem_of_getElem? (i := 1470) rfl) rfl, by decide +kernel⟩⟩
set_option maxRecDepth 100000 in
theorem am_g208 : am_good 208 am_m208 := ⟨10, by decide, rfl, rfl, by decide +kernel, rfl, by decide +kernel, am_gm (List.mem_of_getElem? (i := 1475) rfl) rfl, am_gm (List.mem_of_getElem? (i := 110) rfl) rfl, ⟨am_gm (List.mem_of_getElem? (i := 1473) rfl) rfl, am_gm (List.mem_of_getElem? (i := 1474) rfl) rfl, by decide +kernel⟩⟩
set_option maxRecDepth 100000 in
theorem am_g209 : am_good 209 am_m209 := ⟨10, by decide, rfl, rfl, by decide +kernel, rfl, by decide +kernel, am_gm (List.mem_of_getElem? (i := 1479) rfl) rfl, am_gm (List.mem_of_getElem? (i := 110) rfl) rfl, ⟨am_gm (List.mem_of_getElem? (i := 1478) rfl) rfl, am_gm (List.mem_of_getElem? (i := 63) rfl) rfl, by decide +kernel⟩⟩
set_option maxRecDepth 100000 in
theorem am_g210 : am_good 210 am_m210 := ⟨10, by decide, rfl, rfl, by decide +kernel, rfl, by decide +kernel, am_gm (List.mem_of_getElem? (i := 1483) rfl) rfl, am_gm (List.mem_of_getElem? (i := 110) rfl) rfl, ⟨am_gm (List.mem_of_getElem? (i := 1482) rfl) rfl, am_gm (List.mem_of_getElem? (i := 64) rfl) rfl, by decide +kernel⟩⟩
set_option maxRecDepth 100000 in
theorem am_g211 : am_good 211 am_m211 := ⟨10, by decide, rfl, rfl, by decide +kernel, rfl, by decide +kernel, am_gm (List.mem_of_getElem? (i := 1487) rfl) rfl, am_gm (List.mem_of_getElem? (i := 110) rfl) rfl, ⟨am_gm (List.mem_of_getElem? (i := 1485) rfl) rfl, am_gm (List.mem_of_getElem? (i := 1486) rfl) rfl, by decide +kernel⟩⟩
set_option maxRecDepth 100000 in
theorem am_g212 : am_good 212 am_m212 := ⟨10, by decide, rfl, rfl, by decide +kernel, rfl, by decide +kernel, am_gm (List.mem_of_getElem? (i := 1491) rfl) rfl, am_gm (List.mem_of_getElem? (i := 110) rfl) rfl, ⟨am_gm (List.mem_of_getElem? (i := 1489) rfl) rfl, am_gm (List.mem_of_getElem? (i := 1490) rfl) rfl, by decide +kernel⟩⟩
set_option maxRecDepth 100000 in
theorem am_g213 : am_good 213 am_m213 := ⟨10, by decide, rfl, rfl, by decide +kernel, rfl, by decide +kernel, am_gm (List.mem_of_getElem? (i := 1495) rfl) rfl, am_gm (List.mem_of_getElem? (i := 110) rfl) rfl, ⟨am_gm (List.mem_of_getElem? (i := 1493) rfl) rfl, am_gm (List.mem_of_getElem? (i := 1494) rfl) rfl, by decide +kernel⟩⟩
set_option maxRecDepth 100000 in
theorem am_g214 : am_good 214 am_m214 := ⟨10, by decide, rfl, rfl, by decide +kernel, rfl, by decide +kernel, am_gm (List.mem_of_getElem? (i := 1499) rfl) rfl, am_gm (List.mem_of_getElem? (i := 110) rfl) rfl, ⟨am_gm (List.mem_of_getElem? (i := 1498) rfl) rfl, am_gm (List.mem_of_getElem? (i := 65) rfl) rfl, by decide +kernel⟩⟩
set_option maxRecDepth 100000 in
theorem am_g215 : am_good 215 am_m215 := ⟨10, by decide, rfl, rfl, by decide +kernel, rfl, by decide +kernel, am_gm (List.mem_of_getElem? (i := 1503) rfl) rfl, am_gm (List.mem_of_getElem? (i := 110) rfl) rfl, ⟨am_gm (List.mem_of_getElem? (i := 1502) rfl) rfl, am_gm (List.mem_of_getElem? (i := 66) rfl) rfl, by decide +kernel⟩⟩
set_option maxRecDepth 100000 in
theorem am_g216 : am_good 216 am_m216 := ⟨10, by decide, rfl, rfl, by decide +kernel, rfl, by decide +kernel, am_gm (List.mem_of_getElem? (i := 1507) rfl) rfl, am_gm (List.mem_of_getElem? (i := 110) rfl) rfl, ⟨am_gm (List.mem_of_getElem? (i := 1506) rfl) rfl, am_gm (List.mem_of_getElem? (i := 67) rfl) rfl, by decide +kernel⟩⟩
set_option maxRecDepth 100000 in
theorem am_g217 : am_good 217 am_m217 := ⟨10, by decide, rfl, rfl, by decide +kernel, rfl, by decide +kernel, am_gm (List.mem_of_getElem? (i := 1511) rfl) rfl, am_gm (List.mem_of_getElem? (i := 110) rfl) rfl, ⟨am_gm (List.mem_of_getElem? (i := 1510) rfl) rfl, am_gm (List.mem_of_getElem? (i := 68) rfl) rfl, by decide +kernel⟩⟩
set_option maxRecDepth 100000 in
theorem am_g218 : am_good 218 am_m218 := ⟨10, by decide, rfl, rfl, by decide +kernel, rfl, by decide +kernel, am_gm (List.mem_of_getElem? (i := 1515) rfl) rfl, am_gm (List.mem_of_getElem? (i := 110) rfl) rfl, ⟨am_gm (List.mem_of_getElem? (i := 1513) rfl) rfl, am_gm (List.mem_of_getElem? (i := 1514) rfl) rfl, by decide +kernel⟩⟩
set_option maxRecDepth 100000 in
theorem am_g219 : am_good 219 am_m219 := ⟨10, by decide, rfl, rfl, by decide +kernel, rfl, by decide +kernel, am_gm (List.mem_of_getElem? (i := 1519) rfl) rfl, am_gm (List.mem_of_getElem? (i := 110) rfl) rfl, ⟨am_gm (List.mem_of_getElem? (i := 1518) rfl) rfl, am_gm (List.mem_of_getElem? (i := 69) rfl) rfl, by decide +kernel⟩⟩
set_option maxRecDepth 100000 in
theorem am_g220 : am_good 220 am_m220 := ⟨10, by decide, rfl, rfl, by decide +kernel, rfl, by decide +kernel, am_gm (List.mem_of_getElem? (i := 1523) rfl) rfl, am_gm (List.mem_of_getElem? (i := 110) rfl) rfl, ⟨am_gm (List.mem_of_getElem? (i := 1522) rfl) rfl, am_gm (List.mem_of_getElem? (i := 70) rfl) rfl, by decide +kernel⟩⟩
set_option maxRecDepth 100000 in
theorem am_g221 : am_good 221 am_m221 := ⟨10, by decide, rfl, rfl, by decide +kernel, rfl, by decide +kernel, am_gm (List.mem_of_getElem? (i := 1527) rfl) rfl, am_gm (List.mem_of_getElem? (i := 110) rfl) rfl, ⟨am_gm (List.mem_of_getElem? (i := 1526) rfl) rfl, am_gm (List.mem_of_getElem? (i := 71) rfl) rfl, by decide +kernel⟩⟩
set_option maxRecDepth 100000 in
theorem am_g222 : am_good 222 am_m222 := ⟨10, by decide, rfl, rfl, by decide +kernel, rfl, by decide +kernel, am_gm (List.mem_of_getElem? (i := 1532) rfl) rfl, am_gm (List.mem_of_getElem? (i := 110) rfl) rfl, ⟨am_gm (List.mem_of_getElem? (i := 1530) rfl) rfl, am_gm (List.mem_of_getElem? (i := 1531) rfl) rfl, by decide +kernel⟩⟩
set_option maxRecDepth 100000 in
theorem am_g223 : am_good 223 am_m223 := ⟨10, by decide, rfl, rfl, by decide +kernel, rfl, by decide +kernel, am_gm (List.mem_of_getElem? (i := 1536) rfl) rfl, am_gm (List.mem_of_getElem? (i := 110) rfl) rfl, ⟨am_gm (List.mem_of_getElem? (i := 1534) rfl) rfl, am_gm (List.mem_of_getElem? (i := 1535) rfl) rfl, by decide +kernel⟩⟩
set_option maxRecDepth 100000 in
theorem am_g224 : am_good 224 am_m224 := ⟨10, by decide, rfl, rfl, by decide +kernel, rfl, by decide +kernel, am_gm (List.mem_of_getElem? (i := 1540) rfl) rfl, am_gm (List.mem_of_getElem? (i := 110) rfl) rfl, ⟨am_gm (List.mem_of_getElem? (i := 1539) rfl) rfl, am_gm (List.mem_of_getElem? (i := 72) rfl) rfl, by decide +kernel⟩⟩
set_option maxRecDepth 100000 in
theorem am_g225 : am_good 225 am_m225 := ⟨10, by decide, rfl, rfl, by decide +kernel, rfl, by decide +kernel, am_gm (List.mem_of_getElem? (i := 1544) rfl) rfl, am_gm (List.mem_of_getElem? (i := 110) rfl) rfl, ⟨am_gm (List.mem_of_getElem? (i := 1542) rfl) rfl, am_gm (List.mem_of_getElem? (i := 1543) rfl) rfl, by decide +kernel⟩⟩
set_option maxRecDepth 100000 in
theorem am_g226 : am_good 226 am_m226 := ⟨10, by decide, rfl, rfl, by decide +kernel, rfl, by decide +kernel, am_gm (List.mem_of_getElem? (i := 1547) rfl) rfl, am_gm (List.mem_of_getElem? (i := 110) rfl) rfl, ⟨am_gm (List.mem_of_getElem? (i := 1546) rfl) rfl, by decide +kernel⟩⟩
set_option maxRecDepth 100000 in
theorem am_g227 : am_good 227 am_m227 := ⟨10, by decide, rfl, rfl, by decide +kernel, rfl, by decide +kernel, am_gm (List.mem_of_getElem? (i := 1551) rfl) rfl, am_gm (List.mem_of_getElem? (i := 110) rfl) rfl, ⟨am_gm (List.mem_of_getElem? (i := 1549) rfl) rfl, am_gm (List.mem_of_getElem? (i := 1550) rfl) rfl, by decide +kernel⟩⟩
set_option maxRecDepth 100000 in
theorem am_g228 : am_good 228 am_m228 := ⟨10, by decide, rfl, rfl, by decide +kernel, rfl, by decide +kernel, am_gm (List.mem_of_getElem? (i := 1555) rfl) rfl, am_gm (List.mem_of_getElem? (i := 110) rfl) rfl, ⟨am_gm (List.mem_of_getElem? (i := 1553) rfl) rfl, am_gm (List.mem_of_getElem? (i := 1554) rfl) rfl, by decide +kernel⟩⟩
set_option maxRecDepth 100000 in
theorem am_g229 : am_good 229 am_m229 := ⟨10, by decide, rfl, rfl, by decide +kernel, rfl, by decide +kernel, am_gm (List.mem_of_getElem? (i := 1559) rfl) rfl, am_gm (List.mem_of_getElem? (i := 110) rfl) rfl, ⟨am_gm (List.mem_of_getElem? (i := 1558) rfl) rfl, am_gm (List.mem_of_getElem? (i := 73) rfl) rfl, by decide +kernel⟩⟩
set_option maxRecDepth 100000 in
theorem am_g230 : am_good 230 am_m230 := ⟨10, by decide, rfl, rfl, by decide +kernel, rfl, by decide +kernel, am_gm (List.mem_of_getElem? (i := 1563) rfl) rfl, am_gm (List.mem_of_getElem? (i := 110) rfl) rfl, ⟨am_gm (List.mem_of_getElem? (i := 1562) rfl) rfl, am_gm (List.mem_of_getElem? (i := 74) rfl) rfl, by decide +kernel⟩⟩
set_option maxRecDepth 100000 in
theorem am_g231 : am_good 231 am_m231 := ⟨10, by decide, rfl, rfl, by decide +kernel, rfl, by decide +kernel, am_gm (List.mem_of_getElem? (i := 1567) rfl) rfl, am_gm (List.mem_of_getElem? (i := 110) rfl) rfl, ⟨am_gm (List.mem_of_getElem? (i := 1566) rfl) rfl, am_gm (List.mem_of_getElem? (i := 75) rfl) rfl, by decide +kernel⟩⟩
set_option maxRecDepth 100000 in
theorem am_g232 : am_good 232 am_m232 := ⟨10, by decide, rfl, rfl, by decide +kernel, rfl, by decide +kernel, am_gm (List.mem_of_getElem? (i := 1571) rfl) rfl, am_gm (List.mem_of_getElem? (i := 110) rfl) rfl, ⟨am_gm (List.mem_of_getElem? (i := 1570) rfl) rfl, am_gm (List.mem_of_getElem? (i := 76) rfl) rfl, by decide +kernel⟩⟩
set_option maxRecDepth 100000 in
theorem am_g233 : am_good 233 am_m233 := ⟨10, by decide, rfl, rfl, by decide +kernel, rfl, by decide +kernel, am_gm (List.mem_of_getElem? (i := 1575) rfl) rfl, am_gm (List.mem_of_getElem? (i := 110) rfl) rfl, ⟨am_gm (List.mem_of_getElem? (i := 1574) rfl) rfl, am_gm (List.mem_of_getElem? (i := 77) rfl) rfl, by decide +kernel⟩⟩
set_option maxRecDepth 100000 in
theorem am_g234 : am_good 234 am_m234 := ⟨10, by decide, rfl, rfl, by decide +kernel, rfl, by decide +kernel, am_gm (List.mem_of_getElem? (i := 1579) rfl) rfl, am_gm (List.mem_of_getElem? (i := 110) rfl) rfl, ⟨am_gm (List.mem_of_getElem? (i := 1577) rfl) rfl, am_gm (List.mem_of_getElem? (i := 1578) rfl) rfl, by decide +kernel⟩⟩
set_option maxRecDepth 100000 in
theorem am_g235 : am_good 235 am_m235 := ⟨10, by decide, rfl, rfl, by decide +kernel, rfl, by decide +kernel, am_gm (List.mem_of_getElem? (i := 1583) rfl) rfl, am_gm (List.mem_of_getElem? (i := 110) rfl) rfl, ⟨am_gm (List.mem_of_getElem? (i := 1582) rfl) rfl, am_gm (List.mem_of_getElem? (i := 78) rfl) rfl, by decide +kernel⟩⟩
set_option maxRecDepth 100000 in
theorem am_g236 : am_good 236 am_m236 := ⟨10, by decide, rfl, rfl, by decide +kernel, rfl, by decide +kernel, am_gm (List.mem_of_getElem? (i := 1587) rfl) rfl, am_gm (List.mem_of_getElem? (i := 110) rfl) rfl, ⟨am_gm (List.mem_of_getElem? (i := 1586) rfl) rfl, am_gm (List.mem_of_getElem? (i := 79) rfl) rfl, by decide +kernel⟩⟩
set_option maxRecDepth 100000 in
theorem am_g237 : am_good 237 am_m237 := ⟨10, by decide, rfl, rfl, by decide +kernel, rfl, by decide +kernel, am_gm (List.mem_of_getElem? (i := 1591) rfl) rfl, am_gm (List.mem_of_getElem? (i := 110) rfl) rfl, ⟨am_gm (List.mem_of_getElem? (i := 1589) rfl) rfl, am_gm (List.mem_of_getElem? (i := 1590) rfl) rfl, by decide +kernel⟩⟩
set_option maxRecDepth 100000 in
theorem am_g238 : am_good 238 am_m238 := ⟨10, by decide, rfl, rfl, by decide +kernel, rfl, by decide +kernel, am_gm (List.mem_of_getElem? (i := 1595) rfl) rfl, am_gm (List.mem_of_getElem? (i := 110) rfl) rfl, ⟨am_gm (List.mem_of_getElem? (i := 1594) rfl) rfl, am_gm (List.mem_of_getElem? (i := 80) rfl) rfl, by decide +kernel⟩⟩
set_option maxRecDepth 100000 in
theorem am_g239 : am_good 239 am_m239 := ⟨10, by decide, rfl, rfl, by decide +kernel, rfl, by decide +kernel, am_gm (List.mem_of_getElem? (i := 1599) rfl) rfl, am_gm (List.mem_of_getElem? (i := 110) rfl) rfl, ⟨am_gm (List.mem_of_getElem? (i := 1598) rfl) rfl, am_gm (List.mem_of_getElem? (i := 81) rfl) rfl, by decide +kernel⟩⟩
set_option maxRecDepth 100000 in
theorem am_g240 : am_good 240 am_m240 := ⟨10, by decide, rfl, rfl, by decide +kernel, rfl, by decide +kernel, am_gm (List.mem_of_getElem? (i := 1604) rfl) rfl, am_gm (List.mem_of_getElem? (i := 110) rfl) rfl, ⟨am_gm (List.mem_of_getElem? (i := 1602) rfl) rfl, am_gm (List.mem_of_getElem? (i := 1603) rfl) rfl, by decide +kernel⟩⟩
set_option maxRecDepth 100000 in
theorem am_g241 : am_good 241 am_m241 := ⟨10, by decide, rfl, rfl, by decide +kernel, rfl, by decide +kernel, am_gm (List.mem_of_getElem? (i := 1608) rfl) rfl, am_gm (List.mem_of_getElem? (i := 110) rfl) rfl, ⟨am_gm (List.mem_of_getElem? (i := 1607) rfl) rfl, am_gm (List.mem_of_getElem? (i := 82) rfl) rfl, by decide +kernel⟩⟩
set_option maxRecDepth 100000 in
theorem am_g242 : am_good 242 am_m242 := ⟨10, by decide, rfl, rfl, by decide +kernel, rfl, by decide +kernel, am_gm (List.mem_of_getElem? (i := 1614) rfl) rfl, am_gm (List.mem_of_getElem? (i := 110) rfl) rfl, ⟨am_gm (List.mem_of_getElem? (i := 1612) rfl) rfl, am_gm (List.mem_of_getElem? (i := 1613) rfl) rfl, by decide +kernel⟩⟩
set_option maxRecDepth 100000 in
theorem am_g243 : am_good 243 am_m243 := ⟨10, by decide, rfl, rfl, by decide +kernel, rfl, by decide +kernel, am_gm (List.mem_of_getElem? (i := 1618) rfl) rfl, am_gm (List.mem_of_getElem? (i := 110) rfl) rfl, ⟨am_gm (List.mem_of_getElem? (i := 1616) rfl) rfl, am_gm (List.mem_of_getElem? (i := 1617) rfl) rfl, by decide +kernel⟩⟩
set_option maxRecDepth 100000 in
theorem am_g244 : am_good 244 am_m244 := ⟨10, by decide, rfl, rfl, by decide +kernel, rfl, by decide +kernel, am_gm (List.mem_of_getElem? (i := 1622) rfl) rfl, am_gm (List.mem_of_getElem? (i := 110) rfl) rfl, ⟨am_gm (List.mem_of_getElem? (i := 1620) rfl) rfl, am_gm (List.mem_of_getElem? (i := 1621) rfl) rfl, by decide +kernel⟩⟩
set_option maxRecDepth 100000 in
theorem am_g245 : am_good 245 am_m245 := ⟨10, by decide, rfl, rfl, by decide +kernel, rfl, by decide +kernel, am_gm (List.mem_of_getElem? (i := 1626) rfl) rfl, am_gm (List.mem_of_getElem? (i := 110) rfl) rfl, ⟨am_gm (List.mem_of_getElem? (i := 1625) rfl) rfl, am_gm (List.mem_of_getElem? (i := 83) rfl) rfl, by decide +kernel⟩⟩
set_option maxRecDepth 100000 in
theorem am_g246 : am_good 246 am_m246 := ⟨10, by decide, rfl, rfl, by decide +kernel, rfl, by decide +kernel, am_gm (List.mem_of_getElem? (i := 1630) rfl) rfl, am_gm (List.mem_of_getElem? (i := 110) rfl) rfl, ⟨am_gm (List.mem_of_getElem? (i := 1629) rfl) rfl, am_gm (List.mem_of_getElem? (i := 84) rfl) rfl, by decide +kernel⟩⟩
set_option maxRecDepth 100000 in
theorem am_g247 : am_good 247 am_m247 := ⟨10, by decide, rfl, rfl, by decide +kernel, rfl, by decide +kernel, am_gm (List.mem_of_getElem? (i := 1634) rfl) rfl, am_gm (List.mem_of_getElem? (i := 110) rfl) rfl, ⟨am_gm (List.mem_of_getElem? (i := 1632) rfl) rfl, am_gm (List.mem_of_getElem? (i := 1633) rfl) rfl, by decide +kernel⟩⟩
set_option maxRecDepth 100000 in
theorem am_g248 : am_good 248 am_m248 := ⟨10, by decide, rfl, rfl, by decide +kernel, rfl, by decide +kernel, am_gm (List.mem_of_getElem? (i := 1638) rfl) rfl, am_gm (List.mem_of_getElem? (i := 110) rfl) rfl, ⟨am_gm (List.mem_of_getElem? (i := 1636) rfl) rfl, am_gm (List.mem_of_getElem? (i := 1637) rfl) rfl, by decide +kernel⟩⟩
set_option maxRecDepth 100000 in
theorem am_g249 : am_good 249 am_m249 := ⟨10, by decide, rfl, rfl, by decide +kernel, rfl, by decide +kernel, am_gm (List.mem_of_getElem? (i := 1642) rfl) rfl, am_gm (List.mem_of_getElem? (i := 110) rfl) rfl, ⟨am_gm (List.mem_of_getElem? (i := 1640) rfl) rfl, am_gm (List.mem_of_getElem? (i := 1641) rfl) rfl, by decide +kernel⟩⟩
set_option maxRecDepth 100000 in
theorem am_g250 : am_good 250 am_m250 := ⟨10, by decide, rfl, rfl, by decide +kernel, rfl, by decide +kernel, am_gm (List.mem_of_getElem? (i := 1646) rfl) rfl, am_gm (List.mem_of_getElem? (i := 110) rfl) rfl, ⟨am_gm (List.mem_of_getElem? (i := 1644) rfl) rfl, am_gm (List.mem_of_getElem? (i := 1645) rfl) rfl, by decide +kernel⟩⟩
set_option maxRecDepth 100000 in
theorem am_g251 : am_good 251 am_m251 := ⟨10, by decide, rfl, rfl, by decide +kernel, rfl, by decide +kernel, am_gm (List.mem_of_getElem? (i := 1650) rfl) rfl, am_gm (List.mem_of_getElem? (i := 110) rfl) rfl, ⟨am_gm (List.mem_of_getElem? (i := 1649) rfl) rfl, am_gm (List.mem_of_getElem? (i := 85) rfl) rfl, by decide +kernel⟩⟩
set_option maxRecDepth 100000 in
theorem am_g252 : am_good 252 am_m252 := ⟨10, by decide, rfl, rfl, by decide +kernel, rfl, by decide +kernel, am_gm (List.mem_of_getElem? (i := 1654) rfl) rfl, am_gm (List.mem_of_getElem? (i := 110) rfl) rfl, ⟨am_gm (List.mem_of_getElem? (i := 1653) rfl) rfl, am_gm (List.mem_of_getElem? (i := 86) rfl) rfl, by decide +kernel⟩⟩
set_option maxRecDepth 100000 in
theorem am_g253 : am_good 253 am_m253 := ⟨10, by decide, rfl, rfl, by decide +kernel, rfl, by decide +kernel, am_gm (List.mem_of_getElem? (i := 1658) rfl) rfl, am_gm (List.mem_of_getElem? (i := 110) rfl) rfl, ⟨am_gm (List.mem_of_getElem? (i := 1656) rfl) rfl, am_gm (List.mem_of_getElem? (i := 1657) rfl) rfl, by decide +kernel⟩⟩
set_option maxRecDepth 100000 in
theorem am_g254 : am_good 254 am_m254 := ⟨10, by decide, rfl, rfl, by decide +kernel, rfl, by decide +kernel, am_gm (List.mem_of_getElem? (i := 1661) rfl) rfl, am_gm (List.mem_of_getElem? (i := 110) rfl) rfl, ⟨am_gm (List.mem_of_getElem? (i := 1660) rfl) rfl, by decide +kernel⟩⟩
set_option maxRecDepth 100000 in
theorem am_g255 : am_good 255 am_m255 := ⟨10, by decide, rfl, rfl, by decide +kernel, rfl, by decide +kernel, am_gm (List.mem_of_getElem? (i := 1665) rfl) rfl, am_gm (List.mem_of_getElem? (i := 110) rfl) rfl, ⟨am_gm (List.mem_of_getElem? (i := 1664) rfl) rfl, am_gm (List.mem_of_getElem? (i := 87) rfl) rfl, by decide +kernel⟩⟩
set_option maxRecDepth 100000 in
theorem am_g256 : am_good 256 am_m256 := ⟨10, by decide, rfl, rfl, by decide +kernel, rfl, by decide +kernel, am_gm (List.mem_of_getElem? (i := 1669) rfl) rfl, am_gm (List.mem_of_getElem? (i := 110) rfl) rfl, ⟨am_gm (List.mem_of_getElem? (i := 1667) rfl) rfl, am_gm (List.mem_of_getElem? (i := 1668) rfl) rfl, by decide +kernel⟩⟩
set_option maxRecDepth 100000 in
theorem am_g257 : am_good 257 am_m257 := ⟨10, by decide, rfl, rfl, by decide +kernel, rfl, by decide +kernel, am_gm (List.mem_of_getElem? (i := 1673) rfl) rfl, am_gm (List.mem_of_getElem? (i := 110) rfl) rfl, ⟨am_gm (List.mem_of_getElem? (i := 1671) rfl) rfl, am_gm (List.mem_of_getElem? (i := 1672) rfl) rfl, by decide +kernel⟩⟩
set_option maxRecDepth 100000 in
theorem am_g258 : am_good 258 am_m258 := ⟨10, by decide, rfl, rfl, by decide +kernel, rfl, by decide +kernel, am_gm (List.mem_of_getElem? (i := 1677) rfl) rfl, am_gm (List.mem_of_getElem? (i := 110) rfl) rfl, ⟨am_gm (List.mem_of_getElem? (i := 1676) rfl) rfl, am_gm (List.mem_of_getElem? (i := 88) rfl) rfl, by decide +kernel⟩⟩
set_option maxRecDepth 100000 in
theorem am_g259 : am_good 259 am_m259 := ⟨10, by decide, rfl, rfl, by decide +kernel, rfl, by decide +kernel, am_gm (List.mem_of_getElem? (i := 1681) rfl) rfl, am_gm (List.mem_of_getElem? (i := 110) rfl) rfl, ⟨am_gm (List.mem_of_getElem? (i := 1680) rfl) rfl, am_gm (List.mem_of_getElem? (i := 89) rfl) rfl, by decide +kernel⟩⟩
set_option maxRecDepth 100000 in
theorem am_g260 : am_good 260 am_m260 := ⟨10, by decide, rfl, rfl, by decide +kernel, rfl, by decide +kernel, am_gm (List.mem_of_getElem? (i := 1685) rfl) rfl, am_gm (List.mem_of_getElem? (i := 110) rfl) rfl, ⟨am_gm (List.mem_of_getElem? (i := 1684) rfl) rfl, am_gm (List.mem_of_getElem? (i := 90) rfl) rfl, by decide +kernel⟩⟩
set_option maxRecDepth 100000 in
theorem am_g261 : am_good 261 am_m261 := ⟨10, by decide, rfl, rfl, by decide +kernel, rfl, by decide +kernel, am_gm (List.mem_of_getElem? (i := 1689) rfl) rfl, am_gm (List.mem_of_getElem? (i := 110) rfl) rfl, ⟨am_gm (List.mem_of_getElem? (i := 1688) rfl) rfl, am_gm (List.mem_of_getElem? (i := 91) rfl) rfl, by decide +kernel⟩⟩
set_option maxRecDepth 100000 in
theorem am_g262 : am_good 262 am_m262 := ⟨10, by decide, rfl, rfl, by decide +kernel, rfl, by decide +kernel, am_gm (List.mem_of_getElem? (i := 1693) rfl) rfl, am_gm (List.mem_of_getElem? (i := 110) rfl) rfl, ⟨am_gm (List.mem_of_getElem? (i := 1691) rfl) rfl, am_gm (List.mem_of_getElem? (i := 1692) rfl) rfl, by decide +kernel⟩⟩
set_option maxRecDepth 100000 in
theorem am_g263 : am_good 263 am_m263 := ⟨10, by decide, rfl, rfl, by decide +kernel, rfl, by decide +kernel, am_gm (List.mem_of_getElem? (i := 1697) rfl) rfl, am_gm (List.mem_of_getElem? (i := 110) rfl) rfl, ⟨am_gm (List.mem_of_getElem? (i := 1696) rfl) rfl, am_gm (List.mem_of_getElem? (i := 92) rfl) rfl, by decide +kernel⟩⟩
set_option maxRecDepth 100000 in
theorem am_g264 : am_good 264 am_m264 := ⟨10, by decide, rfl, rfl, by decide +kernel, rfl, by decide +kernel, am_gm (List.mem_of_getElem? (i := 1701) rfl) rfl, am_gm (List.mem_of_getElem? (i := 110) rfl) rfl, ⟨am_gm (List.mem_of_getElem? (i := 1699) rfl) rfl, am_gm (List.mem_of_getElem? (i := 1700) rfl) rfl, by decide +kernel⟩⟩
set_option maxRecDepth 100000 in
theorem am_g265 : am_good 265 am_m265 := ⟨10, by decide, rfl, rfl, by decide +kernel, rfl, by decide +kernel, am_gm (List.mem_of_getElem? (i := 1705) rfl) rfl, am_gm (List.mem_of_getElem? (i := 110) rfl) rfl, ⟨am_gm (List.mem_of_getElem? (i := 1703) rfl) rfl, am_gm (List.mem_of_getElem? (i := 1704) rfl) rfl, by decide +kernel⟩⟩
set_option maxRecDepth 100000 in
theorem am_g266 : am_good 266 am_m266 := ⟨10, by decide, rfl, rfl, by decide +kernel, rfl, by decide +kernel, am_gm (List.mem_of_getElem? (i := 1709) rfl) rfl, am_gm (List.mem_of_getElem? (i := 110) rfl) rfl, ⟨am_gm (List.mem_of_getElem? (i := 1708) rfl) rfl, am_gm (List.mem_of_getElem? (i := 93) rfl) rfl, by decide +kernel⟩⟩
set_option maxRecDepth 100000 in
theorem am_g267 : am_good 267 am_m267 := ⟨10, by decide, rfl, rfl, by decide +kernel, rfl, by decide +kernel, am_gm (List.mem_of_getElem? (i := 1713) rfl) rfl, am_gm (List.mem_of_getElem? (i := 110) rfl) rfl, ⟨am_gm (List.mem_of_getElem? (i := 1711) rfl) rfl, am_gm (List.mem_of_getElem? (i := 1712) rfl) rfl, by decide +kernel⟩⟩
set_option maxRecDepth 100000 in
theorem am_g268 : am_good 268 am_m268 := ⟨10, by decide, rfl, rfl, by decide +kernel, rfl, by decide +kernel, am_gm (List.mem_of_getElem? (i := 1717) rfl) rfl, am_gm (List.mem_of_getElem? (i := 110) rfl) rfl, ⟨am_gm (List.mem_of_getElem? (i := 1715) rfl) rfl, am_gm (List.mem_of_getElem? (i := 1716) rfl) rfl, by decide +kernel⟩⟩
set_option maxRecDepth 100000 in
theorem am_g269 : am_good 269 am_m269 := ⟨10, by decide, rfl, rfl, by decide +kernel, rfl, by decide +kernel, am_gm (List.mem_of_getElem? (i := 1721) rfl) rfl, am_gm (List.mem_of_getElem? (i := 110) rfl) rfl, ⟨am_gm (List.mem_of_getElem? (i := 1719) rfl) rfl, am_gm (List.mem_of_getElem? (i := 1720) rfl) rfl, by decide +kernel⟩⟩
set_option maxRecDepth 100000 in
theorem am_g270 : am_good 270 am_m270 := ⟨10, by decide, rfl, rfl, by decide +kernel, rfl, by decide +kernel, am_gm (List.mem_of_getElem? (i := 1725) rfl) rfl, am_gm (List.mem_of_getElem? (i := 110) rfl) rfl, ⟨am_gm (List.mem_of_getElem? (i := 1723) rfl) rfl, am_gm (List.mem_of_getElem? (i := 1724) rfl) rfl, by decide +kernel⟩⟩
set_option maxRecDepth 100000 in
theorem am_g271 : am_good 271 am_m271 := ⟨10, by decide, rfl, rfl, by decide +kernel, rfl, by decide +kernel, am_gm (List.mem_of_getElem? (i := 1729) rfl) rfl, am_gm (List.mem_of_getElem? (i := 110) rfl) rfl, ⟨am_gm (List.mem_of_getElem? (i := 1728) rfl) rfl, am_gm (List.mem_of_getElem? (i := 94) rfl) rfl, by decide +kernel⟩⟩
set_option maxRecDepth 100000 in
theorem am_g272 : am_good 272 am_m272 := ⟨10, by decide, rfl, rfl, by decide +kernel, rfl, by decide +kernel, am_gm (List.mem_of_getElem? (i := 1733) rfl) rfl, am_gm (List.mem_of_getElem? (i := 110) rfl) rfl, ⟨am_gm (List.mem_of_getElem? (i := 1731) rfl) rfl, am_gm (List.mem_of_getElem? (i := 1732) rfl) rfl, by decide +kernel⟩⟩
set_option maxRecDepth 100000 in
theorem am_g273 : am_good 273 am_m273 := ⟨10, by decide, rfl, rfl, by decide +kernel, rfl, by decide +kernel, am_gm (List.mem_of_getElem? (i := 1737) rfl) rfl, am_gm (List.mem_of_getElem? (i := 110) rfl) rfl, ⟨am_gm (List.mem_of_getElem? (i := 1735) rfl) rfl, am_gm (List.mem_of_getElem? (i := 1736) rfl) rfl, by decide +kernel⟩⟩
set_option maxRecDepth 100000 in
theorem am_g274 : am_good 274 am_m274 := ⟨10, by decide, rfl, rfl, by decide +kernel, rfl, by decide +kernel, am_gm (List.mem_of_getElem? (i := 1741) rfl) rfl, am_gm (List.mem_of_getElem? (i := 110) rfl) rfl, ⟨am_gm (List.mem_of_getElem? (i := 1739) rfl) rfl, am_gm (List.mem_of_getElem? (i := 1740) rfl) rfl, by decide +kernel⟩⟩
set_option maxRecDepth 100000 in
theorem am_g275 : am_good 275 am_m275 := ⟨10, by decide, rfl, rfl, by decide +kernel, rfl, by decide +kernel, am_gm (List.mem_of_getElem? (i := 1746) rfl) rfl, am_gm (List.mem_of_getElem? (i := 110) rfl) rfl, ⟨am_gm (List.mem_of_getElem? (i := 1745) rfl) rfl, am_gm (List.mem_of_getElem? (i := 95) rfl) rfl, by decide +kernel⟩⟩
set_option maxRecDepth 100000 in
theorem am_g276 : am_good 276 am_m276 := ⟨10, by decide, rfl, rfl, by decide +kernel, rfl, by decide +kernel, am_gm (List.mem_of_getElem? (i := 1751) rfl) rfl, am_gm (List.mem_of_getElem? (i := 110) rfl) rfl, ⟨am_gm (List.mem_of_getElem? (i := 1750) rfl) rfl, am_gm (List.mem_of_getElem? (i := 96) rfl) rfl, by decide +kernel⟩⟩
set_option maxRecDepth 100000 in
theorem am_gall : ∀ (j : Nat) (m : am_M), am_meths[j]? = some m → j ≠ 0 → am_good j m := by
  intro j m h hj
  match j with
  | 0 => exact absurd rfl hj
  | 1 => cases h; exact am_g1
  | 2 => cases h; exact am_g2
  | 3 => cases h; exact am_g3
  | 4 => cases h; exact am_g4
  | 5 => cases h; exact am_g5
  | 6 => cases h; exact am_g6
  | 7 => cases h; exact am_g7
  | 8 => cases h; exact am_g8
  | 9 => cases h; exact am_g9
  | 10 => cases h; exact am_g10
  | 11 => cases h; exact am_g11
  | 12 => cases h; exact am_g12
  | 13 => cases h; exact am_g13
  | 14 => cases h; exact am_g14
  | 15 => cases h; exact am_g15
  | 16 => cases h; exact am_g16
  | 17 => cases h; exact am_g17
  | 18 => cases h; exact am_g18
  | 19 => cases h; exact am_g19
  | 20 => cases h; exact am_g20
  | 21 => cases h; exact am_g21
  | 22 => cases h; exact am_g22
  | 23 => cases h; exact am_g23
  | 24 => cases h; exact am_g24
  | 25 => cases h; exact am_g25
  | 26 => cases h; exact am_g26
  | 27 => cases h; exact am_g27
  | 28 => cases h; exact am_g28
  | 29 => cases h; exact am_g29
  | 30 => cases h; exact am_g30
  | 31 => cases h; exact am_g31
  | 32 => cases h; exact am_g32
  | 33 => cases h; exact am_g33
  | 34 => cases h; exact am_g34
  | 35 => cases h; exact am_g35
  | 36 => cases h; exact am_g36
  | 37 => cases h; exact am_g37
  | 38 => cases h; exact am_g38
  | 39 => cases h; exact am_g39
  | 40 => cases h; exact am_g40
  | 41 => cases h; exact am_g41
  | 42 => cases h; exact am_g42
  | 43 => cases h; exact am_g43
  | 44 => cases h; exact am_g44
  | 45 => cases h; exact am_g45
  | 46 => cases h; exact am_g46
  | 47 => cases h; exact am_g47
  | 48 => cases h; exact am_g48
  | 49 => cases h; exact am_g49
  | 50 => cases h; exact am_g50
  | 51 => cases h; exact am_g51
  | 52 => cases h; exact am_g52
  | 53 => cases h; exact am_g53
  | 54 => cases h; exact am_g54
  | 55 => cases h; exact am_g55
  | 56 => cases h; exact am_g56
  | 57 => cases h; exact am_g57
  | 58 => cases h; exact am_g58
  | 59 => cases h; exact am_g59
  | 60 => cases h; exact am_g60
  | 61 => cases h; exact am_g61
  | 62 => cases h; exact am_g62
  | 63 => cases h; exact am_g63
  | 64 => cases h; exact am_g64
  | 65 => cases h; exact am_g65
  | 66 => cases h; exact am_g66
  | 67 => cases h; exact am_g67
  | 68 => cases h; exact am_g68
  | 69 => cases h; exact am_g69
  | 70 => cases h; exact am_g70
  | 71 => cases h; exact am_g71
  | 72 => cases h; exact am_g72
  | 73 => cases h; exact am_g73
  | 74 => cases h; exact am_g74
  | 75 => cases h; exact am_g75
  | 76 => cases h; exact am_g76
  | 77 => cases h; exact am_g77
  | 78 => cases h; exact am_g78
  | 79 => cases h; exact am_g79
  | 80 => cases h; exact am_g80
  | 81 => cases h; exact am_g81
  | 82 => cases h; exact am_g82
  | 83 => cases h; exact am_g83
  | 84 => cases h; exact am_g84
  | 85 => cases h; exact am_g85
  | 86 => cases h; exact am_g86
  | 87 => cases h; exact am_g87
  | 88 => cases h; exact am_g88
  | 89 => cases h; exact am_g89
  | 90 => cases h; exact am_g90
  | 91 => cases h; exact am_g91
  | 92 => cases h; exact am_g92
  | 93 => cases h; exact am_g93
  | 94 => cases h; exact am_g94
  | 95 => cases h; exact am_g95
  | 96 => cases h; exact am_g96
  | 97 => cases h; exact am_g97
  | 98 => cases h; exact am_g98
  | 99 => cases h; exact am_g99
  | 100 => cases h; exact am_g100
  | 101 => cases h; exact am_g101
  | 102 => cases h; exact am_g102
  | 103 => cases h; exact am_g103
  | 104 => cases h; exact am_g104
  | 105 => cases h; exact am_g105
  | 106 => cases h; exact am_g106
  | 107 => cases h; exact am_g107
  | 108 => cases h; exact am_g108
  | 109 => cases h; exact am_g109
  | 110 => cases h; exact am_g110
  | 111 => cases h; exact am_g111
  | 112 => cases h; exact am_g112
  | 113 => cases h; exact am_g113
  | 114 => cases h; exact am_g114
  | 115 => cases h; exact am_g115
  | 116 => cases h; exact am_g116
  | 117 => cases h; exact am_g117
  | 118 => cases h; exact am_g118
  | 119 => cases h; exact am_g119
  | 120 => cases h; exact am_g120
  | 121 => cases h; exact am_g121
  | 122 => cases h; exact am_g122
  | 123 => cases h; exact am_g123
  | 124 => cases h; exact am_g124
  | 125 => cases h; exact am_g125
  | 126 => cases h; exact am_g126
  | 127 => cases h; exact am_g127
  | 128 => cases h; exact am_g128
  | 129 => cases h; exact am_g129
  | 130 => cases h; exact am_g130
  | 131 => cases h; exact am_g131
  | 132 => cases h; exact am_g132
  | 133 => cases h; exact am_g133
  | 134 => cases h; exact am_g134
  | 135 => cases h; exact am_g135
  | 136 => cases h; exact am_g136
  | 137 => cases h; exact am_g137
  | 138 => cases h; exact am_g138
  | 139 => cases h; exact am_g139
  | 140 => cases h; exact am_g140
  | 141 => cases h; exact am_g141
  | 142 => cases h; exact am_g142
  | 143 => cases h; exact am_g143
  | 144 => cases h; exact am_g144
  | 145 => cases h; exact am_g145
  | 146 => cases h; exact am_g146
  | 147 => cases h; exact am_g147
  | 148 => cases h; exact am_g148
  | 149 => cases h; exact am_g149
  | 150 => cases h; exact am_g150
  | 151 => cases h; exact am_g151
  | 152 => cases h; exact am_g152
  | 153 => cases h; exact am_g153
  | 154 => cases h; exact am_g154
  | 155 => cases h; exact am_g155
  | 156 => cases h; exact am_g156
  | 157 => cases h; exact am_g157
  | 158 => cases h; exact am_g158
  | 159 => cases h; exact am_g159
  | 160 => cases h; exact am_g160
  | 161 => cases h; exact am_g161
  | 162 => cases h; exact am_g162
  | 163 => cases h; exact am_g163
  | 164 => cases h; exact am_g164
  | 165 => cases h; exact am_g165
  | 166 => cases h; exact am_g166
  | 167 => cases h; exact am_g167
  | 168 => cases h; exact am_g168
  | 169 => cases h; exact am_g169
  | 170 => cases h; exact am_g170
  | 171 => cases h; exact am_g171
  | 172 => cases h; exact am_g172
  | 173 => cases h; exact am_g173
  | 174 => cases h; exact am_g174
  | 175 => cases h; exact am_g175
  | 176 => cases h; exact am_g176
  | 177 => cases h; exact am_g177
  | 178 => cases h; exact am_g178
  | 179 => cases h; exact am_g179
  | 180 => cases h; exact am_g180
  | 181 => cases h; exact am_g181
  | 182 => cases h; exact am_g182
  | 183 => cases h; exact am_g183
  | 184 => cases h; exact am_g184
  | 185 => cases h; exact am_g185
  | 186 => cases h; exact am_g186
  | 187 => cases h; exact am_g187
  | 188 => cases h; exact am_g188
  | 189 => cases h; exact am_g189
  | 190 => cases h; exact am_g190
  | 191 => cases h; exact am_g191
  | 192 => cases h; exact am_g192
  | 193 => cases h; exact am_g193
  | 194 => cases h; exact am_g194
  | 195 => cases h; exact am_g195
  | 196 => cases h; exact am_g196
  | 197 => cases h; exact am_g197
  | 198 => cases h; exact am_g198
  | 199 => cases h; exact am_g199
  | 200 => cases h; exact am_g200
  | 201 => cases h; exact am_g201
  | 202 => cases h; exact am_g202
  | 203 => cases h; exact am_g203
  | 204 => cases h; exact am_g204
  | 205 => cases h; exact am_g205
  | 206 => cases h; exact am_g206
  | 207 => cases h; exact am_g207
  | 208 => cases h; exact am_g208
  | 209 => cases h; exact am_g209
  | 210 => cases h; exact am_g210
  | 211 => cases h; exact am_g211
  | 212 => cases h; exact am_g212
  | 213 => cases h; exact am_g213
  | 214 => cases h; exact am_g214
  | 215 => cases h; exact am_g215
  | 216 => cases h; exact am_g216
  | 217 => cases h; exact am_g217
  | 218 => cases h; exact am_g218
  | 219 => cases h; exact am_g219
  | 220 => cases h; exact am_g220
  | 221 => cases h; exact am_g221
  | 222 => cases h; exact am_g222
  | 223 => cases h; exact am_g223
  | 224 => cases h; exact am_g224
  | 225 => cases h; exact am_g225
  | 226 => cases h; exact am_g226
  | 227 => cases h; exact am_g227
  | 228 => cases h; exact am_g228
  | 229 => cases h; exact am_g229
  | 230 => cases h; exact am_g230
  | 231 => cases h; exact am_g231
  | 232 => cases h; exact am_g232
  | 233 => cases h; exact am_g233
  | 234 => cases h; exact am_g234
  | 235 => cases h; exact am_g235
  | 236 => cases h; exact am_g236
  | 237 => cases h; exact am_g237
  | 238 => cases h; exact am_g238
  | 239 => cases h; exact am_g239
  | 240 => cases h; exact am_g240
  | 241 => cases h; exact am_g241
  | 242 => cases h; exact am_g242
  | 243 => cases h; exact am_g243
  | 244 => cases h; exact am_g244
  | 245 => cases h; exact am_g245
  | 246 => cases h; exact am_g246
  | 247 => cases h; exact am_g247
  | 248 => cases h; exact am_g248
  | 249 => cases h; exact am_g249
  | 250 => cases h; exact am_g250
  | 251 => cases h; exact am_g251
  | 252 => cases h; exact am_g252
  | 253 => cases h; exact am_g253
  | 254 => cases h; exact am_g254
  | 255 => cases h; exact am_g255
  | 256 => cases h; exact am_g256
  | 257 => cases h; exact am_g257
  | 258 => cases h; exact am_g258
  | 259 => cases h; exact am_g259
  | 260 => cases h; exact am_g260
  | 261 => cases h; exact am_g261
  | 262 => cases h; exact am_g262
  | 263 => cases h; exact am_g263
  | 264 => cases h; exact am_g264
  | 265 => cases h; exact am_g265
  | 266 => cases h; exact am_g266
  | 267 => cases h; exact am_g267
  | 268 => cases h; exact am_g268
  | 269 => cases h; exact am_g269
  | 270 => cases h; exact am_g270
  | 271 => cases h; exact am_g271
  | 272 => cases h; exact am_g272
  | 273 => cases h; exact am_g273
  | 274 => cases h; exact am_g274
  | 275 => cases h; exact am_g275
  | 276 => cases h; exact am_g276
  | j + 277 => simp [am_meths] at h
end
section
def am_law_c (k pc : Nat) : Bool := am_chk 11 (am_m0.1.name == "<init>") 4 (some .boolean) 9 334 am_s0 code pc (am_b0.getD k [])
set_option maxRecDepth 100000 in
theorem am_g0_0 : am_law_c 0 0 = true := by decide +kernel
set_option maxRecDepth 100000 in
theorem am_g0_1 : am_law_c 1 18 = true := by decide +kernel
set_option maxRecDepth 100000 in
theorem am_g0_2 : am_law_c 2 240 = true := by decide +kernel
set_option maxRecDepth 100000 in
theorem am_g0_3 : am_law_c 3 273 = true := by decide +kernel
set_option maxRecDepth 100000 in
theorem am_g0_4 : am_law_c 4 316 = true := by decide +kernel
set_option maxRecDepth 100000 in
theorem am_g0_5 : am_law_c 5 349 = true := by decide +kernel
set_option maxRecDepth 100000 in
theorem am_g0_6 : am_law_c 6 372 = true := by decide +kernel
set_option maxRecDepth 100000 in
theorem am_g0_7 : am_law_c 7 435 = true := by decide +kernel
set_option maxRecDepth 100000 in
theorem am_g0_8 : am_law_c 8 458 = true := by decide +kernel
set_option maxRecDepth 100000 in
theorem am_g0_9 : am_law_c 9 491 = true := by decide +kernel
set_option maxRecDepth 100000 in
theorem am_g0_10 : am_law_c 10 534 = true := by decide +kernel
set_option maxRecDepth 100000 in
theorem am_g0_11 : am_law_c 11 557 = true := by decide +kernel
set_option maxRecDepth 100000 in
theorem am_g0_12 : am_law_c 12 580 = true := by decide +kernel
set_option maxRecDepth 100000 in
theorem am_g0_13 : am_law_c 13 613 = true := by decide +kernel
set_option maxRecDepth 100000 in
theorem am_g0_14 : am_law_c 14 636 = true := by decide +kernel
set_option maxRecDepth 100000 in
theorem am_g0_15 : am_law_c 15 649 = true := by decide +kernel
set_option maxRecDepth 100000 in
theorem am_g0_16 : am_law_c 16 682 = true := by decide +kernel
set_option maxRecDepth 100000 in
theorem am_g0_17 : am_law_c 17 725 = true := by decide +kernel
set_option maxRecDepth 100000 in
theorem am_g0_18 : am_law_c 18 768 = true := by decide +kernel
set_option maxRecDepth 100000 in
theorem am_g0_19 : am_law_c 19 801 = true := by decide +kernel
set_option maxRecDepth 100000 in
theorem am_g0_20 : am_law_c 20 824 = true := by decide +kernel
set_option maxRecDepth 100000 in
theorem am_g0_21 : am_law_c 21 867 = true := by decide +kernel
set_option maxRecDepth 100000 in
theorem am_g0_22 : am_law_c 22 900 = true := by decide +kernel
set_option maxRecDepth 100000 in
theorem am_g0_23 : am_law_c 23 933 = true := by decide +kernel
set_option maxRecDepth 100000 in
theorem am_g0_24 : am_law_c 24 956 = true := by decide +kernel
set_option maxRecDepth 100000 in
theorem am_g0_25 : am_law_c 25 979 = true := by decide +kernel
set_option maxRecDepth 100000 in
theorem am_g0_26 : am_law_c 26 1012 = true := by decide +kernel
set_option maxRecDepth 100000 in
theorem am_g0_27 : am_law_c 27 1045 = true := by decide +kernel
set_option maxRecDepth 100000 in
theorem am_g0_28 : am_law_c 28 1058 = true := by decide +kernel
set_option maxRecDepth 100000 in
theorem am_g0_29 : am_law_c 29 1081 = true := by decide +kernel
set_option maxRecDepth 100000 in
theorem am_g0_30 : am_law_c 30 1094 = true := by decide +kernel
set_option maxRecDepth 100000 in
theorem am_g0_31 : am_law_c 31 1127 = true := by decide +kernel
set_option maxRecDepth 100000 in
theorem am_g0_32 : am_law_c 32 1170 = true := by decide +kernel
set_option maxRecDepth 100000 in
theorem am_g0_33 : am_law_c 33 1203 = true := by decide +kernel
set_option maxRecDepth 100000 in
theorem am_g0_34 : am_law_c 34 1226 = true := by decide +kernel
set_option maxRecDepth 100000 in
theorem am_g0_35 : am_law_c 35 1279 = true := by decide +kernel
set_option maxRecDepth 100000 in
theorem am_g0_36 : am_law_c 36 1312 = true := by decide +kernel
set_option maxRecDepth 100000 in
theorem am_g0_37 : am_law_c 37 1345 = true := by decide +kernel
set_option maxRecDepth 100000 in
theorem am_g0_38 : am_law_c 38 1368 = true := by decide +kernel
set_option maxRecDepth 100000 in
theorem am_g0_39 : am_law_c 39 1381 = true := by decide +kernel
set_option maxRecDepth 100000 in
theorem am_g0_40 : am_law_c 40 1404 = true := by decide +kernel
set_option maxRecDepth 100000 in
theorem am_g0_41 : am_law_c 41 1417 = true := by decide +kernel
set_option maxRecDepth 100000 in
theorem am_g0_42 : am_law_c 42 1440 = true := by decide +kernel
set_option maxRecDepth 100000 in
theorem am_g0_43 : am_law_c 43 1453 = true := by decide +kernel
set_option maxRecDepth 100000 in
theorem am_g0_44 : am_law_c 44 1467 = true := by decide +kernel
set_option maxRecDepth 100000 in
theorem am_g0_45 : am_law_c 45 1481 = true := by decide +kernel
set_option maxRecDepth 100000 in
theorem am_g0_46 : am_law_c 46 1495 = true := by decide +kernel
set_option maxRecDepth 100000 in
theorem am_g0_47 : am_law_c 47 1518 = true := by decide +kernel
set_option maxRecDepth 100000 in
theorem am_g0_48 : am_law_c 48 1531 = true := by decide +kernel
set_option maxRecDepth 100000 in
theorem am_g0_49 : am_law_c 49 1554 = true := by decide +kernel
set_option maxRecDepth 100000 in
theorem am_g0_50 : am_law_c 50 1568 = true := by decide +kernel
set_option maxRecDepth 100000 in
theorem am_g0_51 : am_law_c 51 1574 = true := by decide +kernel
set_option maxRecDepth 100000 in
theorem am_g0 : ∀ (k pc : Nat), am_s0[k]? = some pc → am_law_c k pc = true := by
  intro k pc h
  match k with
  | 0 => cases h; exact am_g0_0
  | 1 => cases h; exact am_g0_1
  | 2 => cases h; exact am_g0_2
  | 3 => cases h; exact am_g0_3
  | 4 => cases h; exact am_g0_4
  | 5 => cases h; exact am_g0_5
  | 6 => cases h; exact am_g0_6
  | 7 => cases h; exact am_g0_7
  | 8 => cases h; exact am_g0_8
  | 9 => cases h; exact am_g0_9
  | 10 => cases h; exact am_g0_10
  | 11 => cases h; exact am_g0_11
  | 12 => cases h; exact am_g0_12
  | 13 => cases h; exact am_g0_13
  | 14 => cases h; exact am_g0_14
  | 15 => cases h; exact am_g0_15
  | 16 => cases h; exact am_g0_16
  | 17 => cases h; exact am_g0_17
  | 18 => cases h; exact am_g0_18
  | 19 => cases h; exact am_g0_19
  | 20 => cases h; exact am_g0_20
  | 21 => cases h; exact am_g0_21
  | 22 => cases h; exact am_g0_22
  | 23 => cases h; exact am_g0_23
  | 24 => cases h; exact am_g0_24
  | 25 => cases h; exact am_g0_25
  | 26 => cases h; exact am_g0_26
  | 27 => cases h; exact am_g0_27
  | 28 => cases h; exact am_g0_28
  | 29 => cases h; exact am_g0_29
  | 30 => cases h; exact am_g0_30
  | 31 => cases h; exact am_g0_31
  | 32 => cases h; exact am_g0_32
  | 33 => cases h; exact am_g0_33
  | 34 => cases h; exact am_g0_34
  | 35 => cases h; exact am_g0_35
  | 36 => cases h; exact am_g0_36
  | 37 => cases h; exact am_g0_37
  | 38 => cases h; exact am_g0_38
  | 39 => cases h; exact am_g0_39
  | 40 => cases h; exact am_g0_40
  | 41 => cases h; exact am_g0_41
  | 42 => cases h; exact am_g0_42
  | 43 => cases h; exact am_g0_43
  | 44 => cases h; exact am_g0_44
  | 45 => cases h; exact am_g0_45
  | 46 => cases h; exact am_g0_46
  | 47 => cases h; exact am_g0_47
  | 48 => cases h; exact am_g0_48
  | 49 => cases h; exact am_g0_49
  | 50 => cases h; exact am_g0_50
  | 51 => cases h; exact am_g0_51
  | k + 52 => simp [am_s0] at h
end
section
def am_mname (k : Nat) : MethodName := match k with
  | 0 => Jvm.Lib.Math.max.name
  | 1 => Jvm.Lib.Math.min.name
  | _ => Jvm.Lib.MathLoose.min_long.x
set_option maxRecDepth 100000 in
theorem am_FLk_b : (am_FL.all (fun e => decide (lw_tbl[e.2.2.2.2]? = some (Jvm.Cond.fieldLink (am_cn e.1) e.2.1 (am_Tt e.2.2.1 e.2.2.2.1).1 (am_Tt e.2.2.1 e.2.2.2.1).2.1 (am_Tt e.2.2.1 e.2.2.2.1).2.2.1)))) = true := by decide +kernel
theorem am_FLk : ∀ e ∈ am_FL, (Jvm.Cond.fieldLink (am_cn e.1) e.2.1 (am_Tt e.2.2.1 e.2.2.2.1).1 (am_Tt e.2.2.1 e.2.2.2.1).2.1 (am_Tt e.2.2.1 e.2.2.2.1).2.2.1) ∈ lw_gt := by
  intro e he
  exact am_gm (List.mem_of_getElem? (of_decide_eq_true (List.all_eq_true.mp am_FLk_b e he))) rfl
set_option maxRecDepth 100000 in
theorem am_MLk_b : (am_ML.all (fun e => decide (lw_tbl[e.2.2.2]? = some (Jvm.Cond.methodLink (am_cn e.1) e.2.1 (am_meths.getD e.2.2.1 am_m0).1)))) = true := by decide +kernel
theorem am_MLk : ∀ e ∈ am_ML, (Jvm.Cond.methodLink (am_cn e.1) e.2.1 (am_meths.getD e.2.2.1 am_m0).1) ∈ lw_gt := by
  intro e he
  exact am_gm (List.mem_of_getElem? (of_decide_eq_true (List.all_eq_true.mp am_MLk_b e he))) rfl
set_option maxRecDepth 100000 in
theorem am_OIk_b : (am_OI.all (fun e => decide (lw_tbl[e.2.2]? = some (Jvm.Cond.methodLink (am_cn e.1) e.2.1 Jvm.Lib.objectInit)))) = true := by decide +kernel
theorem am_OIk : ∀ e ∈ am_OI, (Jvm.Cond.methodLink (am_cn e.1) e.2.1 Jvm.Lib.objectInit) ∈ lw_gt := by
  intro e he
  exact am_gm (List.mem_of_getElem? (of_decide_eq_true (List.all_eq_true.mp am_OIk_b e he))) rfl
set_option maxRecDepth 100000 in
theorem am_ACk_b : (am_AC.all (fun e => decide (lw_tbl[e.2.2]? = some (Jvm.Cond.methodLink (am_cn e.1) e.2.1 arraycopyName)))) = true := by decide +kernel
theorem am_ACk : ∀ e ∈ am_AC, (Jvm.Cond.methodLink (am_cn e.1) e.2.1 arraycopyName) ∈ lw_gt := by
  intro e he
  exact am_gm (List.mem_of_getElem? (of_decide_eq_true (List.all_eq_true.mp am_ACk_b e he))) rfl
set_option maxRecDepth 100000 in
theorem am_MAk_b : (am_MA.all (fun e => decide (lw_tbl[e.2.2.2]? = some (Jvm.Cond.methodLink (am_cn e.1) e.2.1 (am_mname e.2.2.1))))) = true := by decide +kernel
theorem am_MAk : ∀ e ∈ am_MA, (Jvm.Cond.methodLink (am_cn e.1) e.2.1 (am_mname e.2.2.1)) ∈ lw_gt := by
  intro e he
  exact am_gm (List.mem_of_getElem? (of_decide_eq_true (List.all_eq_true.mp am_MAk_b e he))) rfl
set_option maxRecDepth 100000 in
theorem am_CTk_b : (am_CT.all (fun e => decide (lw_tbl[e.2.2.2]? = some (Jvm.Cond.constant (am_cn e.1) e.2.1 (Int32.ofInt e.2.2.1))))) = true := by decide +kernel
theorem am_CTk : ∀ e ∈ am_CT, (Jvm.Cond.constant (am_cn e.1) e.2.1 (Int32.ofInt e.2.2.1)) ∈ lw_gt := by
  intro e he
  exact am_gm (List.mem_of_getElem? (of_decide_eq_true (List.all_eq_true.mp am_CTk_b e he))) rfl
set_option maxRecDepth 100000 in
theorem am_CJk_b : (am_CJ.all (fun e => decide (lw_tbl[e.2.2.2]? = some (Jvm.Cond.constantLong (am_cn e.1) e.2.1 (Int64.ofInt e.2.2.1))))) = true := by decide +kernel
theorem am_CJk : ∀ e ∈ am_CJ, (Jvm.Cond.constantLong (am_cn e.1) e.2.1 (Int64.ofInt e.2.2.1)) ∈ lw_gt := by
  intro e he
  exact am_gm (List.mem_of_getElem? (of_decide_eq_true (List.all_eq_true.mp am_CJk_b e he))) rfl
set_option maxRecDepth 100000 in
theorem am_CKk_b : (am_CK.all (fun e => decide (lw_tbl[e.2.2.2]? = some (Jvm.Cond.classLink (am_cn e.1) e.2.1 (am_cn e.2.2.1))))) = true := by decide +kernel
theorem am_CKk : ∀ e ∈ am_CK, (Jvm.Cond.classLink (am_cn e.1) e.2.1 (am_cn e.2.2.1)) ∈ lw_gt := by
  intro e he
  exact am_gm (List.mem_of_getElem? (of_decide_eq_true (List.all_eq_true.mp am_CKk_b e he))) rfl
set_option maxRecDepth 100000 in
theorem am_in0 : ∀ w ∈ u_ws (am_cn 0) (am_Tt 0) (am_cN 0), w ∈ lw_gt := by
  intro w hw
  obtain ⟨k, hk, rfl⟩ := List.mem_map.mp hw
  have hk := List.mem_range.mp hk
  match k, hk with
  | 0, _ => exact am_gm (List.mem_of_getElem? (i := 283) rfl) rfl
  | 1, _ => exact am_gm (List.mem_of_getElem? (i := 285) rfl) rfl
  | 2, _ => exact am_gm (List.mem_of_getElem? (i := 287) rfl) rfl
  | 3, _ => exact am_gm (List.mem_of_getElem? (i := 289) rfl) rfl
  | 4, _ => exact am_gm (List.mem_of_getElem? (i := 291) rfl) rfl
  | 5, _ => exact am_gm (List.mem_of_getElem? (i := 293) rfl) rfl
  | 6, _ => exact am_gm (List.mem_of_getElem? (i := 295) rfl) rfl
  | 7, _ => exact am_gm (List.mem_of_getElem? (i := 297) rfl) rfl
  | 8, _ => exact am_gm (List.mem_of_getElem? (i := 299) rfl) rfl
  | 9, _ => exact am_gm (List.mem_of_getElem? (i := 301) rfl) rfl
  | k + 10, hk => exact absurd hk (by simp [am_cN])
theorem am_nm0 : ∀ a, a < am_cN 0 → ∀ b, b < am_cN 0 → a ≠ b → (am_Tt 0 a).2.1 ≠ (am_Tt 0 b).2.1 := by decide +kernel
theorem am_tk0 : ∀ k, k < am_cN 0 → parseFieldDescriptor (am_Tt 0 k).2.2.1 = some (am_fty 0 k) := by decide +kernel
theorem am_dc0 : ∀ k, k < am_cN 0 → (am_Tt 0 k).1 = am_cn 0 := by decide +kernel
set_option maxRecDepth 100000 in
theorem am_is0 : Jvm.Cond.instantiable (am_cn 0) (am_cN 0) ∈ lw_gt ∧ Jvm.Cond.initialized (am_cn 0) ∈ lw_gt := ⟨am_gm (List.mem_of_getElem? (i := 218) rfl) rfl, am_gm (List.mem_of_getElem? (i := 103) rfl) rfl⟩
set_option maxRecDepth 100000 in
theorem am_in1 : ∀ w ∈ u_ws (am_cn 1) (am_Tt 1) (am_cN 1), w ∈ lw_gt := by
  intro w hw
  obtain ⟨k, hk, rfl⟩ := List.mem_map.mp hw
  have hk := List.mem_range.mp hk
  match k, hk with
  | 0, _ => exact am_gm (List.mem_of_getElem? (i := 323) rfl) rfl
  | 1, _ => exact am_gm (List.mem_of_getElem? (i := 325) rfl) rfl
  | 2, _ => exact am_gm (List.mem_of_getElem? (i := 327) rfl) rfl
  | 3, _ => exact am_gm (List.mem_of_getElem? (i := 329) rfl) rfl
  | k + 4, hk => exact absurd hk (by simp [am_cN])
theorem am_nm1 : ∀ a, a < am_cN 1 → ∀ b, b < am_cN 1 → a ≠ b → (am_Tt 1 a).2.1 ≠ (am_Tt 1 b).2.1 := by decide +kernel
theorem am_tk1 : ∀ k, k < am_cN 1 → parseFieldDescriptor (am_Tt 1 k).2.2.1 = some (am_fty 1 k) := by decide +kernel
theorem am_dc1 : ∀ k, k < am_cN 1 → (am_Tt 1 k).1 = am_cn 1 := by decide +kernel
set_option maxRecDepth 100000 in
theorem am_is1 : Jvm.Cond.instantiable (am_cn 1) (am_cN 1) ∈ lw_gt ∧ Jvm.Cond.initialized (am_cn 1) ∈ lw_gt := ⟨am_gm (List.mem_of_getElem? (i := 305) rfl) rfl, am_gm (List.mem_of_getElem? (i := 105) rfl) rfl⟩
set_option maxRecDepth 100000 in
theorem am_in2 : ∀ w ∈ u_ws (am_cn 2) (am_Tt 2) (am_cN 2), w ∈ lw_gt := by
  intro w hw
  obtain ⟨k, hk, rfl⟩ := List.mem_map.mp hw
  have hk := List.mem_range.mp hk
  match k, hk with
  | 0, _ => exact am_gm (List.mem_of_getElem? (i := 341) rfl) rfl
  | 1, _ => exact am_gm (List.mem_of_getElem? (i := 343) rfl) rfl
  | 2, _ => exact am_gm (List.mem_of_getElem? (i := 345) rfl) rfl
  | k + 3, hk => exact absurd hk (by simp [am_cN])
theorem am_nm2 : ∀ a, a < am_cN 2 → ∀ b, b < am_cN 2 → a ≠ b → (am_Tt 2 a).2.1 ≠ (am_Tt 2 b).2.1 := by decide +kernel
theorem am_tk2 : ∀ k, k < am_cN 2 → parseFieldDescriptor (am_Tt 2 k).2.2.1 = some (am_fty 2 k) := by decide +kernel
theorem am_dc2 : ∀ k, k < am_cN 2 → (am_Tt 2 k).1 = am_cn 2 := by decide +kernel
set_option maxRecDepth 100000 in
theorem am_is2 : Jvm.Cond.instantiable (am_cn 2) (am_cN 2) ∈ lw_gt ∧ Jvm.Cond.initialized (am_cn 2) ∈ lw_gt := ⟨am_gm (List.mem_of_getElem? (i := 333) rfl) rfl, am_gm (List.mem_of_getElem? (i := 106) rfl) rfl⟩
set_option maxRecDepth 100000 in
theorem am_in3 : ∀ w ∈ u_ws (am_cn 3) (am_Tt 3) (am_cN 3), w ∈ lw_gt := by
  intro w hw
  obtain ⟨k, hk, rfl⟩ := List.mem_map.mp hw
  have hk := List.mem_range.mp hk
  match k, hk with
  | 0, _ => exact am_gm (List.mem_of_getElem? (i := 210) rfl) rfl
  | 1, _ => exact am_gm (List.mem_of_getElem? (i := 212) rfl) rfl
  | 2, _ => exact am_gm (List.mem_of_getElem? (i := 214) rfl) rfl
  | k + 3, hk => exact absurd hk (by simp [am_cN])
theorem am_nm3 : ∀ a, a < am_cN 3 → ∀ b, b < am_cN 3 → a ≠ b → (am_Tt 3 a).2.1 ≠ (am_Tt 3 b).2.1 := by decide +kernel
theorem am_tk3 : ∀ k, k < am_cN 3 → parseFieldDescriptor (am_Tt 3 k).2.2.1 = some (am_fty 3 k) := by decide +kernel
theorem am_dc3 : ∀ k, k < am_cN 3 → (am_Tt 3 k).1 = am_cn 3 := by decide +kernel
set_option maxRecDepth 100000 in
theorem am_is3 : Jvm.Cond.instantiable (am_cn 3) (am_cN 3) ∈ lw_gt ∧ Jvm.Cond.initialized (am_cn 3) ∈ lw_gt := ⟨am_gm (List.mem_of_getElem? (i := 182) rfl) rfl, am_gm (List.mem_of_getElem? (i := 101) rfl) rfl⟩
set_option maxRecDepth 100000 in
theorem am_in4 : ∀ w ∈ u_ws (am_cn 4) (am_Tt 4) (am_cN 4), w ∈ lw_gt := by
  intro w hw
  obtain ⟨k, hk, rfl⟩ := List.mem_map.mp hw
  have hk := List.mem_range.mp hk
  match k, hk with
  | 0, _ => exact am_gm (List.mem_of_getElem? (i := 359) rfl) rfl
  | 1, _ => exact am_gm (List.mem_of_getElem? (i := 361) rfl) rfl
  | 2, _ => exact am_gm (List.mem_of_getElem? (i := 363) rfl) rfl
  | 3, _ => exact am_gm (List.mem_of_getElem? (i := 365) rfl) rfl
  | 4, _ => exact am_gm (List.mem_of_getElem? (i := 367) rfl) rfl
  | k + 5, hk => exact absurd hk (by simp [am_cN])
theorem am_nm4 : ∀ a, a < am_cN 4 → ∀ b, b < am_cN 4 → a ≠ b → (am_Tt 4 a).2.1 ≠ (am_Tt 4 b).2.1 := by decide +kernel
theorem am_tk4 : ∀ k, k < am_cN 4 → parseFieldDescriptor (am_Tt 4 k).2.2.1 = some (am_fty 4 k) := by decide +kernel
theorem am_dc4 : ∀ k, k < am_cN 4 → (am_Tt 4 k).1 = am_cn 4 := by decide +kernel
set_option maxRecDepth 100000 in
theorem am_is4 : Jvm.Cond.instantiable (am_cn 4) (am_cN 4) ∈ lw_gt ∧ Jvm.Cond.initialized (am_cn 4) ∈ lw_gt := ⟨am_gm (List.mem_of_getElem? (i := 349) rfl) rfl, am_gm (List.mem_of_getElem? (i := 107) rfl) rfl⟩
set_option maxRecDepth 100000 in
theorem am_in5 : ∀ w ∈ u_ws (am_cn 5) (am_Tt 5) (am_cN 5), w ∈ lw_gt := by
  intro w hw
  obtain ⟨k, hk, rfl⟩ := List.mem_map.mp hw
  have hk := List.mem_range.mp hk
  match k, hk with
  | 0, _ => exact am_gm (List.mem_of_getElem? (i := 456) rfl) rfl
  | 1, _ => exact am_gm (List.mem_of_getElem? (i := 458) rfl) rfl
  | 2, _ => exact am_gm (List.mem_of_getElem? (i := 460) rfl) rfl
  | 3, _ => exact am_gm (List.mem_of_getElem? (i := 462) rfl) rfl
  | 4, _ => exact am_gm (List.mem_of_getElem? (i := 464) rfl) rfl
  | 5, _ => exact am_gm (List.mem_of_getElem? (i := 466) rfl) rfl
  | 6, _ => exact am_gm (List.mem_of_getElem? (i := 468) rfl) rfl
  | 7, _ => exact am_gm (List.mem_of_getElem? (i := 470) rfl) rfl
  | 8, _ => exact am_gm (List.mem_of_getElem? (i := 472) rfl) rfl
  | 9, _ => exact am_gm (List.mem_of_getElem? (i := 474) rfl) rfl
  | 10, _ => exact am_gm (List.mem_of_getElem? (i := 476) rfl) rfl
  | k + 11, hk => exact absurd hk (by simp [am_cN])
theorem am_nm5 : ∀ a, a < am_cN 5 → ∀ b, b < am_cN 5 → a ≠ b → (am_Tt 5 a).2.1 ≠ (am_Tt 5 b).2.1 := by decide +kernel
theorem am_tk5 : ∀ k, k < am_cN 5 → parseFieldDescriptor (am_Tt 5 k).2.2.1 = some (am_fty 5 k) := by decide +kernel
theorem am_dc5 : ∀ k, k < am_cN 5 → (am_Tt 5 k).1 = am_cn 5 := by decide +kernel
set_option maxRecDepth 100000 in
theorem am_is5 : Jvm.Cond.instantiable (am_cn 5) (am_cN 5) ∈ lw_gt ∧ Jvm.Cond.initialized (am_cn 5) ∈ lw_gt := ⟨am_gm (List.mem_of_getElem? (i := 438) rfl) rfl, am_gm (List.mem_of_getElem? (i := 109) rfl) rfl⟩
set_option maxRecDepth 100000 in
theorem am_in6 : ∀ w ∈ u_ws (am_cn 6) (am_Tt 6) (am_cN 6), w ∈ lw_gt := by
  intro w hw
  obtain ⟨k, hk, rfl⟩ := List.mem_map.mp hw
  have hk := List.mem_range.mp hk
  match k, hk with
  | 0, _ => exact am_gm (List.mem_of_getElem? (i := 199) rfl) rfl
  | 1, _ => exact am_gm (List.mem_of_getElem? (i := 201) rfl) rfl
  | k + 2, hk => exact absurd hk (by simp [am_cN])
theorem am_nm6 : ∀ a, a < am_cN 6 → ∀ b, b < am_cN 6 → a ≠ b → (am_Tt 6 a).2.1 ≠ (am_Tt 6 b).2.1 := by decide +kernel
theorem am_tk6 : ∀ k, k < am_cN 6 → parseFieldDescriptor (am_Tt 6 k).2.2.1 = some (am_fty 6 k) := by decide +kernel
theorem am_dc6 : ∀ k, k < am_cN 6 → (am_Tt 6 k).1 = am_cn 6 := by decide +kernel
set_option maxRecDepth 100000 in
theorem am_is6 : Jvm.Cond.instantiable (am_cn 6) (am_cN 6) ∈ lw_gt ∧ Jvm.Cond.initialized (am_cn 6) ∈ lw_gt := ⟨am_gm (List.mem_of_getElem? (i := 188) rfl) rfl, am_gm (List.mem_of_getElem? (i := 102) rfl) rfl⟩
set_option maxRecDepth 100000 in
theorem am_in7 : ∀ w ∈ u_ws (am_cn 7) (am_Tt 7) (am_cN 7), w ∈ lw_gt := by
  intro w hw
  obtain ⟨k, hk, rfl⟩ := List.mem_map.mp hw
  have hk := List.mem_range.mp hk
  match k, hk with
  | 0, _ => exact am_gm (List.mem_of_getElem? (i := 399) rfl) rfl
  | 1, _ => exact am_gm (List.mem_of_getElem? (i := 401) rfl) rfl
  | 2, _ => exact am_gm (List.mem_of_getElem? (i := 403) rfl) rfl
  | 3, _ => exact am_gm (List.mem_of_getElem? (i := 405) rfl) rfl
  | 4, _ => exact am_gm (List.mem_of_getElem? (i := 407) rfl) rfl
  | 5, _ => exact am_gm (List.mem_of_getElem? (i := 409) rfl) rfl
  | 6, _ => exact am_gm (List.mem_of_getElem? (i := 411) rfl) rfl
  | 7, _ => exact am_gm (List.mem_of_getElem? (i := 413) rfl) rfl
  | 8, _ => exact am_gm (List.mem_of_getElem? (i := 415) rfl) rfl
  | 9, _ => exact am_gm (List.mem_of_getElem? (i := 417) rfl) rfl
  | 10, _ => exact am_gm (List.mem_of_getElem? (i := 419) rfl) rfl
  | 11, _ => exact am_gm (List.mem_of_getElem? (i := 421) rfl) rfl
  | 12, _ => exact am_gm (List.mem_of_getElem? (i := 423) rfl) rfl
  | 13, _ => exact am_gm (List.mem_of_getElem? (i := 425) rfl) rfl
  | 14, _ => exact am_gm (List.mem_of_getElem? (i := 427) rfl) rfl
  | 15, _ => exact am_gm (List.mem_of_getElem? (i := 429) rfl) rfl
  | 16, _ => exact am_gm (List.mem_of_getElem? (i := 431) rfl) rfl
  | 17, _ => exact am_gm (List.mem_of_getElem? (i := 433) rfl) rfl
  | k + 18, hk => exact absurd hk (by simp [am_cN])
theorem am_nm7 : ∀ a, a < am_cN 7 → ∀ b, b < am_cN 7 → a ≠ b → (am_Tt 7 a).2.1 ≠ (am_Tt 7 b).2.1 := by decide +kernel
theorem am_tk7 : ∀ k, k < am_cN 7 → parseFieldDescriptor (am_Tt 7 k).2.2.1 = some (am_fty 7 k) := by decide +kernel
theorem am_dc7 : ∀ k, k < am_cN 7 → (am_Tt 7 k).1 = am_cn 7 := by decide +kernel
set_option maxRecDepth 100000 in
theorem am_is7 : Jvm.Cond.instantiable (am_cn 7) (am_cN 7) ∈ lw_gt ∧ Jvm.Cond.initialized (am_cn 7) ∈ lw_gt := ⟨am_gm (List.mem_of_getElem? (i := 373) rfl) rfl, am_gm (List.mem_of_getElem? (i := 108) rfl) rfl⟩
set_option maxRecDepth 100000 in
theorem am_in8 : ∀ w ∈ u_ws (am_cn 8) (am_Tt 8) (am_cN 8), w ∈ lw_gt := by
  intro w hw
  obtain ⟨k, hk, rfl⟩ := List.mem_map.mp hw
  have hk := List.mem_range.mp hk
  match k, hk with
  | 0, _ => exact am_gm (List.mem_of_getElem? (i := 167) rfl) rfl
  | 1, _ => exact am_gm (List.mem_of_getElem? (i := 169) rfl) rfl
  | 2, _ => exact am_gm (List.mem_of_getElem? (i := 171) rfl) rfl
  | 3, _ => exact am_gm (List.mem_of_getElem? (i := 173) rfl) rfl
  | 4, _ => exact am_gm (List.mem_of_getElem? (i := 175) rfl) rfl
  | 5, _ => exact am_gm (List.mem_of_getElem? (i := 177) rfl) rfl
  | k + 6, hk => exact absurd hk (by simp [am_cN])
theorem am_nm8 : ∀ a, a < am_cN 8 → ∀ b, b < am_cN 8 → a ≠ b → (am_Tt 8 a).2.1 ≠ (am_Tt 8 b).2.1 := by decide +kernel
theorem am_tk8 : ∀ k, k < am_cN 8 → parseFieldDescriptor (am_Tt 8 k).2.2.1 = some (am_fty 8 k) := by decide +kernel
theorem am_dc8 : ∀ k, k < am_cN 8 → (am_Tt 8 k).1 = am_cn 8 := by decide +kernel
set_option maxRecDepth 100000 in
theorem am_is8 : Jvm.Cond.instantiable (am_cn 8) (am_cN 8) ∈ lw_gt ∧ Jvm.Cond.initialized (am_cn 8) ∈ lw_gt := ⟨am_gm (List.mem_of_getElem? (i := 123) rfl) rfl, am_gm (List.mem_of_getElem? (i := 99) rfl) rfl⟩
set_option maxRecDepth 100000 in
theorem am_in9 : ∀ w ∈ u_ws (am_cn 9) (am_Tt 9) (am_cN 9), w ∈ lw_gt := by
  intro w hw
  obtain ⟨k, hk, rfl⟩ := List.mem_map.mp hw
  have hk := List.mem_range.mp hk
  match k, hk with
  | 0, _ => exact am_gm (List.mem_of_getElem? (i := 496) rfl) rfl
  | 1, _ => exact am_gm (List.mem_of_getElem? (i := 498) rfl) rfl
  | 2, _ => exact am_gm (List.mem_of_getElem? (i := 500) rfl) rfl
  | 3, _ => exact am_gm (List.mem_of_getElem? (i := 502) rfl) rfl
  | 4, _ => exact am_gm (List.mem_of_getElem? (i := 504) rfl) rfl
  | 5, _ => exact am_gm (List.mem_of_getElem? (i := 506) rfl) rfl
  | 6, _ => exact am_gm (List.mem_of_getElem? (i := 508) rfl) rfl
  | 7, _ => exact am_gm (List.mem_of_getElem? (i := 510) rfl) rfl
  | 8, _ => exact am_gm (List.mem_of_getElem? (i := 512) rfl) rfl
  | 9, _ => exact am_gm (List.mem_of_getElem? (i := 514) rfl) rfl
  | 10, _ => exact am_gm (List.mem_of_getElem? (i := 516) rfl) rfl
  | 11, _ => exact am_gm (List.mem_of_getElem? (i := 518) rfl) rfl
  | 12, _ => exact am_gm (List.mem_of_getElem? (i := 520) rfl) rfl
  | 13, _ => exact am_gm (List.mem_of_getElem? (i := 522) rfl) rfl
  | 14, _ => exact am_gm (List.mem_of_getElem? (i := 524) rfl) rfl
  | 15, _ => exact am_gm (List.mem_of_getElem? (i := 526) rfl) rfl
  | k + 16, hk => exact absurd hk (by simp [am_cN])
theorem am_nm9 : ∀ a, a < am_cN 9 → ∀ b, b < am_cN 9 → a ≠ b → (am_Tt 9 a).2.1 ≠ (am_Tt 9 b).2.1 := by decide +kernel
theorem am_tk9 : ∀ k, k < am_cN 9 → parseFieldDescriptor (am_Tt 9 k).2.2.1 = some (am_fty 9 k) := by decide +kernel
theorem am_dc9 : ∀ k, k < am_cN 9 → (am_Tt 9 k).1 = am_cn 9 := by decide +kernel
set_option maxRecDepth 100000 in
theorem am_is9 : Jvm.Cond.instantiable (am_cn 9) (am_cN 9) ∈ lw_gt ∧ Jvm.Cond.initialized (am_cn 9) ∈ lw_gt := ⟨am_gm (List.mem_of_getElem? (i := 113) rfl) rfl, am_gm (List.mem_of_getElem? (i := 98) rfl) rfl⟩
set_option maxRecDepth 100000 in
theorem am_in10 : ∀ w ∈ u_ws (am_cn 10) (am_Tt 10) (am_cN 10), w ∈ lw_gt := by
  intro w hw
  obtain ⟨k, hk, rfl⟩ := List.mem_map.mp hw
  have hk := List.mem_range.mp hk
  match k, hk with
  | 0, _ => exact am_gm (List.mem_of_getElem? (i := 1253) rfl) rfl
  | 1, _ => exact am_gm (List.mem_of_getElem? (i := 1255) rfl) rfl
  | 2, _ => exact am_gm (List.mem_of_getElem? (i := 1257) rfl) rfl
  | 3, _ => exact am_gm (List.mem_of_getElem? (i := 1259) rfl) rfl
  | 4, _ => exact am_gm (List.mem_of_getElem? (i := 1261) rfl) rfl
  | 5, _ => exact am_gm (List.mem_of_getElem? (i := 1263) rfl) rfl
  | 6, _ => exact am_gm (List.mem_of_getElem? (i := 1265) rfl) rfl
  | 7, _ => exact am_gm (List.mem_of_getElem? (i := 1267) rfl) rfl
  | 8, _ => exact am_gm (List.mem_of_getElem? (i := 1269) rfl) rfl
  | 9, _ => exact am_gm (List.mem_of_getElem? (i := 1271) rfl) rfl
  | 10, _ => exact am_gm (List.mem_of_getElem? (i := 1273) rfl) rfl
  | 11, _ => exact am_gm (List.mem_of_getElem? (i := 1275) rfl) rfl
  | 12, _ => exact am_gm (List.mem_of_getElem? (i := 1277) rfl) rfl
  | 13, _ => exact am_gm (List.mem_of_getElem? (i := 1279) rfl) rfl
  | 14, _ => exact am_gm (List.mem_of_getElem? (i := 1281) rfl) rfl
  | 15, _ => exact am_gm (List.mem_of_getElem? (i := 1283) rfl) rfl
  | 16, _ => exact am_gm (List.mem_of_getElem? (i := 1285) rfl) rfl
  | 17, _ => exact am_gm (List.mem_of_getElem? (i := 1287) rfl) rfl
  | 18, _ => exact am_gm (List.mem_of_getElem? (i := 1289) rfl) rfl
  | 19, _ => exact am_gm (List.mem_of_getElem? (i := 1291) rfl) rfl
  | 20, _ => exact am_gm (List.mem_of_getElem? (i := 1293) rfl) rfl
  | 21, _ => exact am_gm (List.mem_of_getElem? (i := 1295) rfl) rfl
  | 22, _ => exact am_gm (List.mem_of_getElem? (i := 1297) rfl) rfl
  | 23, _ => exact am_gm (List.mem_of_getElem? (i := 1299) rfl) rfl
  | 24, _ => exact am_gm (List.mem_of_getElem? (i := 1301) rfl) rfl
  | 25, _ => exact am_gm (List.mem_of_getElem? (i := 1303) rfl) rfl
  | 26, _ => exact am_gm (List.mem_of_getElem? (i := 1305) rfl) rfl
  | 27, _ => exact am_gm (List.mem_of_getElem? (i := 1307) rfl) rfl
  | 28, _ => exact am_gm (List.mem_of_getElem? (i := 1309) rfl) rfl
  | 29, _ => exact am_gm (List.mem_of_getElem? (i := 1311) rfl) rfl
  | 30, _ => exact am_gm (List.mem_of_getElem? (i := 1313) rfl) rfl
  | 31, _ => exact am_gm (List.mem_of_getElem? (i := 1315) rfl) rfl
  | 32, _ => exact am_gm (List.mem_of_getElem? (i := 1317) rfl) rfl
  | 33, _ => exact am_gm (List.mem_of_getElem? (i := 1319) rfl) rfl
  | 34, _ => exact am_gm (List.mem_of_getElem? (i := 1321) rfl) rfl
  | 35, _ => exact am_gm (List.mem_of_getElem? (i := 1323) rfl) rfl
  | 36, _ => exact am_gm (List.mem_of_getElem? (i := 1325) rfl) rfl
  | 37, _ => exact am_gm (List.mem_of_getElem? (i := 1327) rfl) rfl
  | 38, _ => exact am_gm (List.mem_of_getElem? (i := 1329) rfl) rfl
  | 39, _ => exact am_gm (List.mem_of_getElem? (i := 1331) rfl) rfl
  | 40, _ => exact am_gm (List.mem_of_getElem? (i := 1333) rfl) rfl
  | 41, _ => exact am_gm (List.mem_of_getElem? (i := 1335) rfl) rfl
  | 42, _ => exact am_gm (List.mem_of_getElem? (i := 1337) rfl) rfl
  | 43, _ => exact am_gm (List.mem_of_getElem? (i := 1339) rfl) rfl
  | 44, _ => exact am_gm (List.mem_of_getElem? (i := 1341) rfl) rfl
  | 45, _ => exact am_gm (List.mem_of_getElem? (i := 1343) rfl) rfl
  | 46, _ => exact am_gm (List.mem_of_getElem? (i := 1345) rfl) rfl
  | 47, _ => exact am_gm (List.mem_of_getElem? (i := 1347) rfl) rfl
  | k + 48, hk => exact absurd hk (by simp [am_cN])
theorem am_nm10 : ∀ a, a < am_cN 10 → ∀ b, b < am_cN 10 → a ≠ b → (am_Tt 10 a).2.1 ≠ (am_Tt 10 b).2.1 := by decide +kernel
theorem am_tk10 : ∀ k, k < am_cN 10 → parseFieldDescriptor (am_Tt 10 k).2.2.1 = some (am_fty 10 k) := by decide +kernel
theorem am_dc10 : ∀ k, k < am_cN 10 → (am_Tt 10 k).1 = am_cn 10 := by decide +kernel
set_option maxRecDepth 100000 in
theorem am_is10 : Jvm.Cond.instantiable (am_cn 10) (am_cN 10) ∈ lw_gt ∧ Jvm.Cond.initialized (am_cn 10) ∈ lw_gt := ⟨am_gm (List.mem_of_getElem? (i := 1184) rfl) rfl, am_gm (List.mem_of_getElem? (i := 110) rfl) rfl⟩
theorem am_inA : ∀ c, c < 11 → ∀ w ∈ u_ws (am_cn c) (am_Tt c) (am_cN c), w ∈ lw_gt := by
  intro c hc
  match c, hc with
  | 0, _ => exact am_in0
  | 1, _ => exact am_in1
  | 2, _ => exact am_in2
  | 3, _ => exact am_in3
  | 4, _ => exact am_in4
  | 5, _ => exact am_in5
  | 6, _ => exact am_in6
  | 7, _ => exact am_in7
  | 8, _ => exact am_in8
  | 9, _ => exact am_in9
  | 10, _ => exact am_in10
  | c + 11, hc => exact absurd hc (by omega)
theorem am_nmA : ∀ c, c < 11 → ∀ a, a < am_cN c → ∀ b, b < am_cN c → a ≠ b → (am_Tt c a).2.1 ≠ (am_Tt c b).2.1 := by
  intro c hc
  match c, hc with
  | 0, _ => exact am_nm0
  | 1, _ => exact am_nm1
  | 2, _ => exact am_nm2
  | 3, _ => exact am_nm3
  | 4, _ => exact am_nm4
  | 5, _ => exact am_nm5
  | 6, _ => exact am_nm6
  | 7, _ => exact am_nm7
  | 8, _ => exact am_nm8
  | 9, _ => exact am_nm9
  | 10, _ => exact am_nm10
  | c + 11, hc => exact absurd hc (by omega)
theorem am_tkA : ∀ c, c < 11 → ∀ k, k < am_cN c → parseFieldDescriptor (am_Tt c k).2.2.1 = some (am_fty c k) := by
  intro c hc
  match c, hc with
  | 0, _ => exact am_tk0
  | 1, _ => exact am_tk1
  | 2, _ => exact am_tk2
  | 3, _ => exact am_tk3
  | 4, _ => exact am_tk4
  | 5, _ => exact am_tk5
  | 6, _ => exact am_tk6
  | 7, _ => exact am_tk7
  | 8, _ => exact am_tk8
  | 9, _ => exact am_tk9
  | 10, _ => exact am_tk10
  | c + 11, hc => exact absurd hc (by omega)
theorem am_dcA : ∀ c, c < 11 → ∀ k, k < am_cN c → (am_Tt c k).1 = am_cn c := by
  intro c hc
  match c, hc with
  | 0, _ => exact am_dc0
  | 1, _ => exact am_dc1
  | 2, _ => exact am_dc2
  | 3, _ => exact am_dc3
  | 4, _ => exact am_dc4
  | 5, _ => exact am_dc5
  | 6, _ => exact am_dc6
  | 7, _ => exact am_dc7
  | 8, _ => exact am_dc8
  | 9, _ => exact am_dc9
  | 10, _ => exact am_dc10
  | c + 11, hc => exact absurd hc (by omega)
theorem am_isA : ∀ c, c < 11 → Jvm.Cond.instantiable (am_cn c) (am_cN c) ∈ lw_gt ∧ Jvm.Cond.initialized (am_cn c) ∈ lw_gt := by
  intro c hc
  match c, hc with
  | 0, _ => exact am_is0
  | 1, _ => exact am_is1
  | 2, _ => exact am_is2
  | 3, _ => exact am_is3
  | 4, _ => exact am_is4
  | 5, _ => exact am_is5
  | 6, _ => exact am_is6
  | 7, _ => exact am_is7
  | 8, _ => exact am_is8
  | 9, _ => exact am_is9
  | 10, _ => exact am_is10
  | c + 11, hc => exact absurd hc (by omega)
theorem am_clA : ∀ c, c < 11 → am_cl[c]? = some (am_cn c, am_Tt c, am_cN c) := by
  intro c hc
  match c, hc with
  | 0, _ => rfl
  | 1, _ => rfl
  | 2, _ => rfl
  | 3, _ => rfl
  | 4, _ => rfl
  | 5, _ => rfl
  | 6, _ => rfl
  | 7, _ => rfl
  | 8, _ => rfl
  | 9, _ => rfl
  | 10, _ => rfl
  | c + 11, hc => exact absurd hc (by omega)
set_option maxRecDepth 100000 in
theorem am_aci : Jvm.Cond.arrayClass .int ∈ lw_gt ∧ Jvm.Cond.arrayClass .long ∈ lw_gt ∧ Jvm.Cond.arrayClass .byte ∈ lw_gt ∧ Jvm.Cond.arrayClass .boolean ∈ lw_gt := ⟨am_gm (List.mem_of_getElem? (i := 180) rfl) rfl, am_gm (List.mem_of_getElem? (i := 436) rfl) rfl, am_gm (List.mem_of_getElem? (i := 370) rfl) rfl, am_gm (List.mem_of_getElem? (i := 371) rfl) rfl⟩
set_option maxRecDepth 100000 in
theorem am_aco : Jvm.Cond.arrayOver (.object "WashLine$Strip") ∈ lw_tbl := List.mem_of_getElem? (i := 121) rfl
set_option maxRecDepth 100000 in
theorem am_maw : Jvm.Cond.initialized "java/lang/Math" ∈ lw_gt ∧ (Jvm.Cond.static Jvm.Lib.Math.max.name ∈ lw_gt ∧ Jvm.Cond.code Jvm.Lib.Math.max.name Jvm.Lib.Math.max.code 2 (some .int) ∈ lw_gt) ∧ (Jvm.Cond.static Jvm.Lib.Math.min.name ∈ lw_gt ∧ Jvm.Cond.code Jvm.Lib.Math.min.name Jvm.Lib.Math.min.code 2 (some .int) ∈ lw_gt) ∧ (Jvm.Cond.static Jvm.Lib.MathLoose.min_long.x ∈ lw_gt ∧ Jvm.Cond.code Jvm.Lib.MathLoose.min_long.x Jvm.Lib.MathLoose.min_long.code 4 (some .long) ∈ lw_gt) := ⟨am_gm (List.mem_of_getElem? (i := 111) rfl) rfl, ⟨am_gm (List.mem_of_getElem? (i := 811) rfl) rfl, am_gm (List.mem_of_getElem? (i := 812) rfl) rfl⟩, ⟨am_gm (List.mem_of_getElem? (i := 887) rfl) rfl, am_gm (List.mem_of_getElem? (i := 888) rfl) rfl⟩, ⟨am_gm (List.mem_of_getElem? (i := 946) rfl) rfl, am_gm (List.mem_of_getElem? (i := 947) rfl) rfl⟩⟩
set_option maxRecDepth 100000 in
theorem am_acw : Jvm.Cond.native arraycopyName ∈ lw_gt ∧ Jvm.Cond.static arraycopyName ∈ lw_gt ∧ Jvm.Cond.initialized "java/lang/System" ∈ lw_gt ∧ Jvm.Cond.instanceMethod Jvm.Lib.objectInit ∈ lw_gt ∧ Jvm.Cond.code Jvm.Lib.objectInit ⟨#[0xb1]⟩ 1 none ∈ lw_gt := ⟨am_gm (List.mem_of_getElem? (i := 243) rfl) rfl, am_gm (List.mem_of_getElem? (i := 242) rfl) rfl, am_gm (List.mem_of_getElem? (i := 104) rfl) rfl, am_gm (List.mem_of_getElem? (i := 118) rfl) rfl, am_gm (List.mem_of_getElem? (i := 119) rfl) rfl⟩
end
section
/-! NUMBERS OF THE SMALL MACHINE AGAINST THOSE OF THE LARGE ONE -/
def am_r32 (x : Int) : Prop := -2147483648 ≤ x ∧ x < 2147483648
def am_r64 (x : Int) : Prop := -9223372036854775808 ≤ x ∧ x < 9223372036854775808
theorem w32_rg (x : Int) : am_r32 (w32 x) := by
  unfold am_r32 w32
  have h1 := Int.le_bmod (x := x) (m := 4294967296) (by omega)
  have h2 := Int.bmod_lt (x := x) (m := 4294967296) (by omega)
  omega
theorem w64_rg (x : Int) : am_r64 (w64 x) := by
  unfold am_r64 w64
  have h1 := Int.le_bmod (x := x) (m := 18446744073709551616) (by omega)
  have h2 := Int.bmod_lt (x := x) (m := 18446744073709551616) (by omega)
  omega
theorem w8_rg (x : Int) : am_r32 (w8 x) := by
  unfold am_r32 w8
  have h1 := Int.le_bmod (x := x) (m := 256) (by omega)
  have h2 := Int.bmod_lt (x := x) (m := 256) (by omega)
  omega
theorem i32_id {x : Int} (h : am_r32 x) : (Int32.ofInt x).toInt = x := Int32.toInt_ofInt_of_le (by have := h.1; omega) (by have := h.2; omega)
theorem i64_id {x : Int} (h : am_r64 x) : (Int64.ofInt x).toInt = x := Int64.toInt_ofInt_of_le (by have := h.1; omega) (by have := h.2; omega)
theorem i32_rg (v : Int32) : am_r32 v.toInt := ⟨by have := v.le_toInt; omega, by have := v.toInt_lt; omega⟩
theorem i64_rg (v : Int64) : am_r64 v.toInt := ⟨by have := v.le_toInt; omega, by have := v.toInt_lt; omega⟩
theorem w32_of (x : Int) : Int32.ofInt (w32 x) = Int32.ofInt x := by
  apply Int32.toInt_inj.mp
  rw [Int32.toInt_ofInt, Int32.toInt_ofInt]
  show Int.bmod (Int.bmod x 4294967296) 4294967296 = Int.bmod x 4294967296
  exact Int.bmod_bmod
theorem w64_of (x : Int) : Int64.ofInt (w64 x) = Int64.ofInt x := by
  apply Int64.toInt_inj.mp
  rw [Int64.toInt_ofInt, Int64.toInt_ofInt]
  show Int.bmod (Int.bmod x 18446744073709551616) 18446744073709551616 = Int.bmod x 18446744073709551616
  exact Int.bmod_bmod
theorem w32_id {x : Int} (h : am_r32 x) : w32 x = x := by
  have e := w32_of x
  have := congrArg Int32.toInt e
  rwa [i32_id (w32_rg x), i32_id h] at this
theorem w64_id {x : Int} (h : am_r64 x) : w64 x = x := by
  have e := w64_of x
  have := congrArg Int64.toInt e
  rwa [i64_id (w64_rg x), i64_id h] at this
theorem of_toInt (v : Int32) : Int32.ofInt v.toInt = v := Int32.ofInt_toInt v
theorem e_add (x y : Int) : Int32.ofInt (w32 (x + y)) = Int32.ofInt x + Int32.ofInt y := by rw [w32_of, Int32.ofInt_add]
theorem e_sub (x y : Int) : Int32.ofInt (w32 (x - y)) = Int32.ofInt x - Int32.ofInt y := by rw [w32_of, Int32.ofInt_sub]
theorem e_mul (x y : Int) : Int32.ofInt (w32 (x * y)) = Int32.ofInt x * Int32.ofInt y := by rw [w32_of, Int32.ofInt_mul]
theorem e_ladd (x y : Int) : Int64.ofInt (w64 (x + y)) = Int64.ofInt x + Int64.ofInt y := by rw [w64_of, Int64.ofInt_add]
theorem e_lmul (x y : Int) : Int64.ofInt (w64 (x * y)) = Int64.ofInt x * Int64.ofInt y := by rw [w64_of, Int64.ofInt_mul]
theorem e_div {x y : Int} (hx : am_r32 x) (hy : am_r32 y) : Int32.ofInt (w32 (Int.tdiv x y)) = Int32.ofInt x / Int32.ofInt y := by
  apply Int32.toInt_inj.mp
  rw [Int32.toInt_div, i32_id hx, i32_id hy, i32_id (w32_rg _)]
  rfl
theorem e_ldiv {x y : Int} (hx : am_r64 x) (hy : am_r64 y) : Int64.ofInt (w64 (Int.tdiv x y)) = Int64.ofInt x / Int64.ofInt y := by
  apply Int64.toInt_inj.mp
  rw [Int64.toInt_div, i64_id hx, i64_id hy, i64_id (w64_rg _)]
  rfl
theorem tmod_eq (x y : Int) : Int.tmod x y = x - Int.tdiv x y * y := by
  have := Int.tmod_add_mul_tdiv x y
  rw [Int.mul_comm] at this
  omega
theorem e_rem {x y : Int} (hx : am_r32 x) (hy : am_r32 y) : Int32.ofInt (Int.tmod x y) = Int32.ofInt x - Int32.ofInt x / Int32.ofInt y * Int32.ofInt y := by
  rw [tmod_eq, Int32.ofInt_sub, Int32.ofInt_mul, ← e_div hx hy, w32_of]
theorem e_lrem {x y : Int} (hx : am_r64 x) (hy : am_r64 y) : Int64.ofInt (Int.tmod x y) = Int64.ofInt x - Int64.ofInt x / Int64.ofInt y * Int64.ofInt y := by
  rw [tmod_eq, Int64.ofInt_sub, Int64.ofInt_mul, ← e_ldiv hx hy, w64_of]
theorem tmod_rg {x y m : Int} (h1 : -m ≤ x) (h2 : x < m) : -m ≤ Int.tmod x y ∧ Int.tmod x y < m := by
  have h3 : (Int.tmod x y).natAbs ≤ x.natAbs := by
    rw [Int.natAbs_tmod]
    exact Nat.mod_le _ _
  rcases Int.le_total 0 x with h | h
  · have a := Int.tmod_nonneg y h
    omega
  · have a : 0 ≤ Int.tmod (-x) y := Int.tmod_nonneg y (by omega)
    rw [Int.neg_tmod] at a
    omega
theorem i32_ne {y : Int} (hy : am_r32 y) (h : y ≠ 0) : ¬ Int32.ofInt y = 0 := by
  intro e
  have := congrArg Int32.toInt e
  rw [i32_id hy] at this
  exact h this
theorem i64_ne {y : Int} (hy : am_r64 y) (h : y ≠ 0) : ¬ Int64.ofInt y = 0 := by
  intro e
  have := congrArg Int64.toInt e
  rw [i64_id hy] at this
  exact h this
theorem i32_lt {x y : Int} (hx : am_r32 x) (hy : am_r32 y) : Int32.ofInt x < Int32.ofInt y ↔ x < y := by rw [Int32.lt_iff_toInt_lt, i32_id hx, i32_id hy]
theorem i32_le {x y : Int} (hx : am_r32 x) (hy : am_r32 y) : Int32.ofInt x ≤ Int32.ofInt y ↔ x ≤ y := by rw [Int32.le_iff_toInt_le, i32_id hx, i32_id hy]
theorem i32_eq {x y : Int} (hx : am_r32 x) (hy : am_r32 y) : Int32.ofInt x = Int32.ofInt y ↔ x = y := by rw [← Int32.toInt_inj, i32_id hx, i32_id hy]
theorem i64_lt {x y : Int} (hx : am_r64 x) (hy : am_r64 y) : Int64.ofInt x < Int64.ofInt y ↔ x < y := by rw [Int64.lt_iff_toInt_lt, i64_id hx, i64_id hy]
theorem i64_eq {x y : Int} (hx : am_r64 x) (hy : am_r64 y) : Int64.ofInt x = Int64.ofInt y ↔ x = y := by rw [← Int64.toInt_inj, i64_id hx, i64_id hy]
theorem r32_0 : am_r32 0 := by unfold am_r32; omega
theorem i32_clamp {x : Int} (hx : am_r32 x) : (Int32.ofInt x).toNatClampNeg = x.toNat := by
  show (Int32.ofInt x).toInt.toNat = x.toNat
  rw [i32_id hx]
theorem e_cmp {x y : Int} (hx : am_r64 x) (hy : am_r64 y) : lg_cmp (Int64.ofInt x) (Int64.ofInt y) = Int32.ofInt (a_cmp x y) := by
  unfold lg_cmp a_cmp
  simp only [gt_iff_lt, i64_lt hy hx, i64_eq hx hy]
  split
  · rfl
  · split <;> rfl
theorem a_cmp_rg (x y : Int) : am_r32 (a_cmp x y) := by
  unfold a_cmp am_r32
  split
  · omega
  · split <;> omega
theorem e_i2l {x : Int} (hx : am_r32 x) : (Int32.ofInt x).toInt64 = Int64.ofInt x := by
  apply Int64.toInt_inj.mp
  rw [Int32.toInt_toInt64, i32_id hx, i64_id (by unfold am_r32 at hx; unfold am_r64; omega)]
theorem e_l2i {x : Int} (hx : am_r64 x) : (Int64.ofInt x).toInt32 = Int32.ofInt (w32 x) := by
  apply Int32.toInt_inj.mp
  rw [Int64.toInt_toInt32, i64_id hx, i32_id (w32_rg x)]
  rfl
theorem e_i2b {x : Int} (hx : am_r32 x) : (Int32.ofInt x).toInt8.toInt32 = Int32.ofInt (w8 x) := by
  apply Int32.toInt_inj.mp
  rw [Int8.toInt_toInt32, Int32.toInt_toInt8, i32_id hx, i32_id (w8_rg x)]
  rfl
def am_rg (v : am_V) : Prop := match v with
  | .inl x => am_r32 x
  | .inr (.inl x) => am_r64 x
  | _ => True
/-- where the cells lie: z the heap's size at the law's start, w the static table's place, b the script's -/
def am_ad (z w b a : Nat) : Nat := if a = 0 then w else if a = 1 then b else z + (a - 2)
def am_tv (z w b : Nat) (v : am_V) : Value := match v with
  | .inl x => .int (Int32.ofInt x)
  | .inr (.inl x) => .long (Int64.ofInt x)
  | .inr (.inr none) => .null
  | .inr (.inr (some a)) => .ref (am_ad z w b a)
def am_t2 (z w b : Nat) (q : Nat × am_V) : Nat × Value := (q.1, am_tv z w b q.2)
theorem am_tv_cat (z w b : Nat) (v : am_V) : (am_tv z w b v).category = am_cat v := by
  rcases v with x | x | _ | a <;> rfl
theorem am_two_cat (z w b : Nat) (v : am_V) : ((am_tv z w b v).category == 2) = am_two v := by
  rcases v with x | x | _ | a <;> rfl
theorem lget_mem {l : am_Lc} {i : Nat} {v : am_V} (h : lget l i = some v) : (i, v) ∈ l := by
  induction l with
  | nil => cases h
  | cons q l ih =>
    unfold lget at h
    split at h
    · rename_i e
      cases h
      subst e
      exact List.mem_cons_self
    · exact List.mem_cons_of_mem _ (ih h)
theorem lget_has {z w b : Nat} {ls : Array Slot} {nL : Nat} {l : am_Lc} {i : Nat} {v : am_V} (hl : lv_has ls nL (l.map (am_t2 z w b))) (h : lget l i = some v) : ls[i]? = some (.val (am_tv z w b v)) :=
  hl.2.2 (i, am_tv z w b v) (List.mem_map.mpr ⟨(i, v), lget_mem h, rfl⟩)
theorem lget_pos {z w b : Nat} {l : am_Lc} {i : Nat} {v : am_V} (h : lget l i = some v) : ∃ k : Nat, (l.map (am_t2 z w b))[k]? = some (i, am_tv z w b v) := by
  obtain ⟨k, hk⟩ := List.getElem?_of_mem (lget_mem h)
  exact ⟨k, by rw [List.getElem?_map, hk]; rfl⟩
theorem lset1_map (z w b : Nat) (l : am_Lc) (i : Nat) (v : am_V) : (i, am_tv z w b v) :: (l.map (am_t2 z w b)).filter (fun q => !(q.1 == i) && !(q.1 + 1 == i && q.2.category == 2)) = (lset1 l i v).map (am_t2 z w b) := by
  unfold lset1
  rw [List.map_cons, List.filter_map]
  congr 2
  apply List.filter_congr
  intro q _
  show (!(q.1 == i) && !(q.1 + 1 == i && ((am_tv z w b q.2).category == 2))) = _
  rw [am_two_cat]
theorem lset2_map (z w b : Nat) (l : am_Lc) (i : Nat) (v : am_V) : (i, am_tv z w b v) :: (l.map (am_t2 z w b)).filter (fun q => !(q.1 == i) && (!(q.1 == i + 1) && !(q.1 + 1 == i && q.2.category == 2))) = (lset2 l i v).map (am_t2 z w b) := by
  unfold lset2
  rw [List.map_cons, List.filter_map]
  congr 2
  apply List.filter_congr
  intro q _
  show (!(q.1 == i) && (!(q.1 == i + 1) && !(q.1 + 1 == i && ((am_tv z w b q.2).category == 2)))) = _
  rw [am_two_cat]
theorem lset1_rg {l : am_Lc} {i : Nat} {v : am_V} (hl : ∀ q ∈ l, am_rg q.2) (hv : am_rg v) : ∀ q ∈ lset1 l i v, am_rg q.2 := by
  intro q hq
  rcases List.mem_cons.mp hq with rfl | h
  · exact hv
  · exact hl q ((List.mem_filter.mp h).1)
theorem lset2_rg {l : am_Lc} {i : Nat} {v : am_V} (hl : ∀ q ∈ l, am_rg q.2) (hv : am_rg v) : ∀ q ∈ lset2 l i v, am_rg q.2 := by
  intro q hq
  rcases List.mem_cons.mp hq with rfl | h
  · exact hv
  · exact hl q ((List.mem_filter.mp h).1)
theorem am_args_map (z w b : Nat) : ∀ (i : Nat) (as : List am_V), lv_args i (as.map (am_tv z w b)) = (am_args i as).map (am_t2 z w b)
  | _, [] => rfl
  | i, v :: vs => by
    show (i, am_tv z w b v) :: lv_args _ _ = (i, am_tv z w b v) :: _
    rw [am_args_map z w b _ vs]
    have e : (if (am_tv z w b v).category = 2 then i + 2 else i + 1) = (if am_two v then i + 2 else i + 1) := by
      rcases v with x | x | _ | a <;> rfl
    rw [e]
theorem am_args_rg : ∀ (i : Nat) (as : List am_V), (∀ v ∈ as, am_rg v) → ∀ q ∈ am_args i as, am_rg q.2
  | _, [], _ => fun q hq => by cases hq
  | i, v :: vs, h => fun q hq => by
    rcases List.mem_cons.mp hq with rfl | hq
    · exact h _ List.mem_cons_self
    · exact am_args_rg _ vs (fun u hu => h u (List.mem_cons_of_mem _ hu)) q hq
theorem lget_rg {l : am_Lc} {i : Nat} {v : am_V} (hl : ∀ q ∈ l, am_rg q.2) (h : lget l i = some v) : am_rg v := hl _ (lget_mem h)
end
section
/-! A STEP OF THE SMALL MACHINE IS ONE OF THE LARGE ONE: locals, stack, numbers -/
theorem e_bi {n : Int} (h1 : -128 ≤ n) (h2 : n < 128) : (Int8.ofInt n).toInt32 = Int32.ofInt n := by
  apply Int32.toInt_inj.mp
  rw [Int8.toInt_toInt32, Int8.toInt_ofInt_of_le (by omega) (by omega), i32_id ⟨by omega, by omega⟩]
theorem e_si {n : Int} (h1 : -32768 ≤ n) (h2 : n < 32768) : (Int16.ofInt n).toInt32 = Int32.ofInt n := by
  apply Int32.toInt_inj.mp
  rw [Int16.toInt_toInt32, Int16.toInt_ofInt_of_le (by omega) (by omega), i32_id ⟨by omega, by omega⟩]
theorem am_ldI_inv {l l' : am_Lc} {k : Nat} {st st' : List am_V} (h : am_ldI l k st = some (l', st')) : ∃ x, lget l k = some (vI x) ∧ l' = l ∧ st' = vI x :: st := by
  unfold am_ldI at h
  split at h
  · rename_i x hx; cases h; exact ⟨x, hx, rfl, rfl⟩
  · cases h
theorem am_ldL_inv {l l' : am_Lc} {k : Nat} {st st' : List am_V} (h : am_ldL l k st = some (l', st')) : ∃ x, lget l k = some (vL x) ∧ l' = l ∧ st' = vL x :: st := by
  unfold am_ldL at h
  split at h
  · rename_i x hx; cases h; exact ⟨x, hx, rfl, rfl⟩
  · cases h
theorem am_ldR_inv {l l' : am_Lc} {k : Nat} {st st' : List am_V} (h : am_ldR l k st = some (l', st')) : ∃ x, lget l k = some (vR x) ∧ l' = l ∧ st' = vR x :: st := by
  unfold am_ldR at h
  split at h
  · rename_i x hx; cases h; exact ⟨x, hx, rfl, rfl⟩
  · cases h
theorem am_stI_inv {l l' : am_Lc} {k : Nat} {st st' : List am_V} (h : am_stI l k st = some (l', st')) : ∃ x, st = vI x :: st' ∧ l' = lset1 l k (vI x) := by
  unfold am_stI at h
  split at h
  · cases h; exact ⟨_, rfl, rfl⟩
  · cases h
theorem am_stL_inv {l l' : am_Lc} {k : Nat} {st st' : List am_V} (h : am_stL l k st = some (l', st')) : ∃ x, st = vL x :: st' ∧ l' = lset2 l k (vL x) := by
  unfold am_stL at h
  split at h
  · cases h; exact ⟨_, rfl, rfl⟩
  · cases h
theorem am_stR_inv {l l' : am_Lc} {k : Nat} {st st' : List am_V} (h : am_stR l k st = some (l', st')) : ∃ x, st = vR x :: st' ∧ l' = lset1 l k (vR x) := by
  unfold am_stR at h
  split at h
  · cases h; exact ⟨_, rfl, rfl⟩
  · cases h
theorem am_inc_inv {l l' : am_Lc} {k : Nat} {n : Int} {st st' : List am_V} (h : am_inc l k n st = some (l', st')) : ∃ x, lget l k = some (vI x) ∧ l' = lset1 l k (vI (w32 (x + n))) ∧ st' = st := by
  unfold am_inc at h
  split at h
  · rename_i x hx; cases h; exact ⟨x, hx, rfl, rfl⟩
  · cases h
theorem am_bI_inv {f : Int → Int → Int} {l l' : am_Lc} {st st' : List am_V} (h : am_bI f l st = some (l', st')) : ∃ x y r, st = vI y :: vI x :: r ∧ l' = l ∧ st' = vI (f x y) :: r := by
  unfold am_bI at h
  split at h
  · cases h; exact ⟨_, _, _, rfl, rfl, rfl⟩
  · cases h
theorem am_dI_inv {f : Int → Int → Int} {l l' : am_Lc} {st st' : List am_V} (h : am_dI f l st = some (l', st')) : ∃ x y r, st = vI y :: vI x :: r ∧ y ≠ 0 ∧ l' = l ∧ st' = vI (f x y) :: r := by
  unfold am_dI at h
  split at h
  · split at h
    · cases h
    · rename_i hne; cases h; exact ⟨_, _, _, rfl, hne, rfl, rfl⟩
  · cases h
theorem am_bL_inv {f : Int → Int → Int} {l l' : am_Lc} {st st' : List am_V} (h : am_bL f l st = some (l', st')) : ∃ x y r, st = vL y :: vL x :: r ∧ l' = l ∧ st' = vL (f x y) :: r := by
  unfold am_bL at h
  split at h
  · cases h; exact ⟨_, _, _, rfl, rfl, rfl⟩
  · cases h
theorem am_dL_inv {f : Int → Int → Int} {l l' : am_Lc} {st st' : List am_V} (h : am_dL f l st = some (l', st')) : ∃ x y r, st = vL y :: vL x :: r ∧ y ≠ 0 ∧ l' = l ∧ st' = vL (f x y) :: r := by
  unfold am_dL at h
  split at h
  · split at h
    · cases h
    · rename_i hne; cases h; exact ⟨_, _, _, rfl, hne, rfl, rfl⟩
  · cases h
theorem am_cL_inv {l l' : am_Lc} {st st' : List am_V} (h : am_cL l st = some (l', st')) : ∃ x y r, st = vL y :: vL x :: r ∧ l' = l ∧ st' = vI (a_cmp x y) :: r := by
  unfold am_cL at h
  split at h
  · cases h; exact ⟨_, _, _, rfl, rfl, rfl⟩
  · cases h
theorem am_uI_inv {f : Int → am_V} {l l' : am_Lc} {st st' : List am_V} (h : am_uI f l st = some (l', st')) : ∃ x r, st = vI x :: r ∧ l' = l ∧ st' = f x :: r := by
  unfold am_uI at h
  split at h
  · cases h; exact ⟨_, _, rfl, rfl, rfl⟩
  · cases h
theorem am_uL_inv {f : Int → am_V} {l l' : am_Lc} {st st' : List am_V} (h : am_uL f l st = some (l', st')) : ∃ x r, st = vL x :: r ∧ l' = l ∧ st' = f x :: r := by
  unfold am_uL at h
  split at h
  · cases h; exact ⟨_, _, rfl, rfl, rfl⟩
  · cases h
theorem am_cat1 {z w b : Nat} {v : am_V} (h : am_two v = false) : (am_tv z w b v).category = 1 := by
  rcases v with x | x | _ | a
  · rfl
  · cases h
  · rfl
  · rfl
theorem am_dup_inv {l l' : am_Lc} {st st' : List am_V} (h : am_dup l st = some (l', st')) : ∃ v r, st = v :: r ∧ am_two v = false ∧ l' = l ∧ st' = v :: v :: r := by
  unfold am_dup at h
  split at h
  · split at h
    · cases h
    · rename_i hne; cases h; exact ⟨_, _, rfl, by simpa using hne, rfl, rfl⟩
  · cases h
theorem am_dup2_inv {l l' : am_Lc} {st st' : List am_V} (h : am_dup2 l st = some (l', st')) : ∃ v u r, st = v :: u :: r ∧ am_two v = false ∧ am_two u = false ∧ l' = l ∧ st' = v :: u :: v :: u :: r := by
  unfold am_dup2 at h
  split at h
  · split at h
    · cases h
    · rename_i hne
      cases h
      simp only [Bool.or_eq_true, not_or, Bool.not_eq_true] at hne
      exact ⟨_, _, _, rfl, hne.1, hne.2, rfl, rfl⟩
  · cases h
theorem am_pop_inv {l l' : am_Lc} {st st' : List am_V} (h : am_pop l st = some (l', st')) : ∃ v, st = v :: st' ∧ am_two v = false ∧ l' = l := by
  unfold am_pop at h
  split at h
  · split at h
    · cases h
    · rename_i hne; cases h; exact ⟨_, rfl, by simpa using hne, rfl⟩
  · cases h
theorem rg_c {v : am_V} {r : List am_V} (h1 : am_rg v) (h2 : ∀ u ∈ r, am_rg u) : ∀ u ∈ v :: r, am_rg u := by
  intro u hu
  rcases List.mem_cons.mp hu with rfl | hu
  · exact h1
  · exact h2 u hu
theorem rg_h {v : am_V} {r : List am_V} (h : ∀ u ∈ v :: r, am_rg u) : am_rg v := h v List.mem_cons_self
theorem rg_t {v : am_V} {r : List am_V} (h : ∀ u ∈ v :: r, am_rg u) : ∀ u ∈ r, am_rg u := fun u hu => h u (List.mem_cons_of_mem _ hu)
section SIMAR
variable {p : Program} {l0 : Launch} {e : Env} {R : Room} {s : State} {m : MethodId} {args : Array Value} {below : List Frame} {meth : Method} {c : Code} {H : Heap} {locs : List Loc} {cells slots : Nat} {Q : State → Prop} {cc : ByteArray} {pc : Nat} {ls : Array Slot}
variable {z w b : Nat} {o : Nat} {ini : Bool} {maxL : Nat} {ret : Option FieldType} {RF RL : Nat} {sts : List Nat} {len : Nat}
set_option maxHeartbeats 4000000 in
theorem am_sim_ar (hx : p.tables.exec = Jvm.exec) (hb : c.code = cc) (hown : s.vm.findClass (am_cn o) = some m.cls) (hts : ∀ q ∈ lw_gt, q.before args s = true) {i : Instr} {ops : List Nat} {v : Int} {l l' : am_Lc} {st st' : List am_V} (h : am_ar i v l st = some (l', st')) (hdg : decode cc pc = .ok (i, len)) (hs : am_side o ini maxL ret RF RL sts pc len i ops v = true)
    (hl : lv_has ls maxL (l.map (am_t2 z w b))) (gl : ∀ q ∈ l, am_rg q.2) (gs : ∀ u ∈ st, am_rg u)
    (kk : ∀ ls', lv_has ls' maxL (l'.map (am_t2 z w b)) → (∀ q ∈ l', am_rg q.2) → (∀ u ∈ st', am_rg u) → W p l0 e R s m args below meth c H locs cells slots Q (F0 m (pc + len) ls' (st'.map (am_tv z w b)))) :
    W p l0 e R s m args below meth c H locs cells slots Q (F0 m pc ls (st.map (am_tv z w b))) := by
  unfold am_ar at h
  split at h
  · simp only [am_side, Bool.and_eq_true, beq_iff_eq, decide_eq_true_eq] at hs
    obtain ⟨rfl, h1, h2⟩ := hs
    cases h
    exact lv_iconst hx hb hdg rfl (kk ls hl gl (rg_c (show am_r32 _ from ⟨by omega, by omega⟩) gs))
  · simp only [am_side, Bool.and_eq_true, beq_iff_eq, decide_eq_true_eq] at hs
    obtain ⟨rfl, h1, h2⟩ := hs
    cases h
    exact lv_bipush hx hb hdg (e_bi h1 h2) (kk ls hl gl (rg_c (show am_r32 _ from ⟨by omega, by omega⟩) gs))
  · simp only [am_side, Bool.and_eq_true, beq_iff_eq, decide_eq_true_eq] at hs
    obtain ⟨rfl, h1, h2⟩ := hs
    cases h
    exact lv_sipush hx hb hdg (e_si h1 h2) (kk ls hl gl (rg_c (show am_r32 _ from ⟨by omega, by omega⟩) gs))
  · simp only [am_side, Bool.and_eq_true, beq_iff_eq, decide_eq_true_eq, List.any_eq_true] at hs
    obtain ⟨⟨rfl, q, hq, ⟨e1, e2⟩, e3⟩, h1, h2⟩ := hs
    cases h
    have hc := hts _ (am_CTk q hq)
    rw [e1, e2, e3] at hc
    exact lv_ldc hx hb hown hc hdg (kk ls hl gl (rg_c (show am_r32 _ from ⟨by omega, by omega⟩) gs))
  · simp only [am_side, Bool.and_eq_true, beq_iff_eq, decide_eq_true_eq, List.any_eq_true] at hs
    obtain ⟨⟨rfl, q, hq, ⟨e1, e2⟩, e3⟩, h1, h2⟩ := hs
    cases h
    have hc := hts _ (am_CTk q hq)
    rw [e1, e2, e3] at hc
    exact lv_ldcw hx hb hown hc hdg (kk ls hl gl (rg_c (show am_r32 _ from ⟨by omega, by omega⟩) gs))
  · rename_i n
    simp only [am_side, beq_iff_eq] at hs
    subst hs
    cases h
    have hn : (n : Nat) < 2 := n.isLt
    exact lv_lconst hx hb hdg Int64.ofInt_eq_ofNat.symm (kk ls hl gl (rg_c (show am_r64 _ from ⟨by omega, by omega⟩) gs))
  · simp only [am_side, Bool.and_eq_true, beq_iff_eq, decide_eq_true_eq, List.any_eq_true] at hs
    obtain ⟨⟨rfl, q, hq, ⟨e1, e2⟩, e3⟩, h1, h2⟩ := hs
    cases h
    have hc := hts _ (am_CJk q hq)
    rw [e1, e2, e3] at hc
    exact lv_ldc2 hx hb hown hc hdg (kk ls hl gl (rg_c (show am_r64 _ from ⟨by omega, by omega⟩) gs))
  · simp only [am_side, beq_iff_eq] at hs
    subst hs
    obtain ⟨x, hg, rfl, rfl⟩ := am_ldI_inv h
    exact lv_iload_n hx hb hdg rfl (lget_has hl hg) (kk ls hl gl (rg_c (lget_rg gl hg) gs))
  · simp only [am_side, beq_iff_eq] at hs
    subst hs
    obtain ⟨x, hg, rfl, rfl⟩ := am_ldI_inv h
    exact lv_iload hx hb hdg (lget_has hl hg) (kk ls hl gl (rg_c (lget_rg gl hg) gs))
  · simp only [am_side, beq_iff_eq] at hs
    subst hs
    obtain ⟨x, hg, rfl, rfl⟩ := am_ldL_inv h
    exact lv_lload_n hx hb hdg rfl (lget_has hl hg) (kk ls hl gl (rg_c (lget_rg gl hg) gs))
  · simp only [am_side, beq_iff_eq] at hs
    subst hs
    obtain ⟨x, hg, rfl, rfl⟩ := am_ldL_inv h
    exact lv_lload hx hb hdg (lget_has hl hg) (kk ls hl gl (rg_c (lget_rg gl hg) gs))
  · simp only [am_side, beq_iff_eq] at hs
    subst hs
    obtain ⟨x, hg, rfl, rfl⟩ := am_ldR_inv h
    exact lv_aload_n hx hb hdg rfl (lget_has hl hg) (kk ls hl gl (rg_c (lget_rg gl hg) gs))
  · simp only [am_side, beq_iff_eq] at hs
    subst hs
    obtain ⟨x, hg, rfl, rfl⟩ := am_ldR_inv h
    exact lv_aload hx hb hdg (lget_has hl hg) (kk ls hl gl (rg_c (lget_rg gl hg) gs))
  · simp only [am_side, Bool.and_eq_true, beq_iff_eq, decide_eq_true_eq] at hs
    obtain ⟨rfl, hn⟩ := hs
    obtain ⟨x, rfl, rfl⟩ := am_stI_inv h
    exact lv_istore_n hx hb hdg rfl hl hn (lset1_map z w b l _ (vI x)) (fun ls' h' => kk ls' h' (lset1_rg gl (rg_h gs)) (rg_t gs))
  · simp only [am_side, Bool.and_eq_true, beq_iff_eq, decide_eq_true_eq] at hs
    obtain ⟨rfl, hn⟩ := hs
    obtain ⟨x, rfl, rfl⟩ := am_stI_inv h
    exact lv_istore hx hb hdg hl hn (lset1_map z w b l _ (vI x)) (fun ls' h' => kk ls' h' (lset1_rg gl (rg_h gs)) (rg_t gs))
  · simp only [am_side, Bool.and_eq_true, beq_iff_eq, decide_eq_true_eq] at hs
    obtain ⟨rfl, hn⟩ := hs
    obtain ⟨x, rfl, rfl⟩ := am_stL_inv h
    exact lv_lstore_n hx hb hdg rfl hl hn (lset2_map z w b l _ (vL x)) (fun ls' h' => kk ls' h' (lset2_rg gl (rg_h gs)) (rg_t gs))
  · simp only [am_side, Bool.and_eq_true, beq_iff_eq, decide_eq_true_eq] at hs
    obtain ⟨rfl, hn⟩ := hs
    obtain ⟨x, rfl, rfl⟩ := am_stL_inv h
    exact lv_lstore hx hb hdg hl hn (lset2_map z w b l _ (vL x)) (fun ls' h' => kk ls' h' (lset2_rg gl (rg_h gs)) (rg_t gs))
  · simp only [am_side, Bool.and_eq_true, beq_iff_eq, decide_eq_true_eq] at hs
    obtain ⟨rfl, hn⟩ := hs
    obtain ⟨x, rfl, rfl⟩ := am_stR_inv h
    exact lv_astore_n hx hb hdg rfl hl hn (lset1_map z w b l _ (vR x)) (fun ls' h' => kk ls' h' (lset1_rg gl (rg_h gs)) (rg_t gs))
  · simp only [am_side, Bool.and_eq_true, beq_iff_eq, decide_eq_true_eq] at hs
    obtain ⟨rfl, hn⟩ := hs
    obtain ⟨x, rfl, rfl⟩ := am_stR_inv h
    exact lv_astore hx hb hdg hl hn (lset1_map z w b l _ (vR x)) (fun ls' h' => kk ls' h' (lset1_rg gl (rg_h gs)) (rg_t gs))
  · simp only [am_side, Bool.and_eq_true, beq_iff_eq, decide_eq_true_eq] at hs
    obtain ⟨rfl, hn⟩ := hs
    obtain ⟨x, hg, rfl, rfl⟩ := am_inc_inv h
    obtain ⟨k, hk⟩ := lget_pos (z := z) (w := w) (b := b) hg
    exact lv_iinc hx hb hdg hl hk (e_add x _).symm hn (lset1_map z w b l _ (vI _)) (fun ls' h' => kk ls' h' (lset1_rg gl (show am_r32 _ from w32_rg _)) gs)
  · simp only [am_side, beq_iff_eq] at hs
    subst hs
    obtain ⟨x, y, r, rfl, rfl, rfl⟩ := am_bI_inv h
    refine lv_iadd hx hb hdg ?_
    rw [← e_add]
    exact kk ls hl gl (rg_c (show am_r32 _ from w32_rg _) (rg_t (rg_t gs)))
  · simp only [am_side, beq_iff_eq] at hs
    subst hs
    obtain ⟨x, y, r, rfl, rfl, rfl⟩ := am_bI_inv h
    refine lv_isub hx hb hdg ?_
    rw [← e_sub]
    exact kk ls hl gl (rg_c (show am_r32 _ from w32_rg _) (rg_t (rg_t gs)))
  · simp only [am_side, beq_iff_eq] at hs
    subst hs
    obtain ⟨x, y, r, rfl, rfl, rfl⟩ := am_bI_inv h
    refine lv_imul hx hb hdg ?_
    rw [← e_mul]
    exact kk ls hl gl (rg_c (show am_r32 _ from w32_rg _) (rg_t (rg_t gs)))
  · simp only [am_side, beq_iff_eq] at hs
    subst hs
    obtain ⟨x, y, r, rfl, rfl, rfl⟩ := am_bI_inv h
    refine lv_iand hx hb hdg ?_
    rw [← of_toInt (Int32.ofInt x &&& Int32.ofInt y)]
    exact kk ls hl gl (rg_c (show am_r32 _ from i32_rg _) (rg_t (rg_t gs)))
  · simp only [am_side, beq_iff_eq] at hs
    subst hs
    obtain ⟨x, y, r, rfl, rfl, rfl⟩ := am_bI_inv h
    refine lv_ior hx hb hdg ?_
    rw [← of_toInt (Int32.ofInt x ||| Int32.ofInt y)]
    exact kk ls hl gl (rg_c (show am_r32 _ from i32_rg _) (rg_t (rg_t gs)))
  · simp only [am_side, beq_iff_eq] at hs
    subst hs
    obtain ⟨x, y, r, rfl, rfl, rfl⟩ := am_bI_inv h
    refine lv_ishl hx hb hdg ?_
    rw [← of_toInt (Int32.ofInt x <<< (Int32.ofInt y &&& 31))]
    exact kk ls hl gl (rg_c (show am_r32 _ from i32_rg _) (rg_t (rg_t gs)))
  · simp only [am_side, beq_iff_eq] at hs
    subst hs
    obtain ⟨x, y, r, rfl, rfl, rfl⟩ := am_bI_inv h
    refine lv_ishr hx hb hdg ?_
    rw [← of_toInt (Int32.ofInt x >>> (Int32.ofInt y &&& 31))]
    exact kk ls hl gl (rg_c (show am_r32 _ from i32_rg _) (rg_t (rg_t gs)))
  · simp only [am_side, beq_iff_eq] at hs
    subst hs
    obtain ⟨x, y, r, rfl, hne, rfl, rfl⟩ := am_dI_inv h
    have gy : am_r32 y := rg_h gs
    have gx : am_r32 x := rg_h (rg_t gs)
    refine lv_idiv hx hb hdg (i32_ne gy hne) ?_
    rw [← e_div gx gy]
    exact kk ls hl gl (rg_c (show am_r32 _ from w32_rg _) (rg_t (rg_t gs)))
  · simp only [am_side, beq_iff_eq] at hs
    subst hs
    obtain ⟨x, y, r, rfl, hne, rfl, rfl⟩ := am_dI_inv h
    have gy : am_r32 y := rg_h gs
    have gx : am_r32 x := rg_h (rg_t gs)
    refine lv_irem hx hb hdg (i32_ne gy hne) ?_
    rw [← e_rem gx gy]
    exact kk ls hl gl (rg_c (show am_r32 _ from tmod_rg gx.1 gx.2) (rg_t (rg_t gs)))
  · simp only [am_side, beq_iff_eq] at hs
    subst hs
    obtain ⟨x, y, r, rfl, rfl, rfl⟩ := am_bL_inv h
    refine lv_ladd hx hb hdg ?_
    rw [← e_ladd]
    exact kk ls hl gl (rg_c (show am_r64 _ from w64_rg _) (rg_t (rg_t gs)))
  · simp only [am_side, beq_iff_eq] at hs
    subst hs
    obtain ⟨x, y, r, rfl, rfl, rfl⟩ := am_bL_inv h
    refine lv_lmul hx hb hdg ?_
    rw [← e_lmul]
    exact kk ls hl gl (rg_c (show am_r64 _ from w64_rg _) (rg_t (rg_t gs)))
  · simp only [am_side, beq_iff_eq] at hs
    subst hs
    obtain ⟨x, y, r, rfl, hne, rfl, rfl⟩ := am_dL_inv h
    have gy : am_r64 y := rg_h gs
    have gx : am_r64 x := rg_h (rg_t gs)
    refine lv_ldiv hx hb hdg (i64_ne gy hne) ?_
    rw [← e_ldiv gx gy]
    exact kk ls hl gl (rg_c (show am_r64 _ from w64_rg _) (rg_t (rg_t gs)))
  · simp only [am_side, beq_iff_eq] at hs
    subst hs
    obtain ⟨x, y, r, rfl, hne, rfl, rfl⟩ := am_dL_inv h
    have gy : am_r64 y := rg_h gs
    have gx : am_r64 x := rg_h (rg_t gs)
    refine lv_lrem hx hb hdg (i64_ne gy hne) ?_
    rw [← e_lrem gx gy]
    exact kk ls hl gl (rg_c (show am_r64 _ from tmod_rg gx.1 gx.2) (rg_t (rg_t gs)))
  · simp only [am_side, beq_iff_eq] at hs
    subst hs
    obtain ⟨x, y, r, rfl, rfl, rfl⟩ := am_cL_inv h
    have gy : am_r64 y := rg_h gs
    have gx : am_r64 x := rg_h (rg_t gs)
    refine W.lcmp hx hb hdg ?_
    rw [e_cmp gx gy]
    exact kk ls hl gl (rg_c (show am_r32 _ from a_cmp_rg _ _) (rg_t (rg_t gs)))
  · simp only [am_side, beq_iff_eq] at hs
    subst hs
    obtain ⟨x, r, rfl, rfl, rfl⟩ := am_uI_inv h
    have gx : am_r32 x := rg_h gs
    exact lv_i2l hx hb hdg (e_i2l gx) (kk ls hl gl (rg_c (show am_r64 _ by unfold am_r32 at gx; unfold am_r64; omega) (rg_t gs)))
  · simp only [am_side, beq_iff_eq] at hs
    subst hs
    obtain ⟨x, r, rfl, rfl, rfl⟩ := am_uL_inv h
    exact lv_l2i hx hb hdg (e_l2i (rg_h gs)) (kk ls hl gl (rg_c (show am_r32 _ from w32_rg _) (rg_t gs)))
  · simp only [am_side, beq_iff_eq] at hs
    subst hs
    obtain ⟨x, r, rfl, rfl, rfl⟩ := am_uI_inv h
    exact lv_i2b hx hb hdg (e_i2b (rg_h gs)) (kk ls hl gl (rg_c (show am_r32 _ from w8_rg _) (rg_t gs)))
  · simp only [am_side, beq_iff_eq] at hs
    subst hs
    obtain ⟨v, r, rfl, hv, rfl, rfl⟩ := am_dup_inv h
    exact lv_dup hx hb hdg (am_cat1 hv) (kk ls hl gl (rg_c (rg_h gs) gs))
  · simp only [am_side, beq_iff_eq] at hs
    subst hs
    obtain ⟨v, u, r, rfl, hv, hu, rfl, rfl⟩ := am_dup2_inv h
    exact lv_dup2_11 hx hb hdg (am_cat1 hv) (am_cat1 hu) (kk ls hl gl (rg_c (rg_h gs) (rg_c (rg_h (rg_t gs)) gs)))
  · simp only [am_side, beq_iff_eq] at hs
    subst hs
    obtain ⟨v, rfl, hv, rfl⟩ := am_pop_inv h
    exact lv_pop hx hb hdg (am_cat1 hv) (kk ls hl gl (rg_t gs))
  · cases h
end SIMAR
end
section
/-! THE TWO MACHINES' CELLS -/
def am_wv : Nat → Int32 := fun j => ([1, 10, 100, 1000, 10000, 100000] : List Int32).getD j 0
def am_okt (ty : FieldType) : Prop := ty = .int ∨ ty = .long ∨ ty = .byte ∨ ty = .boolean ∨ ty = am_strip
def am_ce (z w b : Nat) (D : va_G) (σ : am_S) (U : State) (H : Heap) (a : Nat) (q : am_Ly) : Prop := match q with
  | (.inl ty, n) => am_okt ty ∧ (∃ cA, H[am_ad z w b a]? = some (arrV cA n (fun j => am_tv z w b (am_gv ty a j σ))) ∧ ArrOfT U cA ty ∧ va_RA U cA ty) ∧ ∀ j, j < n → am_rg (am_gv ty a j σ)
  | (.inr c, _) => c < 11 ∧ t_OB (am_ad z w b a) (D.1 c) (am_cN c) (D.2 c) H (fun k => am_tv z w b (am_gv (am_fty c k) a k σ)) ∧ ∀ k, k < am_cN c → am_rg (am_gv (am_fty c k) a k σ)
def am_HR (z w b L : Nat) (xs : Nat → Int32) (D : va_G) (σ : am_S) (U : State) (H : Heap) : Prop :=
  H.size + 2 = z + σ.2.2.1.length ∧ 2 ≤ σ.2.2.1.length ∧ σ.2.2.1[0]? = some (.inl .int, 6) ∧ σ.2.2.1[1]? = some (.inl .int, L) ∧ (∀ j, σ.1 0 j = (am_wv j).toInt) ∧ (∀ j, σ.1 1 j = (xs j).toInt) ∧ ∀ (a : Nat) (q : am_Ly), 2 ≤ a → σ.2.2.1[a]? = some q → am_ce z w b D σ U H a q
/-- what stays as it is all the time -/
def am_FX (z w b L : Nat) (xs : Nat → Int32) (D : va_G) (U : State) : Prop :=
  va_K D am_cl [] U ∧ va_Z "WashLine" "WORTHS" "[I" (.ref w) (fun q => z ≤ q) U U.heap ∧ va_X w 6 am_wv U U.heap ∧ va_X b L xs U U.heap ∧ (w < z ∧ b < z ∧ z ≤ U.heap.size) ∧ (∀ e ∈ am_NG, va_Nw (.fieldLinkNest (am_cn e.1) e.2 "WashLine" "WORTHS" "[I" "WashLine") U) ∧ (∀ e ∈ am_NM, va_Nw (.methodLinkNest (am_cn e.1) e.2.1 (am_meths.getD e.2.2 am_m0).1 "WashLine") U) ∧ va_AO "WashLine$Strip" U
theorem am_ad2 {z w b a : Nat} (h : 2 ≤ a) : am_ad z w b a = z + (a - 2) := by
  unfold am_ad
  rw [if_neg (by omega), if_neg (by omega)]
theorem am_ad_ne {z w b a c : Nat} (ha : 2 ≤ a) (hc : 2 ≤ c) (h : a ≠ c) : am_ad z w b a ≠ am_ad z w b c := by
  rw [am_ad2 ha, am_ad2 hc]
  omega
theorem am_gv_eq {ty : FieldType} {a k : Nat} {σ σ' : am_S} (h : σ'.1 a k = σ.1 a k) (h2 : σ'.2.1 a k = σ.2.1 a k) : am_gv ty a k σ' = am_gv ty a k σ := by
  unfold am_gv
  rw [h, h2]
theorem am_ce_keep {z w b : Nat} {D : va_G} {σ σ' : am_S} {U : State} {H H1 : Heap} {a : Nat} {q : am_Ly} (h : ∀ j, σ'.1 a j = σ.1 a j ∧ σ'.2.1 a j = σ.2.1 a j) (hH : H1[am_ad z w b a]? = H[am_ad z w b a]?) (hc : am_ce z w b D σ U H a q) : am_ce z w b D σ' U H1 a q := by
  obtain ⟨t | c, n⟩ := q
  · obtain ⟨h1, ⟨cA, h2, h3, h4⟩, h5⟩ := hc
    refine ⟨h1, ⟨cA, ?_, h3, h4⟩, fun j hj => by rw [am_gv_eq (h j).1 (h j).2]; exact h5 j hj⟩
    rw [hH, h2]
    congr 2
    funext j
    rw [am_gv_eq (h j).1 (h j).2]
  · obtain ⟨h1, h2, h3⟩ := hc
    refine ⟨h1, (h2.kept hH).to (fun k _ => by rw [am_gv_eq (h k).1 (h k).2]), fun j hj => by rw [am_gv_eq (h j).1 (h j).2]; exact h3 j hj⟩
theorem am_HR_put {z w b L : Nat} {xs : Nat → Int32} {D : va_G} {σ σ' : am_S} {U : State} {H H1 : Heap} {a : Nat} {q : am_Ly} (hH : am_HR z w b L xs D σ U H) (ha : 2 ≤ a) (hq : σ.2.2.1[a]? = some q) (hl : σ'.2.2.1 = σ.2.2.1) (h : ∀ c j, c ≠ a → σ'.1 c j = σ.1 c j ∧ σ'.2.1 c j = σ.2.1 c j) (z1 : H1.size = H.size) (oq : ∀ x, x ≠ am_ad z w b a → H1[x]? = H[x]?) (hc : am_ce z w b D σ' U H1 a q) : am_HR z w b L xs D σ' U H1 := by
  obtain ⟨e1, e2, e3, e4, e5, e6, e7⟩ := hH
  refine ⟨by rw [hl, z1]; exact e1, by rw [hl]; exact e2, by rw [hl]; exact e3, by rw [hl]; exact e4, fun j => by rw [(h 0 j (by omega)).1]; exact e5 j, fun j => by rw [(h 1 j (by omega)).1]; exact e6 j, fun c x h2 hx => ?_⟩
  rw [hl] at hx
  by_cases hca : c = a
  · subst hca
    cases hq.symm.trans hx
    exact hc
  · exact am_ce_keep (fun j => h c j hca) (oq _ (am_ad_ne h2 ha hca)) (e7 c x h2 hx)
theorem am_HR_new {z w b L : Nat} {xs : Nat → Int32} {D : va_G} {σ : am_S} {U : State} {H H1 : Heap} {q : am_Ly} (hH : am_HR z w b L xs D σ U H) (z1 : H1.size = H.size + 1) (oq : ∀ x, x < H.size → H1[x]? = H[x]?) (hc : am_ce z w b D (am_new σ q) U H1 σ.2.2.1.length q) : am_HR z w b L xs D (am_new σ q) U H1 := by
  obtain ⟨e1, e2, e3, e4, e5, e6, e7⟩ := hH
  have hne : ∀ c j, c ≠ σ.2.2.1.length → (am_new σ q).1 c j = σ.1 c j ∧ (am_new σ q).2.1 c j = σ.2.1 c j := fun c j hc => ⟨if_neg hc, if_neg hc⟩
  refine ⟨?_, ?_, ?_, ?_, fun j => by rw [(hne 0 j (by omega)).1]; exact e5 j, fun j => by rw [(hne 1 j (by omega)).1]; exact e6 j, fun c x h2 hx => ?_⟩
  · show H1.size + 2 = z + (σ.2.2.1 ++ [q]).length
    rw [List.length_append, List.length_singleton]
    omega
  · show 2 ≤ (σ.2.2.1 ++ [q]).length
    rw [List.length_append]
    omega
  · show (σ.2.2.1 ++ [q])[0]? = _
    rw [List.getElem?_append_left (by omega)]
    exact e3
  · show (σ.2.2.1 ++ [q])[1]? = _
    rw [List.getElem?_append_left (by omega)]
    exact e4
  · have hx : (σ.2.2.1 ++ [q])[c]? = some x := hx
    by_cases hcl : c < σ.2.2.1.length
    · rw [List.getElem?_append_left hcl] at hx
      refine am_ce_keep (fun j => hne c j (by omega)) (oq _ ?_) (e7 c x h2 hx)
      rw [am_ad2 h2]
      omega
    · rw [List.getElem?_append_right (by omega)] at hx
      have h3 : c - σ.2.2.1.length < 1 := (List.getElem?_eq_some_iff.mp hx).1
      have h4 : c = σ.2.2.1.length := by omega
      subst h4
      rw [Nat.sub_self] at hx
      cases hx
      exact hc
theorem am_HR_moved {z w b L : Nat} {xs : Nat → Int32} {D : va_G} {σ : am_S} {u U : State} {H : Heap} (hvm : u.vm.Alike U.vm) (hH : am_HR z w b L xs D σ u H) : am_HR z w b L xs D σ U H := by
  obtain ⟨e1, e2, e3, e4, e5, e6, e7⟩ := hH
  refine ⟨e1, e2, e3, e4, e5, e6, fun c x h2 hx => ?_⟩
  have hc := e7 c x h2 hx
  obtain ⟨t | c', n⟩ := x
  · obtain ⟨h1, ⟨cA, g2, g3, g4⟩, h5⟩ := hc
    exact ⟨h1, ⟨cA, g2, arrOfT_moved hvm g3, g4.moved hvm⟩, h5⟩
  · exact hc
theorem am_FX_moved {z w b L : Nat} {xs : Nat → Int32} {D : va_G} {u U : State} (hW : u.WarmedH U.vm) (hh : ∀ q, q < z → U.heap[q]? = u.heap[q]?) (hz : z ≤ U.heap.size) (h : am_FX z w b L xs D u) : am_FX z w b L xs D U := by
  obtain ⟨h1, h2, h3, h4, ⟨h5, h6, h7⟩, h8, h9, h10⟩ := h
  have hvm := hW.alike
  refine ⟨va_K.moved hvm h1, ?_, ?_, ?_, ⟨h5, h6, hz⟩, fun e he => va_Nw.warmF hW (h8 e he), fun e he => va_Nw.warmM hW (h9 e he), va_AO.moved hvm h10⟩
  · exact (va_Z.moved hvm h2).kept (fun a ha hA => hh a (Nat.not_le.mp hA))
  · exact (va_X.moved hvm h3).kept (hh w h5)
  · exact (va_X.moved hvm h4).kept (hh b h6)
theorem am_isO_inv {σ : am_S} {a c : Nat} (h : am_isO σ a c = true) : ∃ n, σ.2.2.1[a]? = some (.inr c, n) ∧ 2 ≤ a := by
  unfold am_isO at h
  split at h
  · rename_i c' n hq
    simp only [Bool.and_eq_true, decide_eq_true_eq] at h
    obtain ⟨rfl, h2⟩ := h
    exact ⟨n, hq, h2⟩
  · cases h
theorem am_pv_inv {z w b : Nat} {ty : FieldType} {a k : Nat} {v : am_V} {σ σ' : am_S} (h : am_pv ty a k v σ = some σ') (hv : am_rg v) :
    am_gv ty a k σ' = v ∧ (∀ t c j, c ≠ a ∨ j ≠ k → am_gv t c j σ' = am_gv t c j σ) ∧ σ'.2.2 = σ.2.2 ∧ (∀ c j, c ≠ a → σ'.1 c j = σ.1 c j ∧ σ'.2.1 c j = σ.2.1 c j) ∧ narrow ty (am_tv z w b v) = am_tv z w b v ∧ fits ty (am_tv z w b v) = true := by
  have s1 : ∀ x, am_gv .int a k (am_set σ a k x) = vI x ∧ am_gv .boolean a k (am_set σ a k x) = vI x ∧ am_gv .long a k (am_set σ a k x) = vL x := fun x => by
    simp [am_gv, am_set, vI, vL]
  have s2 : ∀ x, (∀ t c j, c ≠ a ∨ j ≠ k → am_gv t c j (am_set σ a k x) = am_gv t c j σ) ∧ (am_set σ a k x).2.2 = σ.2.2 ∧ (∀ c j, c ≠ a → (am_set σ a k x).1 c j = σ.1 c j ∧ (am_set σ a k x).2.1 c j = σ.2.1 c j) := fun x =>
    ⟨fun t c j hcj => am_gv_eq (if_neg (fun q => hcj.elim (fun g => g q.1) (fun g => g q.2))) rfl, rfl, fun c j hc => ⟨if_neg (fun q => hc q.1), rfl⟩⟩
  have s3 : ∀ x, (∀ t c j, c ≠ a ∨ j ≠ k → am_gv t c j (am_setR σ a k x) = am_gv t c j σ) ∧ (am_setR σ a k x).2.2 = σ.2.2 ∧ (∀ c j, c ≠ a → (am_setR σ a k x).1 c j = σ.1 c j ∧ (am_setR σ a k x).2.1 c j = σ.2.1 c j) := fun x =>
    ⟨fun t c j hcj => am_gv_eq rfl (if_neg (fun q => hcj.elim (fun g => g q.1) (fun g => g q.2))), rfl, fun c j hc => ⟨rfl, if_neg (fun q => hc q.1)⟩⟩
  unfold am_pv at h
  split at h
  · cases h
    exact ⟨(s1 _).1, (s2 _).1, (s2 _).2.1, (s2 _).2.2, rfl, rfl⟩
  · split at h
    · rename_i h01
      cases h
      refine ⟨(s1 _).2.1, (s2 _).1, (s2 _).2.1, (s2 _).2.2, ?_, ?_⟩
      · rcases h01 with rfl | rfl <;> rfl
      · rcases h01 with rfl | rfl <;> rfl
    · cases h
  · cases h
    exact ⟨(s1 _).2.2, (s2 _).1, (s2 _).2.1, (s2 _).2.2, rfl, rfl⟩
  · cases h
    exact ⟨by simp [am_gv, am_setR], (s3 _).1, (s3 _).2.1, (s3 _).2.2, rfl, rfl⟩
  · cases h
    exact ⟨by simp [am_gv, am_setR], (s3 _).1, (s3 _).2.1, (s3 _).2.2, rfl, rfl⟩
  · cases h
theorem am_in {i : Int} {n : Nat} {cA : ClassId} {f : Nat → Value} (hi : am_r32 i) (h0 : 0 ≤ i) (hn : i < (n : Int)) : ¬ (Int32.ofInt i < 0 ∨ (arrV cA n f).slots.size ≤ (Int32.ofInt i).toNatClampNeg) := by
  rw [arrV_size, i32_clamp hi]
  have : ¬ Int32.ofInt i < 0 := by
    rw [show (0 : Int32) = Int32.ofInt 0 from rfl, i32_lt hi r32_0]
    omega
  intro h
  rcases h with h | h
  · exact this h
  · omega
theorem am_inx {i : Int} {n : Nat} (hi : am_r32 i) (h0 : 0 ≤ i) (hn : i < (n : Int)) : vp_in (Int32.ofInt i) n := by
  unfold vp_in
  rw [i32_clamp hi]
  have : ¬ Int32.ofInt i < 0 := by
    rw [show (0 : Int32) = Int32.ofInt 0 from rfl, i32_lt hi r32_0]
    omega
  intro h
  rcases h with h | h
  · exact this h
  · omega
theorem e_and1 (x : Int) : Int32.ofInt x &&& 1 = Int32.ofInt (x % 2) := by
  apply Int32.toBitVec_inj.mp
  show BitVec.ofInt 32 x &&& 1#32 = BitVec.ofInt 32 (x % 2)
  apply BitVec.eq_of_toNat_eq
  rw [BitVec.toNat_and, BitVec.toNat_ofInt, BitVec.toNat_ofInt]
  show (x % 4294967296).toNat &&& 1 = (x % 2 % 4294967296).toNat
  rw [Nat.and_one_is_mod]
  omega
end
section
/-! A STEP OF THE SMALL MACHINE IS ONE OF THE LARGE ONE: cells -/
theorem am_aget_inv {t : FieldType} {st st' : List am_V} {σ σ' : am_S} (h : am_aget t st σ = some (st', σ')) : ∃ i a r n, st = vI i :: vR a :: r ∧ σ.2.2.1[a]? = some (.inl t, n) ∧ 0 ≤ i ∧ i < (n : Int) ∧ st' = am_gv t a i.toNat σ :: r ∧ σ = σ' := by
  unfold am_aget at h
  split at h
  · split at h
    · rename_i hq
      split at h
      · rename_i h3
        obtain ⟨rfl, h4, h5⟩ := h3
        cases h
        exact ⟨_, _, _, _, rfl, hq, h4, h5, rfl, rfl⟩
      · cases h
    · cases h
  · cases h
theorem am_aput_inv {t : FieldType} {f : Int → Int} {st st' : List am_V} {σ σ' : am_S} (h : am_aput t f st σ = some (st', σ')) : ∃ x i a n, st = vI x :: vI i :: vR a :: st' ∧ σ.2.2.1[a]? = some (.inl t, n) ∧ 0 ≤ i ∧ i < (n : Int) ∧ 2 ≤ a ∧ σ' = am_set σ a i.toNat (f x) := by
  unfold am_aput at h
  split at h
  · split at h
    · rename_i hq
      split at h
      · rename_i h3
        obtain ⟨rfl, h4, h5, h6⟩ := h3
        cases h
        exact ⟨_, _, _, _, rfl, hq, h4, h5, h6, rfl⟩
      · cases h
    · cases h
  · cases h
theorem am_aputL_inv {st st' : List am_V} {σ σ' : am_S} (h : am_aputL st σ = some (st', σ')) : ∃ x i a n, st = vL x :: vI i :: vR a :: st' ∧ σ.2.2.1[a]? = some (.inl .long, n) ∧ 0 ≤ i ∧ i < (n : Int) ∧ 2 ≤ a ∧ σ' = am_set σ a i.toNat x := by
  unfold am_aputL at h
  split at h
  · split at h
    · rename_i hq
      split at h
      · rename_i h3
        obtain ⟨rfl, h4, h5, h6⟩ := h3
        cases h
        exact ⟨_, _, _, _, rfl, hq, h4, h5, h6, rfl⟩
      · cases h
    · cases h
  · cases h
theorem am_aputR_inv {st st' : List am_V} {σ σ' : am_S} (h : am_aputR st σ = some (st', σ')) : ∃ c i a n k, st = vR c :: vI i :: vR a :: st' ∧ σ.2.2.1[a]? = some (.inl am_strip, n) ∧ σ.2.2.1[c]? = some (.inr 6, k) ∧ 0 ≤ i ∧ i < (n : Int) ∧ 2 ≤ a ∧ 2 ≤ c ∧ σ' = am_setR σ a i.toNat (some c) := by
  unfold am_aputR at h
  split at h
  · split at h
    · rename_i hq hc
      split at h
      · rename_i h3
        obtain ⟨rfl, h4, h5, h6, h7⟩ := h3
        cases h
        exact ⟨_, _, _, _, _, rfl, hq, hc, h4, h5, h6, h7, rfl⟩
      · cases h
    · cases h
  · cases h
theorem am_alen_inv {st st' : List am_V} {σ σ' : am_S} (h : am_alen st σ = some (st', σ')) : ∃ a r t n, st = vR a :: r ∧ σ.2.2.1[a]? = some (.inl t, n) ∧ (n : Int) < 1000000 ∧ st' = vI n :: r ∧ σ = σ' := by
  unfold am_alen at h
  split at h
  · split at h
    · rename_i hq
      split at h
      · rename_i h3
        cases h
        exact ⟨_, _, _, _, rfl, hq, h3, rfl, rfl⟩
      · cases h
    · cases h
  · cases h
theorem am_newa_inv {t : FieldType} {st st' : List am_V} {σ σ' : am_S} (h : am_newa t st σ = some (st', σ')) : ∃ n r, st = vI n :: r ∧ 0 ≤ n ∧ n ≤ 1000000 ∧ st' = vR σ.2.2.1.length :: r ∧ σ' = am_new σ (.inl t, n.toNat) := by
  unfold am_newa at h
  split at h
  · split at h
    · rename_i h3
      cases h
      exact ⟨_, _, rfl, h3.1, h3.2, rfl, rfl⟩
    · cases h
  · cases h
theorem am_getf_inv {c k : Nat} {st st' : List am_V} {σ σ' : am_S} (h : am_getf c k st σ = some (st', σ')) : ∃ a r n, st = vR a :: r ∧ σ.2.2.1[a]? = some (.inr c, n) ∧ 2 ≤ a ∧ st' = am_gv (am_fty c k) a k σ :: r ∧ σ = σ' := by
  unfold am_getf at h
  split at h
  · split at h
    · rename_i h3
      obtain ⟨n, h4, h5⟩ := am_isO_inv h3
      cases h
      exact ⟨_, _, n, rfl, h4, h5, rfl, rfl⟩
    · cases h
  · cases h
theorem am_putf_inv {c k : Nat} {st st' : List am_V} {σ σ' : am_S} (h : am_putf c k st σ = some (st', σ')) : ∃ v a n, st = v :: vR a :: st' ∧ σ.2.2.1[a]? = some (.inr c, n) ∧ 2 ≤ a ∧ am_pv (am_fty c k) a k v σ = some σ' := by
  unfold am_putf at h
  split at h
  · split at h
    · rename_i h3
      obtain ⟨n, h4, h5⟩ := am_isO_inv h3
      rw [Option.map_eq_some_iff] at h
      obtain ⟨σ2, h6, h7⟩ := h
      cases h7
      exact ⟨_, _, n, rfl, h4, h5, h6⟩
    · cases h
  · cases h
theorem am_acopy_inv {st st' : List am_V} {σ σ' : am_S} (h : am_acopy st σ = some (st', σ')) : ∃ n dp d sp a n0 n1, st = vI n :: vI dp :: vR d :: vI sp :: vR a :: st' ∧ σ.2.2.1[a]? = some (.inl .int, n0) ∧ σ.2.2.1[d]? = some (.inl .int, n1) ∧ 0 ≤ n ∧ 0 ≤ dp ∧ 0 ≤ sp ∧ sp + n ≤ (n0 : Int) ∧ dp + n ≤ (n1 : Int) ∧ 2 ≤ a ∧ 2 ≤ d ∧ (st'.map am_cat).sum ≤ 8 ∧ σ' = am_cpy σ a sp.toNat d dp.toNat n.toNat := by
  unfold am_acopy at h
  split at h
  · split at h
    · rename_i hq hc
      split at h
      · rename_i h3
        obtain ⟨rfl, rfl, h4, h5, h6, h7, h8, h9, h10, h11⟩ := h3
        cases h
        exact ⟨_, _, _, _, _, _, _, rfl, hq, hc, h4, h5, h6, h7, h8, h9, h10, h11, rfl⟩
      · cases h
    · cases h
  · cases h
theorem am_map_cat (z w b : Nat) (st : List am_V) : ((st.map (am_tv z w b)).map fun v => v.category).sum = (st.map am_cat).sum := by
  rw [List.map_map]
  congr 1
  apply List.map_congr_left
  intro v _
  exact am_tv_cat z w b v
theorem am_gv_ne (t : FieldType) (a : Nat) {j k : Nat} (x : Int) (σ : am_S) (h : ¬ j = k) : am_gv t a j (am_set σ a k x) = am_gv t a j σ := am_gv_eq (if_neg (fun q => h q.2)) rfl
theorem am_gvR_ne (t : FieldType) (a : Nat) {j k : Nat} (x : Option Nat) (σ : am_S) (h : ¬ j = k) : am_gv t a j (am_setR σ a k x) = am_gv t a j σ := am_gv_eq rfl (if_neg (fun q => h q.2))
theorem am_setc {z w b : Nat} {t : FieldType} {a k : Nat} {x : Int} {σ : am_S} {v : am_V} (hv : am_gv t a k (am_set σ a k x) = v) : (fun j => am_tv z w b (am_gv t a j (am_set σ a k x))) = updV (fun j => am_tv z w b (am_gv t a j σ)) k (am_tv z w b v) := by
  funext j
  unfold updV
  by_cases h : j = k
  · subst h
    rw [if_pos rfl, hv]
  · rw [if_neg h, am_gv_ne t a x σ h]
def am_okf (t : FieldType) : Bool := match t with
  | .int => true
  | .long => true
  | .byte => true
  | .boolean => true
  | .object _ => true
  | .array _ => true
  | _ => false
theorem am_ftok (c k : Nat) : am_okf (am_fty c k) = true := by
  unfold am_fty
  split
  · unfold am_ty0; split <;> rfl
  · unfold am_ty1; split <;> rfl
  · unfold am_ty2; split <;> rfl
  · unfold am_ty3; split <;> rfl
  · unfold am_ty4; split <;> rfl
  · unfold am_ty5; split <;> rfl
  · unfold am_ty6; split <;> rfl
  · unfold am_ty7; split <;> rfl
  · unfold am_ty8; split <;> rfl
  · unfold am_ty9; split <;> rfl
  · unfold am_ty10; split <;> rfl
section SIMME
variable {p : Program} {l0 : Launch} {e : Env} {R : Room} {s : State} {m : MethodId} {args : Array Value} {below : List Frame} {meth : Method} {c : Code} {H : Heap} {locs : List Loc} {cells slots : Nat} {Q : State → Prop} {cc : ByteArray} {pc : Nat} {ls : Array Slot}
variable {z w b L : Nat} {xs : Nat → Int32} {D : va_G} {o : Nat} {ini : Bool} {maxL : Nat} {ret : Option FieldType} {RF RL : Nat} {sts : List Nat} {len : Nat}
/-- an array of numbers, stored into -/
theorem am_st_ce {t : FieldType} {a k n : Nat} {x : Int} {σ : am_S} {v : am_V} {H1 : Heap} {cA : ClassId} (hok : am_okt t) (hA : ArrOfT s cA t) (hR : va_RA s cA t) (hg : ∀ j, j < n → am_rg (am_gv t a j σ)) (hv : am_gv t a k (am_set σ a k x) = v) (hvr : am_rg v)
    (e1 : H1[am_ad z w b a]? = some ((arrV cA n (fun j => am_tv z w b (am_gv t a j σ))).setSlot k (am_tv z w b v))) : am_ce z w b D (am_set σ a k x) s H1 a (.inl t, n) := by
  refine ⟨hok, ⟨cA, ?_, hA, hR⟩, fun j hj => ?_⟩
  · rw [e1, arrV_store, am_setc hv]
  · by_cases h : j = k
    · subst h
      rw [hv]
      exact hvr
    · rw [am_gv_ne t a x σ h]
      exact hg j hj
theorem am_set_other (σ : am_S) (a k : Nat) (x : Int) : ∀ c j, c ≠ a → (am_set σ a k x).1 c j = σ.1 c j ∧ (am_set σ a k x).2.1 c j = σ.2.1 c j := fun c j hc => ⟨if_neg (fun q => hc q.1), rfl⟩
theorem am_setR_other (σ : am_S) (a k : Nat) (x : Option Nat) : ∀ c j, c ≠ a → (am_setR σ a k x).1 c j = σ.1 c j ∧ (am_setR σ a k x).2.1 c j = σ.2.1 c j := fun c j hc => ⟨rfl, if_neg (fun q => hc q.1)⟩
theorem am_zA {a : Nat} (h : 2 ≤ a) : (fun q : Nat => z ≤ q) (am_ad z w b a) := by
  show z ≤ am_ad z w b a
  rw [am_ad2 h]
  omega
set_option maxHeartbeats 4000000 in
theorem am_copyi (hexec : p.tables.exec = Jvm.exec) (hb : c.code = cc) (hml : c.maxLocals = ls.size) {own : String} {index : Nat} (hown : s.vm.findClass own = some m.cls) (hlink : (Cond.methodLink own index arraycopyName).before args s = true) (hnat : (Cond.native arraycopyName).before args s = true) (hstat : (Cond.static arraycopyName).before args s = true) (hini : (Cond.initialized "java/lang/System").before args s = true)
    {a0 a : Nat} {c0 c1 : ClassId} {n0 n1 : Nat} {f g : Nat → Int32} (hc0 : H[a0]? = some (vp_cell c0 (n0, .inl f))) (hc1 : H[a]? = some (vp_cell c1 (n1, .inl g))) (ht0 : ArrOfT s c0 .int) (ht1 : ArrOfT s c1 .int)
    {sp dp n : Int32} (h1 : ¬ sp < 0) (h2 : ¬ dp < 0) (h3 : ¬ n < 0) (h4 : sp.toNatClampNeg + n.toNatClampNeg ≤ n0) (h5 : dp.toNatClampNeg + n.toNatClampNeg ≤ n1)
    {rest : List Value} (hframes : 1 ≤ R.frames) (hlocals : (rest.map fun v => v.category).sum + (nativeFrameWords "java/lang/System" "arraycopy" 5 + 11) ≤ R.locals) (hdg : decode cc pc = .ok (.invokestatic index, 3))
    (kk : ∀ (H1 : Heap) (L : List Loc), H1[a]? = some (vp_cell c1 (n1, .inl (va_cpy f g sp.toNatClampNeg dp.toNatClampNeg n.toNatClampNeg))) → H1.size = H.size → (∀ q, q ≠ a → H1[q]? = H[q]?) → (∀ q ∈ L, q.base = a) → W p l0 e R s m args below meth c H1 (locs ++ L) cells slots Q (F0 m (pc + 3) ls rest)) : W p l0 e R s m args below meth c H locs cells slots Q (F0 m pc ls (.int n :: .int dp :: .ref a :: .int sp :: .ref a0 :: rest)) := by
  have nn : ∀ z : Int32, ¬ z < 0 → z.toInt = (z.toNatClampNeg : Int) := by
    intro z hz
    have hz0 : (0 : Int) ≤ z.toInt := by
      have := Int32.not_lt.mp hz
      simpa using Int32.le_iff_toInt_le.mp this
    show z.toInt = ((z.toInt.toNat : Nat) : Int)
    omega
  intro T hT X
  obtain ⟨-, k0, hk0, cm0, hkk0⟩ := ht0 n0 (fun j => .int (f j))
  obtain ⟨-, k1, hk1, cm1, hkk1⟩ := ht1 n1 (fun j => .int (g j))
  obtain ⟨vm', X', step⟩ := X.arraycopy hexec hown hlink hnat hstat hini (src := a0) (dst := a) (cs := vp_cell c0 (n0, .inl f)) (cd := vp_cell c1 (n1, .inl g)) (srcPos := sp) (destPos := dp) (n := n) (by rw [hT]; exact hc0) (by rw [hT]; exact hc1)
    (fun _ h => by cases h) (fun _ h => by cases h) (fun h => by cases h) (fun h => by cases h) hk0 hk1 hkk0 hkk1 rfl h1 h2 h3
    (by rw [nn sp h1, nn n h3]; show ¬ _ > ((arrV c0 n0 (fun j => .int (f j))).slots.size : Int); rw [arrV_size]; omega)
    (by rw [nn dp h2, nn n h3]; show ¬ _ > ((arrV c1 n1 (fun j => .int (g j))).slots.size : Int); rw [arrV_size]; omega)
    (fun vm₁ _ i hi => by
      have e : (vp_cell c0 (n0, .inl f)).slots.getD (sp.toNatClampNeg + i) .null = .int (f (sp.toNatClampNeg + i)) := by
        show (arrV c0 n0 (fun j => .int (f j))).slots.getD _ _ = _
        rw [Array.getD_eq_getD_getElem?, arrV_read _ _ (by omega)]
        rfl
      refine ⟨?_, ?_⟩
      · rw [e]
        rfl
      · rw [e]
        exact trivial)
    (g := F0 m pc ls (.int n :: .int dp :: .ref a :: .int sp :: .ref a0 :: rest)) rfl (by rw [hml]) (rest := rest) rfl (by rw [hb]; exact hdg) hframes (by show 2 * 0 + _ + _ ≤ _; omega)
  have e1 : copied (vp_cell c0 (n0, .inl f)) (vp_cell c1 (n1, .inl g)) sp dp n = vp_cell c1 (n1, .inl (va_cpy f g sp.toNatClampNeg dp.toNatClampNeg n.toNatClampNeg)) := va_copied (fun z => .int z) c0 c1 f g h4
  rw [e1] at X' step
  have hl : a < H.size := (Array.getElem?_eq_some_iff.mp hc1).1
  have hheap : ((T.setVm vm').setCell a (vp_cell c1 (n1, .inl (va_cpy f g sp.toNatClampNeg dp.toNatClampNeg n.toNatClampNeg)))).heap = H.setIfInBounds a (vp_cell c1 (n1, .inl (va_cpy f g sp.toNatClampNeg dp.toNatClampNeg n.toNatClampNeg))) := by rw [← hT]; rfl
  have oq : ∀ q : Nat, q ≠ a → (H.setIfInBounds a (vp_cell c1 (n1, .inl (va_cpy f g sp.toNatClampNeg dp.toNatClampNeg n.toNatClampNeg))))[q]? = H[q]? := fun q hq => by simp [Array.getElem?_setIfInBounds, Ne.symm hq]
  obtain ⟨t, a1, b1⟩ := kk _ _ (show (H.setIfInBounds a _)[a]? = some _ by simp [Array.getElem?_setIfInBounds, hl]) (by simp) oq (fun q hq => by
    obtain ⟨z, -, hz⟩ := List.mem_map.mp hq
    rw [← hz]) _ hheap X'
  exact ⟨t, step t a1, b1⟩
set_option maxHeartbeats 8000000 in
theorem am_sim_me (hx : p.tables.exec = Jvm.exec) (hb : c.code = cc) (hml : c.maxLocals = maxL) (hown : s.vm.findClass (am_cn o) = some m.cls) (hts : ∀ q ∈ lw_gt, q.before args s = true) (hF : am_FX z w b L xs D s) (hini : ini = true → meth.name = "<init>") (hRF : R.frames = RF) (hRL : R.locals = RL)
    {i : Instr} {ops : List Nat} {v : Int} {l : am_Lc} {st st' : List am_V} {σ σ' : am_S} (h : am_me i ops st σ = some (st', σ')) (hdg : decode cc pc = .ok (i, len)) (hs : am_side o ini maxL ret RF RL sts pc len i ops v = true)
    (hl : lv_has ls maxL (l.map (am_t2 z w b))) (gs : ∀ u ∈ st, am_rg u) (hH : am_HR z w b L xs D σ s H) (hS : va_S (fun q => z ≤ q) s.heap H locs) (hrc : cells + σ'.2.2.2.1 ≤ R.cells + σ.2.2.2.1) (hrs : slots + σ'.2.2.2.2 ≤ R.slots + σ.2.2.2.2)
    (kk : ∀ H1 locs1 cells1 slots1, am_HR z w b L xs D σ' s H1 → va_S (fun q => z ≤ q) s.heap H1 locs1 → cells1 + σ.2.2.2.1 = cells + σ'.2.2.2.1 → slots1 + σ.2.2.2.2 = slots + σ'.2.2.2.2 → (∀ u ∈ st', am_rg u) → W p l0 e R s m args below meth c H1 locs1 cells1 slots1 Q (F0 m (pc + len) ls (st'.map (am_tv z w b)))) :
    W p l0 e R s m args below meth c H locs cells slots Q (F0 m pc ls (st.map (am_tv z w b))) := by
  obtain ⟨hK, hZ, hXw, hXb, ⟨hwz, hbz, hzs⟩, hng, hnm, hao⟩ := hF
  have hE := hH
  obtain ⟨z1, z2, l0', l1', y0, y1, hce⟩ := hE
  have sameK : ∀ {r}, st' = r → σ' = σ → True := fun _ _ => trivial
  unfold am_me at h
  split at h
  · -- getfield
    split at h
    · rename_i idx cx kx
      simp only [am_side, Bool.and_eq_true, beq_iff_eq, decide_eq_true_eq, List.any_eq_true] at hs
      obtain ⟨rfl, ⟨hc, hk⟩, q, hq, ⟨⟨e1, e2⟩, e3⟩, e4⟩ := hs
      obtain ⟨a, r, n, rfl, hla, ha2, rfl, rfl⟩ := am_getf_inv h
      have hlk := hts _ (am_FLk q hq)
      rw [e1, e2, e3, e4] at hlk
      obtain ⟨-, ⟨cell, q1, q2, q3, q4⟩, hrg⟩ := hce a _ ha2 hla
      obtain ⟨hSl, hfc, kC, hkC, hkind⟩ := hK.1 cx _ (am_clA cx hc)
      obtain ⟨cf, kf, fi, f, hi, hsl⟩ := hSl kx hk
      refine W.getf (g := F0 m pc ls _) hx hb hown hlk hi (u_facts hfc hkC (u_lays hts (am_inA cx hc) hk) hi).1 q1 (by rw [q3]; exact fun h => by cases h) (v := am_tv z w b (am_gv (am_fty cx kx) a kx σ)) (by rw [hsl]; exact q4 kx hk) rfl rfl hdg ?_
      exact kk H locs cells slots hH hS rfl rfl (rg_c (hrg kx hk) (rg_t gs))
    · cases h
  · -- putfield
    split at h
    · rename_i idx cx kx
      simp only [am_side, Bool.and_eq_true, beq_iff_eq, decide_eq_true_eq, List.any_eq_true] at hs
      obtain ⟨rfl, ⟨⟨hc, hk⟩, q, hq, ⟨⟨e1, e2⟩, e3⟩, e4⟩, hfin⟩ := hs
      obtain ⟨v, a, n, rfl, hla, ha2, hpv⟩ := am_putf_inv h
      have hlk := hts _ (am_FLk q hq)
      rw [e1, e2, e3, e4] at hlk
      obtain ⟨-, ⟨cell, q1, q2, q3, q4⟩, hrg⟩ := hce a _ ha2 hla
      obtain ⟨hSl, hfc, kC, hkC, hkind⟩ := hK.1 cx _ (am_clA cx hc)
      have hap := va_apart (own := am_cn o) (D := D) hts (am_inA cx hc) (am_fty cx) (am_tkA cx hc) (am_nmA cx hc) hK (am_clA cx hc)
      obtain ⟨cf, kf, fi, f, hi, hsl⟩ := hSl kx hk
      have gv := rg_h gs
      obtain ⟨p1, p2, p3, p4, p5, p6⟩ := am_pv_inv (z := z) (w := w) (b := b) hpv gv
      have hst := (u_facts hfc hkC (u_lays hts (am_inA cx hc) hk) hi).1
      have hgo : ∀ H' : Heap, H'[am_ad z w b a]? = some (cell.setSlot (D.2 cx kx) (am_tv z w b v)) → H'.size = H.size → (∀ q, q ≠ am_ad z w b a → H'[q]? = H[q]?) → W p l0 e R s m args below meth c H' (locs ++ [⟨am_ad z w b a, D.2 cx kx⟩]) cells slots Q (F0 m (pc + 3) ls (st'.map (am_tv z w b))) := by
        intro H' f1 f2 f3
        refine kk H' _ cells slots (am_HR_put hH ha2 hla (by rw [p3]) p4 f2 f3 ⟨hc, ?_, ?_⟩) (hS.put f2 f3 (am_zA ha2)) (by rw [p3]) (by rw [p3]) (rg_t (rg_t gs))
        · refine t_OB.to (V := updV (fun k => am_tv z w b (am_gv (am_fty cx k) a k σ)) kx (am_tv z w b v)) ⟨_, f1, q2, q3, t_set q4 hap hk _⟩ (fun j hj => ?_)
          unfold updV
          by_cases hjk : j = kx
          · subst hjk
            rw [if_pos rfl, p1]
          · rw [if_neg hjk, p2 _ a j (Or.inr hjk)]
        · intro j hj
          by_cases hjk : j = kx
          · subst hjk
            rw [p1]
            exact gv
          · rw [p2 _ a j (Or.inr hjk)]
            exact hrg j hj
      have hlay := hts _ (am_inA cx hc _ (u_in_lay hk))
      unfold u_lay at hlay
      by_cases hf : (am_Tt cx kx).2.2.2 = true
      · rw [if_pos hf] at hlay
        have hio : ini = true ∧ cx = o := by
          rcases Bool.or_eq_true _ _ ▸ hfin with h1 | h1
          · rw [hf] at h1; cases h1
          · exact ⟨(Bool.and_eq_true _ _ ▸ h1).1, of_decide_eq_true (Bool.and_eq_true _ _ ▸ h1).2⟩
        have hcf : m.cls = cf := by
          obtain ⟨_, _, c', _, _, _, -, -, hf', -, -, -, hown2, -⟩ := Cond.laysFinal_spec hlay
          have e5 : c' = cf := by have := hi.symm.trans hf'; simp at this; exact this.1.symm
          rw [am_dcA cx hc kx hk, hio.2] at hown2
          rw [← e5]; exact Option.some.inj (hown.symm.trans hown2)
        have h6 := u_fits hfc hkC hkind (Or.inr hlay) hi (am_tkA cx hc kx hk) p5 p6
        refine W.putFinK (g := F0 m pc ls _) hx hb hown hlk hi hst hcf (hini hio.1) (by rw [q2]; exact h6) q1 q3 (by rw [hsl]; exact k2_hasslot (q4 kx hk)) rfl rfl hdg fun H' f1 f2 f3 => ?_
        rw [hsl] at f1 ⊢
        exact hgo H' f1 f2 f3
      · rw [if_neg hf] at hlay
        have h6 := u_store hfc hkC hkind hlay hi (am_tkA cx hc kx hk) p5 p6
        refine W.putK (g := F0 m pc ls _) hx hb (f := f) ⟨hown, hlk, ⟨_, _, _, hi⟩, hst⟩ (by rw [q2]; exact h6) q1 q3 (by rw [hsl]; exact k2_hasslot (q4 kx hk)) rfl rfl hdg fun H' f1 f2 f3 => ?_
        rw [hsl] at f1 ⊢
        exact hgo H' f1 f2 f3
    · cases h
  · -- getstatic
    rename_i idx
    simp only [am_side, Bool.and_eq_true, beq_iff_eq, decide_eq_true_eq, List.any_eq_true] at hs
    obtain ⟨rfl, q, hq, e1, e2⟩ := hs
    cases h
    have hn := va_Nw.use (A := args) rfl (hng q hq)
    rw [e1, e2] at hn
    exact va_getsN hx hb hZ hS hown hn (fun _ h => h) hdg (kk H locs cells slots hH hS rfl rfl (rg_c trivial gs))
  · -- iaload
    simp only [am_side, beq_iff_eq] at hs
    subst hs
    obtain ⟨i, a, r, n, rfl, hla, h0, hn, rfl, rfl⟩ := am_aget_inv h
    have gi : am_r32 i := rg_h gs
    have kk' := kk H locs cells slots hH hS rfl rfl
    by_cases ha2 : 2 ≤ a
    · obtain ⟨-, ⟨cA, q1, q2, -⟩, hrg⟩ := hce a _ ha2 hla
      refine W.iald (g := F0 m pc ls _) hx hb q1 (q2 _ _) (fun h => by cases h) (am_in gi h0 hn) (v := am_tv z w b (am_gv .int a i.toNat σ)) (by rw [i32_clamp gi]; exact arrV_read _ _ (by omega)) rfl rfl hdg ?_
      exact kk' (rg_c (hrg _ (by omega)) (rg_t (rg_t gs)))
    · rcases (show a = 0 ∨ a = 1 by omega) with rfl | rfl
      · cases l0'.symm.trans hla
        have ev : am_gv .int 0 i.toNat σ = vI (am_wv i.toNat).toInt := by simp [am_gv, y0]
        rw [ev] at kk'
        refine va_sld hx hb hXw (by omega) (by show ¬ z ≤ w; omega) hS (am_inx gi h0 hn) hdg ?_
        rw [i32_clamp gi, ← of_toInt (am_wv i.toNat)]
        exact kk' (rg_c (i32_rg _) (rg_t (rg_t gs)))
      · cases l1'.symm.trans hla
        have ev : am_gv .int 1 i.toNat σ = vI (xs i.toNat).toInt := by simp [am_gv, y1]
        rw [ev] at kk'
        refine va_sld hx hb hXb (by omega) (by show ¬ z ≤ b; omega) hS (am_inx gi h0 hn) hdg ?_
        rw [i32_clamp gi, ← of_toInt (xs i.toNat)]
        exact kk' (rg_c (i32_rg _) (rg_t (rg_t gs)))
  · -- laload
    simp only [am_side, beq_iff_eq] at hs
    subst hs
    obtain ⟨i, a, r, n, rfl, hla, h0, hn, rfl, rfl⟩ := am_aget_inv h
    have gi : am_r32 i := rg_h gs
    have ha2 : 2 ≤ a := by
      rcases (show a = 0 ∨ a = 1 ∨ 2 ≤ a by omega) with rfl | rfl | h2
      · cases l0'.symm.trans hla
      · cases l1'.symm.trans hla
      · exact h2
    obtain ⟨-, ⟨cA, q1, q2, -⟩, hrg⟩ := hce a _ ha2 hla
    refine W.lald (g := F0 m pc ls _) hx hb q1 (q2 _ _) (fun h => by cases h) (am_in gi h0 hn) (v := am_tv z w b (am_gv .long a i.toNat σ)) (by rw [i32_clamp gi]; exact arrV_read _ _ (by omega)) rfl rfl hdg ?_
    exact kk H locs cells slots hH hS rfl rfl (rg_c (hrg _ (by omega)) (rg_t (rg_t gs)))
  · -- baload
    simp only [am_side, beq_iff_eq] at hs
    subst hs
    unfold am_bget at h
    rw [Option.or_eq_some_iff] at h
    rcases h with h | ⟨-, h⟩
    · obtain ⟨i, a, r, n, rfl, hla, h0, hn, rfl, rfl⟩ := am_aget_inv h
      have gi : am_r32 i := rg_h gs
      have ha2 : 2 ≤ a := by
        rcases (show a = 0 ∨ a = 1 ∨ 2 ≤ a by omega) with rfl | rfl | h2
        · cases l0'.symm.trans hla
        · cases l1'.symm.trans hla
        · exact h2
      obtain ⟨-, ⟨cA, q1, q2, -⟩, hrg⟩ := hce a _ ha2 hla
      refine W.bald (g := F0 m pc ls _) hx hb q1 (q2 _ _) (fun h => by cases h) (am_in gi h0 hn) (v := am_tv z w b (am_gv .byte a i.toNat σ)) (by rw [i32_clamp gi]; exact arrV_read _ _ (by omega)) rfl rfl hdg ?_
      exact kk H locs cells slots hH hS rfl rfl (rg_c (hrg _ (by omega)) (rg_t (rg_t gs)))
    · obtain ⟨i, a, r, n, rfl, hla, h0, hn, rfl, rfl⟩ := am_aget_inv h
      have gi : am_r32 i := rg_h gs
      have ha2 : 2 ≤ a := by
        rcases (show a = 0 ∨ a = 1 ∨ 2 ≤ a by omega) with rfl | rfl | h2
        · cases l0'.symm.trans hla
        · cases l1'.symm.trans hla
        · exact h2
      obtain ⟨-, ⟨cA, q1, q2, -⟩, hrg⟩ := hce a _ ha2 hla
      refine W.zald (g := F0 m pc ls _) hx hb q1 (q2 _ _) (fun h => by cases h) (am_in gi h0 hn) (v := am_tv z w b (am_gv .boolean a i.toNat σ)) (by rw [i32_clamp gi]; exact arrV_read _ _ (by omega)) rfl rfl hdg ?_
      exact kk H locs cells slots hH hS rfl rfl (rg_c (hrg _ (by omega)) (rg_t (rg_t gs)))
  · -- aaload
    simp only [am_side, beq_iff_eq] at hs
    subst hs
    obtain ⟨i, a, r, n, rfl, hla, h0, hn, rfl, rfl⟩ := am_aget_inv h
    have gi : am_r32 i := rg_h gs
    have ha2 : 2 ≤ a := by
      rcases (show a = 0 ∨ a = 1 ∨ 2 ≤ a by omega) with rfl | rfl | h2
      · cases l0'.symm.trans hla
      · cases l1'.symm.trans hla
      · exact h2
    obtain ⟨-, ⟨cA, q1, q2, -⟩, hrg⟩ := hce a _ ha2 hla
    refine W.aald (g := F0 m pc ls _) hx hb q1 (q2 _ _) rfl (fun h => by cases h) (am_in gi h0 hn) (v := am_tv z w b (am_gv am_strip a i.toNat σ)) (by rw [i32_clamp gi]; exact arrV_read _ _ (by omega)) rfl rfl hdg ?_
    exact kk H locs cells slots hH hS rfl rfl (rg_c (hrg _ (by omega)) (rg_t (rg_t gs)))
  · -- iastore
    simp only [am_side, beq_iff_eq] at hs
    subst hs
    obtain ⟨x, i, a, n, rfl, hla, h0, hn, ha2, rfl⟩ := am_aput_inv h
    have gx : am_r32 x := rg_h gs
    have gi : am_r32 i := rg_h (rg_t gs)
    obtain ⟨hok, ⟨cA, q1, q2, q3⟩, hrg⟩ := hce a _ ha2 hla
    refine W.iast (g := F0 m pc ls _) hx hb q1 (q2 _ _) (fun h => by cases h) (am_in gi h0 hn) rfl rfl hdg fun H1 f1 f2 f3 => ?_
    rw [i32_clamp gi] at f1 ⊢
    exact kk H1 _ cells slots (am_HR_put hH ha2 hla rfl (am_set_other _ _ _ _) f2 f3 (am_st_ce hok q2 q3 hrg (v := vI x) (by simp [am_gv, am_set, vI]) gx f1)) (hS.put f2 f3 (am_zA ha2)) rfl rfl (rg_t (rg_t (rg_t gs)))
  · -- lastore
    simp only [am_side, beq_iff_eq] at hs
    subst hs
    obtain ⟨x, i, a, n, rfl, hla, h0, hn, ha2, rfl⟩ := am_aputL_inv h
    have gx : am_r64 x := rg_h gs
    have gi : am_r32 i := rg_h (rg_t gs)
    obtain ⟨hok, ⟨cA, q1, q2, q3⟩, hrg⟩ := hce a _ ha2 hla
    refine W.last (g := F0 m pc ls _) hx hb q1 (q2 _ _) (fun h => by cases h) (am_in gi h0 hn) rfl rfl hdg fun H1 f1 f2 f3 => ?_
    rw [i32_clamp gi] at f1 ⊢
    exact kk H1 _ cells slots (am_HR_put hH ha2 hla rfl (am_set_other _ _ _ _) f2 f3 (am_st_ce hok q2 q3 hrg (v := vL x) (by simp [am_gv, am_set, vL]) gx f1)) (hS.put f2 f3 (am_zA ha2)) rfl rfl (rg_t (rg_t (rg_t gs)))
  · -- bastore
    simp only [am_side, beq_iff_eq] at hs
    subst hs
    unfold am_bput at h
    rw [Option.or_eq_some_iff] at h
    rcases h with h | ⟨-, h⟩
    · obtain ⟨x, i, a, n, rfl, hla, h0, hn, ha2, rfl⟩ := am_aput_inv h
      have gx : am_r32 x := rg_h gs
      have gi : am_r32 i := rg_h (rg_t gs)
      obtain ⟨hok, ⟨cA, q1, q2, q3⟩, hrg⟩ := hce a _ ha2 hla
      refine W.bast (g := F0 m pc ls _) hx hb q1 (q2 _ _) (fun h => by cases h) (am_in gi h0 hn) rfl rfl hdg fun H1 f1 f2 f3 => ?_
      rw [i32_clamp gi] at f1 ⊢
      rw [narrow_byte, e_i2b gx] at f1
      exact kk H1 _ cells slots (am_HR_put hH ha2 hla rfl (am_set_other _ _ _ _) f2 f3 (am_st_ce hok q2 q3 hrg (v := vI (w8 x)) (by simp [am_gv, am_set, vI]) (w8_rg x) f1)) (hS.put f2 f3 (am_zA ha2)) rfl rfl (rg_t (rg_t (rg_t gs)))
    · obtain ⟨x, i, a, n, rfl, hla, h0, hn, ha2, rfl⟩ := am_aput_inv h
      have gx : am_r32 x := rg_h gs
      have gi : am_r32 i := rg_h (rg_t gs)
      obtain ⟨hok, ⟨cA, q1, q2, q3⟩, hrg⟩ := hce a _ ha2 hla
      refine W.zast (g := F0 m pc ls _) hx hb q1 (q2 _ _) (fun h => by cases h) (am_in gi h0 hn) rfl rfl hdg fun H1 f1 f2 f3 => ?_
      rw [i32_clamp gi] at f1 ⊢
      rw [show narrow .boolean (.int (Int32.ofInt x)) = .int (Int32.ofInt x &&& 1) from rfl, e_and1] at f1
      exact kk H1 _ cells slots (am_HR_put hH ha2 hla rfl (am_set_other _ _ _ _) f2 f3 (am_st_ce hok q2 q3 hrg (v := vI (x % 2)) (by simp [am_gv, am_set, vI]) (show am_r32 _ by unfold am_r32; omega) f1)) (hS.put f2 f3 (am_zA ha2)) rfl rfl (rg_t (rg_t (rg_t gs)))
  · -- aastore
    simp only [am_side, beq_iff_eq] at hs
    subst hs
    obtain ⟨d, i, a, n, k, rfl, hla, hlc, h0, hn, ha2, hc2, rfl⟩ := am_aputR_inv h
    have gi : am_r32 i := rg_h (rg_t gs)
    obtain ⟨hok, ⟨cA, q1, q2, kA, comp, k1, k2, k3, k4⟩, hrg⟩ := hce a _ ha2 hla
    obtain ⟨-, ⟨cellV, g1, g2, g3, -⟩, -⟩ := hce d _ hc2 hlc
    have hcls := (hK.1 6 _ (am_clA 6 (by omega))).2
    have hcomp : comp = D.1 6 := Option.some.inj (k3.symm.trans hcls.1)
    subst hcomp
    obtain ⟨kC, hkC, -⟩ := hcls.2
    have hlt : i.toNat < n := by omega
    refine W.aast (g := F0 m pc ls _) hx hb q1 (fun q h => by cases h) (fun h => by cases h) k1 k2 rfl hkC ⟨fun q => am_in gi h0 hn (cA := cA) (f := fun j => am_tv z w b (am_gv am_strip a j σ)) (Or.inl q), by rw [arrV_size, i32_clamp gi]; exact hlt⟩ g1 (fun q h => by rw [g3] at h; cases h) (by rw [g2]; exact hkC) (by rw [g2]; exact va_assign hcls) rfl rfl hdg fun H1 f1 f2 f3 => ?_
    rw [i32_clamp gi] at f1 ⊢
    refine kk H1 _ cells slots (am_HR_put hH ha2 hla rfl (am_setR_other _ _ _ _) f2 f3 ⟨hok, ⟨cA, ?_, q2, kA, _, k1, k2, k3, k4⟩, fun j hj => trivial⟩) (hS.put f2 f3 (am_zA ha2)) rfl rfl (rg_t (rg_t (rg_t gs)))
    rw [f1, arrV_store]
    congr 2
    funext j
    unfold updV
    by_cases hj : j = i.toNat
    · subst hj
      rw [if_pos rfl]
      simp [am_gv, am_setR, am_strip, am_tv]
    · rw [if_neg hj, am_gvR_ne am_strip a _ σ hj]
  · -- arraylength
    simp only [am_side, beq_iff_eq] at hs
    subst hs
    obtain ⟨a, r, t, n, rfl, hla, hn, rfl, rfl⟩ := am_alen_inv h
    have kk' := kk H locs cells slots hH hS rfl rfl (rg_c (show am_r32 _ from ⟨by omega, by omega⟩) (rg_t gs))
    have en : Int32.ofInt (n : Int) = Int32.ofNat n := Int32.ofInt_eq_ofNat
    by_cases ha2 : 2 ≤ a
    · obtain ⟨-, ⟨cA, q1, q2, -⟩, hrg⟩ := hce a _ ha2 hla
      exact W.alen (g := F0 m pc ls _) hx hb q1 (q2 _ _) (n := Int32.ofInt (n : Int)) (by rw [arrV_size, en]) rfl rfl hdg kk'
    · rcases (show a = 0 ∨ a = 1 by omega) with rfl | rfl
      · cases l0'.symm.trans hla
        exact va_slen (b := w) hx hb hXw (by omega) (by show ¬ z ≤ w; omega) hS hdg (by rw [← en]; exact kk')
      · cases l1'.symm.trans hla
        exact va_slen (b := b) hx hb hXb (by omega) (by show ¬ z ≤ b; omega) hS hdg (by rw [← en]; exact kk')
  · -- newarray
    rename_i t
    simp only [am_side, Bool.and_eq_true, beq_iff_eq, decide_eq_true_eq] at hs
    obtain ⟨rfl, ht⟩ := hs
    obtain ⟨n, r, rfl, h0, hn, rfl, rfl⟩ := am_newa_inv h
    have gn : am_r32 n := rg_h gs
    have hcw : (Cond.arrayClass (newarray.typeOf t)).before args s = true := by
      rcases ht with h1 | h1 | h1 | h1 <;> rw [h1]
      · exact hts _ am_aci.1
      · exact hts _ am_aci.2.1
      · exact hts _ am_aci.2.2.1
      · exact hts _ am_aci.2.2.2
    have hcb : componentBytes (newarray.typeOf t) ≤ 8 := by
      rcases ht with h1 | h1 | h1 | h1 <;> rw [h1] <;> decide
    have hn0 : ¬ Int32.ofInt n < 0 := by
      rw [show (0 : Int32) = Int32.ofInt 0 from rfl, i32_lt gn r32_0]
      omega
    have hlen : am_ad z w b σ.2.2.1.length = H.size := by
      rw [am_ad2 z2]
      omega
    have hrc' : cells + (σ.2.2.2.1 + 1) ≤ R.cells + σ.2.2.2.1 := hrc
    have hrs' : slots + (σ.2.2.2.2 + n.toNat) ≤ R.slots + σ.2.2.2.2 := hrs
    refine va_newaK (g := F0 m pc ls _) hx hb hcw rfl hdg rfl hn0 (i32_clamp gn) (Nat.le_trans (Nat.mul_le_mul (show n.toNat ≤ 1000000 by omega) hcb) (by omega)) (by omega) (by omega) rfl fun H1 cA f1 f2 f3 f4 f5 => ?_
    rw [← hlen] at f1 ⊢
    refine kk H1 locs _ _ (am_HR_new hH (by rw [f2]) f3 ⟨?_, ⟨cA, ?_, f4, ?_⟩, ?_⟩) ⟨Nat.le_trans hS.1 (by omega), fun q g1 g2 => (f3 q (Nat.lt_of_lt_of_le g1 hS.1)).trans (hS.2.1 q g1 g2), hS.2.2⟩ (by show _ = cells + (σ.2.2.2.1 + 1); omega) (by show _ = slots + (σ.2.2.2.2 + n.toNat); omega) (rg_c trivial (rg_t gs))
    · rcases ht with h1 | h1 | h1 | h1
      · exact Or.inl h1
      · exact Or.inr (Or.inl h1)
      · exact Or.inr (Or.inr (Or.inl h1))
      · exact Or.inr (Or.inr (Or.inr (Or.inl h1)))
    · rw [f1]
      congr 2
      funext j
      show defaultValue (newarray.typeOf t) = am_tv z w b (am_gv (newarray.typeOf t) _ j _)
      rcases ht with h1 | h1 | h1 | h1 <;> rw [h1] <;> simp [am_gv, am_new, am_tv, defaultValue] <;> rfl
    · show va_RA s cA (newarray.typeOf t)
      rcases ht with h1 | h1 | h1 | h1 <;> rw [h1] at f5 ⊢ <;> exact f5
    · intro j _
      show am_rg (am_gv (newarray.typeOf t) _ j _)
      rcases ht with h1 | h1 | h1 | h1 <;> rw [h1] <;> simp [am_gv, am_new, am_rg, am_r32, am_r64]
  · -- anewarray
    rename_i idx
    simp only [am_side, Bool.and_eq_true, beq_iff_eq, decide_eq_true_eq, List.any_eq_true] at hs
    obtain ⟨rfl, q, hq, ⟨e1, e2⟩, e3⟩ := hs
    unfold am_newq at h
    obtain ⟨n, r, rfl, h0, hn, rfl, rfl⟩ := am_newa_inv h
    have gn : am_r32 n := rg_h gs
    have hlk := hts _ (am_CKk q hq)
    rw [e1, e2, e3] at hlk
    have hn0 : ¬ Int32.ofInt n < 0 := by
      rw [show (0 : Int32) = Int32.ofInt 0 from rfl, i32_lt gn r32_0]
      omega
    have hlen : am_ad z w b σ.2.2.1.length = H.size := by
      rw [am_ad2 z2]
      omega
    have hrc' : cells + (σ.2.2.2.1 + 1) ≤ R.cells + σ.2.2.2.1 := hrc
    have hrs' : slots + (σ.2.2.2.2 + n.toNat) ≤ R.slots + σ.2.2.2.2 := hrs
    refine W.anew (g := F0 m pc ls _) hx hb hown hlk (va_AO.use hao) rfl hdg rfl hn0 (by rw [i32_clamp gn]; omega) (by omega) (by rw [i32_clamp gn]; omega) fun cA kA comp f1 f2 f3 f4 => ?_
    rw [i32_clamp gn]
    generalize hH1 : H.push ({ cls := cA, slots := Array.replicate n.toNat .null, vm := .none } : Cell) = H1
    have w1 : H1.size = H.size + 1 := by rw [← hH1, Array.size_push]
    have w2 : H1[H.size]? = some (arrV cA n.toNat (fun _ => .null)) := by rw [← hH1, Array.getElem?_push_size, ← arrV_new]
    have w3 : ∀ q : Nat, q < H.size → H1[q]? = H[q]? := fun q hq => by rw [← hH1, Array.getElem?_push, if_neg (Nat.ne_of_lt hq)]
    have hAr : ArrOfT s cA am_strip := fun N z => ⟨(fun k h => by cases h), kA, f2, comp, f3⟩
    rw [← hlen] at w2 ⊢
    refine kk H1 locs _ _ (am_HR_new hH w1 w3 ⟨Or.inr (Or.inr (Or.inr (Or.inr rfl))), ⟨cA, ?_, hAr, ?_⟩, fun j _ => trivial⟩) ⟨Nat.le_trans hS.1 (by omega), fun q g1 g2 => (w3 q (Nat.lt_of_lt_of_le g1 hS.1)).trans (hS.2.1 q g1 g2), hS.2.2⟩ (by show _ = cells + (σ.2.2.2.1 + 1); omega) (by show _ = slots + (σ.2.2.2.2 + n.toNat); omega) (rg_c trivial (rg_t gs))
    · rw [w2]
      congr 2
      funext j
      simp [am_gv, am_new, am_strip, am_tv]
    · exact ⟨kA, comp, f2, f3, f4, f1⟩
  · -- new
    split at h
    · rename_i idx cx
      simp only [am_side, Bool.and_eq_true, beq_iff_eq, decide_eq_true_eq, List.any_eq_true] at hs
      obtain ⟨rfl, hc, q, hq, ⟨e1, e2⟩, e3⟩ := hs
      unfold am_newo at h
      rw [if_pos hc] at h
      cases h
      have hlk := hts _ (am_CKk q hq)
      rw [e1, e2, e3] at hlk
      have hKn := hK.1 cx _ (am_clA cx hc)
      have hlen : am_ad z w b σ.2.2.1.length = H.size := by
        rw [am_ad2 z2]
        omega
      have hrc' : cells + (σ.2.2.2.1 + 1) ≤ R.cells + σ.2.2.2.1 := hrc
      have hrs' : slots + (σ.2.2.2.2 + am_cN cx) ≤ R.slots + σ.2.2.2.2 := hrs
      refine W.newcK (g := F0 m pc ls _) hx hb hown hlk (hts _ (am_isA cx hc).1) (hts _ (am_isA cx hc).2) rfl hdg (by omega) (by omega) hKn.2.1 rfl fun H1 kC hkC f1 f2 f3 => ?_
      have hob := u_born (am_fty cx) hts (am_inA cx hc) hKn hkC f1 (am_tkA cx hc)
      rw [← hlen] at hob ⊢
      have hdv : ∀ k, defaultValue (am_fty cx k) = am_tv z w b (am_gv (am_fty cx k) σ.2.2.1.length k (am_new σ (.inr cx, am_cN cx))) := by
        intro k
        have e0 : (am_new σ (.inr cx, am_cN cx)).1 σ.2.2.1.length k = 0 := if_pos rfl
        have e1 : (am_new σ (.inr cx, am_cN cx)).2.1 σ.2.2.1.length k = none := if_pos rfl
        have hok := am_ftok cx k
        unfold am_gv
        rw [e0, e1]
        cases hty : am_fty cx k <;> rw [hty] at hok <;> first | rfl | cases hok
      refine kk H1 locs _ _ (am_HR_new hH f2 f3 ⟨hc, hob.to (fun k _ => hdv k), fun k _ => ?_⟩) ⟨Nat.le_trans hS.1 (by omega), fun q g1 g2 => (f3 q (Nat.lt_of_lt_of_le g1 hS.1)).trans (hS.2.1 q g1 g2), hS.2.2⟩ (by show _ = cells + (σ.2.2.2.1 + 1); omega) (by show _ = slots + (σ.2.2.2.2 + am_cN cx); omega) (rg_c trivial gs)
      cases am_fty cx k <;> simp [am_gv, am_new, am_rg, am_r32, am_r64]
    · cases h
  · -- Object.<init>
    split at h
    · rename_i idx
      simp only [am_side, Bool.and_eq_true, beq_iff_eq, decide_eq_true_eq, List.any_eq_true] at hs
      obtain ⟨rfl, ⟨⟨q, hq, e1, e2⟩, h1⟩, h2⟩ := hs
      have hlk := hts _ (am_OIk q hq)
      rw [e1, e2] at hlk
      unfold am_initO at h
      split at h
      · rename_i a r
        split at h
        · rename_i hcat
          cases h
          refine W.objInit (g := F0 m pc ls _) hx hb hown hlk (hts _ am_acw.2.2.2.1) (hts _ am_acw.2.2.2.2) rfl (by rw [hml]; exact hl.1) rfl hdg (by omega) (by show 2 * 0 + _ + 12 ≤ _; rw [am_map_cat]; omega) (kk H locs cells slots hH hS rfl rfl (rg_t gs))
        · cases h
      · cases h
    · cases h
  · -- System.arraycopy, Math
    split at h
    · rename_i idx
      simp only [am_side, Bool.and_eq_true, beq_iff_eq, decide_eq_true_eq, List.any_eq_true] at hs
      obtain ⟨rfl, ⟨⟨q, hq, e1, e2⟩, h1⟩, h2⟩ := hs
      have hlk := hts _ (am_ACk q hq)
      rw [e1, e2] at hlk
      obtain ⟨n, dp, d, sp, a, n0, n1, rfl, hla, hld, g0, g1, g2, g3, g4, ha2, hd2, hcat, rfl⟩ := am_acopy_inv h
      have gn : am_r32 n := rg_h gs
      have gdp : am_r32 dp := rg_h (rg_t gs)
      have gsp : am_r32 sp := rg_h (rg_t (rg_t (rg_t gs)))
      obtain ⟨hok0, ⟨cA0, q1, q2, -⟩, hrg0⟩ := hce a _ ha2 hla
      obtain ⟨hok1, ⟨cA1, r1, r2, r3⟩, hrg1⟩ := hce d _ hd2 hld
      have ng : ∀ {x : Int}, am_r32 x → 0 ≤ x → ¬ Int32.ofInt x < 0 := fun {x} hx h0 => by
        rw [show (0 : Int32) = Int32.ofInt 0 from rfl, i32_lt hx r32_0]
        omega
      refine am_copyi (f := fun j => Int32.ofInt (σ.1 a j)) (g := fun j => Int32.ofInt (σ.1 d j)) hx hb (by rw [hml]; exact hl.1.symm) hown hlk (hts _ am_acw.1) (hts _ am_acw.2.1) (hts _ am_acw.2.2.1) q1 r1 q2 r2 (ng gsp g2) (ng gdp g1) (ng gn g0) (by rw [i32_clamp gsp, i32_clamp gn]; omega) (by rw [i32_clamp gdp, i32_clamp gn]; omega) (by omega) (by rw [am_map_cat]; show _ + 18 ≤ _; omega) hdg fun H1 L1 f1 f2 f3 f4 => ?_
      rw [i32_clamp gsp, i32_clamp gdp, i32_clamp gn] at f1
      have hoth : ∀ c j, c ≠ d → (am_cpy σ a sp.toNat d dp.toNat n.toNat).1 c j = σ.1 c j ∧ (am_cpy σ a sp.toNat d dp.toNat n.toNat).2.1 c j = σ.2.1 c j := fun c j hc => ⟨if_neg (fun q => hc q.1), rfl⟩
      refine kk H1 _ cells slots (am_HR_put hH hd2 hld rfl hoth f2 f3 ⟨hok1, ⟨cA1, ?_, r2, r3⟩, fun j hj => ?_⟩) ⟨by rw [f2]; exact hS.1, fun q x1 x2 => ?_, fun q hq => ?_⟩ rfl rfl (rg_t (rg_t (rg_t (rg_t (rg_t gs)))))
      · rw [f1, vp_cell_i]
        congr 2
        funext j
        show Value.int (va_cpy _ _ _ _ _ j) = am_tv z w b (vI (if d = d ∧ dp.toNat ≤ j ∧ j < dp.toNat + n.toNat then σ.1 a (sp.toNat + (j - dp.toNat)) else σ.1 d j))
        unfold va_cpy
        by_cases hj : dp.toNat ≤ j ∧ j < dp.toNat + n.toNat
        · rw [if_pos hj, if_pos ⟨rfl, hj⟩]
          rfl
        · rw [if_neg hj, if_neg (fun q => hj q.2)]
          rfl
      · show am_r32 (if d = d ∧ dp.toNat ≤ j ∧ j < dp.toNat + n.toNat then σ.1 a (sp.toNat + (j - dp.toNat)) else σ.1 d j)
        split
        · rename_i hj
          exact hrg0 _ (by omega)
        · exact hrg1 j hj
      · rw [f3 q (fun e => x2 (by rw [e]; exact am_zA hd2))]
        exact hS.2.1 q x1 x2
      · rcases List.mem_append.mp hq with h | h
        · exact hS.2.2 q h
        · rw [f4 q h]
          exact am_zA hd2
    · rename_i idx k
      simp only [am_side, Bool.and_eq_true, beq_iff_eq, decide_eq_true_eq, List.any_eq_true] at hs
      obtain ⟨rfl, ⟨⟨q, hq, ⟨e1, e2⟩, e3⟩, h1⟩, h2⟩ := hs
      have hlk := hts _ (am_MAk q hq)
      rw [e1, e2, e3] at hlk
      obtain ⟨mw0, ⟨mw1, mw2⟩, ⟨mw3, mw4⟩, mw5, mw6⟩ := am_maw
      have hls : c.maxLocals = ls.size := by rw [hml]; exact hl.1.symm
      unfold am_math at h
      split at h
      · split at h
        · split at h
          · rename_i y x r hcat
            cases h
            have gy : am_r32 y := rg_h gs
            have gx : am_r32 x := rg_h (rg_t gs)
            refine va_mmax hx hb hls hown hlk (hts _ mw1) (hts _ mw0) (hts _ mw2) (by omega) (by rw [am_map_cat]; omega) (by omega) (by omega) hdg ?_
            have := kk H locs cells slots hH hS rfl rfl (rg_c (show am_r32 _ by split <;> assumption) (rg_t (rg_t gs)))
            simp only [i32_lt gx gy]
            by_cases hc : x < y
            · simp only [if_pos hc] at this ⊢; exact this
            · simp only [if_neg hc] at this ⊢; exact this
          · cases h
        · cases h
      · split at h
        · split at h
          · rename_i y x r hcat
            cases h
            have gy : am_r32 y := rg_h gs
            have gx : am_r32 x := rg_h (rg_t gs)
            refine va_mmin hx hb hls hown hlk (hts _ mw3) (hts _ mw0) (hts _ mw4) (by omega) (by rw [am_map_cat]; omega) (by omega) (by omega) hdg ?_
            have := kk H locs cells slots hH hS rfl rfl (rg_c (show am_r32 _ by split <;> assumption) (rg_t (rg_t gs)))
            simp only [i32_lt gy gx]
            by_cases hc : y < x
            · simp only [if_pos hc] at this ⊢; exact this
            · simp only [if_neg hc] at this ⊢; exact this
          · cases h
        · cases h
      · split at h
        · split at h
          · rename_i y x r hcat
            cases h
            have gy : am_r64 y := rg_h gs
            have gx : am_r64 x := rg_h (rg_t gs)
            refine va_mmin_long hx hb hls hown hlk (hts _ mw5) (hts _ mw0) (hts _ mw6) (by omega) (by rw [am_map_cat]; omega) (by omega) (by omega) hdg ?_
            have := kk H locs cells slots hH hS rfl rfl (rg_c (show am_r64 _ by split <;> assumption) (rg_t (rg_t gs)))
            simp only [i64_lt gy gx]
            by_cases hc : y < x
            · simp only [if_pos hc] at this ⊢; exact this
            · simp only [if_neg hc] at this ⊢; exact this
          · cases h
        · cases h
      · cases h
    · cases h
  · cases h
end SIMME
end
section
/-! A RUN OF THE SMALL MACHINE IS ONE OF THE LARGE ONE -/
theorem am_pv_al {ty : FieldType} {a k : Nat} {v : am_V} {σ σ' : am_S} (h : am_pv ty a k v σ = some σ') : σ'.2.2 = σ.2.2 := by
  unfold am_pv at h
  split at h
  · cases h; rfl
  · split at h
    · cases h; rfl
    · cases h
  · cases h; rfl
  · cases h; rfl
  · cases h; rfl
  · cases h
/-- what was made stays made -/
def am_up (σ σ' : am_S) : Prop := σ.2.2.2.1 ≤ σ'.2.2.2.1 ∧ σ.2.2.2.2 ≤ σ'.2.2.2.2
theorem am_up_rf (σ : am_S) : am_up σ σ := ⟨Nat.le_refl _, Nat.le_refl _⟩
theorem am_up_tr {a b c : am_S} (h1 : am_up a b) (h2 : am_up b c) : am_up a c := ⟨Nat.le_trans h1.1 h2.1, Nat.le_trans h1.2 h2.2⟩
theorem am_up_al {σ σ' : am_S} (h : σ'.2.2 = σ.2.2) : am_up σ σ' := by unfold am_up; rw [h]; exact ⟨Nat.le_refl _, Nat.le_refl _⟩
theorem am_up_new (σ : am_S) (q : am_Ly) : am_up σ (am_new σ q) := ⟨Nat.le_succ _, Nat.le_add_right _ _⟩
theorem am_up_me {i : Instr} {ops : List Nat} {st st' : List am_V} {σ σ' : am_S} (h : am_me i ops st σ = some (st', σ')) : am_up σ σ' := by
  unfold am_me at h
  split at h
  · split at h
    · obtain ⟨_, _, _, _, _, _, _, rfl⟩ := am_getf_inv h; exact am_up_rf _
    · cases h
  · split at h
    · obtain ⟨_, _, _, _, _, _, h1⟩ := am_putf_inv h; exact am_up_al (am_pv_al h1)
    · cases h
  · cases h; exact am_up_rf _
  · obtain ⟨_, _, _, _, _, _, _, _, _, rfl⟩ := am_aget_inv h; exact am_up_rf _
  · obtain ⟨_, _, _, _, _, _, _, _, _, rfl⟩ := am_aget_inv h; exact am_up_rf _
  · unfold am_bget at h
    rw [Option.or_eq_some_iff] at h
    rcases h with h | ⟨-, h⟩
    · obtain ⟨_, _, _, _, _, _, _, _, _, rfl⟩ := am_aget_inv h; exact am_up_rf _
    · obtain ⟨_, _, _, _, _, _, _, _, _, rfl⟩ := am_aget_inv h; exact am_up_rf _
  · obtain ⟨_, _, _, _, _, _, _, _, _, rfl⟩ := am_aget_inv h; exact am_up_rf _
  · obtain ⟨_, _, _, _, _, _, _, _, _, rfl⟩ := am_aput_inv h; exact am_up_al rfl
  · obtain ⟨_, _, _, _, _, _, _, _, _, rfl⟩ := am_aputL_inv h; exact am_up_al rfl
  · unfold am_bput at h
    rw [Option.or_eq_some_iff] at h
    rcases h with h | ⟨-, h⟩
    · obtain ⟨_, _, _, _, _, _, _, _, _, rfl⟩ := am_aput_inv h; exact am_up_al rfl
    · obtain ⟨_, _, _, _, _, _, _, _, _, rfl⟩ := am_aput_inv h; exact am_up_al rfl
  · obtain ⟨_, _, _, _, _, _, _, _, _, _, _, _, rfl⟩ := am_aputR_inv h; exact am_up_al rfl
  · obtain ⟨_, _, _, _, _, _, _, _, rfl⟩ := am_alen_inv h; exact am_up_rf _
  · obtain ⟨_, _, _, _, _, _, rfl⟩ := am_newa_inv h; exact am_up_new _ _
  · unfold am_newq at h; obtain ⟨_, _, _, _, _, _, rfl⟩ := am_newa_inv h; exact am_up_new _ _
  · split at h
    · unfold am_newo at h
      split at h
      · cases h; exact am_up_new _ _
      · cases h
    · cases h
  · split at h
    · unfold am_initO at h
      split at h
      · split at h
        · cases h; exact am_up_rf _
        · cases h
      · cases h
    · cases h
  · split at h
    · obtain ⟨_, _, _, _, _, _, _, _, _, _, _, _, _, _, _, _, _, _, rfl⟩ := am_acopy_inv h; exact am_up_al rfl
    · unfold am_math at h
      split at h
      · split at h
        · split at h
          · cases h; exact am_up_rf _
          · cases h
        · cases h
      · split at h
        · split at h
          · cases h; exact am_up_rf _
          · cases h
        · cases h
      · split at h
        · split at h
          · cases h; exact am_up_rf _
          · cases h
        · cases h
      · cases h
    · cases h
  · cases h
theorem am_up_run (P : Nat → List (List am_I)) : ∀ (n : Nat) (bs : List (List am_I)) (is : List am_I) (l : am_Lc) (st : List am_V) (σ : am_S) (r : Option am_V) (σ' : am_S), am_run P n bs is l st σ = some (r, σ') → am_up σ σ' := by
  intro n
  induction n with
  | zero => intro bs is l st σ r σ' h; simp [am_run] at h
  | succ n ih =>
    intro bs is l st σ r σ' h
    cases is with
    | nil => simp [am_run] at h
    | cons i is =>
      obtain ⟨i, ops, v⟩ := i
      rw [am_run] at h
      cases h1 : am_ar i v l st with
      | some q => rw [h1] at h; exact ih _ _ _ _ _ _ _ h
      | none =>
        rw [h1] at h
        dsimp only at h
        cases h2 : am_me i ops st σ with
        | some q => rw [h2] at h; exact am_up_tr (am_up_me h2) (ih _ _ _ _ _ _ _ h)
        | none =>
          rw [h2] at h
          dsimp only at h
          cases h3 : am_ct i ops st with
          | some q =>
            obtain ⟨b, st'⟩ := q
            rw [h3] at h
            cases b with
            | some b => exact ih _ _ _ _ _ _ _ h
            | none => exact ih _ _ _ _ _ _ _ h
          | none =>
            rw [h3] at h
            dsimp only at h
            cases h4 : am_ca i ops v st σ with
            | some q =>
              obtain ⟨m, as, st'⟩ := q
              rw [h4] at h
              dsimp only at h
              cases h5 : am_run P n (P m) ((P m).getD 0 []) (am_args 0 as) [] σ with
              | none => rw [h5] at h; cases h
              | some q =>
                obtain ⟨r1, σ1⟩ := q
                rw [h5] at h
                exact am_up_tr (ih _ _ _ _ _ _ _ h5) (ih _ _ _ _ _ _ _ h)
            | none =>
              rw [h4] at h
              dsimp only at h
              cases h6 : am_rt i ops st with
              | some r1 => rw [h6] at h; cases h; exact am_up_rf _
              | none => rw [h6] at h; cases h
theorem am_condI {c : Jvm.ClassFile.Cond} {x y : Int} : am_cond c x y = true ↔ (match c with
  | .eq => x = y
  | .ne => ¬ x = y
  | .lt => x < y
  | .ge => y ≤ x
  | .gt => y < x
  | .le => x ≤ y) := by
  cases c <;> simp [am_cond]
theorem am_jmp_inv {sts : List Nat} {pc : Nat} {off : Int} {k : Nat} (h : am_jmp sts pc off k = true) : ∃ t, sts[k]? = some t ∧ (pc : Int) + off = (t : Int) := by
  unfold am_jmp at h
  split at h
  · rename_i t ht
    exact ⟨t, ht, of_decide_eq_true h⟩
  · cases h
theorem am_jmps_inv {sts : List Nat} {pc : Nat} : ∀ {os : List Int} {ks : List Nat}, am_jmps sts pc os ks = true → os.length = ks.length ∧ ∀ (j : Nat) (off : Int), os[j]? = some off → ∃ t, sts[ks.getD j 0]? = some t ∧ (pc : Int) + off = (t : Int)
  | [], [], _ => ⟨rfl, fun j off h => by simp at h⟩
  | o :: os, k :: ks, h => by
    unfold am_jmps at h
    rw [Bool.and_eq_true] at h
    obtain ⟨h1, h2⟩ := am_jmps_inv h.2
    refine ⟨by simp [h1], fun j off hj => ?_⟩
    cases j with
    | zero =>
      cases hj
      exact am_jmp_inv h.1
    | succ j => exact h2 j off (by simpa using hj)
  | [], _ :: _, h => by cases h
  | _ :: _, [], h => by cases h
theorem am_look_inv {sts : List Nat} {pc : Nat} {d x : Int} {kd : Nat} {td : Nat} (hd : sts[kd]? = some td) (hd2 : (pc : Int) + d = (td : Int)) : ∀ {ps : List (Int × Int)} {ks : List Nat}, am_jmps sts pc (ps.map (fun q => q.2)) ks = true → ∃ t, sts[am_look ps ks kd x]? = some t ∧ (pc : Int) + Op.lookupswitch.offset ps d x = (t : Int)
  | [], [], _ => ⟨td, hd, hd2⟩
  | q :: ps, k :: ks, h => by
    have h : (am_jmp sts pc q.2 k && am_jmps sts pc (ps.map (fun q => q.2)) ks) = true := h
    rw [Bool.and_eq_true] at h
    obtain ⟨a, o⟩ := q
    unfold am_look Op.lookupswitch.offset
    by_cases hx : x = a
    · rw [if_pos hx]
      obtain ⟨t, h1, h2⟩ := am_jmp_inv h.1
      refine ⟨t, h1, ?_⟩
      first
        | (rw [if_pos hx]; exact h2)
        | (rw [if_pos hx.symm]; exact h2)
        | (simp [hx]; exact h2)
    · rw [if_neg hx]
      obtain ⟨t, h1, h2⟩ := am_look_inv hd hd2 (x := x) h.2
      refine ⟨t, h1, ?_⟩
      first
        | (rw [if_neg hx]; exact h2)
        | (rw [if_neg (Ne.symm hx)]; exact h2)
        | (simp [hx]; exact h2)
  | [], _ :: _, h => by cases h
  | _ :: _, [], h => by cases h
section SIMCT
variable {p : Program} {l0 : Launch} {e : Env} {R : Room} {s : State} {m : MethodId} {args : Array Value} {below : List Frame} {meth : Method} {c : Code} {H : Heap} {locs : List Loc} {cells slots : Nat} {Q : State → Prop} {cc : ByteArray} {pc : Nat} {ls : Array Slot}
variable {z w b L : Nat} {xs : Nat → Int32} {D : va_G} {o : Nat} {ini : Bool} {maxL : Nat} {ret : Option FieldType} {RF RL : Nat} {sts : List Nat} {len : Nat}
theorem am_brI {P : Prop} {c : Bool} (h : c = true ↔ P) {k : Nat} {st' : List am_V} {q : Option Nat × List am_V} (he : some ((if c then some k else none), st') = some q) : (P → q = (some k, st')) ∧ (¬ P → q = (none, st')) := by
  cases he
  refine ⟨fun hp => by rw [if_pos (h.mpr hp)], fun hp => by rw [if_neg (fun hc => hp (h.mp hc))]⟩
set_option maxHeartbeats 4000000 in
theorem am_sim_ct (hx : p.tables.exec = Jvm.exec) (hb : c.code = cc) {i : Instr} {ops : List Nat} {v : Int} {st st' : List am_V} {r : Option Nat} (h : am_ct i ops st = some (r, st')) (hnop : i ≠ .nop) (hdg : decode cc pc = .ok (i, len)) (hs : am_side o ini maxL ret RF RL sts pc len i ops v = true)
    (gs : ∀ u ∈ st, am_rg u)
    (kn : r = none → (∀ u ∈ st', am_rg u) → W p l0 e R s m args below meth c H locs cells slots Q (F0 m (pc + len) ls (st'.map (am_tv z w b))))
    (kj : ∀ k t, r = some k → sts[k]? = some t → (∀ u ∈ st', am_rg u) → W p l0 e R s m args below meth c H locs cells slots Q (F0 m t ls (st'.map (am_tv z w b)))) :
    W p l0 e R s m args below meth c H locs cells slots Q (F0 m pc ls (st.map (am_tv z w b))) := by
  unfold am_ct at h
  split at h
  · rename_i cd off
    split at h
    · rename_i x r0
      simp only [am_side, Bool.and_eq_true, beq_iff_eq] at hs
      obtain ⟨rfl, hj⟩ := hs
      obtain ⟨t, ht, ht2⟩ := am_jmp_inv hj
      have gx : am_r32 x := rg_h gs
      obtain ⟨b1, b2⟩ := am_brI am_condI h
      have e1 : ∀ k, (r, st') = (some k, r0) → r = some k ∧ st' = r0 := fun k h => by cases h; exact ⟨rfl, rfl⟩
      have e2 : (r, st') = (none, r0) → r = none ∧ st' = r0 := fun h => by cases h; exact ⟨rfl, rfl⟩
      cases cd
      · refine lv_if_eq hx hb hdg ht2 (fun hc => ?_) (fun hc => ?_)
        · obtain ⟨q1, q2⟩ := e1 _ (b1 ((i32_eq gx r32_0).mp hc)); exact kj _ t q1 ht (q2 ▸ rg_t gs) |> (q2 ▸ ·)
        · obtain ⟨q1, q2⟩ := e2 (b2 (fun h => hc ((i32_eq gx r32_0).mpr h))); exact kn q1 (q2 ▸ rg_t gs) |> (q2 ▸ ·)
      · refine lv_if_ne hx hb hdg ht2 (fun hc => ?_) (fun hc => ?_)
        · obtain ⟨q1, q2⟩ := e1 _ (b1 (fun h => hc ((i32_eq gx r32_0).mpr h))); exact kj _ t q1 ht (q2 ▸ rg_t gs) |> (q2 ▸ ·)
        · obtain ⟨q1, q2⟩ := e2 (b2 (fun h => h ((i32_eq gx r32_0).mp hc))); exact kn q1 (q2 ▸ rg_t gs) |> (q2 ▸ ·)
      · refine lv_if_lt hx hb hdg ht2 (fun hc => ?_) (fun hc => ?_)
        · obtain ⟨q1, q2⟩ := e1 _ (b1 ((i32_lt gx r32_0).mp hc)); exact kj _ t q1 ht (q2 ▸ rg_t gs) |> (q2 ▸ ·)
        · obtain ⟨q1, q2⟩ := e2 (b2 (fun h => hc ((i32_lt gx r32_0).mpr h))); exact kn q1 (q2 ▸ rg_t gs) |> (q2 ▸ ·)
      · refine lv_if_ge hx hb hdg ht2 (fun hc => ?_) (fun hc => ?_)
        · obtain ⟨q1, q2⟩ := e1 _ (b1 ((i32_le r32_0 gx).mp hc)); exact kj _ t q1 ht (q2 ▸ rg_t gs) |> (q2 ▸ ·)
        · obtain ⟨q1, q2⟩ := e2 (b2 (fun h => hc ((i32_le r32_0 gx).mpr h))); exact kn q1 (q2 ▸ rg_t gs) |> (q2 ▸ ·)
      · refine lv_if_gt hx hb hdg ht2 (fun hc => ?_) (fun hc => ?_)
        · obtain ⟨q1, q2⟩ := e1 _ (b1 ((i32_lt r32_0 gx).mp hc)); exact kj _ t q1 ht (q2 ▸ rg_t gs) |> (q2 ▸ ·)
        · obtain ⟨q1, q2⟩ := e2 (b2 (fun h => hc ((i32_lt r32_0 gx).mpr h))); exact kn q1 (q2 ▸ rg_t gs) |> (q2 ▸ ·)
      · refine lv_if_le hx hb hdg ht2 (fun hc => ?_) (fun hc => ?_)
        · obtain ⟨q1, q2⟩ := e1 _ (b1 ((i32_le gx r32_0).mp hc)); exact kj _ t q1 ht (q2 ▸ rg_t gs) |> (q2 ▸ ·)
        · obtain ⟨q1, q2⟩ := e2 (b2 (fun h => hc ((i32_le gx r32_0).mpr h))); exact kn q1 (q2 ▸ rg_t gs) |> (q2 ▸ ·)
    · cases h
  · rename_i cd off
    split at h
    · rename_i y x r0
      simp only [am_side, Bool.and_eq_true, beq_iff_eq] at hs
      obtain ⟨rfl, hj⟩ := hs
      obtain ⟨t, ht, ht2⟩ := am_jmp_inv hj
      have gy : am_r32 y := rg_h gs
      have gx : am_r32 x := rg_h (rg_t gs)
      obtain ⟨b1, b2⟩ := am_brI am_condI h
      have e1 : ∀ k, (r, st') = (some k, r0) → r = some k ∧ st' = r0 := fun k h => by cases h; exact ⟨rfl, rfl⟩
      have e2 : (r, st') = (none, r0) → r = none ∧ st' = r0 := fun h => by cases h; exact ⟨rfl, rfl⟩
      have gt := rg_t (rg_t gs)
      cases cd
      · refine lv_icmp_eq hx hb hdg ht2 (fun hc => ?_) (fun hc => ?_)
        · obtain ⟨q1, q2⟩ := e1 _ (b1 ((i32_eq gx gy).mp hc)); exact kj _ t q1 ht (q2 ▸ gt) |> (q2 ▸ ·)
        · obtain ⟨q1, q2⟩ := e2 (b2 (fun h => hc ((i32_eq gx gy).mpr h))); exact kn q1 (q2 ▸ gt) |> (q2 ▸ ·)
      · refine lv_icmp_ne hx hb hdg ht2 (fun hc => ?_) (fun hc => ?_)
        · obtain ⟨q1, q2⟩ := e1 _ (b1 (fun h => hc ((i32_eq gx gy).mpr h))); exact kj _ t q1 ht (q2 ▸ gt) |> (q2 ▸ ·)
        · obtain ⟨q1, q2⟩ := e2 (b2 (fun h => h ((i32_eq gx gy).mp hc))); exact kn q1 (q2 ▸ gt) |> (q2 ▸ ·)
      · refine lv_icmp_lt hx hb hdg ht2 (fun hc => ?_) (fun hc => ?_)
        · obtain ⟨q1, q2⟩ := e1 _ (b1 ((i32_lt gx gy).mp hc)); exact kj _ t q1 ht (q2 ▸ gt) |> (q2 ▸ ·)
        · obtain ⟨q1, q2⟩ := e2 (b2 (fun h => hc ((i32_lt gx gy).mpr h))); exact kn q1 (q2 ▸ gt) |> (q2 ▸ ·)
      · refine lv_icmp_ge hx hb hdg ht2 (fun hc => ?_) (fun hc => ?_)
        · obtain ⟨q1, q2⟩ := e1 _ (b1 ((i32_le gy gx).mp hc)); exact kj _ t q1 ht (q2 ▸ gt) |> (q2 ▸ ·)
        · obtain ⟨q1, q2⟩ := e2 (b2 (fun h => hc ((i32_le gy gx).mpr h))); exact kn q1 (q2 ▸ gt) |> (q2 ▸ ·)
      · refine lv_icmp_gt hx hb hdg ht2 (fun hc => ?_) (fun hc => ?_)
        · obtain ⟨q1, q2⟩ := e1 _ (b1 ((i32_lt gy gx).mp hc)); exact kj _ t q1 ht (q2 ▸ gt) |> (q2 ▸ ·)
        · obtain ⟨q1, q2⟩ := e2 (b2 (fun h => hc ((i32_lt gy gx).mpr h))); exact kn q1 (q2 ▸ gt) |> (q2 ▸ ·)
      · refine lv_icmp_le hx hb hdg ht2 (fun hc => ?_) (fun hc => ?_)
        · obtain ⟨q1, q2⟩ := e1 _ (b1 ((i32_le gx gy).mp hc)); exact kj _ t q1 ht (q2 ▸ gt) |> (q2 ▸ ·)
        · obtain ⟨q1, q2⟩ := e2 (b2 (fun h => hc ((i32_le gx gy).mpr h))); exact kn q1 (q2 ▸ gt) |> (q2 ▸ ·)
    · cases h
  · simp only [am_side, Bool.and_eq_true, beq_iff_eq] at hs
    obtain ⟨rfl, hj⟩ := hs
    obtain ⟨t, ht, ht2⟩ := am_jmp_inv hj
    cases h
    exact lv_goto hx hb hdg ht2 (kj _ t rfl ht gs)
  · exact absurd rfl hnop
  · rename_i d lo hi offs
    split at h
    · rename_i x r0
      simp only [am_side, Bool.and_eq_true, decide_eq_true_eq] at hs
      obtain ⟨⟨hd, hjs⟩, hsz⟩ := hs
      obtain ⟨td, hd1, hd2⟩ := am_jmp_inv hd
      obtain ⟨hlen, hall⟩ := am_jmps_inv hjs
      have gx : am_r32 x := rg_h gs
      cases h
      by_cases hc : x < lo ∨ hi < x
      · rw [if_pos hc] at kj
        exact lv_tableOut hx hb hdg (by rw [i32_id gx]; exact hc) hd2 (kj _ td rfl hd1 (rg_t gs))
      · rw [if_neg hc] at kj
        have hlt : (x - lo).toNat < offs.size := by omega
        obtain ⟨t, ht1, ht2⟩ := hall (x - lo).toNat offs[(x - lo).toNat] (by rw [Array.getElem?_toList]; exact Array.getElem?_eq_getElem hlt)
        exact lv_tableIn hx hb hdg (by rw [i32_id gx]; omega) (by rw [i32_id gx]; omega) (by rw [i32_id gx]; exact Array.getElem?_eq_getElem hlt) ht2 (kj _ t rfl ht1 (rg_t gs))
    · cases h
  · rename_i d ps
    split at h
    · rename_i x r0
      simp only [am_side, Bool.and_eq_true] at hs
      obtain ⟨⟨hd, hjs⟩, hsz⟩ := hs
      obtain ⟨td, hd1, hd2⟩ := am_jmp_inv hd
      have gx : am_r32 x := rg_h gs
      cases h
      obtain ⟨t, ht1, ht2⟩ := am_look_inv hd1 hd2 (x := x) hjs
      exact lv_lookup hx hb hdg hsz (by rw [i32_id gx]) ht2 (kj _ t rfl ht1 (rg_t gs))
    · cases h
  · cases h
end SIMCT
end
section
/-! THE SMALL MACHINE'S CALLS ARE THE LARGE ONE'S -/
def am_P (m : Nat) : List (List am_I) := (am_meths.getD m am_m0).2.2.2.2.2.2.2.2
/-- what is known of a method's call in the large machine: where the small one, begun with these arguments in this world, ends so -/
def am_Met (l0 : Launch) (z w b L : Nat) (xs : Nat → Int32) (D : va_G) (q : am_M) (as : List am_V) (σ : am_S) (r : Option am_V) (σ' : am_S) : Prop :=
  Met l0 q.1 (Cond.code q.1 q.2.1 q.2.2.1 q.2.2.2.1 :: lw_gt) ({ frames := q.2.2.2.2.1.1, cells := σ'.2.2.2.1 - σ.2.2.2.1, slots := σ'.2.2.2.2 - σ.2.2.2.2, locals := q.2.2.2.2.1.2 } : Room)
    (fun v U => v = (as.map (am_tv z w b)).toArray ∧ am_HR z w b L xs D σ U U.heap ∧ am_FX z w b L xs D U)
    (fun _ st oc t => oc = .returned (r.map (am_tv z w b)) ∧ am_HR z w b L xs D σ' t t.heap ∧ va_F (fun q => z ≤ q) st t ∧ am_rg (r.getD (vR 0)))
    (σ'.2.2.2.1 - σ.2.2.2.1) (σ'.2.2.2.2 - σ.2.2.2.2) (fun q => z ≤ q)
theorem am_ML0 : ∀ e ∈ am_ML, e.2.2.1 ≠ 0 ∧ e.2.2.1 < 277 := by decide +kernel
theorem am_NM0 : ∀ e ∈ am_NM, e.2.2 ≠ 0 ∧ e.2.2 < 277 := by decide +kernel
theorem am_cnN : ∀ o, o < 14 → am_cn o ≠ "java/lang/invoke/MethodHandle" ∧ am_cn o ≠ "java/lang/invoke/VarHandle" := by decide +kernel
set_option maxRecDepth 100000 in
theorem am_mlen : am_meths.length = 277 := by decide +kernel
theorem am_mget {j : Nat} (h : j < 277) : ∃ q, am_meths[j]? = some q := ⟨_, List.getElem?_eq_getElem (by rw [am_mlen]; exact h)⟩
set_option maxRecDepth 100000 in
theorem am_rtn_b : (am_meths.all (fun q => decide (2 ≤ q.2.2.2.2.2.2.1 → q.2.2.2.1 = none))) = true := by decide +kernel
theorem am_rtn {j : Nat} {q : am_M} (h : am_meths[j]? = some q) (hk : 2 ≤ q.2.2.2.2.2.2.1) : q.2.2.2.1 = none := of_decide_eq_true (List.all_eq_true.mp am_rtn_b q (List.mem_of_getElem? h)) hk
theorem am_ca_inv {i : Instr} {ops : List Nat} {v : Int} {st st' as : List am_V} {m : Nat} {σ : am_S} (h : am_ca i ops v st σ = some (m, as, st')) : ∃ n, st = as.reverse ++ st' ∧ as.length = n ∧ (st'.map am_cat).sum ≤ 8 ∧ ((as.map am_cat).sum : Int) ≤ v ∧ ((∃ x, i = .invokestatic x ∧ ops = [m, n]) ∨ (∃ x c a as', i = .invokevirtual x ∧ ops = [m, n, c] ∧ as = vR a :: as' ∧ am_isO σ a c = true) ∨ ∃ x a as', i = .invokespecial x ∧ ops = [m, n] ∧ as = vR a :: as') := by
  have key : ∀ (n : Nat) (as : List am_V), (st.take n).reverse = as → n ≤ st.length → st = as.reverse ++ st.drop n ∧ as.length = n := by
    intro n as h1 h2
    subst h1
    rw [List.reverse_reverse, List.take_append_drop, List.length_reverse, List.length_take]
    exact ⟨rfl, by omega⟩
  unfold am_ca at h
  split at h
  · split at h
    · rename_i x _ m' n
      split at h
      · rename_i h1
        cases h
        obtain ⟨k1, k2⟩ := key n _ rfl h1.1
        exact ⟨n, k1, k2, h1.2.1, h1.2.2, Or.inl ⟨x, rfl, rfl⟩⟩
      · cases h
    · cases h
  · split at h
    · rename_i x _ m' n c
      split at h
      · rename_i a as' h0
        split at h
        · rename_i h1
          cases h
          obtain ⟨k1, k2⟩ := key n _ h0 h1.1
          exact ⟨n, k1, k2, h1.2.1, h1.2.2.1, Or.inr (Or.inl ⟨x, c, a, as', rfl, rfl, rfl, h1.2.2.2⟩)⟩
        · cases h
      · cases h
    · cases h
  · split at h
    · rename_i x _ m' n
      split at h
      · rename_i a as' h0
        split at h
        · rename_i h1
          cases h
          obtain ⟨k1, k2⟩ := key n _ h0 h1.1
          exact ⟨n, k1, k2, h1.2.1, h1.2.2, Or.inr (Or.inr ⟨x, a, as', rfl, rfl, rfl⟩)⟩
        · cases h
      · cases h
    · cases h
  · cases h
theorem am_rt_inv {i : Instr} {ops : List Nat} {st : List am_V} {r : Option am_V} (h : am_rt i ops st = some r) : st = r.toList ∧ ((i = .return_ ∧ r = none) ∨ (∃ x, i = .ireturn ∧ r = some (vI x) ∧ (ops.headD 0 = 0 ∨ x = 0 ∨ x = 1)) ∨ ∃ x, i = .lreturn ∧ r = some (vL x)) := by
  unfold am_rt at h
  split at h
  · split at h
    · cases h; exact ⟨rfl, Or.inl ⟨rfl, rfl⟩⟩
    · cases h
  · split at h
    · split at h
      · rename_i h1
        cases h; exact ⟨rfl, Or.inr (Or.inl ⟨_, rfl, rfl, h1⟩)⟩
      · cases h
    · cases h
  · split at h
    · cases h; exact ⟨rfl, Or.inr (Or.inr ⟨_, rfl, rfl⟩)⟩
    · cases h
  · cases h
theorem am_sl_len (z w b : Nat) (as : List am_V) : (lg_sl (as.map (am_tv z w b))).length = (as.map am_cat).sum := by
  induction as with
  | nil => rfl
  | cons v as ih =>
    unfold lg_sl at ih ⊢
    rw [List.map_cons, List.flatMap_cons, List.length_append, ih, List.map_cons, List.sum_cons]
    congr 1
    rw [am_tv_cat]
    rcases v with x | x | _ | a <;> rfl
section SIM
variable {p : Program} {l0 : Launch} {e : Env} {R : Room} {s : State} {m : MethodId} {args : Array Value} {below : List Frame} {meth : Method} {c : Code} {H : Heap} {locs : List Loc} {cells slots : Nat} {Q : State → Prop} {cc : ByteArray} {pc : Nat} {ls : Array Slot}
variable {z w b L : Nat} {xs : Nat → Int32} {D : va_G} {o : Nat} {ini : Bool} {maxL : Nat} {ret : Option FieldType} {RF RL : Nat} {sts : List Nat} {len : Nat}
/-- behind a call -/
theorem am_after {st0 : List Value} {rest : List Value} {a : Array Value} {mc ms : Nat} {r : Option am_V} {σ' : am_S}
    (hr : va_Run p l0 e R s m args below meth c H locs cells slots mc ms (F0 m pc ls st0) rest ((fun _ st oc t => oc = .returned (r.map (am_tv z w b)) ∧ am_HR z w b L xs D σ' t t.heap ∧ va_F (fun q => z ≤ q) st t ∧ am_rg (r.getD (vR 0)) : Array Value → State → Outcome → State → Prop) a) (fun q => z ≤ q)) (hS : va_S (fun q => z ≤ q) s.heap H locs)
    (kk : am_rg (r.getD (vR 0)) → ∀ H1 locs1, am_HR z w b L xs D σ' s H1 → va_S (fun q => z ≤ q) s.heap H1 locs1 → W p l0 e R s m args below meth c H1 locs1 (cells + mc) (slots + ms) Q (F0 m (pc + 3) ls ((r.map (am_tv z w b)).toList ++ rest))) : W p l0 e R s m args below meth c H locs cells slots Q (F0 m pc ls st0) := by
  intro T hT X
  obtain ⟨v, st₀, t, T', L0, h0, X', hL, e1, e2, ⟨hv, hp, ⟨hz, hk⟩, hgr⟩, st⟩ := hr T hT X
  cases hv
  rw [h0] at hz hk
  have hal : s.vm.Alike t.vm := by rw [← e2]; exact X'.warmed.alike
  obtain ⟨t2, a1, b1⟩ := kk hgr T'.heap (locs ++ L0) (by rw [e1]; exact am_HR_moved hal.symm hp)
    ⟨Nat.le_trans hS.1 (by rw [e1]; exact hz), fun q h1 h2 => by rw [e1, hk q (Nat.lt_of_lt_of_le h1 hS.1) h2]; exact hS.2.1 q h1 h2, fun q hq => by
      rcases List.mem_append.mp hq with h | h
      · exact hS.2.2 q h
      · exact hL q h⟩ T' rfl X'
  exact ⟨t2, st t2 a1, b1⟩
theorem am_FX_at {U : State} (hF : am_FX z w b L xs D s) (hS : va_S (fun q => z ≤ q) s.heap H locs) (hU : U.heap = H) (hW : s.WarmedH U.vm) : am_FX z w b L xs D U := by
  have hz := hF.2.2.2.2.1.2.2
  refine am_FX_moved hW (fun q hq => ?_) (by rw [hU]; exact Nat.le_trans hz hS.1) hF
  rw [hU]
  exact hS.2.1 q (by omega) (by show ¬ z ≤ q; omega)
theorem am_blind {as : List am_V} {σ : am_S} : FrameBlind (fun v U => v = (as.map (am_tv z w b)).toArray ∧ am_HR z w b L xs D σ U U.heap ∧ am_FX z w b L xs D U) := by
  intro a U g mk h
  obtain ⟨h1, h2, h3⟩ := h
  refine ⟨h1, am_HR_moved (u := U) (U := U.calling g mk a) (Vm.Alike.refl U.vm) h2, ?_⟩
  obtain ⟨g1, g2, g3, g4, g5, g6, g7, g8⟩ := h3
  refine ⟨va_K.moved (u := U) (U := U.calling g mk a) (Vm.Alike.refl U.vm) g1, va_Z.moved (u := U) (U := U.calling g mk a) (Vm.Alike.refl U.vm) g2, va_X.moved (u := U) (U := U.calling g mk a) (Vm.Alike.refl U.vm) g3, va_X.moved (u := U) (U := U.calling g mk a) (Vm.Alike.refl U.vm) g4, g5, fun e he => va_Nw.same (u := U) (U := U.calling g mk a) rfl rfl (g6 e he), fun e he => va_Nw.same (u := U) (U := U.calling g mk a) rfl rfl (g7 e he), va_AO.moved (u := U) (U := U.calling g mk a) (Vm.Alike.refl U.vm) g8⟩
theorem am_map_rev (as st' : List am_V) (f : am_V → Value) : (as.reverse ++ st').map f = (as.map f).reverse ++ st'.map f := by
  rw [List.map_append, List.map_reverse]
set_option maxHeartbeats 4000000 in
theorem am_sim_ca (hx : p.tables.exec = Jvm.exec) (hb : c.code = cc) (hml : c.maxLocals = maxL) (hown : s.vm.findClass (am_cn o) = some m.cls) (hts : ∀ q ∈ lw_gt, q.before args s = true) (hF : am_FX z w b L xs D s) (hRF : R.frames = RF) (hRL : R.locals = RL)
    {i : Instr} {ops : List Nat} {v : Int} {l : am_Lc} {st st' as : List am_V} {σ σ1 : am_S} {j : Nat} {r : Option am_V} (h : am_ca i ops v st σ = some (j, as, st')) (hdg : decode cc pc = .ok (i, len)) (hs : am_side o ini maxL ret RF RL sts pc len i ops v = true)
    (hl : lv_has ls maxL (l.map (am_t2 z w b))) (hH : am_HR z w b L xs D σ s H) (hS : va_S (fun q => z ≤ q) s.heap H locs) (hup : am_up σ σ1) (hrc : cells + σ1.2.2.2.1 ≤ R.cells + σ.2.2.2.1) (hrs : slots + σ1.2.2.2.2 ≤ R.slots + σ.2.2.2.2)
    (hmet : ∀ q, am_meths[j]? = some q → j ≠ 0 → (as.map am_cat).sum ≤ q.2.2.1 → am_Met l0 z w b L xs D q as σ r σ1)
    (kk : am_rg (r.getD (vR 0)) → ∀ H1 locs1 cells1 slots1, am_HR z w b L xs D σ1 s H1 → va_S (fun q => z ≤ q) s.heap H1 locs1 → cells1 + σ.2.2.2.1 = cells + σ1.2.2.2.1 → slots1 + σ.2.2.2.2 = slots + σ1.2.2.2.2 → W p l0 e R s m args below meth c H1 locs1 cells1 slots1 Q (F0 m (pc + len) ls ((r.toList ++ st').map (am_tv z w b)))) :
    W p l0 e R s m args below meth c H locs cells slots Q (F0 m pc ls (st.map (am_tv z w b))) := by
  obtain ⟨n, rfl, hn, hcat, hwd, hk⟩ := am_ca_inv h
  have hsz : ls.size = maxL := hl.1
  have hfix : CallFix p m c cc maxL s args lw_gt (am_cn o) := ⟨hx, hb, hml, hown, hts⟩
  have hrest : 2 * (F0 m pc ls ((as.reverse ++ st').map (am_tv z w b))).monitorRoom + ((st'.map (am_tv z w b)).map fun v => v.category).sum ≤ 8 := lv_room (by rw [am_map_cat]; exact hcat)
  have hroom : cells + (σ1.2.2.2.1 - σ.2.2.2.1) ≤ R.cells ∧ slots + (σ1.2.2.2.2 - σ.2.2.2.2) ≤ R.slots := by
    obtain ⟨u1, u2⟩ := hup
    omega
  have hgoon : am_rg (r.getD (vR 0)) → ∀ H1 locs1, am_HR z w b L xs D σ1 s H1 → va_S (fun q => z ≤ q) s.heap H1 locs1 → W p l0 e R s m args below meth c H1 locs1 (cells + (σ1.2.2.2.1 - σ.2.2.2.1)) (slots + (σ1.2.2.2.2 - σ.2.2.2.2)) Q (F0 m (pc + len) ls ((r.map (am_tv z w b)).toList ++ st'.map (am_tv z w b))) := by
    intro hgr H1 locs1 k1 k2
    obtain ⟨u1, u2⟩ := hup
    have := kk hgr H1 locs1 (cells + (σ1.2.2.2.1 - σ.2.2.2.1)) (slots + (σ1.2.2.2.2 - σ.2.2.2.2)) k1 k2 (by omega) (by omega)
    rw [List.map_append] at this
    cases r with
    | none => exact this
    | some r => exact this
  have hPc : ∀ U : State, U.heap = H → s.WarmedH U.vm → ((as.map (am_tv z w b)).toArray = (as.map (am_tv z w b)).toArray ∧ am_HR z w b L xs D σ U U.heap ∧ am_FX z w b L xs D U) := fun U hU hW => ⟨rfl, by rw [hU]; exact am_HR_moved hW.alike hH, am_FX_at hF hS hU hW⟩
  rcases hk with ⟨x, rfl, rfl⟩ | ⟨x, cn, a, as', rfl, rfl, rfl, hio⟩ | ⟨x, a, as', rfl, rfl, rfl⟩
  · -- static
    simp only [am_side] at hs
    cases hRM : am_RM[j]? with
    | none => rw [hRM] at hs; simp at hs
    | some q =>
      obtain ⟨a1, a2, a3, a4, a5⟩ := q
      rw [hRM] at hs
      simp only [Bool.and_eq_true, beq_iff_eq, decide_eq_true_eq, List.any_eq_true] at hs
      obtain ⟨rfl, ⟨⟨⟨⟨rfl, hf⟩, hlo⟩, hvw⟩, rfl⟩, q, hq, ⟨e1, e2⟩, e3⟩ := hs
      have hlk := hts _ (am_MLk q hq)
      rw [e1, e2, e3] at hlk
      obtain ⟨hj0, hj1⟩ := am_ML0 q hq
      rw [e3] at hj0 hj1
      obtain ⟨mm, hjm⟩ := am_mget hj1
      have hgood := am_gall j mm hjm hj0
      rw [List.getD_eq_getElem?_getD, hjm] at hlk
      obtain ⟨y, bytes, mL, rt, ⟨fF, fL⟩, nn, kd, ss, bb⟩ := mm
      obtain ⟨oo, ho14, how, hcls, -, hRM2, -, hcode, hini, hkw⟩ := hgood
      have hd : y.cls ≠ "java/lang/invoke/MethodHandle" ∧ y.cls ≠ "java/lang/invoke/VarHandle" := by rw [hcls]; exact am_cnN oo ho14
      cases hRM.symm.trans hRM2
      have hme := hmet _ hjm hj0 (by show _ ≤ a3; omega)
      obtain ⟨hst, hpar⟩ := hkw
      have cw : CallB R s args (am_cn o) x y bytes a3 rt (Cond.code y bytes a3 rt :: lw_gt) ({ frames := a1, cells := σ1.2.2.2.1 - σ.2.2.2.1, slots := σ1.2.2.2.2 - σ.2.2.2.2, locals := a2 } : Room) (σ1.2.2.2.1 - σ.2.2.2.1) (σ1.2.2.2.2 - σ.2.2.2.2) a4 ∧ (Cond.static y).before args s = true :=
        ⟨callB_of a4 hts (fun q hq => by
          rcases List.mem_cons.mp hq with rfl | hq
          · exact am_gg _ hcode
          · exact am_gg _ hq) rfl rfl rfl (hts _ hini) hlk ⟨hd.1, hd.2, hpar⟩ ⟨by rw [hRF]; exact hf, by rw [hRL]; exact hlo⟩, hts _ hst⟩
      refine am_after (a := (as.map (am_tv z w b)).toArray) (rest := st'.map (am_tv z w b)) (mc := σ1.2.2.2.1 - σ.2.2.2.1) (ms := σ1.2.2.2.2 - σ.2.2.2.2) (r := r) (σ' := σ1) ?_ hS hgoon
      exact va_runS (As := as.map (am_tv z w b)) (rest := st'.map (am_tv z w b)) hfix hme cw ⟨am_blind, hPc⟩ rfl (by rw [List.length_map]; exact hn) hsz (am_map_rev _ _ _) hrest hdg hroom
  · -- virtual
    simp only [am_side] at hs
    cases hRM : am_RM[j]? with
    | none => rw [hRM] at hs; simp at hs
    | some q =>
      obtain ⟨a1, a2, a3, a4, a5⟩ := q
      rw [hRM] at hs
      simp only [Bool.and_eq_true, beq_iff_eq, decide_eq_true_eq, List.any_eq_true] at hs
      obtain ⟨rfl, ⟨⟨⟨⟨⟨⟨rfl, hf⟩, hlo⟩, hvw⟩, rfl⟩, hcn⟩, how2⟩, q, hq, ⟨e1, e2⟩, e3⟩ := hs
      have hlk := hts _ (am_MLk q hq)
      rw [e1, e2, e3] at hlk
      obtain ⟨hj0, hj1⟩ := am_ML0 q hq
      rw [e3] at hj0 hj1
      obtain ⟨mm, hjm⟩ := am_mget hj1
      have hgood := am_gall j mm hjm hj0
      rw [List.getD_eq_getElem?_getD, hjm] at hlk
      obtain ⟨y, bytes, mL, rt, ⟨fF, fL⟩, nn, kd, ss, bb⟩ := mm
      obtain ⟨oo, ho14, how, hcls, -, hRM2, -, hcode, hini, hkw⟩ := hgood
      have hd : y.cls ≠ "java/lang/invoke/MethodHandle" ∧ y.cls ≠ "java/lang/invoke/VarHandle" := by rw [hcls]; exact am_cnN oo ho14
      cases hRM.symm.trans hRM2
      have hme := hmet _ hjm hj0 (by show _ ≤ a3; omega)
      obtain ⟨hin, hse, hpar⟩ := hkw
      rw [List.getD_eq_getElem?_getD, how] at how2
      have how2 : oo = cn := how2
      subst how2
      obtain ⟨nlen, hla, ha2⟩ := am_isO_inv hio
      obtain ⟨-, ⟨cellB, g1, g2, g3, -⟩, -⟩ := hH.2.2.2.2.2.2 a _ ha2 hla
      have hfc := (hF.1.1 oo _ (am_clA oo hcn)).2.1
      have cw : CallW R s args (am_cn o) (am_cn oo) x y bytes a3 rt (Cond.code y bytes a3 rt :: lw_gt) ({ frames := a1, cells := σ1.2.2.2.1 - σ.2.2.2.1, slots := σ1.2.2.2.2 - σ.2.2.2.2, locals := a2 } : Room) (σ1.2.2.2.1 - σ.2.2.2.1) (σ1.2.2.2.2 - σ.2.2.2.2) (a4 - 1) :=
        ⟨callB_of (a4 - 1) hts (fun q hq => by
          rcases List.mem_cons.mp hq with rfl | hq
          · exact am_gg _ hcode
          · exact am_gg _ hq) rfl rfl rfl (hts _ hini) hlk ⟨hd.1, hd.2, hpar⟩ ⟨by rw [hRF]; exact hf, by rw [hRL]; exact hlo⟩, hts _ hin, by rw [← hcls]; exact hts _ hse⟩
      refine am_after (a := (Value.ref (am_ad z w b a) :: as'.map (am_tv z w b)).toArray) (rest := st'.map (am_tv z w b)) (mc := σ1.2.2.2.1 - σ.2.2.2.1) (ms := σ1.2.2.2.2 - σ.2.2.2.2) (r := r) (σ' := σ1) ?_ hS hgoon
      exact va_runV (b := am_ad z w b a) (As := as'.map (am_tv z w b)) (rest := st'.map (am_tv z w b)) hfix hme cw ⟨am_blind, ⟨cellB, g1, by rw [g3]; rfl, by rw [g2]; exact hfc⟩, hPc⟩ rfl (by rw [List.length_map]; simp only [List.length_cons] at hn; omega) hsz (by rw [am_map_rev]; show (Value.ref (am_ad z w b a) :: as'.map (am_tv z w b)).reverse ++ _ = _; rw [List.reverse_cons, List.append_assoc]; rfl) hrest hdg hroom
  · -- making
    simp only [am_side] at hs
    cases hRM : am_RM[j]? with
    | none => rw [hRM] at hs; simp at hs
    | some q =>
      obtain ⟨a1, a2, a3, a4, a5⟩ := q
      rw [hRM] at hs
      simp only [Bool.and_eq_true, Bool.or_eq_true, beq_iff_eq, decide_eq_true_eq, List.any_eq_true] at hs
      obtain ⟨rfl, ⟨⟨⟨rfl, hf⟩, hlo⟩, hvw⟩, hor⟩ := hs
      rcases hor with ⟨rfl, q, hq, ⟨e1, e2⟩, e3⟩ | ⟨rfl, q, hq, ⟨e1, e2⟩, e3⟩
      · have hlk := hts _ (am_MLk q hq)
        rw [e1, e2, e3] at hlk
        obtain ⟨hj0, hj1⟩ := am_ML0 q hq
        rw [e3] at hj0 hj1
        obtain ⟨mm, hjm⟩ := am_mget hj1
        have hgood := am_gall j mm hjm hj0
        rw [List.getD_eq_getElem?_getD, hjm] at hlk
        obtain ⟨y, bytes, mL, rt, ⟨fF, fL⟩, nn, kd, ss, bb⟩ := mm
        obtain ⟨oo, ho14, how, hcls, -, hRM2, -, hcode, hini, hkw⟩ := hgood
        have hd : y.cls ≠ "java/lang/invoke/MethodHandle" ∧ y.cls ≠ "java/lang/invoke/VarHandle" := by rw [hcls]; exact am_cnN oo ho14
        cases hRM.symm.trans hRM2
        have hme := hmet _ hjm hj0 (by show _ ≤ a3; omega)
        obtain ⟨hin, hnam, hpar⟩ := hkw
        have hrt : rt = none := am_rtn hjm (Nat.le_of_ble_eq_true rfl)
        subst hrt
        have cw : CallB R s args (am_cn o) x y bytes a3 none (Cond.code y bytes a3 none :: lw_gt) ({ frames := a1, cells := σ1.2.2.2.1 - σ.2.2.2.1, slots := σ1.2.2.2.2 - σ.2.2.2.2, locals := a2 } : Room) (σ1.2.2.2.1 - σ.2.2.2.1) (σ1.2.2.2.2 - σ.2.2.2.2) (a4 - 1) ∧ y.name = "<init>" ∧ (Cond.instanceMethod y).before args s = true :=
          ⟨callB_of (a4 - 1) hts (fun q hq => by
            rcases List.mem_cons.mp hq with rfl | hq
            · exact am_gg _ hcode
            · exact am_gg _ hq) rfl rfl rfl (hts _ hini) hlk ⟨hd.1, hd.2, hpar⟩ ⟨by rw [hRF]; exact hf, by rw [hRL]; exact hlo⟩, hnam, hts _ hin⟩
        refine am_after (a := (Value.ref (am_ad z w b a) :: as'.map (am_tv z w b)).toArray) (rest := st'.map (am_tv z w b)) (mc := σ1.2.2.2.1 - σ.2.2.2.1) (ms := σ1.2.2.2.2 - σ.2.2.2.2) (r := r) (σ' := σ1) ?_ hS hgoon
        exact va_runI (b := am_ad z w b a) (As := as'.map (am_tv z w b)) (rest := st'.map (am_tv z w b)) hfix hme cw ⟨am_blind, hPc⟩ rfl (by rw [List.length_map]; simp only [List.length_cons] at hn; omega) hsz (by rw [am_map_rev]; show (Value.ref (am_ad z w b a) :: as'.map (am_tv z w b)).reverse ++ _ = _; rw [List.reverse_cons, List.append_assoc]; rfl) hrest hdg hroom
      · have hlk := va_Nw.use (A := args) rfl (hF.2.2.2.2.2.2.1 q hq)
        rw [e1, e2, e3] at hlk
        obtain ⟨hj0, hj1⟩ := am_NM0 q hq
        rw [e3] at hj0 hj1
        obtain ⟨mm, hjm⟩ := am_mget hj1
        have hgood := am_gall j mm hjm hj0
        rw [List.getD_eq_getElem?_getD, hjm] at hlk
        obtain ⟨y, bytes, mL, rt, ⟨fF, fL⟩, nn, kd, ss, bb⟩ := mm
        obtain ⟨oo, ho14, how, hcls, -, hRM2, -, hcode, hini, hkw⟩ := hgood
        have hd : y.cls ≠ "java/lang/invoke/MethodHandle" ∧ y.cls ≠ "java/lang/invoke/VarHandle" := by rw [hcls]; exact am_cnN oo ho14
        cases hRM.symm.trans hRM2
        have hme := hmet _ hjm hj0 (by show _ ≤ a3; omega)
        obtain ⟨hin, hnam, hpar⟩ := hkw
        have hrt : rt = none := am_rtn hjm (Nat.le_of_ble_eq_true rfl)
        subst hrt
        have cw : va_CN R s args (am_cn o) x y "WashLine" bytes a3 none (Cond.code y bytes a3 none :: lw_gt) ({ frames := a1, cells := σ1.2.2.2.1 - σ.2.2.2.1, slots := σ1.2.2.2.2 - σ.2.2.2.2, locals := a2 } : Room) (σ1.2.2.2.1 - σ.2.2.2.1) (σ1.2.2.2.2 - σ.2.2.2.2) (a4 - 1) ∧ y.name = "<init>" ∧ (Cond.instanceMethod y).before args s = true :=
          ⟨va_cnB (a4 - 1) hts (fun q hq => by
            rcases List.mem_cons.mp hq with rfl | hq
            · exact am_gg _ hcode
            · exact am_gg _ hq) rfl rfl rfl (va_Nw.of rfl hlk) (hts _ hini) ⟨hd.1, hd.2, hpar⟩ ⟨by rw [hRF]; exact hf, by rw [hRL]; exact hlo⟩, hnam, hts _ hin⟩
        refine am_after (a := (Value.ref (am_ad z w b a) :: as'.map (am_tv z w b)).toArray) (rest := st'.map (am_tv z w b)) (mc := σ1.2.2.2.1 - σ.2.2.2.1) (ms := σ1.2.2.2.2 - σ.2.2.2.2) (r := r) (σ' := σ1) ?_ hS hgoon
        exact va_runIN (b := am_ad z w b a) (As := as'.map (am_tv z w b)) (rest := st'.map (am_tv z w b)) hfix hme cw ⟨am_blind, hPc⟩ rfl (by rw [List.length_map]; simp only [List.length_cons] at hn; omega) hsz (by rw [am_map_rev]; show (Value.ref (am_ad z w b a) :: as'.map (am_tv z w b)).reverse ++ _ = _; rw [List.reverse_cons, List.append_assoc]; rfl) hrest hdg hroom
/-- what waits behind the end -/
def am_End (p : Program) (l0 : Launch) (e : Env) (R : Room) (s : State) (m : MethodId) (args : Array Value) (below : List Frame) (meth : Method) (c : Code) (Q : State → Prop) (cc : ByteArray) (ret : Option FieldType) (z w b L : Nat) (xs : Nat → Int32) (D : va_G) (mc ms : Nat) (r : Option am_V) (σf : am_S) : Prop :=
  ∀ (pc : Nat) (ls : Array Slot) (H : Heap) (locs : List Loc), am_HR z w b L xs D σf s H → va_S (fun q => z ≤ q) s.heap H locs →
    (match r with
      | none => decode cc pc = .ok (.return_, 1) ∧ ret = none
      | some (.inl x) => decode cc pc = .ok (.ireturn, 1) ∧ (ret = some .int ∨ (ret = some .boolean ∧ (x = 0 ∨ x = 1)))
      | some (.inr (.inl _)) => decode cc pc = .ok (.lreturn, 1) ∧ ret = some .long
      | _ => False) → W p l0 e R s m args below meth c H locs mc ms Q (F0 m pc ls ((r.map (am_tv z w b)).toList))
set_option maxHeartbeats 4000000 in
theorem am_sim_run (hx : p.tables.exec = Jvm.exec) (hb : c.code = cc) (hml : c.maxLocals = maxL) (hown : s.vm.findClass (am_cn o) = some m.cls) (hts : ∀ q ∈ lw_gt, q.before args s = true) (hF : am_FX z w b L xs D s) (hini : ini = true → meth.name = "<init>") (hRF : R.frames = RF) (hRL : R.locals = RL) {bs : List (List am_I)} (hbs : ∀ k t, sts[k]? = some t → am_chk o ini maxL ret RF RL sts cc t (bs.getD k []) = true)
    {r : Option am_V} {σf : am_S} {mc ms : Nat} (hmc : mc ≤ R.cells) (hms : ms ≤ R.slots) (hend : am_rg (r.getD (vR 0)) → am_End p l0 e R s m args below meth c Q cc ret z w b L xs D mc ms r σf) :
    ∀ (n : Nat), (∀ (k : Nat), k < n → ∀ (j : Nat) (q : am_M) (as : List am_V) (σ : am_S) (r : Option am_V) (σ' : am_S), am_meths[j]? = some q → j ≠ 0 → (as.map am_cat).sum ≤ q.2.2.1 → (∀ v ∈ as, am_rg v) → am_run am_P k (am_P j) ((am_P j).getD 0 []) (am_args 0 as) [] σ = some (r, σ') → am_Met l0 z w b L xs D q as σ r σ') →
    ∀ (is : List am_I) (pc : Nat) (l : am_Lc) (st : List am_V) (σ : am_S) (ls : Array Slot) (H : Heap) (locs : List Loc) (cells slots : Nat), am_chk o ini maxL ret RF RL sts cc pc is = true → lv_has ls maxL (l.map (am_t2 z w b)) → (∀ q ∈ l, am_rg q.2) → (∀ v ∈ st, am_rg v) → am_HR z w b L xs D σ s H → va_S (fun q => z ≤ q) s.heap H locs → cells + σf.2.2.2.1 = mc + σ.2.2.2.1 → slots + σf.2.2.2.2 = ms + σ.2.2.2.2 →
      am_run am_P n bs is l st σ = some (r, σf) → W p l0 e R s m args below meth c H locs cells slots Q (F0 m pc ls (st.map (am_tv z w b))) := by
  intro n
  induction n with
  | zero => intro _ is pc l st σ ls H locs cells slots _ _ _ _ _ _ _ _ h; simp [am_run] at h
  | succ n ih =>
    intro hcall is pc l st σ ls H locs cells slots hchk hl gl gs hH hS hc1 hc2 h
    have ih := ih (fun k hk => hcall k (Nat.lt_succ_of_lt hk))
    cases is with
    | nil => simp [am_run] at h
    | cons i is =>
      obtain ⟨i, ops, v⟩ := i
      have hup := am_up_run am_P _ _ _ _ _ _ _ _ h
      rw [am_run] at h
      unfold am_chk at hchk
      by_cases hnop : i = .nop
      · subst hnop
        rw [if_pos rfl] at hchk
        have h : am_run am_P n bs (bs.getD (ops.headD 0) []) l st σ = some (r, σf) := h
        split at hchk
        · rename_i t ht
          have := of_decide_eq_true hchk
          subst this
          exact ih _ _ l st σ ls H locs cells slots (hbs _ _ ht) hl gl gs hH hS hc1 hc2 h
        · cases hchk
      · rw [if_neg hnop] at hchk
        split at hchk
        · rename_i j len hdg
          rw [Bool.and_eq_true, Bool.and_eq_true] at hchk
          obtain ⟨⟨hij, hs⟩, hchk⟩ := hchk
          have := of_decide_eq_true hij
          subst this
          cases h1 : am_ar j v l st with
          | some q =>
            rw [h1] at h
            obtain ⟨l', st'⟩ := q
            exact am_sim_ar hx hb hown hts h1 hdg hs hl gl gs (fun ls' hl' gl' gs' => ih _ _ l' st' σ ls' H locs cells slots hchk hl' gl' gs' hH hS hc1 hc2 h)
          | none =>
            rw [h1] at h
            dsimp only at h
            cases h2 : am_me j ops st σ with
            | some q =>
              obtain ⟨st', σ'⟩ := q
              rw [h2] at h
              have hu1 := am_up_me h2
              have hu2 := am_up_run am_P _ _ _ _ _ _ _ _ h
              obtain ⟨u1, u2⟩ := hu1
              obtain ⟨u3, u4⟩ := hu2
              exact am_sim_me hx hb hml hown hts hF hini hRF hRL h2 hdg hs hl gs hH hS (by omega) (by omega) (fun H1 locs1 c1 s1 k1 k2 k3 k4 gs' => ih _ _ l st' σ' ls H1 locs1 c1 s1 hchk hl gl gs' k1 k2 (by omega) (by omega) h)
            | none =>
              rw [h2] at h
              dsimp only at h
              cases h3 : am_ct j ops st with
              | some q =>
                obtain ⟨k, st'⟩ := q
                rw [h3] at h
                refine am_sim_ct hx hb h3 hnop hdg hs gs (fun hk gs' => ?_) (fun k' t hk ht gs' => ?_)
                · subst hk
                  exact ih _ _ l st' σ ls H locs cells slots hchk hl gl gs' hH hS hc1 hc2 h
                · subst hk
                  exact ih _ _ l st' σ ls H locs cells slots (hbs _ _ ht) hl gl gs' hH hS hc1 hc2 h
              | none =>
                rw [h3] at h
                dsimp only at h
                cases h4 : am_ca j ops v st σ with
                | some q =>
                  obtain ⟨mm, as, st'⟩ := q
                  rw [h4] at h
                  dsimp only at h
                  cases h5 : am_run am_P n (am_P mm) ((am_P mm).getD 0 []) (am_args 0 as) [] σ with
                  | none => rw [h5] at h; cases h
                  | some q =>
                    obtain ⟨r1, σ1⟩ := q
                    rw [h5] at h
                    have hu1 := am_up_run am_P _ _ _ _ _ _ _ _ h5
                    have hu2 := am_up_run am_P _ _ _ _ _ _ _ _ h
                    have gas : ∀ u ∈ as, am_rg u := by
                      obtain ⟨nn, e1, -⟩ := am_ca_inv h4
                      intro u hu
                      exact gs u (by rw [e1]; exact List.mem_append_left _ (List.mem_reverse.mpr hu))
                    have gst : ∀ u ∈ st', am_rg u := by
                      obtain ⟨nn, e1, -⟩ := am_ca_inv h4
                      intro u hu
                      exact gs u (by rw [e1]; exact List.mem_append_right _ hu)
                    have hu3 := hu1
                    obtain ⟨u1, u2⟩ := hu1
                    obtain ⟨u3, u4⟩ := hu2
                    refine am_sim_ca hx hb hml hown hts hF hRF hRL h4 hdg hs hl hH hS hu3 (by omega) (by omega) (fun q hq hm0 hwd => (hcall n (Nat.lt_succ_self n) mm q as σ r1 σ1 hq hm0 hwd gas h5)) (fun gr H1 locs1 c1 s1 k1 k2 k3 k4 => ih _ _ l (r1.toList ++ st') σ1 ls H1 locs1 c1 s1 hchk hl gl ?_ k1 k2 (by omega) (by omega) h)
                    intro u hu
                    rcases List.mem_append.mp hu with hu | hu
                    · cases r1 with
                      | none => cases hu
                      | some r1 =>
                        cases List.mem_singleton.mp hu
                        exact gr
                    · exact gst u hu
                | none =>
                  rw [h4] at h
                  dsimp only at h
                  cases h6 : am_rt j ops st with
                  | none => rw [h6] at h; cases h
                  | some r1 =>
                    rw [h6] at h
                    cases h
                    obtain ⟨e1, hk⟩ := am_rt_inv h6
                    subst e1
                    have gr : am_rg (r.getD (vR 0)) := by
                      cases r with
                      | none => exact trivial
                      | some r => exact gs r List.mem_cons_self
                    have hc3 : cells = mc := by omega
                    have hs3 : slots = ms := by omega
                    subst hc3
                    subst hs3
                    have hfin := hend gr pc ls H locs hH hS
                    rcases hk with ⟨rfl, rfl⟩ | ⟨x, rfl, rfl, hx01⟩ | ⟨x, rfl, rfl⟩
                    · simp only [am_side, Bool.and_eq_true, beq_iff_eq, decide_eq_true_eq] at hs
                      obtain ⟨rfl, hr⟩ := hs
                      exact hfin ⟨hdg, hr⟩
                    · simp only [am_side, Bool.and_eq_true, beq_iff_eq, decide_eq_true_eq] at hs
                      obtain ⟨rfl, hr⟩ := hs
                      refine hfin ⟨hdg, ?_⟩
                      rcases hr with ⟨-, hr⟩ | ⟨rfl, hr⟩
                      · exact Or.inl hr
                      · refine Or.inr ⟨hr, ?_⟩
                        rcases hx01 with h | h
                        · cases h
                        · exact h
                    · simp only [am_side, Bool.and_eq_true, beq_iff_eq, decide_eq_true_eq] at hs
                      obtain ⟨rfl, hr⟩ := hs
                      exact hfin ⟨hdg, hr⟩
        · cases hchk
/-- the least that a call's end must give -/
theorem am_chkB {o : Nat} {q : am_M} (h : am_chkM o q = true) : ∀ (k t : Nat), q.2.2.2.2.2.2.2.1[k]? = some t → am_chk o (q.1.name == "<init>") q.2.2.1 q.2.2.2.1 q.2.2.2.2.1.1 q.2.2.2.2.1.2 q.2.2.2.2.2.2.2.1 q.2.1 t (q.2.2.2.2.2.2.2.2.getD k []) = true := by
  obtain ⟨y, bytes, mL, rt, ⟨fF, fL⟩, nn, kd, ss, bb⟩ := q
  intro k t ht
  have ht : ss[k]? = some t := ht
  have h : (decide (ss[0]? = some 0) && decide (ss.length = bb.length) && (ss.zip bb).all (fun q => am_chk o (y.name == "<init>") mL rt fF fL ss bytes q.1 q.2)) = true := h
  rw [Bool.and_eq_true, Bool.and_eq_true] at h
  obtain ⟨⟨h1, h2⟩, h3⟩ := h
  have h2 := of_decide_eq_true h2
  have hk : k < ss.length := (List.getElem?_eq_some_iff.mp ht).1
  have hb : bb[k]? = some (bb.getD k []) := by
    rw [List.getD_eq_getElem?_getD, List.getElem?_eq_getElem (by omega)]
    rfl
  have hz : (ss.zip bb)[k]? = some (t, bb.getD k []) := by
    rw [List.getElem?_zip_eq_some]
    exact ⟨ht, hb⟩
  exact List.all_eq_true.mp h3 _ (List.mem_of_getElem? hz)
theorem am_chk0 {o : Nat} {q : am_M} (h : am_chkM o q = true) : q.2.2.2.2.2.2.2.1[0]? = some 0 := by
  obtain ⟨y, bytes, mL, rt, ⟨fF, fL⟩, nn, kd, ss, bb⟩ := q
  have h : (decide (ss[0]? = some 0) && decide (ss.length = bb.length) && (ss.zip bb).all (fun q => am_chk o (y.name == "<init>") mL rt fF fL ss bytes q.1 q.2)) = true := h
  rw [Bool.and_eq_true, Bool.and_eq_true] at h
  exact of_decide_eq_true h.1.1
set_option maxHeartbeats 4000000 in
theorem am_sim_all (l0 : Launch) (z w b L : Nat) (xs : Nat → Int32) (D : va_G) : ∀ (n : Nat) (j : Nat) (q : am_M) (as : List am_V) (σ : am_S) (r : Option am_V) (σ' : am_S), am_meths[j]? = some q → j ≠ 0 → (as.map am_cat).sum ≤ q.2.2.1 → (∀ v ∈ as, am_rg v) → am_run am_P n (am_P j) ((am_P j).getD 0 []) (am_args 0 as) [] σ = some (r, σ') → am_Met l0 z w b L xs D q as σ r σ' := by
  intro n
  induction n using Nat.strongRecOn with
  | ind n ihn =>
    intro j q as σ r σ' hq hj hwd gas h
    have hgood := am_gall j q hq hj
    have hP : am_P j = q.2.2.2.2.2.2.2.2 := by
      unfold am_P
      rw [List.getD_eq_getElem?_getD, hq]
      rfl
    obtain ⟨y, bytes, mL, rt, ⟨fF, fL⟩, nn, kd, ss, bb⟩ := q
    obtain ⟨o, ho14, how, hcls, hchk, hRM, hpl, hcode, hini, hkw⟩ := hgood
    have hB := am_chkB hchk
    have h0 := am_chk0 hchk
    have hP : am_P j = bb := hP
    unfold am_Met
    refine Met.ofW (cc := bytes) (maxL := mL) (ret := rt) hpl rfl ?_
    intro p e s m args below meth c s₁ B hml hv
    obtain ⟨rfl, hH, hF⟩ := hv
    have hx := B.exec
    have hb := B.bytes
    have hr := B.returns
    have hts0 := atoms_spec (ws := Cond.code y bytes mL rt :: lw_gt) B.pre
    have hts : ∀ q ∈ lw_gt, q.before (as.map (am_tv z w b)).toArray s = true := fun q hq => hts0 q (List.mem_cons_of_mem _ hq)
    have hown : s.vm.findClass (am_cn o) = some m.cls := by rw [← hcls]; exact findClass_of_methodNamed B.named
    have hlocks := B.notSynchronized
    have hnm : meth.name = y.name := (name_of_methodNamed B.named B.method).1
    have hlen : (lg_sl (as.map (am_tv z w b))).length ≤ mL := by rw [am_sl_len]; exact hwd
    have hl := lv_entry (as.map (am_tv z w b)) (n := mL) hlen
    rw [am_args_map] at hl
    rw [lg_entry_eq]
    generalize (lg_sl (as.map (am_tv z w b)) ++ List.replicate (mL - (lg_sl (as.map (am_tv z w b))).length) Slot.unset).toArray = ls at hl ⊢
    have hup := am_up_run am_P _ _ _ _ _ _ _ _ h
    obtain ⟨u1, u2⟩ := hup
    have hrun := am_sim_run (p := p) (l0 := l0) (e := e) (R := (headSpec (Cond.code y bytes mL rt :: lw_gt) ({ frames := fF, cells := σ'.2.2.2.1 - σ.2.2.2.1, slots := σ'.2.2.2.2 - σ.2.2.2.2, locals := fL } : Room)).room) (s := s) (m := m) (args := (as.map (am_tv z w b)).toArray) (below := below) (meth := meth) (c := c) (Q := MQ below (fun _ st oc t => oc = .returned (r.map (am_tv z w b)) ∧ am_HR z w b L xs D σ' t t.heap ∧ va_F (fun q => z ≤ q) st t ∧ am_rg (r.getD (vR 0))) (as.map (am_tv z w b)).toArray s (σ'.2.2.2.1 - σ.2.2.2.1) (σ'.2.2.2.2 - σ.2.2.2.2) (fun q => z ≤ q)) (cc := bytes) (z := z) (w := w) (b := b) (L := L) (xs := xs) (D := D) (o := o) (ini := y.name == "<init>") (maxL := mL) (ret := rt) (RF := fF) (RL := fL) (sts := ss) hx hb hml hown hts hF (fun hi => by rw [hnm]; exact eq_of_beq hi) rfl rfl (bs := bb) hB (r := r) (σf := σ') (mc := σ'.2.2.2.1 - σ.2.2.2.1) (ms := σ'.2.2.2.2 - σ.2.2.2.2) (Nat.le_refl _) (Nat.le_refl _) ?_ n (fun k hk => ihn k hk) (bb.getD 0 []) 0 (am_args 0 as) [] σ ls s.heap [] 0 0 (hB 0 0 h0) hl (am_args_rg 0 as gas) (fun v hv => by cases hv) hH va_S.rf (by omega) (by omega) (by rw [← hP]; exact h)
    · exact hrun
    · intro hgr pc ls H locs hH hS hm
      have hq : ∀ t : State, t.heap = H → s.WarmedH t.vm → (Outcome.returned (r.map (am_tv z w b)) = .returned (r.map (am_tv z w b)) ∧ am_HR z w b L xs D σ' t t.heap ∧ va_F (fun q => z ≤ q) s t ∧ am_rg (r.getD (vR 0))) := fun t ht hW => ⟨rfl, by rw [ht]; exact am_HR_moved hW.alike hH, hS.F ht, hgr⟩
      rcases r with _ | x | x | x
      · exact W.vret hx hb (by rw [hr, hm.2]) hq hS.2.2 hm.1
      · obtain ⟨hd, hrt⟩ := hm
        rcases hrt with hrt | ⟨hrt, h01⟩
        · exact W.iret hx hb (by rw [hr, hrt]) hq hS.2.2 hd
        · refine W.zret (ty := .boolean) hx hb (by rw [hr, hrt]) ?_ hq hS.2.2 hd
          rcases h01 with rfl | rfl <;> rfl
      · exact W.lret hx hb (by rw [hr, hm.2]) hq hS.2.2 hm.1
      · exact absurd hm (fun h => h)
end SIM
end
section
/-! THE SMALL MACHINE COMES TO AN END: rows, one an instruction. Fewer locals do no harm. -/
def lin (a : Nat) : am_Lc → Bool
  | [] => false
  | q :: r => (q.1 == a) || lin a r
def lwf : am_Lc → Bool
  | [] => true
  | q :: r => !(lin q.1 r) && lwf r
theorem lget_lin {a : Nat} : ∀ {l : am_Lc}, lin a l = false → lget l a = none
  | [], _ => rfl
  | q :: r, h => by
    unfold lin at h
    rw [Bool.or_eq_false_iff] at h
    unfold lget
    rw [if_neg (by simpa using h.1)]
    exact lget_lin h.2
theorem lin_filter {p : Nat × am_V → Bool} {a : Nat} : ∀ {l : am_Lc}, lin a l = false → lin a (l.filter p) = false
  | [], _ => rfl
  | q :: r, h => by
    unfold lin at h
    rw [Bool.or_eq_false_iff] at h
    rw [List.filter_cons]
    split
    · unfold lin
      rw [Bool.or_eq_false_iff]
      exact ⟨h.1, lin_filter h.2⟩
    · exact lin_filter h.2
theorem lwf_filter {p : Nat × am_V → Bool} : ∀ {l : am_Lc}, lwf l = true → lwf (l.filter p) = true
  | [], _ => rfl
  | q :: r, h => by
    unfold lwf at h
    rw [Bool.and_eq_true, Bool.not_eq_true'] at h
    rw [List.filter_cons]
    split
    · unfold lwf
      rw [Bool.and_eq_true, Bool.not_eq_true']
      exact ⟨lin_filter h.1, lwf_filter h.2⟩
    · exact lwf_filter h.2
theorem lget_filter {p : Nat × am_V → Bool} {k : Nat} {u : am_V} : ∀ {l : am_Lc}, lwf l = true → (lget (l.filter p) k = some u ↔ lget l k = some u ∧ p (k, u) = true)
  | [], _ => by simp [lget]
  | (a, x) :: r, h => by
    unfold lwf at h
    rw [Bool.and_eq_true, Bool.not_eq_true'] at h
    have ih := lget_filter (p := p) (k := k) (u := u) h.2
    have hn := lget_lin h.1
    rw [List.filter_cons]
    by_cases hk : a = k
    · subst hk
      split
      · rename_i hp
        unfold lget
        rw [if_pos rfl, if_pos rfl]
        constructor
        · intro e
          cases e
          exact ⟨rfl, hp⟩
        · exact fun e => e.1
      · rename_i hp
        rw [ih, hn]
        unfold lget
        rw [if_pos rfl]
        constructor
        · intro e
          cases e.1
        · intro e
          obtain ⟨e1, e2⟩ := e
          cases e1
          exact absurd e2 hp
    · have h2 : lget ((a, x) :: r) k = lget r k := if_neg hk
      split
      · rw [h2]
        rw [show lget ((a, x) :: List.filter p r) k = lget (List.filter p r) k from if_neg hk]
        exact ih
      · rw [h2]
        exact ih
def lle (l0 l : am_Lc) : Prop := lwf l0 = true ∧ lwf l = true ∧ ∀ k v, lget l0 k = some v → lget l k = some v
theorem lle_put {l0 l : am_Lc} {p : Nat × am_V → Bool} {i : Nat} {v : am_V} (hp : ∀ u, p (i, u) = false) (h : lle l0 l) : lle ((i, v) :: l0.filter p) ((i, v) :: l.filter p) := by
  have hli : ∀ {l : am_Lc}, lwf l = true → lin i (l.filter p) = false := by
    intro l
    induction l with
    | nil => intro _; rfl
    | cons q r ih =>
      intro hl
      unfold lwf at hl
      rw [Bool.and_eq_true] at hl
      rw [List.filter_cons]
      split
      · rename_i hq
        unfold lin
        rw [Bool.or_eq_false_iff]
        refine ⟨?_, ih hl.2⟩
        by_cases e : q.1 = i
        · have := hp q.2
          rw [← e] at this
          exact absurd hq (by rw [show q = (q.1, q.2) from rfl, this]; exact Bool.false_ne_true)
        · simpa using e
      · exact ih hl.2
  refine ⟨?_, ?_, ?_⟩
  · unfold lwf
    rw [Bool.and_eq_true, Bool.not_eq_true']
    exact ⟨hli h.1, lwf_filter h.1⟩
  · unfold lwf
    rw [Bool.and_eq_true, Bool.not_eq_true']
    exact ⟨hli h.2.1, lwf_filter h.2.1⟩
  · intro k u hk
    by_cases e : i = k
    · subst e
      unfold lget at hk ⊢
      rw [if_pos rfl] at hk ⊢
      exact hk
    · rw [show lget ((i, v) :: l0.filter p) k = lget (l0.filter p) k from if_neg e, lget_filter h.1] at hk
      rw [show lget ((i, v) :: l.filter p) k = lget (l.filter p) k from if_neg e, lget_filter h.2.1]
      exact ⟨h.2.2 _ _ hk.1, hk.2⟩
theorem lle_set1 {l0 l : am_Lc} {i : Nat} {v : am_V} (h : lle l0 l) : lle (lset1 l0 i v) (lset1 l i v) := lle_put (by intro u; simp) h
theorem lle_set2 {l0 l : am_Lc} {i : Nat} {v : am_V} (h : lle l0 l) : lle (lset2 l0 i v) (lset2 l i v) := lle_put (by intro u; simp) h
def MM (l0 l : am_Lc) (f : am_Lc → Option (am_Lc × List am_V)) : Prop := ∀ l0' st', f l0 = some (l0', st') → ∃ l', f l = some (l', st') ∧ lle l0' l'
section MMS
variable {l0 l : am_Lc} {k : Nat} {st : List am_V}
theorem mm_ldI (h : lle l0 l) : MM l0 l (fun l => am_ldI l k st) := by
  intro l0' st' e
  dsimp only at e ⊢
  unfold am_ldI at e ⊢
  split at e
  · rename_i x hx
    cases e
    exact ⟨l, by rw [h.2.2 _ _ hx], h⟩
  · cases e
theorem mm_ldL (h : lle l0 l) : MM l0 l (fun l => am_ldL l k st) := by
  intro l0' st' e
  dsimp only at e ⊢
  unfold am_ldL at e ⊢
  split at e
  · rename_i x hx
    cases e
    exact ⟨l, by rw [h.2.2 _ _ hx], h⟩
  · cases e
theorem mm_ldR (h : lle l0 l) : MM l0 l (fun l => am_ldR l k st) := by
  intro l0' st' e
  dsimp only at e ⊢
  unfold am_ldR at e ⊢
  split at e
  · rename_i x hx
    cases e
    exact ⟨l, by rw [h.2.2 _ _ hx], h⟩
  · cases e
theorem mm_inc {n : Int} (h : lle l0 l) : MM l0 l (fun l => am_inc l k n st) := by
  intro l0' st' e
  dsimp only at e ⊢
  unfold am_inc at e ⊢
  split at e
  · rename_i x hx
    cases e
    exact ⟨_, by rw [h.2.2 _ _ hx], lle_set1 h⟩
  · cases e
theorem mm_stI (h : lle l0 l) : MM l0 l (fun l => am_stI l k st) := by
  intro l0' st' e
  dsimp only at e ⊢
  unfold am_stI at e ⊢
  split at e
  · cases e
    exact ⟨_, rfl, lle_set1 h⟩
  · cases e
theorem mm_stL (h : lle l0 l) : MM l0 l (fun l => am_stL l k st) := by
  intro l0' st' e
  dsimp only at e ⊢
  unfold am_stL at e ⊢
  split at e
  · cases e
    exact ⟨_, rfl, lle_set2 h⟩
  · cases e
theorem mm_stR (h : lle l0 l) : MM l0 l (fun l => am_stR l k st) := by
  intro l0' st' e
  dsimp only at e ⊢
  unfold am_stR at e ⊢
  split at e
  · cases e
    exact ⟨_, rfl, lle_set1 h⟩
  · cases e
theorem mm_bI {f : Int → Int → Int} (h : lle l0 l) : MM l0 l (fun l => am_bI f l st) := by
  intro l0' st' e
  dsimp only at e ⊢
  unfold am_bI at e ⊢
  split at e
  · cases e
    exact ⟨_, rfl, h⟩
  · cases e
theorem mm_bL {f : Int → Int → Int} (h : lle l0 l) : MM l0 l (fun l => am_bL f l st) := by
  intro l0' st' e
  dsimp only at e ⊢
  unfold am_bL at e ⊢
  split at e
  · cases e
    exact ⟨_, rfl, h⟩
  · cases e
theorem mm_dI {f : Int → Int → Int} (h : lle l0 l) : MM l0 l (fun l => am_dI f l st) := by
  intro l0' st' e
  dsimp only at e ⊢
  unfold am_dI at e ⊢
  split at e
  · split at e
    · cases e
    · rename_i hy
      cases e
      exact ⟨l, if_neg hy, h⟩
  · cases e
theorem mm_dL {f : Int → Int → Int} (h : lle l0 l) : MM l0 l (fun l => am_dL f l st) := by
  intro l0' st' e
  dsimp only at e ⊢
  unfold am_dL at e ⊢
  split at e
  · split at e
    · cases e
    · rename_i hy
      cases e
      exact ⟨l, if_neg hy, h⟩
  · cases e
theorem mm_cL (h : lle l0 l) : MM l0 l (fun l => am_cL l st) := by
  intro l0' st' e
  dsimp only at e ⊢
  unfold am_cL at e ⊢
  split at e
  · cases e
    exact ⟨_, rfl, h⟩
  · cases e
theorem mm_uI {f : Int → am_V} (h : lle l0 l) : MM l0 l (fun l => am_uI f l st) := by
  intro l0' st' e
  dsimp only at e ⊢
  unfold am_uI at e ⊢
  split at e
  · cases e
    exact ⟨_, rfl, h⟩
  · cases e
theorem mm_uL {f : Int → am_V} (h : lle l0 l) : MM l0 l (fun l => am_uL f l st) := by
  intro l0' st' e
  dsimp only at e ⊢
  unfold am_uL at e ⊢
  split at e
  · cases e
    exact ⟨_, rfl, h⟩
  · cases e
theorem mm_dup (h : lle l0 l) : MM l0 l (fun l => am_dup l st) := by
  intro l0' st' e
  dsimp only at e ⊢
  unfold am_dup at e ⊢
  split at e
  · split at e
    · cases e
    · rename_i hy
      cases e
      exact ⟨l, if_neg hy, h⟩
  · cases e
theorem mm_dup2 (h : lle l0 l) : MM l0 l (fun l => am_dup2 l st) := by
  intro l0' st' e
  dsimp only at e ⊢
  unfold am_dup2 at e ⊢
  split at e
  · split at e
    · cases e
    · rename_i hy
      cases e
      exact ⟨l, if_neg hy, h⟩
  · cases e
theorem mm_pop (h : lle l0 l) : MM l0 l (fun l => am_pop l st) := by
  intro l0' st' e
  dsimp only at e ⊢
  unfold am_pop at e ⊢
  split at e
  · split at e
    · cases e
    · rename_i hy
      cases e
      exact ⟨l, if_neg hy, h⟩
  · cases e
end MMS
set_option maxHeartbeats 4000000 in
theorem am_ar_mono {i : Instr} {v : Int} {l0 l : am_Lc} {st : List am_V} (h : lle l0 l) : MM l0 l (fun l => am_ar i v l st) := by
  intro l0' st' e
  dsimp only at e ⊢
  unfold am_ar at e
  split at e
  all_goals first
    | (cases e; exact ⟨l, rfl, h⟩)
    | exact mm_ldI h _ _ e
    | exact mm_ldL h _ _ e
    | exact mm_ldR h _ _ e
    | exact mm_stI h _ _ e
    | exact mm_stL h _ _ e
    | exact mm_stR h _ _ e
    | exact mm_inc h _ _ e
    | exact mm_bI h _ _ e
    | exact mm_dI h _ _ e
    | exact mm_bL h _ _ e
    | exact mm_dL h _ _ e
    | exact mm_cL h _ _ e
    | exact mm_uI h _ _ e
    | exact mm_uL h _ _ e
    | exact mm_dup h _ _ e
    | exact mm_dup2 h _ _ e
    | exact mm_pop h _ _ e
    | cases e
set_option maxHeartbeats 4000000 in
theorem am_ar_excl {i : Instr} {v : Int} {l : am_Lc} {st : List am_V} {q : am_Lc × List am_V} (h : am_ar i v l st = some q) (ops : List Nat) (σ : am_S) : am_me i ops st σ = none ∧ am_ct i ops st = none ∧ am_ca i ops v st σ = none ∧ am_rt i ops st = none := by
  unfold am_ar at h
  split at h
  all_goals first
    | exact ⟨rfl, rfl, rfl, rfl⟩
    | cases h
set_option maxHeartbeats 1000000 in
theorem am_run_wk (P : Nat → List (List am_I)) : ∀ (n : Nat) (bs : List (List am_I)) (is : List am_I) (l0 l : am_Lc) (st : List am_V) (σ : am_S) (o : Option am_V × am_S), lle l0 l → am_run P n bs is l0 st σ = some o → am_run P n bs is l st σ = some o := by
  intro n
  induction n with
  | zero => intro bs is l0 l st σ o _ h; simp [am_run] at h
  | succ n ih =>
    intro bs is l0 l st σ o hle h
    cases is with
    | nil => simp [am_run] at h
    | cons i is =>
      obtain ⟨i, ops, v⟩ := i
      rw [am_run] at h ⊢
      cases h1 : am_ar i v l0 st with
      | some q =>
        obtain ⟨l0', st'⟩ := q
        obtain ⟨l', e1, e2⟩ := am_ar_mono hle _ _ h1
        have e1 : am_ar i v l st = some (l', st') := e1
        rw [h1] at h
        rw [e1]
        exact ih _ _ _ _ _ _ _ e2 h
      | none =>
        rw [h1] at h
        dsimp only at h
        cases h0 : am_ar i v l st with
        | some q =>
          obtain ⟨x1, x2, x3, x4⟩ := am_ar_excl h0 ops σ
          rw [x1] at h
          dsimp only at h
          rw [x2] at h
          dsimp only at h
          rw [x3] at h
          dsimp only at h
          rw [x4] at h
          cases h
        | none =>
          dsimp only
          cases h2 : am_me i ops st σ with
          | some q => rw [h2] at h; exact ih _ _ _ _ _ _ _ hle h
          | none =>
            rw [h2] at h
            dsimp only at h ⊢
            cases h3 : am_ct i ops st with
            | some q =>
              obtain ⟨b, st'⟩ := q
              rw [h3] at h
              cases b with
              | some b => exact ih _ _ _ _ _ _ _ hle h
              | none => exact ih _ _ _ _ _ _ _ hle h
            | none =>
              rw [h3] at h
              dsimp only at h ⊢
              cases h4 : am_ca i ops v st σ with
              | some q =>
                obtain ⟨m, as, st'⟩ := q
                rw [h4] at h
                dsimp only at h ⊢
                cases h5 : am_run P n (P m) ((P m).getD 0 []) (am_args 0 as) [] σ with
                | none => rw [h5] at h; cases h
                | some r =>
                  obtain ⟨r, σ'⟩ := r
                  rw [h5] at h
                  exact ih _ _ _ _ _ _ _ hle h
              | none =>
                rw [h4] at h
                exact h
/-- it comes to an end, with Q -/
def TT (bs : List (List am_I)) (is : List am_I) (l : am_Lc) (st : List am_V) (σ : am_S) (Q : Option am_V → am_S → Prop) : Prop := ∃ n r σ', am_run am_P n bs is l st σ = some (r, σ') ∧ Q r σ'
/-- a call comes to an end, with Q -/
def CC (m : Nat) (as : List am_V) (σ : am_S) (Q : Option am_V → am_S → Prop) : Prop := TT (am_P m) ((am_P m).getD 0 []) (am_args 0 as) [] σ Q
/-- a call that changes nothing, and its value; one that answers a question -/
abbrev CP (m : Nat) (as : List am_V) (σ : am_S) (v : am_V) : Prop := CC m as σ (fun r σ' => r = some v ∧ σ' = σ)
abbrev CB (m : Nat) (as : List am_V) (σ : am_S) (c : Prop) : Prop := CC m as σ (fun r σ' => σ' = σ ∧ ((c ∧ r = some (vI 1)) ∨ (¬ c ∧ r = some (vI 0))))
def lsub : am_Lc → am_Lc → Prop
  | [], _ => True
  | q :: r, l => lget l q.1 = some q.2 ∧ lsub r l
theorem lsub_get {l : am_Lc} : ∀ {l0 : am_Lc}, lsub l0 l → ∀ k v, lget l0 k = some v → lget l k = some v
  | [], _, k, v, h => by cases h
  | q :: r, hs, k, v, h => by
    unfold lget at h
    split at h
    · rename_i e
      cases h
      rw [← e]
      exact hs.1
    · exact lsub_get hs.2 k v h
theorem lv_to {l : am_Lc} {k : Nat} {e e' : Int} (h : lget l k = some (vI e)) (he : e = e') : lget l k = some (vI e') := he ▸ h
theorem lv_toL {l : am_Lc} {k : Nat} {e e' : Int} (h : lget l k = some (vL e)) (he : e = e') : lget l k = some (vL e') := he ▸ h
theorem am_cond_eq {x y : Int} : am_cond .eq x y = true ↔ x = y := am_condI
section ROWS
variable {bs : List (List am_I)} {is : List am_I} {l : am_Lc} {st : List am_V} {σ : am_S} {Q : Option am_V → am_S → Prop} {ops : List Nat} {v : Int}
theorem TT.imp {Q' : Option am_V → am_S → Prop} (h : TT bs is l st σ Q) (hQ : ∀ r σ', Q r σ' → Q' r σ') : TT bs is l st σ Q' := by
  obtain ⟨n, r, s, h1, h2⟩ := h
  exact ⟨n, r, s, h1, hQ _ _ h2⟩
theorem CC.imp {m : Nat} {as : List am_V} {Q' : Option am_V → am_S → Prop} (h : CC m as σ Q) (hQ : ∀ r σ', Q r σ' → Q' r σ') : CC m as σ Q' := TT.imp h hQ
theorem tt_wk {l0 : am_Lc} (h : lle l0 l) (K : TT bs is l0 st σ Q) : TT bs is l st σ Q := by
  obtain ⟨n, r, s, h1, h2⟩ := K
  exact ⟨n, r, s, am_run_wk _ _ _ _ _ _ _ _ _ h h1, h2⟩
theorem tt_loc (l0 : am_Lc) (h0 : lwf l0 = true) (h1 : lwf l = true) (hs : lsub l0 l) (K : TT bs is l0 st σ Q) : TT bs is l st σ Q := tt_wk ⟨h0, h1, lsub_get hs⟩ K
theorem tt_ar {i : Instr} {l' : am_Lc} {st' : List am_V} (h : am_ar i v l st = some (l', st')) (K : TT bs is l' st' σ Q) : TT bs ((i, ops, v) :: is) l st σ Q := by
  obtain ⟨n, r, s, h1, h2⟩ := K
  exact ⟨n + 1, r, s, by rw [am_run, h]; exact h1, h2⟩
theorem tt_me {i : Instr} {st' : List am_V} {σ' : am_S} (h : am_ar i v l st = none) (hm : am_me i ops st σ = some (st', σ')) (K : TT bs is l st' σ' Q) : TT bs ((i, ops, v) :: is) l st σ Q := by
  obtain ⟨n, r, s, h1, h2⟩ := K
  refine ⟨n + 1, r, s, ?_, h2⟩
  rw [am_run, h]
  dsimp only
  rw [hm]
  exact h1
theorem tt_ctN {i : Instr} {st' : List am_V} (h : am_ar i v l st = none) (hm : am_me i ops st σ = none) (hc : am_ct i ops st = some (none, st')) (K : TT bs is l st' σ Q) : TT bs ((i, ops, v) :: is) l st σ Q := by
  obtain ⟨n, r, s, h1, h2⟩ := K
  refine ⟨n + 1, r, s, ?_, h2⟩
  rw [am_run, h]
  dsimp only
  rw [hm]
  dsimp only
  rw [hc]
  exact h1
theorem tt_ctJ {i : Instr} {b : Nat} {st' : List am_V} (h : am_ar i v l st = none) (hm : am_me i ops st σ = none) (hc : am_ct i ops st = some (some b, st')) (K : TT bs (bs.getD b []) l st' σ Q) : TT bs ((i, ops, v) :: is) l st σ Q := by
  obtain ⟨n, r, s, h1, h2⟩ := K
  refine ⟨n + 1, r, s, ?_, h2⟩
  rw [am_run, h]
  dsimp only
  rw [hm]
  dsimp only
  rw [hc]
  exact h1
theorem tt_call {i : Instr} {m : Nat} {as st' : List am_V} {Q1 : Option am_V → am_S → Prop} (h : am_ar i v l st = none) (hm : am_me i ops st σ = none) (hc : am_ct i ops st = none) (ha : am_ca i ops v st σ = some (m, as, st')) (C : CC m as σ Q1) (K : ∀ r σ1, Q1 r σ1 → TT bs is l (r.toList ++ st') σ1 Q) : TT bs ((i, ops, v) :: is) l st σ Q := by
  obtain ⟨n1, r1, s1, h1, h2⟩ := C
  obtain ⟨n2, r2, s2, h3, h4⟩ := K r1 s1 h2
  refine ⟨n1 + n2 + 1, r2, s2, ?_, h4⟩
  rw [am_run, h]
  dsimp only
  rw [hm]
  dsimp only
  rw [hc]
  dsimp only
  rw [ha]
  dsimp only
  rw [am_run_le am_P (Nat.le_add_right n1 n2) h1]
  exact am_run_le am_P (Nat.le_add_left n2 n1) h3
theorem tt_rt {i : Instr} {r : Option am_V} (h : am_ar i v l st = none) (hm : am_me i ops st σ = none) (hc : am_ct i ops st = none) (ha : am_ca i ops v st σ = none) (hr : am_rt i ops st = some r) (K : Q r σ) : TT bs ((i, ops, v) :: is) l st σ Q := by
  refine ⟨1, r, σ, ?_, K⟩
  rw [am_run, h]
  dsimp only
  rw [hm]
  dsimp only
  rw [hc]
  dsimp only
  rw [ha]
  dsimp only
  rw [hr]
theorem tt_st {σ2 : am_S} (h : σ2 = σ) (K : TT bs is l st σ Q) : TT bs is l st σ2 Q := h ▸ K
/-! cells -/
theorem tt_getI {f a c k : Nat} {x : Int} (hO : am_isO σ a c = true) (hT : am_fty c k = .int) (hx : σ.1 a k = x) (K : TT bs is l (vI x :: st) σ Q) : TT bs ((.getfield f, [c, k], v) :: is) l (vR a :: st) σ Q := by
  subst hx
  refine tt_me rfl ?_ K
  show am_getf c k (vR a :: st) σ = _
  unfold am_getf
  dsimp only
  rw [if_pos hO, hT]
  rfl
theorem tt_getZ {f a c k : Nat} {x : Int} (hO : am_isO σ a c = true) (hT : am_fty c k = .boolean) (hx : σ.1 a k = x) (K : TT bs is l (vI x :: st) σ Q) : TT bs ((.getfield f, [c, k], v) :: is) l (vR a :: st) σ Q := by
  subst hx
  refine tt_me rfl ?_ K
  show am_getf c k (vR a :: st) σ = _
  unfold am_getf
  dsimp only
  rw [if_pos hO, hT]
  rfl
theorem tt_getL {f a c k : Nat} {x : Int} (hO : am_isO σ a c = true) (hT : am_fty c k = .long) (hx : σ.1 a k = x) (K : TT bs is l (vL x :: st) σ Q) : TT bs ((.getfield f, [c, k], v) :: is) l (vR a :: st) σ Q := by
  subst hx
  refine tt_me rfl ?_ K
  show am_getf c k (vR a :: st) σ = _
  unfold am_getf
  dsimp only
  rw [if_pos hO, hT]
  rfl
theorem tt_getR {f a c k b : Nat} (hO : am_isO σ a c = true) (hT : am_gv (am_fty c k) a k σ = vO (σ.2.1 a k)) (hx : σ.2.1 a k = some b) (K : TT bs is l (vR b :: st) σ Q) : TT bs ((.getfield f, [c, k], v) :: is) l (vR a :: st) σ Q := by
  refine tt_me rfl ?_ K
  show am_getf c k (vR a :: st) σ = _
  unfold am_getf
  dsimp only
  rw [if_pos hO, hT, hx]
theorem tt_putI {f a c k : Nat} {x : Int} (hO : am_isO σ a c = true) (hT : am_fty c k = .int) (K : TT bs is l st (am_set σ a k x) Q) : TT bs ((.putfield f, [c, k], v) :: is) l (vI x :: vR a :: st) σ Q := by
  refine tt_me rfl ?_ K
  show am_putf c k (vI x :: vR a :: st) σ = _
  unfold am_putf
  dsimp only
  rw [if_pos hO, hT]
  rfl
theorem tt_putZ {f a c k : Nat} {x : Int} (hO : am_isO σ a c = true) (hT : am_fty c k = .boolean) (hx : x = 0 ∨ x = 1) (K : TT bs is l st (am_set σ a k x) Q) : TT bs ((.putfield f, [c, k], v) :: is) l (vI x :: vR a :: st) σ Q := by
  refine tt_me rfl ?_ K
  show am_putf c k (vI x :: vR a :: st) σ = _
  unfold am_putf
  dsimp only
  rw [if_pos hO, hT]
  show Option.map _ (if x = 0 ∨ x = 1 then _ else none) = _
  rw [if_pos hx]
  rfl
theorem tt_putL {f a c k : Nat} {x : Int} (hO : am_isO σ a c = true) (hT : am_fty c k = .long) (K : TT bs is l st (am_set σ a k x) Q) : TT bs ((.putfield f, [c, k], v) :: is) l (vL x :: vR a :: st) σ Q := by
  refine tt_me rfl ?_ K
  show am_putf c k (vL x :: vR a :: st) σ = _
  unfold am_putf
  dsimp only
  rw [if_pos hO, hT]
  rfl
theorem tt_putR {f a c k b : Nat} (hO : am_isO σ a c = true) (hT : am_pv (am_fty c k) a k (vR b) σ = some (am_setR σ a k (some b))) (K : TT bs is l st (am_setR σ a k (some b)) Q) : TT bs ((.putfield f, [c, k], v) :: is) l (vR b :: vR a :: st) σ Q := by
  refine tt_me rfl ?_ K
  show am_putf c k (vR b :: vR a :: st) σ = _
  unfold am_putf
  dsimp only
  rw [if_pos hO, hT]
  rfl
theorem tt_gets {f : Nat} (K : TT bs is l (vR 0 :: st) σ Q) : TT bs ((.getstatic f, ops, v) :: is) l st σ Q := tt_me rfl rfl K
theorem am_aget_at {t : FieldType} {a n j : Nat} {i : Int} (hA : σ.2.2.1[a]? = some (.inl t, n)) (hi : i = (j : Int)) (hj : j < n) : am_aget t (vI i :: vR a :: st) σ = some (am_gv t a j σ :: st, σ) := by
  subst hi
  unfold am_aget
  dsimp only
  rw [hA]
  dsimp only
  rw [if_pos ⟨rfl, by omega, by omega⟩]
  rfl
theorem am_aput_at {t : FieldType} {g : Int → Int} {a n j : Nat} {i x : Int} (hA : σ.2.2.1[a]? = some (.inl t, n)) (ha : 2 ≤ a) (hi : i = (j : Int)) (hj : j < n) : am_aput t g (vI x :: vI i :: vR a :: st) σ = some (st, am_set σ a j (g x)) := by
  subst hi
  unfold am_aput
  dsimp only
  rw [hA]
  dsimp only
  rw [if_pos ⟨rfl, by omega, by omega, ha⟩]
  rfl
theorem tt_iald {a n : Nat} (j : Nat) {i x : Int} (hA : σ.2.2.1[a]? = some (.inl .int, n)) (hi : i = (j : Int)) (hj : j < n) (hx : σ.1 a j = x) (K : TT bs is l (vI x :: st) σ Q) : TT bs ((.iaload, ops, v) :: is) l (vI i :: vR a :: st) σ Q := by
  subst hx
  exact tt_me rfl (am_aget_at hA hi hj) K
theorem tt_lald {a n : Nat} (j : Nat) {i x : Int} (hA : σ.2.2.1[a]? = some (.inl .long, n)) (hi : i = (j : Int)) (hj : j < n) (hx : σ.1 a j = x) (K : TT bs is l (vL x :: st) σ Q) : TT bs ((.laload, ops, v) :: is) l (vI i :: vR a :: st) σ Q := by
  subst hx
  exact tt_me rfl (am_aget_at hA hi hj) K
theorem tt_baldB {a n : Nat} (j : Nat) {i x : Int} (hA : σ.2.2.1[a]? = some (.inl .byte, n)) (hi : i = (j : Int)) (hj : j < n) (hx : σ.1 a j = x) (K : TT bs is l (vI x :: st) σ Q) : TT bs ((.baload, ops, v) :: is) l (vI i :: vR a :: st) σ Q := by
  subst hx
  refine tt_me rfl ?_ K
  show am_bget (vI i :: vR a :: st) σ = _
  unfold am_bget
  rw [am_aget_at hA hi hj]
  rfl
theorem tt_baldZ {a n : Nat} (j : Nat) {i x : Int} (hA : σ.2.2.1[a]? = some (.inl .boolean, n)) (hi : i = (j : Int)) (hj : j < n) (hx : σ.1 a j = x) (K : TT bs is l (vI x :: st) σ Q) : TT bs ((.baload, ops, v) :: is) l (vI i :: vR a :: st) σ Q := by
  subst hx
  refine tt_me rfl ?_ K
  show am_bget (vI i :: vR a :: st) σ = _
  unfold am_bget
  rw [show am_aget .byte (vI i :: vR a :: st) σ = none by
    unfold am_aget
    dsimp only
    rw [hA]
    dsimp only
    rw [if_neg (fun h => by cases h.1)], am_aget_at hA hi hj]
  rfl
theorem tt_aald {a n b : Nat} (j : Nat) {i : Int} (hA : σ.2.2.1[a]? = some (.inl am_strip, n)) (hi : i = (j : Int)) (hj : j < n) (hx : σ.2.1 a j = some b) (K : TT bs is l (vR b :: st) σ Q) : TT bs ((.aaload, ops, v) :: is) l (vI i :: vR a :: st) σ Q := by
  refine tt_me rfl ?_ K
  show am_aget am_strip (vI i :: vR a :: st) σ = _
  rw [am_aget_at hA hi hj]
  show some (vO (σ.2.1 a j) :: st, σ) = _
  rw [hx]
theorem tt_iast {a n : Nat} (j : Nat) {i x : Int} (hA : σ.2.2.1[a]? = some (.inl .int, n)) (ha : 2 ≤ a) (hi : i = (j : Int)) (hj : j < n) (K : TT bs is l st (am_set σ a j x) Q) : TT bs ((.iastore, ops, v) :: is) l (vI x :: vI i :: vR a :: st) σ Q := tt_me rfl (am_aput_at (g := fun x => x) hA ha hi hj) K
theorem tt_last {a n : Nat} (j : Nat) {i x : Int} (hA : σ.2.2.1[a]? = some (.inl .long, n)) (ha : 2 ≤ a) (hi : i = (j : Int)) (hj : j < n) (K : TT bs is l st (am_set σ a j x) Q) : TT bs ((.lastore, ops, v) :: is) l (vL x :: vI i :: vR a :: st) σ Q := by
  refine tt_me rfl ?_ K
  subst hi
  show am_aputL (vL x :: vI (j : Int) :: vR a :: st) σ = _
  unfold am_aputL
  dsimp only
  rw [hA]
  dsimp only
  rw [if_pos ⟨rfl, by omega, by omega, ha⟩]
  rfl
theorem tt_bastB {a n : Nat} (j : Nat) {i x : Int} (hA : σ.2.2.1[a]? = some (.inl .byte, n)) (ha : 2 ≤ a) (hi : i = (j : Int)) (hj : j < n) (K : TT bs is l st (am_set σ a j (w8 x)) Q) : TT bs ((.bastore, ops, v) :: is) l (vI x :: vI i :: vR a :: st) σ Q := by
  refine tt_me rfl ?_ K
  show am_bput (vI x :: vI i :: vR a :: st) σ = _
  unfold am_bput
  rw [am_aput_at hA ha hi hj]
  rfl
theorem tt_bastZ {a n : Nat} (j : Nat) {i x : Int} (hA : σ.2.2.1[a]? = some (.inl .boolean, n)) (ha : 2 ≤ a) (hi : i = (j : Int)) (hj : j < n) (K : TT bs is l st (am_set σ a j (x % 2)) Q) : TT bs ((.bastore, ops, v) :: is) l (vI x :: vI i :: vR a :: st) σ Q := by
  refine tt_me rfl ?_ K
  show am_bput (vI x :: vI i :: vR a :: st) σ = _
  unfold am_bput
  rw [show am_aput .byte w8 (vI x :: vI i :: vR a :: st) σ = none by
    unfold am_aput
    dsimp only
    rw [hA]
    dsimp only
    rw [if_neg (fun h => by cases h.1)], am_aput_at (g := fun x => x % 2) hA ha hi hj]
  rfl
theorem tt_aast {a n b : Nat} (j : Nat) {i : Int} {nb : Nat} (hA : σ.2.2.1[a]? = some (.inl am_strip, n)) (hB : σ.2.2.1[b]? = some (.inr 6, nb)) (ha : 2 ≤ a) (hb : 2 ≤ b) (hi : i = (j : Int)) (hj : j < n) (K : TT bs is l st (am_setR σ a j (some b)) Q) : TT bs ((.aastore, ops, v) :: is) l (vR b :: vI i :: vR a :: st) σ Q := by
  refine tt_me rfl ?_ K
  subst hi
  show am_aputR (vR b :: vI (j : Int) :: vR a :: st) σ = _
  unfold am_aputR
  dsimp only
  rw [hA, hB]
  show (if am_strip = am_strip ∧ _ ∧ _ ∧ _ ∧ _ then _ else _) = _
  rw [if_pos ⟨rfl, by omega, by omega, ha, hb⟩]
  rfl
theorem tt_alen {a n : Nat} {t : FieldType} (hA : σ.2.2.1[a]? = some (.inl t, n)) (hn : Nat.blt n 1000000 = true) (K : TT bs is l (vI (n : Int) :: st) σ Q) : TT bs ((.arraylength, ops, v) :: is) l (vR a :: st) σ Q := by
  refine tt_me rfl ?_ K
  show am_alen (vR a :: st) σ = _
  unfold am_alen
  dsimp only
  rw [hA]
  dsimp only
  have : n < 1000000 := by simpa using hn
  rw [if_pos (by omega)]
theorem tt_newa {t : ArrayType} {n : Int} (h0 : 0 ≤ n) (h1 : n ≤ 1000000) (K : TT bs is l (vR σ.2.2.1.length :: st) (am_new σ (.inl (am_newT t), n.toNat)) Q) : TT bs ((.newarray t, ops, v) :: is) l (vI n :: st) σ Q := by
  refine tt_me rfl ?_ K
  show am_newa (am_newT t) (vI n :: st) σ = _
  unfold am_newa
  dsimp only
  rw [if_pos ⟨h0, h1⟩]
theorem tt_newq {f : Nat} {n : Int} (h0 : 0 ≤ n) (h1 : n ≤ 1000000) (K : TT bs is l (vR σ.2.2.1.length :: st) (am_new σ (.inl am_strip, n.toNat)) Q) : TT bs ((.anewarray f, ops, v) :: is) l (vI n :: st) σ Q := by
  refine tt_me rfl ?_ K
  show am_newa am_strip (vI n :: st) σ = _
  unfold am_newa
  dsimp only
  rw [if_pos ⟨h0, h1⟩]
theorem tt_new {f c : Nat} (hc : c < 11) (K : TT bs is l (vR σ.2.2.1.length :: st) (am_new σ (.inr c, am_cN c)) Q) : TT bs ((.new f, [c], v) :: is) l st σ Q := by
  refine tt_me rfl ?_ K
  show am_newo c st σ = _
  unfold am_newo
  rw [if_pos hc]
theorem tt_objinit {f a : Nat} (h8 : Nat.ble (st.map am_cat).sum 8 = true) (K : TT bs is l st σ Q) : TT bs ((.invokespecial f, [], v) :: is) l (vR a :: st) σ Q := by
  refine tt_me rfl ?_ K
  show am_initO (vR a :: st) σ = _
  unfold am_initO
  dsimp only
  rw [if_pos (Nat.le_of_ble_eq_true h8)]
theorem tt_acopy {f a b n0 n1 sp dp n : Nat} {isp idp inn : Int} (hA : σ.2.2.1[a]? = some (.inl .int, n0)) (hB : σ.2.2.1[b]? = some (.inl .int, n1)) (e1 : isp = (sp : Int)) (e2 : idp = (dp : Int)) (e3 : inn = (n : Int)) (h1 : sp + n ≤ n0) (h2 : dp + n ≤ n1) (ha : 2 ≤ a) (hb : 2 ≤ b) (h8 : Nat.ble (st.map am_cat).sum 8 = true) (K : TT bs is l st (am_cpy σ a sp b dp n) Q) : TT bs ((.invokestatic f, [], v) :: is) l (vI inn :: vI idp :: vR b :: vI isp :: vR a :: st) σ Q := by
  refine tt_me rfl ?_ K
  subst e1 e2 e3
  show am_acopy (vI (n : Int) :: vI (dp : Int) :: vR b :: vI (sp : Int) :: vR a :: st) σ = _
  unfold am_acopy
  dsimp only
  rw [hA, hB]
  dsimp only
  rw [if_pos ⟨rfl, rfl, by omega, by omega, by omega, by omega, by omega, ha, hb, Nat.le_of_ble_eq_true h8⟩]
  rfl
theorem tt_max {f : Nat} {x y z : Int} (h8 : Nat.ble (st.map am_cat).sum 8 = true) (hz : (if x < y then y else x) = z) (K : TT bs is l (vI z :: st) σ Q) : TT bs ((.invokestatic f, [0], v) :: is) l (vI y :: vI x :: st) σ Q := by
  subst hz
  refine tt_me rfl ?_ K
  show (if (st.map am_cat).sum ≤ 8 then some (vI (if x < y then y else x) :: st, σ) else none) = _
  rw [if_pos (Nat.le_of_ble_eq_true h8)]
theorem tt_min {f : Nat} {x y z : Int} (h8 : Nat.ble (st.map am_cat).sum 8 = true) (hz : (if y < x then y else x) = z) (K : TT bs is l (vI z :: st) σ Q) : TT bs ((.invokestatic f, [1], v) :: is) l (vI y :: vI x :: st) σ Q := by
  subst hz
  refine tt_me rfl ?_ K
  show (if (st.map am_cat).sum ≤ 8 then some (vI (if y < x then y else x) :: st, σ) else none) = _
  rw [if_pos (Nat.le_of_ble_eq_true h8)]
theorem tt_lmin {f : Nat} {x y z : Int} (h8 : Nat.ble (st.map am_cat).sum 8 = true) (hz : (if y < x then y else x) = z) (K : TT bs is l (vL z :: st) σ Q) : TT bs ((.invokestatic f, [2], v) :: is) l (vL y :: vL x :: st) σ Q := by
  subst hz
  refine tt_me rfl ?_ K
  show (if (st.map am_cat).sum ≤ 8 then some (vL (if y < x then y else x) :: st, σ) else none) = _
  rw [if_pos (Nat.le_of_ble_eq_true h8)]
/-! numbers: sums that fit -/
theorem w32_i {x : Int} (h0 : -2147483648 ≤ x) (h1 : x ≤ 2147483647) : w32 x = x := by
  unfold w32
  rw [Int.bmod_def]
  split <;> omega
theorem w64_i {x : Int} (h0 : -9223372036854775808 ≤ x) (h1 : x ≤ 9223372036854775807) : w64 x = x := by
  unfold w64
  rw [Int.bmod_def]
  split <;> omega
theorem w8_i {x : Int} (h0 : -128 ≤ x) (h1 : x ≤ 127) : w8 x = x := by
  unfold w8
  rw [Int.bmod_def]
  split <;> omega
theorem tt_iadd {x y : Int} (h0 : -2147483648 ≤ x + y) (h1 : x + y ≤ 2147483647) (K : TT bs is l (vI (x + y) :: st) σ Q) : TT bs ((.iadd, ops, v) :: is) l (vI y :: vI x :: st) σ Q := by
  refine tt_ar (l' := l) (st' := vI (x + y) :: st) ?_ K
  show some (l, vI (w32 (x + y)) :: st) = _
  rw [w32_i h0 h1]
theorem tt_isub {x y : Int} (h0 : -2147483648 ≤ x - y) (h1 : x - y ≤ 2147483647) (K : TT bs is l (vI (x - y) :: st) σ Q) : TT bs ((.isub, ops, v) :: is) l (vI y :: vI x :: st) σ Q := by
  refine tt_ar (l' := l) (st' := vI (x - y) :: st) ?_ K
  show some (l, vI (w32 (x - y)) :: st) = _
  rw [w32_i h0 h1]
theorem tt_imul {x y : Int} (h0 : -2147483648 ≤ x * y) (h1 : x * y ≤ 2147483647) (K : TT bs is l (vI (x * y) :: st) σ Q) : TT bs ((.imul, ops, v) :: is) l (vI y :: vI x :: st) σ Q := by
  refine tt_ar (l' := l) (st' := vI (x * y) :: st) ?_ K
  show some (l, vI (w32 (x * y)) :: st) = _
  rw [w32_i h0 h1]
/-- an int operation, its value named -/
theorem tt_bI {i : Instr} {g : Int → Int → Int} {x y z : Int} (hi : am_ar i v l (vI y :: vI x :: st) = am_bI g l (vI y :: vI x :: st)) (hz : g x y = z) (K : TT bs is l (vI z :: st) σ Q) : TT bs ((i, ops, v) :: is) l (vI y :: vI x :: st) σ Q := by
  subst hz
  exact tt_ar hi K
theorem tt_dI {i : Instr} {g : Int → Int → Int} {x y z : Int} (hi : am_ar i v l (vI y :: vI x :: st) = am_dI g l (vI y :: vI x :: st)) (hy : y ≠ 0) (hz : g x y = z) (K : TT bs is l (vI z :: st) σ Q) : TT bs ((i, ops, v) :: is) l (vI y :: vI x :: st) σ Q := by
  subst hz
  exact tt_ar (hi.trans (if_neg hy)) K
theorem tt_bL {i : Instr} {g : Int → Int → Int} {x y z : Int} (hi : am_ar i v l (vL y :: vL x :: st) = am_bL g l (vL y :: vL x :: st)) (hz : g x y = z) (K : TT bs is l (vL z :: st) σ Q) : TT bs ((i, ops, v) :: is) l (vL y :: vL x :: st) σ Q := by
  subst hz
  exact tt_ar hi K
theorem tt_dL {i : Instr} {g : Int → Int → Int} {x y z : Int} (hi : am_ar i v l (vL y :: vL x :: st) = am_dL g l (vL y :: vL x :: st)) (hy : y ≠ 0) (hz : g x y = z) (K : TT bs is l (vL z :: st) σ Q) : TT bs ((i, ops, v) :: is) l (vL y :: vL x :: st) σ Q := by
  subst hz
  exact tt_ar (hi.trans (if_neg hy)) K
theorem tt_iinc {k : Nat} {n x y : Int} (hk : lget l k = some (vI x)) (hy : w32 (x + n) = y) (K : TT bs is (lset1 l k (vI y)) st σ Q) : TT bs ((.iinc k n, ops, v) :: is) l st σ Q := by
  subst hy
  refine tt_ar ?_ K
  show am_inc l k n st = _
  unfold am_inc
  rw [hk]
theorem iinc_fit {x n y : Int} (h : x + n = y) (h0 : -2147483648 ≤ y) (h1 : y ≤ 2147483647) : w32 (x + n) = y := by
  subst h
  exact w32_i h0 h1
theorem tt_lcmp {x y : Int} (K1 : x < y → TT bs is l (vI (-1) :: st) σ Q) (K2 : x = y → TT bs is l (vI 0 :: st) σ Q) (K3 : y < x → TT bs is l (vI 1 :: st) σ Q) : TT bs ((.lcmp, ops, v) :: is) l (vL y :: vL x :: st) σ Q := by
  have hc : ∀ z, a_cmp x y = z → TT bs is l (vI z :: st) σ Q → TT bs ((.lcmp, ops, v) :: is) l (vL y :: vL x :: st) σ Q := by
    intro z hz K
    subst hz
    exact tt_ar rfl K
  by_cases h1 : y < x
  · exact hc 1 (if_pos h1) (K3 h1)
  · by_cases h2 : x = y
    · exact hc 0 (by unfold a_cmp; rw [if_neg h1, if_pos h2]) (K2 h2)
    · exact hc (-1) (by unfold a_cmp; rw [if_neg h1, if_neg h2]) (K1 (by omega))
/-! jumps -/
theorem tt_goto {o : Int} {b : Nat} (K : TT bs (bs.getD b []) l st σ Q) : TT bs ((.goto o, [b], v) :: is) l st σ Q := tt_ctJ rfl rfl rfl K
theorem tt_nop {b : Nat} (K : TT bs (bs.getD b []) l st σ Q) : TT bs ((.nop, [b], v) :: is) l st σ Q := tt_ctJ rfl rfl rfl K
theorem tt_if {c : Jvm.ClassFile.Cond} {o : Int} {b : Nat} {x : Int} (K1 : am_cond c x 0 = true → TT bs (bs.getD b []) l st σ Q) (K2 : am_cond c x 0 = false → TT bs is l st σ Q) : TT bs ((.ifCond c o, [b], v) :: is) l (vI x :: st) σ Q := by
  cases h : am_cond c x 0 with
  | true => exact tt_ctJ rfl rfl (show some ((if am_cond c x 0 then some b else none), st) = some (some b, st) by rw [h]; rfl) (K1 h)
  | false => exact tt_ctN rfl rfl (show some ((if am_cond c x 0 then some b else none), st) = some (none, st) by rw [h]; rfl) (K2 h)
theorem tt_ic {c : Jvm.ClassFile.Cond} {o : Int} {b : Nat} {x y : Int} (K1 : am_cond c x y = true → TT bs (bs.getD b []) l st σ Q) (K2 : am_cond c x y = false → TT bs is l st σ Q) : TT bs ((.if_icmp c o, [b], v) :: is) l (vI y :: vI x :: st) σ Q := by
  cases h : am_cond c x y with
  | true => exact tt_ctJ rfl rfl (show some ((if am_cond c x y then some b else none), st) = some (some b, st) by rw [h]; rfl) (K1 h)
  | false => exact tt_ctN rfl rfl (show some ((if am_cond c x y then some b else none), st) = some (none, st) by rw [h]; rfl) (K2 h)

theorem tt_iceq {o : Int} {b : Nat} {x y : Int} (K1 : x = y → TT bs (bs.getD b []) l st σ Q) (K2 : ¬ x = y → TT bs is l st σ Q) : TT bs ((.if_icmp .eq o, [b], v) :: is) l (vI y :: vI x :: st) σ Q :=
  tt_ic (fun h => K1 (of_decide_eq_true h)) (fun h => K2 (by have := of_decide_eq_false h; omega))
theorem tt_ifeq {o : Int} {b : Nat} {x : Int} (K1 : x = 0 → TT bs (bs.getD b []) l st σ Q) (K2 : ¬ x = 0 → TT bs is l st σ Q) : TT bs ((.ifCond .eq o, [b], v) :: is) l (vI x :: st) σ Q :=
  tt_if (fun h => K1 (of_decide_eq_true h)) (fun h => K2 (by have := of_decide_eq_false h; omega))
theorem tt_ifeqT {o : Int} {b : Nat} {x : Int} (h : x = 0) (K : TT bs (bs.getD b []) l st σ Q) : TT bs ((.ifCond .eq o, [b], v) :: is) l (vI x :: st) σ Q :=
  tt_ifeq (fun _ => K) (fun h' => absurd h (by omega))
theorem tt_ifeqF {o : Int} {b : Nat} {x : Int} (h : ¬ x = 0) (K : TT bs is l st σ Q) : TT bs ((.ifCond .eq o, [b], v) :: is) l (vI x :: st) σ Q :=
  tt_ifeq (fun h' => absurd h (by omega)) (fun _ => K)
theorem tt_icne {o : Int} {b : Nat} {x y : Int} (K1 : ¬ x = y → TT bs (bs.getD b []) l st σ Q) (K2 : x = y → TT bs is l st σ Q) : TT bs ((.if_icmp .ne o, [b], v) :: is) l (vI y :: vI x :: st) σ Q :=
  tt_ic (fun h => K1 (of_decide_eq_true h)) (fun h => K2 (by have := of_decide_eq_false h; omega))
theorem tt_ifne {o : Int} {b : Nat} {x : Int} (K1 : ¬ x = 0 → TT bs (bs.getD b []) l st σ Q) (K2 : x = 0 → TT bs is l st σ Q) : TT bs ((.ifCond .ne o, [b], v) :: is) l (vI x :: st) σ Q :=
  tt_if (fun h => K1 (of_decide_eq_true h)) (fun h => K2 (by have := of_decide_eq_false h; omega))
theorem tt_ifneT {o : Int} {b : Nat} {x : Int} (h : ¬ x = 0) (K : TT bs (bs.getD b []) l st σ Q) : TT bs ((.ifCond .ne o, [b], v) :: is) l (vI x :: st) σ Q :=
  tt_ifne (fun _ => K) (fun h' => absurd h (by omega))
theorem tt_ifneF {o : Int} {b : Nat} {x : Int} (h : x = 0) (K : TT bs is l st σ Q) : TT bs ((.ifCond .ne o, [b], v) :: is) l (vI x :: st) σ Q :=
  tt_ifne (fun h' => absurd h (by omega)) (fun _ => K)
theorem tt_iclt {o : Int} {b : Nat} {x y : Int} (K1 : x < y → TT bs (bs.getD b []) l st σ Q) (K2 : y ≤ x → TT bs is l st σ Q) : TT bs ((.if_icmp .lt o, [b], v) :: is) l (vI y :: vI x :: st) σ Q :=
  tt_ic (fun h => K1 (of_decide_eq_true h)) (fun h => K2 (by have := of_decide_eq_false h; omega))
theorem tt_iflt {o : Int} {b : Nat} {x : Int} (K1 : x < 0 → TT bs (bs.getD b []) l st σ Q) (K2 : 0 ≤ x → TT bs is l st σ Q) : TT bs ((.ifCond .lt o, [b], v) :: is) l (vI x :: st) σ Q :=
  tt_if (fun h => K1 (of_decide_eq_true h)) (fun h => K2 (by have := of_decide_eq_false h; omega))
theorem tt_ifltT {o : Int} {b : Nat} {x : Int} (h : x < 0) (K : TT bs (bs.getD b []) l st σ Q) : TT bs ((.ifCond .lt o, [b], v) :: is) l (vI x :: st) σ Q :=
  tt_iflt (fun _ => K) (fun h' => absurd h (by omega))
theorem tt_ifltF {o : Int} {b : Nat} {x : Int} (h : 0 ≤ x) (K : TT bs is l st σ Q) : TT bs ((.ifCond .lt o, [b], v) :: is) l (vI x :: st) σ Q :=
  tt_iflt (fun h' => absurd h (by omega)) (fun _ => K)
theorem tt_icge {o : Int} {b : Nat} {x y : Int} (K1 : y ≤ x → TT bs (bs.getD b []) l st σ Q) (K2 : x < y → TT bs is l st σ Q) : TT bs ((.if_icmp .ge o, [b], v) :: is) l (vI y :: vI x :: st) σ Q :=
  tt_ic (fun h => K1 (of_decide_eq_true h)) (fun h => K2 (by have := of_decide_eq_false h; omega))
theorem tt_ifge {o : Int} {b : Nat} {x : Int} (K1 : 0 ≤ x → TT bs (bs.getD b []) l st σ Q) (K2 : x < 0 → TT bs is l st σ Q) : TT bs ((.ifCond .ge o, [b], v) :: is) l (vI x :: st) σ Q :=
  tt_if (fun h => K1 (of_decide_eq_true h)) (fun h => K2 (by have := of_decide_eq_false h; omega))
theorem tt_ifgeT {o : Int} {b : Nat} {x : Int} (h : 0 ≤ x) (K : TT bs (bs.getD b []) l st σ Q) : TT bs ((.ifCond .ge o, [b], v) :: is) l (vI x :: st) σ Q :=
  tt_ifge (fun _ => K) (fun h' => absurd h (by omega))
theorem tt_ifgeF {o : Int} {b : Nat} {x : Int} (h : x < 0) (K : TT bs is l st σ Q) : TT bs ((.ifCond .ge o, [b], v) :: is) l (vI x :: st) σ Q :=
  tt_ifge (fun h' => absurd h (by omega)) (fun _ => K)
theorem tt_icgt {o : Int} {b : Nat} {x y : Int} (K1 : y < x → TT bs (bs.getD b []) l st σ Q) (K2 : x ≤ y → TT bs is l st σ Q) : TT bs ((.if_icmp .gt o, [b], v) :: is) l (vI y :: vI x :: st) σ Q :=
  tt_ic (fun h => K1 (of_decide_eq_true h)) (fun h => K2 (by have := of_decide_eq_false h; omega))
theorem tt_ifgt {o : Int} {b : Nat} {x : Int} (K1 : 0 < x → TT bs (bs.getD b []) l st σ Q) (K2 : x ≤ 0 → TT bs is l st σ Q) : TT bs ((.ifCond .gt o, [b], v) :: is) l (vI x :: st) σ Q :=
  tt_if (fun h => K1 (of_decide_eq_true h)) (fun h => K2 (by have := of_decide_eq_false h; omega))
theorem tt_ifgtT {o : Int} {b : Nat} {x : Int} (h : 0 < x) (K : TT bs (bs.getD b []) l st σ Q) : TT bs ((.ifCond .gt o, [b], v) :: is) l (vI x :: st) σ Q :=
  tt_ifgt (fun _ => K) (fun h' => absurd h (by omega))
theorem tt_ifgtF {o : Int} {b : Nat} {x : Int} (h : x ≤ 0) (K : TT bs is l st σ Q) : TT bs ((.ifCond .gt o, [b], v) :: is) l (vI x :: st) σ Q :=
  tt_ifgt (fun h' => absurd h (by omega)) (fun _ => K)
theorem tt_icle {o : Int} {b : Nat} {x y : Int} (K1 : x ≤ y → TT bs (bs.getD b []) l st σ Q) (K2 : y < x → TT bs is l st σ Q) : TT bs ((.if_icmp .le o, [b], v) :: is) l (vI y :: vI x :: st) σ Q :=
  tt_ic (fun h => K1 (of_decide_eq_true h)) (fun h => K2 (by have := of_decide_eq_false h; omega))
theorem tt_ifle {o : Int} {b : Nat} {x : Int} (K1 : x ≤ 0 → TT bs (bs.getD b []) l st σ Q) (K2 : 0 < x → TT bs is l st σ Q) : TT bs ((.ifCond .le o, [b], v) :: is) l (vI x :: st) σ Q :=
  tt_if (fun h => K1 (of_decide_eq_true h)) (fun h => K2 (by have := of_decide_eq_false h; omega))
theorem tt_ifleT {o : Int} {b : Nat} {x : Int} (h : x ≤ 0) (K : TT bs (bs.getD b []) l st σ Q) : TT bs ((.ifCond .le o, [b], v) :: is) l (vI x :: st) σ Q :=
  tt_ifle (fun _ => K) (fun h' => absurd h (by omega))
theorem tt_ifleF {o : Int} {b : Nat} {x : Int} (h : 0 < x) (K : TT bs is l st σ Q) : TT bs ((.ifCond .le o, [b], v) :: is) l (vI x :: st) σ Q :=
  tt_ifle (fun h' => absurd h (by omega)) (fun _ => K)
theorem tt_tsw {d lo hi : Int} {offs : Array Int} {b : Nat} {bl : List Nat} {x : Int} (K1 : (x < lo ∨ hi < x) → TT bs (bs.getD b []) l st σ Q) (K2 : lo ≤ x → x ≤ hi → TT bs (bs.getD (bl.getD (x - lo).toNat 0) []) l st σ Q) : TT bs ((.tableswitch d lo hi offs, b :: bl, v) :: is) l (vI x :: st) σ Q := by
  by_cases h : x < lo ∨ hi < x
  · exact tt_ctJ rfl rfl (show some (some (if x < lo ∨ hi < x then b else bl.getD (x - lo).toNat 0), st) = some (some b, st) by rw [if_pos h]) (K1 h)
  · exact tt_ctJ rfl rfl (show some (some (if x < lo ∨ hi < x then b else bl.getD (x - lo).toNat 0), st) = some (some (bl.getD (x - lo).toNat 0), st) by rw [if_neg h]) (K2 (by omega) (by omega))
theorem tt_lsw {d : Int} {ps : Array (Int × Int)} {b : Nat} {bl : List Nat} {x : Int} (K : TT bs (bs.getD (am_look ps.toList bl b x) []) l st σ Q) : TT bs ((.lookupswitch d ps, b :: bl, v) :: is) l (vI x :: st) σ Q := tt_ctJ rfl rfl rfl K
theorem tt_to {b b' : Nat} (h : b = b') (K : TT bs (bs.getD b' []) l st σ Q) : TT bs (bs.getD b []) l st σ Q := h ▸ K
/-! ends -/
theorem tt_vret (K : Q none σ) : TT bs ((.return_, ops, v) :: is) l [] σ Q := tt_rt rfl rfl rfl rfl rfl K
theorem tt_iret {x : Int} (K : Q (some (vI x)) σ) : TT bs ((.ireturn, [0], v) :: is) l [vI x] σ Q := tt_rt rfl rfl rfl rfl (show (if ((0 : Nat) = 0 ∨ x = 0 ∨ x = 1) then some (some (vI x)) else none) = some (some (vI x)) from if_pos (Or.inl rfl)) K
theorem tt_zret {b : Nat} {x : Int} (hx : x = 0 ∨ x = 1) (K : Q (some (vI x)) σ) : TT bs ((.ireturn, [b], v) :: is) l [vI x] σ Q := tt_rt rfl rfl rfl rfl (show (if (b = 0 ∨ x = 0 ∨ x = 1) then some (some (vI x)) else none) = some (some (vI x)) from if_pos (Or.inr hx)) K
theorem tt_lret {x : Int} (K : Q (some (vL x)) σ) : TT bs ((.lreturn, ops, v) :: is) l [vL x] σ Q := tt_rt rfl rfl rfl rfl rfl K
/-! calls -/
def am_cok (as st' : List am_V) (N : Nat) : Bool := Nat.ble (as.map am_cat).sum N && Nat.ble (st'.map am_cat).sum 8
theorem am_cokS {as st' : List am_V} {N : Nat} (h : am_cok as st' N = true) : (st'.map am_cat).sum ≤ 8 ∧ ((as.map am_cat).sum : Int) ≤ (N : Int) := by
  unfold am_cok at h
  rw [Bool.and_eq_true] at h
  have h1 := Nat.le_of_ble_eq_true h.1
  exact ⟨Nat.le_of_ble_eq_true h.2, by omega⟩
theorem kp {u : am_V} (K : TT bs is l (u :: st) σ Q) : ∀ r σ1, (r = some u ∧ σ1 = σ) → TT bs is l (r.toList ++ st) σ1 Q := by
  intro r σ1 h
  obtain ⟨rfl, rfl⟩ := h
  exact K
theorem ks {u : am_V} {σ2 : am_S} (K : TT bs is l (u :: st) σ2 Q) : ∀ r σ1, (σ1 = σ2 ∧ r = some u) → TT bs is l (r.toList ++ st) σ1 Q := by
  intro r σ1 h
  obtain ⟨rfl, rfl⟩ := h
  exact K
theorem ksn {σ2 : am_S} (K : TT bs is l st σ2 Q) : ∀ r σ1, (σ1 = σ2 ∧ r = none) → TT bs is l (r.toList ++ st) σ1 Q := by
  intro r σ1 h
  obtain ⟨rfl, rfl⟩ := h
  exact K
theorem kor {P1 P2 : Option am_V → am_S → Prop} (h1 : ∀ r σ1, P1 r σ1 → TT bs is l (r.toList ++ st) σ1 Q) (h2 : ∀ r σ1, P2 r σ1 → TT bs is l (r.toList ++ st) σ1 Q) : ∀ r σ1, (P1 r σ1 ∨ P2 r σ1) → TT bs is l (r.toList ++ st) σ1 Q := fun r σ1 h => h.elim (h1 r σ1) (h2 r σ1)
theorem kex {X : Type} {P1 : X → Option am_V → am_S → Prop} (h1 : ∀ x r σ1, P1 x r σ1 → TT bs is l (r.toList ++ st) σ1 Q) : ∀ r σ1, (∃ x, P1 x r σ1) → TT bs is l (r.toList ++ st) σ1 Q := fun r σ1 h => h.elim (fun x hx => h1 x r σ1 hx)
theorem kand {c : Prop} {P1 : Option am_V → am_S → Prop} (h1 : c → ∀ r σ1, P1 r σ1 → TT bs is l (r.toList ++ st) σ1 Q) : ∀ r σ1, (c ∧ P1 r σ1) → TT bs is l (r.toList ++ st) σ1 Q := fun r σ1 h => h1 h.1 r σ1 h.2
theorem kb {c : Prop} (K1 : c → TT bs is l (vI 1 :: st) σ Q) (K2 : ¬ c → TT bs is l (vI 0 :: st) σ Q) : ∀ r σ1, (σ1 = σ ∧ ((c ∧ r = some (vI 1)) ∨ (¬ c ∧ r = some (vI 0)))) → TT bs is l (r.toList ++ st) σ1 Q := by
  intro r σ1 h
  obtain ⟨rfl, ⟨hc, rfl⟩ | ⟨hc, rfl⟩⟩ := h
  · exact K1 hc
  · exact K2 hc

theorem tt_cs0 {f m : Nat} (N : Nat) {Q1 : Option am_V → am_S → Prop} (ok : am_cok [] st N = true) (C : CC m [] σ Q1) (K : ∀ r σ1, Q1 r σ1 → TT bs is l (r.toList ++ st) σ1 Q) : TT bs ((.invokestatic f, [m, 0], (N : Int)) :: is) l (st) σ Q :=
  tt_call rfl rfl rfl (if_pos ⟨by simp, (am_cokS ok).1, (am_cokS ok).2⟩) C K
theorem tt_cs1 {f m : Nat} {u0 : am_V} (N : Nat) {Q1 : Option am_V → am_S → Prop} (ok : am_cok [u0] st N = true) (C : CC m [u0] σ Q1) (K : ∀ r σ1, Q1 r σ1 → TT bs is l (r.toList ++ st) σ1 Q) : TT bs ((.invokestatic f, [m, 1], (N : Int)) :: is) l (u0 :: st) σ Q :=
  tt_call rfl rfl rfl (if_pos ⟨by simp, (am_cokS ok).1, (am_cokS ok).2⟩) C K
theorem tt_cv1 {f m a c : Nat} (N : Nat) {Q1 : Option am_V → am_S → Prop} (ok : am_cok [vR a] st N = true) (hO : am_isO σ a c = true) (C : CC m [vR a] σ Q1) (K : ∀ r σ1, Q1 r σ1 → TT bs is l (r.toList ++ st) σ1 Q) : TT bs ((.invokevirtual f, [m, 1, c], (N : Int)) :: is) l (vR a :: st) σ Q :=
  tt_call rfl rfl rfl (if_pos ⟨by simp, (am_cokS ok).1, (am_cokS ok).2, hO⟩) C K
theorem tt_cx1 {f m a : Nat} (N : Nat) {Q1 : Option am_V → am_S → Prop} (ok : am_cok [vR a] st N = true) (C : CC m [vR a] σ Q1) (K : ∀ r σ1, Q1 r σ1 → TT bs is l (r.toList ++ st) σ1 Q) : TT bs ((.invokespecial f, [m, 1], (N : Int)) :: is) l (vR a :: st) σ Q :=
  tt_call rfl rfl rfl (if_pos ⟨by simp, (am_cokS ok).1, (am_cokS ok).2⟩) C K
theorem tt_cs2 {f m : Nat} {u0 u1 : am_V} (N : Nat) {Q1 : Option am_V → am_S → Prop} (ok : am_cok [u0, u1] st N = true) (C : CC m [u0, u1] σ Q1) (K : ∀ r σ1, Q1 r σ1 → TT bs is l (r.toList ++ st) σ1 Q) : TT bs ((.invokestatic f, [m, 2], (N : Int)) :: is) l (u1 :: u0 :: st) σ Q :=
  tt_call rfl rfl rfl (if_pos ⟨by simp, (am_cokS ok).1, (am_cokS ok).2⟩) C K
theorem tt_cv2 {f m a c : Nat} {u1 : am_V} (N : Nat) {Q1 : Option am_V → am_S → Prop} (ok : am_cok [vR a, u1] st N = true) (hO : am_isO σ a c = true) (C : CC m [vR a, u1] σ Q1) (K : ∀ r σ1, Q1 r σ1 → TT bs is l (r.toList ++ st) σ1 Q) : TT bs ((.invokevirtual f, [m, 2, c], (N : Int)) :: is) l (u1 :: vR a :: st) σ Q :=
  tt_call rfl rfl rfl (if_pos ⟨by simp, (am_cokS ok).1, (am_cokS ok).2, hO⟩) C K
theorem tt_cx2 {f m a : Nat} {u1 : am_V} (N : Nat) {Q1 : Option am_V → am_S → Prop} (ok : am_cok [vR a, u1] st N = true) (C : CC m [vR a, u1] σ Q1) (K : ∀ r σ1, Q1 r σ1 → TT bs is l (r.toList ++ st) σ1 Q) : TT bs ((.invokespecial f, [m, 2], (N : Int)) :: is) l (u1 :: vR a :: st) σ Q :=
  tt_call rfl rfl rfl (if_pos ⟨by simp, (am_cokS ok).1, (am_cokS ok).2⟩) C K
theorem tt_cs3 {f m : Nat} {u0 u1 u2 : am_V} (N : Nat) {Q1 : Option am_V → am_S → Prop} (ok : am_cok [u0, u1, u2] st N = true) (C : CC m [u0, u1, u2] σ Q1) (K : ∀ r σ1, Q1 r σ1 → TT bs is l (r.toList ++ st) σ1 Q) : TT bs ((.invokestatic f, [m, 3], (N : Int)) :: is) l (u2 :: u1 :: u0 :: st) σ Q :=
  tt_call rfl rfl rfl (if_pos ⟨by simp, (am_cokS ok).1, (am_cokS ok).2⟩) C K
theorem tt_cv3 {f m a c : Nat} {u1 u2 : am_V} (N : Nat) {Q1 : Option am_V → am_S → Prop} (ok : am_cok [vR a, u1, u2] st N = true) (hO : am_isO σ a c = true) (C : CC m [vR a, u1, u2] σ Q1) (K : ∀ r σ1, Q1 r σ1 → TT bs is l (r.toList ++ st) σ1 Q) : TT bs ((.invokevirtual f, [m, 3, c], (N : Int)) :: is) l (u2 :: u1 :: vR a :: st) σ Q :=
  tt_call rfl rfl rfl (if_pos ⟨by simp, (am_cokS ok).1, (am_cokS ok).2, hO⟩) C K
theorem tt_cx3 {f m a : Nat} {u1 u2 : am_V} (N : Nat) {Q1 : Option am_V → am_S → Prop} (ok : am_cok [vR a, u1, u2] st N = true) (C : CC m [vR a, u1, u2] σ Q1) (K : ∀ r σ1, Q1 r σ1 → TT bs is l (r.toList ++ st) σ1 Q) : TT bs ((.invokespecial f, [m, 3], (N : Int)) :: is) l (u2 :: u1 :: vR a :: st) σ Q :=
  tt_call rfl rfl rfl (if_pos ⟨by simp, (am_cokS ok).1, (am_cokS ok).2⟩) C K
theorem tt_cs4 {f m : Nat} {u0 u1 u2 u3 : am_V} (N : Nat) {Q1 : Option am_V → am_S → Prop} (ok : am_cok [u0, u1, u2, u3] st N = true) (C : CC m [u0, u1, u2, u3] σ Q1) (K : ∀ r σ1, Q1 r σ1 → TT bs is l (r.toList ++ st) σ1 Q) : TT bs ((.invokestatic f, [m, 4], (N : Int)) :: is) l (u3 :: u2 :: u1 :: u0 :: st) σ Q :=
  tt_call rfl rfl rfl (if_pos ⟨by simp, (am_cokS ok).1, (am_cokS ok).2⟩) C K
theorem tt_cv4 {f m a c : Nat} {u1 u2 u3 : am_V} (N : Nat) {Q1 : Option am_V → am_S → Prop} (ok : am_cok [vR a, u1, u2, u3] st N = true) (hO : am_isO σ a c = true) (C : CC m [vR a, u1, u2, u3] σ Q1) (K : ∀ r σ1, Q1 r σ1 → TT bs is l (r.toList ++ st) σ1 Q) : TT bs ((.invokevirtual f, [m, 4, c], (N : Int)) :: is) l (u3 :: u2 :: u1 :: vR a :: st) σ Q :=
  tt_call rfl rfl rfl (if_pos ⟨by simp, (am_cokS ok).1, (am_cokS ok).2, hO⟩) C K
theorem tt_cx4 {f m a : Nat} {u1 u2 u3 : am_V} (N : Nat) {Q1 : Option am_V → am_S → Prop} (ok : am_cok [vR a, u1, u2, u3] st N = true) (C : CC m [vR a, u1, u2, u3] σ Q1) (K : ∀ r σ1, Q1 r σ1 → TT bs is l (r.toList ++ st) σ1 Q) : TT bs ((.invokespecial f, [m, 4], (N : Int)) :: is) l (u3 :: u2 :: u1 :: vR a :: st) σ Q :=
  tt_call rfl rfl rfl (if_pos ⟨by simp, (am_cokS ok).1, (am_cokS ok).2⟩) C K
theorem tt_cs5 {f m : Nat} {u0 u1 u2 u3 u4 : am_V} (N : Nat) {Q1 : Option am_V → am_S → Prop} (ok : am_cok [u0, u1, u2, u3, u4] st N = true) (C : CC m [u0, u1, u2, u3, u4] σ Q1) (K : ∀ r σ1, Q1 r σ1 → TT bs is l (r.toList ++ st) σ1 Q) : TT bs ((.invokestatic f, [m, 5], (N : Int)) :: is) l (u4 :: u3 :: u2 :: u1 :: u0 :: st) σ Q :=
  tt_call rfl rfl rfl (if_pos ⟨by simp, (am_cokS ok).1, (am_cokS ok).2⟩) C K
theorem tt_cv5 {f m a c : Nat} {u1 u2 u3 u4 : am_V} (N : Nat) {Q1 : Option am_V → am_S → Prop} (ok : am_cok [vR a, u1, u2, u3, u4] st N = true) (hO : am_isO σ a c = true) (C : CC m [vR a, u1, u2, u3, u4] σ Q1) (K : ∀ r σ1, Q1 r σ1 → TT bs is l (r.toList ++ st) σ1 Q) : TT bs ((.invokevirtual f, [m, 5, c], (N : Int)) :: is) l (u4 :: u3 :: u2 :: u1 :: vR a :: st) σ Q :=
  tt_call rfl rfl rfl (if_pos ⟨by simp, (am_cokS ok).1, (am_cokS ok).2, hO⟩) C K
theorem tt_cx5 {f m a : Nat} {u1 u2 u3 u4 : am_V} (N : Nat) {Q1 : Option am_V → am_S → Prop} (ok : am_cok [vR a, u1, u2, u3, u4] st N = true) (C : CC m [vR a, u1, u2, u3, u4] σ Q1) (K : ∀ r σ1, Q1 r σ1 → TT bs is l (r.toList ++ st) σ1 Q) : TT bs ((.invokespecial f, [m, 5], (N : Int)) :: is) l (u4 :: u3 :: u2 :: u1 :: vR a :: st) σ Q :=
  tt_call rfl rfl rfl (if_pos ⟨by simp, (am_cokS ok).1, (am_cokS ok).2⟩) C K
theorem tt_cs6 {f m : Nat} {u0 u1 u2 u3 u4 u5 : am_V} (N : Nat) {Q1 : Option am_V → am_S → Prop} (ok : am_cok [u0, u1, u2, u3, u4, u5] st N = true) (C : CC m [u0, u1, u2, u3, u4, u5] σ Q1) (K : ∀ r σ1, Q1 r σ1 → TT bs is l (r.toList ++ st) σ1 Q) : TT bs ((.invokestatic f, [m, 6], (N : Int)) :: is) l (u5 :: u4 :: u3 :: u2 :: u1 :: u0 :: st) σ Q :=
  tt_call rfl rfl rfl (if_pos ⟨by simp, (am_cokS ok).1, (am_cokS ok).2⟩) C K
theorem tt_cv6 {f m a c : Nat} {u1 u2 u3 u4 u5 : am_V} (N : Nat) {Q1 : Option am_V → am_S → Prop} (ok : am_cok [vR a, u1, u2, u3, u4, u5] st N = true) (hO : am_isO σ a c = true) (C : CC m [vR a, u1, u2, u3, u4, u5] σ Q1) (K : ∀ r σ1, Q1 r σ1 → TT bs is l (r.toList ++ st) σ1 Q) : TT bs ((.invokevirtual f, [m, 6, c], (N : Int)) :: is) l (u5 :: u4 :: u3 :: u2 :: u1 :: vR a :: st) σ Q :=
  tt_call rfl rfl rfl (if_pos ⟨by simp, (am_cokS ok).1, (am_cokS ok).2, hO⟩) C K
theorem tt_cx6 {f m a : Nat} {u1 u2 u3 u4 u5 : am_V} (N : Nat) {Q1 : Option am_V → am_S → Prop} (ok : am_cok [vR a, u1, u2, u3, u4, u5] st N = true) (C : CC m [vR a, u1, u2, u3, u4, u5] σ Q1) (K : ∀ r σ1, Q1 r σ1 → TT bs is l (r.toList ++ st) σ1 Q) : TT bs ((.invokespecial f, [m, 6], (N : Int)) :: is) l (u5 :: u4 :: u3 :: u2 :: u1 :: vR a :: st) σ Q :=
  tt_call rfl rfl rfl (if_pos ⟨by simp, (am_cokS ok).1, (am_cokS ok).2⟩) C K
end ROWS
end
section
/-! THE CELLS: what each is, what refers to which; printed by a program (wip/gen/wd.py) -/
def wd_ly : List am_Ly := [(.inl .int, 6), (.inl .int, 0), (.inr 9, 16), (.inl am_strip, 6), (.inl am_strip, 4), (.inr 8, 6), (.inl .int, 6), (.inl .int, 48), (.inl .int, 48), (.inl .int, 5), (.inr 3, 3), (.inr 6, 2), (.inl .int, 0), (.inr 8, 6), (.inl .int, 6), (.inl .int, 48), (.inl .int, 48), (.inl .int, 5), (.inr 0, 10), (.inl .int, 462), (.inl .int, 462), (.inl .int, 2772), (.inl .int, 2772), (.inl .int, 2772), (.inl .int, 2772), (.inl .int, 3696), (.inl .int, 3696), (.inr 1, 4), (.inl .int, 12), (.inl .int, 12), (.inl .int, 96), (.inr 2, 3), (.inr 4, 5), (.inl .int, 462), (.inl .byte, 0), (.inl .boolean, 462), (.inr 7, 18), (.inl .int, 12), (.inl .int, 462), (.inl .int, 5544), (.inl .int, 5544), (.inl .int, 5544), (.inl .int, 5544), (.inl .int, 12), (.inl .long, 5544), (.inl .long, 5544), (.inl .int, 64), (.inr 5, 11), (.inl .int, 16), (.inl .int, 16), (.inl .int, 16), (.inl .int, 16), (.inl .int, 6), (.inl .int, 8), (.inl .int, 8), (.inl .int, 6), (.inr 6, 2), (.inl .int, 40), (.inr 6, 2), (.inl .int, 40), (.inr 6, 2), (.inl .int, 40), (.inr 6, 2), (.inl .int, 40), (.inr 6, 2), (.inl .int, 40), (.inr 6, 2), (.inl .int, 40), (.inr 6, 2), (.inl .int, 120), (.inr 6, 2), (.inl .int, 120), (.inr 6, 2), (.inl .int, 120), (.inr 6, 2), (.inl .int, 120), (.inr 10, 48), (.inl .int, 6), (.inl .int, 6), (.inl .int, 240), (.inl .int, 40), (.inl .int, 4), (.inl .int, 480), (.inl .int, 6), (.inl .int, 48), (.inl .int, 48), (.inl .int, 5), (.inl .int, 6), (.inl .int, 48), (.inl .int, 48), (.inl .int, 5), (.inl .int, 120), (.inl .int, 462), (.inl .int, 2772), (.inl .int, 213444), (.inl .int, 462), (.inl .boolean, 462), (.inl .int, 8316), (.inl .int, 5544), (.inl .int, 5544), (.inl .int, 5544), (.inl .int, 12), (.inl .long, 5544), (.inl .long, 5544), (.inl .int, 64), (.inl .int, 8), (.inl .int, 8)]
def wd_rf : List (Nat × Nat × Nat) := [(2, 0, 3), (2, 1, 4), (2, 2, 5), (2, 3, 10), (2, 4, 18), (2, 5, 27), (2, 6, 31), (2, 7, 32), (2, 8, 36), (2, 9, 47), (2, 10, 55), (3, 0, 56), (3, 1, 58), (3, 2, 60), (3, 3, 62), (3, 4, 64), (3, 5, 66), (4, 0, 68), (4, 1, 70), (4, 2, 72), (4, 3, 74), (5, 1, 6), (5, 2, 7), (5, 3, 8), (5, 5, 9), (10, 2, 13), (11, 0, 12), (13, 1, 14), (13, 2, 15), (13, 3, 16), (13, 5, 17), (18, 0, 5), (18, 2, 19), (18, 3, 20), (18, 4, 21), (18, 5, 22), (18, 6, 23), (18, 7, 24), (18, 8, 25), (18, 9, 26), (27, 1, 28), (27, 2, 29), (27, 3, 30), (31, 0, 5), (31, 1, 18), (31, 2, 27), (32, 0, 5), (32, 1, 18), (32, 2, 33), (32, 4, 35), (36, 0, 18), (36, 1, 27), (36, 2, 31), (36, 3, 32), (36, 8, 37), (36, 9, 38), (36, 10, 39), (36, 11, 40), (36, 12, 41), (36, 13, 42), (36, 14, 43), (36, 15, 44), (36, 16, 45), (36, 17, 46), (47, 0, 5), (47, 1, 27), (47, 3, 48), (47, 4, 49), (47, 5, 50), (47, 6, 51), (47, 7, 52), (47, 8, 53), (47, 9, 54), (56, 0, 57), (58, 0, 59), (60, 0, 61), (62, 0, 63), (64, 0, 65), (66, 0, 67), (68, 0, 69), (70, 0, 71), (72, 0, 73), (74, 0, 75), (76, 1, 77), (76, 6, 78), (76, 7, 79), (76, 8, 80), (76, 9, 81), (76, 10, 82), (76, 12, 83), (76, 13, 84), (76, 14, 85), (76, 16, 86), (76, 18, 87), (76, 19, 88), (76, 20, 89), (76, 22, 90), (76, 26, 91), (76, 28, 92), (76, 29, 93), (76, 32, 94), (76, 33, 95), (76, 34, 96), (76, 35, 97), (76, 36, 98), (76, 37, 99), (76, 38, 100), (76, 40, 101), (76, 41, 102), (76, 42, 103), (76, 44, 104), (76, 45, 105), (76, 46, 106)]
/-- the cells of the class and of the reference as they were made (but the script, and what changes: the reader's source, the steps known) -/
def Wd (σ : am_S) : Prop := (∀ a q, a ≠ 1 → wd_ly[a]? = some q → σ.2.2.1[a]? = some q) ∧ ∀ p ∈ wd_rf, σ.2.1 p.1 p.2.1 = some p.2.2
/-- all but the numbers of some cells is as it was -/
def Fr (W : List Nat) (σ σ' : am_S) : Prop := σ'.2 = σ.2 ∧ ∀ a, a ∉ W → ∀ j, σ'.1 a j = σ.1 a j
theorem Fr.rf {W : List Nat} {σ : am_S} : Fr W σ σ := ⟨rfl, fun _ _ _ => rfl⟩
theorem Fr.put {W : List Nat} {σ σ' : am_S} {a k : Nat} {x : Int} (h : Fr W σ σ') (ha : a ∈ W) : Fr W σ (am_set σ' a k x) :=
  ⟨h.1, fun b hb j => (if_neg (c := b = a ∧ j = k) (fun e => hb (e.1 ▸ ha))).trans (h.2 b hb j)⟩
theorem Fr.tr {W W' : List Nat} {σ σ' σ'' : am_S} (h : Fr W σ σ') (h2 : Fr W' σ' σ'') (hs : ∀ a ∈ W', a ∈ W) : Fr W σ σ'' :=
  ⟨h2.1.trans h.1, fun b hb j => (h2.2 b (fun e => hb (hs b e)) j).trans (h.2 b hb j)⟩
theorem Fr.mono {W W' : List Nat} {σ σ' : am_S} (h : Fr W σ σ') (hs : ∀ a ∈ W, a ∈ W') : Fr W' σ σ' := ⟨h.1, fun b hb j => h.2 b (fun e => hb (hs b e)) j⟩
theorem Fr.wd {W : List Nat} {σ σ' : am_S} (h : Fr W σ σ') (hW : Wd σ) : Wd σ' := by
  unfold Wd
  rw [h.1]
  exact hW
theorem am_isO_of {σ : am_S} {a c n : Nat} (h : σ.2.2.1[a]? = some (.inr c, n)) (ha : 2 ≤ a) : am_isO σ a c = true := by
  unfold am_isO
  rw [h]
  simp [ha]
theorem rv {e e' : Int} (h : e = e') : some (vI e) = some (vI e') := h ▸ rfl
theorem rvL {e e' : Int} (h : e = e') : some (vL e) = some (vL e') := h ▸ rfl
section WDS
variable {σ : am_S}
theorem wa_0 (h : Wd σ) : σ.2.2.1[0]? = some (.inl .int, 6) := h.1 0 _ (by decide) rfl
theorem wo_2 (h : Wd σ) : am_isO σ 2 9 = true := am_isO_of (h.1 2 _ (by decide) rfl) (by decide)
theorem wa_3 (h : Wd σ) : σ.2.2.1[3]? = some (.inl am_strip, 6) := h.1 3 _ (by decide) rfl
theorem wa_4 (h : Wd σ) : σ.2.2.1[4]? = some (.inl am_strip, 4) := h.1 4 _ (by decide) rfl
theorem wo_5 (h : Wd σ) : am_isO σ 5 8 = true := am_isO_of (h.1 5 _ (by decide) rfl) (by decide)
theorem wa_6 (h : Wd σ) : σ.2.2.1[6]? = some (.inl .int, 6) := h.1 6 _ (by decide) rfl
theorem wa_7 (h : Wd σ) : σ.2.2.1[7]? = some (.inl .int, 48) := h.1 7 _ (by decide) rfl
theorem wa_8 (h : Wd σ) : σ.2.2.1[8]? = some (.inl .int, 48) := h.1 8 _ (by decide) rfl
theorem wa_9 (h : Wd σ) : σ.2.2.1[9]? = some (.inl .int, 5) := h.1 9 _ (by decide) rfl
theorem wo_10 (h : Wd σ) : am_isO σ 10 3 = true := am_isO_of (h.1 10 _ (by decide) rfl) (by decide)
theorem wo_11 (h : Wd σ) : am_isO σ 11 6 = true := am_isO_of (h.1 11 _ (by decide) rfl) (by decide)
theorem wa_12 (h : Wd σ) : σ.2.2.1[12]? = some (.inl .int, 0) := h.1 12 _ (by decide) rfl
theorem wo_13 (h : Wd σ) : am_isO σ 13 8 = true := am_isO_of (h.1 13 _ (by decide) rfl) (by decide)
theorem wa_14 (h : Wd σ) : σ.2.2.1[14]? = some (.inl .int, 6) := h.1 14 _ (by decide) rfl
theorem wa_15 (h : Wd σ) : σ.2.2.1[15]? = some (.inl .int, 48) := h.1 15 _ (by decide) rfl
theorem wa_16 (h : Wd σ) : σ.2.2.1[16]? = some (.inl .int, 48) := h.1 16 _ (by decide) rfl
theorem wa_17 (h : Wd σ) : σ.2.2.1[17]? = some (.inl .int, 5) := h.1 17 _ (by decide) rfl
theorem wo_18 (h : Wd σ) : am_isO σ 18 0 = true := am_isO_of (h.1 18 _ (by decide) rfl) (by decide)
theorem wa_19 (h : Wd σ) : σ.2.2.1[19]? = some (.inl .int, 462) := h.1 19 _ (by decide) rfl
theorem wa_20 (h : Wd σ) : σ.2.2.1[20]? = some (.inl .int, 462) := h.1 20 _ (by decide) rfl
theorem wa_21 (h : Wd σ) : σ.2.2.1[21]? = some (.inl .int, 2772) := h.1 21 _ (by decide) rfl
theorem wa_22 (h : Wd σ) : σ.2.2.1[22]? = some (.inl .int, 2772) := h.1 22 _ (by decide) rfl
theorem wa_23 (h : Wd σ) : σ.2.2.1[23]? = some (.inl .int, 2772) := h.1 23 _ (by decide) rfl
theorem wa_24 (h : Wd σ) : σ.2.2.1[24]? = some (.inl .int, 2772) := h.1 24 _ (by decide) rfl
theorem wa_25 (h : Wd σ) : σ.2.2.1[25]? = some (.inl .int, 3696) := h.1 25 _ (by decide) rfl
theorem wa_26 (h : Wd σ) : σ.2.2.1[26]? = some (.inl .int, 3696) := h.1 26 _ (by decide) rfl
theorem wo_27 (h : Wd σ) : am_isO σ 27 1 = true := am_isO_of (h.1 27 _ (by decide) rfl) (by decide)
theorem wa_28 (h : Wd σ) : σ.2.2.1[28]? = some (.inl .int, 12) := h.1 28 _ (by decide) rfl
theorem wa_29 (h : Wd σ) : σ.2.2.1[29]? = some (.inl .int, 12) := h.1 29 _ (by decide) rfl
theorem wa_30 (h : Wd σ) : σ.2.2.1[30]? = some (.inl .int, 96) := h.1 30 _ (by decide) rfl
theorem wo_31 (h : Wd σ) : am_isO σ 31 2 = true := am_isO_of (h.1 31 _ (by decide) rfl) (by decide)
theorem wo_32 (h : Wd σ) : am_isO σ 32 4 = true := am_isO_of (h.1 32 _ (by decide) rfl) (by decide)
theorem wa_33 (h : Wd σ) : σ.2.2.1[33]? = some (.inl .int, 462) := h.1 33 _ (by decide) rfl
theorem wa_34 (h : Wd σ) : σ.2.2.1[34]? = some (.inl .byte, 0) := h.1 34 _ (by decide) rfl
theorem wa_35 (h : Wd σ) : σ.2.2.1[35]? = some (.inl .boolean, 462) := h.1 35 _ (by decide) rfl
theorem wo_36 (h : Wd σ) : am_isO σ 36 7 = true := am_isO_of (h.1 36 _ (by decide) rfl) (by decide)
theorem wa_37 (h : Wd σ) : σ.2.2.1[37]? = some (.inl .int, 12) := h.1 37 _ (by decide) rfl
theorem wa_38 (h : Wd σ) : σ.2.2.1[38]? = some (.inl .int, 462) := h.1 38 _ (by decide) rfl
theorem wa_39 (h : Wd σ) : σ.2.2.1[39]? = some (.inl .int, 5544) := h.1 39 _ (by decide) rfl
theorem wa_40 (h : Wd σ) : σ.2.2.1[40]? = some (.inl .int, 5544) := h.1 40 _ (by decide) rfl
theorem wa_41 (h : Wd σ) : σ.2.2.1[41]? = some (.inl .int, 5544) := h.1 41 _ (by decide) rfl
theorem wa_42 (h : Wd σ) : σ.2.2.1[42]? = some (.inl .int, 5544) := h.1 42 _ (by decide) rfl
theorem wa_43 (h : Wd σ) : σ.2.2.1[43]? = some (.inl .int, 12) := h.1 43 _ (by decide) rfl
theorem wa_44 (h : Wd σ) : σ.2.2.1[44]? = some (.inl .long, 5544) := h.1 44 _ (by decide) rfl
theorem wa_45 (h : Wd σ) : σ.2.2.1[45]? = some (.inl .long, 5544) := h.1 45 _ (by decide) rfl
theorem wa_46 (h : Wd σ) : σ.2.2.1[46]? = some (.inl .int, 64) := h.1 46 _ (by decide) rfl
theorem wo_47 (h : Wd σ) : am_isO σ 47 5 = true := am_isO_of (h.1 47 _ (by decide) rfl) (by decide)
theorem wa_48 (h : Wd σ) : σ.2.2.1[48]? = some (.inl .int, 16) := h.1 48 _ (by decide) rfl
theorem wa_49 (h : Wd σ) : σ.2.2.1[49]? = some (.inl .int, 16) := h.1 49 _ (by decide) rfl
theorem wa_50 (h : Wd σ) : σ.2.2.1[50]? = some (.inl .int, 16) := h.1 50 _ (by decide) rfl
theorem wa_51 (h : Wd σ) : σ.2.2.1[51]? = some (.inl .int, 16) := h.1 51 _ (by decide) rfl
theorem wa_52 (h : Wd σ) : σ.2.2.1[52]? = some (.inl .int, 6) := h.1 52 _ (by decide) rfl
theorem wa_53 (h : Wd σ) : σ.2.2.1[53]? = some (.inl .int, 8) := h.1 53 _ (by decide) rfl
theorem wa_54 (h : Wd σ) : σ.2.2.1[54]? = some (.inl .int, 8) := h.1 54 _ (by decide) rfl
theorem wa_55 (h : Wd σ) : σ.2.2.1[55]? = some (.inl .int, 6) := h.1 55 _ (by decide) rfl
theorem wo_56 (h : Wd σ) : am_isO σ 56 6 = true := am_isO_of (h.1 56 _ (by decide) rfl) (by decide)
theorem wa_57 (h : Wd σ) : σ.2.2.1[57]? = some (.inl .int, 40) := h.1 57 _ (by decide) rfl
theorem wo_58 (h : Wd σ) : am_isO σ 58 6 = true := am_isO_of (h.1 58 _ (by decide) rfl) (by decide)
theorem wa_59 (h : Wd σ) : σ.2.2.1[59]? = some (.inl .int, 40) := h.1 59 _ (by decide) rfl
theorem wo_60 (h : Wd σ) : am_isO σ 60 6 = true := am_isO_of (h.1 60 _ (by decide) rfl) (by decide)
theorem wa_61 (h : Wd σ) : σ.2.2.1[61]? = some (.inl .int, 40) := h.1 61 _ (by decide) rfl
theorem wo_62 (h : Wd σ) : am_isO σ 62 6 = true := am_isO_of (h.1 62 _ (by decide) rfl) (by decide)
theorem wa_63 (h : Wd σ) : σ.2.2.1[63]? = some (.inl .int, 40) := h.1 63 _ (by decide) rfl
theorem wo_64 (h : Wd σ) : am_isO σ 64 6 = true := am_isO_of (h.1 64 _ (by decide) rfl) (by decide)
theorem wa_65 (h : Wd σ) : σ.2.2.1[65]? = some (.inl .int, 40) := h.1 65 _ (by decide) rfl
theorem wo_66 (h : Wd σ) : am_isO σ 66 6 = true := am_isO_of (h.1 66 _ (by decide) rfl) (by decide)
theorem wa_67 (h : Wd σ) : σ.2.2.1[67]? = some (.inl .int, 40) := h.1 67 _ (by decide) rfl
theorem wo_68 (h : Wd σ) : am_isO σ 68 6 = true := am_isO_of (h.1 68 _ (by decide) rfl) (by decide)
theorem wa_69 (h : Wd σ) : σ.2.2.1[69]? = some (.inl .int, 120) := h.1 69 _ (by decide) rfl
theorem wo_70 (h : Wd σ) : am_isO σ 70 6 = true := am_isO_of (h.1 70 _ (by decide) rfl) (by decide)
theorem wa_71 (h : Wd σ) : σ.2.2.1[71]? = some (.inl .int, 120) := h.1 71 _ (by decide) rfl
theorem wo_72 (h : Wd σ) : am_isO σ 72 6 = true := am_isO_of (h.1 72 _ (by decide) rfl) (by decide)
theorem wa_73 (h : Wd σ) : σ.2.2.1[73]? = some (.inl .int, 120) := h.1 73 _ (by decide) rfl
theorem wo_74 (h : Wd σ) : am_isO σ 74 6 = true := am_isO_of (h.1 74 _ (by decide) rfl) (by decide)
theorem wa_75 (h : Wd σ) : σ.2.2.1[75]? = some (.inl .int, 120) := h.1 75 _ (by decide) rfl
theorem wo_76 (h : Wd σ) : am_isO σ 76 10 = true := am_isO_of (h.1 76 _ (by decide) rfl) (by decide)
theorem wa_77 (h : Wd σ) : σ.2.2.1[77]? = some (.inl .int, 6) := h.1 77 _ (by decide) rfl
theorem wa_78 (h : Wd σ) : σ.2.2.1[78]? = some (.inl .int, 6) := h.1 78 _ (by decide) rfl
theorem wa_79 (h : Wd σ) : σ.2.2.1[79]? = some (.inl .int, 240) := h.1 79 _ (by decide) rfl
theorem wa_80 (h : Wd σ) : σ.2.2.1[80]? = some (.inl .int, 40) := h.1 80 _ (by decide) rfl
theorem wa_81 (h : Wd σ) : σ.2.2.1[81]? = some (.inl .int, 4) := h.1 81 _ (by decide) rfl
theorem wa_82 (h : Wd σ) : σ.2.2.1[82]? = some (.inl .int, 480) := h.1 82 _ (by decide) rfl
theorem wa_83 (h : Wd σ) : σ.2.2.1[83]? = some (.inl .int, 6) := h.1 83 _ (by decide) rfl
theorem wa_84 (h : Wd σ) : σ.2.2.1[84]? = some (.inl .int, 48) := h.1 84 _ (by decide) rfl
theorem wa_85 (h : Wd σ) : σ.2.2.1[85]? = some (.inl .int, 48) := h.1 85 _ (by decide) rfl
theorem wa_86 (h : Wd σ) : σ.2.2.1[86]? = some (.inl .int, 5) := h.1 86 _ (by decide) rfl
theorem wa_87 (h : Wd σ) : σ.2.2.1[87]? = some (.inl .int, 6) := h.1 87 _ (by decide) rfl
theorem wa_88 (h : Wd σ) : σ.2.2.1[88]? = some (.inl .int, 48) := h.1 88 _ (by decide) rfl
theorem wa_89 (h : Wd σ) : σ.2.2.1[89]? = some (.inl .int, 48) := h.1 89 _ (by decide) rfl
theorem wa_90 (h : Wd σ) : σ.2.2.1[90]? = some (.inl .int, 5) := h.1 90 _ (by decide) rfl
theorem wa_91 (h : Wd σ) : σ.2.2.1[91]? = some (.inl .int, 120) := h.1 91 _ (by decide) rfl
theorem wa_92 (h : Wd σ) : σ.2.2.1[92]? = some (.inl .int, 462) := h.1 92 _ (by decide) rfl
theorem wa_93 (h : Wd σ) : σ.2.2.1[93]? = some (.inl .int, 2772) := h.1 93 _ (by decide) rfl
theorem wa_94 (h : Wd σ) : σ.2.2.1[94]? = some (.inl .int, 213444) := h.1 94 _ (by decide) rfl
theorem wa_95 (h : Wd σ) : σ.2.2.1[95]? = some (.inl .int, 462) := h.1 95 _ (by decide) rfl
theorem wa_96 (h : Wd σ) : σ.2.2.1[96]? = some (.inl .boolean, 462) := h.1 96 _ (by decide) rfl
theorem wa_97 (h : Wd σ) : σ.2.2.1[97]? = some (.inl .int, 8316) := h.1 97 _ (by decide) rfl
theorem wa_98 (h : Wd σ) : σ.2.2.1[98]? = some (.inl .int, 5544) := h.1 98 _ (by decide) rfl
theorem wa_99 (h : Wd σ) : σ.2.2.1[99]? = some (.inl .int, 5544) := h.1 99 _ (by decide) rfl
theorem wa_100 (h : Wd σ) : σ.2.2.1[100]? = some (.inl .int, 5544) := h.1 100 _ (by decide) rfl
theorem wa_101 (h : Wd σ) : σ.2.2.1[101]? = some (.inl .int, 12) := h.1 101 _ (by decide) rfl
theorem wa_102 (h : Wd σ) : σ.2.2.1[102]? = some (.inl .long, 5544) := h.1 102 _ (by decide) rfl
theorem wa_103 (h : Wd σ) : σ.2.2.1[103]? = some (.inl .long, 5544) := h.1 103 _ (by decide) rfl
theorem wa_104 (h : Wd σ) : σ.2.2.1[104]? = some (.inl .int, 64) := h.1 104 _ (by decide) rfl
theorem wa_105 (h : Wd σ) : σ.2.2.1[105]? = some (.inl .int, 8) := h.1 105 _ (by decide) rfl
theorem wa_106 (h : Wd σ) : σ.2.2.1[106]? = some (.inl .int, 8) := h.1 106 _ (by decide) rfl
theorem wr_2_0 (h : Wd σ) : σ.2.1 2 0 = some 3 := h.2 (2, 0, 3) (by decide)
theorem wr_2_1 (h : Wd σ) : σ.2.1 2 1 = some 4 := h.2 (2, 1, 4) (by decide)
theorem wr_2_2 (h : Wd σ) : σ.2.1 2 2 = some 5 := h.2 (2, 2, 5) (by decide)
theorem wr_2_3 (h : Wd σ) : σ.2.1 2 3 = some 10 := h.2 (2, 3, 10) (by decide)
theorem wr_2_4 (h : Wd σ) : σ.2.1 2 4 = some 18 := h.2 (2, 4, 18) (by decide)
theorem wr_2_5 (h : Wd σ) : σ.2.1 2 5 = some 27 := h.2 (2, 5, 27) (by decide)
theorem wr_2_6 (h : Wd σ) : σ.2.1 2 6 = some 31 := h.2 (2, 6, 31) (by decide)
theorem wr_2_7 (h : Wd σ) : σ.2.1 2 7 = some 32 := h.2 (2, 7, 32) (by decide)
theorem wr_2_8 (h : Wd σ) : σ.2.1 2 8 = some 36 := h.2 (2, 8, 36) (by decide)
theorem wr_2_9 (h : Wd σ) : σ.2.1 2 9 = some 47 := h.2 (2, 9, 47) (by decide)
theorem wr_2_10 (h : Wd σ) : σ.2.1 2 10 = some 55 := h.2 (2, 10, 55) (by decide)
theorem wr_3_0 (h : Wd σ) : σ.2.1 3 0 = some 56 := h.2 (3, 0, 56) (by decide)
theorem wr_3_1 (h : Wd σ) : σ.2.1 3 1 = some 58 := h.2 (3, 1, 58) (by decide)
theorem wr_3_2 (h : Wd σ) : σ.2.1 3 2 = some 60 := h.2 (3, 2, 60) (by decide)
theorem wr_3_3 (h : Wd σ) : σ.2.1 3 3 = some 62 := h.2 (3, 3, 62) (by decide)
theorem wr_3_4 (h : Wd σ) : σ.2.1 3 4 = some 64 := h.2 (3, 4, 64) (by decide)
theorem wr_3_5 (h : Wd σ) : σ.2.1 3 5 = some 66 := h.2 (3, 5, 66) (by decide)
theorem wr_4_0 (h : Wd σ) : σ.2.1 4 0 = some 68 := h.2 (4, 0, 68) (by decide)
theorem wr_4_1 (h : Wd σ) : σ.2.1 4 1 = some 70 := h.2 (4, 1, 70) (by decide)
theorem wr_4_2 (h : Wd σ) : σ.2.1 4 2 = some 72 := h.2 (4, 2, 72) (by decide)
theorem wr_4_3 (h : Wd σ) : σ.2.1 4 3 = some 74 := h.2 (4, 3, 74) (by decide)
theorem wr_5_1 (h : Wd σ) : σ.2.1 5 1 = some 6 := h.2 (5, 1, 6) (by decide)
theorem wr_5_2 (h : Wd σ) : σ.2.1 5 2 = some 7 := h.2 (5, 2, 7) (by decide)
theorem wr_5_3 (h : Wd σ) : σ.2.1 5 3 = some 8 := h.2 (5, 3, 8) (by decide)
theorem wr_5_5 (h : Wd σ) : σ.2.1 5 5 = some 9 := h.2 (5, 5, 9) (by decide)
theorem wr_10_2 (h : Wd σ) : σ.2.1 10 2 = some 13 := h.2 (10, 2, 13) (by decide)
theorem wr_11_0 (h : Wd σ) : σ.2.1 11 0 = some 12 := h.2 (11, 0, 12) (by decide)
theorem wr_13_1 (h : Wd σ) : σ.2.1 13 1 = some 14 := h.2 (13, 1, 14) (by decide)
theorem wr_13_2 (h : Wd σ) : σ.2.1 13 2 = some 15 := h.2 (13, 2, 15) (by decide)
theorem wr_13_3 (h : Wd σ) : σ.2.1 13 3 = some 16 := h.2 (13, 3, 16) (by decide)
theorem wr_13_5 (h : Wd σ) : σ.2.1 13 5 = some 17 := h.2 (13, 5, 17) (by decide)
theorem wr_18_0 (h : Wd σ) : σ.2.1 18 0 = some 5 := h.2 (18, 0, 5) (by decide)
theorem wr_18_2 (h : Wd σ) : σ.2.1 18 2 = some 19 := h.2 (18, 2, 19) (by decide)
theorem wr_18_3 (h : Wd σ) : σ.2.1 18 3 = some 20 := h.2 (18, 3, 20) (by decide)
theorem wr_18_4 (h : Wd σ) : σ.2.1 18 4 = some 21 := h.2 (18, 4, 21) (by decide)
theorem wr_18_5 (h : Wd σ) : σ.2.1 18 5 = some 22 := h.2 (18, 5, 22) (by decide)
theorem wr_18_6 (h : Wd σ) : σ.2.1 18 6 = some 23 := h.2 (18, 6, 23) (by decide)
theorem wr_18_7 (h : Wd σ) : σ.2.1 18 7 = some 24 := h.2 (18, 7, 24) (by decide)
theorem wr_18_8 (h : Wd σ) : σ.2.1 18 8 = some 25 := h.2 (18, 8, 25) (by decide)
theorem wr_18_9 (h : Wd σ) : σ.2.1 18 9 = some 26 := h.2 (18, 9, 26) (by decide)
theorem wr_27_1 (h : Wd σ) : σ.2.1 27 1 = some 28 := h.2 (27, 1, 28) (by decide)
theorem wr_27_2 (h : Wd σ) : σ.2.1 27 2 = some 29 := h.2 (27, 2, 29) (by decide)
theorem wr_27_3 (h : Wd σ) : σ.2.1 27 3 = some 30 := h.2 (27, 3, 30) (by decide)
theorem wr_31_0 (h : Wd σ) : σ.2.1 31 0 = some 5 := h.2 (31, 0, 5) (by decide)
theorem wr_31_1 (h : Wd σ) : σ.2.1 31 1 = some 18 := h.2 (31, 1, 18) (by decide)
theorem wr_31_2 (h : Wd σ) : σ.2.1 31 2 = some 27 := h.2 (31, 2, 27) (by decide)
theorem wr_32_0 (h : Wd σ) : σ.2.1 32 0 = some 5 := h.2 (32, 0, 5) (by decide)
theorem wr_32_1 (h : Wd σ) : σ.2.1 32 1 = some 18 := h.2 (32, 1, 18) (by decide)
theorem wr_32_2 (h : Wd σ) : σ.2.1 32 2 = some 33 := h.2 (32, 2, 33) (by decide)
theorem wr_32_4 (h : Wd σ) : σ.2.1 32 4 = some 35 := h.2 (32, 4, 35) (by decide)
theorem wr_36_0 (h : Wd σ) : σ.2.1 36 0 = some 18 := h.2 (36, 0, 18) (by decide)
theorem wr_36_1 (h : Wd σ) : σ.2.1 36 1 = some 27 := h.2 (36, 1, 27) (by decide)
theorem wr_36_2 (h : Wd σ) : σ.2.1 36 2 = some 31 := h.2 (36, 2, 31) (by decide)
theorem wr_36_3 (h : Wd σ) : σ.2.1 36 3 = some 32 := h.2 (36, 3, 32) (by decide)
theorem wr_36_8 (h : Wd σ) : σ.2.1 36 8 = some 37 := h.2 (36, 8, 37) (by decide)
theorem wr_36_9 (h : Wd σ) : σ.2.1 36 9 = some 38 := h.2 (36, 9, 38) (by decide)
theorem wr_36_10 (h : Wd σ) : σ.2.1 36 10 = some 39 := h.2 (36, 10, 39) (by decide)
theorem wr_36_11 (h : Wd σ) : σ.2.1 36 11 = some 40 := h.2 (36, 11, 40) (by decide)
theorem wr_36_12 (h : Wd σ) : σ.2.1 36 12 = some 41 := h.2 (36, 12, 41) (by decide)
theorem wr_36_13 (h : Wd σ) : σ.2.1 36 13 = some 42 := h.2 (36, 13, 42) (by decide)
theorem wr_36_14 (h : Wd σ) : σ.2.1 36 14 = some 43 := h.2 (36, 14, 43) (by decide)
theorem wr_36_15 (h : Wd σ) : σ.2.1 36 15 = some 44 := h.2 (36, 15, 44) (by decide)
theorem wr_36_16 (h : Wd σ) : σ.2.1 36 16 = some 45 := h.2 (36, 16, 45) (by decide)
theorem wr_36_17 (h : Wd σ) : σ.2.1 36 17 = some 46 := h.2 (36, 17, 46) (by decide)
theorem wr_47_0 (h : Wd σ) : σ.2.1 47 0 = some 5 := h.2 (47, 0, 5) (by decide)
theorem wr_47_1 (h : Wd σ) : σ.2.1 47 1 = some 27 := h.2 (47, 1, 27) (by decide)
theorem wr_47_3 (h : Wd σ) : σ.2.1 47 3 = some 48 := h.2 (47, 3, 48) (by decide)
theorem wr_47_4 (h : Wd σ) : σ.2.1 47 4 = some 49 := h.2 (47, 4, 49) (by decide)
theorem wr_47_5 (h : Wd σ) : σ.2.1 47 5 = some 50 := h.2 (47, 5, 50) (by decide)
theorem wr_47_6 (h : Wd σ) : σ.2.1 47 6 = some 51 := h.2 (47, 6, 51) (by decide)
theorem wr_47_7 (h : Wd σ) : σ.2.1 47 7 = some 52 := h.2 (47, 7, 52) (by decide)
theorem wr_47_8 (h : Wd σ) : σ.2.1 47 8 = some 53 := h.2 (47, 8, 53) (by decide)
theorem wr_47_9 (h : Wd σ) : σ.2.1 47 9 = some 54 := h.2 (47, 9, 54) (by decide)
theorem wr_56_0 (h : Wd σ) : σ.2.1 56 0 = some 57 := h.2 (56, 0, 57) (by decide)
theorem wr_58_0 (h : Wd σ) : σ.2.1 58 0 = some 59 := h.2 (58, 0, 59) (by decide)
theorem wr_60_0 (h : Wd σ) : σ.2.1 60 0 = some 61 := h.2 (60, 0, 61) (by decide)
theorem wr_62_0 (h : Wd σ) : σ.2.1 62 0 = some 63 := h.2 (62, 0, 63) (by decide)
theorem wr_64_0 (h : Wd σ) : σ.2.1 64 0 = some 65 := h.2 (64, 0, 65) (by decide)
theorem wr_66_0 (h : Wd σ) : σ.2.1 66 0 = some 67 := h.2 (66, 0, 67) (by decide)
theorem wr_68_0 (h : Wd σ) : σ.2.1 68 0 = some 69 := h.2 (68, 0, 69) (by decide)
theorem wr_70_0 (h : Wd σ) : σ.2.1 70 0 = some 71 := h.2 (70, 0, 71) (by decide)
theorem wr_72_0 (h : Wd σ) : σ.2.1 72 0 = some 73 := h.2 (72, 0, 73) (by decide)
theorem wr_74_0 (h : Wd σ) : σ.2.1 74 0 = some 75 := h.2 (74, 0, 75) (by decide)
theorem wr_76_1 (h : Wd σ) : σ.2.1 76 1 = some 77 := h.2 (76, 1, 77) (by decide)
theorem wr_76_6 (h : Wd σ) : σ.2.1 76 6 = some 78 := h.2 (76, 6, 78) (by decide)
theorem wr_76_7 (h : Wd σ) : σ.2.1 76 7 = some 79 := h.2 (76, 7, 79) (by decide)
theorem wr_76_8 (h : Wd σ) : σ.2.1 76 8 = some 80 := h.2 (76, 8, 80) (by decide)
theorem wr_76_9 (h : Wd σ) : σ.2.1 76 9 = some 81 := h.2 (76, 9, 81) (by decide)
theorem wr_76_10 (h : Wd σ) : σ.2.1 76 10 = some 82 := h.2 (76, 10, 82) (by decide)
theorem wr_76_12 (h : Wd σ) : σ.2.1 76 12 = some 83 := h.2 (76, 12, 83) (by decide)
theorem wr_76_13 (h : Wd σ) : σ.2.1 76 13 = some 84 := h.2 (76, 13, 84) (by decide)
theorem wr_76_14 (h : Wd σ) : σ.2.1 76 14 = some 85 := h.2 (76, 14, 85) (by decide)
theorem wr_76_16 (h : Wd σ) : σ.2.1 76 16 = some 86 := h.2 (76, 16, 86) (by decide)
theorem wr_76_18 (h : Wd σ) : σ.2.1 76 18 = some 87 := h.2 (76, 18, 87) (by decide)
theorem wr_76_19 (h : Wd σ) : σ.2.1 76 19 = some 88 := h.2 (76, 19, 88) (by decide)
theorem wr_76_20 (h : Wd σ) : σ.2.1 76 20 = some 89 := h.2 (76, 20, 89) (by decide)
theorem wr_76_22 (h : Wd σ) : σ.2.1 76 22 = some 90 := h.2 (76, 22, 90) (by decide)
theorem wr_76_26 (h : Wd σ) : σ.2.1 76 26 = some 91 := h.2 (76, 26, 91) (by decide)
theorem wr_76_28 (h : Wd σ) : σ.2.1 76 28 = some 92 := h.2 (76, 28, 92) (by decide)
theorem wr_76_29 (h : Wd σ) : σ.2.1 76 29 = some 93 := h.2 (76, 29, 93) (by decide)
theorem wr_76_32 (h : Wd σ) : σ.2.1 76 32 = some 94 := h.2 (76, 32, 94) (by decide)
theorem wr_76_33 (h : Wd σ) : σ.2.1 76 33 = some 95 := h.2 (76, 33, 95) (by decide)
theorem wr_76_34 (h : Wd σ) : σ.2.1 76 34 = some 96 := h.2 (76, 34, 96) (by decide)
theorem wr_76_35 (h : Wd σ) : σ.2.1 76 35 = some 97 := h.2 (76, 35, 97) (by decide)
theorem wr_76_36 (h : Wd σ) : σ.2.1 76 36 = some 98 := h.2 (76, 36, 98) (by decide)
theorem wr_76_37 (h : Wd σ) : σ.2.1 76 37 = some 99 := h.2 (76, 37, 99) (by decide)
theorem wr_76_38 (h : Wd σ) : σ.2.1 76 38 = some 100 := h.2 (76, 38, 100) (by decide)
theorem wr_76_40 (h : Wd σ) : σ.2.1 76 40 = some 101 := h.2 (76, 40, 101) (by decide)
theorem wr_76_41 (h : Wd σ) : σ.2.1 76 41 = some 102 := h.2 (76, 41, 102) (by decide)
theorem wr_76_42 (h : Wd σ) : σ.2.1 76 42 = some 103 := h.2 (76, 42, 103) (by decide)
theorem wr_76_44 (h : Wd σ) : σ.2.1 76 44 = some 104 := h.2 (76, 44, 104) (by decide)
theorem wr_76_45 (h : Wd σ) : σ.2.1 76 45 = some 105 := h.2 (76, 45, 105) (by decide)
theorem wr_76_46 (h : Wd σ) : σ.2.1 76 46 = some 106 := h.2 (76, 46, 106) (by decide)
theorem wo_row (h : Wd σ) : ∀ r : Nat, r < 6 → am_isO σ (56 + 2 * r) 6 = true
  | 0, _ => wo_56 h
  | 1, _ => wo_58 h
  | 2, _ => wo_60 h
  | 3, _ => wo_62 h
  | 4, _ => wo_64 h
  | 5, _ => wo_66 h
  | r + 6, h => absurd h (by omega)
theorem wo_txt (h : Wd σ) : ∀ r : Nat, r < 4 → am_isO σ (68 + 2 * r) 6 = true
  | 0, _ => wo_68 h
  | 1, _ => wo_70 h
  | 2, _ => wo_72 h
  | 3, _ => wo_74 h
  | r + 4, h => absurd h (by omega)
theorem wr_rows (h : Wd σ) : ∀ r : Nat, r < 6 → σ.2.1 3 r = some (56 + 2 * r)
  | 0, _ => wr_3_0 h
  | 1, _ => wr_3_1 h
  | 2, _ => wr_3_2 h
  | 3, _ => wr_3_3 h
  | 4, _ => wr_3_4 h
  | 5, _ => wr_3_5 h
  | r + 6, h => absurd h (by omega)
theorem wr_txts (h : Wd σ) : ∀ r : Nat, r < 4 → σ.2.1 4 r = some (68 + 2 * r)
  | 0, _ => wr_4_0 h
  | 1, _ => wr_4_1 h
  | 2, _ => wr_4_2 h
  | 3, _ => wr_4_3 h
  | r + 4, h => absurd h (by omega)
theorem wr_row (h : Wd σ) : ∀ r : Nat, r < 6 → σ.2.1 (56 + 2 * r) 0 = some (57 + 2 * r)
  | 0, _ => wr_56_0 h
  | 1, _ => wr_58_0 h
  | 2, _ => wr_60_0 h
  | 3, _ => wr_62_0 h
  | 4, _ => wr_64_0 h
  | 5, _ => wr_66_0 h
  | r + 6, h => absurd h (by omega)
theorem wr_txt (h : Wd σ) : ∀ r : Nat, r < 4 → σ.2.1 (68 + 2 * r) 0 = some (69 + 2 * r)
  | 0, _ => wr_68_0 h
  | 1, _ => wr_70_0 h
  | 2, _ => wr_72_0 h
  | 3, _ => wr_74_0 h
  | r + 4, h => absurd h (by omega)
theorem wa_row (h : Wd σ) : ∀ r : Nat, r < 6 → σ.2.2.1[57 + 2 * r]? = some (.inl .int, 40)
  | 0, _ => wa_57 h
  | 1, _ => wa_59 h
  | 2, _ => wa_61 h
  | 3, _ => wa_63 h
  | 4, _ => wa_65 h
  | 5, _ => wa_67 h
  | r + 6, h => absurd h (by omega)
theorem wa_txt (h : Wd σ) : ∀ r : Nat, r < 4 → σ.2.2.1[69 + 2 * r]? = some (.inl .int, 120)
  | 0, _ => wa_69 h
  | 1, _ => wa_71 h
  | 2, _ => wa_73 h
  | 3, _ => wa_75 h
  | r + 4, h => absurd h (by omega)
end WDS
theorem cpy_ex (σ : am_S) (a sp b dp n : Nat) : ∃ σ', Fr [b] σ σ' ∧ (∀ j, σ'.1 b j = if dp ≤ j ∧ j < dp + n then σ.1 a (sp + (j - dp)) else σ.1 b j) ∧ am_cpy σ a sp b dp n = σ' :=
  ⟨am_cpy σ a sp b dp n, ⟨rfl, fun c hc j => if_neg (c := c = b ∧ dp ≤ j ∧ j < dp + n) (fun e => hc (by rw [e.1]; exact List.mem_singleton.mpr rfl))⟩, fun j => by simp [am_cpy], rfl⟩
theorem am_setR_rd {σ : am_S} {a k : Nat} {r : Option Nat} : (am_setR σ a k r).2.1 a k = r := if_pos ⟨rfl, rfl⟩
theorem am_setR_ne {σ : am_S} {a k b j : Nat} {r : Option Nat} (h : ¬ (b = a ∧ j = k)) : (am_setR σ a k r).2.1 b j = σ.2.1 b j := if_neg h
theorem Wd.src {σ : am_S} {b : Nat} (hW : Wd σ) : Wd (am_setR σ 10 0 (some b)) :=
  ⟨hW.1, fun p hp => (if_neg (c := p.1 = 10 ∧ p.2.1 = 0) ((by decide : ∀ p ∈ wd_rf, ¬ (p.1 = 10 ∧ p.2.1 = 0)) p hp)).trans (hW.2 p hp)⟩
theorem Wd.knw {σ : am_S} {b : Nat} (hW : Wd σ) : Wd (am_setR σ 32 3 (some b)) :=
  ⟨hW.1, fun p hp => (if_neg (c := p.1 = 32 ∧ p.2.1 = 3) ((by decide : ∀ p ∈ wd_rf, ¬ (p.1 = 32 ∧ p.2.1 = 3)) p hp)).trans (hW.2 p hp)⟩
/-! sums, the greatest, how many -/
def sumN : Nat → (Nat → Int) → Int
  | 0, _ => 0
  | n + 1, f => sumN n f + f n
def maxN : Nat → (Nat → Int) → Int
  | 0, _ => 0
  | n + 1, f => if maxN n f < f n then f n else maxN n f
theorem sumN_congr {f g : Nat → Int} : ∀ {n : Nat}, (∀ i, i < n → f i = g i) → sumN n f = sumN n g
  | 0, _ => rfl
  | n + 1, h => by
    unfold sumN
    rw [sumN_congr (fun i hi => h i (Nat.lt_succ_of_lt hi)), h n (Nat.lt_succ_self n)]
theorem maxN_congr {f g : Nat → Int} : ∀ {n : Nat}, (∀ i, i < n → f i = g i) → maxN n f = maxN n g
  | 0, _ => rfl
  | n + 1, h => by
    unfold maxN
    rw [maxN_congr (fun i hi => h i (Nat.lt_succ_of_lt hi)), h n (Nat.lt_succ_self n)]
theorem sumN_bd {f : Nat → Int} {a b : Int} : ∀ {n : Nat}, (∀ i, i < n → a ≤ f i ∧ f i ≤ b) → (n : Int) * a ≤ sumN n f ∧ sumN n f ≤ (n : Int) * b
  | 0, _ => by simp [sumN]
  | n + 1, h => by
    have h1 := sumN_bd (fun i hi => h i (Nat.lt_succ_of_lt hi))
    have h2 := h n (Nat.lt_succ_self n)
    unfold sumN
    have e1 : ((n + 1 : Nat) : Int) * a = (n : Int) * a + a := by rw [Int.natCast_add, Int.add_mul]; simp
    have e2 : ((n + 1 : Nat) : Int) * b = (n : Int) * b + b := by rw [Int.natCast_add, Int.add_mul]; simp
    omega
theorem mul_bd {a b A B : Int} (ha : 0 ≤ a) (hA : a ≤ A) (hb : 0 ≤ b) (hB : b ≤ B) : 0 ≤ a * b ∧ a * b ≤ A * B :=
  ⟨Int.mul_nonneg ha hb, Int.le_trans (Int.mul_le_mul_of_nonneg_right hA hb) (Int.mul_le_mul_of_nonneg_left hB (Int.le_trans ha hA))⟩
end
section
/-! SMALL QUESTIONS, STRIPS -/
theorem am_set_rd {σ : am_S} {a k : Nat} {x : Int} : (am_set σ a k x).1 a k = x := if_pos ⟨rfl, rfl⟩
theorem am_set_at {σ : am_S} {a k j : Nat} {x : Int} : (am_set σ a k x).1 a j = if j = k then x else σ.1 a j := by simp [am_set]
theorem fill_step {σ1 : am_S} {p i : Nat} {v : Int} {g : Nat → Int} (h : ∀ j, σ1.1 p j = if j < i then v else g j) : ∀ j, (am_set σ1 p i v).1 p j = if j < i + 1 then v else g j := by
  intro j
  rw [am_set_at, h j]
  by_cases h1 : j = i
  · rw [if_pos h1, if_pos (by omega)]
  · rw [if_neg h1]
    by_cases h2 : j < i
    · rw [if_pos h2, if_pos (by omega)]
    · rw [if_neg h2, if_neg (by omega)]
theorem fillr_step {σ1 : am_S} {p i lo : Nat} {v : Int} {g : Nat → Int} (hlo : lo ≤ i) (h : ∀ j, σ1.1 p j = if lo ≤ j ∧ j < i then v else g j) : ∀ j, (am_set σ1 p i v).1 p j = if lo ≤ j ∧ j < i + 1 then v else g j := by
  intro j
  rw [am_set_at, h j]
  by_cases h1 : j = i
  · rw [if_pos h1, if_pos (by omega)]
  · rw [if_neg h1]
    by_cases h2 : lo ≤ j ∧ j < i
    · rw [if_pos h2, if_pos (by omega)]
    · rw [if_neg h2, if_neg (by omega)]
/-- the row of a digest -/
def dgN : Nat → Int → (Nat → Int) → Int
  | 0, h, _ => h
  | n + 1, h, f => w64 (w64 (31 * dgN n h f) + f n)
theorem dgN_congr {f g : Nat → Int} {h : Int} : ∀ {n : Nat}, (∀ i, i < n → f i = g i) → dgN n h f = dgN n h g
  | 0, _ => rfl
  | n + 1, e => by
    unfold dgN
    rw [dgN_congr (fun i hi => e i (Nat.lt_succ_of_lt hi)), e n (Nat.lt_succ_self n)]
/-- the row of a sum of longs -/
def lsN : Nat → (Nat → Int) → Int
  | 0, _ => 0
  | n + 1, f => w64 (lsN n f + f n)
theorem lsN_congr {f g : Nat → Int} : ∀ {n : Nat}, (∀ i, i < n → f i = g i) → lsN n f = lsN n g
  | 0, _ => rfl
  | n + 1, e => by
    unfold lsN
    rw [lsN_congr (fun i hi => e i (Nat.lt_succ_of_lt hi)), e n (Nat.lt_succ_self n)]
theorem c23 (σ : am_S) (v most : Int) : CC 23 [vI (v), vI (most)] σ (fun r σ' => σ' = σ ∧ ((0 ≤ v ∧ v ≤ most) ∧ r = some (vI 1) ∨ ¬(0 ≤ v ∧ v ≤ most) ∧ r = some (vI 0))) := by
  show TT am_b23 (am_b23.getD 0 []) [(0, vI (v)), (1, vI (most))] [] σ _
  refine tt_ar rfl ?_
  refine tt_iflt (fun h0_1 => ?_) (fun h0_1 => ?_)
  · refine tt_ar rfl ?_
    refine tt_nop ?_
    refine tt_zret (by omega) ?_
    exact ⟨rfl, Or.inr ⟨by omega, rfl⟩⟩
  · refine tt_ar rfl ?_
    refine tt_ar rfl ?_
    refine tt_icgt (fun h0_4 => ?_) (fun h0_4 => ?_)
    · refine tt_ar rfl ?_
      refine tt_nop ?_
      refine tt_zret (by omega) ?_
      exact ⟨rfl, Or.inr ⟨by omega, rfl⟩⟩
    · refine tt_ar rfl ?_
      refine tt_goto ?_
      refine tt_zret (by omega) ?_
      exact ⟨rfl, Or.inl ⟨by omega, rfl⟩⟩

theorem c22 (σ : am_S) (v : Int) : CC 22 [vI (v)] σ (fun r σ' => σ' = σ ∧ ((0 ≤ v ∧ v ≤ 5) ∧ r = some (vI 1) ∨ ¬(0 ≤ v ∧ v ≤ 5) ∧ r = some (vI 0))) := by
  show TT am_b22 (am_b22.getD 0 []) [(0, vI (v))] [] σ _
  refine tt_ar rfl ?_
  refine tt_ar rfl ?_
  refine tt_cs2 2 rfl (c23 _ _ _) (kb (fun h0_2 => ?_) (fun h0_2 => ?_))
  · refine tt_zret (by omega) ?_
    exact ⟨rfl, Or.inl ⟨by omega, rfl⟩⟩
  · refine tt_zret (by omega) ?_
    exact ⟨rfl, Or.inr ⟨by omega, rfl⟩⟩

theorem c38 (σ : am_S) (v : Int) : CC 38 [vI (v)] σ (fun r σ' => σ' = σ ∧ ((0 ≤ v ∧ v ≤ 3) ∧ r = some (vI 1) ∨ ¬(0 ≤ v ∧ v ≤ 3) ∧ r = some (vI 0))) := by
  show TT am_b38 (am_b38.getD 0 []) [(0, vI (v))] [] σ _
  refine tt_ar rfl ?_
  refine tt_ar rfl ?_
  refine tt_cs2 2 rfl (c23 _ _ _) (kb (fun h0_2 => ?_) (fun h0_2 => ?_))
  · refine tt_zret (by omega) ?_
    exact ⟨rfl, Or.inl ⟨by omega, rfl⟩⟩
  · refine tt_zret (by omega) ?_
    exact ⟨rfl, Or.inr ⟨by omega, rfl⟩⟩

theorem c57 (σ : am_S) (v : Int) : CC 57 [vI (v)] σ (fun r σ' => σ' = σ ∧ ((0 ≤ v ∧ v ≤ 7) ∧ r = some (vI 1) ∨ ¬(0 ≤ v ∧ v ≤ 7) ∧ r = some (vI 0))) := by
  show TT am_b57 (am_b57.getD 0 []) [(0, vI (v))] [] σ _
  refine tt_ar rfl ?_
  refine tt_ar rfl ?_
  refine tt_cs2 2 rfl (c23 _ _ _) (kb (fun h0_2 => ?_) (fun h0_2 => ?_))
  · refine tt_zret (by omega) ?_
    exact ⟨rfl, Or.inl ⟨by omega, rfl⟩⟩
  · refine tt_zret (by omega) ?_
    exact ⟨rfl, Or.inr ⟨by omega, rfl⟩⟩

theorem c62 (σ : am_S) (v : Int) : CC 62 [vI (v)] σ (fun r σ' => σ' = σ ∧ ((0 ≤ v ∧ v ≤ 1) ∧ r = some (vI 1) ∨ ¬(0 ≤ v ∧ v ≤ 1) ∧ r = some (vI 0))) := by
  show TT am_b62 (am_b62.getD 0 []) [(0, vI (v))] [] σ _
  refine tt_ar rfl ?_
  refine tt_ar rfl ?_
  refine tt_cs2 2 rfl (c23 _ _ _) (kb (fun h0_2 => ?_) (fun h0_2 => ?_))
  · refine tt_zret (by omega) ?_
    exact ⟨rfl, Or.inl ⟨by omega, rfl⟩⟩
  · refine tt_zret (by omega) ?_
    exact ⟨rfl, Or.inr ⟨by omega, rfl⟩⟩

theorem c56 (σ : am_S) (v n : Int) (hW : Wd σ) (hn : σ.1 5 0 = n) (h0 : 0 ≤ n) (h1 : n ≤ 6) : CC 56 [vR 2, vI (v)] σ (fun r σ' => σ' = σ ∧ ((0 ≤ v ∧ v < n) ∧ r = some (vI 1) ∨ ¬(0 ≤ v ∧ v < n) ∧ r = some (vI 0))) := by
  show TT am_b56 (am_b56.getD 0 []) [(0, vR 2), (1, vI (v))] [] σ _
  refine tt_ar rfl ?_
  refine tt_ar rfl ?_
  refine tt_getR (wo_2 hW) rfl (wr_2_2 hW) ?_
  refine tt_getI (x := n) (wo_5 hW) rfl hn ?_
  refine tt_ar rfl ?_
  refine tt_isub (by omega) (by omega) ?_
  refine tt_cs2 2 rfl (c23 _ _ _) (kb (fun h0_6 => ?_) (fun h0_6 => ?_))
  · refine tt_zret (by omega) ?_
    exact ⟨rfl, Or.inl ⟨by omega, rfl⟩⟩
  · refine tt_zret (by omega) ?_
    exact ⟨rfl, Or.inr ⟨by omega, rfl⟩⟩

theorem c66 (σ : am_S) (v n : Int) (hW : Wd σ) (hn : σ.1 27 0 = n) (h0 : 0 ≤ n) (h1 : n ≤ 12) : CC 66 [vR 2, vI (v)] σ (fun r σ' => σ' = σ ∧ ((0 ≤ v ∧ v < n) ∧ r = some (vI 1) ∨ ¬(0 ≤ v ∧ v < n) ∧ r = some (vI 0))) := by
  show TT am_b66 (am_b66.getD 0 []) [(0, vR 2), (1, vI (v))] [] σ _
  refine tt_ar rfl ?_
  refine tt_ar rfl ?_
  refine tt_getR (wo_2 hW) rfl (wr_2_5 hW) ?_
  refine tt_getI (x := n) (wo_27 hW) rfl hn ?_
  refine tt_ar rfl ?_
  refine tt_isub (by omega) (by omega) ?_
  refine tt_cs2 2 rfl (c23 _ _ _) (kb (fun h0_6 => ?_) (fun h0_6 => ?_))
  · refine tt_zret (by omega) ?_
    exact ⟨rfl, Or.inl ⟨by omega, rfl⟩⟩
  · refine tt_zret (by omega) ?_
    exact ⟨rfl, Or.inr ⟨by omega, rfl⟩⟩

theorem c133 (σ : am_S) (v n : Int) (hW : Wd σ) (hn : σ.1 47 2 = n) (h0 : 0 ≤ n) (h1 : n ≤ 16) : CC 133 [vR 2, vI (v)] σ (fun r σ' => σ' = σ ∧ ((0 ≤ v ∧ v < n) ∧ r = some (vI 1) ∨ ¬(0 ≤ v ∧ v < n) ∧ r = some (vI 0))) := by
  show TT am_b133 (am_b133.getD 0 []) [(0, vR 2), (1, vI (v))] [] σ _
  refine tt_ar rfl ?_
  refine tt_ar rfl ?_
  refine tt_getR (wo_2 hW) rfl (wr_2_9 hW) ?_
  refine tt_getI (x := n) (wo_47 hW) rfl hn ?_
  refine tt_ar rfl ?_
  refine tt_isub (by omega) (by omega) ?_
  refine tt_cs2 2 rfl (c23 _ _ _) (kb (fun h0_6 => ?_) (fun h0_6 => ?_))
  · refine tt_zret (by omega) ?_
    exact ⟨rfl, Or.inl ⟨by omega, rfl⟩⟩
  · refine tt_zret (by omega) ?_
    exact ⟨rfl, Or.inr ⟨by omega, rfl⟩⟩

theorem c24 (σ : am_S) (f : Nat) (hW : Wd σ) (h1 : f < 6) : CC 24 [vR 2, vI (((f : Nat) : Int))] σ (fun r σ' => σ' = am_set (am_set σ 2 11 (f : Int)) 55 f (w32 (σ.1 55 f + 1)) ∧ r = some (vI (-3))) := by
  show TT am_b24 (am_b24.getD 0 []) [(0, vR 2), (1, vI (((f : Nat) : Int)))] [] σ _
  refine tt_ar rfl ?_
  refine tt_ar rfl ?_
  refine tt_putI (wo_2 hW) rfl ?_
  refine tt_ar rfl ?_
  refine tt_getR (wo_2 hW) rfl (wr_2_10 hW) ?_
  refine tt_ar rfl ?_
  refine tt_ar rfl ?_
  refine tt_iald (f) (x := σ.1 55 (f)) (wa_55 hW) rfl (by omega) rfl ?_
  refine tt_ar rfl ?_
  refine tt_ar rfl ?_
  refine tt_iast (f) (wa_55 hW) (by omega) rfl (by omega) ?_
  refine tt_ar rfl ?_
  refine tt_iret ?_
  exact ⟨rfl, rfl⟩

theorem c30 (σ : am_S) (x y : Int) (hW : Wd σ) : CC 30 [vR 2, vI (x), vI (y)] σ (fun r σ' => σ' = am_set σ 2 12 x ∧ r = some (vI y)) := by
  show TT am_b30 (am_b30.getD 0 []) [(0, vR 2), (1, vI (x)), (2, vI (y))] [] σ _
  refine tt_ar rfl ?_
  refine tt_ar rfl ?_
  refine tt_putI (wo_2 hW) rfl ?_
  refine tt_ar rfl ?_
  refine tt_iret ?_
  exact ⟨rfl, rfl⟩

theorem c27 (σ : am_S) (s : Nat) (hO : am_isO σ s 6 = true) : CC 27 [vR s] σ (fun r σ' => σ' = σ ∧ ((σ.1 s 1 < 0) ∧ r = some (vI 1) ∨ ¬(σ.1 s 1 < 0) ∧ r = some (vI 0))) := by
  show TT am_b27 (am_b27.getD 0 []) [(0, vR s)] [] σ _
  refine tt_ar rfl ?_
  refine tt_getI (x := σ.1 s (1)) hO rfl rfl ?_
  refine tt_ifge (fun h0_2 => ?_) (fun h0_2 => ?_)
  · refine tt_ar rfl ?_
    refine tt_nop ?_
    refine tt_zret (by omega) ?_
    exact ⟨rfl, Or.inr ⟨by omega, rfl⟩⟩
  · refine tt_ar rfl ?_
    refine tt_goto ?_
    refine tt_zret (by omega) ?_
    exact ⟨rfl, Or.inl ⟨by omega, rfl⟩⟩

theorem c28 (σ : am_S) (s : Nat) (i : Int) (hO : am_isO σ s 6 = true) : CC 28 [vR s, vI (i)] σ (fun r σ' => σ' = σ ∧ ((0 ≤ i ∧ i < σ.1 s 1) ∧ r = some (vI 1) ∨ ¬(0 ≤ i ∧ i < σ.1 s 1) ∧ r = some (vI 0))) := by
  show TT am_b28 (am_b28.getD 0 []) [(0, vR s), (1, vI (i))] [] σ _
  refine tt_ar rfl ?_
  refine tt_iflt (fun h0_1 => ?_) (fun h0_1 => ?_)
  · refine tt_ar rfl ?_
    refine tt_nop ?_
    refine tt_zret (by omega) ?_
    exact ⟨rfl, Or.inr ⟨by omega, rfl⟩⟩
  · refine tt_ar rfl ?_
    refine tt_ar rfl ?_
    refine tt_getI (x := σ.1 s (1)) hO rfl rfl ?_
    refine tt_icge (fun h0_5 => ?_) (fun h0_5 => ?_)
    · refine tt_ar rfl ?_
      refine tt_nop ?_
      refine tt_zret (by omega) ?_
      exact ⟨rfl, Or.inr ⟨by omega, rfl⟩⟩
    · refine tt_ar rfl ?_
      refine tt_goto ?_
      refine tt_zret (by omega) ?_
      exact ⟨rfl, Or.inl ⟨by omega, rfl⟩⟩

theorem c34 (σ : am_S) (s : Nat) (i n : Int) (hO : am_isO σ s 6 = true) (h0 : 0 ≤ n) (h1 : σ.1 s 1 ≤ 120) : CC 34 [vR s, vI (i), vI (n)] σ (fun r σ' => σ' = σ ∧ ((0 ≤ i ∧ n ≤ σ.1 s 1 ∧ i ≤ σ.1 s 1 - n) ∧ r = some (vI 1) ∨ ¬(0 ≤ i ∧ n ≤ σ.1 s 1 ∧ i ≤ σ.1 s 1 - n) ∧ r = some (vI 0))) := by
  show TT am_b34 (am_b34.getD 0 []) [(0, vR s), (1, vI (i)), (2, vI (n))] [] σ _
  refine tt_ar rfl ?_
  refine tt_iflt (fun h0_1 => ?_) (fun h0_1 => ?_)
  · refine tt_ar rfl ?_
    refine tt_nop ?_
    refine tt_zret (by omega) ?_
    exact ⟨rfl, Or.inr ⟨by omega, rfl⟩⟩
  · refine tt_ar rfl ?_
    refine tt_ar rfl ?_
    refine tt_getI (x := σ.1 s (1)) hO rfl rfl ?_
    refine tt_icgt (fun h0_5 => ?_) (fun h0_5 => ?_)
    · refine tt_ar rfl ?_
      refine tt_nop ?_
      refine tt_zret (by omega) ?_
      exact ⟨rfl, Or.inr ⟨by omega, rfl⟩⟩
    · refine tt_ar rfl ?_
      refine tt_ar rfl ?_
      refine tt_getI (x := σ.1 s (1)) hO rfl rfl ?_
      refine tt_ar rfl ?_
      refine tt_isub (by omega) (by omega) ?_
      refine tt_icgt (fun h0_11 => ?_) (fun h0_11 => ?_)
      · refine tt_ar rfl ?_
        refine tt_nop ?_
        refine tt_zret (by omega) ?_
        exact ⟨rfl, Or.inr ⟨by omega, rfl⟩⟩
      · refine tt_ar rfl ?_
        refine tt_goto ?_
        refine tt_zret (by omega) ?_
        exact ⟨rfl, Or.inl ⟨by omega, rfl⟩⟩

theorem c29 (σ : am_S) (s p cap i : Nat) (v : Int) (hO : am_isO σ s 6 = true) (hp : σ.2.1 s 0 = some p) (hA : σ.2.2.1[p]? = some (.inl .int, cap)) (h2 : 2 ≤ p) (hi : i < cap) : CC 29 [vR s, vI (((i : Nat) : Int)), vI (v)] σ (fun r σ' => σ' = am_set σ p i v ∧ r = some (vI (σ.1 p i))) := by
  show TT am_b29 (am_b29.getD 0 []) [(0, vR s), (1, vI (((i : Nat) : Int))), (2, vI (v))] [] σ _
  refine tt_ar rfl ?_
  refine tt_getR hO rfl hp ?_
  refine tt_ar rfl ?_
  refine tt_iald (i) (x := σ.1 p (i)) hA rfl (by omega) rfl ?_
  refine tt_ar rfl ?_
  refine tt_ar rfl ?_
  refine tt_getR hO rfl hp ?_
  refine tt_ar rfl ?_
  refine tt_ar rfl ?_
  refine tt_iast (i) hA (by omega) rfl (by omega) ?_
  refine tt_ar rfl ?_
  refine tt_iret ?_
  exact ⟨rfl, rfl⟩

theorem c4 (σ : am_S) (p cap : Nat) (v : Int) (hA : σ.2.2.1[p]? = some (.inl .int, cap)) (h2 : 2 ≤ p) (hB : Nat.blt cap 1000000 = true) : CC 4 [vR p, vI (v)] σ (fun r σ' => r = none ∧ Fr [p] σ σ' ∧ ∀ j, σ'.1 p j = if j < cap then v else σ.1 p j) := by
  show TT am_b4 (am_b4.getD 0 []) [(0, vR p), (1, vI (v))] [] σ _
  have hB2 : cap < 1000000 := by simpa using hB
  refine tt_ar rfl ?_
  refine tt_ar rfl ?_
  refine tt_ar rfl ?_
  refine tt_alen hA hB ?_
  refine tt_ar rfl ?_
  refine tt_nop ?_
  have lp1_1 : ∀ (μ : Nat) (i : Nat) (σ1 : am_S), cap - i < μ → Fr [p] σ σ1 → (i ≤ cap) → (∀ j, σ1.1 p j = if j < i then v else σ.1 p j) → TT am_b4 (am_b4.getD 1 []) [(0, vR p), (1, vI (v)), (2, vI (((i : Nat) : Int))), (3, vI (((cap : Nat) : Int)))] [] σ1 (fun r σ' => r = none ∧ Fr [p] σ σ' ∧ ∀ j, σ'.1 p j = if j < cap then v else σ.1 p j) := by
    intro μ
    induction μ with
    | zero => intro i σ1 hμ; exact absurd hμ (Nat.not_lt_zero _)
    | succ μ ih1 =>
      intro i σ1 hμ hF_σ1 hi hC
      skip
      refine tt_ar rfl ?_
      refine tt_ar rfl ?_
      refine tt_icge (fun h1_2 => ?_) (fun h1_2 => ?_)
      · refine tt_vret ?_
        have e : i = cap := by omega
        subst e
        exact ⟨rfl, hF_σ1, hC⟩
      · refine tt_ar rfl ?_
        refine tt_ar rfl ?_
        refine tt_ar rfl ?_
        refine tt_iast (i) ((congrArg (fun z => z.2.1[p]?) hF_σ1.1).trans hA) (by omega) rfl (by omega) ?_
        refine tt_iinc (y := ((i + 1 : Nat) : Int)) rfl (iinc_fit (by omega) (by omega) (by omega)) ?_
        refine tt_goto ?_
        refine tt_loc [(0, vR p), (1, vI (v)), (2, vI (((i + 1 : Nat) : Int))), (3, vI (((cap : Nat) : Int)))] rfl rfl ⟨rfl, rfl, rfl, rfl, trivial⟩ ?_
        exact ih1 (i + 1) _ (by omega) (Fr.put (Fr.tr Fr.rf hF_σ1 (by simp)) (by simp)) (by omega) (fill_step hC)
  refine tt_loc [(0, vR p), (1, vI (v)), (2, vI (((0 : Nat) : Int))), (3, vI (((cap : Nat) : Int)))] rfl rfl ⟨rfl, rfl, lv_to rfl (by omega), rfl, trivial⟩ ?_
  exact lp1_1 _ (0) σ (Nat.lt_succ_self _) Fr.rf (by omega) (fun j => (if_neg (Nat.not_lt_zero j)).symm)

theorem c11 (σ : am_S) (n lo hi : Int) (h0 : 0 ≤ lo) (h1 : lo ≤ hi) (h2 : hi ≤ n) : CC 11 [vI (n), vI (lo), vI (hi)] σ (fun r σ' => σ' = σ ∧ r = none) := by
  show TT am_b11 (am_b11.getD 0 []) [(0, vI (n)), (1, vI (lo)), (2, vI (hi))] [] σ _
  refine tt_ar rfl ?_
  refine tt_ar rfl ?_
  refine tt_icle (fun h0_2 => ?_) (fun h0_2 => ?_)
  · refine tt_ar rfl ?_
    refine tt_ifge (fun h1_1 => ?_) (fun h1_1 => ?_)
    · refine tt_ar rfl ?_
      refine tt_ar rfl ?_
      refine tt_icle (fun h2_2 => ?_) (fun h2_2 => ?_)
      · refine tt_vret ?_
        exact ⟨rfl, rfl⟩
      · exfalso; omega
    · exfalso; omega
  · exfalso; omega

theorem c10 (σ : am_S) (p cap lo hi : Nat) (v : Int) (hA : σ.2.2.1[p]? = some (.inl .int, cap)) (h2 : 2 ≤ p) (hB : Nat.blt cap 1000000 = true) (hlo : lo ≤ hi) (hhi : hi ≤ cap) : CC 10 [vR p, vI (((lo : Nat) : Int)), vI (((hi : Nat) : Int)), vI (v)] σ (fun r σ' => r = none ∧ Fr [p] σ σ' ∧ ∀ j, σ'.1 p j = if lo ≤ j ∧ j < hi then v else σ.1 p j) := by
  show TT am_b10 (am_b10.getD 0 []) [(0, vR p), (1, vI (((lo : Nat) : Int))), (2, vI (((hi : Nat) : Int))), (3, vI (v))] [] σ _
  have hB2 : cap < 1000000 := by simpa using hB
  refine tt_ar rfl ?_
  refine tt_alen hA hB ?_
  refine tt_ar rfl ?_
  refine tt_ar rfl ?_
  refine tt_cs3 3 rfl (c11 _ _ _ _ (by omega) (by omega) (by omega)) (ksn ?_)
  refine tt_ar rfl ?_
  refine tt_ar rfl ?_
  refine tt_nop ?_
  have lp1_1 : ∀ (μ : Nat) (i : Nat) (σ1 : am_S), hi - i < μ → Fr [p] σ σ1 → (lo ≤ i) → (i ≤ hi) → (∀ j, σ1.1 p j = if lo ≤ j ∧ j < i then v else σ.1 p j) → TT am_b10 (am_b10.getD 1 []) [(0, vR p), (2, vI (((hi : Nat) : Int))), (3, vI (v)), (4, vI (((i : Nat) : Int)))] [] σ1 (fun r σ' => r = none ∧ Fr [p] σ σ' ∧ ∀ j, σ'.1 p j = if lo ≤ j ∧ j < hi then v else σ.1 p j) := by
    intro μ
    induction μ with
    | zero => intro i σ1 hμ; exact absurd hμ (Nat.not_lt_zero _)
    | succ μ ih1 =>
      intro i σ1 hμ hF_σ1 hi1 hi2 hC
      skip
      refine tt_ar rfl ?_
      refine tt_ar rfl ?_
      refine tt_icge (fun h1_2 => ?_) (fun h1_2 => ?_)
      · refine tt_vret ?_
        have e : i = hi := by omega
        subst e
        exact ⟨rfl, hF_σ1, hC⟩
      · refine tt_ar rfl ?_
        refine tt_ar rfl ?_
        refine tt_ar rfl ?_
        refine tt_iast (i) ((congrArg (fun z => z.2.1[p]?) hF_σ1.1).trans hA) (by omega) rfl (by omega) ?_
        refine tt_iinc (y := ((i + 1 : Nat) : Int)) rfl (iinc_fit (by omega) (by omega) (by omega)) ?_
        refine tt_goto ?_
        refine tt_loc [(0, vR p), (2, vI (((hi : Nat) : Int))), (3, vI (v)), (4, vI (((i + 1 : Nat) : Int)))] rfl rfl ⟨rfl, rfl, rfl, rfl, trivial⟩ ?_
        exact ih1 (i + 1) _ (by omega) (Fr.put (Fr.tr Fr.rf hF_σ1 (by simp)) (by simp)) (by omega) (by omega) (fillr_step hi1 hC)
  refine tt_loc [(0, vR p), (2, vI (((hi : Nat) : Int))), (3, vI (v)), (4, vI (((lo : Nat) : Int)))] rfl rfl ⟨rfl, rfl, rfl, rfl, trivial⟩ ?_
  exact lp1_1 _ (lo) σ (Nat.lt_succ_self _) Fr.rf (by omega) (by omega) (fun j => (if_neg (by omega)).symm)

theorem c25 (σ : am_S) (s p cap : Nat) (n v : Int) (hO : am_isO σ s 6 = true) (hp : σ.2.1 s 0 = some p) (hA : σ.2.2.1[p]? = some (.inl .int, cap)) (h2 : 2 ≤ p) (hB : Nat.blt cap 1000000 = true) (hne : s ≠ p) : CC 25 [vR s, vI (n), vI (v)] σ (fun r σ' => r = none ∧ Fr [s, p] σ σ' ∧ σ'.1 s 1 = n ∧ ∀ j, σ'.1 p j = if j < cap then v else σ.1 p j) := by
  show TT am_b25 (am_b25.getD 0 []) [(0, vR s), (1, vI (n)), (2, vI (v))] [] σ _
  refine tt_ar rfl ?_
  refine tt_ar rfl ?_
  refine tt_putI hO rfl ?_
  refine tt_ar rfl ?_
  refine tt_getR hO rfl hp ?_
  refine tt_ar rfl ?_
  refine tt_cs2 2 rfl (c4 _ p cap v hA h2 hB) ?_
  intro r0 σ2 hq0
  obtain ⟨rfl, hF2, hC⟩ := hq0
  have hW1 := True.intro
  refine tt_vret ?_
  refine ⟨rfl, Fr.tr (Fr.put Fr.rf (by simp)) hF2 (by simp), ?_, ?_⟩
  · rw [hF2.2 s (by simpa using hne) 1]; exact am_set_rd
  · intro j; rw [hC j]; split
    · rfl
    · exact if_neg (fun e => hne e.1.symm)

theorem c36 (σ : am_S) (s p cap n : Nat) (hO : am_isO σ s 6 = true) (hp : σ.2.1 s 0 = some p) (hA : σ.2.2.1[p]? = some (.inl .int, cap)) (h2 : 2 ≤ p) (hn : σ.1 s 1 = (n : Int)) (hc : n ≤ cap) (h120 : n ≤ 120) : CC 36 [vR s] σ (fun r σ' => r = some (vL (lsN n (σ.1 p))) ∧ σ' = σ) := by
  show TT am_b36 (am_b36.getD 0 []) [(0, vR s)] [] σ _
  refine tt_ar rfl ?_
  refine tt_ar rfl ?_
  refine tt_ar rfl ?_
  refine tt_ar rfl ?_
  refine tt_nop ?_
  have lp1_1 : ∀ (μ : Nat) (i : Nat), n - i < μ → (i ≤ n) → TT am_b36 (am_b36.getD 1 []) [(0, vR s), (1, vL (lsN i (σ.1 p))), (3, vI (((i : Nat) : Int)))] [] σ (fun r σ' => r = some (vL (lsN n (σ.1 p))) ∧ σ' = σ) := by
    intro μ
    induction μ with
    | zero => intro i hμ; exact absurd hμ (Nat.not_lt_zero _)
    | succ μ ih1 =>
      intro i hμ hi
      refine tt_ar rfl ?_
      refine tt_ar rfl ?_
      refine tt_getI (x := (n : Int)) hO rfl hn ?_
      refine tt_icge (fun h1_3 => ?_) (fun h1_3 => ?_)
      · refine tt_ar rfl ?_
        refine tt_lret ?_
        have e : i = n := by omega
        subst e
        exact ⟨rfl, rfl⟩
      · refine tt_ar rfl ?_
        refine tt_ar rfl ?_
        refine tt_getR hO rfl hp ?_
        refine tt_ar rfl ?_
        refine tt_iald (i) (x := σ.1 p (i)) hA rfl (by omega) rfl ?_
        refine tt_ar rfl ?_
        refine tt_bL (g := (fun a b => w64 (a + b))) (z := w64 (lsN i (σ.1 p) + σ.1 p (i))) rfl rfl ?_
        refine tt_ar rfl ?_
        refine tt_iinc (y := ((i + 1 : Nat) : Int)) rfl (iinc_fit (by omega) (by omega) (by omega)) ?_
        refine tt_goto ?_
        refine tt_loc [(0, vR s), (1, vL (lsN (i + 1) (σ.1 p))), (3, vI (((i + 1 : Nat) : Int)))] rfl rfl ⟨rfl, lv_toL rfl rfl, rfl, trivial⟩ ?_
        exact ih1 (i + 1) (by omega) (by omega)
  refine tt_loc [(0, vR s), (1, vL (lsN 0 (σ.1 p))), (3, vI (((0 : Nat) : Int)))] rfl rfl ⟨rfl, lv_toL rfl rfl, lv_to rfl (by omega), trivial⟩ ?_
  exact lp1_1 _ (0) (Nat.lt_succ_self _) (by omega)

theorem c171 (σ : am_S) (s p cap : Nat) (n h : Int) (hO : am_isO σ s 6 = true) (hp : σ.2.1 s 0 = some p) (hA : σ.2.2.1[p]? = some (.inl .int, cap)) (h2 : 2 ≤ p) (hn : σ.1 s 1 = n) (hc : n ≤ (cap : Int)) (h120 : n ≤ 120) : CC 171 [vR s, vL (h)] σ (fun r σ' => r = some (vL (dgN n.toNat (w64 (w64 (31 * h) + n)) (σ.1 p))) ∧ σ' = σ) := by
  show TT am_b171 (am_b171.getD 0 []) [(0, vR s), (1, vL (h))] [] σ _
  refine tt_ar rfl ?_
  refine tt_ar rfl ?_
  refine tt_bL (g := (fun a b => w64 (a * b))) (z := w64 (31 * h)) rfl rfl ?_
  refine tt_ar rfl ?_
  refine tt_getI (x := n) hO rfl hn ?_
  refine tt_ar rfl ?_
  refine tt_bL (g := (fun a b => w64 (a + b))) (z := w64 (w64 (31 * h) + n)) rfl rfl ?_
  refine tt_ar rfl ?_
  refine tt_ar rfl ?_
  refine tt_ar rfl ?_
  refine tt_nop ?_
  have lp1_1 : ∀ (μ : Nat) (i : Nat), n.toNat - i < μ → (i ≤ n.toNat) → TT am_b171 (am_b171.getD 1 []) [(0, vR s), (3, vL (dgN i (w64 (w64 (31 * h) + n)) (σ.1 p))), (5, vI (((i : Nat) : Int)))] [] σ (fun r σ' => r = some (vL (dgN n.toNat (w64 (w64 (31 * h) + n)) (σ.1 p))) ∧ σ' = σ) := by
    intro μ
    induction μ with
    | zero => intro i hμ; exact absurd hμ (Nat.not_lt_zero _)
    | succ μ ih1 =>
      intro i hμ hi
      refine tt_ar rfl ?_
      refine tt_ar rfl ?_
      refine tt_getI (x := n) hO rfl hn ?_
      refine tt_icge (fun h1_3 => ?_) (fun h1_3 => ?_)
      · refine tt_ar rfl ?_
        refine tt_lret ?_
        have e : i = n.toNat := by omega
        subst e
        exact ⟨rfl, rfl⟩
      · refine tt_ar rfl ?_
        refine tt_ar rfl ?_
        refine tt_bL (g := (fun a b => w64 (a * b))) (z := w64 (31 * dgN i (w64 (w64 (31 * h) + n)) (σ.1 p))) rfl rfl ?_
        refine tt_ar rfl ?_
        refine tt_getR hO rfl hp ?_
        refine tt_ar rfl ?_
        refine tt_iald (i) (x := σ.1 p (i)) hA rfl (by omega) rfl ?_
        refine tt_ar rfl ?_
        refine tt_bL (g := (fun a b => w64 (a + b))) (z := w64 (w64 (31 * dgN i (w64 (w64 (31 * h) + n)) (σ.1 p)) + σ.1 p (i))) rfl rfl ?_
        refine tt_ar rfl ?_
        refine tt_iinc (y := ((i + 1 : Nat) : Int)) rfl (iinc_fit (by omega) (by omega) (by omega)) ?_
        refine tt_goto ?_
        refine tt_loc [(0, vR s), (3, vL (dgN (i + 1) (w64 (w64 (31 * h) + n)) (σ.1 p))), (5, vI (((i + 1 : Nat) : Int)))] rfl rfl ⟨rfl, lv_toL rfl rfl, rfl, trivial⟩ ?_
        exact ih1 (i + 1) (by omega) (by omega)
  refine tt_loc [(0, vR s), (3, vL (dgN 0 (w64 (w64 (31 * h) + n)) (σ.1 p))), (5, vI (((0 : Nat) : Int)))] rfl rfl ⟨rfl, lv_toL rfl rfl, lv_to rfl (by omega), trivial⟩ ?_
  exact lp1_1 _ (0) (Nat.lt_succ_self _) (by omega)

theorem c63 (σ : am_S) (s p cap n : Nat) (m : Int) (hO : am_isO σ s 6 = true) (hp : σ.2.1 s 0 = some p) (hA : σ.2.2.1[p]? = some (.inl .int, cap)) (h2 : 2 ≤ p) (hn : σ.1 s 1 = (n : Int)) (hc : n ≤ cap) (h120 : n ≤ 120) : CC 63 [vR s, vI (m)] σ (fun r σ' => σ' = σ ∧ ((∀ j, j < n → 0 ≤ σ.1 p j ∧ σ.1 p j ≤ m) ∧ r = some (vI 1) ∨ ¬(∀ j, j < n → 0 ≤ σ.1 p j ∧ σ.1 p j ≤ m) ∧ r = some (vI 0))) := by
  show TT am_b63 (am_b63.getD 0 []) [(0, vR s), (1, vI (m))] [] σ _
  refine tt_ar rfl ?_
  refine tt_ar rfl ?_
  refine tt_nop ?_
  have lp1_1 : ∀ (μ : Nat) (i : Nat), n - i < μ → (i ≤ n) → (∀ j, j < i → 0 ≤ σ.1 p j ∧ σ.1 p j ≤ m) → TT am_b63 (am_b63.getD 1 []) [(0, vR s), (1, vI (m)), (2, vI (((i : Nat) : Int)))] [] σ (fun r σ' => σ' = σ ∧ ((∀ j, j < n → 0 ≤ σ.1 p j ∧ σ.1 p j ≤ m) ∧ r = some (vI 1) ∨ ¬(∀ j, j < n → 0 ≤ σ.1 p j ∧ σ.1 p j ≤ m) ∧ r = some (vI 0))) := by
    intro μ
    induction μ with
    | zero => intro i hμ; exact absurd hμ (Nat.not_lt_zero _)
    | succ μ ih1 =>
      intro i hμ hi hC
      refine tt_ar rfl ?_
      refine tt_ar rfl ?_
      refine tt_getI (x := (n : Int)) hO rfl hn ?_
      refine tt_icge (fun h1_3 => ?_) (fun h1_3 => ?_)
      · refine tt_ar rfl ?_
        refine tt_zret (by omega) ?_
        have e : i = n := by omega
        subst e
        exact ⟨rfl, Or.inl ⟨hC, rfl⟩⟩
      · refine tt_ar rfl ?_
        refine tt_getR hO rfl hp ?_
        refine tt_ar rfl ?_
        refine tt_iald (i) (x := σ.1 p (i)) hA rfl (by omega) rfl ?_
        refine tt_iflt (fun h1_8 => ?_) (fun h1_8 => ?_)
        · refine tt_ar rfl ?_
          refine tt_zret (by omega) ?_
          exact ⟨rfl, Or.inr ⟨fun h => by have := h i (by omega); omega, rfl⟩⟩
        · refine tt_ar rfl ?_
          refine tt_getR hO rfl hp ?_
          refine tt_ar rfl ?_
          refine tt_iald (i) (x := σ.1 p (i)) hA rfl (by omega) rfl ?_
          refine tt_ar rfl ?_
          refine tt_icle (fun h1_14 => ?_) (fun h1_14 => ?_)
          · refine tt_iinc (y := ((i + 1 : Nat) : Int)) rfl (iinc_fit (by omega) (by omega) (by omega)) ?_
            refine tt_goto ?_
            refine tt_loc [(0, vR s), (1, vI (m)), (2, vI (((i + 1 : Nat) : Int)))] rfl rfl ⟨rfl, rfl, rfl, trivial⟩ ?_
            exact ih1 (i + 1) (by omega) (by omega) (fun j hj => by by_cases e : j = i; (subst e; omega); exact hC j (by omega))
          · refine tt_nop ?_
            refine tt_ar rfl ?_
            refine tt_zret (by omega) ?_
            exact ⟨rfl, Or.inr ⟨fun h => by have := h i (by omega); omega, rfl⟩⟩
  refine tt_loc [(0, vR s), (1, vI (m)), (2, vI (((0 : Nat) : Int)))] rfl rfl ⟨rfl, rfl, lv_to rfl (by omega), trivial⟩ ?_
  exact lp1_1 _ (0) (Nat.lt_succ_self _) (by omega) (fun j hj => absurd hj (Nat.not_lt_zero j))
end
section
/-! A TEXT READ AS A WORLD, as it is meant: f the bytes, n how many, W the world (6: sorts, indoors; 7 into; 8 least; 9 most; 10 prices) -/
def aset (A : Nat → Nat → Int) (k i : Nat) (v : Int) : Nat → Nat → Int := fun a j => if a = k ∧ j = i then v else A a j
theorem aset_at {A : Nat → Nat → Int} {k i j : Nat} {v : Int} : aset A k i v k j = if j = i then v else A k j := by simp [aset]
theorem aset_rd {A : Nat → Nat → Int} {k i : Nat} {v : Int} : aset A k i v k i = v := if_pos ⟨rfl, rfl⟩
def p_let (f : Nat → Int) (n pos : Nat) (c : Int) : Prop := pos < n ∧ f pos = c
def p_fig (f : Nat → Int) (n pos : Nat) (lo hi : Int) : Option Nat := if pos < n ∧ lo ≤ f pos - 48 ∧ f pos - 48 ≤ hi then some (f pos - 48).toNat else none
def p_sort (f : Nat → Int) (n pos : Nat) (W : Nat → Nat → Int) : Nat × Option (Nat → Nat → Int) :=
  if 6 ≤ W 6 0 then (pos, none)
  else if pos + 1 < n ∧ f (pos + 1) = 45 then (pos + 1 + 1, some (aset (aset W 7 (W 6 0).toNat (-9)) 6 0 (W 6 0 + 1)))
  else match p_fig f n (pos + 1) 0 5 with
    | none => (pos + 1, none)
    | some v => (pos + 1 + 1, some (aset (aset W 7 (W 6 0).toNat (v : Int)) 6 0 (W 6 0 + 1)))
def p_wash (f : Nat → Int) (n pos : Nat) (W : Nat → Nat → Int) : Nat × Option (Nat → Nat → Int) :=
  match p_fig f n (pos + 1) 0 (W 6 0 - 1) with
  | none => (pos + 1, none)
  | some s => if ¬ (pos + 1 + 1 < n ∧ f (pos + 1 + 1) = 116) then (pos + 1 + 1, none) else
    match p_fig f n (pos + 1 + 1 + 1) 0 7 with
    | none => (pos + 1 + 1 + 1, none)
    | some x => if ¬ (pos + 1 + 1 + 1 + 1 < n ∧ f (pos + 1 + 1 + 1 + 1) = 58) then (pos + 1 + 1 + 1 + 1, none) else
      match p_fig f n (pos + 1 + 1 + 1 + 1 + 1) 0 9 with
      | none => (pos + 1 + 1 + 1 + 1 + 1, none)
      | some a => if ¬ (pos + 1 + 1 + 1 + 1 + 1 + 1 < n ∧ f (pos + 1 + 1 + 1 + 1 + 1 + 1) = 45) then (pos + 1 + 1 + 1 + 1 + 1 + 1, none) else
        match p_fig f n (pos + 1 + 1 + 1 + 1 + 1 + 1 + 1) (a : Int) 9 with
        | none => (pos + 1 + 1 + 1 + 1 + 1 + 1 + 1, none)
        | some b => (pos + 1 + 1 + 1 + 1 + 1 + 1 + 1 + 1, some (aset (aset W 8 (s * 8 + x) (a : Int)) 9 (s * 8 + x) (b : Int)))
def p_in (f : Nat → Int) (n pos : Nat) (W : Nat → Nat → Int) : Nat × Option (Nat → Nat → Int) :=
  match p_fig f n (pos + 1) 0 7 with
  | none => (pos + 1, none)
  | some x => (pos + 1 + 1, some (aset W 6 1 (a_or (W 6 1) (a_shl 1 (x : Int)))))
def p_cost (f : Nat → Int) (n : Nat) : Nat → Nat → Nat → (Nat → Nat → Int) → Nat × Option (Nat → Nat → Int)
  | 0, _, pos, W => (pos, some W)
  | m + 1, w, pos, W => match p_fig f n pos 0 9 with
    | none => (pos, none)
    | some v => p_cost f n m (w + 1) (pos + 1) (aset W 10 w (v : Int))
def p_item (f : Nat → Int) (n pos : Nat) (W : Nat → Nat → Int) : Nat × Option (Nat → Nat → Int) :=
  if f pos = 107 then p_sort f n pos W
  else if f pos = 119 then p_wash f n pos W
  else if f pos = 105 then p_in f n pos W
  else if f pos = 99 then p_cost f n 5 0 (pos + 1) W
  else (pos, none)
def p_run (f : Nat → Int) (n : Nat) : Nat → Nat → (Nat → Nat → Int) → Nat × Option (Nat → Nat → Int)
  | 0, pos, W => (pos, some W)
  | m + 1, pos, W => if pos < n then (if f pos = 32 then p_run f n m (pos + 1) W else match p_item f n pos W with
      | (q, none) => (q, none)
      | (q, some W') => p_run f n m q W') else (pos, some W)
/-- a world without anything -/
def p_W0 : Nat → Nat → Int := fun a j => if a = 7 then -9 else if a = 10 then (if j = 2 then 1 else if j < 2 then 3 else 2) else 0
theorem p_fig_some {f : Nat → Int} {n pos v : Nat} {lo hi : Int} (h0 : 0 ≤ lo) (h : p_fig f n pos lo hi = some v) : pos < n ∧ lo ≤ (v : Int) ∧ (v : Int) ≤ hi ∧ f pos = (v : Int) + 48 := by
  unfold p_fig at h
  split at h
  · rename_i hc
    cases h
    omega
  · cases h
theorem p_fig_none {f : Nat → Int} {n pos : Nat} {lo hi : Int} (h : ¬ (pos < n ∧ lo ≤ f pos - 48 ∧ f pos - 48 ≤ hi)) : p_fig f n pos lo hi = none := if_neg h
theorem p_fig_of {f : Nat → Int} {n pos v : Nat} {lo hi : Int} (h : pos < n ∧ lo ≤ f pos - 48 ∧ f pos - 48 ≤ hi) (hv : f pos - 48 = (v : Int)) : p_fig f n pos lo hi = some v := by
  unfold p_fig
  rw [if_pos h, hv]
  rfl
def p_sign (f : Nat → Int) (n pos : Nat) : Int := if pos < n then f pos else 1000
/-- the reader's source is a strip with these bytes -/
def RS (f : Nat → Int) (s p n : Nat) (σ : am_S) : Prop := σ.2.1 10 0 = some s ∧ am_isO σ s 6 = true ∧ σ.2.1 s 0 = some p ∧ σ.2.2.1[p]? = some (.inl .int, 120) ∧ 17 < s ∧ 17 < p ∧ n ≤ 120 ∧ σ.1 s 1 = (n : Int) ∧ ∀ j, j < n → σ.1 p j = f j ∧ -128 ≤ f j ∧ f j ≤ 127
theorem am_isO_fr {W : List Nat} {σ σ' : am_S} {a c : Nat} (h : Fr W σ σ') (hO : am_isO σ a c = true) : am_isO σ' a c = true := by
  unfold am_isO
  rw [h.1]
  exact hO
theorem RS.fr {W : List Nat} {f : Nat → Int} {s p n : Nat} {σ σ' : am_S} (h : Fr W σ σ') (hw : ∀ a ∈ W, a ≤ 17) (R : RS f s p n σ) : RS f s p n σ' := by
  obtain ⟨h1, h2, h3, h4, h5, h6, h7, h8, h9⟩ := R
  refine ⟨by rw [h.1]; exact h1, am_isO_fr h h2, by rw [h.1]; exact h3, by rw [h.1]; exact h4, h5, h6, h7, ?_, ?_⟩
  · rw [h.2 s (fun e => by have := hw s e; omega) 1]
    exact h8
  · intro j hj
    rw [h.2 p (fun e => by have := hw p e; omega) j]
    exact h9 j hj
/-- the world that is read stands in its cells -/
def PR (W : Nat → Nat → Int) (σ : am_S) : Prop := σ.1 13 0 = W 6 0 ∧ σ.1 13 4 = W 6 1 ∧ (∀ j, j < 6 → σ.1 14 j = W 7 j) ∧ (∀ j, j < 48 → σ.1 15 j = W 8 j) ∧ (∀ j, j < 48 → σ.1 16 j = W 9 j) ∧ (∀ j, j < 5 → σ.1 17 j = W 10 j)
theorem PR.fr {L : List Nat} {W : Nat → Nat → Int} {σ σ' : am_S} (h : Fr L σ σ') (hw : ∀ a ∈ L, a < 13 ∨ 17 < a) (R : PR W σ) : PR W σ' := by
  have k : ∀ a, 13 ≤ a → a ≤ 17 → ∀ j, σ'.1 a j = σ.1 a j := fun a h1 h2 j => h.2 a (fun e => by have := hw a e; omega) j
  obtain ⟨h1, h2, h3, h4, h5, h6⟩ := R
  exact ⟨by rw [k 13 (by omega) (by omega)]; exact h1, by rw [k 13 (by omega) (by omega)]; exact h2, fun j hj => by rw [k 14 (by omega) (by omega)]; exact h3 j hj, fun j hj => by rw [k 15 (by omega) (by omega)]; exact h4 j hj, fun j hj => by rw [k 16 (by omega) (by omega)]; exact h5 j hj, fun j hj => by rw [k 17 (by omega) (by omega)]; exact h6 j hj⟩
theorem PR.s10 {W : Nat → Nat → Int} {σ : am_S} {x : Int} (R : PR W σ) : PR W (am_set σ 10 1 x) := PR.fr (L := [10]) (Fr.put Fr.rf (by decide)) (by decide) R
theorem PR.s130 {W : Nat → Nat → Int} {σ : am_S} {x : Int} (R : PR W σ) : PR (aset W 6 0 x) (am_set σ 13 0 x) := by
  obtain ⟨h1, h2, h3, h4, h5, h6⟩ := R
  refine ⟨?_, ?_, fun j hj => ?_, fun j hj => ?_, fun j hj => ?_, fun j hj => ?_⟩ <;> simp only [aset, am_set] <;> simp <;> first | (split <;> first | rfl | assumption | (exact h3 j hj) | (exact h4 j hj) | (exact h5 j hj) | (exact h6 j hj)) | assumption | (exact h3 j hj) | (exact h4 j hj) | (exact h5 j hj) | (exact h6 j hj)
theorem PR.s134 {W : Nat → Nat → Int} {σ : am_S} {x : Int} (R : PR W σ) : PR (aset W 6 1 x) (am_set σ 13 4 x) := by
  obtain ⟨h1, h2, h3, h4, h5, h6⟩ := R
  refine ⟨?_, ?_, fun j hj => ?_, fun j hj => ?_, fun j hj => ?_, fun j hj => ?_⟩ <;> simp only [aset, am_set] <;> simp <;> first | (split <;> first | rfl | assumption | (exact h3 j hj) | (exact h4 j hj) | (exact h5 j hj) | (exact h6 j hj)) | assumption | (exact h3 j hj) | (exact h4 j hj) | (exact h5 j hj) | (exact h6 j hj)
theorem PR.s14 {W : Nat → Nat → Int} {σ : am_S} {i : Nat} {x : Int} (R : PR W σ) : PR (aset W 7 i x) (am_set σ 14 i x) := by
  obtain ⟨h1, h2, h3, h4, h5, h6⟩ := R
  refine ⟨?_, ?_, fun j hj => ?_, fun j hj => ?_, fun j hj => ?_, fun j hj => ?_⟩ <;> simp only [aset, am_set] <;> simp <;> first | (split <;> first | rfl | assumption | (exact h3 j hj) | (exact h4 j hj) | (exact h5 j hj) | (exact h6 j hj)) | assumption | (exact h3 j hj) | (exact h4 j hj) | (exact h5 j hj) | (exact h6 j hj)
theorem PR.s15 {W : Nat → Nat → Int} {σ : am_S} {i : Nat} {x : Int} (R : PR W σ) : PR (aset W 8 i x) (am_set σ 15 i x) := by
  obtain ⟨h1, h2, h3, h4, h5, h6⟩ := R
  refine ⟨?_, ?_, fun j hj => ?_, fun j hj => ?_, fun j hj => ?_, fun j hj => ?_⟩ <;> simp only [aset, am_set] <;> simp <;> first | (split <;> first | rfl | assumption | (exact h3 j hj) | (exact h4 j hj) | (exact h5 j hj) | (exact h6 j hj)) | assumption | (exact h3 j hj) | (exact h4 j hj) | (exact h5 j hj) | (exact h6 j hj)
theorem PR.s16 {W : Nat → Nat → Int} {σ : am_S} {i : Nat} {x : Int} (R : PR W σ) : PR (aset W 9 i x) (am_set σ 16 i x) := by
  obtain ⟨h1, h2, h3, h4, h5, h6⟩ := R
  refine ⟨?_, ?_, fun j hj => ?_, fun j hj => ?_, fun j hj => ?_, fun j hj => ?_⟩ <;> simp only [aset, am_set] <;> simp <;> first | (split <;> first | rfl | assumption | (exact h3 j hj) | (exact h4 j hj) | (exact h5 j hj) | (exact h6 j hj)) | assumption | (exact h3 j hj) | (exact h4 j hj) | (exact h5 j hj) | (exact h6 j hj)
theorem PR.s17 {W : Nat → Nat → Int} {σ : am_S} {i : Nat} {x : Int} (R : PR W σ) : PR (aset W 10 i x) (am_set σ 17 i x) := by
  obtain ⟨h1, h2, h3, h4, h5, h6⟩ := R
  refine ⟨?_, ?_, fun j hj => ?_, fun j hj => ?_, fun j hj => ?_, fun j hj => ?_⟩ <;> simp only [aset, am_set] <;> simp <;> first | (split <;> first | rfl | assumption | (exact h3 j hj) | (exact h4 j hj) | (exact h5 j hj) | (exact h6 j hj)) | assumption | (exact h3 j hj) | (exact h4 j hj) | (exact h5 j hj) | (exact h6 j hj)
theorem c43 (f : Nat → Int) (s p n pos : Nat) (σ : am_S) (hW : Wd σ) (hR : RS f s p n σ) (hpos : σ.1 10 1 = (pos : Int)) (hle : pos ≤ n) : CC 43 [vR 10] σ (fun r σ' => r = some (vI (p_sign f n pos)) ∧ σ' = σ) := by
  show TT am_b43 (am_b43.getD 0 []) [(0, vR 10)] [] σ _
  obtain ⟨hs, hO, hp, hA, hs17, hp17, hn120, hn, hf⟩ := id hR
  refine tt_ar rfl ?_
  refine tt_getR (wo_10 hW) rfl hs ?_
  refine tt_ar rfl ?_
  refine tt_getI (x := ((pos : Nat) : Int)) (wo_10 hW) rfl hpos ?_
  refine tt_cv2 2 rfl hO (c28 _ _ _ hO) (kb (fun h0_4 => ?_) (fun h0_4 => ?_))
  · refine tt_ifeqF (by decide) ?_
    refine tt_ar rfl ?_
    refine tt_getR (wo_10 hW) rfl hs ?_
    refine tt_getR hO rfl hp ?_
    refine tt_ar rfl ?_
    refine tt_getI (x := ((pos : Nat) : Int)) (wo_10 hW) rfl hpos ?_
    refine tt_iald (pos) (x := f (pos)) hA rfl (by omega) (hf (pos) (by omega)).1 ?_
    have hb := hf (pos) (by omega)
    refine tt_goto ?_
    refine tt_iret ?_
    exact ⟨rv (by unfold p_sign; rw [if_pos (by omega)]), rfl⟩
  · refine tt_ifeqT (by decide) ?_
    refine tt_ar rfl ?_
    refine tt_nop ?_
    refine tt_iret ?_
    exact ⟨rv (by unfold p_sign; rw [if_neg (by omega)]), rfl⟩

theorem p_sign_let {f : Nat → Int} {n pos : Nat} {c : Int} (hc : c ≠ 1000) : p_sign f n pos = c ↔ (pos < n ∧ f pos = c) := by
  unfold p_sign
  split
  · rename_i h
    exact ⟨fun e => ⟨h, e⟩, fun e => e.2⟩
  · rename_i h
    exact ⟨fun e => absurd e.symm hc, fun e => absurd e.1 h⟩
theorem c42 (f : Nat → Int) (s p n pos : Nat) (σ : am_S) (hW : Wd σ) (hR : RS f s p n σ) (hpos : σ.1 10 1 = (pos : Int)) (hle : pos ≤ n) (c : Int) (hc : c ≠ 1000) : CC 42 [vR 10, vI (c)] σ (fun r σ' => ((pos < n ∧ f pos = c) ∧ σ' = am_set σ 10 1 ((pos + 1 : Nat) : Int) ∧ r = some (vI 1)) ∨ (¬ (pos < n ∧ f pos = c) ∧ σ' = σ ∧ r = some (vI 0))) := by
  show TT am_b42 (am_b42.getD 0 []) [(0, vR 10), (1, vI (c))] [] σ _
  obtain ⟨hs, hO, hp, hA, hs17, hp17, hn120, hn, hf⟩ := id hR
  have hl := p_sign_let (f := f) (n := n) (pos := pos) hc
  refine tt_ar rfl ?_
  refine tt_cv1 1 rfl (wo_10 hW) (c43 f s p n (pos) σ hW hR hpos (by omega)) (kp ?_)
  refine tt_ar rfl ?_
  refine tt_iceq (fun h0_3 => ?_) (fun h0_3 => ?_)
  · refine tt_ar rfl ?_
    refine tt_ar rfl ?_
    refine tt_getI (x := ((pos : Nat) : Int)) (wo_10 hW) rfl hpos ?_
    refine tt_ar rfl ?_
    refine tt_iadd (by omega) (by omega) ?_
    refine tt_putI (wo_10 hW) rfl ?_
    refine tt_ar rfl ?_
    refine tt_zret (by omega) ?_
    exact Or.inl ⟨hl.mp h0_3, rfl, rfl⟩
  · refine tt_ar rfl ?_
    refine tt_zret (by omega) ?_
    exact Or.inr ⟨fun e => h0_3 (hl.mpr e), rfl, rfl⟩

theorem c46 (f : Nat → Int) (s p n pos : Nat) (σ : am_S) (hW : Wd σ) (hR : RS f s p n σ) (hpos : σ.1 10 1 = (pos : Int)) (hle : pos ≤ n) (lo hi : Int) (h0 : 0 ≤ lo) (h9 : hi ≤ 9) : CC 46 [vR 10, vI (lo), vI (hi)] σ (fun r σ' => (∃ v : Nat, p_fig f n pos lo hi = some v ∧ σ' = am_set σ 10 1 ((pos + 1 : Nat) : Int) ∧ r = some (vI (v : Int))) ∨ (p_fig f n pos lo hi = none ∧ σ' = σ ∧ r = some (vI (-1)))) := by
  show TT am_b46 (am_b46.getD 0 []) [(0, vR 10), (1, vI (lo)), (2, vI (hi))] [] σ _
  obtain ⟨hs, hO, hp, hA, hs17, hp17, hn120, hn, hf⟩ := id hR
  have hsg : (pos < n ∧ p_sign f n pos = f pos ∧ -128 ≤ f pos ∧ f pos ≤ 127) ∨ (¬ pos < n ∧ p_sign f n pos = 1000) := by
    unfold p_sign
    by_cases e : pos < n
    · exact Or.inl ⟨e, if_pos e, (hf pos e).2⟩
    · exact Or.inr ⟨e, if_neg e⟩
  refine tt_ar rfl ?_
  refine tt_cv1 1 rfl (wo_10 hW) (c43 f s p n (pos) σ hW hR hpos (by omega)) (kp ?_)
  refine tt_ar rfl ?_
  refine tt_isub (by omega) (by omega) ?_
  refine tt_ar rfl ?_
  refine tt_ar rfl ?_
  refine tt_ar rfl ?_
  refine tt_iclt (fun h0_7 => ?_) (fun h0_7 => ?_)
  · refine tt_ar rfl ?_
    refine tt_iret ?_
    refine Or.inr ⟨p_fig_none (by omega), rfl, rfl⟩
  · refine tt_ar rfl ?_
    refine tt_ar rfl ?_
    refine tt_icle (fun h0_10 => ?_) (fun h0_10 => ?_)
    · refine tt_ar rfl ?_
      refine tt_ar rfl ?_
      refine tt_getI (x := ((pos : Nat) : Int)) (wo_10 hW) rfl hpos ?_
      refine tt_ar rfl ?_
      refine tt_iadd (by omega) (by omega) ?_
      refine tt_putI (wo_10 hW) rfl ?_
      refine tt_ar rfl ?_
      refine tt_iret ?_
      refine Or.inl ⟨(f pos - 48).toNat, p_fig_of (by omega) (by omega), ?_, ?_⟩
      · rfl
      · exact rv (by omega)
    · refine tt_nop ?_
      refine tt_ar rfl ?_
      refine tt_iret ?_
      refine Or.inr ⟨p_fig_none (by omega), rfl, rfl⟩

theorem c45 (f : Nat → Int) (s p n pos k : Nat) (W : Nat → Nat → Int) (σ : am_S) (hW : Wd σ) (hR : RS f s p n σ) (hpos : σ.1 10 1 = (pos : Int)) (hle : pos < n) (hP : PR W σ) (hk : W 6 0 = (k : Int)) (hk6 : k ≤ 6) : CC 45 [vR 10] σ (fun r σ' => (∃ q W', p_sort f n pos W = (q, some W') ∧ r = some (vI 1) ∧ Fr [10, 13, 14, 15, 16, 17] σ σ' ∧ σ'.1 10 1 = (q : Int) ∧ PR W' σ') ∨ (∃ q, p_sort f n pos W = (q, none) ∧ r = some (vI 0) ∧ Fr [10, 13, 14, 15, 16, 17] σ σ' ∧ σ'.1 10 1 = (q : Int))) := by
  show TT am_b45 (am_b45.getD 0 []) [(0, vR 10)] [] σ _
  obtain ⟨hs, hO, hp, hA, hs17, hp17, hn120, hn, hf⟩ := id hR
  refine tt_ar rfl ?_
  refine tt_getR (wo_10 hW) rfl (wr_10_2 hW) ?_
  refine tt_getI (x := ((k : Nat) : Int)) (wo_13 hW) rfl (hP.1.trans hk) ?_
  refine tt_ar rfl ?_
  refine tt_iclt (fun h0_4 => ?_) (fun h0_4 => ?_)
  · refine tt_ar rfl ?_
    refine tt_ar rfl ?_
    refine tt_getI (x := ((pos : Nat) : Int)) (wo_10 hW) rfl hpos ?_
    refine tt_ar rfl ?_
    refine tt_iadd (by omega) (by omega) ?_
    refine tt_putI (wo_10 hW) rfl ?_
    refine tt_ar rfl ?_
    refine tt_ar rfl ?_
    refine tt_cv2 2 rfl (wo_10 hW) (c42 f s p n (pos + 1) (am_set σ 10 (1) ((((pos : Nat) : Int) + 1))) hW (RS.fr (W := [10, 13, 14, 15, 16, 17]) (Fr.put Fr.rf (by decide)) (by decide) hR) ((@am_set_rd σ 10 (1) ((((pos : Nat) : Int) + 1))).trans (by omega)) (by omega) _ (by decide)) (kor (kand fun hl0 => ks ?_) (kand fun hl0 => ks ?_))
    · refine tt_ifeqF (by decide) ?_
      refine tt_ar rfl ?_
      refine tt_goto ?_
      refine tt_ar rfl ?_
      refine tt_ar rfl ?_
      refine tt_ar rfl ?_
      refine tt_icne (fun _ => ?_) (fun h => absurd h (by omega))
      refine tt_ar rfl ?_
      refine tt_getR (wo_10 hW) rfl (wr_10_2 hW) ?_
      refine tt_getR (wo_13 hW) rfl (wr_13_1 hW) ?_
      refine tt_ar rfl ?_
      refine tt_getR (wo_10 hW) rfl (wr_10_2 hW) ?_
      refine tt_getI (x := ((k : Nat) : Int)) (wo_13 hW) rfl (hP.1.trans hk) ?_
      refine tt_ar rfl ?_
      refine tt_iast (k) (wa_14 hW) (by omega) rfl (by omega) ?_
      refine tt_ar rfl ?_
      refine tt_getR (wo_10 hW) rfl (wr_10_2 hW) ?_
      refine tt_ar rfl ?_
      refine tt_getI (x := ((k : Nat) : Int)) (wo_13 hW) rfl (hP.1.trans hk) ?_
      refine tt_ar rfl ?_
      refine tt_iadd (by omega) (by omega) ?_
      refine tt_putI (wo_13 hW) rfl ?_
      refine tt_ar rfl ?_
      refine tt_zret (by omega) ?_
      exact Or.inl ⟨pos + 1 + 1, _, (by unfold p_sort; rw [if_neg (by omega), if_pos hl0]; (try dsimp only); rw [hk]; first | done | rfl), rfl, (Fr.put (Fr.put (Fr.put (Fr.put Fr.rf (by decide)) (by decide)) (by decide)) (by decide)), ((@am_set_rd (am_set σ 10 (1) ((((pos : Nat) : Int) + 1))) 10 (1) (((pos + 1 + 1 : Nat) : Int))).trans (by omega)), (PR.s130 (PR.s14 (PR.s10 (PR.s10 hP))))⟩
    · refine tt_ifeqT (by decide) ?_
      refine tt_ar rfl ?_
      refine tt_ar rfl ?_
      refine tt_ar rfl ?_
      refine tt_cv3 3 rfl (wo_10 hW) (c46 f s p n (pos + 1) (am_set σ 10 (1) ((((pos : Nat) : Int) + 1))) hW (RS.fr (W := [10, 13, 14, 15, 16, 17]) (Fr.put Fr.rf (by decide)) (by decide) hR) ((@am_set_rd σ 10 (1) ((((pos : Nat) : Int) + 1))).trans (by omega)) (by omega) _ _ (by omega) (by omega)) (kor (kex fun v0 => kand fun hv0 => ks ?_) (kand fun hv0 => ks ?_))
      · have hbv0 := p_fig_some (by omega) hv0
        refine tt_nop ?_
        refine tt_ar rfl ?_
        refine tt_ar rfl ?_
        refine tt_ar rfl ?_
        refine tt_icne (fun _ => ?_) (fun h => absurd h (by omega))
        refine tt_ar rfl ?_
        refine tt_getR (wo_10 hW) rfl (wr_10_2 hW) ?_
        refine tt_getR (wo_13 hW) rfl (wr_13_1 hW) ?_
        refine tt_ar rfl ?_
        refine tt_getR (wo_10 hW) rfl (wr_10_2 hW) ?_
        refine tt_getI (x := ((k : Nat) : Int)) (wo_13 hW) rfl (hP.1.trans hk) ?_
        refine tt_ar rfl ?_
        refine tt_iast (k) (wa_14 hW) (by omega) rfl (by omega) ?_
        refine tt_ar rfl ?_
        refine tt_getR (wo_10 hW) rfl (wr_10_2 hW) ?_
        refine tt_ar rfl ?_
        refine tt_getI (x := ((k : Nat) : Int)) (wo_13 hW) rfl (hP.1.trans hk) ?_
        refine tt_ar rfl ?_
        refine tt_iadd (by omega) (by omega) ?_
        refine tt_putI (wo_13 hW) rfl ?_
        refine tt_ar rfl ?_
        refine tt_zret (by omega) ?_
        exact Or.inl ⟨pos + 1 + 1, _, (by unfold p_sort; rw [if_neg (by omega), if_neg hl0, hv0]; (try dsimp only); rw [hk]; first | done | rfl), rfl, (Fr.put (Fr.put (Fr.put (Fr.put Fr.rf (by decide)) (by decide)) (by decide)) (by decide)), ((@am_set_rd (am_set σ 10 (1) ((((pos : Nat) : Int) + 1))) 10 (1) (((pos + 1 + 1 : Nat) : Int))).trans (by omega)), (PR.s130 (PR.s14 (PR.s10 (PR.s10 hP))))⟩
      · refine tt_nop ?_
        refine tt_ar rfl ?_
        refine tt_ar rfl ?_
        refine tt_ar rfl ?_
        refine tt_icne (fun h => absurd h (by omega)) (fun _ => ?_)
        refine tt_ar rfl ?_
        refine tt_zret (by omega) ?_
        exact Or.inr ⟨pos + 1, (by unfold p_sort; rw [if_neg (by omega), if_neg hl0, hv0]; first | done | rfl), rfl, (Fr.put Fr.rf (by decide)), ((@am_set_rd σ 10 (1) ((((pos : Nat) : Int) + 1))).trans (by omega))⟩
  · refine tt_ar rfl ?_
    refine tt_zret (by omega) ?_
    exact Or.inr ⟨pos, (by unfold p_sort; rw [if_pos (by omega)]), rfl, Fr.rf, hpos⟩

theorem c47 (f : Nat → Int) (s p n pos k : Nat) (W : Nat → Nat → Int) (σ : am_S) (hW : Wd σ) (hR : RS f s p n σ) (hpos : σ.1 10 1 = (pos : Int)) (hle : pos < n) (hP : PR W σ) (hk : W 6 0 = (k : Int)) (hk6 : k ≤ 6) : CC 47 [vR 10] σ (fun r σ' => (∃ q W', p_wash f n pos W = (q, some W') ∧ r = some (vI 1) ∧ Fr [10, 13, 14, 15, 16, 17] σ σ' ∧ σ'.1 10 1 = (q : Int) ∧ PR W' σ') ∨ (∃ q, p_wash f n pos W = (q, none) ∧ r = some (vI 0) ∧ Fr [10, 13, 14, 15, 16, 17] σ σ' ∧ σ'.1 10 1 = (q : Int))) := by
  show TT am_b47 (am_b47.getD 0 []) [(0, vR 10)] [] σ _
  obtain ⟨hs, hO, hp, hA, hs17, hp17, hn120, hn, hf⟩ := id hR
  refine tt_ar rfl ?_
  refine tt_ar rfl ?_
  refine tt_getI (x := ((pos : Nat) : Int)) (wo_10 hW) rfl hpos ?_
  refine tt_ar rfl ?_
  refine tt_iadd (by omega) (by omega) ?_
  refine tt_putI (wo_10 hW) rfl ?_
  refine tt_ar rfl ?_
  refine tt_ar rfl ?_
  refine tt_ar rfl ?_
  refine tt_getR (wo_10 hW) rfl (wr_10_2 hW) ?_
  refine tt_getI (x := ((k : Nat) : Int)) (wo_13 hW) rfl (hP.1.trans hk) ?_
  refine tt_ar rfl ?_
  refine tt_isub (by omega) (by omega) ?_
  refine tt_cv3 3 rfl (wo_10 hW) (c46 f s p n (pos + 1) (am_set σ 10 (1) ((((pos : Nat) : Int) + 1))) hW (RS.fr (W := [10, 13, 14, 15, 16, 17]) (Fr.put Fr.rf (by decide)) (by decide) hR) ((@am_set_rd σ 10 (1) ((((pos : Nat) : Int) + 1))).trans (by omega)) (by omega) _ _ (by omega) (by omega)) (kor (kex fun v0 => kand fun hv0 => ks ?_) (kand fun hv0 => ks ?_))
  · have hbv0 := p_fig_some (by omega) hv0
    refine tt_ar rfl ?_
    refine tt_ar rfl ?_
    refine tt_ifltF (by omega) ?_
    refine tt_ar rfl ?_
    refine tt_ar rfl ?_
    refine tt_cv2 2 rfl (wo_10 hW) (c42 f s p n (pos + 1 + 1) (am_set (am_set σ 10 (1) ((((pos : Nat) : Int) + 1))) 10 (1) (((pos + 1 + 1 : Nat) : Int))) hW (RS.fr (W := [10, 13, 14, 15, 16, 17]) (Fr.put (Fr.put Fr.rf (by decide)) (by decide)) (by decide) hR) ((@am_set_rd (am_set σ 10 (1) ((((pos : Nat) : Int) + 1))) 10 (1) (((pos + 1 + 1 : Nat) : Int))).trans (by omega)) (by omega) _ (by decide)) (kor (kand fun hl0 => ks ?_) (kand fun hl0 => ks ?_))
    · refine tt_ifneT (by decide) ?_
      refine tt_ar rfl ?_
      refine tt_ar rfl ?_
      refine tt_ar rfl ?_
      refine tt_cv3 3 rfl (wo_10 hW) (c46 f s p n (pos + 1 + 1 + 1) (am_set (am_set (am_set σ 10 (1) ((((pos : Nat) : Int) + 1))) 10 (1) (((pos + 1 + 1 : Nat) : Int))) 10 (1) (((pos + 1 + 1 + 1 : Nat) : Int))) hW (RS.fr (W := [10, 13, 14, 15, 16, 17]) (Fr.put (Fr.put (Fr.put Fr.rf (by decide)) (by decide)) (by decide)) (by decide) hR) ((@am_set_rd (am_set (am_set σ 10 (1) ((((pos : Nat) : Int) + 1))) 10 (1) (((pos + 1 + 1 : Nat) : Int))) 10 (1) (((pos + 1 + 1 + 1 : Nat) : Int))).trans (by omega)) (by omega) _ _ (by omega) (by omega)) (kor (kex fun v1 => kand fun hv1 => ks ?_) (kand fun hv1 => ks ?_))
      · have hbv1 := p_fig_some (by omega) hv1
        refine tt_ar rfl ?_
        refine tt_ar rfl ?_
        refine tt_ifltF (by omega) ?_
        refine tt_ar rfl ?_
        refine tt_ar rfl ?_
        refine tt_cv2 2 rfl (wo_10 hW) (c42 f s p n (pos + 1 + 1 + 1 + 1) (am_set (am_set (am_set (am_set σ 10 (1) ((((pos : Nat) : Int) + 1))) 10 (1) (((pos + 1 + 1 : Nat) : Int))) 10 (1) (((pos + 1 + 1 + 1 : Nat) : Int))) 10 (1) (((pos + 1 + 1 + 1 + 1 : Nat) : Int))) hW (RS.fr (W := [10, 13, 14, 15, 16, 17]) (Fr.put (Fr.put (Fr.put (Fr.put Fr.rf (by decide)) (by decide)) (by decide)) (by decide)) (by decide) hR) ((@am_set_rd (am_set (am_set (am_set σ 10 (1) ((((pos : Nat) : Int) + 1))) 10 (1) (((pos + 1 + 1 : Nat) : Int))) 10 (1) (((pos + 1 + 1 + 1 : Nat) : Int))) 10 (1) (((pos + 1 + 1 + 1 + 1 : Nat) : Int))).trans (by omega)) (by omega) _ (by decide)) (kor (kand fun hl1 => ks ?_) (kand fun hl1 => ks ?_))
        · refine tt_ifneT (by decide) ?_
          refine tt_ar rfl ?_
          refine tt_ar rfl ?_
          refine tt_ar rfl ?_
          refine tt_cv3 3 rfl (wo_10 hW) (c46 f s p n (pos + 1 + 1 + 1 + 1 + 1) (am_set (am_set (am_set (am_set (am_set σ 10 (1) ((((pos : Nat) : Int) + 1))) 10 (1) (((pos + 1 + 1 : Nat) : Int))) 10 (1) (((pos + 1 + 1 + 1 : Nat) : Int))) 10 (1) (((pos + 1 + 1 + 1 + 1 : Nat) : Int))) 10 (1) (((pos + 1 + 1 + 1 + 1 + 1 : Nat) : Int))) hW (RS.fr (W := [10, 13, 14, 15, 16, 17]) (Fr.put (Fr.put (Fr.put (Fr.put (Fr.put Fr.rf (by decide)) (by decide)) (by decide)) (by decide)) (by decide)) (by decide) hR) ((@am_set_rd (am_set (am_set (am_set (am_set σ 10 (1) ((((pos : Nat) : Int) + 1))) 10 (1) (((pos + 1 + 1 : Nat) : Int))) 10 (1) (((pos + 1 + 1 + 1 : Nat) : Int))) 10 (1) (((pos + 1 + 1 + 1 + 1 : Nat) : Int))) 10 (1) (((pos + 1 + 1 + 1 + 1 + 1 : Nat) : Int))).trans (by omega)) (by omega) _ _ (by omega) (by omega)) (kor (kex fun v2 => kand fun hv2 => ks ?_) (kand fun hv2 => ks ?_))
          · have hbv2 := p_fig_some (by omega) hv2
            refine tt_ar rfl ?_
            refine tt_ar rfl ?_
            refine tt_ifltF (by omega) ?_
            refine tt_ar rfl ?_
            refine tt_ar rfl ?_
            refine tt_cv2 2 rfl (wo_10 hW) (c42 f s p n (pos + 1 + 1 + 1 + 1 + 1 + 1) (am_set (am_set (am_set (am_set (am_set (am_set σ 10 (1) ((((pos : Nat) : Int) + 1))) 10 (1) (((pos + 1 + 1 : Nat) : Int))) 10 (1) (((pos + 1 + 1 + 1 : Nat) : Int))) 10 (1) (((pos + 1 + 1 + 1 + 1 : Nat) : Int))) 10 (1) (((pos + 1 + 1 + 1 + 1 + 1 : Nat) : Int))) 10 (1) (((pos + 1 + 1 + 1 + 1 + 1 + 1 : Nat) : Int))) hW (RS.fr (W := [10, 13, 14, 15, 16, 17]) (Fr.put (Fr.put (Fr.put (Fr.put (Fr.put (Fr.put Fr.rf (by decide)) (by decide)) (by decide)) (by decide)) (by decide)) (by decide)) (by decide) hR) ((@am_set_rd (am_set (am_set (am_set (am_set (am_set σ 10 (1) ((((pos : Nat) : Int) + 1))) 10 (1) (((pos + 1 + 1 : Nat) : Int))) 10 (1) (((pos + 1 + 1 + 1 : Nat) : Int))) 10 (1) (((pos + 1 + 1 + 1 + 1 : Nat) : Int))) 10 (1) (((pos + 1 + 1 + 1 + 1 + 1 : Nat) : Int))) 10 (1) (((pos + 1 + 1 + 1 + 1 + 1 + 1 : Nat) : Int))).trans (by omega)) (by omega) _ (by decide)) (kor (kand fun hl2 => ks ?_) (kand fun hl2 => ks ?_))
            · refine tt_ifneT (by decide) ?_
              refine tt_ar rfl ?_
              refine tt_ar rfl ?_
              refine tt_ar rfl ?_
              refine tt_cv3 3 rfl (wo_10 hW) (c46 f s p n (pos + 1 + 1 + 1 + 1 + 1 + 1 + 1) (am_set (am_set (am_set (am_set (am_set (am_set (am_set σ 10 (1) ((((pos : Nat) : Int) + 1))) 10 (1) (((pos + 1 + 1 : Nat) : Int))) 10 (1) (((pos + 1 + 1 + 1 : Nat) : Int))) 10 (1) (((pos + 1 + 1 + 1 + 1 : Nat) : Int))) 10 (1) (((pos + 1 + 1 + 1 + 1 + 1 : Nat) : Int))) 10 (1) (((pos + 1 + 1 + 1 + 1 + 1 + 1 : Nat) : Int))) 10 (1) (((pos + 1 + 1 + 1 + 1 + 1 + 1 + 1 : Nat) : Int))) hW (RS.fr (W := [10, 13, 14, 15, 16, 17]) (Fr.put (Fr.put (Fr.put (Fr.put (Fr.put (Fr.put (Fr.put Fr.rf (by decide)) (by decide)) (by decide)) (by decide)) (by decide)) (by decide)) (by decide)) (by decide) hR) ((@am_set_rd (am_set (am_set (am_set (am_set (am_set (am_set σ 10 (1) ((((pos : Nat) : Int) + 1))) 10 (1) (((pos + 1 + 1 : Nat) : Int))) 10 (1) (((pos + 1 + 1 + 1 : Nat) : Int))) 10 (1) (((pos + 1 + 1 + 1 + 1 : Nat) : Int))) 10 (1) (((pos + 1 + 1 + 1 + 1 + 1 : Nat) : Int))) 10 (1) (((pos + 1 + 1 + 1 + 1 + 1 + 1 : Nat) : Int))) 10 (1) (((pos + 1 + 1 + 1 + 1 + 1 + 1 + 1 : Nat) : Int))).trans (by omega)) (by omega) _ _ (by omega) (by omega)) (kor (kex fun v3 => kand fun hv3 => ks ?_) (kand fun hv3 => ks ?_))
              · have hbv3 := p_fig_some (by omega) hv3
                refine tt_ar rfl ?_
                refine tt_ar rfl ?_
                refine tt_ifgeT (by omega) ?_
                refine tt_ar rfl ?_
                refine tt_getR (wo_10 hW) rfl (wr_10_2 hW) ?_
                refine tt_getR (wo_13 hW) rfl (wr_13_2 hW) ?_
                refine tt_ar rfl ?_
                refine tt_ar rfl ?_
                refine tt_imul (by omega) (by omega) ?_
                refine tt_ar rfl ?_
                refine tt_iadd (by omega) (by omega) ?_
                refine tt_ar rfl ?_
                refine tt_iast (((v0 * 8) + v1)) (wa_15 hW) (by omega) (by omega) (by omega) ?_
                refine tt_ar rfl ?_
                refine tt_getR (wo_10 hW) rfl (wr_10_2 hW) ?_
                refine tt_getR (wo_13 hW) rfl (wr_13_3 hW) ?_
                refine tt_ar rfl ?_
                refine tt_ar rfl ?_
                refine tt_imul (by omega) (by omega) ?_
                refine tt_ar rfl ?_
                refine tt_iadd (by omega) (by omega) ?_
                refine tt_ar rfl ?_
                refine tt_iast (((v0 * 8) + v1)) (wa_16 hW) (by omega) (by omega) (by omega) ?_
                refine tt_ar rfl ?_
                refine tt_zret (by omega) ?_
                exact Or.inl ⟨pos + 1 + 1 + 1 + 1 + 1 + 1 + 1 + 1, _, (by unfold p_wash; rw [hk]; rw [hv0]; (try dsimp only); rw [if_neg (fun h => h hl0)]; rw [hv1]; (try dsimp only); rw [if_neg (fun h => h hl1)]; rw [hv2]; (try dsimp only); rw [if_neg (fun h => h hl2)]; rw [hv3]; (try dsimp only)), rfl, (Fr.put (Fr.put (Fr.put (Fr.put (Fr.put (Fr.put (Fr.put (Fr.put (Fr.put (Fr.put Fr.rf (by decide)) (by decide)) (by decide)) (by decide)) (by decide)) (by decide)) (by decide)) (by decide)) (by decide)) (by decide)), ((@am_set_rd (am_set (am_set (am_set (am_set (am_set (am_set (am_set σ 10 (1) ((((pos : Nat) : Int) + 1))) 10 (1) (((pos + 1 + 1 : Nat) : Int))) 10 (1) (((pos + 1 + 1 + 1 : Nat) : Int))) 10 (1) (((pos + 1 + 1 + 1 + 1 : Nat) : Int))) 10 (1) (((pos + 1 + 1 + 1 + 1 + 1 : Nat) : Int))) 10 (1) (((pos + 1 + 1 + 1 + 1 + 1 + 1 : Nat) : Int))) 10 (1) (((pos + 1 + 1 + 1 + 1 + 1 + 1 + 1 : Nat) : Int))) 10 (1) (((pos + 1 + 1 + 1 + 1 + 1 + 1 + 1 + 1 : Nat) : Int))).trans (by omega)), (PR.s16 (PR.s15 (PR.s10 (PR.s10 (PR.s10 (PR.s10 (PR.s10 (PR.s10 (PR.s10 (PR.s10 hP))))))))))⟩
              · refine tt_ar rfl ?_
                refine tt_ar rfl ?_
                refine tt_ifgeF (by decide) ?_
                refine tt_ar rfl ?_
                refine tt_zret (by omega) ?_
                exact Or.inr ⟨pos + 1 + 1 + 1 + 1 + 1 + 1 + 1, (by unfold p_wash; rw [hk]; rw [hv0]; (try dsimp only); rw [if_neg (fun h => h hl0)]; rw [hv1]; (try dsimp only); rw [if_neg (fun h => h hl1)]; rw [hv2]; (try dsimp only); rw [if_neg (fun h => h hl2)]; rw [hv3]; (try dsimp only)), rfl, (Fr.put (Fr.put (Fr.put (Fr.put (Fr.put (Fr.put (Fr.put Fr.rf (by decide)) (by decide)) (by decide)) (by decide)) (by decide)) (by decide)) (by decide)), ((@am_set_rd (am_set (am_set (am_set (am_set (am_set (am_set σ 10 (1) ((((pos : Nat) : Int) + 1))) 10 (1) (((pos + 1 + 1 : Nat) : Int))) 10 (1) (((pos + 1 + 1 + 1 : Nat) : Int))) 10 (1) (((pos + 1 + 1 + 1 + 1 : Nat) : Int))) 10 (1) (((pos + 1 + 1 + 1 + 1 + 1 : Nat) : Int))) 10 (1) (((pos + 1 + 1 + 1 + 1 + 1 + 1 : Nat) : Int))) 10 (1) (((pos + 1 + 1 + 1 + 1 + 1 + 1 + 1 : Nat) : Int))).trans (by omega))⟩
            · refine tt_ifneF (by decide) ?_
              refine tt_nop ?_
              refine tt_ar rfl ?_
              refine tt_zret (by omega) ?_
              exact Or.inr ⟨pos + 1 + 1 + 1 + 1 + 1 + 1, (by unfold p_wash; rw [hk]; rw [hv0]; (try dsimp only); rw [if_neg (fun h => h hl0)]; rw [hv1]; (try dsimp only); rw [if_neg (fun h => h hl1)]; rw [hv2]; (try dsimp only); rw [if_pos hl2]), rfl, (Fr.put (Fr.put (Fr.put (Fr.put (Fr.put (Fr.put Fr.rf (by decide)) (by decide)) (by decide)) (by decide)) (by decide)) (by decide)), ((@am_set_rd (am_set (am_set (am_set (am_set (am_set σ 10 (1) ((((pos : Nat) : Int) + 1))) 10 (1) (((pos + 1 + 1 : Nat) : Int))) 10 (1) (((pos + 1 + 1 + 1 : Nat) : Int))) 10 (1) (((pos + 1 + 1 + 1 + 1 : Nat) : Int))) 10 (1) (((pos + 1 + 1 + 1 + 1 + 1 : Nat) : Int))) 10 (1) (((pos + 1 + 1 + 1 + 1 + 1 + 1 : Nat) : Int))).trans (by omega))⟩
          · refine tt_ar rfl ?_
            refine tt_ar rfl ?_
            refine tt_ifltT (by decide) ?_
            refine tt_ar rfl ?_
            refine tt_zret (by omega) ?_
            exact Or.inr ⟨pos + 1 + 1 + 1 + 1 + 1, (by unfold p_wash; rw [hk]; rw [hv0]; (try dsimp only); rw [if_neg (fun h => h hl0)]; rw [hv1]; (try dsimp only); rw [if_neg (fun h => h hl1)]; rw [hv2]; (try dsimp only)), rfl, (Fr.put (Fr.put (Fr.put (Fr.put (Fr.put Fr.rf (by decide)) (by decide)) (by decide)) (by decide)) (by decide)), ((@am_set_rd (am_set (am_set (am_set (am_set σ 10 (1) ((((pos : Nat) : Int) + 1))) 10 (1) (((pos + 1 + 1 : Nat) : Int))) 10 (1) (((pos + 1 + 1 + 1 : Nat) : Int))) 10 (1) (((pos + 1 + 1 + 1 + 1 : Nat) : Int))) 10 (1) (((pos + 1 + 1 + 1 + 1 + 1 : Nat) : Int))).trans (by omega))⟩
        · refine tt_ifneF (by decide) ?_
          refine tt_nop ?_
          refine tt_ar rfl ?_
          refine tt_zret (by omega) ?_
          exact Or.inr ⟨pos + 1 + 1 + 1 + 1, (by unfold p_wash; rw [hk]; rw [hv0]; (try dsimp only); rw [if_neg (fun h => h hl0)]; rw [hv1]; (try dsimp only); rw [if_pos hl1]), rfl, (Fr.put (Fr.put (Fr.put (Fr.put Fr.rf (by decide)) (by decide)) (by decide)) (by decide)), ((@am_set_rd (am_set (am_set (am_set σ 10 (1) ((((pos : Nat) : Int) + 1))) 10 (1) (((pos + 1 + 1 : Nat) : Int))) 10 (1) (((pos + 1 + 1 + 1 : Nat) : Int))) 10 (1) (((pos + 1 + 1 + 1 + 1 : Nat) : Int))).trans (by omega))⟩
      · refine tt_ar rfl ?_
        refine tt_ar rfl ?_
        refine tt_ifltT (by decide) ?_
        refine tt_ar rfl ?_
        refine tt_zret (by omega) ?_
        exact Or.inr ⟨pos + 1 + 1 + 1, (by unfold p_wash; rw [hk]; rw [hv0]; (try dsimp only); rw [if_neg (fun h => h hl0)]; rw [hv1]; (try dsimp only)), rfl, (Fr.put (Fr.put (Fr.put Fr.rf (by decide)) (by decide)) (by decide)), ((@am_set_rd (am_set (am_set σ 10 (1) ((((pos : Nat) : Int) + 1))) 10 (1) (((pos + 1 + 1 : Nat) : Int))) 10 (1) (((pos + 1 + 1 + 1 : Nat) : Int))).trans (by omega))⟩
    · refine tt_ifneF (by decide) ?_
      refine tt_nop ?_
      refine tt_ar rfl ?_
      refine tt_zret (by omega) ?_
      exact Or.inr ⟨pos + 1 + 1, (by unfold p_wash; rw [hk]; rw [hv0]; (try dsimp only); rw [if_pos hl0]), rfl, (Fr.put (Fr.put Fr.rf (by decide)) (by decide)), ((@am_set_rd (am_set σ 10 (1) ((((pos : Nat) : Int) + 1))) 10 (1) (((pos + 1 + 1 : Nat) : Int))).trans (by omega))⟩
  · refine tt_ar rfl ?_
    refine tt_ar rfl ?_
    refine tt_ifltT (by decide) ?_
    refine tt_ar rfl ?_
    refine tt_zret (by omega) ?_
    exact Or.inr ⟨pos + 1, (by unfold p_wash; rw [hk]; rw [hv0]; (try dsimp only)), rfl, (Fr.put Fr.rf (by decide)), ((@am_set_rd σ 10 (1) ((((pos : Nat) : Int) + 1))).trans (by omega))⟩

theorem c48 (f : Nat → Int) (s p n pos k : Nat) (W : Nat → Nat → Int) (σ : am_S) (hW : Wd σ) (hR : RS f s p n σ) (hpos : σ.1 10 1 = (pos : Int)) (hle : pos < n) (hP : PR W σ) (hk : W 6 0 = (k : Int)) (hk6 : k ≤ 6) : CC 48 [vR 10] σ (fun r σ' => (∃ q W', p_in f n pos W = (q, some W') ∧ r = some (vI 1) ∧ Fr [10, 13, 14, 15, 16, 17] σ σ' ∧ σ'.1 10 1 = (q : Int) ∧ PR W' σ') ∨ (∃ q, p_in f n pos W = (q, none) ∧ r = some (vI 0) ∧ Fr [10, 13, 14, 15, 16, 17] σ σ' ∧ σ'.1 10 1 = (q : Int))) := by
  show TT am_b48 (am_b48.getD 0 []) [(0, vR 10)] [] σ _
  obtain ⟨hs, hO, hp, hA, hs17, hp17, hn120, hn, hf⟩ := id hR
  refine tt_ar rfl ?_
  refine tt_ar rfl ?_
  refine tt_getI (x := ((pos : Nat) : Int)) (wo_10 hW) rfl hpos ?_
  refine tt_ar rfl ?_
  refine tt_iadd (by omega) (by omega) ?_
  refine tt_putI (wo_10 hW) rfl ?_
  refine tt_ar rfl ?_
  refine tt_ar rfl ?_
  refine tt_ar rfl ?_
  refine tt_cv3 3 rfl (wo_10 hW) (c46 f s p n (pos + 1) (am_set σ 10 (1) ((((pos : Nat) : Int) + 1))) hW (RS.fr (W := [10, 13, 14, 15, 16, 17]) (Fr.put Fr.rf (by decide)) (by decide) hR) ((@am_set_rd σ 10 (1) ((((pos : Nat) : Int) + 1))).trans (by omega)) (by omega) _ _ (by omega) (by omega)) (kor (kex fun v0 => kand fun hv0 => ks ?_) (kand fun hv0 => ks ?_))
  · have hbv0 := p_fig_some (by omega) hv0
    refine tt_ar rfl ?_
    refine tt_ar rfl ?_
    refine tt_ifgeT (by omega) ?_
    refine tt_ar rfl ?_
    refine tt_getR (wo_10 hW) rfl (wr_10_2 hW) ?_
    refine tt_ar rfl ?_
    refine tt_getI (x := W 6 1) (wo_13 hW) rfl hP.2.1 ?_
    refine tt_ar rfl ?_
    refine tt_ar rfl ?_
    refine tt_bI (g := a_shl) (z := a_shl (1) (((v0 : Nat) : Int))) rfl rfl ?_
    refine tt_bI (g := a_or) (z := a_or (W 6 1) (a_shl (1) (((v0 : Nat) : Int)))) rfl rfl ?_
    refine tt_putI (wo_13 hW) rfl ?_
    refine tt_ar rfl ?_
    refine tt_zret (by omega) ?_
    exact Or.inl ⟨pos + 1 + 1, _, (by unfold p_in; rw [hv0]), rfl, (Fr.put (Fr.put (Fr.put Fr.rf (by decide)) (by decide)) (by decide)), ((@am_set_rd (am_set σ 10 (1) ((((pos : Nat) : Int) + 1))) 10 (1) (((pos + 1 + 1 : Nat) : Int))).trans (by omega)), (PR.s134 (PR.s10 (PR.s10 hP)))⟩
  · refine tt_ar rfl ?_
    refine tt_ar rfl ?_
    refine tt_ifgeF (by decide) ?_
    refine tt_ar rfl ?_
    refine tt_zret (by omega) ?_
    exact Or.inr ⟨pos + 1, (by unfold p_in; rw [hv0]), rfl, (Fr.put Fr.rf (by decide)), ((@am_set_rd σ 10 (1) ((((pos : Nat) : Int) + 1))).trans (by omega))⟩

theorem c49 (f : Nat → Int) (s p n pos k : Nat) (W : Nat → Nat → Int) (σ : am_S) (hW : Wd σ) (hR : RS f s p n σ) (hpos : σ.1 10 1 = (pos : Int)) (hle : pos < n) (hP : PR W σ) (hk : W 6 0 = (k : Int)) (hk6 : k ≤ 6) : CC 49 [vR 10] σ (fun r σ' => (∃ q W', p_cost f n 5 0 (pos + 1) W = (q, some W') ∧ r = some (vI 1) ∧ Fr [10, 13, 14, 15, 16, 17] σ σ' ∧ σ'.1 10 1 = (q : Int) ∧ PR W' σ') ∨ (∃ q, p_cost f n 5 0 (pos + 1) W = (q, none) ∧ r = some (vI 0) ∧ Fr [10, 13, 14, 15, 16, 17] σ σ' ∧ σ'.1 10 1 = (q : Int))) := by
  show TT am_b49 (am_b49.getD 0 []) [(0, vR 10)] [] σ _
  obtain ⟨hs, hO, hp, hA, hs17, hp17, hn120, hn, hf⟩ := id hR
  refine tt_ar rfl ?_
  refine tt_ar rfl ?_
  refine tt_getI (x := ((pos : Nat) : Int)) (wo_10 hW) rfl hpos ?_
  refine tt_ar rfl ?_
  refine tt_iadd (by omega) (by omega) ?_
  refine tt_putI (wo_10 hW) rfl ?_
  refine tt_ar rfl ?_
  refine tt_ar rfl ?_
  refine tt_nop ?_
  have lp1_1 : ∀ (μ : Nat) (w : Nat) (q : Nat) (W1 : Nat → Nat → Int) (σ1 : am_S), 5 - w < μ → Fr [10, 13, 14, 15, 16, 17] σ σ1 → (w ≤ 5) → (σ1.1 10 1 = ((q : Nat) : Int)) → (q ≤ n) → (PR W1 σ1) → (p_cost f n (5 - w) w q W1 = p_cost f n 5 0 (pos + 1) W) → TT am_b49 (am_b49.getD 1 []) [(0, vR 10), (1, vI (((w : Nat) : Int)))] [] σ1 (fun r σ' => (∃ q W', p_cost f n 5 0 (pos + 1) W = (q, some W') ∧ r = some (vI 1) ∧ Fr [10, 13, 14, 15, 16, 17] σ σ' ∧ σ'.1 10 1 = (q : Int) ∧ PR W' σ') ∨ (∃ q, p_cost f n 5 0 (pos + 1) W = (q, none) ∧ r = some (vI 0) ∧ Fr [10, 13, 14, 15, 16, 17] σ σ' ∧ σ'.1 10 1 = (q : Int))) := by
    intro μ
    induction μ with
    | zero => intro w q W1 σ1 hμ; exact absurd hμ (Nat.not_lt_zero _)
    | succ μ ih1 =>
      intro w q W1 σ1 hμ hF_σ1 hw hq hqn hP1 hC
      have hW_σ1 := Fr.wd hF_σ1 hW
      refine tt_ar rfl ?_
      refine tt_ar rfl ?_
      refine tt_icge (fun h1_2 => ?_) (fun h1_2 => ?_)
      · refine tt_ar rfl ?_
        refine tt_zret (by omega) ?_
        have e : w = 5 := by omega
        subst e
        exact Or.inl ⟨q, W1, hC.symm, rfl, hF_σ1, hq, hP1⟩
      · refine tt_ar rfl ?_
        refine tt_ar rfl ?_
        refine tt_ar rfl ?_
        refine tt_cv3 3 rfl (wo_10 hW_σ1) (c46 f s p n (q) σ1 hW_σ1 (RS.fr (W := [10, 13, 14, 15, 16, 17]) (Fr.tr Fr.rf hF_σ1 (by decide)) (by decide) hR) hq (by omega) _ _ (by omega) (by omega)) (kor (kex fun v0 => kand fun hv0 => ks ?_) (kand fun hv0 => ks ?_))
        · have hbv0 := p_fig_some (by omega) hv0
          refine tt_ar rfl ?_
          refine tt_ar rfl ?_
          refine tt_ifgeT (by omega) ?_
          refine tt_ar rfl ?_
          refine tt_getR (wo_10 hW_σ1) rfl (wr_10_2 hW_σ1) ?_
          refine tt_getR (wo_13 hW_σ1) rfl (wr_13_5 hW_σ1) ?_
          refine tt_ar rfl ?_
          refine tt_ar rfl ?_
          refine tt_iast (w) (wa_17 hW_σ1) (by omega) rfl (by omega) ?_
          refine tt_iinc (y := ((w + 1 : Nat) : Int)) rfl (iinc_fit (by omega) (by omega) (by omega)) ?_
          refine tt_goto ?_
          refine tt_loc [(0, vR 10), (1, vI (((w + 1 : Nat) : Int)))] rfl rfl ⟨rfl, rfl, trivial⟩ ?_
          exact ih1 (w + 1) (q + 1) (aset W1 10 w (v0 : Int)) _ (by omega) (Fr.put (Fr.put (Fr.tr Fr.rf hF_σ1 (by decide)) (by decide)) (by decide)) (by omega) (@am_set_rd σ1 10 1 (((q + 1 : Nat) : Int))) (by omega) (PR.s17 (PR.s10 hP1)) (by rw [← hC, show 5 - w = (5 - (w + 1)) + 1 by omega]; conv => { rhs; unfold p_cost }; rw [hv0])
        · refine tt_ar rfl ?_
          refine tt_ar rfl ?_
          refine tt_ifgeF (by decide) ?_
          refine tt_ar rfl ?_
          refine tt_zret (by omega) ?_
          exact Or.inr ⟨q, (by rw [← hC, show 5 - w = (4 - w) + 1 by omega]; unfold p_cost; rw [hv0]), rfl, hF_σ1, hq⟩
  refine tt_loc [(0, vR 10), (1, vI (((0 : Nat) : Int)))] rfl rfl ⟨rfl, lv_to rfl (by omega), trivial⟩ ?_
  exact lp1_1 _ (0) (pos + 1) (W) _ (Nat.lt_succ_self _) (Fr.put Fr.rf (by decide)) (by omega) ((@am_set_rd σ 10 1 _).trans (by omega)) (by omega) (PR.s10 hP) rfl

theorem c44 (f : Nat → Int) (s p n pos k : Nat) (W : Nat → Nat → Int) (σ : am_S) (hW : Wd σ) (hR : RS f s p n σ) (hpos : σ.1 10 1 = (pos : Int)) (hle : pos < n) (hP : PR W σ) (hk : W 6 0 = (k : Int)) (hk6 : k ≤ 6) : CC 44 [vR 10] σ (fun r σ' => (∃ q W', p_item f n pos W = (q, some W') ∧ r = some (vI 1) ∧ Fr [10, 13, 14, 15, 16, 17] σ σ' ∧ σ'.1 10 1 = (q : Int) ∧ PR W' σ') ∨ (∃ q, p_item f n pos W = (q, none) ∧ r = some (vI 0) ∧ Fr [10, 13, 14, 15, 16, 17] σ σ' ∧ σ'.1 10 1 = (q : Int))) := by
  show TT am_b44 (am_b44.getD 0 []) [(0, vR 10)] [] σ _
  obtain ⟨hs, hO, hp, hA, hs17, hp17, hn120, hn, hf⟩ := id hR
  refine tt_ar rfl ?_
  refine tt_cv1 1 rfl (wo_10 hW) (c43 f s p n (pos) σ hW hR hpos (by omega)) (kp ?_)
  refine tt_lsw ?_
  have hsg : p_sign f n pos = f pos := if_pos hle
  by_cases h99 : f pos = 99
  · refine tt_to (b' := 4) (by rw [hsg, h99]; rfl) ?_
    refine tt_ar rfl ?_
    refine tt_cv1 1 rfl (wo_10 hW) (c49 f s p n pos k W σ hW hR hpos hle hP hk hk6) ?_
    intro r0 σ2 hq0
    rcases hq0 with ⟨q, W1, hq, rfl, hF2, hq1, hP1⟩ | ⟨q, hq, rfl, hF2, hq1⟩
    · have hW1 := Fr.wd hF2 hW
      refine tt_zret (by omega) ?_
      exact Or.inl ⟨q, W1, (by unfold p_item; rw [if_neg (by omega), if_neg (by omega), if_neg (by omega), if_pos h99]; exact hq), rfl, hF2, hq1, hP1⟩
    · have hW2 := Fr.wd hF2 hW
      refine tt_zret (by omega) ?_
      exact Or.inr ⟨q, (by unfold p_item; rw [if_neg (by omega), if_neg (by omega), if_neg (by omega), if_pos h99]; exact hq), rfl, hF2, hq1⟩
  by_cases h105 : f pos = 105
  · refine tt_to (b' := 3) (by rw [hsg, h105]; rfl) ?_
    refine tt_ar rfl ?_
    refine tt_cv1 1 rfl (wo_10 hW) (c48 f s p n pos k W σ hW hR hpos hle hP hk hk6) ?_
    intro r0 σ2 hq0
    rcases hq0 with ⟨q, W1, hq, rfl, hF2, hq1, hP1⟩ | ⟨q, hq, rfl, hF2, hq1⟩
    · have hW3 := Fr.wd hF2 hW
      refine tt_zret (by omega) ?_
      exact Or.inl ⟨q, W1, (by unfold p_item; rw [if_neg (by omega), if_neg (by omega), if_pos h105]; exact hq), rfl, hF2, hq1, hP1⟩
    · have hW4 := Fr.wd hF2 hW
      refine tt_zret (by omega) ?_
      exact Or.inr ⟨q, (by unfold p_item; rw [if_neg (by omega), if_neg (by omega), if_pos h105]; exact hq), rfl, hF2, hq1⟩
  by_cases h107 : f pos = 107
  · refine tt_to (b' := 1) (by rw [hsg, h107]; rfl) ?_
    refine tt_ar rfl ?_
    refine tt_cv1 1 rfl (wo_10 hW) (c45 f s p n pos k W σ hW hR hpos hle hP hk hk6) ?_
    intro r0 σ2 hq0
    rcases hq0 with ⟨q, W1, hq, rfl, hF2, hq1, hP1⟩ | ⟨q, hq, rfl, hF2, hq1⟩
    · have hW5 := Fr.wd hF2 hW
      refine tt_zret (by omega) ?_
      exact Or.inl ⟨q, W1, (by unfold p_item; rw [if_pos h107]; exact hq), rfl, hF2, hq1, hP1⟩
    · have hW6 := Fr.wd hF2 hW
      refine tt_zret (by omega) ?_
      exact Or.inr ⟨q, (by unfold p_item; rw [if_pos h107]; exact hq), rfl, hF2, hq1⟩
  by_cases h119 : f pos = 119
  · refine tt_to (b' := 2) (by rw [hsg, h119]; rfl) ?_
    refine tt_ar rfl ?_
    refine tt_cv1 1 rfl (wo_10 hW) (c47 f s p n pos k W σ hW hR hpos hle hP hk hk6) ?_
    intro r0 σ2 hq0
    rcases hq0 with ⟨q, W1, hq, rfl, hF2, hq1, hP1⟩ | ⟨q, hq, rfl, hF2, hq1⟩
    · have hW7 := Fr.wd hF2 hW
      refine tt_zret (by omega) ?_
      exact Or.inl ⟨q, W1, (by unfold p_item; rw [if_neg (by omega), if_pos h119]; exact hq), rfl, hF2, hq1, hP1⟩
    · have hW8 := Fr.wd hF2 hW
      refine tt_zret (by omega) ?_
      exact Or.inr ⟨q, (by unfold p_item; rw [if_neg (by omega), if_pos h119]; exact hq), rfl, hF2, hq1⟩
  refine tt_to (b' := 5) (by rw [hsg]; simp [am_look, h99, h105, h107, h119]) ?_
  refine tt_ar rfl ?_
  refine tt_zret (by omega) ?_
  exact Or.inr ⟨pos, (by unfold p_item; rw [if_neg h107, if_neg h119, if_neg h105, if_neg h99]), rfl, Fr.rf, hpos⟩
end
section
/-! THE READER, WHOLE -/
def WOK (W : Nat → Nat → Int) : Prop := (0 ≤ W 6 0 ∧ W 6 0 ≤ 6) ∧ (∀ s, s < 6 → -9 ≤ W 7 s ∧ W 7 s ≤ 5 ∧ (W 7 s = -9 ∨ 0 ≤ W 7 s)) ∧ (∀ i, i < 48 → 0 ≤ W 8 i ∧ W 8 i ≤ W 9 i ∧ W 9 i ≤ 9) ∧ (∀ i, i < 5 → 0 ≤ W 10 i ∧ W 10 i ≤ 9)
theorem WOK.sort {W : Nat → Nat → Int} {v : Int} (h : WOK W) (hs : W 6 0 < 6) (hv : v = -9 ∨ (0 ≤ v ∧ v ≤ 5)) : WOK (aset (aset W 7 (W 6 0).toNat v) 6 0 (W 6 0 + 1)) := by
  obtain ⟨h1, h2, h3, h4⟩ := h
  refine ⟨?_, ?_, ?_, ?_⟩
  · simp only [aset]; simp; omega
  · intro s hs'
    have := h2 s hs'
    simp only [aset]; simp
    split
    · omega
    · exact this
  · intro i hi
    simp only [aset]; simp
    exact h3 i hi
  · intro i hi
    simp only [aset]; simp
    exact h4 i hi
theorem p_sort_ok {f : Nat → Int} {n pos q : Nat} {W W' : Nat → Nat → Int} (h : p_sort f n pos W = (q, some W')) (hW : WOK W) : WOK W' ∧ pos < q ∧ q ≤ n := by
  unfold p_sort at h
  split at h
  · cases h
  · rename_i h0
    split at h
    · rename_i h1
      cases h
      exact ⟨hW.sort (by omega) (Or.inl rfl), by omega, by omega⟩
    · split at h
      · cases h
      · rename_i v hv
        cases h
        have := p_fig_some (by omega) hv
        exact ⟨hW.sort (by omega) (Or.inr (by omega)), by omega, by omega⟩
theorem p_sort_no {f : Nat → Int} {n pos q : Nat} {W : Nat → Nat → Int} (h : p_sort f n pos W = (q, none)) (hp : pos < n) : pos ≤ q ∧ q ≤ n := by
  unfold p_sort at h
  split at h
  · cases h
    omega
  · split at h
    · cases h
    · split at h
      · cases h
        omega
      · cases h
theorem p_wash_ok {f : Nat → Int} {n pos q : Nat} {W W' : Nat → Nat → Int} (h : p_wash f n pos W = (q, some W')) (hW : WOK W) : WOK W' ∧ pos < q ∧ q ≤ n := by
  unfold p_wash at h
  split at h
  · cases h
  · rename_i s hs
    split at h
    · cases h
    · split at h
      · cases h
      · rename_i x hx
        split at h
        · cases h
        · split at h
          · cases h
          · rename_i a ha
            split at h
            · cases h
            · split at h
              · cases h
              · rename_i b hb
                cases h
                have e1 := p_fig_some (by omega) hs
                have e2 := p_fig_some (by omega) hx
                have e3 := p_fig_some (by omega) ha
                have e4 := p_fig_some (by omega) hb
                refine ⟨?_, by omega, by omega⟩
                obtain ⟨h1, h2, h3, h4⟩ := hW
                refine ⟨?_, ?_, ?_, ?_⟩
                · simp only [aset]; simp; exact h1
                · intro s hs'; simp only [aset]; simp; exact h2 s hs'
                · intro i hi
                  have := h3 i hi
                  simp only [aset]; simp
                  split
                  · omega
                  · exact this
                · intro i hi; simp only [aset]; simp; exact h4 i hi
theorem p_wash_no {f : Nat → Int} {n pos q : Nat} {W : Nat → Nat → Int} (h : p_wash f n pos W = (q, none)) (hp : pos < n) : pos ≤ q ∧ q ≤ n := by
  unfold p_wash at h
  split at h
  · cases h; omega
  · rename_i s hs
    have e1 := p_fig_some (by omega) hs
    split at h
    · cases h; omega
    · rename_i hl
      split at h
      · cases h; omega
      · rename_i x hx
        have e2 := p_fig_some (by omega) hx
        split at h
        · cases h; omega
        · split at h
          · cases h; omega
          · rename_i a ha
            have e3 := p_fig_some (by omega) ha
            split at h
            · cases h; omega
            · split at h
              · cases h; omega
              · cases h
theorem p_cost_ok {f : Nat → Int} {n : Nat} : ∀ {m w pos q : Nat} {W W' : Nat → Nat → Int}, p_cost f n m w pos W = (q, some W') → pos ≤ n → WOK W → WOK W' ∧ pos ≤ q ∧ q ≤ n
  | 0, w, pos, q, W, W', h, hp, hW => by
    cases h
    exact ⟨hW, by omega, hp⟩
  | m + 1, w, pos, q, W, W', h, hp, hW => by
    unfold p_cost at h
    split at h
    · cases h
    · rename_i v hv
      have e := p_fig_some (by omega) hv
      have := p_cost_ok h (by omega) (by
        obtain ⟨h1, h2, h3, h4⟩ := hW
        refine ⟨?_, ?_, ?_, ?_⟩
        · simp only [aset]; simp; exact h1
        · intro s hs'; simp only [aset]; simp; exact h2 s hs'
        · intro i hi; simp only [aset]; simp; exact h3 i hi
        · intro i hi
          have := h4 i hi
          simp only [aset]; simp
          split
          · omega
          · exact this)
      exact ⟨this.1, by omega, this.2.2⟩
theorem p_cost_no {f : Nat → Int} {n : Nat} : ∀ {m w pos q : Nat} {W : Nat → Nat → Int}, p_cost f n m w pos W = (q, none) → pos ≤ n → pos ≤ q ∧ q ≤ n
  | 0, w, pos, q, W, h, hp => by cases h
  | m + 1, w, pos, q, W, h, hp => by
    unfold p_cost at h
    split at h
    · cases h; omega
    · rename_i v hv
      have e := p_fig_some (by omega) hv
      have := p_cost_no h (by omega)
      omega
theorem p_item_ok {f : Nat → Int} {n pos q : Nat} {W W' : Nat → Nat → Int} (h : p_item f n pos W = (q, some W')) (hp : pos < n) (hW : WOK W) : WOK W' ∧ pos < q ∧ q ≤ n := by
  unfold p_item at h
  split at h
  · exact p_sort_ok h hW
  · split at h
    · exact p_wash_ok h hW
    · split at h
      · unfold p_in at h
        split at h
        · cases h
        · rename_i x hx
          cases h
          have e := p_fig_some (by omega) hx
          refine ⟨?_, by omega, by omega⟩
          obtain ⟨h1, h2, h3, h4⟩ := hW
          refine ⟨?_, ?_, ?_, ?_⟩
          · simp only [aset]; simp; exact h1
          · intro s hs'; simp only [aset]; simp; exact h2 s hs'
          · intro i hi; simp only [aset]; simp; exact h3 i hi
          · intro i hi; simp only [aset]; simp; exact h4 i hi
      · split at h
        · have := p_cost_ok h (by omega) hW
          exact ⟨this.1, by omega, this.2.2⟩
        · cases h
theorem p_item_no {f : Nat → Int} {n pos q : Nat} {W : Nat → Nat → Int} (h : p_item f n pos W = (q, none)) (hp : pos < n) : pos ≤ q ∧ q ≤ n := by
  unfold p_item at h
  split at h
  · exact p_sort_no h hp
  · split at h
    · exact p_wash_no h hp
    · split at h
      · unfold p_in at h
        split at h
        · cases h; omega
        · cases h
      · split at h
        · have := p_cost_no h (by omega)
          omega
        · cases h; omega
theorem WOK0 : WOK p_W0 := by
  refine ⟨⟨by decide, by decide⟩, ?_, ?_, ?_⟩
  · intro s _; simp [p_W0]
  · intro i _; simp [p_W0]
  · intro i hi; simp only [p_W0]; simp; split <;> (try split) <;> omega
def p_grow (W : Nat → Nat → Int) : Nat → Nat → Int := fun a j => if a = 7 ∧ W 6 0 ≤ W 7 j then -9 else W a j
theorem grow_a {f g : Nat → Int} {c : Int} {i : Nat} (hC : ∀ j, j < 6 → f j = if j < i ∧ c ≤ g j then -9 else g j) (hi : i < 6) (h : f i < c) : ∀ j, j < 6 → f j = if j < i + 1 ∧ c ≤ g j then -9 else g j := by
  intro j hj
  have h1 := hC i hi
  rw [if_neg (by omega)] at h1
  rw [hC j hj]
  by_cases e : j = i
  · subst e
    rw [if_neg (by omega), if_neg (by omega)]
  · by_cases e2 : j < i ∧ c ≤ g j
    · rw [if_pos e2, if_pos (by omega)]
    · rw [if_neg e2, if_neg (by omega)]
theorem grow_b {σ1 : am_S} {g : Nat → Int} {c : Int} {i : Nat} (hC : ∀ j, j < 6 → σ1.1 14 j = if j < i ∧ c ≤ g j then -9 else g j) (hi : i < 6) (h : c ≤ σ1.1 14 i) : ∀ j, j < 6 → (am_set σ1 14 i (-9)).1 14 j = if j < i + 1 ∧ c ≤ g j then -9 else g j := by
  intro j hj
  have h1 := hC i hi
  rw [if_neg (by omega)] at h1
  rw [am_set_at]
  by_cases e : j = i
  · subst e
    rw [if_pos rfl, if_pos (by omega)]
  · rw [if_neg e, hC j hj]
    by_cases e2 : j < i ∧ c ≤ g j
    · rw [if_pos e2, if_pos (by omega)]
    · rw [if_neg e2, if_neg (by omega)]
theorem c3_5 (σ : am_S) (hW : Wd σ) : CC 3 [vR 5] σ (fun r σ' => r = none ∧ Fr [5, 6, 7, 8, 9] σ σ' ∧ σ'.1 5 0 = 0 ∧ σ'.1 5 4 = 0 ∧ (∀ j, j < 6 → σ'.1 6 j = -9) ∧ (∀ j, j < 48 → σ'.1 7 j = 0) ∧ (∀ j, j < 48 → σ'.1 8 j = 0) ∧ (∀ j, j < 5 → σ'.1 9 j = p_W0 10 j)) := by
  show TT am_b3 (am_b3.getD 0 []) [(0, vR 5)] [] σ _
  refine tt_ar rfl ?_
  refine tt_ar rfl ?_
  refine tt_putI (wo_5 hW) rfl ?_
  refine tt_ar rfl ?_
  refine tt_ar rfl ?_
  refine tt_putI (wo_5 hW) rfl ?_
  refine tt_ar rfl ?_
  refine tt_getR (wo_5 hW) rfl (wr_5_1 hW) ?_
  refine tt_ar rfl ?_
  refine tt_cs2 2 rfl (c4 _ _ 6 _ (wa_6 hW) (by omega) (by rfl)) ?_
  intro r0 σf1 hq0
  obtain ⟨rfl, hFf2, hCf3⟩ := hq0
  have hW4 := Fr.wd hFf2 hW
  refine tt_ar rfl ?_
  refine tt_getR (wo_5 hW4) rfl (wr_5_2 hW4) ?_
  refine tt_ar rfl ?_
  refine tt_cs2 2 rfl (c4 _ _ 48 _ (wa_7 hW4) (by omega) (by rfl)) ?_
  intro r0 σf5 hq0
  obtain ⟨rfl, hFf6, hCf7⟩ := hq0
  have hW8 := Fr.wd hFf6 hW4
  refine tt_ar rfl ?_
  refine tt_getR (wo_5 hW8) rfl (wr_5_3 hW8) ?_
  refine tt_ar rfl ?_
  refine tt_cs2 2 rfl (c4 _ _ 48 _ (wa_8 hW8) (by omega) (by rfl)) ?_
  intro r0 σf9 hq0
  obtain ⟨rfl, hFf10, hCf11⟩ := hq0
  have hW12 := Fr.wd hFf10 hW8
  refine tt_ar rfl ?_
  refine tt_getR (wo_5 hW12) rfl (wr_5_5 hW12) ?_
  refine tt_ar rfl ?_
  refine tt_ar rfl ?_
  refine tt_iast (0) (wa_9 hW12) (by omega) rfl (by omega) ?_
  refine tt_ar rfl ?_
  refine tt_getR (wo_5 hW12) rfl (wr_5_5 hW12) ?_
  refine tt_ar rfl ?_
  refine tt_ar rfl ?_
  refine tt_iast (1) (wa_9 hW12) (by omega) rfl (by omega) ?_
  refine tt_ar rfl ?_
  refine tt_getR (wo_5 hW12) rfl (wr_5_5 hW12) ?_
  refine tt_ar rfl ?_
  refine tt_ar rfl ?_
  refine tt_iast (2) (wa_9 hW12) (by omega) rfl (by omega) ?_
  refine tt_ar rfl ?_
  refine tt_getR (wo_5 hW12) rfl (wr_5_5 hW12) ?_
  refine tt_ar rfl ?_
  refine tt_ar rfl ?_
  refine tt_iast (3) (wa_9 hW12) (by omega) rfl (by omega) ?_
  refine tt_ar rfl ?_
  refine tt_getR (wo_5 hW12) rfl (wr_5_5 hW12) ?_
  refine tt_ar rfl ?_
  refine tt_ar rfl ?_
  refine tt_iast (4) (wa_9 hW12) (by omega) rfl (by omega) ?_
  refine tt_vret ?_
  refine ⟨rfl, (Fr.put (Fr.put (Fr.put (Fr.put (Fr.put (Fr.tr (Fr.tr (Fr.tr (Fr.put (Fr.put Fr.rf (by decide)) (by decide)) hFf2 (by decide)) hFf6 (by decide)) hFf10 (by decide)) (by decide)) (by decide)) (by decide)) (by decide)) (by decide)), ?_, ?_, ?_, ?_, ?_, ?_⟩
  · exact ((hFf10.2 5 (by decide) (0)).trans ((hFf6.2 5 (by decide) (0)).trans ((hFf2.2 5 (by decide) (0)).trans (@am_set_rd σ 5 (0) (0)))))
  · exact ((hFf10.2 5 (by decide) (4)).trans ((hFf6.2 5 (by decide) (4)).trans ((hFf2.2 5 (by decide) (4)).trans (@am_set_rd (am_set σ 5 (0) (0)) 5 (4) (0)))))
  · intro j hj
    exact (((hFf10.2 6 (by decide) (j)).trans (hFf6.2 6 (by decide) (j)))).trans ((hCf3 j).trans (if_pos hj))
  · intro j hj
    exact ((hFf10.2 7 (by decide) (j))).trans ((hCf7 j).trans (if_pos hj))
  · intro j hj
    exact ((hCf11 j).trans (if_pos hj))
  · intro j hj
    match j, hj with
    | 0, _ => exact (@am_set_rd σf9 9 (0) (3))
    | 1, _ => exact (@am_set_rd (am_set σf9 9 (0) (3)) 9 (1) (3))
    | 2, _ => exact (@am_set_rd (am_set (am_set σf9 9 (0) (3)) 9 (1) (3)) 9 (2) (1))
    | 3, _ => exact (@am_set_rd (am_set (am_set (am_set σf9 9 (0) (3)) 9 (1) (3)) 9 (2) (1)) 9 (3) (2))
    | 4, _ => exact (@am_set_rd (am_set (am_set (am_set (am_set σf9 9 (0) (3)) 9 (1) (3)) 9 (2) (1)) 9 (3) (2)) 9 (4) (2))
    | j + 5, h => exact absurd h (by omega)

theorem c3_13 (σ : am_S) (hW : Wd σ) : CC 3 [vR 13] σ (fun r σ' => r = none ∧ Fr [13, 14, 15, 16, 17] σ σ' ∧ σ'.1 13 0 = 0 ∧ σ'.1 13 4 = 0 ∧ (∀ j, j < 6 → σ'.1 14 j = -9) ∧ (∀ j, j < 48 → σ'.1 15 j = 0) ∧ (∀ j, j < 48 → σ'.1 16 j = 0) ∧ (∀ j, j < 5 → σ'.1 17 j = p_W0 10 j)) := by
  show TT am_b3 (am_b3.getD 0 []) [(0, vR 13)] [] σ _
  refine tt_ar rfl ?_
  refine tt_ar rfl ?_
  refine tt_putI (wo_13 hW) rfl ?_
  refine tt_ar rfl ?_
  refine tt_ar rfl ?_
  refine tt_putI (wo_13 hW) rfl ?_
  refine tt_ar rfl ?_
  refine tt_getR (wo_13 hW) rfl (wr_13_1 hW) ?_
  refine tt_ar rfl ?_
  refine tt_cs2 2 rfl (c4 _ _ 6 _ (wa_14 hW) (by omega) (by rfl)) ?_
  intro r0 σf1 hq0
  obtain ⟨rfl, hFf2, hCf3⟩ := hq0
  have hW4 := Fr.wd hFf2 hW
  refine tt_ar rfl ?_
  refine tt_getR (wo_13 hW4) rfl (wr_13_2 hW4) ?_
  refine tt_ar rfl ?_
  refine tt_cs2 2 rfl (c4 _ _ 48 _ (wa_15 hW4) (by omega) (by rfl)) ?_
  intro r0 σf5 hq0
  obtain ⟨rfl, hFf6, hCf7⟩ := hq0
  have hW8 := Fr.wd hFf6 hW4
  refine tt_ar rfl ?_
  refine tt_getR (wo_13 hW8) rfl (wr_13_3 hW8) ?_
  refine tt_ar rfl ?_
  refine tt_cs2 2 rfl (c4 _ _ 48 _ (wa_16 hW8) (by omega) (by rfl)) ?_
  intro r0 σf9 hq0
  obtain ⟨rfl, hFf10, hCf11⟩ := hq0
  have hW12 := Fr.wd hFf10 hW8
  refine tt_ar rfl ?_
  refine tt_getR (wo_13 hW12) rfl (wr_13_5 hW12) ?_
  refine tt_ar rfl ?_
  refine tt_ar rfl ?_
  refine tt_iast (0) (wa_17 hW12) (by omega) rfl (by omega) ?_
  refine tt_ar rfl ?_
  refine tt_getR (wo_13 hW12) rfl (wr_13_5 hW12) ?_
  refine tt_ar rfl ?_
  refine tt_ar rfl ?_
  refine tt_iast (1) (wa_17 hW12) (by omega) rfl (by omega) ?_
  refine tt_ar rfl ?_
  refine tt_getR (wo_13 hW12) rfl (wr_13_5 hW12) ?_
  refine tt_ar rfl ?_
  refine tt_ar rfl ?_
  refine tt_iast (2) (wa_17 hW12) (by omega) rfl (by omega) ?_
  refine tt_ar rfl ?_
  refine tt_getR (wo_13 hW12) rfl (wr_13_5 hW12) ?_
  refine tt_ar rfl ?_
  refine tt_ar rfl ?_
  refine tt_iast (3) (wa_17 hW12) (by omega) rfl (by omega) ?_
  refine tt_ar rfl ?_
  refine tt_getR (wo_13 hW12) rfl (wr_13_5 hW12) ?_
  refine tt_ar rfl ?_
  refine tt_ar rfl ?_
  refine tt_iast (4) (wa_17 hW12) (by omega) rfl (by omega) ?_
  refine tt_vret ?_
  refine ⟨rfl, (Fr.put (Fr.put (Fr.put (Fr.put (Fr.put (Fr.tr (Fr.tr (Fr.tr (Fr.put (Fr.put Fr.rf (by decide)) (by decide)) hFf2 (by decide)) hFf6 (by decide)) hFf10 (by decide)) (by decide)) (by decide)) (by decide)) (by decide)) (by decide)), ?_, ?_, ?_, ?_, ?_, ?_⟩
  · exact ((hFf10.2 13 (by decide) (0)).trans ((hFf6.2 13 (by decide) (0)).trans ((hFf2.2 13 (by decide) (0)).trans (@am_set_rd σ 13 (0) (0)))))
  · exact ((hFf10.2 13 (by decide) (4)).trans ((hFf6.2 13 (by decide) (4)).trans ((hFf2.2 13 (by decide) (4)).trans (@am_set_rd (am_set σ 13 (0) (0)) 13 (4) (0)))))
  · intro j hj
    exact (((hFf10.2 14 (by decide) (j)).trans (hFf6.2 14 (by decide) (j)))).trans ((hCf3 j).trans (if_pos hj))
  · intro j hj
    exact ((hFf10.2 15 (by decide) (j))).trans ((hCf7 j).trans (if_pos hj))
  · intro j hj
    exact ((hCf11 j).trans (if_pos hj))
  · intro j hj
    match j, hj with
    | 0, _ => exact (@am_set_rd σf9 17 (0) (3))
    | 1, _ => exact (@am_set_rd (am_set σf9 17 (0) (3)) 17 (1) (3))
    | 2, _ => exact (@am_set_rd (am_set (am_set σf9 17 (0) (3)) 17 (1) (3)) 17 (2) (1))
    | 3, _ => exact (@am_set_rd (am_set (am_set (am_set σf9 17 (0) (3)) 17 (1) (3)) 17 (2) (1)) 17 (3) (2))
    | 4, _ => exact (@am_set_rd (am_set (am_set (am_set (am_set σf9 17 (0) (3)) 17 (1) (3)) 17 (2) (1)) 17 (3) (2)) 17 (4) (2))
    | j + 5, h => exact absurd h (by omega)

theorem c50 (W : Nat → Nat → Int) (σ : am_S) (hW : Wd σ) (hP : PR W σ) : CC 50 [vR 13] σ (fun r σ' => r = none ∧ Fr [14] σ σ' ∧ PR (p_grow W) σ') := by
  show TT am_b50 (am_b50.getD 0 []) [(0, vR 13)] [] σ _
  refine tt_ar rfl ?_
  refine tt_ar rfl ?_
  refine tt_nop ?_
  have lp1_1 : ∀ (μ : Nat) (i : Nat) (σ1 : am_S), 6 - i < μ → Fr [14] σ σ1 → (i ≤ 6) → (∀ j, j < 6 → σ1.1 14 j = if j < i ∧ W 6 0 ≤ W 7 j then -9 else W 7 j) → TT am_b50 (am_b50.getD 1 []) [(0, vR 13), (1, vI (((i : Nat) : Int)))] [] σ1 (fun r σ' => r = none ∧ Fr [14] σ σ' ∧ PR (p_grow W) σ') := by
    intro μ
    induction μ with
    | zero => intro i σ1 hμ; exact absurd hμ (Nat.not_lt_zero _)
    | succ μ ih1 =>
      intro i σ1 hμ hF_σ1 hi hC
      have hW_σ1 := Fr.wd hF_σ1 hW
      refine tt_ar rfl ?_
      refine tt_ar rfl ?_
      refine tt_icge (fun h1_2 => ?_) (fun h1_2 => ?_)
      · refine tt_vret ?_
        have e : i = 6 := by omega
        subst e
        obtain ⟨g1, g2, g3, g4, g5, g6⟩ := PR.fr (W := W) (L := []) (σ := σ) (σ' := σ) Fr.rf (by decide) hP
        have k : ∀ a, a ≠ 14 → ∀ j, σ1.1 a j = σ.1 a j := fun a ha j => hF_σ1.2 a (by simpa using ha) j
        refine ⟨rfl, hF_σ1, ?_, ?_, ?_, ?_, ?_, ?_⟩
        · rw [k 13 (by decide)]; exact g1
        · rw [k 13 (by decide)]; exact g2
        · intro j hj; rw [hC j hj]; unfold p_grow; congr 1; simp; intro _; exact hj
        · intro j hj; rw [k 15 (by decide)]; exact g4 j hj
        · intro j hj; rw [k 16 (by decide)]; exact g5 j hj
        · intro j hj; rw [k 17 (by decide)]; exact g6 j hj
      · refine tt_ar rfl ?_
        refine tt_getR (wo_13 hW_σ1) rfl (wr_13_1 hW_σ1) ?_
        refine tt_ar rfl ?_
        refine tt_iald (i) (x := σ1.1 14 (i)) (wa_14 hW_σ1) rfl (by omega) rfl ?_
        refine tt_ar rfl ?_
        refine tt_getI (x := W 6 0) (wo_13 hW_σ1) rfl ((hF_σ1.2 13 (by decide) (0)).trans hP.1) ?_
        refine tt_iclt (fun h1_9 => ?_) (fun h1_9 => ?_)
        · refine tt_iinc (y := ((i + 1 : Nat) : Int)) rfl (iinc_fit (by omega) (by omega) (by omega)) ?_
          refine tt_goto ?_
          refine tt_loc [(0, vR 13), (1, vI (((i + 1 : Nat) : Int)))] rfl rfl ⟨rfl, rfl, trivial⟩ ?_
          exact ih1 (i + 1) σ1 (by omega) (Fr.tr Fr.rf hF_σ1 (by decide)) (by omega) (by first | exact grow_a hC (by omega) (by omega) | exact grow_b hC (by omega) (by omega))
        · refine tt_ar rfl ?_
          refine tt_getR (wo_13 hW_σ1) rfl (wr_13_1 hW_σ1) ?_
          refine tt_ar rfl ?_
          refine tt_ar rfl ?_
          refine tt_iast (i) (wa_14 hW_σ1) (by omega) rfl (by omega) ?_
          refine tt_nop ?_
          refine tt_iinc (y := ((i + 1 : Nat) : Int)) rfl (iinc_fit (by omega) (by omega) (by omega)) ?_
          refine tt_goto ?_
          refine tt_loc [(0, vR 13), (1, vI (((i + 1 : Nat) : Int)))] rfl rfl ⟨rfl, rfl, trivial⟩ ?_
          exact ih1 (i + 1) _ (by omega) (Fr.put (Fr.tr Fr.rf hF_σ1 (by decide)) (by decide)) (by omega) (by first | exact grow_a hC (by omega) (by omega) | exact grow_b hC (by omega) (by omega))
  refine tt_loc [(0, vR 13), (1, vI (((0 : Nat) : Int)))] rfl rfl ⟨rfl, lv_to rfl (by omega), trivial⟩ ?_
  exact lp1_1 _ (0) σ (Nat.lt_succ_self _) Fr.rf (by omega) (fun j hj => (hP.2.2.1 j hj).trans (if_neg (fun h => absurd h.1 (Nat.not_lt_zero j))).symm)

def WofT (σ : am_S) : Nat → Nat → Int := fun a j => if a = 6 then (if j = 0 then σ.1 13 0 else σ.1 13 4) else σ.1 (a + 7) j
theorem PR_of (σ : am_S) : PR (WofT σ) σ := ⟨rfl, rfl, fun _ _ => rfl, fun _ _ => rfl, fun _ _ => rfl, fun _ _ => rfl⟩
theorem c41 (f : Nat → Int) (s p n : Nat) (σ : am_S) (hW : Wd σ) (hO : am_isO σ s 6 = true) (hp : σ.2.1 s 0 = some p) (hA : σ.2.2.1[p]? = some (.inl .int, 120)) (hs17 : 17 < s) (hp17 : 17 < p) (hn120 : n ≤ 120) (hn : σ.1 s 1 = (n : Int)) (hf : ∀ j, j < n → σ.1 p j = f j ∧ -128 ≤ f j ∧ f j ≤ 127) : CC 41 [vR 10, vR s] σ (fun r σ' => (∃ q W', p_run f n 120 0 p_W0 = (q, some W') ∧ r = some (vI (-9)) ∧ Fr [10, 13, 14, 15, 16, 17] (am_setR σ 10 0 (some s)) σ' ∧ WOK W' ∧ PR (p_grow W') σ') ∨ (∃ q : Nat, p_run f n 120 0 p_W0 = (q, none) ∧ r = some (vI (q : Int)) ∧ Fr [10, 13, 14, 15, 16, 17] (am_setR σ 10 0 (some s)) σ')) := by
  show TT am_b41 (am_b41.getD 0 []) [(0, vR 10), (1, vR s)] [] σ _
  refine tt_ar rfl ?_
  refine tt_ar rfl ?_
  refine tt_putR (wo_10 hW) rfl ?_
  obtain ⟨σs, hσs⟩ : ∃ x, x = am_setR σ 10 0 (some s) := ⟨_, rfl⟩
  refine tt_st hσs.symm ?_
  have hWs : Wd σs := hσs ▸ Wd.src hW
  have hRs : RS f s p n σs := by rw [hσs]; exact ⟨am_setR_rd, hO, (am_setR_ne (by omega)).trans hp, hA, hs17, hp17, hn120, hn, hf⟩
  have hns : σs.1 s 1 = (n : Int) := hRs.2.2.2.2.2.2.2.1
  have hs := hRs.1
  refine tt_ar rfl ?_
  refine tt_ar rfl ?_
  refine tt_putI (wo_10 hWs) rfl ?_
  refine tt_ar rfl ?_
  refine tt_getR (wo_10 hWs) rfl (wr_10_2 hWs) ?_
  refine tt_cv1 1 rfl (wo_13 hWs) (c3_13 (am_set σs 10 (1) (0)) hWs) ?_
  intro r0 σ0 hq0
  obtain ⟨rfl, hF0, hc1, hc2, hc3, hc4, hc5, hc6⟩ := hq0
  have hW1 := Fr.wd hF0 hWs
  have hP0 : PR p_W0 σ0 := ⟨hc1, hc2, fun j hj => hc3 j hj, fun j hj => hc4 j hj, fun j hj => hc5 j hj, hc6⟩
  refine tt_ar rfl ?_
  refine tt_ar rfl ?_
  refine tt_ar rfl ?_
  refine tt_ar rfl ?_
  refine tt_nop ?_
  have lp1_2 : ∀ (μ : Nat) (g : Int) (t : Nat) (q : Nat) (W1 : Nat → Nat → Int) (σ1 : am_S), 120 - t < μ → Fr [10, 13, 14, 15, 16, 17] σs σ1 → (g = 0 ∨ g = 1) → (σ1.1 10 1 = ((q : Nat) : Int)) → (q ≤ n) → (t ≤ 120) → (g = 1 → t ≤ q) → (g = 1 → PR W1 σ1 ∧ WOK W1 ∧ p_run f n (120 - t) q W1 = p_run f n 120 0 p_W0) → (g = 0 → p_run f n 120 0 p_W0 = (q, none)) → TT am_b41 (am_b41.getD 1 []) [(0, vR 10), (2, vI (g)), (3, vI (((t : Nat) : Int)))] [] σ1 (fun r σ' => (∃ q W', p_run f n 120 0 p_W0 = (q, some W') ∧ r = some (vI (-9)) ∧ Fr [10, 13, 14, 15, 16, 17] (am_setR σ 10 0 (some s)) σ' ∧ WOK W' ∧ PR (p_grow W') σ') ∨ (∃ q : Nat, p_run f n 120 0 p_W0 = (q, none) ∧ r = some (vI (q : Int)) ∧ Fr [10, 13, 14, 15, 16, 17] (am_setR σ 10 0 (some s)) σ')) := by
    intro μ
    induction μ with
    | zero => intro g t q W1 σ1 hμ; exact absurd hμ (Nat.not_lt_zero _)
    | succ μ ih1 =>
      intro g t q W1 σ1 hμ hF_σ1 hg hq hqn ht htq hG hN
      have hW_σ1 := Fr.wd hF_σ1 hWs
      refine tt_ar rfl ?_
      refine tt_ifeq (fun h1_1 => ?_) (fun h1_1 => ?_)
      · refine tt_ar rfl ?_
        refine tt_getR (wo_10 hW_σ1) rfl (wr_10_2 hW_σ1) ?_
        refine tt_cv1 1 rfl (wo_13 hW_σ1) (c50 (WofT σ1) σ1 hW_σ1 (PR_of σ1)) ?_
        intro r0 σ9 hq0
        obtain ⟨rfl, hF9, hPg⟩ := hq0
        have hW3 := Fr.wd hF9 hW_σ1
        refine tt_ar rfl ?_
        refine tt_ifeqT (by omega) ?_
        refine tt_ar rfl ?_
        refine tt_getI (x := ((q : Nat) : Int)) (wo_10 hW3) rfl ((hF9.2 10 (by decide) (1)).trans hq) ?_
        refine tt_nop ?_
        refine tt_iret ?_
        exact Or.inr ⟨q, hN (by omega), rfl, (by rw [← hσs]; exact (Fr.tr (Fr.tr Fr.rf hF_σ1 (by decide)) hF9 (by decide)))⟩
      · have hg1 : g = 1 := by omega
        obtain ⟨hP1, hWk1, hRun1⟩ := hG hg1
        have htq1 := htq hg1
        refine tt_ar rfl ?_
        refine tt_getI (x := ((q : Nat) : Int)) (wo_10 hW_σ1) rfl hq ?_
        refine tt_ar rfl ?_
        refine tt_getR (wo_10 hW_σ1) rfl ((congrArg (fun z => z.1 10 0) (show Fr [10, 13, 14, 15, 16, 17] σs σ1 from (Fr.tr Fr.rf hF_σ1 (by decide))).1).trans hs) ?_
        refine tt_getI (x := ((n : Nat) : Int)) (am_isO_fr (W := [10, 13, 14, 15, 16, 17]) (Fr.tr Fr.rf hF_σ1 (by decide)) hRs.2.1) rfl ((hF_σ1.2 s (by simp only [List.mem_cons, List.not_mem_nil, or_false, not_or]; omega) (1)).trans hns) ?_
        refine tt_icge (fun h1_7 => ?_) (fun h1_7 => ?_)
        · have hR9 : p_run f n 120 0 p_W0 = (q, some W1) := by
            rw [← hRun1]
            rcases Nat.lt_or_ge t 120 with ht1 | ht1
            · rw [show 120 - t = (119 - t) + 1 by omega]
              unfold p_run
              rw [if_neg (by omega)]
            · rw [show 120 - t = 0 by omega]
              rfl
          refine tt_ar rfl ?_
          refine tt_getR (wo_10 hW_σ1) rfl (wr_10_2 hW_σ1) ?_
          refine tt_cv1 1 rfl (wo_13 hW_σ1) (c50 W1 σ1 hW_σ1 hP1) ?_
          intro r0 σ9 hq0
          obtain ⟨rfl, hF9, hPg⟩ := hq0
          have hW4 := Fr.wd hF9 hW_σ1
          refine tt_ar rfl ?_
          refine tt_ifeqF (by omega) ?_
          refine tt_ar rfl ?_
          refine tt_goto ?_
          refine tt_iret ?_
          exact Or.inl ⟨q, W1, hR9, rfl, (by rw [← hσs]; exact (Fr.tr (Fr.tr Fr.rf hF_σ1 (by decide)) hF9 (by decide))), hWk1, hPg⟩
        · refine tt_ar rfl ?_
          refine tt_ar rfl ?_
          refine tt_icge (fun h1_10 => ?_) (fun h1_10 => ?_)
          · have hR9 : p_run f n 120 0 p_W0 = (q, some W1) := by
              rw [← hRun1]
              rcases Nat.lt_or_ge t 120 with ht1 | ht1
              · rw [show 120 - t = (119 - t) + 1 by omega]
                unfold p_run
                rw [if_neg (by omega)]
              · rw [show 120 - t = 0 by omega]
                rfl
            refine tt_ar rfl ?_
            refine tt_getR (wo_10 hW_σ1) rfl (wr_10_2 hW_σ1) ?_
            refine tt_cv1 1 rfl (wo_13 hW_σ1) (c50 W1 σ1 hW_σ1 hP1) ?_
            intro r0 σ9 hq0
            obtain ⟨rfl, hF9, hPg⟩ := hq0
            have hW5 := Fr.wd hF9 hW_σ1
            refine tt_ar rfl ?_
            refine tt_ifeqF (by omega) ?_
            refine tt_ar rfl ?_
            refine tt_goto ?_
            refine tt_iret ?_
            exact Or.inl ⟨q, W1, hR9, rfl, (by rw [← hσs]; exact (Fr.tr (Fr.tr Fr.rf hF_σ1 (by decide)) hF9 (by decide))), hWk1, hPg⟩
          · refine tt_ar rfl ?_
            refine tt_ar rfl ?_
            refine tt_cv2 2 rfl (wo_10 hW_σ1) (c42 f s p n q σ1 hW_σ1 (RS.fr (W := [10, 13, 14, 15, 16, 17]) (Fr.tr Fr.rf hF_σ1 (by decide)) (by decide) hRs) hq (by omega) _ (by decide)) (kor (kand fun hl => ks ?_) (kand fun hl => ks ?_))
            · refine tt_ifneT (by decide) ?_
              refine tt_ar rfl ?_
              refine tt_goto ?_
              refine tt_ar rfl ?_
              refine tt_iinc (y := ((t + 1 : Nat) : Int)) rfl (iinc_fit (by omega) (by omega) (by omega)) ?_
              refine tt_goto ?_
              refine tt_loc [(0, vR 10), (2, vI (1)), (3, vI (((t + 1 : Nat) : Int)))] rfl rfl ⟨rfl, rfl, rfl, trivial⟩ ?_
              exact ih1 (1) (t + 1) (q + 1) (W1) _ (by omega) (Fr.put (Fr.tr Fr.rf hF_σ1 (by decide)) (by decide)) (by omega) (by first | exact am_set_rd | exact hq3) (by omega) (by omega) (fun _ => by omega) (by first | (intro h; omega) | (intro _; exact ⟨PR.s10 hP1, hWk1, by rw [← hRun1, show 120 - t = (120 - (t + 1)) + 1 by omega]; conv => { rhs; unfold p_run }; rw [if_pos (by omega), if_pos hl.2]⟩) | (intro _; exact ⟨hP2, hok.1, by rw [← hRun1, show 120 - t = (120 - (t + 1)) + 1 by omega]; conv => { rhs; unfold p_run }; rw [if_pos (by omega), if_neg (fun e => hl ⟨by omega, e⟩), hq2]⟩)) (by first | (intro h; omega) | (intro _; rw [← hRun1]; rw [show 120 - t = (119 - t) + 1 by omega]; unfold p_run; rw [if_pos (by omega), if_neg (fun e => hl ⟨by omega, e⟩), hq2]))
            · refine tt_ifneF (by decide) ?_
              refine tt_ar rfl ?_
              refine tt_cv1 1 rfl (wo_10 hW_σ1) (c44 f s p n q (W1 6 0).toNat W1 σ1 hW_σ1 (RS.fr (W := [10, 13, 14, 15, 16, 17]) (Fr.tr Fr.rf hF_σ1 (by decide)) (by decide) hRs) hq (by omega) hP1 (by have := hWk1.1; omega) (by have := hWk1.1; omega)) ?_
              intro r0 σ2 hq0
              rcases hq0 with ⟨q2, W2, hq2, rfl, hF2, hq3, hP2⟩ | ⟨q2, hq2, rfl, hF2, hq3⟩
              · have hW6 := Fr.wd hF2 hW_σ1
                have hok := p_item_ok hq2 (by omega) hWk1
                refine tt_ifeqF (by decide) ?_
                refine tt_nop ?_
                refine tt_ar rfl ?_
                refine tt_goto ?_
                refine tt_ar rfl ?_
                refine tt_iinc (y := ((t + 1 : Nat) : Int)) rfl (iinc_fit (by omega) (by omega) (by omega)) ?_
                refine tt_goto ?_
                refine tt_loc [(0, vR 10), (2, vI (1)), (3, vI (((t + 1 : Nat) : Int)))] rfl rfl ⟨rfl, rfl, rfl, trivial⟩ ?_
                exact ih1 (1) (t + 1) (q2) (W2) σ2 (by omega) (Fr.tr (Fr.tr Fr.rf hF_σ1 (by decide)) hF2 (by decide)) (by omega) (by first | exact am_set_rd | exact hq3) (by omega) (by omega) (fun _ => by omega) (by first | (intro h; omega) | (intro _; exact ⟨PR.s10 hP1, hWk1, by rw [← hRun1, show 120 - t = (120 - (t + 1)) + 1 by omega]; conv => { rhs; unfold p_run }; rw [if_pos (by omega), if_pos hl.2]⟩) | (intro _; exact ⟨hP2, hok.1, by rw [← hRun1, show 120 - t = (120 - (t + 1)) + 1 by omega]; conv => { rhs; unfold p_run }; rw [if_pos (by omega), if_neg (fun e => hl ⟨by omega, e⟩), hq2]⟩)) (by first | (intro h; omega) | (intro _; rw [← hRun1]; rw [show 120 - t = (119 - t) + 1 by omega]; unfold p_run; rw [if_pos (by omega), if_neg (fun e => hl ⟨by omega, e⟩), hq2]))
              · have hW7 := Fr.wd hF2 hW_σ1
                have hno := p_item_no hq2 (by omega)
                refine tt_ifeqT (by decide) ?_
                refine tt_ar rfl ?_
                refine tt_nop ?_
                refine tt_ar rfl ?_
                refine tt_iinc (y := ((t + 1 : Nat) : Int)) rfl (iinc_fit (by omega) (by omega) (by omega)) ?_
                refine tt_goto ?_
                refine tt_loc [(0, vR 10), (2, vI (0)), (3, vI (((t + 1 : Nat) : Int)))] rfl rfl ⟨rfl, rfl, rfl, trivial⟩ ?_
                exact ih1 (0) (t + 1) (q2) (W1) σ2 (by omega) (Fr.tr (Fr.tr Fr.rf hF_σ1 (by decide)) hF2 (by decide)) (by omega) (by first | exact am_set_rd | exact hq3) (by omega) (by omega) (fun _ => by omega) (by first | (intro h; omega) | (intro _; exact ⟨PR.s10 hP1, hWk1, by rw [← hRun1, show 120 - t = (120 - (t + 1)) + 1 by omega]; conv => { rhs; unfold p_run }; rw [if_pos (by omega), if_pos hl.2]⟩) | (intro _; exact ⟨hP2, hok.1, by rw [← hRun1, show 120 - t = (120 - (t + 1)) + 1 by omega]; conv => { rhs; unfold p_run }; rw [if_pos (by omega), if_neg (fun e => hl ⟨by omega, e⟩), hq2]⟩)) (by first | (intro h; omega) | (intro _; rw [← hRun1]; rw [show 120 - t = (119 - t) + 1 by omega]; unfold p_run; rw [if_pos (by omega), if_neg (fun e => hl ⟨by omega, e⟩), hq2]))
  refine tt_loc [(0, vR 10), (2, vI (1)), (3, vI (((0 : Nat) : Int)))] rfl rfl ⟨rfl, rfl, lv_to rfl (by omega), trivial⟩ ?_
  exact lp1_2 _ (1) (0) (0) (p_W0) σ0 (Nat.lt_succ_self _) (Fr.tr (Fr.put Fr.rf (by decide)) hF0 (by decide)) (Or.inr rfl) ((hF0.2 10 (by decide) 1).trans ((@am_set_rd σs 10 1 0).trans (by omega))) (by omega) (by omega) (fun _ => Nat.le_refl _) (fun _ => ⟨hP0, WOK0, rfl⟩) (fun h => by omega)
end
section
/-! THE CLASS'S WORLD, LINE AND STORY: small -/
abbrev isIn (ins w x : Int) : Prop := w = 1 ∧ a_and (a_shr ins x) 1 = 1
/-- the class's world -/
def LW (W : Nat → Nat → Int) (σ : am_S) : Prop := σ.1 5 0 = W 6 0 ∧ σ.1 5 4 = W 6 1 ∧ (∀ j, j < 6 → σ.1 6 j = W 7 j) ∧ (∀ j, j < 48 → σ.1 7 j = W 8 j) ∧ (∀ j, j < 48 → σ.1 8 j = W 9 j) ∧ (∀ j, j < 5 → σ.1 9 j = W 10 j)
/-- the class's world, as numbers -/
def LD (k : Nat) (σ : am_S) : Prop := σ.1 5 0 = (k : Int) ∧ k ≤ 6 ∧ (∀ i, i < 48 → 0 ≤ σ.1 7 i ∧ σ.1 7 i ≤ σ.1 8 i ∧ σ.1 8 i ≤ 9) ∧ (∀ i, i < 5 → 0 ≤ σ.1 9 i ∧ σ.1 9 i ≤ 9) ∧ (∀ s, s < 6 → σ.1 6 s = -9 ∨ (0 ≤ σ.1 6 s ∧ σ.1 6 s < (k : Int)))
/-- the class's line -/
def LN (n : Nat) (σ : am_S) : Prop := σ.1 27 0 = (n : Int) ∧ n ≤ 12 ∧ (∀ m, m < 12 → 0 ≤ σ.1 28 m ∧ σ.1 28 m ≤ 1 ∧ 0 ≤ σ.1 29 m ∧ σ.1 29 m ≤ 9) ∧ (∀ i, i < 96 → 0 ≤ σ.1 30 i ∧ σ.1 30 i ≤ 40)
/-- the class's story -/
def ST (n : Nat) (σ : am_S) : Prop := σ.1 47 2 = (n : Int) ∧ n ≤ 16
theorem LD.fr {L : List Nat} {k : Nat} {σ σ' : am_S} (h : Fr L σ σ') (hw : ∀ a ∈ L, a < 5 ∨ 9 < a) (R : LD k σ) : LD k σ' := by
  have q : ∀ a, 5 ≤ a → a ≤ 9 → ∀ j, σ'.1 a j = σ.1 a j := fun a h1 h2 j => h.2 a (fun e => by have := hw a e; omega) j
  obtain ⟨h1, h2, h3, h4, h5⟩ := R
  exact ⟨by rw [q 5 (by omega) (by omega)]; exact h1, h2, fun i hi => by rw [q 7 (by omega) (by omega), q 8 (by omega) (by omega)]; exact h3 i hi, fun i hi => by rw [q 9 (by omega) (by omega)]; exact h4 i hi, fun i hi => by rw [q 6 (by omega) (by omega)]; exact h5 i hi⟩
theorem LN.fr {L : List Nat} {n : Nat} {σ σ' : am_S} (h : Fr L σ σ') (hw : ∀ a ∈ L, a < 27 ∨ 30 < a) (R : LN n σ) : LN n σ' := by
  have q : ∀ a, 27 ≤ a → a ≤ 30 → ∀ j, σ'.1 a j = σ.1 a j := fun a h1 h2 j => h.2 a (fun e => by have := hw a e; omega) j
  obtain ⟨h1, h2, h3, h4⟩ := R
  exact ⟨by rw [q 27 (by omega) (by omega)]; exact h1, h2, fun i hi => by rw [q 28 (by omega) (by omega), q 29 (by omega) (by omega)]; exact h3 i hi, fun i hi => by rw [q 30 (by omega) (by omega)]; exact h4 i hi⟩
theorem ST.fr {L : List Nat} {n : Nat} {σ σ' : am_S} (h : Fr L σ σ') (hw : ∀ a ∈ L, a ≠ 47) (R : ST n σ) : ST n σ' := ⟨by rw [h.2 47 (fun e => hw 47 e rfl)]; exact R.1, R.2⟩
def lnD (σ : am_S) (m what : Nat) : Int := if what = 0 then σ.1 28 m else if what = 1 then σ.1 29 m else σ.1 30 (m * 8 + what - 2)
def stD (σ : am_S) (e what : Nat) : Int := if what = 0 then σ.1 48 e else if what = 1 then σ.1 49 e else if what = 2 then σ.1 50 e else σ.1 51 e
def wdD (into lst mst : Nat → Int) (j : Nat) : Int := if j % 17 = 0 then into (j / 17) else if (j % 17) % 2 = 1 then lst (8 * (j / 17) + (j % 17) / 2) else mst (8 * (j / 17) + (j % 17) / 2 - 1)
theorem dgN_add {f : Nat → Int} {h : Int} (a : Nat) : ∀ b, dgN (a + b) h f = dgN b (dgN a h f) (fun j => f (a + j))
  | 0 => rfl
  | b + 1 => by
    show w64 (w64 (31 * dgN (a + b) h f) + f (a + b)) = _
    rw [dgN_add a b]
    rfl
theorem dgN_s {n : Nat} {h : Int} {f : Nat → Int} : dgN (n + 1) h f = w64 (w64 (31 * dgN n h f) + f n) := rfl
theorem wdD_0 {a b c : Nat → Int} {m : Nat} : wdD a b c (17 * m) = a m := by
  unfold wdD
  rw [if_pos (by omega), show 17 * m / 17 = m by omega]
theorem wdD_l {a b c : Nat → Int} {m w : Nat} (h : w < 8) : wdD a b c (17 * m + 1 + 2 * w) = b (8 * m + w) := by
  unfold wdD
  rw [if_neg (by omega), if_pos (by omega)]
  congr 1
  omega
theorem wdD_m {a b c : Nat → Int} {m w : Nat} (h : w < 8) : wdD a b c (17 * m + 1 + 2 * w + 1) = c (8 * m + w) := by
  unfold wdD
  rw [if_neg (by omega), if_neg (by omega)]
  congr 1
  omega
theorem c52 (W : Nat → Nat → Int) (σ : am_S) (hW : Wd σ) (hP : PR W σ) : CC 52 [vR 5, vR 13] σ (fun r σ' => r = none ∧ Fr [5, 6, 7, 8, 9] σ σ' ∧ LW W σ') := by
  show TT am_b52 (am_b52.getD 0 []) [(0, vR 5), (1, vR 13)] [] σ _
  refine tt_ar rfl ?_
  refine tt_ar rfl ?_
  refine tt_getI (x := σ.1 13 (0)) (wo_13 hW) rfl rfl ?_
  refine tt_putI (wo_5 hW) rfl ?_
  refine tt_ar rfl ?_
  refine tt_ar rfl ?_
  refine tt_getI (x := σ.1 13 (4)) (wo_13 hW) rfl rfl ?_
  refine tt_putI (wo_5 hW) rfl ?_
  refine tt_ar rfl ?_
  refine tt_getR (wo_13 hW) rfl (wr_13_1 hW) ?_
  refine tt_ar rfl ?_
  refine tt_ar rfl ?_
  refine tt_getR (wo_5 hW) rfl (wr_5_1 hW) ?_
  refine tt_ar rfl ?_
  refine tt_ar rfl ?_
  refine tt_acopy (sp := 0) (dp := 0) (n := 6) (wa_14 hW) (wa_6 hW) rfl rfl rfl (by omega) (by omega) (by omega) (by omega) rfl ?_
  obtain ⟨σc1, hFc2, hCc3, hg4⟩ := cpy_ex (am_set (am_set σ 5 (0) (σ.1 13 (0))) 5 (4) (σ.1 13 (4))) 14 (0) 6 (0) (6)
  rw [hg4]
  have hW5 := Fr.wd hFc2 hW
  refine tt_ar rfl ?_
  refine tt_getR (wo_13 hW5) rfl (wr_13_2 hW5) ?_
  refine tt_ar rfl ?_
  refine tt_ar rfl ?_
  refine tt_getR (wo_5 hW5) rfl (wr_5_2 hW5) ?_
  refine tt_ar rfl ?_
  refine tt_ar rfl ?_
  refine tt_acopy (sp := 0) (dp := 0) (n := 48) (wa_15 hW5) (wa_7 hW5) rfl rfl rfl (by omega) (by omega) (by omega) (by omega) rfl ?_
  obtain ⟨σc6, hFc7, hCc8, hg9⟩ := cpy_ex σc1 15 (0) 7 (0) (48)
  rw [hg9]
  have hW10 := Fr.wd hFc7 hW5
  refine tt_ar rfl ?_
  refine tt_getR (wo_13 hW10) rfl (wr_13_3 hW10) ?_
  refine tt_ar rfl ?_
  refine tt_ar rfl ?_
  refine tt_getR (wo_5 hW10) rfl (wr_5_3 hW10) ?_
  refine tt_ar rfl ?_
  refine tt_ar rfl ?_
  refine tt_acopy (sp := 0) (dp := 0) (n := 48) (wa_16 hW10) (wa_8 hW10) rfl rfl rfl (by omega) (by omega) (by omega) (by omega) rfl ?_
  obtain ⟨σc11, hFc12, hCc13, hg14⟩ := cpy_ex σc6 16 (0) 8 (0) (48)
  rw [hg14]
  have hW15 := Fr.wd hFc12 hW10
  refine tt_ar rfl ?_
  refine tt_getR (wo_13 hW15) rfl (wr_13_5 hW15) ?_
  refine tt_ar rfl ?_
  refine tt_ar rfl ?_
  refine tt_getR (wo_5 hW15) rfl (wr_5_5 hW15) ?_
  refine tt_ar rfl ?_
  refine tt_ar rfl ?_
  refine tt_acopy (sp := 0) (dp := 0) (n := 5) (wa_17 hW15) (wa_9 hW15) rfl rfl rfl (by omega) (by omega) (by omega) (by omega) rfl ?_
  obtain ⟨σc16, hFc17, hCc18, hg19⟩ := cpy_ex σc11 17 (0) 9 (0) (5)
  rw [hg19]
  have hW20 := Fr.wd hFc17 hW15
  refine tt_vret ?_
  obtain ⟨g1, g2, g3, g4, g5, g6⟩ := hP
  refine ⟨rfl, (Fr.tr (Fr.tr (Fr.tr (Fr.tr (Fr.put (Fr.put Fr.rf (by decide)) (by decide)) hFc2 (by decide)) hFc7 (by decide)) hFc12 (by decide)) hFc17 (by decide)), ?_, ?_, ?_, ?_, ?_, ?_⟩
  · exact ((hFc17.2 5 (by decide) (0)).trans ((hFc12.2 5 (by decide) (0)).trans ((hFc7.2 5 (by decide) (0)).trans ((hFc2.2 5 (by decide) (0)).trans (@am_set_rd σ 5 (0) (σ.1 13 (0))))))).trans g1
  · exact ((hFc17.2 5 (by decide) (4)).trans ((hFc12.2 5 (by decide) (4)).trans ((hFc7.2 5 (by decide) (4)).trans ((hFc2.2 5 (by decide) (4)).trans (@am_set_rd (am_set σ 5 (0) (σ.1 13 (0))) 5 (4) (σ.1 13 (4))))))).trans g2
  · intro j hj
    refine (((hFc17.2 6 (by decide) (j)).trans ((hFc12.2 6 (by decide) (j)).trans (hFc7.2 6 (by decide) (j))))).trans ((hCc3 j).trans ((if_pos (by omega)).trans ?_))
    rw [show 0 + (j - 0) = j by omega]
    exact g3 j hj
  · intro j hj
    refine (((hFc17.2 7 (by decide) (j)).trans (hFc12.2 7 (by decide) (j)))).trans ((hCc8 j).trans ((if_pos (by omega)).trans ?_))
    rw [show 0 + (j - 0) = j by omega]
    exact (hFc2.2 15 (by decide) (j)).trans (g4 j hj)
  · intro j hj
    refine ((hFc17.2 8 (by decide) (j))).trans ((hCc13 j).trans ((if_pos (by omega)).trans ?_))
    rw [show 0 + (j - 0) = j by omega]
    exact ((hFc7.2 16 (by decide) (j)).trans (hFc2.2 16 (by decide) (j))).trans (g5 j hj)
  · intro j hj
    refine (hCc18 j).trans ((if_pos (by omega)).trans ?_)
    rw [show 0 + (j - 0) = j by omega]
    exact ((hFc12.2 17 (by decide) (j)).trans ((hFc7.2 17 (by decide) (j)).trans (hFc2.2 17 (by decide) (j)))).trans (g6 j hj)

theorem c53 (σ : am_S) (hW : Wd σ) : CC 53 [vR 32] σ (fun r σ' => r = none ∧ Fr [35] σ σ' ∧ ∀ j, j < 462 → σ'.1 35 j = 0) := by
  show TT am_b53 (am_b53.getD 0 []) [(0, vR 32)] [] σ _
  refine tt_ar rfl ?_
  refine tt_ar rfl ?_
  refine tt_nop ?_
  have lp1_1 : ∀ (μ : Nat) (i : Nat) (σ1 : am_S), 462 - i < μ → Fr [35] σ σ1 → (i ≤ 462) → (∀ j, j < i → σ1.1 35 j = 0) → TT am_b53 (am_b53.getD 1 []) [(0, vR 32), (1, vI (((i : Nat) : Int)))] [] σ1 (fun r σ' => r = none ∧ Fr [35] σ σ' ∧ ∀ j, j < 462 → σ'.1 35 j = 0) := by
    intro μ
    induction μ with
    | zero => intro i σ1 hμ; exact absurd hμ (Nat.not_lt_zero _)
    | succ μ ih1 =>
      intro i σ1 hμ hF_σ1 hi hC
      have hW_σ1 := Fr.wd hF_σ1 hW
      refine tt_ar rfl ?_
      refine tt_ar rfl ?_
      refine tt_icge (fun h1_2 => ?_) (fun h1_2 => ?_)
      · refine tt_vret ?_
        have e : i = 462 := by omega
        subst e
        exact ⟨rfl, hF_σ1, hC⟩
      · refine tt_ar rfl ?_
        refine tt_getR (wo_32 hW_σ1) rfl (wr_32_4 hW_σ1) ?_
        refine tt_ar rfl ?_
        refine tt_ar rfl ?_
        refine tt_bastZ (i) (wa_35 hW_σ1) (by omega) rfl (by omega) ?_
        refine tt_iinc (y := ((i + 1 : Nat) : Int)) rfl (iinc_fit (by omega) (by omega) (by omega)) ?_
        refine tt_goto ?_
        refine tt_loc [(0, vR 32), (1, vI (((i + 1 : Nat) : Int)))] rfl rfl ⟨rfl, rfl, trivial⟩ ?_
        exact ih1 (i + 1) _ (by omega) (Fr.put (Fr.tr Fr.rf hF_σ1 (by decide)) (by decide)) (by omega) (fun j hj => by rw [am_set_at]; split; rfl; exact hC j (by omega))
  refine tt_loc [(0, vR 32), (1, vI (((0 : Nat) : Int)))] rfl rfl ⟨rfl, lv_to rfl (by omega), trivial⟩ ?_
  exact lp1_1 _ (0) σ (Nat.lt_succ_self _) Fr.rf (by omega) (fun j hj => absurd hj (Nat.not_lt_zero j))

theorem c54 (σ : am_S) (hW : Wd σ) : CC 54 [vR 36] σ (fun r σ' => σ' = am_set (am_set σ 36 4 0) 36 5 0 ∧ r = none) := by
  show TT am_b54 (am_b54.getD 0 []) [(0, vR 36)] [] σ _
  refine tt_ar rfl ?_
  refine tt_ar rfl ?_
  refine tt_putZ (wo_36 hW) rfl (by omega) ?_
  refine tt_ar rfl ?_
  refine tt_ar rfl ?_
  refine tt_putZ (wo_36 hW) rfl (by omega) ?_
  refine tt_vret ?_
  exact ⟨rfl, rfl⟩

theorem c72 (σ : am_S) (w x : Int) (hW : Wd σ) : CC 72 [vR 5, vI (w), vI (x)] σ (fun r σ' => σ' = σ ∧ ((isIn (σ.1 5 4) w x) ∧ r = some (vI 1) ∨ ¬(isIn (σ.1 5 4) w x) ∧ r = some (vI 0))) := by
  show TT am_b72 (am_b72.getD 0 []) [(0, vR 5), (1, vI (w)), (2, vI (x))] [] σ _
  refine tt_ar rfl ?_
  refine tt_ar rfl ?_
  refine tt_icne (fun h0_2 => ?_) (fun h0_2 => ?_)
  · refine tt_ar rfl ?_
    refine tt_nop ?_
    refine tt_zret (by omega) ?_
    exact ⟨rfl, Or.inr ⟨by omega, rfl⟩⟩
  · refine tt_ar rfl ?_
    refine tt_getI (x := σ.1 5 (4)) (wo_5 hW) rfl rfl ?_
    refine tt_ar rfl ?_
    refine tt_bI (g := a_shr) (z := a_shr (σ.1 5 (4)) (x)) rfl rfl ?_
    refine tt_ar rfl ?_
    refine tt_bI (g := a_and) (z := a_and (a_shr (σ.1 5 (4)) (x)) (1)) rfl rfl ?_
    refine tt_ar rfl ?_
    refine tt_icne (fun h0_10 => ?_) (fun h0_10 => ?_)
    · refine tt_ar rfl ?_
      refine tt_nop ?_
      refine tt_zret (by omega) ?_
      exact ⟨rfl, Or.inr ⟨by omega, rfl⟩⟩
    · refine tt_ar rfl ?_
      refine tt_goto ?_
      refine tt_zret (by omega) ?_
      exact ⟨rfl, Or.inl ⟨by omega, rfl⟩⟩

theorem c71 (σ : am_S) (h x : Nat) (w : Int) (hW : Wd σ) (hh : h < 462) (hx : x < 8) : CC 71 [vR 18, vI (((h : Nat) : Int)), vI (w), vI (((x : Nat) : Int))] σ (fun r σ' => r = some (vI (if isIn (σ.1 5 4) w (x : Int) then 0 else σ.1 25 (h * 8 + x))) ∧ σ' = σ) := by
  show TT am_b71 (am_b71.getD 0 []) [(0, vR 18), (1, vI (((h : Nat) : Int))), (2, vI (w)), (3, vI (((x : Nat) : Int)))] [] σ _
  refine tt_ar rfl ?_
  refine tt_getR (wo_18 hW) rfl (wr_18_0 hW) ?_
  refine tt_ar rfl ?_
  refine tt_ar rfl ?_
  refine tt_cv3 3 rfl (wo_5 hW) (c72 σ _ _ hW) (kb (fun h0_4 => ?_) (fun h0_4 => ?_))
  · refine tt_ifeqF (by decide) ?_
    refine tt_ar rfl ?_
    refine tt_goto ?_
    refine tt_iret ?_
    exact ⟨rv (by rw [if_pos h0_4]), rfl⟩
  · refine tt_ifeqT (by decide) ?_
    refine tt_ar rfl ?_
    refine tt_getR (wo_18 hW) rfl (wr_18_8 hW) ?_
    refine tt_ar rfl ?_
    refine tt_ar rfl ?_
    refine tt_imul (by omega) (by omega) ?_
    refine tt_ar rfl ?_
    refine tt_iadd (by omega) (by omega) ?_
    refine tt_iald (((h * 8) + x)) (x := σ.1 25 (((h * 8) + x))) (wa_25 hW) (by omega) (by omega) rfl ?_
    refine tt_nop ?_
    refine tt_iret ?_
    exact ⟨rv (by rw [if_neg h0_4]), rfl⟩

theorem c68 (σ : am_S) (m what : Nat) (hW : Wd σ) (hm : m < 12) (hw : what < 10) : CC 68 [vR 27, vI (((m : Nat) : Int)), vI (((what : Nat) : Int))] σ (fun r σ' => r = some (vI (lnD σ m what)) ∧ σ' = σ) := by
  show TT am_b68 (am_b68.getD 0 []) [(0, vR 27), (1, vI (((m : Nat) : Int))), (2, vI (((what : Nat) : Int)))] [] σ _
  refine tt_ar rfl ?_
  refine tt_ifne (fun h0_1 => ?_) (fun h0_1 => ?_)
  · refine tt_ar rfl ?_
    refine tt_ar rfl ?_
    refine tt_icne (fun h1_2 => ?_) (fun h1_2 => ?_)
    · refine tt_ar rfl ?_
      refine tt_getR (wo_27 hW) rfl (wr_27_3 hW) ?_
      refine tt_ar rfl ?_
      refine tt_ar rfl ?_
      refine tt_imul (by omega) (by omega) ?_
      refine tt_ar rfl ?_
      refine tt_iadd (by omega) (by omega) ?_
      refine tt_ar rfl ?_
      refine tt_isub (by omega) (by omega) ?_
      refine tt_iald (m * 8 + what - 2) (x := σ.1 30 (m * 8 + what - 2)) (wa_30 hW) (by omega) (by omega) rfl ?_
      refine tt_nop ?_
      refine tt_iret ?_
      exact ⟨rv (by unfold lnD; rw [if_neg (by omega), if_neg (by omega)]), rfl⟩
    · refine tt_ar rfl ?_
      refine tt_getR (wo_27 hW) rfl (wr_27_2 hW) ?_
      refine tt_ar rfl ?_
      refine tt_iald (m) (x := σ.1 29 (m)) (wa_29 hW) rfl (by omega) rfl ?_
      refine tt_goto ?_
      refine tt_iret ?_
      exact ⟨rv (by unfold lnD; rw [if_neg (by omega), if_pos (by omega)]), rfl⟩
  · refine tt_ar rfl ?_
    refine tt_getR (wo_27 hW) rfl (wr_27_1 hW) ?_
    refine tt_ar rfl ?_
    refine tt_iald (m) (x := σ.1 28 (m)) (wa_28 hW) rfl (by omega) rfl ?_
    refine tt_iret ?_
    exact ⟨rv (by unfold lnD; rw [if_pos (by omega)]), rfl⟩

theorem c77 (σ : am_S) (n m x : Nat) (v : Int) (hW : Wd σ) (hL : LN n σ) (hm : m < 12) (hx : x < 8) : CC 77 [vR 27, vI (((m : Nat) : Int)), vI (((x : Nat) : Int)), vI (v)] σ (fun r σ' => σ' = σ ∧ ((σ.1 30 (m * 8 + x) - σ.1 29 m > v) ∧ r = some (vI 1) ∨ ¬(σ.1 30 (m * 8 + x) - σ.1 29 m > v) ∧ r = some (vI 0))) := by
  show TT am_b77 (am_b77.getD 0 []) [(0, vR 27), (1, vI (((m : Nat) : Int))), (2, vI (((x : Nat) : Int))), (3, vI (v))] [] σ _
  refine tt_ar rfl ?_
  refine tt_getR (wo_27 hW) rfl (wr_27_3 hW) ?_
  refine tt_ar rfl ?_
  refine tt_ar rfl ?_
  refine tt_imul (by omega) (by omega) ?_
  refine tt_ar rfl ?_
  refine tt_iadd (by omega) (by omega) ?_
  refine tt_iald (((m * 8) + x)) (x := σ.1 30 (((m * 8) + x))) (wa_30 hW) (by omega) (by omega) rfl ?_
  have hb1 := hL.2.2.2 (((m * 8) + x)) (by omega)
  refine tt_ar rfl ?_
  refine tt_getR (wo_27 hW) rfl (wr_27_2 hW) ?_
  refine tt_ar rfl ?_
  refine tt_iald (m) (x := σ.1 29 (m)) (wa_29 hW) rfl (by omega) rfl ?_
  have hb2 := hL.2.2.1 (m) (by omega)
  refine tt_isub (by omega) (by omega) ?_
  refine tt_ar rfl ?_
  refine tt_icle (fun h0_14 => ?_) (fun h0_14 => ?_)
  · refine tt_ar rfl ?_
    refine tt_nop ?_
    refine tt_zret (by omega) ?_
    exact ⟨rfl, Or.inr ⟨by omega, rfl⟩⟩
  · refine tt_ar rfl ?_
    refine tt_goto ?_
    refine tt_zret (by omega) ?_
    exact ⟨rfl, Or.inl ⟨by omega, rfl⟩⟩

theorem c78 (σ : am_S) (n m x : Nat) (v : Int) (hW : Wd σ) (hL : LN n σ) (hm : m < 12) (hx : x < 8) : CC 78 [vR 27, vI (((m : Nat) : Int)), vI (((x : Nat) : Int)), vI (v)] σ (fun r σ' => σ' = σ ∧ ((σ.1 30 (m * 8 + x) + σ.1 29 m < v) ∧ r = some (vI 1) ∨ ¬(σ.1 30 (m * 8 + x) + σ.1 29 m < v) ∧ r = some (vI 0))) := by
  show TT am_b78 (am_b78.getD 0 []) [(0, vR 27), (1, vI (((m : Nat) : Int))), (2, vI (((x : Nat) : Int))), (3, vI (v))] [] σ _
  refine tt_ar rfl ?_
  refine tt_getR (wo_27 hW) rfl (wr_27_3 hW) ?_
  refine tt_ar rfl ?_
  refine tt_ar rfl ?_
  refine tt_imul (by omega) (by omega) ?_
  refine tt_ar rfl ?_
  refine tt_iadd (by omega) (by omega) ?_
  refine tt_iald (((m * 8) + x)) (x := σ.1 30 (((m * 8) + x))) (wa_30 hW) (by omega) (by omega) rfl ?_
  have hb1 := hL.2.2.2 (((m * 8) + x)) (by omega)
  refine tt_ar rfl ?_
  refine tt_getR (wo_27 hW) rfl (wr_27_2 hW) ?_
  refine tt_ar rfl ?_
  refine tt_iald (m) (x := σ.1 29 (m)) (wa_29 hW) rfl (by omega) rfl ?_
  have hb2 := hL.2.2.1 (m) (by omega)
  refine tt_iadd (by omega) (by omega) ?_
  refine tt_ar rfl ?_
  refine tt_icge (fun h0_14 => ?_) (fun h0_14 => ?_)
  · refine tt_ar rfl ?_
    refine tt_nop ?_
    refine tt_zret (by omega) ?_
    exact ⟨rfl, Or.inr ⟨by omega, rfl⟩⟩
  · refine tt_ar rfl ?_
    refine tt_goto ?_
    refine tt_zret (by omega) ?_
    exact ⟨rfl, Or.inl ⟨by omega, rfl⟩⟩

theorem c169 (σ : am_S) (n : Nat) (h : Int) (hW : Wd σ) (hL : LN n σ) : CC 169 [vR 27, vL (h)] σ (fun r σ' => r = some (vL (dgN (10 * n) h (fun j => lnD σ (j / 10) (j % 10)))) ∧ σ' = σ) := by
  show TT am_b169 (am_b169.getD 0 []) [(0, vR 27), (1, vL (h))] [] σ _
  have hn12 := hL.2.1
  refine tt_ar rfl ?_
  refine tt_ar rfl ?_
  refine tt_ar rfl ?_
  refine tt_ar rfl ?_
  refine tt_nop ?_
  have lp1_1 : ∀ (μ : Nat) (m : Nat), n - m < μ → (m ≤ n) → TT am_b169 (am_b169.getD 1 []) [(0, vR 27), (3, vL (dgN (10 * m) h (fun j => lnD σ (j / 10) (j % 10)))), (5, vI (((m : Nat) : Int)))] [] σ (fun r σ' => r = some (vL (dgN (10 * n) h (fun j => lnD σ (j / 10) (j % 10)))) ∧ σ' = σ) := by
    intro μ
    induction μ with
    | zero => intro m hμ; exact absurd hμ (Nat.not_lt_zero _)
    | succ μ ih1 =>
      intro m hμ hm
      refine tt_ar rfl ?_
      refine tt_ar rfl ?_
      refine tt_getI (x := ((n : Nat) : Int)) (wo_27 hW) rfl hL.1 ?_
      refine tt_icge (fun h1_3 => ?_) (fun h1_3 => ?_)
      · refine tt_ar rfl ?_
        refine tt_lret ?_
        have e : m = n := by omega
        subst e
        exact ⟨rfl, rfl⟩
      · refine tt_ar rfl ?_
        refine tt_ar rfl ?_
        refine tt_nop ?_
        have lp2_2 : ∀ (μ : Nat) (w : Nat), 10 - w < μ → (w ≤ 10) → TT am_b169 (am_b169.getD 2 []) [(0, vR 27), (3, vL (dgN (10 * m + w) h (fun j => lnD σ (j / 10) (j % 10)))), (5, vI (((m : Nat) : Int))), (6, vI (((w : Nat) : Int)))] [] σ (fun r σ' => r = some (vL (dgN (10 * n) h (fun j => lnD σ (j / 10) (j % 10)))) ∧ σ' = σ) := by
          intro μ
          induction μ with
          | zero => intro w hμ; exact absurd hμ (Nat.not_lt_zero _)
          | succ μ ih2 =>
            intro w hμ hw
            refine tt_ar rfl ?_
            refine tt_ar rfl ?_
            refine tt_icge (fun h2_2 => ?_) (fun h2_2 => ?_)
            · refine tt_iinc (y := ((m + 1 : Nat) : Int)) rfl (iinc_fit (by omega) (by omega) (by omega)) ?_
              refine tt_goto ?_
              refine tt_loc [(0, vR 27), (3, vL (dgN (10 * (m + 1)) h (fun j => lnD σ (j / 10) (j % 10)))), (5, vI (((m + 1 : Nat) : Int)))] rfl rfl ⟨rfl, lv_toL rfl (by rw [show 10 * (m + 1) = 10 * m + w by omega]), rfl, trivial⟩ ?_
              exact ih1 (m + 1) (by omega) (by omega)
            · refine tt_ar rfl ?_
              refine tt_ar rfl ?_
              refine tt_bL (g := (fun a b => w64 (a * b))) (z := w64 (31 * dgN (10 * m + w) h (fun j => lnD σ (j / 10) (j % 10)))) rfl rfl ?_
              refine tt_ar rfl ?_
              refine tt_ar rfl ?_
              refine tt_ar rfl ?_
              refine tt_cv3 3 rfl (wo_27 hW) (c68 σ m w hW (by omega) (by omega)) (kp ?_)
              refine tt_ar rfl ?_
              refine tt_bL (g := (fun a b => w64 (a + b))) (z := w64 (w64 (31 * dgN (10 * m + w) h (fun j => lnD σ (j / 10) (j % 10))) + lnD σ m w)) rfl rfl ?_
              refine tt_ar rfl ?_
              refine tt_iinc (y := ((w + 1 : Nat) : Int)) rfl (iinc_fit (by omega) (by omega) (by omega)) ?_
              refine tt_goto ?_
              refine tt_loc [(0, vR 27), (3, vL (dgN (10 * m + (w + 1)) h (fun j => lnD σ (j / 10) (j % 10)))), (5, vI (((m : Nat) : Int))), (6, vI (((w + 1 : Nat) : Int)))] rfl rfl ⟨rfl, lv_toL rfl (by show _ = w64 (w64 (31 * _) + lnD σ ((10 * m + w) / 10) ((10 * m + w) % 10)); rw [show (10 * m + w) / 10 = m by omega, show (10 * m + w) % 10 = w by omega]; rfl), rfl, rfl, trivial⟩ ?_
              exact ih2 (w + 1) (by omega) (by omega)
        refine tt_loc [(0, vR 27), (3, vL (dgN (10 * m + 0) h (fun j => lnD σ (j / 10) (j % 10)))), (5, vI (((m : Nat) : Int))), (6, vI (((0 : Nat) : Int)))] rfl rfl ⟨rfl, lv_toL rfl rfl, rfl, lv_to rfl (by omega), trivial⟩ ?_
        exact lp2_2 _ (0) (Nat.lt_succ_self _) (by omega)
  refine tt_loc [(0, vR 27), (3, vL (dgN (10 * 0) h (fun j => lnD σ (j / 10) (j % 10)))), (5, vI (((0 : Nat) : Int)))] rfl rfl ⟨rfl, lv_toL rfl rfl, lv_to rfl (by omega), trivial⟩ ?_
  exact lp1_1 _ (0) (Nat.lt_succ_self _) (by omega)

theorem c134 (σ : am_S) (e what : Nat) (hW : Wd σ) (he : e < 16) (hw : what < 4) : CC 134 [vR 47, vI (((e : Nat) : Int)), vI (((what : Nat) : Int))] σ (fun r σ' => r = some (vI (stD σ e what)) ∧ σ' = σ) := by
  show TT am_b134 (am_b134.getD 0 []) [(0, vR 47), (1, vI (((e : Nat) : Int))), (2, vI (((what : Nat) : Int)))] [] σ _
  refine tt_ar rfl ?_
  refine tt_ifne (fun h0_1 => ?_) (fun h0_1 => ?_)
  · refine tt_ar rfl ?_
    refine tt_ar rfl ?_
    refine tt_icne (fun h1_2 => ?_) (fun h1_2 => ?_)
    · refine tt_ar rfl ?_
      refine tt_ar rfl ?_
      refine tt_icne (fun h2_2 => ?_) (fun h2_2 => ?_)
      · refine tt_ar rfl ?_
        refine tt_getR (wo_47 hW) rfl (wr_47_6 hW) ?_
        refine tt_ar rfl ?_
        refine tt_iald (e) (x := σ.1 51 (e)) (wa_51 hW) rfl (by omega) rfl ?_
        refine tt_nop ?_
        refine tt_iret ?_
        exact ⟨rv (by unfold stD; rw [if_neg (by omega), if_neg (by omega), if_neg (by omega)]), rfl⟩
      · refine tt_ar rfl ?_
        refine tt_getR (wo_47 hW) rfl (wr_47_5 hW) ?_
        refine tt_ar rfl ?_
        refine tt_iald (e) (x := σ.1 50 (e)) (wa_50 hW) rfl (by omega) rfl ?_
        refine tt_goto ?_
        refine tt_iret ?_
        exact ⟨rv (by unfold stD; rw [if_neg (by omega), if_neg (by omega), if_pos (by omega)]), rfl⟩
    · refine tt_ar rfl ?_
      refine tt_getR (wo_47 hW) rfl (wr_47_4 hW) ?_
      refine tt_ar rfl ?_
      refine tt_iald (e) (x := σ.1 49 (e)) (wa_49 hW) rfl (by omega) rfl ?_
      refine tt_iret ?_
      exact ⟨rv (by unfold stD; rw [if_neg (by omega), if_pos (by omega)]), rfl⟩
  · refine tt_ar rfl ?_
    refine tt_getR (wo_47 hW) rfl (wr_47_3 hW) ?_
    refine tt_ar rfl ?_
    refine tt_iald (e) (x := σ.1 48 (e)) (wa_48 hW) rfl (by omega) rfl ?_
    refine tt_iret ?_
    exact ⟨rv (by unfold stD; rw [if_pos (by omega)]), rfl⟩

theorem c170 (σ : am_S) (n : Nat) (h : Int) (hW : Wd σ) (hL : ST n σ) : CC 170 [vR 47, vL (h)] σ (fun r σ' => r = some (vL (dgN (4 * n) h (fun j => stD σ (j / 4) (j % 4)))) ∧ σ' = σ) := by
  show TT am_b170 (am_b170.getD 0 []) [(0, vR 47), (1, vL (h))] [] σ _
  have hn12 := hL.2
  refine tt_ar rfl ?_
  refine tt_ar rfl ?_
  refine tt_ar rfl ?_
  refine tt_ar rfl ?_
  refine tt_nop ?_
  have lp1_1 : ∀ (μ : Nat) (m : Nat), n - m < μ → (m ≤ n) → TT am_b170 (am_b170.getD 1 []) [(0, vR 47), (3, vL (dgN (4 * m) h (fun j => stD σ (j / 4) (j % 4)))), (5, vI (((m : Nat) : Int)))] [] σ (fun r σ' => r = some (vL (dgN (4 * n) h (fun j => stD σ (j / 4) (j % 4)))) ∧ σ' = σ) := by
    intro μ
    induction μ with
    | zero => intro m hμ; exact absurd hμ (Nat.not_lt_zero _)
    | succ μ ih1 =>
      intro m hμ hm
      refine tt_ar rfl ?_
      refine tt_ar rfl ?_
      refine tt_getI (x := ((n : Nat) : Int)) (wo_47 hW) rfl hL.1 ?_
      refine tt_icge (fun h1_3 => ?_) (fun h1_3 => ?_)
      · refine tt_ar rfl ?_
        refine tt_lret ?_
        have e : m = n := by omega
        subst e
        exact ⟨rfl, rfl⟩
      · refine tt_ar rfl ?_
        refine tt_ar rfl ?_
        refine tt_nop ?_
        have lp2_2 : ∀ (μ : Nat) (w : Nat), 4 - w < μ → (w ≤ 4) → TT am_b170 (am_b170.getD 2 []) [(0, vR 47), (3, vL (dgN (4 * m + w) h (fun j => stD σ (j / 4) (j % 4)))), (5, vI (((m : Nat) : Int))), (6, vI (((w : Nat) : Int)))] [] σ (fun r σ' => r = some (vL (dgN (4 * n) h (fun j => stD σ (j / 4) (j % 4)))) ∧ σ' = σ) := by
          intro μ
          induction μ with
          | zero => intro w hμ; exact absurd hμ (Nat.not_lt_zero _)
          | succ μ ih2 =>
            intro w hμ hw
            refine tt_ar rfl ?_
            refine tt_ar rfl ?_
            refine tt_icge (fun h2_2 => ?_) (fun h2_2 => ?_)
            · refine tt_iinc (y := ((m + 1 : Nat) : Int)) rfl (iinc_fit (by omega) (by omega) (by omega)) ?_
              refine tt_goto ?_
              refine tt_loc [(0, vR 47), (3, vL (dgN (4 * (m + 1)) h (fun j => stD σ (j / 4) (j % 4)))), (5, vI (((m + 1 : Nat) : Int)))] rfl rfl ⟨rfl, lv_toL rfl (by rw [show 4 * (m + 1) = 4 * m + w by omega]), rfl, trivial⟩ ?_
              exact ih1 (m + 1) (by omega) (by omega)
            · refine tt_ar rfl ?_
              refine tt_ar rfl ?_
              refine tt_bL (g := (fun a b => w64 (a * b))) (z := w64 (31 * dgN (4 * m + w) h (fun j => stD σ (j / 4) (j % 4)))) rfl rfl ?_
              refine tt_ar rfl ?_
              refine tt_ar rfl ?_
              refine tt_ar rfl ?_
              refine tt_cv3 3 rfl (wo_47 hW) (c134 σ m w hW (by omega) (by omega)) (kp ?_)
              refine tt_ar rfl ?_
              refine tt_bL (g := (fun a b => w64 (a + b))) (z := w64 (w64 (31 * dgN (4 * m + w) h (fun j => stD σ (j / 4) (j % 4))) + stD σ m w)) rfl rfl ?_
              refine tt_ar rfl ?_
              refine tt_iinc (y := ((w + 1 : Nat) : Int)) rfl (iinc_fit (by omega) (by omega) (by omega)) ?_
              refine tt_goto ?_
              refine tt_loc [(0, vR 47), (3, vL (dgN (4 * m + (w + 1)) h (fun j => stD σ (j / 4) (j % 4)))), (5, vI (((m : Nat) : Int))), (6, vI (((w + 1 : Nat) : Int)))] rfl rfl ⟨rfl, lv_toL rfl (by show _ = w64 (w64 (31 * _) + stD σ ((4 * m + w) / 4) ((4 * m + w) % 4)); rw [show (4 * m + w) / 4 = m by omega, show (4 * m + w) % 4 = w by omega]; rfl), rfl, rfl, trivial⟩ ?_
              exact ih2 (w + 1) (by omega) (by omega)
        refine tt_loc [(0, vR 47), (3, vL (dgN (4 * m + 0) h (fun j => stD σ (j / 4) (j % 4)))), (5, vI (((m : Nat) : Int))), (6, vI (((0 : Nat) : Int)))] rfl rfl ⟨rfl, lv_toL rfl rfl, rfl, lv_to rfl (by omega), trivial⟩ ?_
        exact lp2_2 _ (0) (Nat.lt_succ_self _) (by omega)
  refine tt_loc [(0, vR 47), (3, vL (dgN (4 * 0) h (fun j => stD σ (j / 4) (j % 4)))), (5, vI (((0 : Nat) : Int)))] rfl rfl ⟨rfl, lv_toL rfl rfl, lv_to rfl (by omega), trivial⟩ ?_
  exact lp1_1 _ (0) (Nat.lt_succ_self _) (by omega)

theorem c136 (σ : am_S) (e : Nat) (kind : Int) (hW : Wd σ) (he : e < 16) : CC 136 [vR 47, vI (((e : Nat) : Int)), vI (kind)] σ (fun r σ' => σ' = σ ∧ ((σ.1 48 e = kind ∨ (kind = 1 ∧ σ.1 48 e = 5)) ∧ r = some (vI 1) ∨ ¬(σ.1 48 e = kind ∨ (kind = 1 ∧ σ.1 48 e = 5)) ∧ r = some (vI 0))) := by
  show TT am_b136 (am_b136.getD 0 []) [(0, vR 47), (1, vI (((e : Nat) : Int))), (2, vI (kind))] [] σ _
  refine tt_ar rfl ?_
  refine tt_getR (wo_47 hW) rfl (wr_47_3 hW) ?_
  refine tt_ar rfl ?_
  refine tt_iald (e) (x := σ.1 48 (e)) (wa_48 hW) rfl (by omega) rfl ?_
  refine tt_ar rfl ?_
  refine tt_iceq (fun h0_5 => ?_) (fun h0_5 => ?_)
  · refine tt_ar rfl ?_
    refine tt_goto ?_
    refine tt_zret (by omega) ?_
    exact ⟨rfl, Or.inl ⟨by omega, rfl⟩⟩
  · refine tt_ar rfl ?_
    refine tt_ar rfl ?_
    refine tt_icne (fun h0_8 => ?_) (fun h0_8 => ?_)
    · refine tt_ar rfl ?_
      refine tt_nop ?_
      refine tt_zret (by omega) ?_
      exact ⟨rfl, Or.inr ⟨by omega, rfl⟩⟩
    · refine tt_ar rfl ?_
      refine tt_getR (wo_47 hW) rfl (wr_47_3 hW) ?_
      refine tt_ar rfl ?_
      refine tt_iald (e) (x := σ.1 48 (e)) (wa_48 hW) rfl (by omega) rfl ?_
      refine tt_ar rfl ?_
      refine tt_icne (fun h0_14 => ?_) (fun h0_14 => ?_)
      · refine tt_ar rfl ?_
        refine tt_nop ?_
        refine tt_zret (by omega) ?_
        exact ⟨rfl, Or.inr ⟨by omega, rfl⟩⟩
      · refine tt_nop ?_
        refine tt_ar rfl ?_
        refine tt_goto ?_
        refine tt_zret (by omega) ?_
        exact ⟨rfl, Or.inl ⟨by omega, rfl⟩⟩

def cmN (σ : am_S) (n : Nat) : Int := sumN n (fun e => if σ.1 48 e = 1 ∨ σ.1 48 e = 5 then 1 else 0)
theorem cmN_bd (σ : am_S) (n : Nat) : 0 ≤ cmN σ n ∧ cmN σ n ≤ (n : Int) := by
  have := sumN_bd (f := fun e => if σ.1 48 e = 1 ∨ σ.1 48 e = 5 then 1 else 0) (a := 0) (b := 1) (n := n) (fun i _ => by split <;> omega)
  unfold cmN
  omega
theorem c163 (σ : am_S) (n : Nat) (hW : Wd σ) (hL : ST n σ) : CC 163 [vR 47] σ (fun r σ' => r = some (vI (cmN σ n)) ∧ σ' = σ) := by
  show TT am_b163 (am_b163.getD 0 []) [(0, vR 47)] [] σ _
  have hn12 := hL.2
  refine tt_ar rfl ?_
  refine tt_ar rfl ?_
  refine tt_ar rfl ?_
  refine tt_ar rfl ?_
  refine tt_nop ?_
  have lp1_1 : ∀ (μ : Nat) (e : Nat), n - e < μ → (e ≤ n) → TT am_b163 (am_b163.getD 1 []) [(0, vR 47), (1, vI (cmN σ e)), (2, vI (((e : Nat) : Int)))] [] σ (fun r σ' => r = some (vI (cmN σ n)) ∧ σ' = σ) := by
    intro μ
    induction μ with
    | zero => intro e hμ; exact absurd hμ (Nat.not_lt_zero _)
    | succ μ ih1 =>
      intro e hμ he
      have hbc := cmN_bd σ e
      refine tt_ar rfl ?_
      refine tt_ar rfl ?_
      refine tt_getI (x := ((n : Nat) : Int)) (wo_47 hW) rfl hL.1 ?_
      refine tt_icge (fun h1_3 => ?_) (fun h1_3 => ?_)
      · refine tt_ar rfl ?_
        refine tt_iret ?_
        have e1 : e = n := by omega
        subst e1
        exact ⟨rfl, rfl⟩
      · refine tt_ar rfl ?_
        refine tt_ar rfl ?_
        refine tt_ar rfl ?_
        refine tt_ar rfl ?_
        refine tt_cv3 3 rfl (wo_47 hW) (c136 σ e _ hW (by omega)) (kb (fun h1_8 => ?_) (fun h1_8 => ?_))
        · refine tt_ifeqF (by decide) ?_
          refine tt_ar rfl ?_
          refine tt_goto ?_
          refine tt_iadd (by omega) (by omega) ?_
          refine tt_ar rfl ?_
          refine tt_iinc (y := ((e + 1 : Nat) : Int)) rfl (iinc_fit (by omega) (by omega) (by omega)) ?_
          refine tt_goto ?_
          refine tt_loc [(0, vR 47), (1, vI (cmN σ (e + 1))), (2, vI (((e + 1 : Nat) : Int)))] rfl rfl ⟨rfl, lv_to rfl (by show _ = cmN σ e + (if _ then 1 else 0); first | (rw [if_pos (by omega)]) | (rw [if_neg (by omega)])), rfl, trivial⟩ ?_
          exact ih1 (e + 1) (by omega) (by omega)
        · refine tt_ifeqT (by decide) ?_
          refine tt_ar rfl ?_
          refine tt_nop ?_
          refine tt_iadd (by omega) (by omega) ?_
          refine tt_ar rfl ?_
          refine tt_iinc (y := ((e + 1 : Nat) : Int)) rfl (iinc_fit (by omega) (by omega) (by omega)) ?_
          refine tt_goto ?_
          refine tt_loc [(0, vR 47), (1, vI (cmN σ (e + 1))), (2, vI (((e + 1 : Nat) : Int)))] rfl rfl ⟨rfl, lv_to rfl (by show _ = cmN σ e + (if _ then 1 else 0); first | (rw [if_pos (by omega)]) | (rw [if_neg (by omega)])), rfl, trivial⟩ ?_
          exact ih1 (e + 1) (by omega) (by omega)
  refine tt_loc [(0, vR 47), (1, vI (cmN σ 0)), (2, vI (((0 : Nat) : Int)))] rfl rfl ⟨rfl, lv_to rfl rfl, lv_to rfl (by omega), trivial⟩ ?_
  exact lp1_1 _ (0) (Nat.lt_succ_self _) (by omega)

theorem c131 (σ : am_S) (n : Nat) (m kind a b : Int) (hW : Wd σ) (hL : σ.1 47 2 = (n : Int)) (hn : n < 16) : CC 131 [vR 47, vI (m), vI (kind), vI (a), vI (b)] σ (fun r σ' => r = some (vI (n : Int)) ∧ Fr [47, 48, 49, 50, 51] σ σ' ∧ σ'.1 47 2 = ((n + 1 : Nat) : Int) ∧ (∀ j, σ'.1 48 j = if j = n then kind else σ.1 48 j) ∧ (∀ j, σ'.1 49 j = if j = n then m else σ.1 49 j) ∧ (∀ j, σ'.1 50 j = if j = n then a else σ.1 50 j) ∧ (∀ j, σ'.1 51 j = if j = n then b else σ.1 51 j)) := by
  show TT am_b131 (am_b131.getD 0 []) [(0, vR 47), (1, vI (m)), (2, vI (kind)), (3, vI (a)), (4, vI (b))] [] σ _
  refine tt_ar rfl ?_
  refine tt_getR (wo_47 hW) rfl (wr_47_3 hW) ?_
  refine tt_ar rfl ?_
  refine tt_getI (x := ((n : Nat) : Int)) (wo_47 hW) rfl hL ?_
  refine tt_ar rfl ?_
  refine tt_iast (n) (wa_48 hW) (by omega) rfl (by omega) ?_
  refine tt_ar rfl ?_
  refine tt_getR (wo_47 hW) rfl (wr_47_4 hW) ?_
  refine tt_ar rfl ?_
  refine tt_getI (x := ((n : Nat) : Int)) (wo_47 hW) rfl hL ?_
  refine tt_ar rfl ?_
  refine tt_iast (n) (wa_49 hW) (by omega) rfl (by omega) ?_
  refine tt_ar rfl ?_
  refine tt_getR (wo_47 hW) rfl (wr_47_5 hW) ?_
  refine tt_ar rfl ?_
  refine tt_getI (x := ((n : Nat) : Int)) (wo_47 hW) rfl hL ?_
  refine tt_ar rfl ?_
  refine tt_iast (n) (wa_50 hW) (by omega) rfl (by omega) ?_
  refine tt_ar rfl ?_
  refine tt_getR (wo_47 hW) rfl (wr_47_6 hW) ?_
  refine tt_ar rfl ?_
  refine tt_getI (x := ((n : Nat) : Int)) (wo_47 hW) rfl hL ?_
  refine tt_ar rfl ?_
  refine tt_iast (n) (wa_51 hW) (by omega) rfl (by omega) ?_
  refine tt_ar rfl ?_
  refine tt_ar rfl ?_
  refine tt_getI (x := ((n : Nat) : Int)) (wo_47 hW) rfl hL ?_
  refine tt_ar rfl ?_
  refine tt_iadd (by omega) (by omega) ?_
  refine tt_putI (wo_47 hW) rfl ?_
  refine tt_ar rfl ?_
  refine tt_getI (x := (((n : Nat) : Int) + 1)) (wo_47 hW) rfl (@am_set_rd (am_set (am_set (am_set (am_set σ 48 (n) (kind)) 49 (n) (m)) 50 (n) (a)) 51 (n) (b)) 47 (2) ((((n : Nat) : Int) + 1))) ?_
  refine tt_ar rfl ?_
  refine tt_isub (by omega) (by omega) ?_
  refine tt_iret ?_
  refine ⟨rv (by omega), (Fr.put (Fr.put (Fr.put (Fr.put (Fr.put Fr.rf (by decide)) (by decide)) (by decide)) (by decide)) (by decide)), (@am_set_rd (am_set (am_set (am_set (am_set σ 48 (n) (kind)) 49 (n) (m)) 50 (n) (a)) 51 (n) (b)) 47 (2) ((((n : Nat) : Int) + 1))).trans (by omega), ?_, ?_, ?_, ?_⟩
  · intro j; simp [am_set]
  · intro j; simp [am_set]
  · intro j; simp [am_set]
  · intro j; simp [am_set]

theorem c64 (σ : am_S) (n p : Nat) (rain unsure : Int) (hW : Wd σ) (hL : σ.1 27 0 = (n : Int)) (hn : n < 12) (hA : σ.2.2.1[p]? = some (.inl .int, 40)) (hp : 30 < p) : CC 64 [vR 27, vI (rain), vR p, vI (unsure)] σ (fun r σ' => r = some (vI (n : Int)) ∧ Fr [27, 28, 29, 30] σ σ' ∧ σ'.1 27 0 = ((n + 1 : Nat) : Int) ∧ (∀ j, σ'.1 28 j = if j = n then rain else σ.1 28 j) ∧ (∀ j, σ'.1 29 j = if j = n then unsure else σ.1 29 j) ∧ (∀ j, σ'.1 30 j = if n * 8 ≤ j ∧ j < n * 8 + 8 then σ.1 p (j - n * 8) else σ.1 30 j)) := by
  show TT am_b64 (am_b64.getD 0 []) [(0, vR 27), (1, vI (rain)), (2, vR p), (3, vI (unsure))] [] σ _
  refine tt_ar rfl ?_
  refine tt_getR (wo_27 hW) rfl (wr_27_1 hW) ?_
  refine tt_ar rfl ?_
  refine tt_getI (x := ((n : Nat) : Int)) (wo_27 hW) rfl hL ?_
  refine tt_ar rfl ?_
  refine tt_iast (n) (wa_28 hW) (by omega) rfl (by omega) ?_
  refine tt_ar rfl ?_
  refine tt_getR (wo_27 hW) rfl (wr_27_2 hW) ?_
  refine tt_ar rfl ?_
  refine tt_getI (x := ((n : Nat) : Int)) (wo_27 hW) rfl hL ?_
  refine tt_ar rfl ?_
  refine tt_iast (n) (wa_29 hW) (by omega) rfl (by omega) ?_
  refine tt_ar rfl ?_
  refine tt_ar rfl ?_
  refine tt_ar rfl ?_
  refine tt_getR (wo_27 hW) rfl (wr_27_3 hW) ?_
  refine tt_ar rfl ?_
  refine tt_getI (x := ((n : Nat) : Int)) (wo_27 hW) rfl hL ?_
  refine tt_ar rfl ?_
  refine tt_imul (by omega) (by omega) ?_
  refine tt_ar rfl ?_
  refine tt_acopy (sp := 0) (dp := (n * 8)) (n := 8) hA (wa_30 hW) rfl (by omega) rfl (by omega) (by omega) (by omega) (by omega) rfl ?_
  obtain ⟨σc1, hFc2, hCc3, hg4⟩ := cpy_ex (am_set (am_set σ 28 (n) (rain)) 29 (n) (unsure)) p (0) 30 ((n * 8)) (8)
  rw [hg4]
  have hW5 := Fr.wd hFc2 hW
  refine tt_ar rfl ?_
  refine tt_ar rfl ?_
  refine tt_getI (x := ((n : Nat) : Int)) (wo_27 hW5) rfl ((hFc2.2 27 (by decide) (0)).trans hL) ?_
  refine tt_ar rfl ?_
  refine tt_iadd (by omega) (by omega) ?_
  refine tt_putI (wo_27 hW5) rfl ?_
  refine tt_ar rfl ?_
  refine tt_getI (x := (((n : Nat) : Int) + 1)) (wo_27 hW5) rfl (@am_set_rd σc1 27 (0) ((((n : Nat) : Int) + 1))) ?_
  refine tt_ar rfl ?_
  refine tt_isub (by omega) (by omega) ?_
  refine tt_iret ?_
  refine ⟨rv (by omega), (Fr.put (Fr.tr (Fr.put (Fr.put Fr.rf (by decide)) (by decide)) hFc2 (by decide)) (by decide)), (@am_set_rd σc1 27 (0) ((((n : Nat) : Int) + 1))).trans (by omega), ?_, ?_, ?_⟩
  · intro j
    have hj1 : σc1.1 28 j = _ := hFc2.2 28 (by decide) j
    show σc1.1 28 j = _
    rw [hj1]; simp [am_set]
  · intro j
    have hj1 : σc1.1 29 j = _ := hFc2.2 29 (by decide) j
    show σc1.1 29 j = _
    rw [hj1]; simp [am_set]
  · intro j
    show σc1.1 30 j = _
    rw [hCc3 j]
    by_cases e : n * 8 ≤ j ∧ j < n * 8 + 8
    · rw [if_pos e, if_pos e, Nat.zero_add]
      simp [am_set, show p ≠ 28 by omega, show p ≠ 29 by omega]
    · rw [if_neg e, if_neg e]
      simp [am_set]

theorem c168 (σ : am_S) (k : Nat) (h : Int) (hW : Wd σ) (hL : LD k σ) : CC 168 [vR 5, vL (h)] σ (fun r σ' => r = some (vL (dgN 5 (w64 (w64 (31 * dgN (17 * k) h (wdD (σ.1 6) (σ.1 7) (σ.1 8))) + σ.1 5 4)) (σ.1 9))) ∧ σ' = σ) := by
  show TT am_b168 (am_b168.getD 0 []) [(0, vR 5), (1, vL (h))] [] σ _
  have hk6 := hL.2.1
  refine tt_ar rfl ?_
  refine tt_ar rfl ?_
  refine tt_ar rfl ?_
  refine tt_ar rfl ?_
  refine tt_nop ?_
  have lp1_1 : ∀ (μ : Nat) (m : Nat), k - m < μ → (m ≤ k) → TT am_b168 (am_b168.getD 1 []) [(0, vR 5), (3, vL (dgN (17 * m) h (wdD (σ.1 6) (σ.1 7) (σ.1 8)))), (5, vI (((m : Nat) : Int)))] [] σ (fun r σ' => r = some (vL (dgN 5 (w64 (w64 (31 * dgN (17 * k) h (wdD (σ.1 6) (σ.1 7) (σ.1 8))) + σ.1 5 4)) (σ.1 9))) ∧ σ' = σ) := by
    intro μ
    induction μ with
    | zero => intro m hμ; exact absurd hμ (Nat.not_lt_zero _)
    | succ μ ih1 =>
      intro m hμ hm
      refine tt_ar rfl ?_
      refine tt_ar rfl ?_
      refine tt_getI (x := ((k : Nat) : Int)) (wo_5 hW) rfl hL.1 ?_
      refine tt_icge (fun h1_3 => ?_) (fun h1_3 => ?_)
      · refine tt_loc [(0, vR 5), (3, vL (dgN (17 * k) h (wdD (σ.1 6) (σ.1 7) (σ.1 8))))] rfl rfl ⟨rfl, lv_toL rfl (by rw [show k = m by omega]), trivial⟩ ?_
        refine tt_ar rfl ?_
        refine tt_ar rfl ?_
        refine tt_bL (g := (fun a b => w64 (a * b))) (z := w64 (31 * dgN (17 * k) h (wdD (σ.1 6) (σ.1 7) (σ.1 8)))) rfl rfl ?_
        refine tt_ar rfl ?_
        refine tt_getI (x := σ.1 5 (4)) (wo_5 hW) rfl rfl ?_
        refine tt_ar rfl ?_
        refine tt_bL (g := (fun a b => w64 (a + b))) (z := w64 (w64 (31 * dgN (17 * k) h (wdD (σ.1 6) (σ.1 7) (σ.1 8))) + σ.1 5 (4))) rfl rfl ?_
        refine tt_ar rfl ?_
        refine tt_ar rfl ?_
        refine tt_getR (wo_5 hW) rfl (wr_5_5 hW) ?_
        refine tt_ar rfl ?_
        refine tt_ar rfl ?_
        refine tt_alen (wa_9 hW) rfl ?_
        refine tt_ar rfl ?_
        refine tt_ar rfl ?_
        refine tt_ar rfl ?_
        refine tt_nop ?_
        have lp5_2 : ∀ (μ : Nat) (w : Nat), 5 - w < μ → (w ≤ 5) → TT am_b168 (am_b168.getD 5 []) [(3, vL (dgN w (w64 (w64 (31 * dgN (17 * k) h (wdD (σ.1 6) (σ.1 7) (σ.1 8))) + σ.1 5 4)) (σ.1 9))), (5, vR 9), (6, vI 5), (7, vI (((w : Nat) : Int)))] [] σ (fun r σ' => r = some (vL (dgN 5 (w64 (w64 (31 * dgN (17 * k) h (wdD (σ.1 6) (σ.1 7) (σ.1 8))) + σ.1 5 4)) (σ.1 9))) ∧ σ' = σ) := by
          intro μ
          induction μ with
          | zero => intro w hμ; exact absurd hμ (Nat.not_lt_zero _)
          | succ μ ih5 =>
            intro w hμ hw
            refine tt_ar rfl ?_
            refine tt_ar rfl ?_
            refine tt_icge (fun h5_2 => ?_) (fun h5_2 => ?_)
            · refine tt_ar rfl ?_
              refine tt_lret ?_
              have e : 5 = w := by omega
              subst e
              exact ⟨rfl, rfl⟩
            · refine tt_ar rfl ?_
              refine tt_ar rfl ?_
              refine tt_iald (w) (x := σ.1 9 (w)) (wa_9 hW) rfl (by omega) rfl ?_
              refine tt_ar rfl ?_
              refine tt_ar rfl ?_
              refine tt_ar rfl ?_
              refine tt_bL (g := (fun a b => w64 (a * b))) (z := w64 (31 * dgN w (w64 (w64 (31 * dgN (17 * k) h (wdD (σ.1 6) (σ.1 7) (σ.1 8))) + σ.1 5 4)) (σ.1 9))) rfl rfl ?_
              refine tt_ar rfl ?_
              refine tt_ar rfl ?_
              refine tt_bL (g := (fun a b => w64 (a + b))) (z := w64 (w64 (31 * dgN w (w64 (w64 (31 * dgN (17 * k) h (wdD (σ.1 6) (σ.1 7) (σ.1 8))) + σ.1 5 4)) (σ.1 9)) + σ.1 9 (w))) rfl rfl ?_
              refine tt_ar rfl ?_
              refine tt_iinc (y := ((w + 1 : Nat) : Int)) rfl (iinc_fit (by omega) (by omega) (by omega)) ?_
              refine tt_goto ?_
              refine tt_loc [(3, vL (dgN (w + 1) (w64 (w64 (31 * dgN (17 * k) h (wdD (σ.1 6) (σ.1 7) (σ.1 8))) + σ.1 5 4)) (σ.1 9))), (5, vR 9), (6, vI 5), (7, vI (((w + 1 : Nat) : Int)))] rfl rfl ⟨lv_toL rfl rfl, rfl, rfl, rfl, trivial⟩ ?_
              exact ih5 (w + 1) (by omega) (by omega)
        refine tt_loc [(3, vL (dgN 0 (w64 (w64 (31 * dgN (17 * k) h (wdD (σ.1 6) (σ.1 7) (σ.1 8))) + σ.1 5 4)) (σ.1 9))), (5, vR 9), (6, vI 5), (7, vI (((0 : Nat) : Int)))] rfl rfl ⟨lv_toL rfl rfl, rfl, rfl, lv_to rfl (by omega), trivial⟩ ?_
        exact lp5_2 _ (0) (Nat.lt_succ_self _) (by omega)
      · refine tt_ar rfl ?_
        refine tt_ar rfl ?_
        refine tt_bL (g := (fun a b => w64 (a * b))) (z := w64 (31 * dgN (17 * m) h (wdD (σ.1 6) (σ.1 7) (σ.1 8)))) rfl rfl ?_
        refine tt_ar rfl ?_
        refine tt_getR (wo_5 hW) rfl (wr_5_1 hW) ?_
        refine tt_ar rfl ?_
        refine tt_iald (m) (x := σ.1 6 (m)) (wa_6 hW) rfl (by omega) rfl ?_
        refine tt_ar rfl ?_
        refine tt_bL (g := (fun a b => w64 (a + b))) (z := w64 (w64 (31 * dgN (17 * m) h (wdD (σ.1 6) (σ.1 7) (σ.1 8))) + σ.1 6 (m))) rfl rfl ?_
        refine tt_ar rfl ?_
        refine tt_ar rfl ?_
        refine tt_ar rfl ?_
        refine tt_imul (by omega) (by omega) ?_
        refine tt_ar rfl ?_
        refine tt_nop ?_
        have lp2_3 : ∀ (μ : Nat) (w : Nat), 8 - w < μ → (w ≤ 8) → TT am_b168 (am_b168.getD 2 []) [(0, vR 5), (3, vL (dgN (17 * m + 1 + 2 * w) h (wdD (σ.1 6) (σ.1 7) (σ.1 8)))), (5, vI (((m : Nat) : Int))), (6, vI (((m * 8 + w : Nat) : Int)))] [] σ (fun r σ' => r = some (vL (dgN 5 (w64 (w64 (31 * dgN (17 * k) h (wdD (σ.1 6) (σ.1 7) (σ.1 8))) + σ.1 5 4)) (σ.1 9))) ∧ σ' = σ) := by
          intro μ
          induction μ with
          | zero => intro w hμ; exact absurd hμ (Nat.not_lt_zero _)
          | succ μ ih2 =>
            intro w hμ hw
            refine tt_ar rfl ?_
            refine tt_ar rfl ?_
            refine tt_ar rfl ?_
            refine tt_iadd (by omega) (by omega) ?_
            refine tt_ar rfl ?_
            refine tt_imul (by omega) (by omega) ?_
            refine tt_icge (fun h2_6 => ?_) (fun h2_6 => ?_)
            · refine tt_iinc (y := ((m + 1 : Nat) : Int)) rfl (iinc_fit (by omega) (by omega) (by omega)) ?_
              refine tt_goto ?_
              refine tt_loc [(0, vR 5), (3, vL (dgN (17 * (m + 1)) h (wdD (σ.1 6) (σ.1 7) (σ.1 8)))), (5, vI (((m + 1 : Nat) : Int)))] rfl rfl ⟨rfl, lv_toL rfl (by rw [show 17 * (m + 1) = 17 * m + 1 + 2 * w by omega]), rfl, trivial⟩ ?_
              exact ih1 (m + 1) (by omega) (by omega)
            · refine tt_ar rfl ?_
              refine tt_ar rfl ?_
              refine tt_bL (g := (fun a b => w64 (a * b))) (z := w64 (31 * dgN (17 * m + 1 + 2 * w) h (wdD (σ.1 6) (σ.1 7) (σ.1 8)))) rfl rfl ?_
              refine tt_ar rfl ?_
              refine tt_getR (wo_5 hW) rfl (wr_5_2 hW) ?_
              refine tt_ar rfl ?_
              refine tt_iald ((m * 8 + w)) (x := σ.1 7 ((m * 8 + w))) (wa_7 hW) (by omega) (by omega) rfl ?_
              refine tt_ar rfl ?_
              refine tt_bL (g := (fun a b => w64 (a + b))) (z := w64 (w64 (31 * dgN (17 * m + 1 + 2 * w) h (wdD (σ.1 6) (σ.1 7) (σ.1 8))) + σ.1 7 ((m * 8 + w)))) rfl rfl ?_
              refine tt_ar rfl ?_
              refine tt_ar rfl ?_
              refine tt_ar rfl ?_
              refine tt_bL (g := (fun a b => w64 (a * b))) (z := w64 (31 * w64 (w64 (31 * dgN (17 * m + 1 + 2 * w) h (wdD (σ.1 6) (σ.1 7) (σ.1 8))) + σ.1 7 ((m * 8 + w))))) rfl rfl ?_
              refine tt_ar rfl ?_
              refine tt_getR (wo_5 hW) rfl (wr_5_3 hW) ?_
              refine tt_ar rfl ?_
              refine tt_iald ((m * 8 + w)) (x := σ.1 8 ((m * 8 + w))) (wa_8 hW) (by omega) (by omega) rfl ?_
              refine tt_ar rfl ?_
              refine tt_bL (g := (fun a b => w64 (a + b))) (z := w64 (w64 (31 * w64 (w64 (31 * dgN (17 * m + 1 + 2 * w) h (wdD (σ.1 6) (σ.1 7) (σ.1 8))) + σ.1 7 ((m * 8 + w)))) + σ.1 8 ((m * 8 + w)))) rfl rfl ?_
              refine tt_ar rfl ?_
              refine tt_iinc (y := (((m * 8 + w) + 1 : Nat) : Int)) rfl (iinc_fit (by omega) (by omega) (by omega)) ?_
              refine tt_goto ?_
              refine tt_loc [(0, vR 5), (3, vL (dgN (17 * m + 1 + 2 * (w + 1)) h (wdD (σ.1 6) (σ.1 7) (σ.1 8)))), (5, vI (((m : Nat) : Int))), (6, vI (((m * 8 + (w + 1) : Nat) : Int)))] rfl rfl ⟨rfl, lv_toL rfl (by rw [show 17 * m + 1 + 2 * (w + 1) = 17 * m + 1 + 2 * w + 1 + 1 by omega, dgN_s, dgN_s, wdD_l (by omega), wdD_m (by omega), show 8 * m + w = m * 8 + w by omega]), rfl, lv_to rfl (by omega), trivial⟩ ?_
              exact ih2 (w + 1) (by omega) (by omega)
        refine tt_loc [(0, vR 5), (3, vL (dgN (17 * m + 1 + 2 * 0) h (wdD (σ.1 6) (σ.1 7) (σ.1 8)))), (5, vI (((m : Nat) : Int))), (6, vI (((m * 8 + 0 : Nat) : Int)))] rfl rfl ⟨rfl, lv_toL rfl (by rw [show 17 * m + 1 + 2 * 0 = 17 * m + 1 by omega, dgN_s, wdD_0]), rfl, lv_to rfl (by omega), trivial⟩ ?_
        exact lp2_3 _ (0) (Nat.lt_succ_self _) (by omega)
  refine tt_loc [(0, vR 5), (3, vL (dgN (17 * 0) h (wdD (σ.1 6) (σ.1 7) (σ.1 8)))), (5, vI (((0 : Nat) : Int)))] rfl rfl ⟨rfl, lv_toL rfl rfl, lv_to rfl (by omega), trivial⟩ ?_
  exact lp1_1 _ (0) (Nat.lt_succ_self _) (by omega)
end
section
/-! HOUSEHOLDS HELD AGAINST MONDAYS -/
/-- what hung agrees with what hangs at least, at most -/
abbrev agP (hu : Nat → Int) (db ins w : Int) (le mo : Nat → Int) : Prop := ∀ x, x < 8 → hu x - db ≤ mo x ∧ (hu x + db < le x → isIn ins w (x : Int))
/-- likewise with lo, hi of a sort besides -/
abbrev nAg (hu : Nat → Int) (db ins w : Int) (bl bm ls ms : Nat → Int) (lo hi : Int) (s : Nat) : Prop := agP hu db ins w (fun x => bl x + lo * ls (s * 8 + x)) (fun x => bm x + hi * ms (s * 8 + x))
/-- the first of which p holds; k: of none -/
def fstN (p : Nat → Bool) : Nat → Nat
  | 0 => 0
  | k + 1 => if fstN p k < k then fstN p k else if p k then k else k + 1
theorem fstN_le {p : Nat → Bool} : ∀ k, fstN p k ≤ k
  | 0 => Nat.le_refl _
  | k + 1 => by
    unfold fstN
    have := fstN_le (p := p) k
    split
    · omega
    · split <;> omega
theorem fstN_none {p : Nat → Bool} : ∀ {k : Nat}, (∀ t, t < k → p t = false) → fstN p k = k
  | 0, _ => rfl
  | k + 1, h => by
    unfold fstN
    rw [fstN_none (fun t ht => h t (by omega)), if_neg (by omega), h k (by omega)]
    rfl
theorem fstN_eq {p : Nat → Bool} {s : Nat} (hs : p s = true) (h : ∀ t, t < s → p t = false) : ∀ {k : Nat}, s < k → fstN p k = s
  | 0, hk => absurd hk (Nat.not_lt_zero _)
  | k + 1, hk => by
    unfold fstN
    by_cases e : s = k
    · subst e
      rw [fstN_none h, if_neg (by omega), hs]
      rfl
    · rw [fstN_eq hs h (k := k) (by omega), if_pos (by omega)]
def exN (k : Nat) (ag : Bool) (ill gst : Nat → Bool) : Int := if ag then 0 else if fstN ill k < k then 10 + (fstN ill k : Int) else if fstN gst k < k then 20 + (fstN gst k : Int) else -9
/-- the class's houses, as numbers -/
def HB (n : Nat) (σ : am_S) : Prop := σ.1 18 1 = (n : Int) ∧ 1 ≤ n ∧ n ≤ 462 ∧ (∀ i, i < n * 8 → 0 ≤ σ.1 25 i ∧ σ.1 25 i ≤ σ.1 26 i ∧ σ.1 26 i ≤ 45) ∧ (∀ i, i < n * 6 → 0 ≤ σ.1 21 i ∧ σ.1 21 i ≤ 5) ∧ (∀ h, h < n → 0 ≤ σ.1 20 h ∧ σ.1 20 h ≤ 5) ∧ (∀ h, h < n → 0 ≤ σ.1 19 h ∧ σ.1 19 h ≤ 500000)
theorem HB.fr {L : List Nat} {n : Nat} {σ σ' : am_S} (h : Fr L σ σ') (hw : ∀ a ∈ L, a < 18 ∨ 26 < a) (R : HB n σ) : HB n σ' := by
  have q : ∀ a, 18 ≤ a → a ≤ 26 → ∀ j, σ'.1 a j = σ.1 a j := fun a h1 h2 j => h.2 a (fun e => by have := hw a e; omega) j
  obtain ⟨h1, h2, h3, h4, h5, h6, h7⟩ := R
  exact ⟨by rw [q 18 (by omega) (by omega)]; exact h1, h2, h3, fun i hi => by rw [q 25 (by omega) (by omega), q 26 (by omega) (by omega)]; exact h4 i hi, fun i hi => by rw [q 21 (by omega) (by omega)]; exact h5 i hi, fun i hi => by rw [q 20 (by omega) (by omega)]; exact h6 i hi, fun i hi => by rw [q 19 (by omega) (by omega)]; exact h7 i hi⟩
abbrev cAg (σ : am_S) (m h : Nat) (lo hi : Int) (s : Nat) : Prop := nAg (fun x => σ.1 30 (m * 8 + x)) (σ.1 29 m) (σ.1 5 4) (σ.1 28 m) (fun x => σ.1 25 (h * 8 + x)) (fun x => σ.1 26 (h * 8 + x)) (σ.1 7) (σ.1 8) lo hi s
def cIll (σ : am_S) (m h s : Nat) : Bool := decide (0 < σ.1 21 (h * 6 + s) ∧ cAg σ m h (-1) 0 s)
def cGst (σ : am_S) (m h s : Nat) : Bool := decide (cAg σ m h 1 1 s)
def cEx (σ : am_S) (k m h : Nat) : Int := exN k (decide (cAg σ m h 0 0 0)) (cIll σ m h) (cGst σ m h)
def prOf (pr : Nat → Int) (how : Int) : Int := if how < 10 then 0 else if how < 20 then pr 3 else pr 4
theorem mul3 {a b : Int} (h : a = -1 ∨ a = 0 ∨ a = 1) (h0 : 0 ≤ b) (h9 : b ≤ 9) : -9 ≤ a * b ∧ a * b ≤ 9 := by
  rcases h with rfl | rfl | rfl <;> omega
theorem exN_bd {k : Nat} {ag : Bool} {ill gst : Nat → Bool} (hk : k ≤ 6) : exN k ag ill gst = -9 ∨ (0 ≤ exN k ag ill gst ∧ exN k ag ill gst < 30) := by
  unfold exN
  have h1 := fstN_le (p := ill) k
  have h2 := fstN_le (p := gst) k
  split
  · omega
  · split
    · omega
    · split <;> omega
def orN : Nat → (Nat → Bool) → Int
  | 0, _ => 0
  | n + 1, p => if p n then a_or (orN n p) (a_shl 1 (n : Int)) else orN n p
def smN (all : Nat → Int) (p : Nat → Bool) : Nat → Int
  | 0 => -1
  | n + 1 => if (smN all p n < 0 ∨ all n < all (smN all p n).toNat) ∧ p n = true then (n : Int) else smN all p n
theorem smN_bd {all : Nat → Int} {p : Nat → Bool} : ∀ n, -1 ≤ smN all p n ∧ smN all p n < (n : Int)
  | 0 => by unfold smN; omega
  | n + 1 => by
    have := smN_bd (all := all) (p := p) n
    unfold smN
    split <;> omega
def pbN (hu mo : Nat → Int) : Nat → Option Int
  | 0 => some 0
  | n + 1 => match pbN hu mo n with
    | none => none
    | some b => if 0 < hu n then (if mo n ≤ 0 then none else some (if b < w32 (Int.tdiv (hu n + mo n - 1) (mo n)) then w32 (Int.tdiv (hu n + mo n - 1) (mo n)) else b)) else some b
theorem pbN_none {hu mo : Nat → Int} {i : Nat} (h : pbN hu mo i = none) : ∀ d, pbN hu mo (i + d) = none
  | 0 => h
  | d + 1 => by
    show pbN hu mo (i + d + 1) = none
    unfold pbN
    rw [pbN_none h d]
def dm (x : Int) : Int := if 0 < x then x else 0
theorem dm_bd (x : Int) : 0 ≤ dm x ∧ x ≤ dm x ∧ (dm x = 0 ∨ dm x = x) := by
  unfold dm
  split <;> omega
def dbT (l h m : Int) : Int := dm (l - h) + dm (h - m)
def ldN (db all : Nat → Int) : Nat → Nat × Int
  | 0 => (0, db 0)
  | j + 1 => if db (j + 1) < (ldN db all j).2 ∨ (db (j + 1) = (ldN db all j).2 ∧ all (j + 1) < all (ldN db all j).1) then (j + 1, db (j + 1)) else ldN db all j
theorem ldN_bd {db all : Nat → Int} : ∀ j, (ldN db all j).1 ≤ j ∧ (ldN db all j).2 = db (ldN db all j).1
  | 0 => ⟨Nat.le_refl _, rfl⟩
  | j + 1 => by
    have := ldN_bd (db := db) (all := all) j
    unfold ldN
    split
    · exact ⟨Nat.le_refl _, rfl⟩
    · exact ⟨by omega, this.2⟩
theorem c76 (σ : am_S) (k n nm : Nat) (hW : Wd σ) (hD : LD k σ) (hL : LN nm σ) (hH : HB n σ) (m h s : Nat) (lo hi : Int) (hm : m < 12) (hh : h < n) (hs : s < 6) (hlo : lo = -1 ∨ lo = 0 ∨ lo = 1) (hhi : hi = -1 ∨ hi = 0 ∨ hi = 1) : CC 76 [vR 31, vI (((m : Nat) : Int)), vI (((h : Nat) : Int)), vI (((s : Nat) : Int)), vI (lo), vI (hi)] σ (fun r σ' => σ' = σ ∧ ((cAg σ m h lo hi s) ∧ r = some (vI 1) ∨ ¬(cAg σ m h lo hi s) ∧ r = some (vI 0))) := by
  show TT am_b76 (am_b76.getD 0 []) [(0, vR 31), (1, vI (((m : Nat) : Int))), (2, vI (((h : Nat) : Int))), (3, vI (((s : Nat) : Int))), (4, vI (lo)), (5, vI (hi))] [] σ _
  have hk6 := hD.2.1
  have hn1 := hH.2.1
  have hn462 := hH.2.2.1
  have hnm12 := hL.2.1
  refine tt_ar rfl ?_
  refine tt_ar rfl ?_
  refine tt_nop ?_
  have lp1_1 : ∀ (μ : Nat) (x : Nat), 8 - x < μ → (x ≤ 8) → (∀ y, y < x → σ.1 30 (m * 8 + y) - σ.1 29 m ≤ σ.1 26 (h * 8 + y) + hi * σ.1 8 (s * 8 + y) ∧ (σ.1 30 (m * 8 + y) + σ.1 29 m < σ.1 25 (h * 8 + y) + lo * σ.1 7 (s * 8 + y) → isIn (σ.1 5 4) (σ.1 28 m) (y : Int))) → TT am_b76 (am_b76.getD 1 []) [(0, vR 31), (1, vI (((m : Nat) : Int))), (2, vI (((h : Nat) : Int))), (3, vI (((s : Nat) : Int))), (4, vI (lo)), (5, vI (hi)), (6, vI (((x : Nat) : Int)))] [] σ (fun r σ' => σ' = σ ∧ ((cAg σ m h lo hi s) ∧ r = some (vI 1) ∨ ¬(cAg σ m h lo hi s) ∧ r = some (vI 0))) := by
    intro μ
    induction μ with
    | zero => intro x hμ; exact absurd hμ (Nat.not_lt_zero _)
    | succ μ ih1 =>
      intro x hμ hx hC
      refine tt_ar rfl ?_
      refine tt_ar rfl ?_
      refine tt_icge (fun h1_2 => ?_) (fun h1_2 => ?_)
      · refine tt_ar rfl ?_
        refine tt_zret (by omega) ?_
        have e : x = 8 := by omega
        subst e
        exact ⟨rfl, Or.inl ⟨hC, rfl⟩⟩
      · refine tt_ar rfl ?_
        refine tt_getR (wo_31 hW) rfl (wr_31_1 hW) ?_
        refine tt_getR (wo_18 hW) rfl (wr_18_9 hW) ?_
        refine tt_ar rfl ?_
        refine tt_ar rfl ?_
        refine tt_imul (by omega) (by omega) ?_
        refine tt_ar rfl ?_
        refine tt_iadd (by omega) (by omega) ?_
        refine tt_iald (((h * 8) + x)) (x := σ.1 26 (((h * 8) + x))) (wa_26 hW) (by omega) (by omega) rfl ?_
        have hb26 := hH.2.2.2.1 (((h * 8) + x)) (by omega)
        refine tt_ar rfl ?_
        refine tt_ar rfl ?_
        refine tt_getR (wo_31 hW) rfl (wr_31_0 hW) ?_
        refine tt_getR (wo_5 hW) rfl (wr_5_3 hW) ?_
        refine tt_ar rfl ?_
        refine tt_ar rfl ?_
        refine tt_imul (by omega) (by omega) ?_
        refine tt_ar rfl ?_
        refine tt_iadd (by omega) (by omega) ?_
        refine tt_iald (((s * 8) + x)) (x := σ.1 8 (((s * 8) + x))) (wa_8 hW) (by omega) (by omega) rfl ?_
        have hb8 := hD.2.2.1 (((s * 8) + x)) (by omega)
        have hm8 := mul3 hhi (show 0 ≤ σ.1 8 (((s * 8) + x)) by omega) (by omega)
        refine tt_imul (by omega) (by omega) ?_
        refine tt_iadd (by omega) (by omega) ?_
        refine tt_ar rfl ?_
        refine tt_ar rfl ?_
        refine tt_getR (wo_31 hW) rfl (wr_31_1 hW) ?_
        refine tt_getR (wo_18 hW) rfl (wr_18_8 hW) ?_
        refine tt_ar rfl ?_
        refine tt_ar rfl ?_
        refine tt_imul (by omega) (by omega) ?_
        refine tt_ar rfl ?_
        refine tt_iadd (by omega) (by omega) ?_
        refine tt_iald (((h * 8) + x)) (x := σ.1 25 (((h * 8) + x))) (wa_25 hW) (by omega) (by omega) rfl ?_
        have hb25 := hH.2.2.2.1 (((h * 8) + x)) (by omega)
        refine tt_ar rfl ?_
        refine tt_ar rfl ?_
        refine tt_getR (wo_31 hW) rfl (wr_31_0 hW) ?_
        refine tt_getR (wo_5 hW) rfl (wr_5_2 hW) ?_
        refine tt_ar rfl ?_
        refine tt_ar rfl ?_
        refine tt_imul (by omega) (by omega) ?_
        refine tt_ar rfl ?_
        refine tt_iadd (by omega) (by omega) ?_
        refine tt_iald (((s * 8) + x)) (x := σ.1 7 (((s * 8) + x))) (wa_7 hW) (by omega) (by omega) rfl ?_
        have hb7 := hD.2.2.1 (((s * 8) + x)) (by omega)
        have hm7 := mul3 hlo (show 0 ≤ σ.1 7 (((s * 8) + x)) by omega) (by omega)
        refine tt_imul (by omega) (by omega) ?_
        refine tt_iadd (by omega) (by omega) ?_
        refine tt_ar rfl ?_
        refine tt_ar rfl ?_
        refine tt_getR (wo_31 hW) rfl (wr_31_2 hW) ?_
        refine tt_ar rfl ?_
        refine tt_ar rfl ?_
        refine tt_ar rfl ?_
        refine tt_cv4 4 rfl (wo_27 hW) (c77 σ _ m x _ hW hL (by omega) (by omega)) (kb (fun h1_52 => ?_) (fun h1_52 => ?_))
        · refine tt_ifneT (by decide) ?_
          refine tt_ar rfl ?_
          refine tt_zret (by omega) ?_
          refine ⟨rfl, Or.inr ⟨fun hA => ?_, rfl⟩⟩
          have hAx := hA x (by omega)
          dsimp only at hAx
          first | (exfalso; omega) | (have q := hAx.2 (by omega); contradiction)
        · refine tt_ifneF (by decide) ?_
          refine tt_ar rfl ?_
          refine tt_getR (wo_31 hW) rfl (wr_31_2 hW) ?_
          refine tt_ar rfl ?_
          refine tt_ar rfl ?_
          refine tt_ar rfl ?_
          refine tt_cv4 4 rfl (wo_27 hW) (c78 σ _ m x _ hW hL (by omega) (by omega)) (kb (fun h1_59 => ?_) (fun h1_59 => ?_))
          · refine tt_ifeqF (by decide) ?_
            refine tt_ar rfl ?_
            refine tt_getR (wo_31 hW) rfl (wr_31_0 hW) ?_
            refine tt_ar rfl ?_
            refine tt_getR (wo_31 hW) rfl (wr_31_2 hW) ?_
            refine tt_getR (wo_27 hW) rfl (wr_27_1 hW) ?_
            refine tt_ar rfl ?_
            refine tt_iald (m) (x := σ.1 28 (m)) (wa_28 hW) rfl (by omega) rfl ?_
            have hb28 := hL.2.2.1 (m) (by omega)
            refine tt_ar rfl ?_
            refine tt_cv3 3 rfl (wo_5 hW) (c72 σ _ _ hW) (kb (fun h1_69 => ?_) (fun h1_69 => ?_))
            · refine tt_ifneT (by decide) ?_
              refine tt_iinc (y := ((x + 1 : Nat) : Int)) rfl (iinc_fit (by omega) (by omega) (by omega)) ?_
              refine tt_goto ?_
              refine tt_loc [(0, vR 31), (1, vI (((m : Nat) : Int))), (2, vI (((h : Nat) : Int))), (3, vI (((s : Nat) : Int))), (4, vI (lo)), (5, vI (hi)), (6, vI (((x + 1 : Nat) : Int)))] rfl rfl ⟨rfl, rfl, rfl, rfl, rfl, rfl, rfl, trivial⟩ ?_
              exact ih1 (x + 1) (by omega) (by omega) (fun y hy => by by_cases e : y = x; (subst e; exact ⟨by omega, fun hlt => by first | assumption | (exfalso; omega)⟩); exact hC y (by omega))
            · refine tt_ifneF (by decide) ?_
              refine tt_nop ?_
              refine tt_ar rfl ?_
              refine tt_zret (by omega) ?_
              refine ⟨rfl, Or.inr ⟨fun hA => ?_, rfl⟩⟩
              have hAx := hA x (by omega)
              dsimp only at hAx
              first | (exfalso; omega) | (have q := hAx.2 (by omega); contradiction)
          · refine tt_ifeqT (by decide) ?_
            refine tt_iinc (y := ((x + 1 : Nat) : Int)) rfl (iinc_fit (by omega) (by omega) (by omega)) ?_
            refine tt_goto ?_
            refine tt_loc [(0, vR 31), (1, vI (((m : Nat) : Int))), (2, vI (((h : Nat) : Int))), (3, vI (((s : Nat) : Int))), (4, vI (lo)), (5, vI (hi)), (6, vI (((x + 1 : Nat) : Int)))] rfl rfl ⟨rfl, rfl, rfl, rfl, rfl, rfl, rfl, trivial⟩ ?_
            exact ih1 (x + 1) (by omega) (by omega) (fun y hy => by by_cases e : y = x; (subst e; exact ⟨by omega, fun hlt => by first | assumption | (exfalso; omega)⟩); exact hC y (by omega))
  refine tt_loc [(0, vR 31), (1, vI (((m : Nat) : Int))), (2, vI (((h : Nat) : Int))), (3, vI (((s : Nat) : Int))), (4, vI (lo)), (5, vI (hi)), (6, vI (((0 : Nat) : Int)))] rfl rfl ⟨rfl, rfl, rfl, rfl, rfl, rfl, lv_to rfl (by omega), trivial⟩ ?_
  exact lp1_1 _ (0) (Nat.lt_succ_self _) (by omega) (fun y hy => absurd hy (Nat.not_lt_zero y))

theorem c75 (σ : am_S) (k n nm : Nat) (hW : Wd σ) (hD : LD k σ) (hL : LN nm σ) (hH : HB n σ) (m h : Nat) (hm : m < 12) (hh : h < n) : CC 75 [vR 31, vI (((m : Nat) : Int)), vI (((h : Nat) : Int))] σ (fun r σ' => σ' = σ ∧ ((cAg σ m h 0 0 0) ∧ r = some (vI 1) ∨ ¬(cAg σ m h 0 0 0) ∧ r = some (vI 0))) := by
  show TT am_b75 (am_b75.getD 0 []) [(0, vR 31), (1, vI (((m : Nat) : Int))), (2, vI (((h : Nat) : Int)))] [] σ _
  have hk6 := hD.2.1
  have hn1 := hH.2.1
  have hn462 := hH.2.2.1
  have hnm12 := hL.2.1
  refine tt_ar rfl ?_
  refine tt_ar rfl ?_
  refine tt_ar rfl ?_
  refine tt_ar rfl ?_
  refine tt_ar rfl ?_
  refine tt_ar rfl ?_
  refine tt_cv6 6 rfl (wo_31 hW) (c76 σ k n nm hW hD hL hH m h 0 _ _ (by omega) (by omega) (by omega) (by omega) (by omega)) (kb (fun h0_6 => ?_) (fun h0_6 => ?_))
  · refine tt_zret (by omega) ?_
    exact ⟨rfl, Or.inl ⟨h0_6, rfl⟩⟩
  · refine tt_zret (by omega) ?_
    exact ⟨rfl, Or.inr ⟨h0_6, rfl⟩⟩

theorem c79 (σ : am_S) (k n nm : Nat) (hW : Wd σ) (hD : LD k σ) (hL : LN nm σ) (hH : HB n σ) (m h : Nat) (hm : m < 12) (hh : h < n) : CC 79 [vR 31, vI (((m : Nat) : Int)), vI (((h : Nat) : Int))] σ (fun r σ' => r = some (vI (if fstN (cIll σ m h) k < k then 10 + (fstN (cIll σ m h) k : Int) else -9)) ∧ σ' = σ) := by
  show TT am_b79 (am_b79.getD 0 []) [(0, vR 31), (1, vI (((m : Nat) : Int))), (2, vI (((h : Nat) : Int)))] [] σ _
  have hk6 := hD.2.1
  have hn1 := hH.2.1
  have hn462 := hH.2.2.1
  have hnm12 := hL.2.1
  refine tt_ar rfl ?_
  refine tt_ar rfl ?_
  refine tt_nop ?_
  have lp1_1 : ∀ (μ : Nat) (s : Nat), k - s < μ → (s ≤ k) → (∀ t, t < s → cIll σ m h t = false) → TT am_b79 (am_b79.getD 1 []) [(0, vR 31), (1, vI (((m : Nat) : Int))), (2, vI (((h : Nat) : Int))), (3, vI (((s : Nat) : Int)))] [] σ (fun r σ' => r = some (vI (if fstN (cIll σ m h) k < k then 10 + (fstN (cIll σ m h) k : Int) else -9)) ∧ σ' = σ) := by
    intro μ
    induction μ with
    | zero => intro s hμ; exact absurd hμ (Nat.not_lt_zero _)
    | succ μ ih1 =>
      intro s hμ hs hC
      refine tt_ar rfl ?_
      refine tt_ar rfl ?_
      refine tt_getR (wo_31 hW) rfl (wr_31_0 hW) ?_
      refine tt_getI (x := ((k : Nat) : Int)) (wo_5 hW) rfl hD.1 ?_
      refine tt_icge (fun h1_4 => ?_) (fun h1_4 => ?_)
      · refine tt_ar rfl ?_
        refine tt_iret ?_
        have e : s = k := by omega
        subst e
        exact ⟨rv (by rw [fstN_none hC, if_neg (Nat.lt_irrefl _)]), rfl⟩
      · refine tt_ar rfl ?_
        refine tt_getR (wo_31 hW) rfl (wr_31_1 hW) ?_
        refine tt_getR (wo_18 hW) rfl (wr_18_4 hW) ?_
        refine tt_ar rfl ?_
        refine tt_ar rfl ?_
        refine tt_imul (by omega) (by omega) ?_
        refine tt_ar rfl ?_
        refine tt_iadd (by omega) (by omega) ?_
        refine tt_iald (((h * 6) + s)) (x := σ.1 21 (((h * 6) + s))) (wa_21 hW) (by omega) (by omega) rfl ?_
        have hb21 := hH.2.2.2.2.1 (((h * 6) + s)) (by omega)
        refine tt_ifle (fun h1_14 => ?_) (fun h1_14 => ?_)
        · refine tt_iinc (y := ((s + 1 : Nat) : Int)) rfl (iinc_fit (by omega) (by omega) (by omega)) ?_
          refine tt_goto ?_
          refine tt_loc [(0, vR 31), (1, vI (((m : Nat) : Int))), (2, vI (((h : Nat) : Int))), (3, vI (((s + 1 : Nat) : Int)))] rfl rfl ⟨rfl, rfl, rfl, rfl, trivial⟩ ?_
          exact ih1 (s + 1) (by omega) (by omega) (fun t ht => by by_cases e : t = s; (subst e; exact decide_eq_false (fun hA => by first | (have := hA.1; omega) | contradiction | (have := hA.2; contradiction))); exact hC t (by omega))
        · refine tt_ar rfl ?_
          refine tt_ar rfl ?_
          refine tt_ar rfl ?_
          refine tt_ar rfl ?_
          refine tt_ar rfl ?_
          refine tt_ar rfl ?_
          refine tt_cv6 6 rfl (wo_31 hW) (c76 σ k n nm hW hD hL hH m h s _ _ (by omega) (by omega) (by omega) (by omega) (by omega)) (kb (fun h1_21 => ?_) (fun h1_21 => ?_))
          · refine tt_ifeqF (by decide) ?_
            refine tt_ar rfl ?_
            refine tt_ar rfl ?_
            refine tt_iadd (by omega) (by omega) ?_
            refine tt_iret ?_
            have hf : fstN (cIll σ m h) k = s := fstN_eq (decide_eq_true (by first | exact ⟨by omega, by assumption⟩ | assumption)) hC (by omega)
            exact ⟨rv (by rw [hf, if_pos (by omega)]), rfl⟩
          · refine tt_ifeqT (by decide) ?_
            refine tt_iinc (y := ((s + 1 : Nat) : Int)) rfl (iinc_fit (by omega) (by omega) (by omega)) ?_
            refine tt_goto ?_
            refine tt_loc [(0, vR 31), (1, vI (((m : Nat) : Int))), (2, vI (((h : Nat) : Int))), (3, vI (((s + 1 : Nat) : Int)))] rfl rfl ⟨rfl, rfl, rfl, rfl, trivial⟩ ?_
            exact ih1 (s + 1) (by omega) (by omega) (fun t ht => by by_cases e : t = s; (subst e; exact decide_eq_false (fun hA => by first | (have := hA.1; omega) | contradiction | (have := hA.2; contradiction))); exact hC t (by omega))
  refine tt_loc [(0, vR 31), (1, vI (((m : Nat) : Int))), (2, vI (((h : Nat) : Int))), (3, vI (((0 : Nat) : Int)))] rfl rfl ⟨rfl, rfl, rfl, lv_to rfl (by omega), trivial⟩ ?_
  exact lp1_1 _ (0) (Nat.lt_succ_self _) (by omega) (fun y hy => absurd hy (Nat.not_lt_zero y))

theorem c80 (σ : am_S) (k n nm : Nat) (hW : Wd σ) (hD : LD k σ) (hL : LN nm σ) (hH : HB n σ) (m h : Nat) (hm : m < 12) (hh : h < n) : CC 80 [vR 31, vI (((m : Nat) : Int)), vI (((h : Nat) : Int))] σ (fun r σ' => r = some (vI (if fstN (cGst σ m h) k < k then 20 + (fstN (cGst σ m h) k : Int) else -9)) ∧ σ' = σ) := by
  show TT am_b80 (am_b80.getD 0 []) [(0, vR 31), (1, vI (((m : Nat) : Int))), (2, vI (((h : Nat) : Int)))] [] σ _
  have hk6 := hD.2.1
  have hn1 := hH.2.1
  have hn462 := hH.2.2.1
  have hnm12 := hL.2.1
  refine tt_ar rfl ?_
  refine tt_ar rfl ?_
  refine tt_nop ?_
  have lp1_1 : ∀ (μ : Nat) (s : Nat), k - s < μ → (s ≤ k) → (∀ t, t < s → cGst σ m h t = false) → TT am_b80 (am_b80.getD 1 []) [(0, vR 31), (1, vI (((m : Nat) : Int))), (2, vI (((h : Nat) : Int))), (3, vI (((s : Nat) : Int)))] [] σ (fun r σ' => r = some (vI (if fstN (cGst σ m h) k < k then 20 + (fstN (cGst σ m h) k : Int) else -9)) ∧ σ' = σ) := by
    intro μ
    induction μ with
    | zero => intro s hμ; exact absurd hμ (Nat.not_lt_zero _)
    | succ μ ih1 =>
      intro s hμ hs hC
      refine tt_ar rfl ?_
      refine tt_ar rfl ?_
      refine tt_getR (wo_31 hW) rfl (wr_31_0 hW) ?_
      refine tt_getI (x := ((k : Nat) : Int)) (wo_5 hW) rfl hD.1 ?_
      refine tt_icge (fun h1_4 => ?_) (fun h1_4 => ?_)
      · refine tt_ar rfl ?_
        refine tt_iret ?_
        have e : s = k := by omega
        subst e
        exact ⟨rv (by rw [fstN_none hC, if_neg (Nat.lt_irrefl _)]), rfl⟩
      · refine tt_ar rfl ?_
        refine tt_ar rfl ?_
        refine tt_ar rfl ?_
        refine tt_ar rfl ?_
        refine tt_ar rfl ?_
        refine tt_ar rfl ?_
        refine tt_cv6 6 rfl (wo_31 hW) (c76 σ k n nm hW hD hL hH m h s _ _ (by omega) (by omega) (by omega) (by omega) (by omega)) (kb (fun h1_11 => ?_) (fun h1_11 => ?_))
        · refine tt_ifeqF (by decide) ?_
          refine tt_ar rfl ?_
          refine tt_ar rfl ?_
          refine tt_iadd (by omega) (by omega) ?_
          refine tt_iret ?_
          have hf : fstN (cGst σ m h) k = s := fstN_eq (decide_eq_true (by first | exact ⟨by omega, by assumption⟩ | assumption)) hC (by omega)
          exact ⟨rv (by rw [hf, if_pos (by omega)]), rfl⟩
        · refine tt_ifeqT (by decide) ?_
          refine tt_iinc (y := ((s + 1 : Nat) : Int)) rfl (iinc_fit (by omega) (by omega) (by omega)) ?_
          refine tt_goto ?_
          refine tt_loc [(0, vR 31), (1, vI (((m : Nat) : Int))), (2, vI (((h : Nat) : Int))), (3, vI (((s + 1 : Nat) : Int)))] rfl rfl ⟨rfl, rfl, rfl, rfl, trivial⟩ ?_
          exact ih1 (s + 1) (by omega) (by omega) (fun t ht => by by_cases e : t = s; (subst e; exact decide_eq_false (fun hA => by first | (have := hA.1; omega) | contradiction | (have := hA.2; contradiction))); exact hC t (by omega))
  refine tt_loc [(0, vR 31), (1, vI (((m : Nat) : Int))), (2, vI (((h : Nat) : Int))), (3, vI (((0 : Nat) : Int)))] rfl rfl ⟨rfl, rfl, rfl, lv_to rfl (by omega), trivial⟩ ?_
  exact lp1_1 _ (0) (Nat.lt_succ_self _) (by omega) (fun y hy => absurd hy (Nat.not_lt_zero y))

theorem c74 (σ : am_S) (k n nm : Nat) (hW : Wd σ) (hD : LD k σ) (hL : LN nm σ) (hH : HB n σ) (m h : Nat) (hm : m < 12) (hh : h < n) : CC 74 [vR 31, vI (((m : Nat) : Int)), vI (((h : Nat) : Int))] σ (fun r σ' => r = some (vI (cEx σ k m h)) ∧ σ' = σ) := by
  show TT am_b74 (am_b74.getD 0 []) [(0, vR 31), (1, vI (((m : Nat) : Int))), (2, vI (((h : Nat) : Int)))] [] σ _
  have hk6 := hD.2.1
  have hn1 := hH.2.1
  have hn462 := hH.2.2.1
  have hnm12 := hL.2.1
  refine tt_ar rfl ?_
  refine tt_ar rfl ?_
  refine tt_ar rfl ?_
  refine tt_cv3 3 rfl (wo_31 hW) (c75 σ k n nm hW hD hL hH m h (by omega) (by omega)) (kb (fun h0_3 => ?_) (fun h0_3 => ?_))
  · refine tt_ifeqF (by decide) ?_
    refine tt_ar rfl ?_
    refine tt_iret ?_
    exact ⟨rv (by unfold cEx exN; rw [if_pos (decide_eq_true h0_3)]), rfl⟩
  · refine tt_ifeqT (by decide) ?_
    refine tt_ar rfl ?_
    refine tt_ar rfl ?_
    refine tt_ar rfl ?_
    refine tt_cv3 3 rfl (wo_31 hW) (c79 σ k n nm hW hD hL hH m h (by omega) (by omega)) (kp ?_)
    refine tt_ar rfl ?_
    refine tt_ar rfl ?_
    refine tt_ar rfl ?_
    refine tt_icne (fun h1_7 => ?_) (fun h1_7 => ?_)
    · refine tt_ar rfl ?_
      refine tt_nop ?_
      refine tt_iret ?_
      exact ⟨rv (by unfold cEx exN; rw [if_neg (fun e => h0_3 (of_decide_eq_true e))]; by_cases e : fstN (cIll σ m h) k < k; (rw [if_pos e, if_pos e]); (rw [if_neg e] at h1_7; exact absurd rfl h1_7)), rfl⟩
    · refine tt_ar rfl ?_
      refine tt_ar rfl ?_
      refine tt_ar rfl ?_
      refine tt_cv3 3 rfl (wo_31 hW) (c80 σ k n nm hW hD hL hH m h (by omega) (by omega)) (kp ?_)
      refine tt_goto ?_
      refine tt_iret ?_
      exact ⟨rv (by unfold cEx exN; rw [if_neg (fun e => h0_3 (of_decide_eq_true e))]; by_cases e : fstN (cIll σ m h) k < k; (rw [if_pos e] at h1_7; exfalso; omega); (rw [if_neg e])), rfl⟩

theorem c81 (σ : am_S) (k n nm : Nat) (hW : Wd σ) (hD : LD k σ) (hL : LN nm σ) (hH : HB n σ) (how : Int) : CC 81 [vR 31, vI (how)] σ (fun r σ' => r = some (vI (prOf (σ.1 9) how)) ∧ σ' = σ) := by
  show TT am_b81 (am_b81.getD 0 []) [(0, vR 31), (1, vI (how))] [] σ _
  have hk6 := hD.2.1
  have hn1 := hH.2.1
  have hn462 := hH.2.2.1
  have hnm12 := hL.2.1
  refine tt_ar rfl ?_
  refine tt_ar rfl ?_
  refine tt_icge (fun h0_2 => ?_) (fun h0_2 => ?_)
  · refine tt_ar rfl ?_
    refine tt_getR (wo_31 hW) rfl (wr_31_0 hW) ?_
    refine tt_getR (wo_5 hW) rfl (wr_5_5 hW) ?_
    refine tt_ar rfl ?_
    refine tt_ar rfl ?_
    refine tt_icge (fun h1_5 => ?_) (fun h1_5 => ?_)
    · refine tt_ar rfl ?_
      refine tt_nop ?_
      refine tt_iald (4) (x := σ.1 9 (4)) (wa_9 hW) rfl (by omega) rfl ?_
      have hb9 := hD.2.2.2.1 (4) (by omega)
      refine tt_iret ?_
      exact ⟨rv (by unfold prOf; rw [if_neg (by omega), if_neg (by omega)]), rfl⟩
    · refine tt_ar rfl ?_
      refine tt_goto ?_
      refine tt_iald (3) (x := σ.1 9 (3)) (wa_9 hW) rfl (by omega) rfl ?_
      have hb9 := hD.2.2.2.1 (3) (by omega)
      refine tt_iret ?_
      exact ⟨rv (by unfold prOf; rw [if_neg (by omega), if_pos (by omega)]), rfl⟩
  · refine tt_ar rfl ?_
    refine tt_iret ?_
    exact ⟨rv (by unfold prOf; rw [if_pos (by omega)]), rfl⟩

def cPr (σ : am_S) (k m h : Nat) : Int := if cEx σ k m h = -9 then 1000000 else prOf (σ.1 9) (cEx σ k m h)
def cCnt (σ : am_S) (k m : Nat) (price : Int) (n : Nat) : Int := sumN n (fun h => if ¬ cEx σ k m h = -9 ∧ prOf (σ.1 9) (cEx σ k m h) ≤ price then 1 else 0)
theorem cCnt_bd (σ : am_S) (k m : Nat) (price : Int) (n : Nat) : 0 ≤ cCnt σ k m price n ∧ cCnt σ k m price n ≤ (n : Int) := by
  have := sumN_bd (f := fun h => if ¬ cEx σ k m h = -9 ∧ prOf (σ.1 9) (cEx σ k m h) ≤ price then 1 else 0) (a := 0) (b := 1) (n := n) (fun i _ => by split <;> omega)
  unfold cCnt
  omega
def cTm (σ : am_S) (m h : Nat) : Int := orN 8 (fun x => decide (σ.1 30 (m * 8 + x) - σ.1 29 m > σ.1 26 (h * 8 + x)))
def cTl (σ : am_S) (m h : Nat) : Int := orN 8 (fun x => decide (σ.1 30 (m * 8 + x) + σ.1 29 m < (if isIn (σ.1 5 4) (σ.1 28 m) (x : Int) then 0 else σ.1 25 (h * 8 + x))))
def cSm (σ : am_S) (m n : Nat) : Int := smN (σ.1 20) (fun h => decide (cAg σ m h 0 0 0)) n
def cMo (σ : am_S) (k x : Nat) : Int := maxN k (fun s => σ.1 8 (s * 8 + x))
theorem maxN_bd {f : Nat → Int} {B : Int} (hB : 0 ≤ B) : ∀ {n : Nat}, (∀ i, i < n → f i ≤ B) → 0 ≤ maxN n f ∧ maxN n f ≤ B
  | 0, _ => ⟨Int.le_refl _, hB⟩
  | n + 1, h => by
    have h1 := maxN_bd hB (n := n) (fun i hi => h i (by omega))
    have h2 := h n (by omega)
    unfold maxN
    split <;> omega
def cPb (σ : am_S) (k m : Nat) : Nat → Option Int := pbN (fun x => σ.1 30 (m * 8 + x) - σ.1 29 m) (cMo σ k)
def cDb1 (σ : am_S) (h m x : Nat) : Int := dbT (if isIn (σ.1 5 4) (σ.1 28 m) (x : Int) then 0 else σ.1 25 (h * 8 + x)) (σ.1 30 (m * 8 + x)) (σ.1 26 (h * 8 + x))
def cDb (σ : am_S) (nm h : Nat) : Int := sumN nm (fun m => sumN 8 (cDb1 σ h m))
theorem c91 (σ : am_S) (k n nm : Nat) (hW : Wd σ) (hD : LD k σ) (hL : LN nm σ) (hH : HB n σ) (m : Nat) (price : Int) (hm : m < 12) : CC 91 [vR 31, vI (((m : Nat) : Int)), vI (price)] σ (fun r σ' => r = some (vI (cCnt σ k m price n)) ∧ σ' = σ) := by
  show TT am_b91 (am_b91.getD 0 []) [(0, vR 31), (1, vI (((m : Nat) : Int))), (2, vI (price))] [] σ _
  have hk6 := hD.2.1
  have hn1 := hH.2.1
  have hn462 := hH.2.2.1
  have hnm12 := hL.2.1
  refine tt_ar rfl ?_
  refine tt_ar rfl ?_
  refine tt_ar rfl ?_
  refine tt_ar rfl ?_
  refine tt_nop ?_
  have lp1_1 : ∀ (μ : Nat) (h : Nat), n - h < μ → (h ≤ n) → TT am_b91 (am_b91.getD 1 []) [(0, vR 31), (1, vI (((m : Nat) : Int))), (2, vI (price)), (3, vI (cCnt σ k m price h)), (4, vI (((h : Nat) : Int)))] [] σ (fun r σ' => r = some (vI (cCnt σ k m price n)) ∧ σ' = σ) := by
    intro μ
    induction μ with
    | zero => intro h hμ; exact absurd hμ (Nat.not_lt_zero _)
    | succ μ ih1 =>
      intro h hμ hh
      have hbc := cCnt_bd σ k m price h
      refine tt_ar rfl ?_
      refine tt_ar rfl ?_
      refine tt_getR (wo_31 hW) rfl (wr_31_1 hW) ?_
      refine tt_getI (x := ((n : Nat) : Int)) (wo_18 hW) rfl hH.1 ?_
      refine tt_icge (fun h1_4 => ?_) (fun h1_4 => ?_)
      · refine tt_ar rfl ?_
        refine tt_iret ?_
        have e : h = n := by omega
        subst e
        exact ⟨rfl, rfl⟩
      · refine tt_ar rfl ?_
        refine tt_ar rfl ?_
        refine tt_ar rfl ?_
        refine tt_cv3 3 rfl (wo_31 hW) (c74 σ k n nm hW hD hL hH m h (by omega) (by omega)) (kp ?_)
        refine tt_ar rfl ?_
        refine tt_ar rfl ?_
        refine tt_ar rfl ?_
        refine tt_iceq (fun h1_12 => ?_) (fun h1_12 => ?_)
        · refine tt_iinc (y := ((h + 1 : Nat) : Int)) rfl (iinc_fit (by omega) (by omega) (by omega)) ?_
          refine tt_goto ?_
          refine tt_loc [(0, vR 31), (1, vI (((m : Nat) : Int))), (2, vI (price)), (3, vI (cCnt σ k m price (h + 1))), (4, vI (((h + 1 : Nat) : Int)))] rfl rfl ⟨rfl, rfl, rfl, lv_to rfl (by show _ = cCnt σ k m price h + (if ¬ cEx σ k m h = -9 ∧ prOf (σ.1 9) (cEx σ k m h) ≤ price then 1 else 0); first | (rw [if_pos ⟨by assumption, by assumption⟩]) | (rw [if_neg (fun e => e.1 (by assumption))]; omega) | (rw [if_neg (fun e => by have := e.2; omega)]; omega)), rfl, trivial⟩ ?_
          exact ih1 (h + 1) (by omega) (by omega)
        · refine tt_ar rfl ?_
          refine tt_ar rfl ?_
          refine tt_cv2 2 rfl (wo_31 hW) (c81 σ k n nm hW hD hL hH _) (kp ?_)
          refine tt_ar rfl ?_
          refine tt_icgt (fun h1_17 => ?_) (fun h1_17 => ?_)
          · refine tt_iinc (y := ((h + 1 : Nat) : Int)) rfl (iinc_fit (by omega) (by omega) (by omega)) ?_
            refine tt_goto ?_
            refine tt_loc [(0, vR 31), (1, vI (((m : Nat) : Int))), (2, vI (price)), (3, vI (cCnt σ k m price (h + 1))), (4, vI (((h + 1 : Nat) : Int)))] rfl rfl ⟨rfl, rfl, rfl, lv_to rfl (by show _ = cCnt σ k m price h + (if ¬ cEx σ k m h = -9 ∧ prOf (σ.1 9) (cEx σ k m h) ≤ price then 1 else 0); first | (rw [if_pos ⟨by assumption, by assumption⟩]) | (rw [if_neg (fun e => e.1 (by assumption))]; omega) | (rw [if_neg (fun e => by have := e.2; omega)]; omega)), rfl, trivial⟩ ?_
            exact ih1 (h + 1) (by omega) (by omega)
          · refine tt_iinc (y := (cCnt σ k m price h + 1)) rfl (iinc_fit (by omega) (by omega) (by omega)) ?_
            refine tt_nop ?_
            refine tt_iinc (y := ((h + 1 : Nat) : Int)) rfl (iinc_fit (by omega) (by omega) (by omega)) ?_
            refine tt_goto ?_
            refine tt_loc [(0, vR 31), (1, vI (((m : Nat) : Int))), (2, vI (price)), (3, vI (cCnt σ k m price (h + 1))), (4, vI (((h + 1 : Nat) : Int)))] rfl rfl ⟨rfl, rfl, rfl, lv_to rfl (by show _ = cCnt σ k m price h + (if ¬ cEx σ k m h = -9 ∧ prOf (σ.1 9) (cEx σ k m h) ≤ price then 1 else 0); first | (rw [if_pos ⟨by assumption, by assumption⟩]) | (rw [if_neg (fun e => e.1 (by assumption))]; omega) | (rw [if_neg (fun e => by have := e.2; omega)]; omega)), rfl, trivial⟩ ?_
            exact ih1 (h + 1) (by omega) (by omega)
  refine tt_loc [(0, vR 31), (1, vI (((m : Nat) : Int))), (2, vI (price)), (3, vI (cCnt σ k m price 0)), (4, vI (((0 : Nat) : Int)))] rfl rfl ⟨rfl, rfl, rfl, lv_to rfl rfl, lv_to rfl (by omega), trivial⟩ ?_
  exact lp1_1 _ (0) (Nat.lt_succ_self _) (by omega)

theorem c83 (σ : am_S) (k n nm : Nat) (hW : Wd σ) (hD : LD k σ) (hL : LN nm σ) (hH : HB n σ) (m h : Nat) (hm : m < 12) (hh : h < n) : CC 83 [vR 31, vI (((m : Nat) : Int)), vI (((h : Nat) : Int))] σ (fun r σ' => r = some (vI (cTm σ m h)) ∧ σ' = σ) := by
  show TT am_b83 (am_b83.getD 0 []) [(0, vR 31), (1, vI (((m : Nat) : Int))), (2, vI (((h : Nat) : Int)))] [] σ _
  have hk6 := hD.2.1
  have hn1 := hH.2.1
  have hn462 := hH.2.2.1
  have hnm12 := hL.2.1
  refine tt_ar rfl ?_
  refine tt_ar rfl ?_
  refine tt_ar rfl ?_
  refine tt_ar rfl ?_
  refine tt_nop ?_
  have lp1_1 : ∀ (μ : Nat) (x : Nat), 8 - x < μ → (x ≤ 8) → TT am_b83 (am_b83.getD 1 []) [(0, vR 31), (1, vI (((m : Nat) : Int))), (2, vI (((h : Nat) : Int))), (3, vI (orN x (fun x => decide (σ.1 30 (m * 8 + x) - σ.1 29 m > σ.1 26 (h * 8 + x))))), (4, vI (((x : Nat) : Int)))] [] σ (fun r σ' => r = some (vI (cTm σ m h)) ∧ σ' = σ) := by
    intro μ
    induction μ with
    | zero => intro x hμ; exact absurd hμ (Nat.not_lt_zero _)
    | succ μ ih1 =>
      intro x hμ hx
      refine tt_ar rfl ?_
      refine tt_ar rfl ?_
      refine tt_icge (fun h1_2 => ?_) (fun h1_2 => ?_)
      · refine tt_ar rfl ?_
        refine tt_iret ?_
        have e : 8 = x := by omega
        subst e
        exact ⟨rfl, rfl⟩
      · refine tt_ar rfl ?_
        refine tt_getR (wo_31 hW) rfl (wr_31_2 hW) ?_
        refine tt_ar rfl ?_
        refine tt_ar rfl ?_
        refine tt_ar rfl ?_
        refine tt_getR (wo_31 hW) rfl (wr_31_1 hW) ?_
        refine tt_getR (wo_18 hW) rfl (wr_18_9 hW) ?_
        refine tt_ar rfl ?_
        refine tt_ar rfl ?_
        refine tt_imul (by omega) (by omega) ?_
        refine tt_ar rfl ?_
        refine tt_iadd (by omega) (by omega) ?_
        refine tt_iald (((h * 8) + x)) (x := σ.1 26 (((h * 8) + x))) (wa_26 hW) (by omega) (by omega) rfl ?_
        have hb26 := hH.2.2.2.1 (((h * 8) + x)) (by omega)
        refine tt_cv4 4 rfl (wo_27 hW) (c77 σ _ m x _ hW hL (by omega) (by omega)) (kb (fun h1_16 => ?_) (fun h1_16 => ?_))
        · refine tt_ifeqF (by decide) ?_
          refine tt_ar rfl ?_
          refine tt_ar rfl ?_
          refine tt_ar rfl ?_
          refine tt_bI (g := a_shl) (z := a_shl (1) (((x : Nat) : Int))) rfl rfl ?_
          refine tt_bI (g := a_or) (z := a_or (orN x (fun x => decide (σ.1 30 (m * 8 + x) - σ.1 29 m > σ.1 26 (h * 8 + x)))) (a_shl (1) (((x : Nat) : Int)))) rfl rfl ?_
          refine tt_ar rfl ?_
          refine tt_nop ?_
          refine tt_iinc (y := ((x + 1 : Nat) : Int)) rfl (iinc_fit (by omega) (by omega) (by omega)) ?_
          refine tt_goto ?_
          refine tt_loc [(0, vR 31), (1, vI (((m : Nat) : Int))), (2, vI (((h : Nat) : Int))), (3, vI (orN (x + 1) (fun x => decide (σ.1 30 (m * 8 + x) - σ.1 29 m > σ.1 26 (h * 8 + x))))), (4, vI (((x + 1 : Nat) : Int)))] rfl rfl ⟨rfl, rfl, rfl, lv_to rfl (by conv => { rhs; unfold orN }; first | (rw [if_pos (decide_eq_true (by assumption))]) | (rw [if_neg (fun e => absurd (of_decide_eq_true e) (by assumption))])), rfl, trivial⟩ ?_
          exact ih1 (x + 1) (by omega) (by omega)
        · refine tt_ifeqT (by decide) ?_
          refine tt_iinc (y := ((x + 1 : Nat) : Int)) rfl (iinc_fit (by omega) (by omega) (by omega)) ?_
          refine tt_goto ?_
          refine tt_loc [(0, vR 31), (1, vI (((m : Nat) : Int))), (2, vI (((h : Nat) : Int))), (3, vI (orN (x + 1) (fun x => decide (σ.1 30 (m * 8 + x) - σ.1 29 m > σ.1 26 (h * 8 + x))))), (4, vI (((x + 1 : Nat) : Int)))] rfl rfl ⟨rfl, rfl, rfl, lv_to rfl (by conv => { rhs; unfold orN }; first | (rw [if_pos (decide_eq_true (by assumption))]) | (rw [if_neg (fun e => absurd (of_decide_eq_true e) (by assumption))])), rfl, trivial⟩ ?_
          exact ih1 (x + 1) (by omega) (by omega)
  refine tt_loc [(0, vR 31), (1, vI (((m : Nat) : Int))), (2, vI (((h : Nat) : Int))), (3, vI (orN 0 (fun x => decide (σ.1 30 (m * 8 + x) - σ.1 29 m > σ.1 26 (h * 8 + x))))), (4, vI (((0 : Nat) : Int)))] rfl rfl ⟨rfl, rfl, rfl, lv_to rfl rfl, lv_to rfl (by omega), trivial⟩ ?_
  exact lp1_1 _ (0) (Nat.lt_succ_self _) (by omega)

theorem c84 (σ : am_S) (k n nm : Nat) (hW : Wd σ) (hD : LD k σ) (hL : LN nm σ) (hH : HB n σ) (m h : Nat) (hm : m < 12) (hh : h < n) : CC 84 [vR 31, vI (((m : Nat) : Int)), vI (((h : Nat) : Int))] σ (fun r σ' => r = some (vI (cTl σ m h)) ∧ σ' = σ) := by
  show TT am_b84 (am_b84.getD 0 []) [(0, vR 31), (1, vI (((m : Nat) : Int))), (2, vI (((h : Nat) : Int)))] [] σ _
  have hk6 := hD.2.1
  have hn1 := hH.2.1
  have hn462 := hH.2.2.1
  have hnm12 := hL.2.1
  refine tt_ar rfl ?_
  refine tt_ar rfl ?_
  refine tt_ar rfl ?_
  refine tt_ar rfl ?_
  refine tt_nop ?_
  have lp1_1 : ∀ (μ : Nat) (x : Nat), 8 - x < μ → (x ≤ 8) → TT am_b84 (am_b84.getD 1 []) [(0, vR 31), (1, vI (((m : Nat) : Int))), (2, vI (((h : Nat) : Int))), (3, vI (orN x (fun x => decide (σ.1 30 (m * 8 + x) + σ.1 29 m < (if isIn (σ.1 5 4) (σ.1 28 m) (x : Int) then 0 else σ.1 25 (h * 8 + x)))))), (4, vI (((x : Nat) : Int)))] [] σ (fun r σ' => r = some (vI (cTl σ m h)) ∧ σ' = σ) := by
    intro μ
    induction μ with
    | zero => intro x hμ; exact absurd hμ (Nat.not_lt_zero _)
    | succ μ ih1 =>
      intro x hμ hx
      refine tt_ar rfl ?_
      refine tt_ar rfl ?_
      refine tt_icge (fun h1_2 => ?_) (fun h1_2 => ?_)
      · refine tt_ar rfl ?_
        refine tt_iret ?_
        have e : 8 = x := by omega
        subst e
        exact ⟨rfl, rfl⟩
      · refine tt_ar rfl ?_
        refine tt_getR (wo_31 hW) rfl (wr_31_2 hW) ?_
        refine tt_ar rfl ?_
        refine tt_ar rfl ?_
        refine tt_ar rfl ?_
        refine tt_getR (wo_31 hW) rfl (wr_31_1 hW) ?_
        refine tt_ar rfl ?_
        refine tt_ar rfl ?_
        refine tt_getR (wo_31 hW) rfl (wr_31_2 hW) ?_
        refine tt_getR (wo_27 hW) rfl (wr_27_1 hW) ?_
        refine tt_ar rfl ?_
        refine tt_iald (m) (x := σ.1 28 (m)) (wa_28 hW) rfl (by omega) rfl ?_
        have hb28 := hL.2.2.1 (m) (by omega)
        refine tt_ar rfl ?_
        refine tt_cv4 4 rfl (wo_18 hW) (c71 σ h x _ hW (by omega) (by omega)) (kp ?_)
        refine tt_cv4 4 rfl (wo_27 hW) (c78 σ _ m x _ hW hL (by omega) (by omega)) (kb (fun h1_17 => ?_) (fun h1_17 => ?_))
        · refine tt_ifeqF (by decide) ?_
          refine tt_ar rfl ?_
          refine tt_ar rfl ?_
          refine tt_ar rfl ?_
          refine tt_bI (g := a_shl) (z := a_shl (1) (((x : Nat) : Int))) rfl rfl ?_
          refine tt_bI (g := a_or) (z := a_or (orN x (fun x => decide (σ.1 30 (m * 8 + x) + σ.1 29 m < (if isIn (σ.1 5 4) (σ.1 28 m) (x : Int) then 0 else σ.1 25 (h * 8 + x))))) (a_shl (1) (((x : Nat) : Int)))) rfl rfl ?_
          refine tt_ar rfl ?_
          refine tt_nop ?_
          refine tt_iinc (y := ((x + 1 : Nat) : Int)) rfl (iinc_fit (by omega) (by omega) (by omega)) ?_
          refine tt_goto ?_
          refine tt_loc [(0, vR 31), (1, vI (((m : Nat) : Int))), (2, vI (((h : Nat) : Int))), (3, vI (orN (x + 1) (fun x => decide (σ.1 30 (m * 8 + x) + σ.1 29 m < (if isIn (σ.1 5 4) (σ.1 28 m) (x : Int) then 0 else σ.1 25 (h * 8 + x)))))), (4, vI (((x + 1 : Nat) : Int)))] rfl rfl ⟨rfl, rfl, rfl, lv_to rfl (by conv => { rhs; unfold orN }; first | (rw [if_pos (decide_eq_true (by assumption))]) | (rw [if_neg (fun e => absurd (of_decide_eq_true e) (by assumption))])), rfl, trivial⟩ ?_
          exact ih1 (x + 1) (by omega) (by omega)
        · refine tt_ifeqT (by decide) ?_
          refine tt_iinc (y := ((x + 1 : Nat) : Int)) rfl (iinc_fit (by omega) (by omega) (by omega)) ?_
          refine tt_goto ?_
          refine tt_loc [(0, vR 31), (1, vI (((m : Nat) : Int))), (2, vI (((h : Nat) : Int))), (3, vI (orN (x + 1) (fun x => decide (σ.1 30 (m * 8 + x) + σ.1 29 m < (if isIn (σ.1 5 4) (σ.1 28 m) (x : Int) then 0 else σ.1 25 (h * 8 + x)))))), (4, vI (((x + 1 : Nat) : Int)))] rfl rfl ⟨rfl, rfl, rfl, lv_to rfl (by conv => { rhs; unfold orN }; first | (rw [if_pos (decide_eq_true (by assumption))]) | (rw [if_neg (fun e => absurd (of_decide_eq_true e) (by assumption))])), rfl, trivial⟩ ?_
          exact ih1 (x + 1) (by omega) (by omega)
  refine tt_loc [(0, vR 31), (1, vI (((m : Nat) : Int))), (2, vI (((h : Nat) : Int))), (3, vI (orN 0 (fun x => decide (σ.1 30 (m * 8 + x) + σ.1 29 m < (if isIn (σ.1 5 4) (σ.1 28 m) (x : Int) then 0 else σ.1 25 (h * 8 + x)))))), (4, vI (((0 : Nat) : Int)))] rfl rfl ⟨rfl, rfl, rfl, lv_to rfl rfl, lv_to rfl (by omega), trivial⟩ ?_
  exact lp1_1 _ (0) (Nat.lt_succ_self _) (by omega)

theorem c86 (σ : am_S) (k n nm : Nat) (hW : Wd σ) (hD : LD k σ) (hL : LN nm σ) (hH : HB n σ) (m : Nat) (hm : m < 12) : CC 86 [vR 31, vI (((m : Nat) : Int))] σ (fun r σ' => r = some (vI (cSm σ m n)) ∧ σ' = σ) := by
  show TT am_b86 (am_b86.getD 0 []) [(0, vR 31), (1, vI (((m : Nat) : Int)))] [] σ _
  have hk6 := hD.2.1
  have hn1 := hH.2.1
  have hn462 := hH.2.2.1
  have hnm12 := hL.2.1
  refine tt_ar rfl ?_
  refine tt_ar rfl ?_
  refine tt_ar rfl ?_
  refine tt_ar rfl ?_
  refine tt_nop ?_
  have lp1_1 : ∀ (μ : Nat) (h : Nat), n - h < μ → (h ≤ n) → TT am_b86 (am_b86.getD 1 []) [(0, vR 31), (1, vI (((m : Nat) : Int))), (2, vI (cSm σ m h)), (3, vI (((h : Nat) : Int)))] [] σ (fun r σ' => r = some (vI (cSm σ m n)) ∧ σ' = σ) := by
    intro μ
    induction μ with
    | zero => intro h hμ; exact absurd hμ (Nat.not_lt_zero _)
    | succ μ ih1 =>
      intro h hμ hh
      have hbc := smN_bd (all := σ.1 20) (p := fun h => decide (cAg σ m h 0 0 0)) h
      have hbc : -1 ≤ cSm σ m h ∧ cSm σ m h < (h : Int) := hbc
      refine tt_ar rfl ?_
      refine tt_ar rfl ?_
      refine tt_getR (wo_31 hW) rfl (wr_31_1 hW) ?_
      refine tt_getI (x := ((n : Nat) : Int)) (wo_18 hW) rfl hH.1 ?_
      refine tt_icge (fun h1_4 => ?_) (fun h1_4 => ?_)
      · refine tt_ar rfl ?_
        refine tt_iret ?_
        have e : h = n := by omega
        subst e
        exact ⟨rfl, rfl⟩
      · refine tt_ar rfl ?_
        refine tt_iflt (fun h1_6 => ?_) (fun h1_6 => ?_)
        · refine tt_ar rfl ?_
          refine tt_ar rfl ?_
          refine tt_ar rfl ?_
          refine tt_cv3 3 rfl (wo_31 hW) (c75 σ k n nm hW hD hL hH m h (by omega) (by omega)) (kb (fun h2_3 => ?_) (fun h2_3 => ?_))
          · refine tt_ifeqF (by decide) ?_
            refine tt_ar rfl ?_
            refine tt_ar rfl ?_
            refine tt_nop ?_
            refine tt_iinc (y := ((h + 1 : Nat) : Int)) rfl (iinc_fit (by omega) (by omega) (by omega)) ?_
            refine tt_goto ?_
            refine tt_loc [(0, vR 31), (1, vI (((m : Nat) : Int))), (2, vI (cSm σ m (h + 1))), (3, vI (((h + 1 : Nat) : Int)))] rfl rfl ⟨rfl, rfl, lv_to rfl (by show _ = if (cSm σ m h < 0 ∨ σ.1 20 h < σ.1 20 (cSm σ m h).toNat) ∧ decide (cAg σ m h 0 0 0) = true then (h : Int) else cSm σ m h; first | (rw [if_pos ⟨by omega, decide_eq_true (by assumption)⟩]) | (rw [if_neg (fun e => absurd (of_decide_eq_true e.2) (by assumption))]) | (rw [if_neg (fun e => by have := e.1; omega)])), rfl, trivial⟩ ?_
            exact ih1 (h + 1) (by omega) (by omega)
          · refine tt_ifeqT (by decide) ?_
            refine tt_iinc (y := ((h + 1 : Nat) : Int)) rfl (iinc_fit (by omega) (by omega) (by omega)) ?_
            refine tt_goto ?_
            refine tt_loc [(0, vR 31), (1, vI (((m : Nat) : Int))), (2, vI (cSm σ m (h + 1))), (3, vI (((h + 1 : Nat) : Int)))] rfl rfl ⟨rfl, rfl, lv_to rfl (by show _ = if (cSm σ m h < 0 ∨ σ.1 20 h < σ.1 20 (cSm σ m h).toNat) ∧ decide (cAg σ m h 0 0 0) = true then (h : Int) else cSm σ m h; first | (rw [if_pos ⟨by omega, decide_eq_true (by assumption)⟩]) | (rw [if_neg (fun e => absurd (of_decide_eq_true e.2) (by assumption))]) | (rw [if_neg (fun e => by have := e.1; omega)])), rfl, trivial⟩ ?_
            exact ih1 (h + 1) (by omega) (by omega)
        · refine tt_ar rfl ?_
          refine tt_getR (wo_31 hW) rfl (wr_31_1 hW) ?_
          refine tt_getR (wo_18 hW) rfl (wr_18_3 hW) ?_
          refine tt_ar rfl ?_
          refine tt_iald (h) (x := σ.1 20 (h)) (wa_20 hW) rfl (by omega) rfl ?_
          have hb20 := hH.2.2.2.2.2.1 (h) (by omega)
          refine tt_ar rfl ?_
          refine tt_getR (wo_31 hW) rfl (wr_31_1 hW) ?_
          refine tt_getR (wo_18 hW) rfl (wr_18_3 hW) ?_
          refine tt_ar rfl ?_
          refine tt_iald ((cSm σ m h).toNat) (x := σ.1 20 ((cSm σ m h).toNat)) (wa_20 hW) (by omega) (by omega) rfl ?_
          have hb20 := hH.2.2.2.2.2.1 ((cSm σ m h).toNat) (by omega)
          refine tt_icge (fun h1_17 => ?_) (fun h1_17 => ?_)
          · refine tt_iinc (y := ((h + 1 : Nat) : Int)) rfl (iinc_fit (by omega) (by omega) (by omega)) ?_
            refine tt_goto ?_
            refine tt_loc [(0, vR 31), (1, vI (((m : Nat) : Int))), (2, vI (cSm σ m (h + 1))), (3, vI (((h + 1 : Nat) : Int)))] rfl rfl ⟨rfl, rfl, lv_to rfl (by show _ = if (cSm σ m h < 0 ∨ σ.1 20 h < σ.1 20 (cSm σ m h).toNat) ∧ decide (cAg σ m h 0 0 0) = true then (h : Int) else cSm σ m h; first | (rw [if_pos ⟨by omega, decide_eq_true (by assumption)⟩]) | (rw [if_neg (fun e => absurd (of_decide_eq_true e.2) (by assumption))]) | (rw [if_neg (fun e => by have := e.1; omega)])), rfl, trivial⟩ ?_
            exact ih1 (h + 1) (by omega) (by omega)
          · refine tt_nop ?_
            refine tt_ar rfl ?_
            refine tt_ar rfl ?_
            refine tt_ar rfl ?_
            refine tt_cv3 3 rfl (wo_31 hW) (c75 σ k n nm hW hD hL hH m h (by omega) (by omega)) (kb (fun h2_3 => ?_) (fun h2_3 => ?_))
            · refine tt_ifeqF (by decide) ?_
              refine tt_ar rfl ?_
              refine tt_ar rfl ?_
              refine tt_nop ?_
              refine tt_iinc (y := ((h + 1 : Nat) : Int)) rfl (iinc_fit (by omega) (by omega) (by omega)) ?_
              refine tt_goto ?_
              refine tt_loc [(0, vR 31), (1, vI (((m : Nat) : Int))), (2, vI (cSm σ m (h + 1))), (3, vI (((h + 1 : Nat) : Int)))] rfl rfl ⟨rfl, rfl, lv_to rfl (by show _ = if (cSm σ m h < 0 ∨ σ.1 20 h < σ.1 20 (cSm σ m h).toNat) ∧ decide (cAg σ m h 0 0 0) = true then (h : Int) else cSm σ m h; first | (rw [if_pos ⟨by omega, decide_eq_true (by assumption)⟩]) | (rw [if_neg (fun e => absurd (of_decide_eq_true e.2) (by assumption))]) | (rw [if_neg (fun e => by have := e.1; omega)])), rfl, trivial⟩ ?_
              exact ih1 (h + 1) (by omega) (by omega)
            · refine tt_ifeqT (by decide) ?_
              refine tt_iinc (y := ((h + 1 : Nat) : Int)) rfl (iinc_fit (by omega) (by omega) (by omega)) ?_
              refine tt_goto ?_
              refine tt_loc [(0, vR 31), (1, vI (((m : Nat) : Int))), (2, vI (cSm σ m (h + 1))), (3, vI (((h + 1 : Nat) : Int)))] rfl rfl ⟨rfl, rfl, lv_to rfl (by show _ = if (cSm σ m h < 0 ∨ σ.1 20 h < σ.1 20 (cSm σ m h).toNat) ∧ decide (cAg σ m h 0 0 0) = true then (h : Int) else cSm σ m h; first | (rw [if_pos ⟨by omega, decide_eq_true (by assumption)⟩]) | (rw [if_neg (fun e => absurd (of_decide_eq_true e.2) (by assumption))]) | (rw [if_neg (fun e => by have := e.1; omega)])), rfl, trivial⟩ ?_
              exact ih1 (h + 1) (by omega) (by omega)
  refine tt_loc [(0, vR 31), (1, vI (((m : Nat) : Int))), (2, vI (cSm σ m 0)), (3, vI (((0 : Nat) : Int)))] rfl rfl ⟨rfl, rfl, lv_to rfl rfl, lv_to rfl (by omega), trivial⟩ ?_
  exact lp1_1 _ (0) (Nat.lt_succ_self _) (by omega)

theorem c89 (σ : am_S) (k n nm : Nat) (hW : Wd σ) (hD : LD k σ) (hL : LN nm σ) (hH : HB n σ) (x : Nat) (hx : x < 8) : CC 89 [vR 31, vI (((x : Nat) : Int))] σ (fun r σ' => r = some (vI (cMo σ k x)) ∧ σ' = σ) := by
  show TT am_b89 (am_b89.getD 0 []) [(0, vR 31), (1, vI (((x : Nat) : Int)))] [] σ _
  have hk6 := hD.2.1
  have hn1 := hH.2.1
  have hn462 := hH.2.2.1
  have hnm12 := hL.2.1
  refine tt_ar rfl ?_
  refine tt_ar rfl ?_
  refine tt_ar rfl ?_
  refine tt_ar rfl ?_
  refine tt_nop ?_
  have lp1_1 : ∀ (μ : Nat) (s : Nat), k - s < μ → (s ≤ k) → TT am_b89 (am_b89.getD 1 []) [(0, vR 31), (1, vI (((x : Nat) : Int))), (2, vI (cMo σ s x)), (3, vI (((s : Nat) : Int)))] [] σ (fun r σ' => r = some (vI (cMo σ k x)) ∧ σ' = σ) := by
    intro μ
    induction μ with
    | zero => intro s hμ; exact absurd hμ (Nat.not_lt_zero _)
    | succ μ ih1 =>
      intro s hμ hs
      refine tt_ar rfl ?_
      refine tt_ar rfl ?_
      refine tt_getR (wo_31 hW) rfl (wr_31_0 hW) ?_
      refine tt_getI (x := ((k : Nat) : Int)) (wo_5 hW) rfl hD.1 ?_
      refine tt_icge (fun h1_4 => ?_) (fun h1_4 => ?_)
      · refine tt_ar rfl ?_
        refine tt_iret ?_
        have e : s = k := by omega
        subst e
        exact ⟨rfl, rfl⟩
      · refine tt_ar rfl ?_
        refine tt_ar rfl ?_
        refine tt_getR (wo_31 hW) rfl (wr_31_0 hW) ?_
        refine tt_getR (wo_5 hW) rfl (wr_5_3 hW) ?_
        refine tt_ar rfl ?_
        refine tt_ar rfl ?_
        refine tt_imul (by omega) (by omega) ?_
        refine tt_ar rfl ?_
        refine tt_iadd (by omega) (by omega) ?_
        refine tt_iald (((s * 8) + x)) (x := σ.1 8 (((s * 8) + x))) (wa_8 hW) (by omega) (by omega) rfl ?_
        have hb8 := hD.2.2.1 (((s * 8) + x)) (by omega)
        refine tt_max (z := (if cMo σ s x < σ.1 8 (((s * 8) + x)) then σ.1 8 (((s * 8) + x)) else cMo σ s x)) rfl rfl ?_
        refine tt_ar rfl ?_
        refine tt_iinc (y := ((s + 1 : Nat) : Int)) rfl (iinc_fit (by omega) (by omega) (by omega)) ?_
        refine tt_goto ?_
        refine tt_loc [(0, vR 31), (1, vI (((x : Nat) : Int))), (2, vI (cMo σ (s + 1) x)), (3, vI (((s + 1 : Nat) : Int)))] rfl rfl ⟨rfl, rfl, lv_to rfl rfl, rfl, trivial⟩ ?_
        exact ih1 (s + 1) (by omega) (by omega)
  refine tt_loc [(0, vR 31), (1, vI (((x : Nat) : Int))), (2, vI (cMo σ 0 x)), (3, vI (((0 : Nat) : Int)))] rfl rfl ⟨rfl, rfl, lv_to rfl rfl, lv_to rfl (by omega), trivial⟩ ?_
  exact lp1_1 _ (0) (Nat.lt_succ_self _) (by omega)

theorem c88 (σ : am_S) (k n nm : Nat) (hW : Wd σ) (hD : LD k σ) (hL : LN nm σ) (hH : HB n σ) (m : Nat) (hm : m < 12) : CC 88 [vR 31, vI (((m : Nat) : Int))] σ (fun r σ' => r = some (vI ((cPb σ k m 8).getD (-9))) ∧ σ' = σ) := by
  show TT am_b88 (am_b88.getD 0 []) [(0, vR 31), (1, vI (((m : Nat) : Int)))] [] σ _
  have hk6 := hD.2.1
  have hn1 := hH.2.1
  have hn462 := hH.2.2.1
  have hnm12 := hL.2.1
  refine tt_ar rfl ?_
  refine tt_ar rfl ?_
  refine tt_ar rfl ?_
  refine tt_ar rfl ?_
  refine tt_nop ?_
  have lp1_1 : ∀ (μ : Nat) (x : Nat) (b : Int), 8 - x < μ → (x ≤ 8) → (cPb σ k m x = some b) → TT am_b88 (am_b88.getD 1 []) [(0, vR 31), (1, vI (((m : Nat) : Int))), (2, vI (b)), (3, vI (((x : Nat) : Int)))] [] σ (fun r σ' => r = some (vI ((cPb σ k m 8).getD (-9))) ∧ σ' = σ) := by
    intro μ
    induction μ with
    | zero => intro x b hμ; exact absurd hμ (Nat.not_lt_zero _)
    | succ μ ih1 =>
      intro x b hμ hx hC
      refine tt_ar rfl ?_
      refine tt_ar rfl ?_
      refine tt_icge (fun h1_2 => ?_) (fun h1_2 => ?_)
      · refine tt_ar rfl ?_
        refine tt_iret ?_
        have e : 8 = x := by omega
        subst e
        exact ⟨rv (by rw [hC]; rfl), rfl⟩
      · refine tt_ar rfl ?_
        refine tt_getR (wo_31 hW) rfl (wr_31_2 hW) ?_
        refine tt_getR (wo_27 hW) rfl (wr_27_3 hW) ?_
        refine tt_ar rfl ?_
        refine tt_ar rfl ?_
        refine tt_imul (by omega) (by omega) ?_
        refine tt_ar rfl ?_
        refine tt_iadd (by omega) (by omega) ?_
        refine tt_iald (((m * 8) + x)) (x := σ.1 30 (((m * 8) + x))) (wa_30 hW) (by omega) (by omega) rfl ?_
        have hb30 := hL.2.2.2 (((m * 8) + x)) (by omega)
        refine tt_ar rfl ?_
        refine tt_getR (wo_31 hW) rfl (wr_31_2 hW) ?_
        refine tt_getR (wo_27 hW) rfl (wr_27_2 hW) ?_
        refine tt_ar rfl ?_
        refine tt_iald (m) (x := σ.1 29 (m)) (wa_29 hW) rfl (by omega) rfl ?_
        have hb29 := hL.2.2.1 (m) (by omega)
        refine tt_isub (by omega) (by omega) ?_
        refine tt_ar rfl ?_
        refine tt_ar rfl ?_
        refine tt_ar rfl ?_
        refine tt_cv2 2 rfl (wo_31 hW) (c89 σ k n nm hW hD hL hH x (by omega)) (kp ?_)
        have hmo : 0 ≤ cMo σ k x ∧ cMo σ k x ≤ 9 := maxN_bd (by omega) (fun i hi => (hD.2.2.1 _ (by omega)).2.2)
        refine tt_ar rfl ?_
        refine tt_ar rfl ?_
        refine tt_ifle (fun h1_24 => ?_) (fun h1_24 => ?_)
        · refine tt_ar rfl ?_
          refine tt_ifle (fun h2_1 => ?_) (fun h2_1 => ?_)
          · refine tt_iinc (y := ((x + 1 : Nat) : Int)) rfl (iinc_fit (by omega) (by omega) (by omega)) ?_
            refine tt_goto ?_
            refine tt_loc [(0, vR 31), (1, vI (((m : Nat) : Int))), (2, vI (b)), (3, vI (((x + 1 : Nat) : Int)))] rfl rfl ⟨rfl, rfl, rfl, rfl, trivial⟩ ?_
            exact ih1 (x + 1) (b) (by omega) (by omega) (by first | (exfalso; omega) | (unfold cPb pbN; rw [show pbN (fun x => σ.1 30 (m * 8 + x) - σ.1 29 m) (cMo σ k) x = some b from hC]; dsimp only; first | (rw [if_neg (by omega)]) | (rw [if_pos (by omega), if_neg (by omega)])))
          · refine tt_ar rfl ?_
            refine tt_ar rfl ?_
            refine tt_ar rfl ?_
            refine tt_iadd (by omega) (by omega) ?_
            refine tt_ar rfl ?_
            refine tt_isub (by omega) (by omega) ?_
            refine tt_ar rfl ?_
            refine tt_dI (g := (fun a b => w32 (Int.tdiv a b))) (z := w32 (Int.tdiv ((((σ.1 30 (((m * 8) + x)) - σ.1 29 (m)) + cMo σ k x) - 1)) (cMo σ k x))) rfl (by omega) rfl ?_
            refine tt_max (z := (if b < w32 (Int.tdiv ((((σ.1 30 (((m * 8) + x)) - σ.1 29 (m)) + cMo σ k x) - 1)) (cMo σ k x)) then w32 (Int.tdiv ((((σ.1 30 (((m * 8) + x)) - σ.1 29 (m)) + cMo σ k x) - 1)) (cMo σ k x)) else b)) rfl rfl ?_
            refine tt_ar rfl ?_
            refine tt_nop ?_
            refine tt_iinc (y := ((x + 1 : Nat) : Int)) rfl (iinc_fit (by omega) (by omega) (by omega)) ?_
            refine tt_goto ?_
            refine tt_loc [(0, vR 31), (1, vI (((m : Nat) : Int))), (2, vI (((if b < w32 (Int.tdiv (σ.1 30 (m * 8 + x) - σ.1 29 m + cMo σ k x - 1) (cMo σ k x)) then w32 (Int.tdiv (σ.1 30 (m * 8 + x) - σ.1 29 m + cMo σ k x - 1) (cMo σ k x)) else b)))), (3, vI (((x + 1 : Nat) : Int)))] rfl rfl ⟨rfl, rfl, lv_to rfl rfl, rfl, trivial⟩ ?_
            exact ih1 (x + 1) ((if b < w32 (Int.tdiv (σ.1 30 (m * 8 + x) - σ.1 29 m + cMo σ k x - 1) (cMo σ k x)) then w32 (Int.tdiv (σ.1 30 (m * 8 + x) - σ.1 29 m + cMo σ k x - 1) (cMo σ k x)) else b)) (by omega) (by omega) (by first | (exfalso; omega) | (unfold cPb pbN; rw [show pbN (fun x => σ.1 30 (m * 8 + x) - σ.1 29 m) (cMo σ k) x = some b from hC]; dsimp only; first | (rw [if_neg (by omega)]) | (rw [if_pos (by omega), if_neg (by omega)])))
        · refine tt_ar rfl ?_
          refine tt_ifgt (fun h1_26 => ?_) (fun h1_26 => ?_)
          · refine tt_ar rfl ?_
            refine tt_ifle (fun h2_1 => ?_) (fun h2_1 => ?_)
            · refine tt_iinc (y := ((x + 1 : Nat) : Int)) rfl (iinc_fit (by omega) (by omega) (by omega)) ?_
              refine tt_goto ?_
              refine tt_loc [(0, vR 31), (1, vI (((m : Nat) : Int))), (2, vI (b)), (3, vI (((x + 1 : Nat) : Int)))] rfl rfl ⟨rfl, rfl, rfl, rfl, trivial⟩ ?_
              exact ih1 (x + 1) (b) (by omega) (by omega) (by first | (exfalso; omega) | (unfold cPb pbN; rw [show pbN (fun x => σ.1 30 (m * 8 + x) - σ.1 29 m) (cMo σ k) x = some b from hC]; dsimp only; first | (rw [if_neg (by omega)]) | (rw [if_pos (by omega), if_neg (by omega)])))
            · refine tt_ar rfl ?_
              refine tt_ar rfl ?_
              refine tt_ar rfl ?_
              refine tt_iadd (by omega) (by omega) ?_
              refine tt_ar rfl ?_
              refine tt_isub (by omega) (by omega) ?_
              refine tt_ar rfl ?_
              refine tt_dI (g := (fun a b => w32 (Int.tdiv a b))) (z := w32 (Int.tdiv ((((σ.1 30 (((m * 8) + x)) - σ.1 29 (m)) + cMo σ k x) - 1)) (cMo σ k x))) rfl (by omega) rfl ?_
              refine tt_max (z := (if b < w32 (Int.tdiv ((((σ.1 30 (((m * 8) + x)) - σ.1 29 (m)) + cMo σ k x) - 1)) (cMo σ k x)) then w32 (Int.tdiv ((((σ.1 30 (((m * 8) + x)) - σ.1 29 (m)) + cMo σ k x) - 1)) (cMo σ k x)) else b)) rfl rfl ?_
              refine tt_ar rfl ?_
              refine tt_nop ?_
              refine tt_iinc (y := ((x + 1 : Nat) : Int)) rfl (iinc_fit (by omega) (by omega) (by omega)) ?_
              refine tt_goto ?_
              refine tt_loc [(0, vR 31), (1, vI (((m : Nat) : Int))), (2, vI (((if b < w32 (Int.tdiv (σ.1 30 (m * 8 + x) - σ.1 29 m + cMo σ k x - 1) (cMo σ k x)) then w32 (Int.tdiv (σ.1 30 (m * 8 + x) - σ.1 29 m + cMo σ k x - 1) (cMo σ k x)) else b)))), (3, vI (((x + 1 : Nat) : Int)))] rfl rfl ⟨rfl, rfl, lv_to rfl rfl, rfl, trivial⟩ ?_
              exact ih1 (x + 1) ((if b < w32 (Int.tdiv (σ.1 30 (m * 8 + x) - σ.1 29 m + cMo σ k x - 1) (cMo σ k x)) then w32 (Int.tdiv (σ.1 30 (m * 8 + x) - σ.1 29 m + cMo σ k x - 1) (cMo σ k x)) else b)) (by omega) (by omega) (by first | (exfalso; omega) | (unfold cPb pbN; rw [show pbN (fun x => σ.1 30 (m * 8 + x) - σ.1 29 m) (cMo σ k) x = some b from hC]; dsimp only; first | (rw [if_neg (by omega)]) | (rw [if_pos (by omega), if_neg (by omega)])))
          · refine tt_ar rfl ?_
            refine tt_iret ?_
            have hn : cPb σ k m (x + 1) = none := by
              unfold cPb pbN
              rw [show pbN (fun x => σ.1 30 (m * 8 + x) - σ.1 29 m) (cMo σ k) x = some b from hC]
              dsimp only
              rw [if_pos (by omega), if_pos (by omega)]
            have hn8 : cPb σ k m 8 = none := by
              have := pbN_none hn (8 - (x + 1))
              rwa [show x + 1 + (8 - (x + 1)) = 8 by omega] at this
            exact ⟨rv (by rw [hn8]; rfl), rfl⟩
  refine tt_loc [(0, vR 31), (1, vI (((m : Nat) : Int))), (2, vI (0)), (3, vI (((0 : Nat) : Int)))] rfl rfl ⟨rfl, rfl, rfl, lv_to rfl (by omega), trivial⟩ ?_
  exact lp1_1 _ (0) (0) (Nat.lt_succ_self _) (by omega) rfl

theorem cDb1_bd {σ : am_S} {n nm h m x : Nat} (hL : LN nm σ) (hH : HB n σ) (hh : h < n) (hm : m < 12) (hx : x < 8) : 0 ≤ cDb1 σ h m x ∧ cDb1 σ h m x ≤ 90 := by
  have h1 := hL.2.2.2 (m * 8 + x) (by omega)
  have h2 := hH.2.2.2.1 (h * 8 + x) (by omega)
  unfold cDb1 dbT
  have h3 := dm_bd ((if isIn (σ.1 5 4) (σ.1 28 m) (x : Int) then 0 else σ.1 25 (h * 8 + x)) - σ.1 30 (m * 8 + x))
  have h4 := dm_bd (σ.1 30 (m * 8 + x) - σ.1 26 (h * 8 + x))
  by_cases hc : isIn (σ.1 5 4) (σ.1 28 m) (x : Int)
  · rw [if_pos hc] at h3 ⊢; omega
  · rw [if_neg hc] at h3 ⊢; omega
theorem cDb_row {σ : am_S} {n nm h m : Nat} (hL : LN nm σ) (hH : HB n σ) (hh : h < n) (hm : m < 12) {x : Nat} (hx : x ≤ 8) : 0 ≤ sumN x (cDb1 σ h m) ∧ sumN x (cDb1 σ h m) ≤ 720 := by
  have := sumN_bd (f := cDb1 σ h m) (a := 0) (b := 90) (n := x) (fun i hi => cDb1_bd hL hH hh hm (by omega))
  omega
theorem cDb_bd {σ : am_S} {n nm h : Nat} (hL : LN nm σ) (hH : HB n σ) (hh : h < n) {m : Nat} (hm : m ≤ 12) : 0 ≤ cDb σ m h ∧ cDb σ m h ≤ 8640 := by
  have := sumN_bd (f := fun m => sumN 8 (cDb1 σ h m)) (a := 0) (b := 720) (n := m) (fun i hi => cDb_row hL hH hh (by omega) (Nat.le_refl _))
  unfold cDb
  omega
theorem c153 (σ : am_S) (k n nm : Nat) (hW : Wd σ) (hD : LD k σ) (hL : LN nm σ) (hH : HB n σ) (h : Nat) (hh : h < n) : CC 153 [vR 31, vI (((h : Nat) : Int))] σ (fun r σ' => r = some (vI (cDb σ nm h)) ∧ σ' = σ) := by
  show TT am_b153 (am_b153.getD 0 []) [(0, vR 31), (1, vI (((h : Nat) : Int)))] [] σ _
  have hk6 := hD.2.1
  have hn1 := hH.2.1
  have hn462 := hH.2.2.1
  have hnm12 := hL.2.1
  refine tt_ar rfl ?_
  refine tt_ar rfl ?_
  refine tt_ar rfl ?_
  refine tt_ar rfl ?_
  refine tt_nop ?_
  have lp1_1 : ∀ (μ : Nat) (m : Nat), nm - m < μ → (m ≤ nm) → TT am_b153 (am_b153.getD 1 []) [(0, vR 31), (1, vI (((h : Nat) : Int))), (2, vI (cDb σ m h)), (3, vI (((m : Nat) : Int)))] [] σ (fun r σ' => r = some (vI (cDb σ nm h)) ∧ σ' = σ) := by
    intro μ
    induction μ with
    | zero => intro m hμ; exact absurd hμ (Nat.not_lt_zero _)
    | succ μ ih1 =>
      intro m hμ hm
      have hbd := cDb_bd hL hH hh (m := m) (by omega)
      refine tt_ar rfl ?_
      refine tt_ar rfl ?_
      refine tt_getR (wo_31 hW) rfl (wr_31_2 hW) ?_
      refine tt_getI (x := ((nm : Nat) : Int)) (wo_27 hW) rfl hL.1 ?_
      refine tt_icge (fun h1_4 => ?_) (fun h1_4 => ?_)
      · refine tt_ar rfl ?_
        refine tt_iret ?_
        have e : nm = m := by omega
        subst e
        exact ⟨rfl, rfl⟩
      · refine tt_ar rfl ?_
        refine tt_ar rfl ?_
        refine tt_nop ?_
        have lp2_2 : ∀ (μ : Nat) (x : Nat), 8 - x < μ → (x ≤ 8) → TT am_b153 (am_b153.getD 2 []) [(0, vR 31), (1, vI (((h : Nat) : Int))), (2, vI (cDb σ m h + sumN x (cDb1 σ h m))), (3, vI (((m : Nat) : Int))), (4, vI (((x : Nat) : Int)))] [] σ (fun r σ' => r = some (vI (cDb σ nm h)) ∧ σ' = σ) := by
          intro μ
          induction μ with
          | zero => intro x hμ; exact absurd hμ (Nat.not_lt_zero _)
          | succ μ ih2 =>
            intro x hμ hx
            have hbr := cDb_row hL hH hh (show m < 12 by omega) hx
            refine tt_ar rfl ?_
            refine tt_ar rfl ?_
            refine tt_icge (fun h2_2 => ?_) (fun h2_2 => ?_)
            · refine tt_iinc (y := ((m + 1 : Nat) : Int)) rfl (iinc_fit (by omega) (by omega) (by omega)) ?_
              refine tt_goto ?_
              refine tt_loc [(0, vR 31), (1, vI (((h : Nat) : Int))), (2, vI (cDb σ (m + 1) h)), (3, vI (((m + 1 : Nat) : Int)))] rfl rfl ⟨rfl, rfl, lv_to rfl (by rw [show x = 8 by omega]; rfl), rfl, trivial⟩ ?_
              exact ih1 (m + 1) (by omega) (by omega)
            · have hb25 := hH.2.2.2.1 (h * 8 + x) (by omega)
              have hlb : 0 ≤ (if isIn (σ.1 5 4) (σ.1 28 m) (x : Int) then 0 else σ.1 25 (h * 8 + x)) ∧ (if isIn (σ.1 5 4) (σ.1 28 m) (x : Int) then 0 else σ.1 25 (h * 8 + x)) ≤ 45 := by split <;> omega
              have hd1 := dm_bd ((if isIn (σ.1 5 4) (σ.1 28 m) (x : Int) then 0 else σ.1 25 (h * 8 + x)) - σ.1 30 (m * 8 + x))
              have hd2 := dm_bd (σ.1 30 (m * 8 + x) - σ.1 26 (h * 8 + x))
              generalize hgl : (if isIn (σ.1 5 4) (σ.1 28 m) (x : Int) then 0 else σ.1 25 (h * 8 + x)) = lst at hlb hd1
              refine tt_ar rfl ?_
              refine tt_getR (wo_31 hW) rfl (wr_31_2 hW) ?_
              refine tt_getR (wo_27 hW) rfl (wr_27_3 hW) ?_
              refine tt_ar rfl ?_
              refine tt_ar rfl ?_
              refine tt_imul (by omega) (by omega) ?_
              refine tt_ar rfl ?_
              refine tt_iadd (by omega) (by omega) ?_
              refine tt_iald (((m * 8) + x)) (x := σ.1 30 (((m * 8) + x))) (wa_30 hW) (by omega) (by omega) rfl ?_
              have hb30 := hL.2.2.2 (((m * 8) + x)) (by omega)
              refine tt_ar rfl ?_
              refine tt_ar rfl ?_
              refine tt_ar rfl ?_
              refine tt_ar rfl ?_
              refine tt_getR (wo_31 hW) rfl (wr_31_1 hW) ?_
              refine tt_ar rfl ?_
              refine tt_ar rfl ?_
              refine tt_getR (wo_31 hW) rfl (wr_31_2 hW) ?_
              refine tt_getR (wo_27 hW) rfl (wr_27_1 hW) ?_
              refine tt_ar rfl ?_
              refine tt_iald (m) (x := σ.1 28 (m)) (wa_28 hW) rfl (by omega) rfl ?_
              have hb28 := hL.2.2.1 (m) (by omega)
              refine tt_ar rfl ?_
              refine tt_cv4 4 rfl (wo_18 hW) (hgl ▸ c71 σ h x _ hW (by omega) (by omega)) (kp ?_)
              refine tt_ar rfl ?_
              refine tt_isub (by omega) (by omega) ?_
              refine tt_max (z := (dm ((lst - σ.1 30 (((m * 8) + x)))))) rfl rfl ?_
              refine tt_iadd (by omega) (by omega) ?_
              refine tt_ar rfl ?_
              refine tt_ar rfl ?_
              refine tt_ar rfl ?_
              refine tt_ar rfl ?_
              refine tt_ar rfl ?_
              refine tt_getR (wo_31 hW) rfl (wr_31_1 hW) ?_
              refine tt_getR (wo_18 hW) rfl (wr_18_9 hW) ?_
              refine tt_ar rfl ?_
              refine tt_ar rfl ?_
              refine tt_imul (by omega) (by omega) ?_
              refine tt_ar rfl ?_
              refine tt_iadd (by omega) (by omega) ?_
              refine tt_iald (((h * 8) + x)) (x := σ.1 26 (((h * 8) + x))) (wa_26 hW) (by omega) (by omega) rfl ?_
              have hb26 := hH.2.2.2.1 (((h * 8) + x)) (by omega)
              refine tt_isub (by omega) (by omega) ?_
              refine tt_max (z := (dm ((σ.1 30 (((m * 8) + x)) - σ.1 26 (((h * 8) + x)))))) rfl rfl ?_
              refine tt_iadd (by omega) (by omega) ?_
              refine tt_ar rfl ?_
              refine tt_iinc (y := ((x + 1 : Nat) : Int)) rfl (iinc_fit (by omega) (by omega) (by omega)) ?_
              refine tt_goto ?_
              refine tt_loc [(0, vR 31), (1, vI (((h : Nat) : Int))), (2, vI (cDb σ m h + sumN (x + 1) (cDb1 σ h m))), (3, vI (((m : Nat) : Int))), (4, vI (((x + 1 : Nat) : Int)))] rfl rfl ⟨rfl, rfl, lv_to rfl (by show _ = cDb σ m h + (sumN x (cDb1 σ h m) + cDb1 σ h m x); unfold cDb1 dbT; rw [hgl]; omega), rfl, rfl, trivial⟩ ?_
              exact ih2 (x + 1) (by omega) (by omega)
        refine tt_loc [(0, vR 31), (1, vI (((h : Nat) : Int))), (2, vI (cDb σ m h + sumN 0 (cDb1 σ h m))), (3, vI (((m : Nat) : Int))), (4, vI (((0 : Nat) : Int)))] rfl rfl ⟨rfl, rfl, lv_to rfl (Int.add_zero _).symm, rfl, lv_to rfl (by omega), trivial⟩ ?_
        exact lp2_2 _ (0) (Nat.lt_succ_self _) (by omega)
  refine tt_loc [(0, vR 31), (1, vI (((h : Nat) : Int))), (2, vI (cDb σ 0 h)), (3, vI (((0 : Nat) : Int)))] rfl rfl ⟨rfl, rfl, lv_to rfl rfl, lv_to rfl (by omega), trivial⟩ ?_
  exact lp1_1 _ (0) (Nat.lt_succ_self _) (by omega)

theorem c155 (σ : am_S) (k n nm : Nat) (hW : Wd σ) (hD : LD k σ) (hL : LN nm σ) (hH : HB n σ) : CC 155 [vR 31] σ (fun r σ' => r = some (vI (((ldN (cDb σ nm) (σ.1 20) (n - 1)).1 : Nat) : Int)) ∧ σ' = σ) := by
  show TT am_b155 (am_b155.getD 0 []) [(0, vR 31)] [] σ _
  have hk6 := hD.2.1
  have hn1 := hH.2.1
  have hn462 := hH.2.2.1
  have hnm12 := hL.2.1
  refine tt_ar rfl ?_
  refine tt_ar rfl ?_
  refine tt_ar rfl ?_
  refine tt_ar rfl ?_
  refine tt_cv2 2 rfl (wo_31 hW) (c153 σ k n nm hW hD hL hH 0 (by omega)) (kp ?_)
  refine tt_ar rfl ?_
  refine tt_ar rfl ?_
  refine tt_ar rfl ?_
  refine tt_nop ?_
  have lp1_1 : ∀ (μ : Nat) (h : Nat), n - h < μ → (h + 1 ≤ n) → TT am_b155 (am_b155.getD 1 []) [(0, vR 31), (1, vI ((((ldN (cDb σ nm) (σ.1 20) h).1 : Nat) : Int))), (2, vI ((ldN (cDb σ nm) (σ.1 20) h).2)), (3, vI (((h + 1 : Nat) : Int)))] [] σ (fun r σ' => r = some (vI (((ldN (cDb σ nm) (σ.1 20) (n - 1)).1 : Nat) : Int)) ∧ σ' = σ) := by
    intro μ
    induction μ with
    | zero => intro h hμ; exact absurd hμ (Nat.not_lt_zero _)
    | succ μ ih1 =>
      intro h hμ hh
      have hld := ldN_bd (db := cDb σ nm) (all := σ.1 20) h
      refine tt_ar rfl ?_
      refine tt_ar rfl ?_
      refine tt_getR (wo_31 hW) rfl (wr_31_1 hW) ?_
      refine tt_getI (x := ((n : Nat) : Int)) (wo_18 hW) rfl hH.1 ?_
      refine tt_icge (fun h1_4 => ?_) (fun h1_4 => ?_)
      · refine tt_ar rfl ?_
        refine tt_iret ?_
        have e : n - 1 = h := by omega
        rw [e]
        exact ⟨rfl, rfl⟩
      · refine tt_ar rfl ?_
        refine tt_ar rfl ?_
        refine tt_cv2 2 rfl (wo_31 hW) (c153 σ k n nm hW hD hL hH (h + 1) (by omega)) (kp ?_)
        refine tt_ar rfl ?_
        refine tt_ar rfl ?_
        refine tt_ar rfl ?_
        refine tt_iclt (fun h1_11 => ?_) (fun h1_11 => ?_)
        · refine tt_ar rfl ?_
          refine tt_ar rfl ?_
          refine tt_ar rfl ?_
          refine tt_ar rfl ?_
          refine tt_nop ?_
          refine tt_iinc (y := (((h + 1) + 1 : Nat) : Int)) rfl (iinc_fit (by omega) (by omega) (by omega)) ?_
          refine tt_goto ?_
          refine tt_loc [(0, vR 31), (1, vI ((((ldN (cDb σ nm) (σ.1 20) (h + 1)).1 : Nat) : Int))), (2, vI ((ldN (cDb σ nm) (σ.1 20) (h + 1)).2)), (3, vI ((((h + 1) + 1 : Nat) : Int)))] rfl rfl ⟨rfl, lv_to rfl (by conv => { rhs; unfold ldN }; first | (rw [if_pos (by omega)]) | (rw [if_neg (by omega)])), lv_to rfl (by conv => { rhs; unfold ldN }; first | (rw [if_pos (by omega)]) | (rw [if_neg (by omega)])), rfl, trivial⟩ ?_
          exact ih1 (h + 1) (by omega) (by omega)
        · refine tt_ar rfl ?_
          refine tt_ar rfl ?_
          refine tt_icne (fun h1_14 => ?_) (fun h1_14 => ?_)
          · refine tt_iinc (y := (((h + 1) + 1 : Nat) : Int)) rfl (iinc_fit (by omega) (by omega) (by omega)) ?_
            refine tt_goto ?_
            refine tt_loc [(0, vR 31), (1, vI ((((ldN (cDb σ nm) (σ.1 20) (h + 1)).1 : Nat) : Int))), (2, vI ((ldN (cDb σ nm) (σ.1 20) (h + 1)).2)), (3, vI ((((h + 1) + 1 : Nat) : Int)))] rfl rfl ⟨rfl, lv_to rfl (by conv => { rhs; unfold ldN }; first | (rw [if_pos (by omega)]) | (rw [if_neg (by omega)])), lv_to rfl (by conv => { rhs; unfold ldN }; first | (rw [if_pos (by omega)]) | (rw [if_neg (by omega)])), rfl, trivial⟩ ?_
            exact ih1 (h + 1) (by omega) (by omega)
          · refine tt_ar rfl ?_
            refine tt_getR (wo_31 hW) rfl (wr_31_1 hW) ?_
            refine tt_getR (wo_18 hW) rfl (wr_18_3 hW) ?_
            refine tt_ar rfl ?_
            refine tt_iald ((h + 1)) (x := σ.1 20 ((h + 1))) (wa_20 hW) (by omega) (by omega) rfl ?_
            have hb20 := hH.2.2.2.2.2.1 ((h + 1)) (by omega)
            refine tt_ar rfl ?_
            refine tt_getR (wo_31 hW) rfl (wr_31_1 hW) ?_
            refine tt_getR (wo_18 hW) rfl (wr_18_3 hW) ?_
            refine tt_ar rfl ?_
            refine tt_iald ((ldN (cDb σ nm) (σ.1 20) h).1) (x := σ.1 20 ((ldN (cDb σ nm) (σ.1 20) h).1)) (wa_20 hW) rfl (by omega) rfl ?_
            have hb20 := hH.2.2.2.2.2.1 ((ldN (cDb σ nm) (σ.1 20) h).1) (by omega)
            refine tt_icge (fun h1_25 => ?_) (fun h1_25 => ?_)
            · refine tt_iinc (y := (((h + 1) + 1 : Nat) : Int)) rfl (iinc_fit (by omega) (by omega) (by omega)) ?_
              refine tt_goto ?_
              refine tt_loc [(0, vR 31), (1, vI ((((ldN (cDb σ nm) (σ.1 20) (h + 1)).1 : Nat) : Int))), (2, vI ((ldN (cDb σ nm) (σ.1 20) (h + 1)).2)), (3, vI ((((h + 1) + 1 : Nat) : Int)))] rfl rfl ⟨rfl, lv_to rfl (by conv => { rhs; unfold ldN }; first | (rw [if_pos (by omega)]) | (rw [if_neg (by omega)])), lv_to rfl (by conv => { rhs; unfold ldN }; first | (rw [if_pos (by omega)]) | (rw [if_neg (by omega)])), rfl, trivial⟩ ?_
              exact ih1 (h + 1) (by omega) (by omega)
            · refine tt_nop ?_
              refine tt_ar rfl ?_
              refine tt_ar rfl ?_
              refine tt_ar rfl ?_
              refine tt_ar rfl ?_
              refine tt_nop ?_
              refine tt_iinc (y := (((h + 1) + 1 : Nat) : Int)) rfl (iinc_fit (by omega) (by omega) (by omega)) ?_
              refine tt_goto ?_
              refine tt_loc [(0, vR 31), (1, vI ((((ldN (cDb σ nm) (σ.1 20) (h + 1)).1 : Nat) : Int))), (2, vI ((ldN (cDb σ nm) (σ.1 20) (h + 1)).2)), (3, vI ((((h + 1) + 1 : Nat) : Int)))] rfl rfl ⟨rfl, lv_to rfl (by conv => { rhs; unfold ldN }; first | (rw [if_pos (by omega)]) | (rw [if_neg (by omega)])), lv_to rfl (by conv => { rhs; unfold ldN }; first | (rw [if_pos (by omega)]) | (rw [if_neg (by omega)])), rfl, trivial⟩ ?_
              exact ih1 (h + 1) (by omega) (by omega)
  refine tt_loc [(0, vR 31), (1, vI ((((ldN (cDb σ nm) (σ.1 20) 0).1 : Nat) : Int))), (2, vI ((ldN (cDb σ nm) (σ.1 20) 0).2)), (3, vI (((0 + 1 : Nat) : Int)))] rfl rfl ⟨rfl, lv_to rfl rfl, lv_to rfl rfl, lv_to rfl (by omega), trivial⟩ ?_
  exact lp1_1 _ (0) (Nat.lt_succ_self _) (by omega)
end
