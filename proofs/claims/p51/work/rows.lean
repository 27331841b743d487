section
-- ===== PART A: goes FIRST, ahead of the names: the tables' words, and 'selects' of the private methods out of them =====
/-- a private method of a class that the tables say can be made, by its rows of tables_1 -/
def lw_okq (q : MethodName × Nat) : Prop := (q.1.cls ≠ "java/lang/invoke/MethodHandle" ∧ q.1.cls ≠ "java/lang/invoke/VarHandle") ∧ Cond.instantiable q.1.cls q.2 ∈ tables_1 ∧ Cond.privateMethod q.1 ∈ tables_1 ∧ Cond.instanceMethod q.1 ∈ tables_1
theorem lw_p0 : lw_okq (⟨"WashLine$Houses", "list", "()V"⟩, 10) := ⟨⟨by decide +kernel, by decide +kernel⟩, List.mem_of_getElem? (i := 113) (by decide +kernel), List.mem_of_getElem? (i := 123) (by decide +kernel), List.mem_of_getElem? (i := 124) (by decide +kernel)⟩
theorem lw_p1 : lw_okq (⟨"WashLine$Houses", "follow", "(II)Z"⟩, 10) := ⟨⟨by decide +kernel, by decide +kernel⟩, List.mem_of_getElem? (i := 113) (by decide +kernel), List.mem_of_getElem? (i := 133) (by decide +kernel), List.mem_of_getElem? (i := 134) (by decide +kernel)⟩
theorem lw_p2 : lw_okq (⟨"WashLine$Houses", "hang", "(I)V"⟩, 10) := ⟨⟨by decide +kernel, by decide +kernel⟩, List.mem_of_getElem? (i := 113) (by decide +kernel), List.mem_of_getElem? (i := 146) (by decide +kernel), List.mem_of_getElem? (i := 147) (by decide +kernel)⟩
theorem lw_p3 : lw_okq (⟨"WashLine$Houses", "grown", "(II)I"⟩, 10) := ⟨⟨by decide +kernel, by decide +kernel⟩, List.mem_of_getElem? (i := 113) (by decide +kernel), List.mem_of_getElem? (i := 150) (by decide +kernel), List.mem_of_getElem? (i := 151) (by decide +kernel)⟩
theorem lw_p4 : lw_okq (⟨"WashLine", "finds", "(I)I"⟩, 16) := ⟨⟨by decide +kernel, by decide +kernel⟩, List.mem_of_getElem? (i := 15) (by decide +kernel), List.mem_of_getElem? (i := 430) (by decide +kernel), List.mem_of_getElem? (i := 431) (by decide +kernel)⟩
theorem lw_p5 : lw_okq (⟨"WashLine", "tells", "(II)I"⟩, 16) := ⟨⟨by decide +kernel, by decide +kernel⟩, List.mem_of_getElem? (i := 15) (by decide +kernel), List.mem_of_getElem? (i := 455) (by decide +kernel), List.mem_of_getElem? (i := 456) (by decide +kernel)⟩
theorem lw_p6 : lw_okq (⟨"WashLine", "isMonday", "(I)Z"⟩, 16) := ⟨⟨by decide +kernel, by decide +kernel⟩, List.mem_of_getElem? (i := 15) (by decide +kernel), List.mem_of_getElem? (i := 511) (by decide +kernel), List.mem_of_getElem? (i := 512) (by decide +kernel)⟩
theorem lw_p7 : lw_okq (⟨"WashLine$Looks", "agrees", "(II)Z"⟩, 3) := ⟨⟨by decide +kernel, by decide +kernel⟩, List.mem_of_getElem? (i := 224) (by decide +kernel), List.mem_of_getElem? (i := 519) (by decide +kernel), List.mem_of_getElem? (i := 520) (by decide +kernel)⟩
theorem lw_p8 : lw_okq (⟨"WashLine$Looks", "agreesWith", "(IIIII)Z"⟩, 3) := ⟨⟨by decide +kernel, by decide +kernel⟩, List.mem_of_getElem? (i := 224) (by decide +kernel), List.mem_of_getElem? (i := 523) (by decide +kernel), List.mem_of_getElem? (i := 524) (by decide +kernel)⟩
theorem lw_p9 : lw_okq (⟨"WashLine$Looks", "explainIll", "(II)I"⟩, 3) := ⟨⟨by decide +kernel, by decide +kernel⟩, List.mem_of_getElem? (i := 224) (by decide +kernel), List.mem_of_getElem? (i := 536) (by decide +kernel), List.mem_of_getElem? (i := 537) (by decide +kernel)⟩
theorem lw_p10 : lw_okq (⟨"WashLine$Looks", "explainGuest", "(II)I"⟩, 3) := ⟨⟨by decide +kernel, by decide +kernel⟩, List.mem_of_getElem? (i := 224) (by decide +kernel), List.mem_of_getElem? (i := 540) (by decide +kernel), List.mem_of_getElem? (i := 541) (by decide +kernel)⟩
theorem lw_p11 : lw_okq (⟨"WashLine$Looks", "mostOfAny", "(I)I"⟩, 3) := ⟨⟨by decide +kernel, by decide +kernel⟩, List.mem_of_getElem? (i := 224) (by decide +kernel), List.mem_of_getElem? (i := 577) (by decide +kernel), List.mem_of_getElem? (i := 578) (by decide +kernel)⟩
theorem lw_p12 : lw_okq (⟨"WashLine$Steps", "fromMore", "([II)V"⟩, 5) := ⟨⟨by decide +kernel, by decide +kernel⟩, List.mem_of_getElem? (i := 240) (by decide +kernel), List.mem_of_getElem? (i := 608) (by decide +kernel), List.mem_of_getElem? (i := 609) (by decide +kernel)⟩
theorem lw_p13 : lw_okq (⟨"WashLine$Steps", "leastOf", "([I[III)I"⟩, 5) := ⟨⟨by decide +kernel, by decide +kernel⟩, List.mem_of_getElem? (i := 240) (by decide +kernel), List.mem_of_getElem? (i := 612) (by decide +kernel), List.mem_of_getElem? (i := 613) (by decide +kernel)⟩
theorem lw_p14 : lw_okq (⟨"WashLine$Steps", "grow", "([I)V"⟩, 5) := ⟨⟨by decide +kernel, by decide +kernel⟩, List.mem_of_getElem? (i := 240) (by decide +kernel), List.mem_of_getElem? (i := 616) (by decide +kernel), List.mem_of_getElem? (i := 617) (by decide +kernel)⟩
theorem lw_p15 : lw_okq (⟨"WashLine$Steps", "growOne", "([II)Z"⟩, 5) := ⟨⟨by decide +kernel, by decide +kernel⟩, List.mem_of_getElem? (i := 240) (by decide +kernel), List.mem_of_getElem? (i := 620) (by decide +kernel), List.mem_of_getElem? (i := 621) (by decide +kernel)⟩
def lw_privs_1 : List (MethodName × Nat) := [(⟨"WashLine$Houses", "list", "()V"⟩, 10), (⟨"WashLine$Houses", "follow", "(II)Z"⟩, 10), (⟨"WashLine$Houses", "hang", "(I)V"⟩, 10), (⟨"WashLine$Houses", "grown", "(II)I"⟩, 10), (⟨"WashLine", "finds", "(I)I"⟩, 16), (⟨"WashLine", "tells", "(II)I"⟩, 16), (⟨"WashLine", "isMonday", "(I)Z"⟩, 16), (⟨"WashLine$Looks", "agrees", "(II)Z"⟩, 3), (⟨"WashLine$Looks", "agreesWith", "(IIIII)Z"⟩, 3), (⟨"WashLine$Looks", "explainIll", "(II)I"⟩, 3), (⟨"WashLine$Looks", "explainGuest", "(II)I"⟩, 3), (⟨"WashLine$Looks", "mostOfAny", "(I)I"⟩, 3), (⟨"WashLine$Steps", "fromMore", "([II)V"⟩, 5), (⟨"WashLine$Steps", "leastOf", "([I[III)I"⟩, 5), (⟨"WashLine$Steps", "grow", "([I)V"⟩, 5), (⟨"WashLine$Steps", "growOne", "([II)Z"⟩, 5)]
theorem lw_r1 : ∀ q ∈ lw_privs_1, lw_okq q := List.forall_mem_cons.mpr ⟨lw_p0, List.forall_mem_cons.mpr ⟨lw_p1, List.forall_mem_cons.mpr ⟨lw_p2, List.forall_mem_cons.mpr ⟨lw_p3, List.forall_mem_cons.mpr ⟨lw_p4, List.forall_mem_cons.mpr ⟨lw_p5, List.forall_mem_cons.mpr ⟨lw_p6, List.forall_mem_cons.mpr ⟨lw_p7, List.forall_mem_cons.mpr ⟨lw_p8, List.forall_mem_cons.mpr ⟨lw_p9, List.forall_mem_cons.mpr ⟨lw_p10, List.forall_mem_cons.mpr ⟨lw_p11, List.forall_mem_cons.mpr ⟨lw_p12, List.forall_mem_cons.mpr ⟨lw_p13, List.forall_mem_cons.mpr ⟨lw_p14, List.forall_mem_cons.mpr ⟨lw_p15, fun _ h => absurd h List.not_mem_nil⟩⟩⟩⟩⟩⟩⟩⟩⟩⟩⟩⟩⟩⟩⟩⟩
theorem lw_p16 : lw_okq (⟨"WashLine$Steps", "fromLess", "([II)V"⟩, 5) := ⟨⟨by decide +kernel, by decide +kernel⟩, List.mem_of_getElem? (i := 240) (by decide +kernel), List.mem_of_getElem? (i := 624) (by decide +kernel), List.mem_of_getElem? (i := 625) (by decide +kernel)⟩
theorem lw_p17 : lw_okq (⟨"WashLine$Winter", "setPrices", "(I)V"⟩, 18) := ⟨⟨by decide +kernel, by decide +kernel⟩, List.mem_of_getElem? (i := 264) (by decide +kernel), List.mem_of_getElem? (i := 640) (by decide +kernel), List.mem_of_getElem? (i := 641) (by decide +kernel)⟩
theorem lw_p18 : lw_okq (⟨"WashLine$Winter", "goAhead", "()I"⟩, 18) := ⟨⟨by decide +kernel, by decide +kernel⟩, List.mem_of_getElem? (i := 264) (by decide +kernel), List.mem_of_getElem? (i := 647) (by decide +kernel), List.mem_of_getElem? (i := 648) (by decide +kernel)⟩
theorem lw_p19 : lw_okq (⟨"WashLine$Winter", "explain", "(I)V"⟩, 18) := ⟨⟨by decide +kernel, by decide +kernel⟩, List.mem_of_getElem? (i := 264) (by decide +kernel), List.mem_of_getElem? (i := 653) (by decide +kernel), List.mem_of_getElem? (i := 654) (by decide +kernel)⟩
theorem lw_p20 : lw_okq (⟨"WashLine$Winter", "goBack", "()V"⟩, 18) := ⟨⟨by decide +kernel, by decide +kernel⟩, List.mem_of_getElem? (i := 264) (by decide +kernel), List.mem_of_getElem? (i := 665) (by decide +kernel), List.mem_of_getElem? (i := 666) (by decide +kernel)⟩
theorem lw_p21 : lw_okq (⟨"WashLine$Steps", "growBack", "([I)V"⟩, 5) := ⟨⟨by decide +kernel, by decide +kernel⟩, List.mem_of_getElem? (i := 240) (by decide +kernel), List.mem_of_getElem? (i := 673) (by decide +kernel), List.mem_of_getElem? (i := 674) (by decide +kernel)⟩
theorem lw_p22 : lw_okq (⟨"WashLine$Winter", "list", "(I)V"⟩, 18) := ⟨⟨by decide +kernel, by decide +kernel⟩, List.mem_of_getElem? (i := 264) (by decide +kernel), List.mem_of_getElem? (i := 677) (by decide +kernel), List.mem_of_getElem? (i := 678) (by decide +kernel)⟩
theorem lw_p23 : lw_okq (⟨"WashLine$Winter", "findFirst", "()V"⟩, 18) := ⟨⟨by decide +kernel, by decide +kernel⟩, List.mem_of_getElem? (i := 264) (by decide +kernel), List.mem_of_getElem? (i := 685) (by decide +kernel), List.mem_of_getElem? (i := 686) (by decide +kernel)⟩
theorem lw_p24 : lw_okq (⟨"WashLine$Winter", "follows", "(III)Z"⟩, 18) := ⟨⟨by decide +kernel, by decide +kernel⟩, List.mem_of_getElem? (i := 264) (by decide +kernel), List.mem_of_getElem? (i := 690) (by decide +kernel), List.mem_of_getElem? (i := 691) (by decide +kernel)⟩
theorem lw_p25 : lw_okq (⟨"WashLine$Winter", "countOn", "(I)V"⟩, 18) := ⟨⟨by decide +kernel, by decide +kernel⟩, List.mem_of_getElem? (i := 264) (by decide +kernel), List.mem_of_getElem? (i := 708) (by decide +kernel), List.mem_of_getElem? (i := 709) (by decide +kernel)⟩
theorem lw_p26 : lw_okq (⟨"WashLine$Winter", "countTo", "(I)V"⟩, 18) := ⟨⟨by decide +kernel, by decide +kernel⟩, List.mem_of_getElem? (i := 264) (by decide +kernel), List.mem_of_getElem? (i := 720) (by decide +kernel), List.mem_of_getElem? (i := 721) (by decide +kernel)⟩
theorem lw_p27 : lw_okq (⟨"WashLine", "isSort", "(I)Z"⟩, 16) := ⟨⟨by decide +kernel, by decide +kernel⟩, List.mem_of_getElem? (i := 15) (by decide +kernel), List.mem_of_getElem? (i := 729) (by decide +kernel), List.mem_of_getElem? (i := 730) (by decide +kernel)⟩
theorem lw_p28 : lw_okq (⟨"WashLine", "tellFraction", "(JJ)V"⟩, 16) := ⟨⟨by decide +kernel, by decide +kernel⟩, List.mem_of_getElem? (i := 15) (by decide +kernel), List.mem_of_getElem? (i := 750) (by decide +kernel), List.mem_of_getElem? (i := 751) (by decide +kernel)⟩
theorem lw_p29 : lw_okq (⟨"WashLine$Story", "comesTrue", "(I)Z"⟩, 11) := ⟨⟨by decide +kernel, by decide +kernel⟩, List.mem_of_getElem? (i := 329) (by decide +kernel), List.mem_of_getElem? (i := 788) (by decide +kernel), List.mem_of_getElem? (i := 789) (by decide +kernel)⟩
theorem lw_p30 : lw_okq (⟨"WashLine$Story", "join", "(I)Z"⟩, 11) := ⟨⟨by decide +kernel, by decide +kernel⟩, List.mem_of_getElem? (i := 329) (by decide +kernel), List.mem_of_getElem? (i := 792) (by decide +kernel), List.mem_of_getElem? (i := 793) (by decide +kernel)⟩
theorem lw_p31 : lw_okq (⟨"WashLine$Story", "everybody", "()I"⟩, 11) := ⟨⟨by decide +kernel, by decide +kernel⟩, List.mem_of_getElem? (i := 329) (by decide +kernel), List.mem_of_getElem? (i := 796) (by decide +kernel), List.mem_of_getElem? (i := 797) (by decide +kernel)⟩
def lw_privs_2 : List (MethodName × Nat) := [(⟨"WashLine$Steps", "fromLess", "([II)V"⟩, 5), (⟨"WashLine$Winter", "setPrices", "(I)V"⟩, 18), (⟨"WashLine$Winter", "goAhead", "()I"⟩, 18), (⟨"WashLine$Winter", "explain", "(I)V"⟩, 18), (⟨"WashLine$Winter", "goBack", "()V"⟩, 18), (⟨"WashLine$Steps", "growBack", "([I)V"⟩, 5), (⟨"WashLine$Winter", "list", "(I)V"⟩, 18), (⟨"WashLine$Winter", "findFirst", "()V"⟩, 18), (⟨"WashLine$Winter", "follows", "(III)Z"⟩, 18), (⟨"WashLine$Winter", "countOn", "(I)V"⟩, 18), (⟨"WashLine$Winter", "countTo", "(I)V"⟩, 18), (⟨"WashLine", "isSort", "(I)Z"⟩, 16), (⟨"WashLine", "tellFraction", "(JJ)V"⟩, 16), (⟨"WashLine$Story", "comesTrue", "(I)Z"⟩, 11), (⟨"WashLine$Story", "join", "(I)Z"⟩, 11), (⟨"WashLine$Story", "everybody", "()I"⟩, 11)]
theorem lw_r2 : ∀ q ∈ lw_privs_2, lw_okq q := List.forall_mem_cons.mpr ⟨lw_p16, List.forall_mem_cons.mpr ⟨lw_p17, List.forall_mem_cons.mpr ⟨lw_p18, List.forall_mem_cons.mpr ⟨lw_p19, List.forall_mem_cons.mpr ⟨lw_p20, List.forall_mem_cons.mpr ⟨lw_p21, List.forall_mem_cons.mpr ⟨lw_p22, List.forall_mem_cons.mpr ⟨lw_p23, List.forall_mem_cons.mpr ⟨lw_p24, List.forall_mem_cons.mpr ⟨lw_p25, List.forall_mem_cons.mpr ⟨lw_p26, List.forall_mem_cons.mpr ⟨lw_p27, List.forall_mem_cons.mpr ⟨lw_p28, List.forall_mem_cons.mpr ⟨lw_p29, List.forall_mem_cons.mpr ⟨lw_p30, List.forall_mem_cons.mpr ⟨lw_p31, fun _ h => absurd h List.not_mem_nil⟩⟩⟩⟩⟩⟩⟩⟩⟩⟩⟩⟩⟩⟩⟩⟩
theorem lw_p32 : lw_okq (⟨"WashLine$Story", "leave", "(I)Z"⟩, 11) := ⟨⟨by decide +kernel, by decide +kernel⟩, List.mem_of_getElem? (i := 329) (by decide +kernel), List.mem_of_getElem? (i := 800) (by decide +kernel), List.mem_of_getElem? (i := 801) (by decide +kernel)⟩
theorem lw_p33 : lw_okq (⟨"WashLine$Reader", "letter", "(I)Z"⟩, 3) := ⟨⟨by decide +kernel, by decide +kernel⟩, List.mem_of_getElem? (i := 77) (by decide +kernel), List.mem_of_getElem? (i := 876) (by decide +kernel), List.mem_of_getElem? (i := 877) (by decide +kernel)⟩
theorem lw_p34 : lw_okq (⟨"WashLine$Reader", "sign", "()I"⟩, 3) := ⟨⟨by decide +kernel, by decide +kernel⟩, List.mem_of_getElem? (i := 77) (by decide +kernel), List.mem_of_getElem? (i := 880) (by decide +kernel), List.mem_of_getElem? (i := 881) (by decide +kernel)⟩
theorem lw_p35 : lw_okq (⟨"WashLine$Reader", "item", "()Z"⟩, 3) := ⟨⟨by decide +kernel, by decide +kernel⟩, List.mem_of_getElem? (i := 77) (by decide +kernel), List.mem_of_getElem? (i := 885) (by decide +kernel), List.mem_of_getElem? (i := 886) (by decide +kernel)⟩
theorem lw_p36 : lw_okq (⟨"WashLine$Reader", "sort", "()Z"⟩, 3) := ⟨⟨by decide +kernel, by decide +kernel⟩, List.mem_of_getElem? (i := 77) (by decide +kernel), List.mem_of_getElem? (i := 889) (by decide +kernel), List.mem_of_getElem? (i := 890) (by decide +kernel)⟩
theorem lw_p37 : lw_okq (⟨"WashLine$Reader", "figure", "(II)I"⟩, 3) := ⟨⟨by decide +kernel, by decide +kernel⟩, List.mem_of_getElem? (i := 77) (by decide +kernel), List.mem_of_getElem? (i := 893) (by decide +kernel), List.mem_of_getElem? (i := 894) (by decide +kernel)⟩
theorem lw_p38 : lw_okq (⟨"WashLine$Reader", "wash", "()Z"⟩, 3) := ⟨⟨by decide +kernel, by decide +kernel⟩, List.mem_of_getElem? (i := 77) (by decide +kernel), List.mem_of_getElem? (i := 897) (by decide +kernel), List.mem_of_getElem? (i := 898) (by decide +kernel)⟩
theorem lw_p39 : lw_okq (⟨"WashLine$Reader", "inside", "()Z"⟩, 3) := ⟨⟨by decide +kernel, by decide +kernel⟩, List.mem_of_getElem? (i := 77) (by decide +kernel), List.mem_of_getElem? (i := 901) (by decide +kernel), List.mem_of_getElem? (i := 902) (by decide +kernel)⟩
theorem lw_p40 : lw_okq (⟨"WashLine$Reader", "costs", "()Z"⟩, 3) := ⟨⟨by decide +kernel, by decide +kernel⟩, List.mem_of_getElem? (i := 77) (by decide +kernel), List.mem_of_getElem? (i := 905) (by decide +kernel), List.mem_of_getElem? (i := 906) (by decide +kernel)⟩
def lw_privs_3 : List (MethodName × Nat) := [(⟨"WashLine$Story", "leave", "(I)Z"⟩, 11), (⟨"WashLine$Reader", "letter", "(I)Z"⟩, 3), (⟨"WashLine$Reader", "sign", "()I"⟩, 3), (⟨"WashLine$Reader", "item", "()Z"⟩, 3), (⟨"WashLine$Reader", "sort", "()Z"⟩, 3), (⟨"WashLine$Reader", "figure", "(II)I"⟩, 3), (⟨"WashLine$Reader", "wash", "()Z"⟩, 3), (⟨"WashLine$Reader", "inside", "()Z"⟩, 3), (⟨"WashLine$Reader", "costs", "()Z"⟩, 3)]
theorem lw_r3 : ∀ q ∈ lw_privs_3, lw_okq q := List.forall_mem_cons.mpr ⟨lw_p32, List.forall_mem_cons.mpr ⟨lw_p33, List.forall_mem_cons.mpr ⟨lw_p34, List.forall_mem_cons.mpr ⟨lw_p35, List.forall_mem_cons.mpr ⟨lw_p36, List.forall_mem_cons.mpr ⟨lw_p37, List.forall_mem_cons.mpr ⟨lw_p38, List.forall_mem_cons.mpr ⟨lw_p39, List.forall_mem_cons.mpr ⟨lw_p40, fun _ h => absurd h List.not_mem_nil⟩⟩⟩⟩⟩⟩⟩⟩⟩
def lw_privs : List (MethodName × Nat) := lw_privs_1 ++ (lw_privs_2 ++ (lw_privs_3))
def lw_tbl : List Cond := k2_sels lw_privs ++ tables_1
theorem lw_privs_ok : ∀ q ∈ lw_privs, lw_okq q := by
  show ∀ q ∈ lw_privs_1 ++ (lw_privs_2 ++ (lw_privs_3)), lw_okq q
  exact List.forall_mem_append.mpr ⟨lw_r1, List.forall_mem_append.mpr ⟨lw_r2, lw_r3⟩⟩
end
section
/-! THE SMALL MACHINE: ints are integers, cells are numbered from 2 on in the order of their making (0: the static table WORTHS, 1: the script) -/
abbrev am_V : Type := Int ⊕ (Int ⊕ Option Nat)
abbrev vI (x : Int) : am_V := .inl x
abbrev vL (x : Int) : am_V := .inr (.inl x)
abbrev vO (r : Option Nat) : am_V := .inr (.inr r)
abbrev vR (a : Nat) : am_V := .inr (.inr (some a))
abbrev am_Lc : Type := List (Nat × am_V)
/-- an array's kind, or an object's class; its length -/
abbrev am_Ly : Type := (FieldType ⊕ Nat) × Nat
/-- numbers in cells, references in cells, the cells' kinds, how many were made, of how many slots -/
abbrev am_S : Type := (Nat → Nat → Int) × (Nat → Nat → Option Nat) × List am_Ly × Nat × Nat
abbrev am_I : Type := Instr × List Nat × Int
def w32 (x : Int) : Int := Int.bmod x 4294967296
def w64 (x : Int) : Int := Int.bmod x 18446744073709551616
def w8 (x : Int) : Int := Int.bmod x 256
def a_and (x y : Int) : Int := (Int32.ofInt x &&& Int32.ofInt y).toInt
def a_or (x y : Int) : Int := (Int32.ofInt x ||| Int32.ofInt y).toInt
def a_shl (x y : Int) : Int := (Int32.ofInt x <<< (Int32.ofInt y &&& 31)).toInt
def a_shr (x y : Int) : Int := (Int32.ofInt x >>> (Int32.ofInt y &&& 31)).toInt
def a_cmp (x y : Int) : Int := if y < x then 1 else if x = y then 0 else -1
def am_two (v : am_V) : Bool := match v with
  | .inr (.inl _) => true
  | _ => false
def am_cat (v : am_V) : Nat := match v with
  | .inr (.inl _) => 2
  | _ => 1
def lget : am_Lc → Nat → Option am_V
  | [], _ => none
  | q :: l, i => if q.1 = i then some q.2 else lget l i
def lset1 (l : am_Lc) (i : Nat) (v : am_V) : am_Lc := (i, v) :: l.filter (fun q => !(q.1 == i) && !(q.1 + 1 == i && am_two q.2))
def lset2 (l : am_Lc) (i : Nat) (v : am_V) : am_Lc := (i, v) :: l.filter (fun q => !(q.1 == i) && (!(q.1 == i + 1) && !(q.1 + 1 == i && am_two q.2)))
def am_ldI (l : am_Lc) (k : Nat) (st : List am_V) : Option (am_Lc × List am_V) := match lget l k with
  | some (.inl x) => some (l, vI x :: st)
  | _ => none
def am_ldL (l : am_Lc) (k : Nat) (st : List am_V) : Option (am_Lc × List am_V) := match lget l k with
  | some (.inr (.inl x)) => some (l, vL x :: st)
  | _ => none
def am_ldR (l : am_Lc) (k : Nat) (st : List am_V) : Option (am_Lc × List am_V) := match lget l k with
  | some (.inr (.inr (some a))) => some (l, vR a :: st)
  | _ => none
def am_stI (l : am_Lc) (k : Nat) (st : List am_V) : Option (am_Lc × List am_V) := match st with
  | .inl x :: st' => some (lset1 l k (vI x), st')
  | _ => none
def am_stL (l : am_Lc) (k : Nat) (st : List am_V) : Option (am_Lc × List am_V) := match st with
  | .inr (.inl x) :: st' => some (lset2 l k (vL x), st')
  | _ => none
def am_stR (l : am_Lc) (k : Nat) (st : List am_V) : Option (am_Lc × List am_V) := match st with
  | .inr (.inr (some a)) :: st' => some (lset1 l k (vR a), st')
  | _ => none
def am_inc (l : am_Lc) (k : Nat) (n : Int) (st : List am_V) : Option (am_Lc × List am_V) := match lget l k with
  | some (.inl x) => some (lset1 l k (vI (w32 (x + n))), st)
  | _ => none
def am_bI (f : Int → Int → Int) (l : am_Lc) (st : List am_V) : Option (am_Lc × List am_V) := match st with
  | .inl y :: .inl x :: st' => some (l, vI (f x y) :: st')
  | _ => none
def am_dI (f : Int → Int → Int) (l : am_Lc) (st : List am_V) : Option (am_Lc × List am_V) := match st with
  | .inl y :: .inl x :: st' => if y = 0 then none else some (l, vI (f x y) :: st')
  | _ => none
def am_bL (f : Int → Int → Int) (l : am_Lc) (st : List am_V) : Option (am_Lc × List am_V) := match st with
  | .inr (.inl y) :: .inr (.inl x) :: st' => some (l, vL (f x y) :: st')
  | _ => none
def am_dL (f : Int → Int → Int) (l : am_Lc) (st : List am_V) : Option (am_Lc × List am_V) := match st with
  | .inr (.inl y) :: .inr (.inl x) :: st' => if y = 0 then none else some (l, vL (f x y) :: st')
  | _ => none
def am_cL (l : am_Lc) (st : List am_V) : Option (am_Lc × List am_V) := match st with
  | .inr (.inl y) :: .inr (.inl x) :: st' => some (l, vI (a_cmp x y) :: st')
  | _ => none
def am_uI (f : Int → am_V) (l : am_Lc) (st : List am_V) : Option (am_Lc × List am_V) := match st with
  | .inl x :: st' => some (l, f x :: st')
  | _ => none
def am_uL (f : Int → am_V) (l : am_Lc) (st : List am_V) : Option (am_Lc × List am_V) := match st with
  | .inr (.inl x) :: st' => some (l, f x :: st')
  | _ => none
def am_dup (l : am_Lc) (st : List am_V) : Option (am_Lc × List am_V) := match st with
  | v :: st' => if am_two v then none else some (l, v :: v :: st')
  | _ => none
def am_dup2 (l : am_Lc) (st : List am_V) : Option (am_Lc × List am_V) := match st with
  | v :: u :: st' => if am_two v || am_two u then none else some (l, v :: u :: v :: u :: st')
  | _ => none
def am_pop (l : am_Lc) (st : List am_V) : Option (am_Lc × List am_V) := match st with
  | v :: st' => if am_two v then none else some (l, st')
  | _ => none
/-- locals, the stack and numbers -/
def am_ar (i : Instr) (v : Int) (l : am_Lc) (st : List am_V) : Option (am_Lc × List am_V) := match i with
  | .iconst n => some (l, vI n :: st)
  | .bipush n => some (l, vI n :: st)
  | .sipush n => some (l, vI n :: st)
  | .ldc _ => some (l, vI v :: st)
  | .ldc_w _ => some (l, vI v :: st)
  | .lconst n => some (l, vL ((n : Nat) : Int) :: st)
  | .ldc2_w _ => some (l, vL v :: st)
  | .iload_n k => am_ldI l k st
  | .iload k => am_ldI l k st
  | .lload_n k => am_ldL l k st
  | .lload k => am_ldL l k st
  | .aload_n k => am_ldR l k st
  | .aload k => am_ldR l k st
  | .istore_n k => am_stI l k st
  | .istore k => am_stI l k st
  | .lstore_n k => am_stL l k st
  | .lstore k => am_stL l k st
  | .astore_n k => am_stR l k st
  | .astore k => am_stR l k st
  | .iinc k n => am_inc l k n st
  | .iadd => am_bI (fun x y => w32 (x + y)) l st
  | .isub => am_bI (fun x y => w32 (x - y)) l st
  | .imul => am_bI (fun x y => w32 (x * y)) l st
  | .iand => am_bI a_and l st
  | .ior => am_bI a_or l st
  | .ishl => am_bI a_shl l st
  | .ishr => am_bI a_shr l st
  | .idiv => am_dI (fun x y => w32 (Int.tdiv x y)) l st
  | .irem => am_dI (fun x y => Int.tmod x y) l st
  | .ladd => am_bL (fun x y => w64 (x + y)) l st
  | .lmul => am_bL (fun x y => w64 (x * y)) l st
  | .ldiv => am_dL (fun x y => w64 (Int.tdiv x y)) l st
  | .lrem => am_dL (fun x y => Int.tmod x y) l st
  | .lcmp => am_cL l st
  | .i2l => am_uI (fun x => vL x) l st
  | .l2i => am_uL (fun x => vI (w32 x)) l st
  | .i2b => am_uI (fun x => vI (w8 x)) l st
  | .dup => am_dup l st
  | .dup2 => am_dup2 l st
  | .pop => am_pop l st
  | _ => none
def am_cond (c : Jvm.ClassFile.Cond) (x y : Int) : Bool := match c with
  | .eq => decide (x = y)
  | .ne => decide (¬ x = y)
  | .lt => decide (x < y)
  | .ge => decide (y ≤ x)
  | .gt => decide (y < x)
  | .le => decide (x ≤ y)
def am_look : List (Int × Int) → List Nat → Nat → Int → Nat
  | p :: ps, t :: ts, d, x => if x = p.1 then t else am_look ps ts d x
  | _, _, d, _ => d
/-- jumps: to which block, or on -/
def am_ct (i : Instr) (ops : List Nat) (st : List am_V) : Option (Option Nat × List am_V) := match i with
  | .ifCond c _ => match st with
    | .inl x :: st' => some (if am_cond c x 0 then some (ops.headD 0) else none, st')
    | _ => none
  | .if_icmp c _ => match st with
    | .inl y :: .inl x :: st' => some (if am_cond c x y then some (ops.headD 0) else none, st')
    | _ => none
  | .goto _ => some (some (ops.headD 0), st)
  | .nop => some (some (ops.headD 0), st)
  | .tableswitch _ lo hi _ => match st with
    | .inl x :: st' => some (some (if x < lo ∨ hi < x then ops.headD 0 else ops.tail.getD (x - lo).toNat 0), st')
    | _ => none
  | .lookupswitch _ ps => match st with
    | .inl x :: st' => some (some (am_look ps.toList ops.tail (ops.headD 0) x), st')
    | _ => none
  | _ => none
/-- what a cell's place of a type holds -/
def am_gv (ty : FieldType) (a k : Nat) (σ : am_S) : am_V := match ty with
  | .long => vL (σ.1 a k)
  | .object _ => vO (σ.2.1 a k)
  | .array _ => vO (σ.2.1 a k)
  | _ => vI (σ.1 a k)
def am_set (σ : am_S) (a k : Nat) (x : Int) : am_S := (fun b j => if b = a ∧ j = k then x else σ.1 b j, σ.2)
def am_setR (σ : am_S) (a k : Nat) (r : Option Nat) : am_S := (σ.1, fun b j => if b = a ∧ j = k then r else σ.2.1 b j, σ.2.2)
/-- a value stored into a place of a type: it must be one of it -/
def am_pv (ty : FieldType) (a k : Nat) (v : am_V) (σ : am_S) : Option am_S := match ty, v with
  | .int, .inl x => some (am_set σ a k x)
  | .boolean, .inl x => if x = 0 ∨ x = 1 then some (am_set σ a k x) else none
  | .long, .inr (.inl x) => some (am_set σ a k x)
  | .object _, .inr (.inr (some b)) => some (am_setR σ a k (some b))
  | .array _, .inr (.inr (some b)) => some (am_setR σ a k (some b))
  | _, _ => none
def am_new (σ : am_S) (L : am_Ly) : am_S := (fun b j => if b = σ.2.2.1.length then 0 else σ.1 b j, fun b j => if b = σ.2.2.1.length then none else σ.2.1 b j, σ.2.2.1 ++ [L], σ.2.2.2.1 + 1, σ.2.2.2.2 + L.2)
def am_aget (t : FieldType) (st : List am_V) (σ : am_S) : Option (List am_V × am_S) := match st with
  | .inl i :: .inr (.inr (some a)) :: st' => match σ.2.2.1[a]? with
    | some (.inl t', n) => if t' = t ∧ 0 ≤ i ∧ i < (n : Int) then some (am_gv t a i.toNat σ :: st', σ) else none
    | _ => none
  | _ => none
def am_aput (t : FieldType) (f : Int → Int) (st : List am_V) (σ : am_S) : Option (List am_V × am_S) := match st with
  | .inl x :: .inl i :: .inr (.inr (some a)) :: st' => match σ.2.2.1[a]? with
    | some (.inl t', n) => if t' = t ∧ 0 ≤ i ∧ i < (n : Int) ∧ 2 ≤ a then some (st', am_set σ a i.toNat (f x)) else none
    | _ => none
  | _ => none
def am_aputL (st : List am_V) (σ : am_S) : Option (List am_V × am_S) := match st with
  | .inr (.inl x) :: .inl i :: .inr (.inr (some a)) :: st' => match σ.2.2.1[a]? with
    | some (.inl t', n) => if t' = .long ∧ 0 ≤ i ∧ i < (n : Int) ∧ 2 ≤ a then some (st', am_set σ a i.toNat x) else none
    | _ => none
  | _ => none
def am_strip : FieldType := .object "WashLine$Strip"
/-- a reference stored: of the one class of which there are such arrays (number 6) -/
def am_aputR (st : List am_V) (σ : am_S) : Option (List am_V × am_S) := match st with
  | .inr (.inr (some b)) :: .inl i :: .inr (.inr (some a)) :: st' => match σ.2.2.1[a]?, σ.2.2.1[b]? with
    | some (.inl t', n), some (.inr 6, _) => if t' = am_strip ∧ 0 ≤ i ∧ i < (n : Int) ∧ 2 ≤ a ∧ 2 ≤ b then some (st', am_setR σ a i.toNat (some b)) else none
    | _, _ => none
  | _ => none
def am_alen (st : List am_V) (σ : am_S) : Option (List am_V × am_S) := match st with
  | .inr (.inr (some a)) :: st' => match σ.2.2.1[a]? with
    | some (.inl _, n) => if (n : Int) < 1000000 then some (vI n :: st', σ) else none
    | _ => none
  | _ => none
def am_newa (t : FieldType) (st : List am_V) (σ : am_S) : Option (List am_V × am_S) := match st with
  | .inl n :: st' => if 0 ≤ n ∧ n ≤ 1000000 then some (vR σ.2.2.1.length :: st', am_new σ (.inl t, n.toNat)) else none
  | _ => none
def am_cpy (σ : am_S) (a sp b dp n : Nat) : am_S := (fun c j => if c = b ∧ dp ≤ j ∧ j < dp + n then σ.1 a (sp + (j - dp)) else σ.1 c j, σ.2)
def am_acopy (st : List am_V) (σ : am_S) : Option (List am_V × am_S) := match st with
  | .inl n :: .inl dp :: .inr (.inr (some b)) :: .inl sp :: .inr (.inr (some a)) :: st' => match σ.2.2.1[a]?, σ.2.2.1[b]? with
    | some (.inl t0, n0), some (.inl t1, n1) => if t0 = .int ∧ t1 = .int ∧ 0 ≤ n ∧ 0 ≤ dp ∧ 0 ≤ sp ∧ sp + n ≤ (n0 : Int) ∧ dp + n ≤ (n1 : Int) ∧ 2 ≤ a ∧ 2 ≤ b ∧ (st'.map am_cat).sum ≤ 8 then some (st', am_cpy σ a sp.toNat b dp.toNat n.toNat) else none
    | _, _ => none
  | _ => none
def am_newT (t : ArrayType) : FieldType := newarray.typeOf t
end
section
/-! THE TABLES: classes, fields, methods; printed by a program (wip/tools/gen_names.py) -/
def am_T0 : u_T := fun k => match k with
  | 0 => ("WashLine$Houses", "land", "LWashLine$World;", true)
  | 1 => ("WashLine$Houses", "size", "I", false)
  | 2 => ("WashLine$Houses", "number", "[I", true)
  | 3 => ("WashLine$Houses", "all", "[I", true)
  | 4 => ("WashLine$Houses", "people", "[I", true)
  | 5 => ("WashLine$Houses", "more", "[I", true)
  | 6 => ("WashLine$Houses", "less", "[I", true)
  | 7 => ("WashLine$Houses", "older", "[I", true)
  | 8 => ("WashLine$Houses", "least", "[I", true)
  | _ => ("WashLine$Houses", "most", "[I", true)
def am_ty0 : Nat → FieldType := fun k => match k with
  | 0 => .object "WashLine$World"
  | 1 => .int
  | 2 => .array .int
  | 3 => .array .int
  | 4 => .array .int
  | 5 => .array .int
  | 6 => .array .int
  | 7 => .array .int
  | 8 => .array .int
  | _ => .array .int
def am_T1 : u_T := fun k => match k with
  | 0 => ("WashLine$Line", "size", "I", false)
  | 1 => ("WashLine$Line", "weather", "[I", true)
  | 2 => ("WashLine$Line", "doubt", "[I", true)
  | _ => ("WashLine$Line", "hung", "[I", true)
def am_ty1 : Nat → FieldType := fun k => match k with
  | 0 => .int
  | 1 => .array .int
  | 2 => .array .int
  | _ => .array .int
def am_T2 : u_T := fun k => match k with
  | 0 => ("WashLine$Looks", "land", "LWashLine$World;", true)
  | 1 => ("WashLine$Looks", "houses", "LWashLine$Houses;", true)
  | _ => ("WashLine$Looks", "line", "LWashLine$Line;", true)
def am_ty2 : Nat → FieldType := fun k => match k with
  | 0 => .object "WashLine$World"
  | 1 => .object "WashLine$Houses"
  | _ => .object "WashLine$Line"
def am_T3 : u_T := fun k => match k with
  | 0 => ("WashLine$Reader", "source", "LWashLine$Strip;", false)
  | 1 => ("WashLine$Reader", "place", "I", false)
  | _ => ("WashLine$Reader", "target", "LWashLine$World;", true)
def am_ty3 : Nat → FieldType := fun k => match k with
  | 0 => .object "WashLine$Strip"
  | 1 => .int
  | _ => .object "WashLine$World"
def am_T4 : u_T := fun k => match k with
  | 0 => ("WashLine$Steps", "land", "LWashLine$World;", true)
  | 1 => ("WashLine$Steps", "houses", "LWashLine$Houses;", true)
  | 2 => ("WashLine$Steps", "wave", "[I", true)
  | 3 => ("WashLine$Steps", "known", "[B", false)
  | _ => ("WashLine$Steps", "isKnown", "[Z", true)
def am_ty4 : Nat → FieldType := fun k => match k with
  | 0 => .object "WashLine$World"
  | 1 => .object "WashLine$Houses"
  | 2 => .array .int
  | 3 => .array .byte
  | _ => .array .boolean
def am_T5 : u_T := fun k => match k with
  | 0 => ("WashLine$Story", "land", "LWashLine$World;", true)
  | 1 => ("WashLine$Story", "line", "LWashLine$Line;", true)
  | 2 => ("WashLine$Story", "size", "I", false)
  | 3 => ("WashLine$Story", "kinds", "[I", true)
  | 4 => ("WashLine$Story", "days", "[I", true)
  | 5 => ("WashLine$Story", "ones", "[I", true)
  | 6 => ("WashLine$Story", "others", "[I", true)
  | 7 => ("WashLine$Story", "people", "[I", true)
  | 8 => ("WashLine$Story", "least", "[I", true)
  | 9 => ("WashLine$Story", "most", "[I", true)
  | _ => ("WashLine$Story", "offThing", "I", false)
def am_ty5 : Nat → FieldType := fun k => match k with
  | 0 => .object "WashLine$World"
  | 1 => .object "WashLine$Line"
  | 2 => .int
  | 3 => .array .int
  | 4 => .array .int
  | 5 => .array .int
  | 6 => .array .int
  | 7 => .array .int
  | 8 => .array .int
  | 9 => .array .int
  | _ => .int
def am_T6 : u_T := fun k => match k with
  | 0 => ("WashLine$Strip", "places", "[I", true)
  | _ => ("WashLine$Strip", "size", "I", false)
def am_ty6 : Nat → FieldType := fun k => match k with
  | 0 => .array .int
  | _ => .int
def am_T7 : u_T := fun k => match k with
  | 0 => ("WashLine$Winter", "houses", "LWashLine$Houses;", true)
  | 1 => ("WashLine$Winter", "line", "LWashLine$Line;", true)
  | 2 => ("WashLine$Winter", "looks", "LWashLine$Looks;", true)
  | 3 => ("WashLine$Winter", "steps", "LWashLine$Steps;", true)
  | 4 => ("WashLine$Winter", "weighed", "Z", false)
  | 5 => ("WashLine$Winter", "counted", "Z", false)
  | 6 => ("WashLine$Winter", "best", "I", false)
  | 7 => ("WashLine$Winter", "total", "J", false)
  | 8 => ("WashLine$Winter", "first", "[I", true)
  | 9 => ("WashLine$Winter", "wave", "[I", true)
  | 10 => ("WashLine$Winter", "prices", "[I", true)
  | 11 => ("WashLine$Winter", "ahead", "[I", true)
  | 12 => ("WashLine$Winter", "behind", "[I", true)
  | 13 => ("WashLine$Winter", "listed", "[I", true)
  | 14 => ("WashLine$Winter", "lists", "[I", true)
  | 15 => ("WashLine$Winter", "waysTo", "[J", true)
  | 16 => ("WashLine$Winter", "waysOn", "[J", true)
  | _ => ("WashLine$Winter", "heap", "[I", true)
def am_ty7 : Nat → FieldType := fun k => match k with
  | 0 => .object "WashLine$Houses"
  | 1 => .object "WashLine$Line"
  | 2 => .object "WashLine$Looks"
  | 3 => .object "WashLine$Steps"
  | 4 => .boolean
  | 5 => .boolean
  | 6 => .int
  | 7 => .long
  | 8 => .array .int
  | 9 => .array .int
  | 10 => .array .int
  | 11 => .array .int
  | 12 => .array .int
  | 13 => .array .int
  | 14 => .array .int
  | 15 => .array .long
  | 16 => .array .long
  | _ => .array .int
def am_T8 : u_T := fun k => match k with
  | 0 => ("WashLine$World", "sorts", "I", false)
  | 1 => ("WashLine$World", "into", "[I", true)
  | 2 => ("WashLine$World", "least", "[I", true)
  | 3 => ("WashLine$World", "most", "[I", true)
  | 4 => ("WashLine$World", "inside", "I", false)
  | _ => ("WashLine$World", "prices", "[I", true)
def am_ty8 : Nat → FieldType := fun k => match k with
  | 0 => .int
  | 1 => .array .int
  | 2 => .array .int
  | 3 => .array .int
  | 4 => .int
  | _ => .array .int
def am_T9 : u_T := fun k => match k with
  | 0 => ("WashLine", "rows", "[LWashLine$Strip;", true)
  | 1 => ("WashLine", "texts", "[LWashLine$Strip;", true)
  | 2 => ("WashLine", "land", "LWashLine$World;", true)
  | 3 => ("WashLine", "reader", "LWashLine$Reader;", true)
  | 4 => ("WashLine", "houses", "LWashLine$Houses;", true)
  | 5 => ("WashLine", "line", "LWashLine$Line;", true)
  | 6 => ("WashLine", "looks", "LWashLine$Looks;", true)
  | 7 => ("WashLine", "steps", "LWashLine$Steps;", true)
  | 8 => ("WashLine", "winter", "LWashLine$Winter;", true)
  | 9 => ("WashLine", "story", "LWashLine$Story;", true)
  | 10 => ("WashLine", "found", "[I", true)
  | 11 => ("WashLine", "lastFound", "I", false)
  | 12 => ("WashLine", "lastAsked", "I", false)
  | 13 => ("WashLine", "lastTales", "J", false)
  | 14 => ("WashLine", "lastUpper", "J", false)
  | _ => ("WashLine", "lastLower", "J", false)
def am_ty9 : Nat → FieldType := fun k => match k with
  | 0 => .array (.object "WashLine$Strip")
  | 1 => .array (.object "WashLine$Strip")
  | 2 => .object "WashLine$World"
  | 3 => .object "WashLine$Reader"
  | 4 => .object "WashLine$Houses"
  | 5 => .object "WashLine$Line"
  | 6 => .object "WashLine$Looks"
  | 7 => .object "WashLine$Steps"
  | 8 => .object "WashLine$Winter"
  | 9 => .object "WashLine$Story"
  | 10 => .array .int
  | 11 => .int
  | 12 => .int
  | 13 => .long
  | 14 => .long
  | _ => .long
def am_T10 : u_T := fun k => match k with
  | 0 => ("WashLine", "rows", "[LWashLine$Strip;", true)
  | 1 => ("WashLine", "texts", "[LWashLine$Strip;", true)
  | 2 => ("WashLine", "land", "LWashLine$World;", true)
  | 3 => ("WashLine", "reader", "LWashLine$Reader;", true)
  | 4 => ("WashLine", "houses", "LWashLine$Houses;", true)
  | 5 => ("WashLine", "line", "LWashLine$Line;", true)
  | 6 => ("WashLine", "looks", "LWashLine$Looks;", true)
  | 7 => ("WashLine", "steps", "LWashLine$Steps;", true)
  | 8 => ("WashLine", "winter", "LWashLine$Winter;", true)
  | 9 => ("WashLine", "story", "LWashLine$Story;", true)
  | 10 => ("WashLine", "found", "[I", true)
  | 11 => ("WashLine", "lastFound", "I", false)
  | 12 => ("WashLine", "lastAsked", "I", false)
  | 13 => ("WashLine", "lastTales", "J", false)
  | 14 => ("WashLine", "lastUpper", "J", false)
  | _ => ("WashLine", "lastLower", "J", false)
def am_ty10 : Nat → FieldType := fun k => match k with
  | 0 => .array (.object "WashLine$Strip")
  | 1 => .array (.object "WashLine$Strip")
  | 2 => .object "WashLine$World"
  | 3 => .object "WashLine$Reader"
  | 4 => .object "WashLine$Houses"
  | 5 => .object "WashLine$Line"
  | 6 => .object "WashLine$Looks"
  | 7 => .object "WashLine$Steps"
  | 8 => .object "WashLine$Winter"
  | 9 => .object "WashLine$Story"
  | 10 => .array .int
  | 11 => .int
  | 12 => .int
  | 13 => .long
  | 14 => .long
  | _ => .long
abbrev am_cl : List vw_C := [("WashLine$Houses", am_T0, 10), ("WashLine$Line", am_T1, 4), ("WashLine$Looks", am_T2, 3), ("WashLine$Reader", am_T3, 3), ("WashLine$Steps", am_T4, 5), ("WashLine$Story", am_T5, 11), ("WashLine$Strip", am_T6, 2), ("WashLine$Winter", am_T7, 18), ("WashLine$World", am_T8, 6), ("WashLine", am_T9, 16), ("WashLine", am_T10, 16)]
def am_Tt (c : Nat) : u_T := match c with
  | 0 => am_T0
  | 1 => am_T1
  | 2 => am_T2
  | 3 => am_T3
  | 4 => am_T4
  | 5 => am_T5
  | 6 => am_T6
  | 7 => am_T7
  | 8 => am_T8
  | 9 => am_T9
  | _ => am_T10
def am_fty (c : Nat) : Nat → FieldType := match c with
  | 0 => am_ty0
  | 1 => am_ty1
  | 2 => am_ty2
  | 3 => am_ty3
  | 4 => am_ty4
  | 5 => am_ty5
  | 6 => am_ty6
  | 7 => am_ty7
  | 8 => am_ty8
  | 9 => am_ty9
  | _ => am_ty10
def am_cN (c : Nat) : Nat := match c with
  | 0 => 10
  | 1 => 4
  | 2 => 3
  | 3 => 3
  | 4 => 5
  | 5 => 11
  | 6 => 2
  | 7 => 18
  | 8 => 6
  | 9 => 16
  | _ => 16
def am_cn (c : Nat) : String := match c with
  | 0 => "WashLine$Houses"
  | 1 => "WashLine$Line"
  | 2 => "WashLine$Looks"
  | 3 => "WashLine$Reader"
  | 4 => "WashLine$Steps"
  | 5 => "WashLine$Story"
  | 6 => "WashLine$Strip"
  | 7 => "WashLine$Winter"
  | 8 => "WashLine$World"
  | 9 => "WashLine"
  | 10 => "WashLine"
  | 11 => "WashLineLaw"
  | 12 => "java/util/Arrays"
  | _ => "java/lang/Math"
def am_FL : List (Nat × Nat × Nat × Nat × Nat) := [(8, 27, 8, 0, 78), (0, 50, 8, 0, 79), (3, 71, 8, 0, 80), (2, 66, 8, 0, 81), (4, 75, 8, 0, 82), (9, 176, 8, 0, 83), (8, 9, 8, 1, 84), (3, 78, 8, 1, 85), (0, 86, 8, 1, 86), (5, 75, 8, 1, 87), (8, 15, 8, 2, 88), (2, 39, 8, 2, 89), (3, 81, 8, 2, 90), (0, 89, 8, 2, 91), (8, 18, 8, 3, 92), (2, 33, 8, 3, 93), (3, 84, 8, 3, 94), (0, 90, 8, 3, 95), (8, 31, 8, 4, 96), (3, 87, 8, 4, 97), (9, 194, 8, 4, 98), (8, 21, 8, 5, 99), (4, 48, 8, 5, 100), (2, 73, 8, 5, 101), (3, 89, 8, 5, 102), (6, 13, 6, 0, 129), (3, 51, 6, 0, 130), (9, 134, 6, 0, 131), (6, 7, 6, 1, 132), (3, 34, 6, 1, 133), (9, 137, 6, 1, 134), (3, 14, 3, 0, 142), (3, 27, 3, 1, 143), (3, 23, 3, 2, 144), (9, 161, 3, 2, 145), (0, 36, 0, 0, 194), (0, 46, 0, 1, 195), (4, 31, 0, 1, 196), (7, 101, 0, 1, 197), (2, 76, 0, 1, 198), (0, 9, 0, 2, 199), (9, 245, 0, 2, 200), (0, 15, 0, 3, 201), (2, 90, 0, 3, 202), (9, 248, 0, 3, 203), (0, 18, 0, 4, 204), (2, 70, 0, 4, 205), (7, 155, 0, 4, 206), (0, 21, 0, 5, 207), (4, 65, 0, 5, 208), (0, 24, 0, 6, 209), (4, 72, 0, 6, 210), (0, 27, 0, 7, 211), (4, 82, 0, 7, 212), (0, 30, 0, 8, 213), (2, 36, 0, 8, 214), (0, 33, 0, 9, 215), (2, 27, 0, 9, 216), (9, 225, 0, 9, 217), (1, 9, 1, 0, 245), (7, 75, 1, 0, 246), (9, 170, 1, 0, 247), (2, 107, 1, 0, 248), (1, 15, 1, 1, 249), (2, 49, 1, 1, 250), (1, 19, 1, 2, 251), (2, 96, 1, 2, 252), (1, 22, 1, 3, 253), (2, 93, 1, 3, 254), (2, 9, 2, 0, 270), (2, 15, 2, 1, 271), (2, 19, 2, 2, 272), (4, 23, 4, 0, 286), (4, 27, 4, 1, 287), (4, 9, 4, 2, 288), (4, 15, 4, 3, 289), (4, 19, 4, 4, 290), (7, 58, 7, 0, 310), (7, 62, 7, 1, 311), (7, 66, 7, 2, 312), (7, 70, 7, 3, 313), (7, 9, 7, 4, 314), (7, 15, 7, 5, 315), (7, 18, 7, 6, 316), (9, 269, 7, 6, 317), (7, 22, 7, 7, 318), (9, 278, 7, 7, 319), (7, 26, 7, 8, 320), (9, 272, 7, 8, 321), (7, 30, 7, 9, 322), (7, 33, 7, 10, 323), (7, 36, 7, 11, 324), (7, 39, 7, 12, 325), (7, 42, 7, 13, 326), (7, 45, 7, 14, 327), (7, 48, 7, 15, 328), (7, 52, 7, 16, 329), (7, 55, 7, 17, 330), (5, 40, 5, 0, 375), (5, 44, 5, 1, 376), (5, 9, 5, 2, 377), (9, 171, 5, 2, 378), (5, 15, 5, 3, 379), (5, 19, 5, 4, 380), (5, 22, 5, 5, 381), (5, 25, 5, 6, 382), (5, 28, 5, 7, 383), (5, 31, 5, 8, 384), (5, 34, 5, 9, 385), (5, 37, 5, 10, 386), (9, 11, 9, 0, 411), (9, 15, 9, 1, 412), (9, 21, 9, 2, 413), (9, 28, 9, 3, 414), (9, 37, 9, 4, 415), (9, 44, 9, 5, 416), (9, 53, 9, 6, 417), (9, 62, 9, 7, 418), (9, 71, 9, 8, 419), (9, 80, 9, 9, 420), (9, 84, 9, 10, 421), (9, 88, 9, 11, 422), (9, 92, 9, 12, 423), (9, 95, 9, 13, 424), (9, 99, 9, 14, 425), (9, 102, 9, 15, 426)]
def am_ML : List (Nat × Nat × Nat × Nat) := [(11, 63, 1, 57), (9, 20, 2, 67), (8, 24, 3, 71), (8, 34, 4, 75), (3, 11, 6, 125), (3, 22, 2, 141), (9, 34, 7, 155), (0, 40, 8, 159), (0, 43, 9, 163), (0, 70, 10, 167), (12, 13, 11, 170), (0, 76, 12, 173), (0, 58, 13, 182), (0, 62, 14, 186), (0, 66, 15, 190), (9, 50, 17, 266), (9, 59, 18, 282), (9, 68, 19, 306), (9, 77, 20, 371), (9, 105, 6, 410), (11, 43, 21, 460), (9, 108, 22, 464), (9, 197, 23, 467), (9, 112, 24, 470), (9, 116, 25, 474), (6, 17, 4, 478), (11, 50, 26, 479), (9, 120, 27, 483), (9, 124, 28, 487), (9, 127, 29, 491), (9, 131, 30, 495), (11, 101, 31, 499), (11, 83, 59, 503), (11, 53, 61, 507), (9, 203, 62, 511), (9, 206, 63, 514), (9, 175, 54, 518), (9, 209, 64, 522), (11, 133, 69, 527), (11, 80, 70, 531), (9, 222, 13, 535), (9, 182, 57, 536), (9, 226, 71, 539), (0, 91, 72, 543), (11, 74, 73, 547), (9, 213, 66, 551), (9, 230, 74, 555), (2, 56, 75, 559), (2, 23, 76, 563), (2, 40, 77, 567), (2, 46, 78, 571), (2, 52, 72, 575), (2, 59, 79, 576), (2, 63, 80, 580), (9, 233, 81, 584), (11, 77, 82, 588), (9, 236, 83, 592), (9, 239, 84, 596), (2, 86, 71, 600), (11, 86, 85, 601), (9, 242, 86, 605), (11, 89, 87, 609), (9, 251, 88, 613), (2, 99, 89, 617), (11, 92, 90, 624), (9, 254, 91, 628), (2, 79, 74, 632), (2, 82, 81, 633), (11, 71, 92, 634), (9, 257, 93, 638), (4, 38, 4, 643), (4, 44, 94, 644), (4, 53, 95, 648), (4, 68, 96, 652), (4, 56, 97, 656), (4, 78, 98, 660), (4, 59, 99, 664), (9, 260, 100, 668), (11, 95, 101, 672), (9, 263, 102, 676), (7, 80, 103, 680), (7, 104, 74, 684), (7, 110, 81, 686), (7, 84, 104, 687), (7, 114, 4, 691), (7, 120, 94, 692), (7, 126, 105, 693), (7, 88, 106, 701), (7, 92, 107, 705), (7, 139, 108, 709), (4, 62, 109, 713), (7, 95, 110, 717), (7, 142, 111, 721), (7, 98, 112, 725), (7, 145, 93, 729), (7, 148, 113, 730), (7, 152, 100, 734), (9, 266, 106, 735), (11, 98, 114, 736), (11, 114, 115, 740), (9, 275, 116, 744), (7, 161, 117, 748), (7, 164, 118, 752), (7, 170, 119, 760), (11, 121, 120, 765), (9, 179, 56, 769), (9, 283, 121, 773), (9, 286, 122, 778), (11, 124, 123, 782), (9, 289, 124, 786), (9, 293, 125, 790), (9, 359, 126, 794), (11, 111, 127, 797), (9, 297, 111, 801), (11, 108, 128, 803), (9, 301, 129, 807), (11, 145, 130, 811), (9, 304, 131, 815), (11, 136, 143, 819), (9, 317, 138, 823), (5, 60, 4, 827), (5, 66, 139, 828), (5, 69, 140, 832), (5, 56, 141, 836), (5, 72, 142, 840), (9, 320, 144, 844), (11, 142, 152, 849), (9, 329, 153, 853), (11, 139, 154, 857), (9, 332, 155, 861), (2, 108, 153, 865), (11, 9, 158, 866), (11, 117, 159, 870), (11, 130, 160, 874), (11, 127, 161, 878), (11, 21, 172, 882), (11, 15, 173, 886), (11, 104, 174, 890), (11, 64, 175, 893), (11, 25, 37, 896), (9, 154, 38, 900), (11, 28, 39, 903), (11, 32, 40, 907), (9, 157, 41, 911), (3, 31, 3, 915), (3, 37, 42, 916), (3, 55, 43, 920), (3, 48, 28, 924), (3, 41, 44, 925), (3, 59, 45, 929), (3, 74, 46, 933), (3, 62, 47, 937), (3, 65, 48, 941), (3, 68, 49, 945), (3, 45, 50, 949), (11, 36, 51, 953), (9, 164, 52, 957), (9, 167, 8, 962), (9, 172, 53, 963), (11, 39, 176, 967), (11, 67, 177, 970), (11, 46, 178, 973)]
def am_OI : List (Nat × Nat × Nat) := [(9, 3, 60), (8, 3, 70), (3, 3, 122), (6, 1, 128), (0, 3, 158), (1, 3, 244), (2, 3, 269), (4, 3, 285), (7, 3, 309), (5, 3, 374)]
def am_AC : List (Nat × Nat × Nat) := [(0, 80, 177), (1, 25, 526), (7, 128, 700), (8, 40, 961)]
def am_MA : List (Nat × Nat × Nat × Nat) := [(2, 102, 0, 621), (7, 134, 1, 697), (7, 175, 2, 756), (7, 158, 0, 777)]
def am_NM : List (Nat × Nat × Nat) := [(9, 27, 5), (9, 43, 16)]
def am_NG : List (Nat × Nat) := [(0, 55), (5, 80)]
def am_CT : List (Nat × Nat × Int × Nat) := [(4, 37, 1000000, 642), (7, 74, 1000000, 685), (9, 300, 1000000, 802), (11, 7, 2147483647, 885), (11, 8, 40503, 889)]
def am_CJ : List (Nat × Nat × Int × Nat) := [(7, 173, 1000000000000001, 755), (7, 168, 1000000000000000, 759), (9, 281, 1000000000000000, 764)]
def am_CK : List (Nat × Nat × Nat × Nat) := [(11, 10, 9, 55), (9, 9, 6, 63), (9, 18, 8, 65), (9, 25, 3, 117), (3, 9, 6, 123), (3, 20, 8, 140), (9, 32, 0, 153), (9, 41, 1, 239), (9, 48, 2, 264), (9, 57, 4, 280), (9, 66, 7, 304), (9, 75, 5, 369)]
end
section
/-! THE SMALL MACHINE, second half: cells, calls, a run -/
def am_isO (σ : am_S) (a c : Nat) : Bool := match σ.2.2.1[a]? with
  | some (.inr c', _) => decide (c' = c) && decide (2 ≤ a)
  | _ => false
def am_getf (c k : Nat) (st : List am_V) (σ : am_S) : Option (List am_V × am_S) := match st with
  | .inr (.inr (some a)) :: st' => if am_isO σ a c then some (am_gv (am_fty c k) a k σ :: st', σ) else none
  | _ => none
def am_putf (c k : Nat) (st : List am_V) (σ : am_S) : Option (List am_V × am_S) := match st with
  | v :: .inr (.inr (some a)) :: st' => if am_isO σ a c then (am_pv (am_fty c k) a k v σ).map (fun σ' => (st', σ')) else none
  | _ => none
def am_newo (c : Nat) (st : List am_V) (σ : am_S) : Option (List am_V × am_S) := if c < 11 then some (vR σ.2.2.1.length :: st, am_new σ (.inr c, am_cN c)) else none
def am_newq (st : List am_V) (σ : am_S) : Option (List am_V × am_S) := am_newa am_strip st σ
def am_initO (st : List am_V) (σ : am_S) : Option (List am_V × am_S) := match st with
  | .inr (.inr (some _)) :: st' => if (st'.map am_cat).sum ≤ 8 then some (st', σ) else none
  | _ => none
def am_bget (st : List am_V) (σ : am_S) : Option (List am_V × am_S) := (am_aget .byte st σ).or (am_aget .boolean st σ)
def am_bput (st : List am_V) (σ : am_S) : Option (List am_V × am_S) := (am_aput .byte w8 st σ).or (am_aput .boolean (fun x => x % 2) st σ)
def am_math (k : Nat) (st : List am_V) (σ : am_S) : Option (List am_V × am_S) := match k with
  | 0 => match st with
    | .inl y :: .inl x :: st' => if (st'.map am_cat).sum ≤ 8 then some (vI (if x < y then y else x) :: st', σ) else none
    | _ => none
  | 1 => match st with
    | .inl y :: .inl x :: st' => if (st'.map am_cat).sum ≤ 8 then some (vI (if y < x then y else x) :: st', σ) else none
    | _ => none
  | 2 => match st with
    | .inr (.inl y) :: .inr (.inl x) :: st' => if (st'.map am_cat).sum ≤ 8 then some (vL (if y < x then y else x) :: st', σ) else none
    | _ => none
  | _ => none
/-- cells -/
def am_me (i : Instr) (ops : List Nat) (st : List am_V) (σ : am_S) : Option (List am_V × am_S) := match i with
  | .getfield _ => match ops with
    | [c, k] => am_getf c k st σ
    | _ => none
  | .putfield _ => match ops with
    | [c, k] => am_putf c k st σ
    | _ => none
  | .getstatic _ => some (vR 0 :: st, σ)
  | .iaload => am_aget .int st σ
  | .laload => am_aget .long st σ
  | .baload => am_bget st σ
  | .aaload => am_aget am_strip st σ
  | .iastore => am_aput .int (fun x => x) st σ
  | .lastore => am_aputL st σ
  | .bastore => am_bput st σ
  | .aastore => am_aputR st σ
  | .arraylength => am_alen st σ
  | .newarray t => am_newa (am_newT t) st σ
  | .anewarray _ => am_newq st σ
  | .new _ => match ops with
    | [c] => am_newo c st σ
    | _ => none
  | .invokespecial _ => match ops with
    | [] => am_initO st σ
    | _ => none
  | .invokestatic _ => match ops with
    | [] => am_acopy st σ
    | [k] => am_math k st σ
    | _ => none
  | _ => none
/-- calls: which method, its arguments, what stays on the stack -/
def am_ca (i : Instr) (ops : List Nat) (v : Int) (st : List am_V) (σ : am_S) : Option (Nat × List am_V × List am_V) := match i with
  | .invokestatic _ => match ops with
    | [m, n] => if n ≤ st.length ∧ ((st.drop n).map am_cat).sum ≤ 8 ∧ (((st.take n).reverse.map am_cat).sum : Int) ≤ v then some (m, (st.take n).reverse, st.drop n) else none
    | _ => none
  | .invokevirtual _ => match ops with
    | [m, n, c] => match (st.take n).reverse with
      | .inr (.inr (some a)) :: as => if n ≤ st.length ∧ ((st.drop n).map am_cat).sum ≤ 8 ∧ (((vR a :: as).map am_cat).sum : Int) ≤ v ∧ am_isO σ a c = true then some (m, vR a :: as, st.drop n) else none
      | _ => none
    | _ => none
  | .invokespecial _ => match ops with
    | [m, n] => match (st.take n).reverse with
      | .inr (.inr (some a)) :: as => if n ≤ st.length ∧ ((st.drop n).map am_cat).sum ≤ 8 ∧ (((vR a :: as).map am_cat).sum : Int) ≤ v then some (m, vR a :: as, st.drop n) else none
      | _ => none
    | _ => none
  | _ => none
/-- ends -/
def am_rt (i : Instr) (ops : List Nat) (st : List am_V) : Option (Option am_V) := match i with
  | .return_ => match st with
    | [] => some none
    | _ => none
  | .ireturn => match st with
    | [.inl x] => if ops.headD 0 = 0 ∨ x = 0 ∨ x = 1 then some (some (vI x)) else none
    | _ => none
  | .lreturn => match st with
    | [.inr (.inl x)] => some (some (vL x))
    | _ => none
  | .areturn => match st with
    | [.inr (.inr (some a))] => some (some (vR a))
    | _ => none
  | _ => none
def am_args : Nat → List am_V → am_Lc
  | _, [] => []
  | i, v :: vs => (i, v) :: am_args (if am_two v then i + 2 else i + 1) vs
def am_run (P : Nat → List (List am_I)) : Nat → List (List am_I) → List am_I → am_Lc → List am_V → am_S → Option (Option am_V × am_S)
  | 0, _, _, _, _, _ => none
  | _ + 1, _, [], _, _, _ => none
  | n + 1, bs, (i, ops, v) :: is, l, st, σ =>
    match am_ar i v l st with
    | some (l', st') => am_run P n bs is l' st' σ
    | none => match am_me i ops st σ with
      | some (st', σ') => am_run P n bs is l st' σ'
      | none => match am_ct i ops st with
        | some (some b, st') => am_run P n bs (bs.getD b []) l st' σ
        | some (none, st') => am_run P n bs is l st' σ
        | none => match am_ca i ops v st σ with
          | some (m, as, st') => match am_run P n (P m) ((P m).getD 0 []) (am_args 0 as) [] σ with
            | some (r, σ') => am_run P n bs is l (r.toList ++ st') σ'
            | none => none
          | none => match am_rt i ops st with
            | some r => some (r, σ)
            | none => none
/-! more fuel does no harm; a run's end is one -/
set_option maxHeartbeats 1000000 in
theorem am_run_mono (P : Nat → List (List am_I)) : ∀ (n : Nat) (bs : List (List am_I)) (is : List am_I) (l : am_Lc) (st : List am_V) (σ : am_S) (o : Option am_V × am_S), am_run P n bs is l st σ = some o → am_run P (n + 1) bs is l st σ = some o := by
  intro n
  induction n with
  | zero => intro bs is l st σ o h; simp [am_run] at h
  | succ n ih =>
    intro bs is l st σ o h
    cases is with
    | nil => simp [am_run] at h
    | cons i is =>
      obtain ⟨i, ops, v⟩ := i
      rw [am_run] at h ⊢
      cases h1 : am_ar i v l st with
      | some q => rw [h1] at h; exact ih _ _ _ _ _ _ h
      | none =>
        rw [h1] at h
        dsimp only at h ⊢
        cases h2 : am_me i ops st σ with
        | some q => rw [h2] at h; exact ih _ _ _ _ _ _ h
        | none =>
          rw [h2] at h
          dsimp only at h ⊢
          cases h3 : am_ct i ops st with
          | some q =>
            obtain ⟨b, st'⟩ := q
            rw [h3] at h
            cases b with
            | some b => exact ih _ _ _ _ _ _ h
            | none => exact ih _ _ _ _ _ _ h
          | none =>
            rw [h3] at h
            dsimp only at h ⊢
            cases h4 : am_ca i ops v st σ with
            | some q =>
              obtain ⟨m, as, st'⟩ := q
              rw [h4] at h
              dsimp only at h ⊢
              cases h5 : am_run P n (P m) ((P m).getD 0 []) (am_args 0 as) [] σ with
              | none => rw [h5] at h; cases h
              | some r =>
                obtain ⟨r, σ'⟩ := r
                rw [h5] at h
                rw [ih _ _ _ _ _ _ h5]
                exact ih _ _ _ _ _ _ h
            | none =>
              rw [h4] at h
              exact h
theorem am_run_le (P : Nat → List (List am_I)) {n k : Nat} (hk : n ≤ k) {bs : List (List am_I)} {is : List am_I} {l : am_Lc} {st : List am_V} {σ : am_S} {o : Option am_V × am_S} (h : am_run P n bs is l st σ = some o) : am_run P k bs is l st σ = some o := by
  obtain ⟨d, rfl⟩ := Nat.le.dest hk
  induction d with
  | zero => exact h
  | succ d ih => exact am_run_mono P (n + d) bs is l st σ o (ih (Nat.le_add_right n d))
end
section
/-! THE METHODS: each as blocks of instructions; printed by a program (wip/tools/gen_names.py) -/
/-- WashLineLaw.law([I)Z -/
def am_b0 : List (List am_I) := [[(.new 10, [9], 0), (.dup, [], 0), (.invokespecial 63, [1, 1], 1), (.astore_n 1, [], 0), (.bipush 6, [], 0), (.newarray .int, [], 0), (.astore_n 2, [], 0), (.bipush 24, [], 0), (.newarray .int, [], 0), (.astore_n 3, [], 0), (.bipush 24, [], 0), (.newarray .int, [], 0), (.astore 4, [], 0), (.bipush 6, [], 0), (.newarray .int, [], 0), (.astore 5, [], 0), (.aload_n 1, [], 0), (.aload_n 0, [], 0), (.iconst 0, [], 0), (.iconst 3, [], 0), (.aload_n 2, [], 0), (.aload_n 3, [], 0), (.aload 4, [], 0), (.aload 5, [], 0), (.invokestatic 64, [175, 8], 8), (.istore 6, [], 0), (.bipush 40, [], 0), (.newarray .int, [], 0), (.astore 7, [], 0), (.iload 6, [], 0), (.ifCond .ge 7, [1], 0), (.iconst (-1), [], 0), (.goto 20, [2], 0)],
  [(.aload_n 1, [], 0), (.aload_n 0, [], 0), (.bipush 8, [], 0), (.iconst 4, [], 0), (.iload 6, [], 0), (.aload_n 3, [], 0), (.aload 4, [], 0), (.aload 5, [], 0), (.aload 7, [], 0), (.invokestatic 67, [177, 9], 9), (.nop, [2], 0)],
  [(.istore 8, [], 0), (.iload 8, [], 0), (.ifCond .ge 5, [3], 0), (.iconst 0, [], 0), (.ireturn, [1], 0)],
  [(.iload 6, [], 0), (.invokestatic 39, [176, 1], 1), (.astore 9, [], 0), (.aload 9, [], 0), (.bipush 63, [], 0), (.iaload, [], 0), (.istore 10, [], 0), (.iconst 0, [], 0), (.istore 11, [], 0), (.nop, [4], 0)],
  [(.iload 11, [], 0), (.bipush 8, [], 0), (.if_icmp .ge 412, [19], 0), (.aload 9, [], 0), (.aload_n 0, [], 0), (.bipush 14, [], 0), (.iload 11, [], 0), (.iadd, [], 0), (.invokestatic 15, [173, 2], 2), (.iload 10, [], 0), (.invokestatic 21, [172, 2], 2), (.iaload, [], 0), (.istore 12, [], 0), (.aload 9, [], 0), (.aload_n 0, [], 0), (.bipush 14, [], 0), (.iload 11, [], 0), (.iadd, [], 0), (.invokestatic 15, [173, 2], 2), (.bipush 7, [], 0), (.ishr, [], 0), (.iload 10, [], 0), (.invokestatic 21, [172, 2], 2), (.iaload, [], 0), (.istore 13, [], 0), (.aload 9, [], 0), (.aload_n 0, [], 0), (.bipush 14, [], 0), (.iload 11, [], 0), (.iadd, [], 0), (.invokestatic 15, [173, 2], 2), (.bipush 13, [], 0), (.ishr, [], 0), (.iload 10, [], 0), (.invokestatic 21, [172, 2], 2), (.iaload, [], 0), (.istore 14, [], 0), (.aload_n 1, [], 0), (.iload 12, [], 0), (.iload 13, [], 0), (.invokevirtual 71, [92, 3, 9], 3), (.istore 15, [], 0), (.iload 15, [], 0), (.ifCond .lt 106, [5], 0), (.aload_n 1, [], 0), (.iload 12, [], 0), (.iload 12, [], 0), (.invokevirtual 71, [92, 3, 9], 3), (.ifCond .ne 95, [5], 0), (.iload 15, [], 0), (.aload_n 1, [], 0), (.iload 12, [], 0), (.iload 14, [], 0), (.invokevirtual 71, [92, 3, 9], 3), (.aload_n 1, [], 0), (.iload 14, [], 0), (.iload 13, [], 0), (.invokevirtual 71, [92, 3, 9], 3), (.iadd, [], 0), (.if_icmp .gt 73, [5], 0), (.aload_n 1, [], 0), (.iconst 0, [], 0), (.iload 13, [], 0), (.invokevirtual 71, [92, 3, 9], 3), (.iload 13, [], 0), (.bipush 10, [], 0), (.irem, [], 0), (.iload 13, [], 0), (.bipush 10, [], 0), (.idiv, [], 0), (.bipush 10, [], 0), (.irem, [], 0), (.iadd, [], 0), (.iload 13, [], 0), (.bipush 100, [], 0), (.idiv, [], 0), (.iadd, [], 0), (.aload 5, [], 0), (.iconst 1, [], 0), (.iaload, [], 0), (.imul, [], 0), (.if_icmp .gt 38, [5], 0), (.aload_n 1, [], 0), (.iload 13, [], 0), (.iconst 0, [], 0), (.invokevirtual 71, [92, 3, 9], 3), (.iload 13, [], 0), (.bipush 10, [], 0), (.irem, [], 0), (.iload 13, [], 0), (.bipush 10, [], 0), (.idiv, [], 0), (.bipush 10, [], 0), (.irem, [], 0), (.iadd, [], 0), (.iload 13, [], 0), (.bipush 100, [], 0), (.idiv, [], 0), (.iadd, [], 0), (.aload 5, [], 0), (.iconst 2, [], 0), (.iaload, [], 0), (.imul, [], 0), (.if_icmp .le 5, [6], 0), (.nop, [5], 0)],
  [(.iconst 0, [], 0), (.ireturn, [1], 0)],
  [(.aload_n 0, [], 0), (.bipush 14, [], 0), (.iload 11, [], 0), (.iadd, [], 0), (.invokestatic 15, [173, 2], 2), (.bipush 19, [], 0), (.ishr, [], 0), (.iload 8, [], 0), (.invokestatic 21, [172, 2], 2), (.istore 16, [], 0), (.aload_n 1, [], 0), (.iload 16, [], 0), (.iload 12, [], 0), (.invokevirtual 74, [73, 3, 9], 3), (.istore 17, [], 0), (.aload_n 1, [], 0), (.invokevirtual 9, [158, 1, 9], 1), (.istore 18, [], 0), (.aload_n 1, [], 0), (.iload 16, [], 0), (.iload 12, [], 0), (.invokevirtual 77, [82, 3, 9], 3), (.istore 19, [], 0), (.aload_n 1, [], 0), (.invokevirtual 9, [158, 1, 9], 1), (.istore 20, [], 0), (.iload 19, [], 0), (.ifCond .ne 12, [7], 0), (.iload 20, [], 0), (.ifCond .ne 7, [7], 0), (.iconst 1, [], 0), (.goto 4, [8], 0)],
  [(.iconst 0, [], 0), (.nop, [8], 0)],
  [(.iload 17, [], 0), (.ifCond .ne 12, [9], 0), (.iload 18, [], 0), (.ifCond .ne 7, [9], 0), (.iconst 1, [], 0), (.goto 4, [10], 0)],
  [(.iconst 0, [], 0), (.nop, [10], 0)],
  [(.if_icmp .ne 36, [13], 0), (.iload 19, [], 0), (.iload 20, [], 0), (.iand, [], 0), (.ifCond .ne 28, [13], 0), (.iload 17, [], 0), (.ifCond .le 25, [14], 0), (.iload 17, [], 0), (.aload 5, [], 0), (.iload 18, [], 0), (.bipush 20, [], 0), (.if_icmp .ge 7, [11], 0), (.iconst 4, [], 0), (.goto 4, [12], 0)],
  [(.iconst 5, [], 0), (.nop, [12], 0)],
  [(.iaload, [], 0), (.if_icmp .eq 5, [14], 0), (.nop, [13], 0)],
  [(.iconst 0, [], 0), (.ireturn, [1], 0)],
  [(.aload_n 0, [], 0), (.bipush 14, [], 0), (.iload 11, [], 0), (.iadd, [], 0), (.invokestatic 15, [173, 2], 2), (.bipush 21, [], 0), (.ishr, [], 0), (.bipush 8, [], 0), (.invokestatic 21, [172, 2], 2), (.istore 21, [], 0), (.aload_n 1, [], 0), (.iload 12, [], 0), (.iconst 0, [], 0), (.iload 21, [], 0), (.invokevirtual 80, [70, 4, 9], 4), (.istore 22, [], 0), (.aload_n 1, [], 0), (.invokevirtual 9, [158, 1, 9], 1), (.istore 23, [], 0), (.aload_n 1, [], 0), (.iload 12, [], 0), (.iconst 1, [], 0), (.iload 21, [], 0), (.invokevirtual 80, [70, 4, 9], 4), (.istore 24, [], 0), (.iload 22, [], 0), (.ifCond .lt 50, [17], 0), (.iload 23, [], 0), (.iload 22, [], 0), (.if_icmp .lt 43, [17], 0), (.iload 24, [], 0), (.iload 22, [], 0), (.if_icmp .gt 36, [17], 0), (.aload_n 1, [], 0), (.invokevirtual 9, [158, 1, 9], 1), (.iload 23, [], 0), (.if_icmp .ne 27, [17], 0), (.iload 24, [], 0), (.aload_n 1, [], 0), (.invokevirtual 83, [59, 1, 9], 1), (.iload 21, [], 0), (.ishr, [], 0), (.iconst 1, [], 0), (.iand, [], 0), (.iconst 1, [], 0), (.if_icmp .ne 7, [15], 0), (.iconst 0, [], 0), (.goto 5, [16], 0)],
  [(.iload 22, [], 0), (.nop, [16], 0)],
  [(.if_icmp .eq 5, [18], 0), (.nop, [17], 0)],
  [(.iconst 0, [], 0), (.ireturn, [1], 0)],
  [(.iinc 11 1, [], 0), (.goto (-413), [4], 0)],
  [(.iconst 0, [], 0), (.istore 11, [], 0), (.nop, [20], 0)],
  [(.iload 11, [], 0), (.iload 8, [], 0), (.if_icmp .ge 124, [27], 0), (.aload_n 1, [], 0), (.iload 11, [], 0), (.invokevirtual 86, [85, 2, 9], 2), (.istore 12, [], 0), (.aload_n 1, [], 0), (.invokevirtual 9, [158, 1, 9], 1), (.istore 13, [], 0), (.aload_n 1, [], 0), (.iload 11, [], 0), (.invokevirtual 89, [87, 2, 9], 2), (.istore 14, [], 0), (.iload 12, [], 0), (.ifCond .lt 39, [22], 0), (.iload 14, [], 0), (.ifCond .lt 32, [21], 0), (.iload 14, [], 0), (.iload 12, [], 0), (.if_icmp .gt 25, [21], 0), (.aload_n 1, [], 0), (.iload 11, [], 0), (.iload 13, [], 0), (.invokevirtual 74, [73, 3, 9], 3), (.ifCond .ne 14, [21], 0), (.aload_n 1, [], 0), (.iload 11, [], 0), (.iconst 0, [], 0), (.invokevirtual 92, [90, 3, 9], 3), (.iconst 1, [], 0), (.if_icmp .ge 5, [22], 0), (.nop, [21], 0)],
  [(.iconst 0, [], 0), (.ireturn, [1], 0)],
  [(.iconst 1, [], 0), (.istore 15, [], 0), (.nop, [23], 0)],
  [(.iload 15, [], 0), (.bipush 10, [], 0), (.if_icmp .ge 45, [26], 0), (.aload_n 1, [], 0), (.iload 11, [], 0), (.iload 15, [], 0), (.invokevirtual 92, [90, 3, 9], 3), (.aload_n 1, [], 0), (.iload 11, [], 0), (.iload 15, [], 0), (.iconst 1, [], 0), (.isub, [], 0), (.invokevirtual 92, [90, 3, 9], 3), (.if_icmp .lt 16, [24], 0), (.aload_n 1, [], 0), (.iload 11, [], 0), (.iload 15, [], 0), (.invokevirtual 92, [90, 3, 9], 3), (.iload 10, [], 0), (.if_icmp .le 5, [25], 0), (.nop, [24], 0)],
  [(.iconst 0, [], 0), (.ireturn, [1], 0)],
  [(.iinc 15 1, [], 0), (.goto (-46), [23], 0)],
  [(.iinc 11 1, [], 0), (.goto (-125), [20], 0)],
  [(.aload_n 1, [], 0), (.invokevirtual 95, [101, 1, 9], 1), (.istore 11, [], 0), (.aload_n 1, [], 0), (.iconst 1, [], 0), (.invokevirtual 98, [114, 2, 9], 2), (.istore 12, [], 0), (.iload 11, [], 0), (.ifCond .lt 7, [28], 0), (.iconst 1, [], 0), (.goto 4, [29], 0)],
  [(.iconst 0, [], 0), (.nop, [29], 0)],
  [(.iload 12, [], 0), (.iload 8, [], 0), (.if_icmp .ne 7, [30], 0), (.iconst 1, [], 0), (.goto 4, [31], 0)],
  [(.iconst 0, [], 0), (.nop, [31], 0)],
  [(.if_icmp .eq 5, [32], 0), (.iconst 0, [], 0), (.ireturn, [1], 0)],
  [(.iconst 0, [], 0), (.istore 13, [], 0), (.iconst 0, [], 0), (.istore 14, [], 0), (.iconst 0, [], 0), (.istore 15, [], 0), (.nop, [33], 0)],
  [(.iload 15, [], 0), (.iload 8, [], 0), (.if_icmp .ge 125, [38], 0), (.iload 11, [], 0), (.ifCond .lt 120, [38], 0), (.aload_n 1, [], 0), (.aload_n 1, [], 0), (.iconst 1, [], 0), (.iload 15, [], 0), (.invokevirtual 101, [31, 3, 9], 3), (.invokestatic 104, [174, 2], 2), (.istore 16, [], 0), (.aload_n 1, [], 0), (.iload 15, [], 0), (.iload 16, [], 0), (.invokevirtual 74, [73, 3, 9], 3), (.istore 17, [], 0), (.iload 17, [], 0), (.ifCond .ge 5, [34], 0), (.iconst 0, [], 0), (.ireturn, [1], 0)],
  [(.iload 14, [], 0), (.aload_n 1, [], 0), (.iload 13, [], 0), (.iload 16, [], 0), (.invokevirtual 71, [92, 3, 9], 3), (.iload 17, [], 0), (.iadd, [], 0), (.iadd, [], 0), (.istore 14, [], 0), (.iload 16, [], 0), (.istore 13, [], 0), (.aload_n 1, [], 0), (.iload 15, [], 0), (.invokevirtual 108, [128, 2, 9], 2), (.istore 18, [], 0), (.aload_n 1, [], 0), (.invokevirtual 9, [158, 1, 9], 1), (.istore 19, [], 0), (.iload 18, [], 0), (.ifCond .lt 30, [35], 0), (.iload 18, [], 0), (.iload 11, [], 0), (.if_icmp .lt 36, [36], 0), (.iload 19, [], 0), (.iload 16, [], 0), (.if_icmp .eq 29, [36], 0), (.aload_n 1, [], 0), (.iload 15, [], 0), (.iload 19, [], 0), (.invokevirtual 111, [127, 3, 9], 3), (.iload 18, [], 0), (.if_icmp .ne 16, [36], 0), (.nop, [35], 0)],
  [(.aload_n 1, [], 0), (.iload 15, [], 0), (.iload 16, [], 0), (.invokevirtual 111, [127, 3, 9], 3), (.iload 11, [], 0), (.if_icmp .eq 5, [37], 0), (.nop, [36], 0)],
  [(.iconst 0, [], 0), (.ireturn, [1], 0)],
  [(.iinc 15 1, [], 0), (.goto (-126), [33], 0)],
  [(.iload 11, [], 0), (.ifCond .lt 12, [39], 0), (.iload 14, [], 0), (.iload 11, [], 0), (.if_icmp .eq 5, [39], 0), (.iconst 0, [], 0), (.ireturn, [1], 0)],
  [(.aload_n 1, [], 0), (.invokevirtual 114, [115, 1, 9], 1), (.istore 15, [], 0), (.iload 15, [], 0), (.iconst 1, [], 0), (.if_icmp .ne 185, [46], 0), (.iload 11, [], 0), (.ifCond .lt 180, [46], 0), (.aload_n 1, [], 0), (.invokevirtual 117, [159, 1, 9], 1), (.lstore 16, [], 0), (.aload_n 0, [], 0), (.bipush 22, [], 0), (.invokestatic 15, [173, 2], 2), (.iload 8, [], 0), (.invokestatic 21, [172, 2], 2), (.istore 18, [], 0), (.aload_n 0, [], 0), (.bipush 22, [], 0), (.invokestatic 15, [173, 2], 2), (.iconst 3, [], 0), (.ishr, [], 0), (.iload 6, [], 0), (.invokestatic 21, [172, 2], 2), (.istore 19, [], 0), (.aload_n 1, [], 0), (.iload 18, [], 0), (.iload 19, [], 0), (.invokevirtual 121, [120, 3, 9], 3), (.istore 20, [], 0), (.aload_n 1, [], 0), (.invokevirtual 9, [158, 1, 9], 1), (.istore 21, [], 0), (.lconst 0, [], 0), (.lstore 22, [], 0), (.iconst 0, [], 0), (.istore 24, [], 0), (.nop, [40], 0)],
  [(.iload 24, [], 0), (.bipush 6, [], 0), (.if_icmp .ge 100, [44], 0), (.aload_n 1, [], 0), (.iload 18, [], 0), (.iload 19, [], 0), (.iload 24, [], 0), (.invokevirtual 124, [123, 4, 9], 4), (.iconst 1, [], 0), (.if_icmp .ne 61, [42], 0), (.lload 16, [], 0), (.aload_n 1, [], 0), (.invokevirtual 127, [161, 1, 9], 1), (.lrem, [], 0), (.lconst 0, [], 0), (.lcmp, [], 0), (.ifCond .ne 49, [42], 0), (.aload_n 1, [], 0), (.invokevirtual 130, [160, 1, 9], 1), (.lconst 0, [], 0), (.lcmp, [], 0), (.ifCond .le 17, [41], 0), (.iload 24, [], 0), (.iload 20, [], 0), (.if_icmp .lt 33, [42], 0), (.iload 24, [], 0), (.iload 21, [], 0), (.if_icmp .gt 26, [42], 0), (.nop, [41], 0)],
  [(.aload_n 1, [], 0), (.invokevirtual 130, [160, 1, 9], 1), (.lconst 0, [], 0), (.lcmp, [], 0), (.ifCond .ne 19, [43], 0), (.iload 24, [], 0), (.iload 20, [], 0), (.if_icmp .eq 10, [42], 0), (.iload 24, [], 0), (.iload 21, [], 0), (.if_icmp .ne 5, [43], 0), (.nop, [42], 0)],
  [(.iconst 0, [], 0), (.ireturn, [1], 0)],
  [(.lload 22, [], 0), (.aload_n 1, [], 0), (.invokevirtual 130, [160, 1, 9], 1), (.lload 16, [], 0), (.aload_n 1, [], 0), (.invokevirtual 127, [161, 1, 9], 1), (.ldiv, [], 0), (.lmul, [], 0), (.ladd, [], 0), (.lstore 22, [], 0), (.iinc 24 1, [], 0), (.goto (-101), [40], 0)],
  [(.lload 22, [], 0), (.lload 16, [], 0), (.lcmp, [], 0), (.ifCond .ne 10, [45], 0), (.lload 16, [], 0), (.lconst 1, [], 0), (.lcmp, [], 0), (.ifCond .ge 5, [46], 0), (.nop, [45], 0)],
  [(.iconst 0, [], 0), (.ireturn, [1], 0)],
  [(.aload_n 1, [], 0), (.iconst 2, [], 0), (.bipush 8, [], 0), (.invokevirtual 43, [21, 3, 9], 3), (.bipush 8, [], 0), (.if_icmp .ne 7, [47], 0), (.iconst 1, [], 0), (.goto 4, [48], 0)],
  [(.iconst 0, [], 0), (.nop, [48], 0)],
  [(.istore 16, [], 0), (.iconst 0, [], 0), (.istore 17, [], 0), (.nop, [49], 0)],
  [(.iload 17, [], 0), (.bipush 8, [], 0), (.if_icmp .ge 56, [54], 0), (.iload 16, [], 0), (.ifCond .eq 51, [54], 0), (.aload_n 1, [], 0), (.iconst 2, [], 0), (.iload 17, [], 0), (.aload_n 0, [], 0), (.bipush 23, [], 0), (.invokestatic 15, [173, 2], 2), (.iload 17, [], 0), (.ishr, [], 0), (.iload 17, [], 0), (.iconst 3, [], 0), (.if_icmp .ge 8, [50], 0), (.bipush 8, [], 0), (.goto 4, [51], 0)],
  [(.iconst 1, [], 0), (.nop, [51], 0)],
  [(.invokestatic 21, [172, 2], 2), (.invokevirtual 50, [26, 4, 9], 4), (.iconst 1, [], 0), (.if_icmp .ne 7, [52], 0), (.iconst 1, [], 0), (.goto 4, [53], 0)],
  [(.iconst 0, [], 0), (.nop, [53], 0)],
  [(.istore 16, [], 0), (.iinc 17 1, [], 0), (.goto (-57), [49], 0)],
  [(.iload 16, [], 0), (.ifCond .eq 36, [55], 0), (.aload_n 1, [], 0), (.aload_n 0, [], 0), (.bipush 24, [], 0), (.invokestatic 15, [173, 2], 2), (.iconst 2, [], 0), (.invokestatic 21, [172, 2], 2), (.iconst 2, [], 0), (.aload_n 0, [], 0), (.bipush 24, [], 0), (.invokestatic 15, [173, 2], 2), (.iconst 2, [], 0), (.ishr, [], 0), (.bipush 10, [], 0), (.invokestatic 21, [172, 2], 2), (.invokevirtual 53, [61, 4, 9], 4), (.iload 8, [], 0), (.if_icmp .eq 5, [56], 0), (.nop, [55], 0)],
  [(.iconst 0, [], 0), (.ireturn, [1], 0)],
  [(.aload_n 1, [], 0), (.invokevirtual 95, [101, 1, 9], 1), (.istore 17, [], 0), (.iload 17, [], 0), (.ifCond .lt 15, [57], 0), (.iload 11, [], 0), (.ifCond .lt 39, [59], 0), (.iload 17, [], 0), (.iload 11, [], 0), (.if_icmp .lt 32, [59], 0), (.nop, [57], 0)],
  [(.iload 11, [], 0), (.ifCond .ge 8, [58], 0), (.iload 17, [], 0), (.ifCond .ge 22, [59], 0), (.nop, [58], 0)],
  [(.aload_n 1, [], 0), (.iload 8, [], 0), (.invokevirtual 133, [69, 2, 9], 2), (.iconst 1, [], 0), (.if_icmp .ne 12, [59], 0), (.aload_n 1, [], 0), (.invokevirtual 95, [101, 1, 9], 1), (.iload 11, [], 0), (.if_icmp .eq 5, [60], 0), (.nop, [59], 0)],
  [(.iconst 0, [], 0), (.ireturn, [1], 0)],
  [(.aload_n 1, [], 0), (.bipush 11, [], 0), (.invokevirtual 136, [143, 2, 9], 2), (.ifCond .ne 18, [61], 0), (.aload_n 1, [], 0), (.aload_n 1, [], 0), (.invokevirtual 139, [154, 1, 9], 1), (.invokevirtual 142, [152, 2, 9], 2), (.aload_n 1, [], 0), (.invokevirtual 9, [158, 1, 9], 1), (.if_icmp .eq 5, [62], 0), (.nop, [61], 0)],
  [(.iconst 0, [], 0), (.ireturn, [1], 0)],
  [(.aload_n 0, [], 0), (.bipush 25, [], 0), (.invokestatic 15, [173, 2], 2), (.iload 6, [], 0), (.invokestatic 21, [172, 2], 2), (.istore 18, [], 0), (.iload 18, [], 0), (.ifCond .ne 7, [63], 0), (.iconst 1, [], 0), (.goto 16, [65], 0)],
  [(.iload 18, [], 0), (.iconst 1, [], 0), (.if_icmp .ne 8, [64], 0), (.bipush 10, [], 0), (.goto 5, [65], 0)],
  [(.bipush 100, [], 0), (.nop, [65], 0)],
  [(.istore 19, [], 0), (.aload_n 1, [], 0), (.iconst 0, [], 0), (.iconst 1, [], 0), (.iload 18, [], 0), (.iconst 0, [], 0), (.invokevirtual 145, [130, 5, 9], 5), (.ifCond .ne 90, [66], 0), (.aload_n 1, [], 0), (.iconst 0, [], 0), (.invokevirtual 136, [143, 2, 9], 2), (.iload 19, [], 0), (.if_icmp .ne 80, [66], 0), (.aload_n 1, [], 0), (.iconst 3, [], 0), (.iconst 2, [], 0), (.iload 18, [], 0), (.iconst 0, [], 0), (.invokevirtual 145, [130, 5, 9], 5), (.iconst 1, [], 0), (.if_icmp .ne 67, [66], 0), (.aload_n 1, [], 0), (.iconst 2, [], 0), (.invokevirtual 136, [143, 2, 9], 2), (.iload 19, [], 0), (.if_icmp .ne 57, [66], 0), (.aload_n 1, [], 0), (.iconst 3, [], 0), (.invokevirtual 136, [143, 2, 9], 2), (.ifCond .ne 49, [66], 0), (.aload_n 1, [], 0), (.iconst 5, [], 0), (.iconst 2, [], 0), (.iload 18, [], 0), (.iconst 0, [], 0), (.invokevirtual 145, [130, 5, 9], 5), (.iconst 2, [], 0), (.if_icmp .ne 36, [66], 0), (.aload_n 1, [], 0), (.iconst 4, [], 0), (.invokevirtual 136, [143, 2, 9], 2), (.ifCond .ne 28, [66], 0), (.aload_n 1, [], 0), (.iconst 5, [], 0), (.invokevirtual 136, [143, 2, 9], 2), (.bipush (-9), [], 0), (.if_icmp .ne 18, [66], 0), (.aload_n 1, [], 0), (.bipush 11, [], 0), (.invokevirtual 136, [143, 2, 9], 2), (.bipush (-9), [], 0), (.if_icmp .ne 7, [66], 0), (.iconst 1, [], 0), (.goto 4, [67], 0)],
  [(.iconst 0, [], 0), (.nop, [67], 0)],
  [(.ireturn, [1], 0)]]
def am_s0 : List Nat := [0, 60, 77, 86, 103, 291, 293, 358, 359, 373, 374, 405, 406, 410, 412, 506, 508, 511, 513, 519, 522, 590, 592, 595, 636, 638, 644, 650, 672, 673, 684, 685, 690, 699, 741, 807, 820, 822, 828, 842, 915, 971, 994, 996, 1019, 1034, 1036, 1052, 1053, 1058, 1094, 1095, 1109, 1110, 1118, 1156, 1158, 1181, 1191, 1210, 1212, 1236, 1238, 1260, 1271, 1273, 1374, 1375]
/-- WashLine.<init>()V -/
def am_b1 : List (List am_I) := [[(.aload_n 0, [], 0), (.invokespecial 3, [], 0), (.aload_n 0, [], 0), (.bipush 6, [], 0), (.anewarray 9, [6], 0), (.putfield 11, [9, 0], 0), (.aload_n 0, [], 0), (.iconst 4, [], 0), (.anewarray 9, [6], 0), (.putfield 15, [9, 1], 0), (.aload_n 0, [], 0), (.new 18, [8], 0), (.dup, [], 0), (.invokespecial 20, [2, 1], 1), (.putfield 21, [9, 2], 0), (.aload_n 0, [], 0), (.new 25, [3], 0), (.dup, [], 0), (.invokespecial 27, [5, 1], 1), (.putfield 28, [9, 3], 0), (.aload_n 0, [], 0), (.new 32, [0], 0), (.dup, [], 0), (.aload_n 0, [], 0), (.getfield 21, [9, 2], 0), (.invokespecial 34, [7, 2], 2), (.putfield 37, [9, 4], 0), (.aload_n 0, [], 0), (.new 41, [1], 0), (.dup, [], 0), (.invokespecial 43, [16, 1], 1), (.putfield 44, [9, 5], 0), (.aload_n 0, [], 0), (.new 48, [2], 0), (.dup, [], 0), (.aload_n 0, [], 0), (.getfield 21, [9, 2], 0), (.aload_n 0, [], 0), (.getfield 37, [9, 4], 0), (.aload_n 0, [], 0), (.getfield 44, [9, 5], 0), (.invokespecial 50, [17, 4], 4), (.putfield 53, [9, 6], 0), (.aload_n 0, [], 0), (.new 57, [4], 0), (.dup, [], 0), (.aload_n 0, [], 0), (.getfield 21, [9, 2], 0), (.aload_n 0, [], 0), (.getfield 37, [9, 4], 0), (.invokespecial 59, [18, 3], 3), (.putfield 62, [9, 7], 0), (.aload_n 0, [], 0), (.new 66, [7], 0), (.dup, [], 0), (.aload_n 0, [], 0), (.getfield 37, [9, 4], 0), (.aload_n 0, [], 0), (.getfield 44, [9, 5], 0), (.aload_n 0, [], 0), (.getfield 53, [9, 6], 0), (.aload_n 0, [], 0), (.getfield 62, [9, 7], 0), (.invokespecial 68, [19, 5], 5), (.putfield 71, [9, 8], 0), (.aload_n 0, [], 0), (.new 75, [5], 0), (.dup, [], 0), (.aload_n 0, [], 0), (.getfield 21, [9, 2], 0), (.aload_n 0, [], 0), (.getfield 44, [9, 5], 0), (.invokespecial 77, [20, 3], 3), (.putfield 80, [9, 9], 0), (.aload_n 0, [], 0), (.bipush 6, [], 0), (.newarray .int, [], 0), (.putfield 84, [9, 10], 0), (.aload_n 0, [], 0), (.iconst 0, [], 0), (.putfield 88, [9, 11], 0), (.aload_n 0, [], 0), (.iconst 0, [], 0), (.putfield 92, [9, 12], 0), (.aload_n 0, [], 0), (.lconst 0, [], 0), (.putfield 95, [9, 13], 0), (.aload_n 0, [], 0), (.lconst 0, [], 0), (.putfield 99, [9, 14], 0), (.aload_n 0, [], 0), (.lconst 1, [], 0), (.putfield 102, [9, 15], 0), (.iconst 0, [], 0), (.istore_n 1, [], 0), (.nop, [1], 0)],
  [(.iload_n 1, [], 0), (.bipush 6, [], 0), (.if_icmp .ge 24, [2], 0), (.aload_n 0, [], 0), (.getfield 11, [9, 0], 0), (.iload_n 1, [], 0), (.new 9, [6], 0), (.dup, [], 0), (.bipush 40, [], 0), (.invokespecial 105, [6, 2], 2), (.aastore, [], 0), (.iinc 1 1, [], 0), (.goto (-24), [1], 0)],
  [(.iconst 0, [], 0), (.istore_n 1, [], 0), (.nop, [3], 0)],
  [(.iload_n 1, [], 0), (.iconst 4, [], 0), (.if_icmp .ge 24, [4], 0), (.aload_n 0, [], 0), (.getfield 15, [9, 1], 0), (.iload_n 1, [], 0), (.new 9, [6], 0), (.dup, [], 0), (.bipush 120, [], 0), (.invokespecial 105, [6, 2], 2), (.aastore, [], 0), (.iinc 1 1, [], 0), (.goto (-23), [3], 0)],
  [(.return_, [], 0)]]
def am_s1 : List Nat := [0, 192, 219, 221, 247]
/-- WashLine$World.<init>()V -/
def am_b2 : List (List am_I) := [[(.aload_n 0, [], 0), (.invokespecial 3, [], 0), (.aload_n 0, [], 0), (.bipush 6, [], 0), (.newarray .int, [], 0), (.putfield 9, [8, 1], 0), (.aload_n 0, [], 0), (.bipush 48, [], 0), (.newarray .int, [], 0), (.putfield 15, [8, 2], 0), (.aload_n 0, [], 0), (.bipush 48, [], 0), (.newarray .int, [], 0), (.putfield 18, [8, 3], 0), (.aload_n 0, [], 0), (.iconst 5, [], 0), (.newarray .int, [], 0), (.putfield 21, [8, 5], 0), (.aload_n 0, [], 0), (.invokevirtual 24, [3, 1, 8], 1), (.return_, [], 0)]]
def am_s2 : List Nat := [0]
/-- WashLine$World.clear()V -/
def am_b3 : List (List am_I) := [[(.aload_n 0, [], 0), (.iconst 0, [], 0), (.putfield 27, [8, 0], 0), (.aload_n 0, [], 0), (.iconst 0, [], 0), (.putfield 31, [8, 4], 0), (.aload_n 0, [], 0), (.getfield 9, [8, 1], 0), (.bipush (-9), [], 0), (.invokestatic 34, [4, 2], 2), (.aload_n 0, [], 0), (.getfield 15, [8, 2], 0), (.iconst 0, [], 0), (.invokestatic 34, [4, 2], 2), (.aload_n 0, [], 0), (.getfield 18, [8, 3], 0), (.iconst 0, [], 0), (.invokestatic 34, [4, 2], 2), (.aload_n 0, [], 0), (.getfield 21, [8, 5], 0), (.iconst 0, [], 0), (.iconst 3, [], 0), (.iastore, [], 0), (.aload_n 0, [], 0), (.getfield 21, [8, 5], 0), (.iconst 1, [], 0), (.iconst 3, [], 0), (.iastore, [], 0), (.aload_n 0, [], 0), (.getfield 21, [8, 5], 0), (.iconst 2, [], 0), (.iconst 1, [], 0), (.iastore, [], 0), (.aload_n 0, [], 0), (.getfield 21, [8, 5], 0), (.iconst 3, [], 0), (.iconst 2, [], 0), (.iastore, [], 0), (.aload_n 0, [], 0), (.getfield 21, [8, 5], 0), (.iconst 4, [], 0), (.iconst 2, [], 0), (.iastore, [], 0), (.return_, [], 0)]]
def am_s3 : List Nat := [0]
/-- java/util/Arrays.fill([II)V -/
def am_b4 : List (List am_I) := [[(.iconst 0, [], 0), (.istore_n 2, [], 0), (.aload_n 0, [], 0), (.arraylength, [], 0), (.istore_n 3, [], 0), (.nop, [1], 0)],
  [(.iload_n 2, [], 0), (.iload_n 3, [], 0), (.if_icmp .ge 13, [2], 0), (.aload_n 0, [], 0), (.iload_n 2, [], 0), (.iload_n 1, [], 0), (.iastore, [], 0), (.iinc 2 1, [], 0), (.goto (-12), [1], 0)],
  [(.return_, [], 0)]]
def am_s4 : List Nat := [0, 5, 20]
/-- WashLine$Reader.<init>()V -/
def am_b5 : List (List am_I) := [[(.aload_n 0, [], 0), (.invokespecial 3, [], 0), (.aload_n 0, [], 0), (.new 9, [6], 0), (.dup, [], 0), (.iconst 0, [], 0), (.invokespecial 11, [6, 2], 2), (.putfield 14, [3, 0], 0), (.aload_n 0, [], 0), (.new 20, [8], 0), (.dup, [], 0), (.invokespecial 22, [2, 1], 1), (.putfield 23, [3, 2], 0), (.return_, [], 0)]]
def am_s5 : List Nat := [0]
/-- WashLine$Strip.<init>(I)V -/
def am_b6 : List (List am_I) := [[(.aload_n 0, [], 0), (.invokespecial 1, [], 0), (.aload_n 0, [], 0), (.iconst (-1), [], 0), (.putfield 7, [6, 1], 0), (.aload_n 0, [], 0), (.iload_n 1, [], 0), (.newarray .int, [], 0), (.putfield 13, [6, 0], 0), (.return_, [], 0)]]
def am_s6 : List Nat := [0]
/-- WashLine$Houses.<init>(LWashLine$World;)V -/
def am_b7 : List (List am_I) := [[(.aload_n 0, [], 0), (.invokespecial 3, [], 0), (.aload_n 0, [], 0), (.sipush 462, [], 0), (.newarray .int, [], 0), (.putfield 9, [0, 2], 0), (.aload_n 0, [], 0), (.sipush 462, [], 0), (.newarray .int, [], 0), (.putfield 15, [0, 3], 0), (.aload_n 0, [], 0), (.sipush 2772, [], 0), (.newarray .int, [], 0), (.putfield 18, [0, 4], 0), (.aload_n 0, [], 0), (.sipush 2772, [], 0), (.newarray .int, [], 0), (.putfield 21, [0, 5], 0), (.aload_n 0, [], 0), (.sipush 2772, [], 0), (.newarray .int, [], 0), (.putfield 24, [0, 6], 0), (.aload_n 0, [], 0), (.sipush 2772, [], 0), (.newarray .int, [], 0), (.putfield 27, [0, 7], 0), (.aload_n 0, [], 0), (.sipush 3696, [], 0), (.newarray .int, [], 0), (.putfield 30, [0, 8], 0), (.aload_n 0, [], 0), (.sipush 3696, [], 0), (.newarray .int, [], 0), (.putfield 33, [0, 9], 0), (.aload_n 0, [], 0), (.aload_n 1, [], 0), (.putfield 36, [0, 0], 0), (.aload_n 0, [], 0), (.invokevirtual 40, [8, 1, 0], 1), (.return_, [], 0)]]
def am_s7 : List Nat := [0]
/-- WashLine$Houses.build()V -/
def am_b8 : List (List am_I) := [[(.aload_n 0, [], 0), (.invokevirtual 43, [9, 1, 0], 1), (.iconst 0, [], 0), (.istore_n 1, [], 0), (.nop, [1], 0)],
  [(.iload_n 1, [], 0), (.aload_n 0, [], 0), (.getfield 46, [0, 1], 0), (.if_icmp .ge 115, [8], 0), (.iconst 0, [], 0), (.istore_n 2, [], 0), (.nop, [2], 0)],
  [(.iload_n 2, [], 0), (.bipush 6, [], 0), (.if_icmp .ge 96, [7], 0), (.aload_n 0, [], 0), (.getfield 21, [0, 5], 0), (.iload_n 1, [], 0), (.bipush 6, [], 0), (.imul, [], 0), (.iload_n 2, [], 0), (.iadd, [], 0), (.iload_n 2, [], 0), (.aload_n 0, [], 0), (.getfield 36, [0, 0], 0), (.getfield 50, [8, 0], 0), (.if_icmp .ge 22, [3], 0), (.aload_n 0, [], 0), (.aload_n 0, [], 0), (.getfield 9, [0, 2], 0), (.iload_n 1, [], 0), (.iaload, [], 0), (.getstatic 55, [], 0), (.iload_n 2, [], 0), (.iaload, [], 0), (.iadd, [], 0), (.invokevirtual 58, [13, 2, 0], 2), (.goto 4, [4], 0)],
  [(.iconst (-1), [], 0), (.nop, [4], 0)],
  [(.iastore, [], 0), (.aload_n 0, [], 0), (.getfield 24, [0, 6], 0), (.iload_n 1, [], 0), (.bipush 6, [], 0), (.imul, [], 0), (.iload_n 2, [], 0), (.iadd, [], 0), (.aload_n 0, [], 0), (.getfield 18, [0, 4], 0), (.iload_n 1, [], 0), (.bipush 6, [], 0), (.imul, [], 0), (.iload_n 2, [], 0), (.iadd, [], 0), (.iaload, [], 0), (.ifCond .le 22, [5], 0), (.aload_n 0, [], 0), (.aload_n 0, [], 0), (.getfield 9, [0, 2], 0), (.iload_n 1, [], 0), (.iaload, [], 0), (.getstatic 55, [], 0), (.iload_n 2, [], 0), (.iaload, [], 0), (.isub, [], 0), (.invokevirtual 58, [13, 2, 0], 2), (.goto 4, [6], 0)],
  [(.iconst (-1), [], 0), (.nop, [6], 0)],
  [(.iastore, [], 0), (.iinc 2 1, [], 0), (.goto (-96), [2], 0)],
  [(.aload_n 0, [], 0), (.iload_n 1, [], 0), (.invokevirtual 62, [14, 2, 0], 2), (.iinc 1 1, [], 0), (.goto (-117), [1], 0)],
  [(.iconst 0, [], 0), (.istore_n 1, [], 0), (.nop, [9], 0)],
  [(.iload_n 1, [], 0), (.aload_n 0, [], 0), (.getfield 46, [0, 1], 0), (.if_icmp .ge 40, [12], 0), (.iconst 0, [], 0), (.istore_n 2, [], 0), (.nop, [10], 0)],
  [(.iload_n 2, [], 0), (.bipush 6, [], 0), (.if_icmp .ge 26, [11], 0), (.aload_n 0, [], 0), (.getfield 27, [0, 7], 0), (.iload_n 1, [], 0), (.bipush 6, [], 0), (.imul, [], 0), (.iload_n 2, [], 0), (.iadd, [], 0), (.aload_n 0, [], 0), (.iload_n 1, [], 0), (.iload_n 2, [], 0), (.invokevirtual 66, [15, 3, 0], 3), (.iastore, [], 0), (.iinc 2 1, [], 0), (.goto (-26), [10], 0)],
  [(.iinc 1 1, [], 0), (.goto (-42), [9], 0)],
  [(.return_, [], 0)]]
def am_s8 : List Nat := [0, 6, 16, 62, 63, 107, 108, 115, 126, 128, 138, 167, 173]
/-- WashLine$Houses.list()V -/
def am_b9 : List (List am_I) := [[(.aload_n 0, [], 0), (.iconst 1, [], 0), (.putfield 46, [0, 1], 0), (.aload_n 0, [], 0), (.getfield 9, [0, 2], 0), (.iconst 0, [], 0), (.iconst 0, [], 0), (.iastore, [], 0), (.aload_n 0, [], 0), (.getfield 15, [0, 3], 0), (.iconst 0, [], 0), (.iconst 0, [], 0), (.iastore, [], 0), (.aload_n 0, [], 0), (.getfield 18, [0, 4], 0), (.iconst 0, [], 0), (.bipush 6, [], 0), (.iconst 0, [], 0), (.invokestatic 70, [10, 4], 4), (.nop, [1], 0)],
  [(.aload_n 0, [], 0), (.getfield 46, [0, 1], 0), (.sipush 462, [], 0), (.if_icmp .ge 33, [2], 0), (.aload_n 0, [], 0), (.aload_n 0, [], 0), (.getfield 46, [0, 1], 0), (.iconst 1, [], 0), (.isub, [], 0), (.aload_n 0, [], 0), (.getfield 46, [0, 1], 0), (.invokevirtual 76, [12, 3, 0], 3), (.ifCond .eq 16, [2], 0), (.aload_n 0, [], 0), (.dup, [], 0), (.getfield 46, [0, 1], 0), (.iconst 1, [], 0), (.iadd, [], 0), (.putfield 46, [0, 1], 0), (.goto (-37), [1], 0)],
  [(.return_, [], 0)]]
def am_s9 : List Nat := [0, 30, 70]
/-- java/util/Arrays.fill([IIII)V -/
def am_b10 : List (List am_I) := [[(.aload_n 0, [], 0), (.arraylength, [], 0), (.iload_n 1, [], 0), (.iload_n 2, [], 0), (.invokestatic 13, [11, 3], 3), (.iload_n 1, [], 0), (.istore 4, [], 0), (.nop, [1], 0)],
  [(.iload 4, [], 0), (.iload_n 2, [], 0), (.if_icmp .ge 14, [2], 0), (.aload_n 0, [], 0), (.iload 4, [], 0), (.iload_n 3, [], 0), (.iastore, [], 0), (.iinc 4 1, [], 0), (.goto (-14), [1], 0)],
  [(.return_, [], 0)]]
def am_s10 : List Nat := [0, 10, 27]
/-- java/util/Arrays.rangeCheck(III)V -/
def am_b11 : List (List am_I) := [[(.iload_n 1, [], 0), (.iload_n 2, [], 0), (.if_icmp .le 44, [1], 0)],
  [(.iload_n 1, [], 0), (.ifCond .ge 12, [2], 0)],
  [(.iload_n 2, [], 0), (.iload_n 0, [], 0), (.if_icmp .le 12, [3], 0)],
  [(.return_, [], 0)]]
def am_s11 : List Nat := [0, 46, 59, 73]
/-- WashLine$Houses.follow(II)Z -/
def am_b12 : List (List am_I) := [[(.aload_n 0, [], 0), (.getfield 15, [0, 3], 0), (.iload_n 1, [], 0), (.iaload, [], 0), (.istore_n 3, [], 0), (.aload_n 0, [], 0), (.getfield 9, [0, 2], 0), (.iload_n 1, [], 0), (.iaload, [], 0), (.istore 4, [], 0), (.iconst 0, [], 0), (.istore 5, [], 0), (.nop, [1], 0)],
  [(.iload 5, [], 0), (.aload_n 0, [], 0), (.getfield 36, [0, 0], 0), (.getfield 50, [8, 0], 0), (.if_icmp .ge 135, [3], 0), (.iload_n 3, [], 0), (.iconst 5, [], 0), (.if_icmp .ge 85, [2], 0), (.aload_n 0, [], 0), (.getfield 18, [0, 4], 0), (.iload_n 1, [], 0), (.bipush 6, [], 0), (.imul, [], 0), (.aload_n 0, [], 0), (.getfield 18, [0, 4], 0), (.iload_n 2, [], 0), (.bipush 6, [], 0), (.imul, [], 0), (.bipush 6, [], 0), (.invokestatic 80, [], 0), (.aload_n 0, [], 0), (.getfield 18, [0, 4], 0), (.iload_n 2, [], 0), (.bipush 6, [], 0), (.imul, [], 0), (.iload_n 2, [], 0), (.bipush 6, [], 0), (.imul, [], 0), (.iload 5, [], 0), (.iadd, [], 0), (.iconst 0, [], 0), (.invokestatic 70, [10, 4], 4), (.aload_n 0, [], 0), (.getfield 18, [0, 4], 0), (.iload_n 2, [], 0), (.bipush 6, [], 0), (.imul, [], 0), (.iload 5, [], 0), (.iadd, [], 0), (.dup2, [], 0), (.iaload, [], 0), (.iconst 1, [], 0), (.iadd, [], 0), (.iastore, [], 0), (.aload_n 0, [], 0), (.getfield 15, [0, 3], 0), (.iload_n 2, [], 0), (.iload_n 3, [], 0), (.iconst 1, [], 0), (.iadd, [], 0), (.iastore, [], 0), (.aload_n 0, [], 0), (.getfield 9, [0, 2], 0), (.iload_n 2, [], 0), (.iload 4, [], 0), (.getstatic 55, [], 0), (.iload 5, [], 0), (.iaload, [], 0), (.iadd, [], 0), (.iastore, [], 0), (.iconst 1, [], 0), (.ireturn, [1], 0)],
  [(.iload_n 3, [], 0), (.aload_n 0, [], 0), (.getfield 18, [0, 4], 0), (.iload_n 1, [], 0), (.bipush 6, [], 0), (.imul, [], 0), (.iload 5, [], 0), (.iadd, [], 0), (.iaload, [], 0), (.isub, [], 0), (.istore_n 3, [], 0), (.iload 4, [], 0), (.aload_n 0, [], 0), (.getfield 18, [0, 4], 0), (.iload_n 1, [], 0), (.bipush 6, [], 0), (.imul, [], 0), (.iload 5, [], 0), (.iadd, [], 0), (.iaload, [], 0), (.getstatic 55, [], 0), (.iload 5, [], 0), (.iaload, [], 0), (.imul, [], 0), (.isub, [], 0), (.istore 4, [], 0), (.iinc 5 1, [], 0), (.goto (-141), [1], 0)],
  [(.iconst 0, [], 0), (.ireturn, [1], 0)]]
def am_s12 : List Nat := [0, 18, 117, 162]
/-- WashLine$Houses.find(I)I -/
def am_b13 : List (List am_I) := [[(.iconst 0, [], 0), (.istore_n 2, [], 0), (.aload_n 0, [], 0), (.getfield 46, [0, 1], 0), (.iconst 1, [], 0), (.isub, [], 0), (.istore_n 3, [], 0), (.nop, [1], 0)],
  [(.iload_n 2, [], 0), (.iload_n 3, [], 0), (.if_icmp .gt 51, [5], 0), (.iload_n 2, [], 0), (.iload_n 3, [], 0), (.iadd, [], 0), (.iconst 2, [], 0), (.idiv, [], 0), (.istore 4, [], 0), (.aload_n 0, [], 0), (.getfield 9, [0, 2], 0), (.iload 4, [], 0), (.iaload, [], 0), (.iload_n 1, [], 0), (.if_icmp .ne 6, [2], 0), (.iload 4, [], 0), (.ireturn, [0], 0)],
  [(.aload_n 0, [], 0), (.getfield 9, [0, 2], 0), (.iload 4, [], 0), (.iaload, [], 0), (.iload_n 1, [], 0), (.if_icmp .ge 11, [3], 0), (.iload 4, [], 0), (.iconst 1, [], 0), (.iadd, [], 0), (.istore_n 2, [], 0), (.goto 8, [4], 0)],
  [(.iload 4, [], 0), (.iconst 1, [], 0), (.isub, [], 0), (.istore_n 3, [], 0), (.nop, [4], 0)],
  [(.goto (-50), [1], 0)],
  [(.iconst (-1), [], 0), (.ireturn, [0], 0)]]
def am_s13 : List Nat := [0, 9, 35, 54, 59, 62]
/-- WashLine$Houses.hang(I)V -/
def am_b14 : List (List am_I) := [[(.iconst 0, [], 0), (.istore_n 2, [], 0), (.nop, [1], 0)],
  [(.iload_n 2, [], 0), (.bipush 8, [], 0), (.if_icmp .ge 124, [4], 0), (.iconst 0, [], 0), (.istore_n 3, [], 0), (.iconst 0, [], 0), (.istore 4, [], 0), (.iconst 0, [], 0), (.istore 5, [], 0), (.nop, [2], 0)],
  [(.iload 5, [], 0), (.aload_n 0, [], 0), (.getfield 36, [0, 0], 0), (.getfield 50, [8, 0], 0), (.if_icmp .ge 73, [3], 0), (.iload_n 3, [], 0), (.aload_n 0, [], 0), (.getfield 18, [0, 4], 0), (.iload_n 1, [], 0), (.bipush 6, [], 0), (.imul, [], 0), (.iload 5, [], 0), (.iadd, [], 0), (.iaload, [], 0), (.aload_n 0, [], 0), (.getfield 36, [0, 0], 0), (.getfield 89, [8, 2], 0), (.iload 5, [], 0), (.bipush 8, [], 0), (.imul, [], 0), (.iload_n 2, [], 0), (.iadd, [], 0), (.iaload, [], 0), (.imul, [], 0), (.iadd, [], 0), (.istore_n 3, [], 0), (.iload 4, [], 0), (.aload_n 0, [], 0), (.getfield 18, [0, 4], 0), (.iload_n 1, [], 0), (.bipush 6, [], 0), (.imul, [], 0), (.iload 5, [], 0), (.iadd, [], 0), (.iaload, [], 0), (.aload_n 0, [], 0), (.getfield 36, [0, 0], 0), (.getfield 90, [8, 3], 0), (.iload 5, [], 0), (.bipush 8, [], 0), (.imul, [], 0), (.iload_n 2, [], 0), (.iadd, [], 0), (.iaload, [], 0), (.imul, [], 0), (.iadd, [], 0), (.istore 4, [], 0), (.iinc 5 1, [], 0), (.goto (-79), [2], 0)],
  [(.aload_n 0, [], 0), (.getfield 30, [0, 8], 0), (.iload_n 1, [], 0), (.bipush 8, [], 0), (.imul, [], 0), (.iload_n 2, [], 0), (.iadd, [], 0), (.iload_n 3, [], 0), (.iastore, [], 0), (.aload_n 0, [], 0), (.getfield 33, [0, 9], 0), (.iload_n 1, [], 0), (.bipush 8, [], 0), (.imul, [], 0), (.iload_n 2, [], 0), (.iadd, [], 0), (.iload 4, [], 0), (.iastore, [], 0), (.iinc 2 1, [], 0), (.goto (-124), [1], 0)],
  [(.return_, [], 0)]]
def am_s14 : List Nat := [0, 2, 16, 98, 129]
/-- WashLine$Houses.grown(II)I -/
def am_b15 : List (List am_I) := [[(.aload_n 0, [], 0), (.getfield 24, [0, 6], 0), (.iload_n 1, [], 0), (.bipush 6, [], 0), (.imul, [], 0), (.iload_n 2, [], 0), (.iadd, [], 0), (.iaload, [], 0), (.istore_n 3, [], 0), (.iload_n 3, [], 0), (.ifCond .lt 15, [1], 0), (.aload_n 0, [], 0), (.getfield 36, [0, 0], 0), (.getfield 86, [8, 1], 0), (.iload_n 2, [], 0), (.iaload, [], 0), (.ifCond .ge 7, [2], 0), (.nop, [1], 0)],
  [(.iconst (-1), [], 0), (.goto 22, [3], 0)],
  [(.aload_n 0, [], 0), (.getfield 21, [0, 5], 0), (.iload_n 3, [], 0), (.bipush 6, [], 0), (.imul, [], 0), (.aload_n 0, [], 0), (.getfield 36, [0, 0], 0), (.getfield 86, [8, 1], 0), (.iload_n 2, [], 0), (.iaload, [], 0), (.iadd, [], 0), (.iaload, [], 0), (.nop, [3], 0)],
  [(.ireturn, [0], 0)]]
def am_s15 : List Nat := [0, 28, 32, 51]
/-- WashLine$Line.<init>()V -/
def am_b16 : List (List am_I) := [[(.aload_n 0, [], 0), (.invokespecial 3, [], 0), (.aload_n 0, [], 0), (.iconst 0, [], 0), (.putfield 9, [1, 0], 0), (.aload_n 0, [], 0), (.bipush 12, [], 0), (.newarray .int, [], 0), (.putfield 15, [1, 1], 0), (.aload_n 0, [], 0), (.bipush 12, [], 0), (.newarray .int, [], 0), (.putfield 19, [1, 2], 0), (.aload_n 0, [], 0), (.bipush 96, [], 0), (.newarray .int, [], 0), (.putfield 22, [1, 3], 0), (.return_, [], 0)]]
def am_s16 : List Nat := [0]
/-- WashLine$Looks.<init>(LWashLine$World;LWashLine$Houses;LWashLine$Line;)V -/
def am_b17 : List (List am_I) := [[(.aload_n 0, [], 0), (.invokespecial 3, [], 0), (.aload_n 0, [], 0), (.aload_n 1, [], 0), (.putfield 9, [2, 0], 0), (.aload_n 0, [], 0), (.aload_n 2, [], 0), (.putfield 15, [2, 1], 0), (.aload_n 0, [], 0), (.aload_n 3, [], 0), (.putfield 19, [2, 2], 0), (.return_, [], 0)]]
def am_s17 : List Nat := [0]
/-- WashLine$Steps.<init>(LWashLine$World;LWashLine$Houses;)V -/
def am_b18 : List (List am_I) := [[(.aload_n 0, [], 0), (.invokespecial 3, [], 0), (.aload_n 0, [], 0), (.sipush 462, [], 0), (.newarray .int, [], 0), (.putfield 9, [4, 2], 0), (.aload_n 0, [], 0), (.iconst 0, [], 0), (.newarray .byte, [], 0), (.putfield 15, [4, 3], 0), (.aload_n 0, [], 0), (.sipush 462, [], 0), (.newarray .boolean, [], 0), (.putfield 19, [4, 4], 0), (.aload_n 0, [], 0), (.aload_n 1, [], 0), (.putfield 23, [4, 0], 0), (.aload_n 0, [], 0), (.aload_n 2, [], 0), (.putfield 27, [4, 1], 0), (.return_, [], 0)]]
def am_s18 : List Nat := [0]
/-- WashLine$Winter.<init>(LWashLine$Houses;LWashLine$Line;LWashLine$Looks;LWashLine$Steps;)V -/
def am_b19 : List (List am_I) := [[(.aload_n 0, [], 0), (.invokespecial 3, [], 0), (.aload_n 0, [], 0), (.iconst 0, [], 0), (.putfield 9, [7, 4], 0), (.aload_n 0, [], 0), (.iconst 0, [], 0), (.putfield 15, [7, 5], 0), (.aload_n 0, [], 0), (.iconst 0, [], 0), (.putfield 18, [7, 6], 0), (.aload_n 0, [], 0), (.lconst 0, [], 0), (.putfield 22, [7, 7], 0), (.aload_n 0, [], 0), (.bipush 12, [], 0), (.newarray .int, [], 0), (.putfield 26, [7, 8], 0), (.aload_n 0, [], 0), (.sipush 462, [], 0), (.newarray .int, [], 0), (.putfield 30, [7, 9], 0), (.aload_n 0, [], 0), (.sipush 5544, [], 0), (.newarray .int, [], 0), (.putfield 33, [7, 10], 0), (.aload_n 0, [], 0), (.sipush 5544, [], 0), (.newarray .int, [], 0), (.putfield 36, [7, 11], 0), (.aload_n 0, [], 0), (.sipush 5544, [], 0), (.newarray .int, [], 0), (.putfield 39, [7, 12], 0), (.aload_n 0, [], 0), (.sipush 5544, [], 0), (.newarray .int, [], 0), (.putfield 42, [7, 13], 0), (.aload_n 0, [], 0), (.bipush 12, [], 0), (.newarray .int, [], 0), (.putfield 45, [7, 14], 0), (.aload_n 0, [], 0), (.sipush 5544, [], 0), (.newarray .long, [], 0), (.putfield 48, [7, 15], 0), (.aload_n 0, [], 0), (.sipush 5544, [], 0), (.newarray .long, [], 0), (.putfield 52, [7, 16], 0), (.aload_n 0, [], 0), (.bipush 64, [], 0), (.newarray .int, [], 0), (.putfield 55, [7, 17], 0), (.aload_n 0, [], 0), (.aload_n 1, [], 0), (.putfield 58, [7, 0], 0), (.aload_n 0, [], 0), (.aload_n 2, [], 0), (.putfield 62, [7, 1], 0), (.aload_n 0, [], 0), (.aload_n 3, [], 0), (.putfield 66, [7, 2], 0), (.aload_n 0, [], 0), (.aload 4, [], 0), (.putfield 70, [7, 3], 0), (.return_, [], 0)]]
def am_s19 : List Nat := [0]
/-- WashLine$Story.<init>(LWashLine$World;LWashLine$Line;)V -/
def am_b20 : List (List am_I) := [[(.aload_n 0, [], 0), (.invokespecial 3, [], 0), (.aload_n 0, [], 0), (.iconst 0, [], 0), (.putfield 9, [5, 2], 0), (.aload_n 0, [], 0), (.bipush 16, [], 0), (.newarray .int, [], 0), (.putfield 15, [5, 3], 0), (.aload_n 0, [], 0), (.bipush 16, [], 0), (.newarray .int, [], 0), (.putfield 19, [5, 4], 0), (.aload_n 0, [], 0), (.bipush 16, [], 0), (.newarray .int, [], 0), (.putfield 22, [5, 5], 0), (.aload_n 0, [], 0), (.bipush 16, [], 0), (.newarray .int, [], 0), (.putfield 25, [5, 6], 0), (.aload_n 0, [], 0), (.bipush 6, [], 0), (.newarray .int, [], 0), (.putfield 28, [5, 7], 0), (.aload_n 0, [], 0), (.bipush 8, [], 0), (.newarray .int, [], 0), (.putfield 31, [5, 8], 0), (.aload_n 0, [], 0), (.bipush 8, [], 0), (.newarray .int, [], 0), (.putfield 34, [5, 9], 0), (.aload_n 0, [], 0), (.bipush (-9), [], 0), (.putfield 37, [5, 10], 0), (.aload_n 0, [], 0), (.aload_n 1, [], 0), (.putfield 40, [5, 0], 0), (.aload_n 0, [], 0), (.aload_n 2, [], 0), (.putfield 44, [5, 1], 0), (.return_, [], 0)]]
def am_s20 : List Nat := [0]
/-- WashLine.row(II)I -/
def am_b21 : List (List am_I) := [[(.iload_n 1, [], 0), (.invokestatic 108, [22, 1], 1), (.ifCond .eq 9, [1], 0), (.iload_n 2, [], 0), (.bipush 40, [], 0), (.if_icmp .le 5, [2], 0), (.nop, [1], 0)],
  [(.iconst (-1), [], 0), (.ireturn, [0], 0)],
  [(.iload_n 2, [], 0), (.ifCond .ge 9, [3], 0), (.aload_n 0, [], 0), (.iconst 5, [], 0), (.invokevirtual 112, [24, 2, 9], 2), (.ireturn, [0], 0)],
  [(.aload_n 0, [], 0), (.getfield 11, [9, 0], 0), (.iload_n 1, [], 0), (.aaload, [], 0), (.iload_n 2, [], 0), (.iconst 0, [], 0), (.invokevirtual 116, [25, 3, 6], 3), (.iload_n 2, [], 0), (.ireturn, [0], 0)]]
def am_s21 : List Nat := [0, 13, 15, 25]
/-- WashLine.isRow(I)Z -/
def am_b22 : List (List am_I) := [[(.iload_n 0, [], 0), (.iconst 5, [], 0), (.invokestatic 197, [23, 2], 2), (.ireturn, [1], 0)]]
def am_s22 : List Nat := [0]
/-- WashLine.isWithin(II)Z -/
def am_b23 : List (List am_I) := [[(.iload_n 0, [], 0), (.ifCond .lt 12, [1], 0), (.iload_n 0, [], 0), (.iload_n 1, [], 0), (.if_icmp .gt 7, [1], 0), (.iconst 1, [], 0), (.goto 4, [2], 0)],
  [(.iconst 0, [], 0), (.nop, [2], 0)],
  [(.ireturn, [1], 0)]]
def am_s23 : List Nat := [0, 13, 14]
/-- WashLine.finds(I)I -/
def am_b24 : List (List am_I) := [[(.aload_n 0, [], 0), (.iload_n 1, [], 0), (.putfield 88, [9, 11], 0), (.aload_n 0, [], 0), (.getfield 84, [9, 10], 0), (.iload_n 1, [], 0), (.dup2, [], 0), (.iaload, [], 0), (.iconst 1, [], 0), (.iadd, [], 0), (.iastore, [], 0), (.bipush (-3), [], 0), (.ireturn, [0], 0)]]
def am_s24 : List Nat := [0]
/-- WashLine$Strip.begin(II)V -/
def am_b25 : List (List am_I) := [[(.aload_n 0, [], 0), (.iload_n 1, [], 0), (.putfield 7, [6, 1], 0), (.aload_n 0, [], 0), (.getfield 13, [6, 0], 0), (.iload_n 2, [], 0), (.invokestatic 17, [4, 2], 2), (.return_, [], 0)]]
def am_s25 : List Nat := [0]
/-- WashLine.lay(III)I -/
def am_b26 : List (List am_I) := [[(.iload_n 1, [], 0), (.invokestatic 108, [22, 1], 1), (.ifCond .ne 5, [1], 0), (.iconst (-1), [], 0), (.ireturn, [0], 0)],
  [(.aload_n 0, [], 0), (.getfield 11, [9, 0], 0), (.iload_n 1, [], 0), (.aaload, [], 0), (.invokevirtual 120, [27, 1, 6], 1), (.ifCond .eq 9, [2], 0), (.aload_n 0, [], 0), (.iconst 1, [], 0), (.invokevirtual 112, [24, 2, 9], 2), (.ireturn, [0], 0)],
  [(.aload_n 0, [], 0), (.getfield 11, [9, 0], 0), (.iload_n 1, [], 0), (.aaload, [], 0), (.iload_n 2, [], 0), (.invokevirtual 124, [28, 2, 6], 2), (.ifCond .ne 9, [3], 0), (.aload_n 0, [], 0), (.iconst 2, [], 0), (.invokevirtual 112, [24, 2, 9], 2), (.ireturn, [0], 0)],
  [(.aload_n 0, [], 0), (.aload_n 0, [], 0), (.getfield 11, [9, 0], 0), (.iload_n 1, [], 0), (.aaload, [], 0), (.iload_n 2, [], 0), (.iload_n 3, [], 0), (.invokevirtual 127, [29, 3, 6], 3), (.iconst 1, [], 0), (.invokevirtual 131, [30, 3, 9], 3), (.ireturn, [0], 0)]]
def am_s26 : List Nat := [0, 9, 27, 46]
/-- WashLine$Strip.isMissing()Z -/
def am_b27 : List (List am_I) := [[(.aload_n 0, [], 0), (.getfield 7, [6, 1], 0), (.ifCond .ge 7, [1], 0), (.iconst 1, [], 0), (.goto 4, [2], 0)],
  [(.iconst 0, [], 0), (.nop, [2], 0)],
  [(.ireturn, [1], 0)]]
def am_s27 : List Nat := [0, 11, 12]
/-- WashLine$Strip.has(I)Z -/
def am_b28 : List (List am_I) := [[(.iload_n 1, [], 0), (.ifCond .lt 15, [1], 0), (.iload_n 1, [], 0), (.aload_n 0, [], 0), (.getfield 7, [6, 1], 0), (.if_icmp .ge 7, [1], 0), (.iconst 1, [], 0), (.goto 4, [2], 0)],
  [(.iconst 0, [], 0), (.nop, [2], 0)],
  [(.ireturn, [1], 0)]]
def am_s28 : List Nat := [0, 16, 17]
/-- WashLine$Strip.swap(II)I -/
def am_b29 : List (List am_I) := [[(.aload_n 0, [], 0), (.getfield 13, [6, 0], 0), (.iload_n 1, [], 0), (.iaload, [], 0), (.istore_n 3, [], 0), (.aload_n 0, [], 0), (.getfield 13, [6, 0], 0), (.iload_n 1, [], 0), (.iload_n 2, [], 0), (.iastore, [], 0), (.iload_n 3, [], 0), (.ireturn, [0], 0)]]
def am_s29 : List Nat := [0]
/-- WashLine.tells(II)I -/
def am_b30 : List (List am_I) := [[(.aload_n 0, [], 0), (.iload_n 1, [], 0), (.putfield 92, [9, 12], 0), (.iload_n 2, [], 0), (.ireturn, [0], 0)]]
def am_s30 : List Nat := [0]
/-- WashLine.at(II)I -/
def am_b31 : List (List am_I) := [[(.iload_n 1, [], 0), (.invokestatic 108, [22, 1], 1), (.ifCond .ne 5, [1], 0), (.iconst (-1), [], 0), (.ireturn, [0], 0)],
  [(.aload_n 0, [], 0), (.getfield 11, [9, 0], 0), (.iload_n 1, [], 0), (.aaload, [], 0), (.invokevirtual 120, [27, 1, 6], 1), (.ifCond .eq 9, [2], 0), (.aload_n 0, [], 0), (.iconst 1, [], 0), (.invokevirtual 112, [24, 2, 9], 2), (.ireturn, [0], 0)],
  [(.aload_n 0, [], 0), (.getfield 11, [9, 0], 0), (.iload_n 1, [], 0), (.aaload, [], 0), (.iload_n 2, [], 0), (.invokevirtual 124, [28, 2, 6], 2), (.ifCond .ne 9, [3], 0), (.aload_n 0, [], 0), (.iconst 2, [], 0), (.invokevirtual 112, [24, 2, 9], 2), (.ireturn, [0], 0)],
  [(.aload_n 0, [], 0), (.aload_n 0, [], 0), (.getfield 11, [9, 0], 0), (.iload_n 1, [], 0), (.aaload, [], 0), (.getfield 134, [6, 0], 0), (.iload_n 2, [], 0), (.iaload, [], 0), (.iconst 1, [], 0), (.invokevirtual 131, [30, 3, 9], 3), (.ireturn, [0], 0)]]
def am_s31 : List Nat := [0, 9, 27, 46]
/-- WashLine.isWithin(II)Z -/
def am_b32 : List (List am_I) := [[(.iload_n 0, [], 0), (.ifCond .lt 12, [1], 0), (.iload_n 0, [], 0), (.iload_n 1, [], 0), (.if_icmp .gt 7, [1], 0), (.iconst 1, [], 0), (.goto 4, [2], 0)],
  [(.iconst 0, [], 0), (.nop, [2], 0)],
  [(.ireturn, [1], 0)]]
def am_s32 : List Nat := [0, 13, 14]
/-- WashLine.isWithin(II)Z -/
def am_b33 : List (List am_I) := [[(.iload_n 0, [], 0), (.ifCond .lt 12, [1], 0), (.iload_n 0, [], 0), (.iload_n 1, [], 0), (.if_icmp .gt 7, [1], 0), (.iconst 1, [], 0), (.goto 4, [2], 0)],
  [(.iconst 0, [], 0), (.nop, [2], 0)],
  [(.ireturn, [1], 0)]]
def am_s33 : List Nat := [0, 13, 14]
/-- WashLine.isWithin(II)Z -/
def am_b34 : List (List am_I) := [[(.iload_n 0, [], 0), (.ifCond .lt 12, [1], 0), (.iload_n 0, [], 0), (.iload_n 1, [], 0), (.if_icmp .gt 7, [1], 0), (.iconst 1, [], 0), (.goto 4, [2], 0)],
  [(.iconst 0, [], 0), (.nop, [2], 0)],
  [(.ireturn, [1], 0)]]
def am_s34 : List Nat := [0, 13, 14]
/-- WashLine.isWithin(II)Z -/
def am_b35 : List (List am_I) := [[(.iload_n 0, [], 0), (.ifCond .lt 12, [1], 0), (.iload_n 0, [], 0), (.iload_n 1, [], 0), (.if_icmp .gt 7, [1], 0), (.iconst 1, [], 0), (.goto 4, [2], 0)],
  [(.iconst 0, [], 0), (.nop, [2], 0)],
  [(.ireturn, [1], 0)]]
def am_s35 : List Nat := [0, 13, 14]
/-- WashLine.isWithin(II)Z -/
def am_b36 : List (List am_I) := [[(.iload_n 0, [], 0), (.ifCond .lt 12, [1], 0), (.iload_n 0, [], 0), (.iload_n 1, [], 0), (.if_icmp .gt 7, [1], 0), (.iconst 1, [], 0), (.goto 4, [2], 0)],
  [(.iconst 0, [], 0), (.nop, [2], 0)],
  [(.ireturn, [1], 0)]]
def am_s36 : List Nat := [0, 13, 14]
/-- WashLine.text(II)I -/
def am_b37 : List (List am_I) := [[(.iload_n 1, [], 0), (.invokestatic 154, [38, 1], 1), (.ifCond .eq 9, [1], 0), (.iload_n 2, [], 0), (.bipush 120, [], 0), (.if_icmp .le 5, [2], 0), (.nop, [1], 0)],
  [(.iconst (-1), [], 0), (.ireturn, [0], 0)],
  [(.iload_n 2, [], 0), (.ifCond .ge 9, [3], 0), (.aload_n 0, [], 0), (.iconst 5, [], 0), (.invokevirtual 112, [24, 2, 9], 2), (.ireturn, [0], 0)],
  [(.aload_n 0, [], 0), (.getfield 15, [9, 1], 0), (.iload_n 1, [], 0), (.aaload, [], 0), (.iload_n 2, [], 0), (.bipush 32, [], 0), (.invokevirtual 116, [25, 3, 6], 3), (.iload_n 2, [], 0), (.ireturn, [0], 0)]]
def am_s37 : List Nat := [0, 13, 15, 25]
/-- WashLine.isText(I)Z -/
def am_b38 : List (List am_I) := [[(.iload_n 0, [], 0), (.iconst 3, [], 0), (.invokestatic 197, [23, 2], 2), (.ireturn, [1], 0)]]
def am_s38 : List Nat := [0]
/-- WashLine.put(III)I -/
def am_b39 : List (List am_I) := [[(.iload_n 1, [], 0), (.invokestatic 154, [38, 1], 1), (.ifCond .ne 5, [1], 0), (.iconst (-1), [], 0), (.ireturn, [0], 0)],
  [(.aload_n 0, [], 0), (.getfield 15, [9, 1], 0), (.iload_n 1, [], 0), (.aaload, [], 0), (.invokevirtual 120, [27, 1, 6], 1), (.ifCond .eq 9, [2], 0), (.aload_n 0, [], 0), (.iconst 1, [], 0), (.invokevirtual 112, [24, 2, 9], 2), (.ireturn, [0], 0)],
  [(.aload_n 0, [], 0), (.getfield 15, [9, 1], 0), (.iload_n 1, [], 0), (.aaload, [], 0), (.iload_n 2, [], 0), (.invokevirtual 124, [28, 2, 6], 2), (.ifCond .ne 9, [3], 0), (.aload_n 0, [], 0), (.iconst 2, [], 0), (.invokevirtual 112, [24, 2, 9], 2), (.ireturn, [0], 0)],
  [(.aload_n 0, [], 0), (.getfield 15, [9, 1], 0), (.iload_n 1, [], 0), (.aaload, [], 0), (.iload_n 2, [], 0), (.iload_n 3, [], 0), (.i2b, [], 0), (.invokevirtual 127, [29, 3, 6], 3), (.sipush 1000, [], 0), (.iadd, [], 0), (.ireturn, [0], 0)]]
def am_s39 : List Nat := [0, 9, 27, 46]
/-- WashLine.fault(I)I -/
def am_b40 : List (List am_I) := [[(.iload_n 1, [], 0), (.invokestatic 154, [38, 1], 1), (.ifCond .ne 5, [1], 0), (.iconst (-1), [], 0), (.ireturn, [0], 0)],
  [(.aload_n 0, [], 0), (.getfield 15, [9, 1], 0), (.iload_n 1, [], 0), (.aaload, [], 0), (.invokevirtual 120, [27, 1, 6], 1), (.ifCond .eq 9, [2], 0), (.aload_n 0, [], 0), (.iconst 1, [], 0), (.invokevirtual 112, [24, 2, 9], 2), (.ireturn, [0], 0)],
  [(.aload_n 0, [], 0), (.getfield 28, [9, 3], 0), (.aload_n 0, [], 0), (.getfield 15, [9, 1], 0), (.iload_n 1, [], 0), (.aaload, [], 0), (.invokevirtual 157, [41, 2, 3], 2), (.ireturn, [0], 0)]]
def am_s40 : List Nat := [0, 9, 27]
/-- WashLine$Reader.read(LWashLine$Strip;)I -/
def am_b41 : List (List am_I) := [[(.aload_n 0, [], 0), (.aload_n 1, [], 0), (.putfield 14, [3, 0], 0), (.aload_n 0, [], 0), (.iconst 0, [], 0), (.putfield 27, [3, 1], 0), (.aload_n 0, [], 0), (.getfield 23, [3, 2], 0), (.invokevirtual 31, [3, 1, 8], 1), (.iconst 1, [], 0), (.istore_n 2, [], 0), (.iconst 0, [], 0), (.istore_n 3, [], 0), (.nop, [1], 0)],
  [(.iload_n 2, [], 0), (.ifCond .eq 51, [5], 0), (.aload_n 0, [], 0), (.getfield 27, [3, 1], 0), (.aload_n 0, [], 0), (.getfield 14, [3, 0], 0), (.getfield 34, [6, 1], 0), (.if_icmp .ge 37, [5], 0), (.iload_n 3, [], 0), (.bipush 120, [], 0), (.if_icmp .ge 31, [5], 0), (.aload_n 0, [], 0), (.bipush 32, [], 0), (.invokevirtual 37, [42, 2, 3], 2), (.ifCond .ne 10, [2], 0), (.aload_n 0, [], 0), (.invokevirtual 41, [44, 1, 3], 1), (.ifCond .eq 7, [3], 0), (.nop, [2], 0)],
  [(.iconst 1, [], 0), (.goto 4, [4], 0)],
  [(.iconst 0, [], 0), (.nop, [4], 0)],
  [(.istore_n 2, [], 0), (.iinc 3 1, [], 0), (.goto (-49), [1], 0)],
  [(.aload_n 0, [], 0), (.getfield 23, [3, 2], 0), (.invokevirtual 45, [50, 1, 8], 1), (.iload_n 2, [], 0), (.ifCond .eq 8, [6], 0), (.bipush (-9), [], 0), (.goto 7, [7], 0)],
  [(.aload_n 0, [], 0), (.getfield 27, [3, 1], 0), (.nop, [7], 0)],
  [(.ireturn, [0], 0)]]
def am_s41 : List Nat := [0, 21, 61, 65, 66, 73, 89, 93]
/-- WashLine$Reader.letter(I)Z -/
def am_b42 : List (List am_I) := [[(.aload_n 0, [], 0), (.invokevirtual 55, [43, 1, 3], 1), (.iload_n 1, [], 0), (.if_icmp .eq 5, [1], 0), (.iconst 0, [], 0), (.ireturn, [1], 0)],
  [(.aload_n 0, [], 0), (.dup, [], 0), (.getfield 27, [3, 1], 0), (.iconst 1, [], 0), (.iadd, [], 0), (.putfield 27, [3, 1], 0), (.iconst 1, [], 0), (.ireturn, [1], 0)]]
def am_s42 : List Nat := [0, 10]
/-- WashLine$Reader.sign()I -/
def am_b43 : List (List am_I) := [[(.aload_n 0, [], 0), (.getfield 14, [3, 0], 0), (.aload_n 0, [], 0), (.getfield 27, [3, 1], 0), (.invokevirtual 48, [28, 2, 6], 2), (.ifCond .eq 18, [1], 0), (.aload_n 0, [], 0), (.getfield 14, [3, 0], 0), (.getfield 51, [6, 0], 0), (.aload_n 0, [], 0), (.getfield 27, [3, 1], 0), (.iaload, [], 0), (.goto 6, [2], 0)],
  [(.sipush 1000, [], 0), (.nop, [2], 0)],
  [(.ireturn, [0], 0)]]
def am_s43 : List Nat := [0, 29, 32]
/-- WashLine$Reader.item()Z -/
def am_b44 : List (List am_I) := [[(.aload_n 0, [], 0), (.invokevirtual 55, [43, 1, 3], 1), (.lookupswitch 64 #[(99, 59), (105, 54), (107, 44), (119, 49)], [5, 4, 3, 1, 2], 0)],
  [(.aload_n 0, [], 0), (.invokevirtual 59, [45, 1, 3], 1), (.ireturn, [1], 0)],
  [(.aload_n 0, [], 0), (.invokevirtual 62, [47, 1, 3], 1), (.ireturn, [1], 0)],
  [(.aload_n 0, [], 0), (.invokevirtual 65, [48, 1, 3], 1), (.ireturn, [1], 0)],
  [(.aload_n 0, [], 0), (.invokevirtual 68, [49, 1, 3], 1), (.ireturn, [1], 0)],
  [(.iconst 0, [], 0), (.ireturn, [1], 0)]]
def am_s44 : List Nat := [0, 48, 53, 58, 63, 68]
/-- WashLine$Reader.sort()Z -/
def am_b45 : List (List am_I) := [[(.aload_n 0, [], 0), (.getfield 23, [3, 2], 0), (.getfield 71, [8, 0], 0), (.bipush 6, [], 0), (.if_icmp .lt 5, [1], 0), (.iconst 0, [], 0), (.ireturn, [1], 0)],
  [(.aload_n 0, [], 0), (.dup, [], 0), (.getfield 27, [3, 1], 0), (.iconst 1, [], 0), (.iadd, [], 0), (.putfield 27, [3, 1], 0), (.aload_n 0, [], 0), (.bipush 45, [], 0), (.invokevirtual 37, [42, 2, 3], 2), (.ifCond .eq 8, [2], 0), (.bipush (-9), [], 0), (.goto 9, [3], 0)],
  [(.aload_n 0, [], 0), (.iconst 0, [], 0), (.iconst 5, [], 0), (.invokevirtual 74, [46, 3, 3], 3), (.nop, [3], 0)],
  [(.istore_n 1, [], 0), (.iload_n 1, [], 0), (.iconst (-1), [], 0), (.if_icmp .ne 5, [4], 0), (.iconst 0, [], 0), (.ireturn, [1], 0)],
  [(.aload_n 0, [], 0), (.getfield 23, [3, 2], 0), (.getfield 78, [8, 1], 0), (.aload_n 0, [], 0), (.getfield 23, [3, 2], 0), (.getfield 71, [8, 0], 0), (.iload_n 1, [], 0), (.iastore, [], 0), (.aload_n 0, [], 0), (.getfield 23, [3, 2], 0), (.dup, [], 0), (.getfield 71, [8, 0], 0), (.iconst 1, [], 0), (.iadd, [], 0), (.putfield 71, [8, 0], 0), (.iconst 1, [], 0), (.ireturn, [1], 0)]]
def am_s45 : List Nat := [0, 14, 38, 44, 52]
/-- WashLine$Reader.figure(II)I -/
def am_b46 : List (List am_I) := [[(.aload_n 0, [], 0), (.invokevirtual 55, [43, 1, 3], 1), (.bipush 48, [], 0), (.isub, [], 0), (.istore_n 3, [], 0), (.iload_n 3, [], 0), (.iload_n 1, [], 0), (.if_icmp .lt 8, [1], 0), (.iload_n 3, [], 0), (.iload_n 2, [], 0), (.if_icmp .le 5, [2], 0), (.nop, [1], 0)],
  [(.iconst (-1), [], 0), (.ireturn, [0], 0)],
  [(.aload_n 0, [], 0), (.dup, [], 0), (.getfield 27, [3, 1], 0), (.iconst 1, [], 0), (.iadd, [], 0), (.putfield 27, [3, 1], 0), (.iload_n 3, [], 0), (.ireturn, [0], 0)]]
def am_s46 : List Nat := [0, 18, 20]
/-- WashLine$Reader.wash()Z -/
def am_b47 : List (List am_I) := [[(.aload_n 0, [], 0), (.dup, [], 0), (.getfield 27, [3, 1], 0), (.iconst 1, [], 0), (.iadd, [], 0), (.putfield 27, [3, 1], 0), (.aload_n 0, [], 0), (.iconst 0, [], 0), (.aload_n 0, [], 0), (.getfield 23, [3, 2], 0), (.getfield 71, [8, 0], 0), (.iconst 1, [], 0), (.isub, [], 0), (.invokevirtual 74, [46, 3, 3], 3), (.istore_n 1, [], 0), (.iload_n 1, [], 0), (.ifCond .lt 12, [1], 0), (.aload_n 0, [], 0), (.bipush 116, [], 0), (.invokevirtual 37, [42, 2, 3], 2), (.ifCond .ne 5, [2], 0), (.nop, [1], 0)],
  [(.iconst 0, [], 0), (.ireturn, [1], 0)],
  [(.aload_n 0, [], 0), (.iconst 0, [], 0), (.bipush 7, [], 0), (.invokevirtual 74, [46, 3, 3], 3), (.istore_n 2, [], 0), (.iload_n 2, [], 0), (.ifCond .lt 12, [3], 0), (.aload_n 0, [], 0), (.bipush 58, [], 0), (.invokevirtual 37, [42, 2, 3], 2), (.ifCond .ne 5, [4], 0), (.nop, [3], 0)],
  [(.iconst 0, [], 0), (.ireturn, [1], 0)],
  [(.aload_n 0, [], 0), (.iconst 0, [], 0), (.bipush 9, [], 0), (.invokevirtual 74, [46, 3, 3], 3), (.istore_n 3, [], 0), (.iload_n 3, [], 0), (.ifCond .lt 12, [5], 0), (.aload_n 0, [], 0), (.bipush 45, [], 0), (.invokevirtual 37, [42, 2, 3], 2), (.ifCond .ne 5, [6], 0), (.nop, [5], 0)],
  [(.iconst 0, [], 0), (.ireturn, [1], 0)],
  [(.aload_n 0, [], 0), (.iload_n 3, [], 0), (.bipush 9, [], 0), (.invokevirtual 74, [46, 3, 3], 3), (.istore 4, [], 0), (.iload 4, [], 0), (.ifCond .ge 5, [7], 0), (.iconst 0, [], 0), (.ireturn, [1], 0)],
  [(.aload_n 0, [], 0), (.getfield 23, [3, 2], 0), (.getfield 81, [8, 2], 0), (.iload_n 1, [], 0), (.bipush 8, [], 0), (.imul, [], 0), (.iload_n 2, [], 0), (.iadd, [], 0), (.iload_n 3, [], 0), (.iastore, [], 0), (.aload_n 0, [], 0), (.getfield 23, [3, 2], 0), (.getfield 84, [8, 3], 0), (.iload_n 1, [], 0), (.bipush 8, [], 0), (.imul, [], 0), (.iload_n 2, [], 0), (.iadd, [], 0), (.iload 4, [], 0), (.iastore, [], 0), (.iconst 1, [], 0), (.ireturn, [1], 0)]]
def am_s47 : List Nat := [0, 38, 40, 61, 63, 84, 86, 102]
/-- WashLine$Reader.inside()Z -/
def am_b48 : List (List am_I) := [[(.aload_n 0, [], 0), (.dup, [], 0), (.getfield 27, [3, 1], 0), (.iconst 1, [], 0), (.iadd, [], 0), (.putfield 27, [3, 1], 0), (.aload_n 0, [], 0), (.iconst 0, [], 0), (.bipush 7, [], 0), (.invokevirtual 74, [46, 3, 3], 3), (.istore_n 1, [], 0), (.iload_n 1, [], 0), (.ifCond .ge 5, [1], 0), (.iconst 0, [], 0), (.ireturn, [1], 0)],
  [(.aload_n 0, [], 0), (.getfield 23, [3, 2], 0), (.dup, [], 0), (.getfield 87, [8, 4], 0), (.iconst 1, [], 0), (.iload_n 1, [], 0), (.ishl, [], 0), (.ior, [], 0), (.putfield 87, [8, 4], 0), (.iconst 1, [], 0), (.ireturn, [1], 0)]]
def am_s48 : List Nat := [0, 24]
/-- WashLine$Reader.costs()Z -/
def am_b49 : List (List am_I) := [[(.aload_n 0, [], 0), (.dup, [], 0), (.getfield 27, [3, 1], 0), (.iconst 1, [], 0), (.iadd, [], 0), (.putfield 27, [3, 1], 0), (.iconst 0, [], 0), (.istore_n 1, [], 0), (.nop, [1], 0)],
  [(.iload_n 1, [], 0), (.iconst 5, [], 0), (.if_icmp .ge 33, [3], 0), (.aload_n 0, [], 0), (.iconst 0, [], 0), (.bipush 9, [], 0), (.invokevirtual 74, [46, 3, 3], 3), (.istore_n 2, [], 0), (.iload_n 2, [], 0), (.ifCond .ge 5, [2], 0), (.iconst 0, [], 0), (.ireturn, [1], 0)],
  [(.aload_n 0, [], 0), (.getfield 23, [3, 2], 0), (.getfield 89, [8, 5], 0), (.iload_n 1, [], 0), (.iload_n 2, [], 0), (.iastore, [], 0), (.iinc 1 1, [], 0), (.goto (-32), [1], 0)],
  [(.iconst 1, [], 0), (.ireturn, [1], 0)]]
def am_s49 : List Nat := [0, 12, 31, 47]
/-- WashLine$World.growIntoToldOnly()V -/
def am_b50 : List (List am_I) := [[(.iconst 0, [], 0), (.istore_n 1, [], 0), (.nop, [1], 0)],
  [(.iload_n 1, [], 0), (.bipush 6, [], 0), (.if_icmp .ge 30, [3], 0), (.aload_n 0, [], 0), (.getfield 9, [8, 1], 0), (.iload_n 1, [], 0), (.iaload, [], 0), (.aload_n 0, [], 0), (.getfield 27, [8, 0], 0), (.if_icmp .lt 11, [2], 0), (.aload_n 0, [], 0), (.getfield 9, [8, 1], 0), (.iload_n 1, [], 0), (.bipush (-9), [], 0), (.iastore, [], 0), (.nop, [2], 0)],
  [(.iinc 1 1, [], 0), (.goto (-30), [1], 0)],
  [(.return_, [], 0)]]
def am_s50 : List Nat := [0, 2, 29, 35]
/-- WashLine.world(I)I -/
def am_b51 : List (List am_I) := [[(.iload_n 1, [], 0), (.invokestatic 154, [38, 1], 1), (.ifCond .ne 5, [1], 0), (.iconst (-1), [], 0), (.ireturn, [0], 0)],
  [(.aload_n 0, [], 0), (.getfield 15, [9, 1], 0), (.iload_n 1, [], 0), (.aaload, [], 0), (.invokevirtual 120, [27, 1, 6], 1), (.ifCond .eq 9, [2], 0), (.aload_n 0, [], 0), (.iconst 1, [], 0), (.invokevirtual 112, [24, 2, 9], 2), (.ireturn, [0], 0)],
  [(.aload_n 0, [], 0), (.getfield 28, [9, 3], 0), (.aload_n 0, [], 0), (.getfield 15, [9, 1], 0), (.iload_n 1, [], 0), (.aaload, [], 0), (.invokevirtual 157, [41, 2, 3], 2), (.bipush (-9), [], 0), (.if_icmp .eq 6, [3], 0), (.bipush (-4), [], 0), (.ireturn, [0], 0)],
  [(.aload_n 0, [], 0), (.getfield 21, [9, 2], 0), (.aload_n 0, [], 0), (.getfield 28, [9, 3], 0), (.getfield 161, [3, 2], 0), (.invokevirtual 164, [52, 2, 8], 2), (.aload_n 0, [], 0), (.getfield 37, [9, 4], 0), (.invokevirtual 167, [8, 1, 0], 1), (.aload_n 0, [], 0), (.getfield 44, [9, 5], 0), (.iconst 0, [], 0), (.putfield 170, [1, 0], 0), (.aload_n 0, [], 0), (.getfield 80, [9, 9], 0), (.iconst 0, [], 0), (.putfield 171, [5, 2], 0), (.aload_n 0, [], 0), (.getfield 62, [9, 7], 0), (.invokevirtual 172, [53, 1, 4], 1), (.aload_n 0, [], 0), (.getfield 71, [9, 8], 0), (.invokevirtual 175, [54, 1, 7], 1), (.aload_n 0, [], 0), (.getfield 21, [9, 2], 0), (.getfield 176, [8, 0], 0), (.ireturn, [0], 0)]]
def am_s51 : List Nat := [0, 9, 27, 48]
/-- WashLine$World.take(LWashLine$World;)V -/
def am_b52 : List (List am_I) := [[(.aload_n 0, [], 0), (.aload_n 1, [], 0), (.getfield 27, [8, 0], 0), (.putfield 27, [8, 0], 0), (.aload_n 0, [], 0), (.aload_n 1, [], 0), (.getfield 31, [8, 4], 0), (.putfield 31, [8, 4], 0), (.aload_n 1, [], 0), (.getfield 9, [8, 1], 0), (.iconst 0, [], 0), (.aload_n 0, [], 0), (.getfield 9, [8, 1], 0), (.iconst 0, [], 0), (.bipush 6, [], 0), (.invokestatic 40, [], 0), (.aload_n 1, [], 0), (.getfield 15, [8, 2], 0), (.iconst 0, [], 0), (.aload_n 0, [], 0), (.getfield 15, [8, 2], 0), (.iconst 0, [], 0), (.bipush 48, [], 0), (.invokestatic 40, [], 0), (.aload_n 1, [], 0), (.getfield 18, [8, 3], 0), (.iconst 0, [], 0), (.aload_n 0, [], 0), (.getfield 18, [8, 3], 0), (.iconst 0, [], 0), (.bipush 48, [], 0), (.invokestatic 40, [], 0), (.aload_n 1, [], 0), (.getfield 21, [8, 5], 0), (.iconst 0, [], 0), (.aload_n 0, [], 0), (.getfield 21, [8, 5], 0), (.iconst 0, [], 0), (.iconst 5, [], 0), (.invokestatic 40, [], 0), (.return_, [], 0)]]
def am_s52 : List Nat := [0]
/-- WashLine$Steps.forget()V -/
def am_b53 : List (List am_I) := [[(.iconst 0, [], 0), (.istore_n 1, [], 0), (.nop, [1], 0)],
  [(.iload_n 1, [], 0), (.sipush 462, [], 0), (.if_icmp .ge 16, [2], 0), (.aload_n 0, [], 0), (.getfield 19, [4, 4], 0), (.iload_n 1, [], 0), (.iconst 0, [], 0), (.bastore, [], 0), (.iinc 1 1, [], 0), (.goto (-17), [1], 0)],
  [(.return_, [], 0)]]
def am_s53 : List Nat := [0, 2, 22]
/-- WashLine$Winter.forget()V -/
def am_b54 : List (List am_I) := [[(.aload_n 0, [], 0), (.iconst 0, [], 0), (.putfield 9, [7, 4], 0), (.aload_n 0, [], 0), (.iconst 0, [], 0), (.putfield 15, [7, 5], 0), (.return_, [], 0)]]
def am_s54 : List Nat := [0]
/-- WashLine.isWithin(II)Z -/
def am_b55 : List (List am_I) := [[(.iload_n 0, [], 0), (.ifCond .lt 12, [1], 0), (.iload_n 0, [], 0), (.iload_n 1, [], 0), (.if_icmp .gt 7, [1], 0), (.iconst 1, [], 0), (.goto 4, [2], 0)],
  [(.iconst 0, [], 0), (.nop, [2], 0)],
  [(.ireturn, [1], 0)]]
def am_s55 : List Nat := [0, 13, 14]
/-- WashLine.isSort(I)Z -/
def am_b56 : List (List am_I) := [[(.iload_n 1, [], 0), (.aload_n 0, [], 0), (.getfield 21, [9, 2], 0), (.getfield 176, [8, 0], 0), (.iconst 1, [], 0), (.isub, [], 0), (.invokestatic 197, [23, 2], 2), (.ireturn, [1], 0)]]
def am_s56 : List Nat := [0]
/-- WashLine.isThing(I)Z -/
def am_b57 : List (List am_I) := [[(.iload_n 0, [], 0), (.bipush 7, [], 0), (.invokestatic 197, [23, 2], 2), (.ireturn, [1], 0)]]
def am_s57 : List Nat := [0]
/-- WashLine.isWithin(II)Z -/
def am_b58 : List (List am_I) := [[(.iload_n 0, [], 0), (.ifCond .lt 12, [1], 0), (.iload_n 0, [], 0), (.iload_n 1, [], 0), (.if_icmp .gt 7, [1], 0), (.iconst 1, [], 0), (.goto 4, [2], 0)],
  [(.iconst 0, [], 0), (.nop, [2], 0)],
  [(.ireturn, [1], 0)]]
def am_s58 : List Nat := [0, 13, 14]
/-- WashLine.indoors()I -/
def am_b59 : List (List am_I) := [[(.aload_n 0, [], 0), (.getfield 21, [9, 2], 0), (.getfield 194, [8, 4], 0), (.ireturn, [0], 0)]]
def am_s59 : List Nat := [0]
/-- WashLine.isWithin(II)Z -/
def am_b60 : List (List am_I) := [[(.iload_n 0, [], 0), (.ifCond .lt 12, [1], 0), (.iload_n 0, [], 0), (.iload_n 1, [], 0), (.if_icmp .gt 7, [1], 0), (.iconst 1, [], 0), (.goto 4, [2], 0)],
  [(.iconst 0, [], 0), (.nop, [2], 0)],
  [(.ireturn, [1], 0)]]
def am_s60 : List Nat := [0, 13, 14]
/-- WashLine.monday(III)I -/
def am_b61 : List (List am_I) := [[(.iload_n 1, [], 0), (.invokestatic 203, [62, 1], 1), (.ifCond .eq 19, [1], 0), (.iload_n 2, [], 0), (.invokestatic 108, [22, 1], 1), (.ifCond .eq 12, [1], 0), (.iload_n 3, [], 0), (.bipush 9, [], 0), (.invokestatic 197, [23, 2], 2), (.ifCond .ne 5, [2], 0), (.nop, [1], 0)],
  [(.iconst (-1), [], 0), (.ireturn, [0], 0)],
  [(.aload_n 0, [], 0), (.getfield 11, [9, 0], 0), (.iload_n 2, [], 0), (.aaload, [], 0), (.invokevirtual 120, [27, 1, 6], 1), (.ifCond .eq 9, [3], 0), (.aload_n 0, [], 0), (.iconst 1, [], 0), (.invokevirtual 112, [24, 2, 9], 2), (.ireturn, [0], 0)],
  [(.aload_n 0, [], 0), (.getfield 11, [9, 0], 0), (.iload_n 2, [], 0), (.aaload, [], 0), (.getfield 137, [6, 1], 0), (.bipush 8, [], 0), (.if_icmp .eq 9, [4], 0), (.aload_n 0, [], 0), (.iconst 5, [], 0), (.invokevirtual 112, [24, 2, 9], 2), (.ireturn, [0], 0)],
  [(.aload_n 0, [], 0), (.getfield 11, [9, 0], 0), (.iload_n 2, [], 0), (.aaload, [], 0), (.bipush 40, [], 0), (.invokevirtual 206, [63, 2, 6], 2), (.ifCond .ne 9, [5], 0), (.aload_n 0, [], 0), (.iconst 3, [], 0), (.invokevirtual 112, [24, 2, 9], 2), (.ireturn, [0], 0)],
  [(.aload_n 0, [], 0), (.getfield 44, [9, 5], 0), (.getfield 170, [1, 0], 0), (.bipush 12, [], 0), (.if_icmp .lt 6, [6], 0), (.bipush (-2), [], 0), (.ireturn, [0], 0)],
  [(.aload_n 0, [], 0), (.getfield 71, [9, 8], 0), (.invokevirtual 175, [54, 1, 7], 1), (.aload_n 0, [], 0), (.getfield 44, [9, 5], 0), (.iload_n 1, [], 0), (.aload_n 0, [], 0), (.getfield 11, [9, 0], 0), (.iload_n 2, [], 0), (.aaload, [], 0), (.getfield 134, [6, 0], 0), (.iload_n 3, [], 0), (.invokevirtual 209, [64, 4, 1], 4), (.ireturn, [0], 0)]]
def am_s61 : List Nat := [0, 23, 25, 43, 63, 83, 98]
/-- WashLine.isWeather(I)Z -/
def am_b62 : List (List am_I) := [[(.iload_n 0, [], 0), (.iconst 1, [], 0), (.invokestatic 197, [23, 2], 2), (.ireturn, [1], 0)]]
def am_s62 : List Nat := [0]
/-- WashLine$Strip.holdsUpTo(I)Z -/
def am_b63 : List (List am_I) := [[(.iconst 0, [], 0), (.istore_n 2, [], 0), (.nop, [1], 0)],
  [(.iload_n 2, [], 0), (.aload_n 0, [], 0), (.getfield 7, [6, 1], 0), (.if_icmp .ge 30, [4], 0), (.aload_n 0, [], 0), (.getfield 13, [6, 0], 0), (.iload_n 2, [], 0), (.iaload, [], 0), (.ifCond .lt 13, [2], 0), (.aload_n 0, [], 0), (.getfield 13, [6, 0], 0), (.iload_n 2, [], 0), (.iaload, [], 0), (.iload_n 1, [], 0), (.if_icmp .le 5, [3], 0), (.nop, [2], 0)],
  [(.iconst 0, [], 0), (.ireturn, [1], 0)],
  [(.iinc 2 1, [], 0), (.goto (-32), [1], 0)],
  [(.iconst 1, [], 0), (.ireturn, [1], 0)]]
def am_s63 : List Nat := [0, 2, 29, 31, 37]
/-- WashLine$Line.add(I[II)I -/
def am_b64 : List (List am_I) := [[(.aload_n 0, [], 0), (.getfield 15, [1, 1], 0), (.aload_n 0, [], 0), (.getfield 9, [1, 0], 0), (.iload_n 1, [], 0), (.iastore, [], 0), (.aload_n 0, [], 0), (.getfield 19, [1, 2], 0), (.aload_n 0, [], 0), (.getfield 9, [1, 0], 0), (.iload_n 3, [], 0), (.iastore, [], 0), (.aload_n 2, [], 0), (.iconst 0, [], 0), (.aload_n 0, [], 0), (.getfield 22, [1, 3], 0), (.aload_n 0, [], 0), (.getfield 9, [1, 0], 0), (.bipush 8, [], 0), (.imul, [], 0), (.bipush 8, [], 0), (.invokestatic 25, [], 0), (.aload_n 0, [], 0), (.dup, [], 0), (.getfield 9, [1, 0], 0), (.iconst 1, [], 0), (.iadd, [], 0), (.putfield 9, [1, 0], 0), (.aload_n 0, [], 0), (.getfield 9, [1, 0], 0), (.iconst 1, [], 0), (.isub, [], 0), (.ireturn, [0], 0)]]
def am_s64 : List Nat := [0]
/-- WashLine.isWithin(II)Z -/
def am_b65 : List (List am_I) := [[(.iload_n 0, [], 0), (.ifCond .lt 12, [1], 0), (.iload_n 0, [], 0), (.iload_n 1, [], 0), (.if_icmp .gt 7, [1], 0), (.iconst 1, [], 0), (.goto 4, [2], 0)],
  [(.iconst 0, [], 0), (.nop, [2], 0)],
  [(.ireturn, [1], 0)]]
def am_s65 : List Nat := [0, 13, 14]
/-- WashLine.isMonday(I)Z -/
def am_b66 : List (List am_I) := [[(.iload_n 1, [], 0), (.aload_n 0, [], 0), (.getfield 44, [9, 5], 0), (.getfield 170, [1, 0], 0), (.iconst 1, [], 0), (.isub, [], 0), (.invokestatic 197, [23, 2], 2), (.ireturn, [1], 0)]]
def am_s66 : List Nat := [0]
/-- WashLine.isWithin(II)Z -/
def am_b67 : List (List am_I) := [[(.iload_n 0, [], 0), (.ifCond .lt 12, [1], 0), (.iload_n 0, [], 0), (.iload_n 1, [], 0), (.if_icmp .gt 7, [1], 0), (.iconst 1, [], 0), (.goto 4, [2], 0)],
  [(.iconst 0, [], 0), (.nop, [2], 0)],
  [(.ireturn, [1], 0)]]
def am_s67 : List Nat := [0, 13, 14]
/-- WashLine.isWithin(II)Z -/
def am_b68 : List (List am_I) := [[(.iload_n 0, [], 0), (.ifCond .lt 12, [1], 0), (.iload_n 0, [], 0), (.iload_n 1, [], 0), (.if_icmp .gt 7, [1], 0), (.iconst 1, [], 0), (.goto 4, [2], 0)],
  [(.iconst 0, [], 0), (.nop, [2], 0)],
  [(.ireturn, [1], 0)]]
def am_s68 : List Nat := [0, 13, 14]
/-- WashLine.back(I)I -/
def am_b69 : List (List am_I) := [[(.iload_n 1, [], 0), (.aload_n 0, [], 0), (.getfield 44, [9, 5], 0), (.getfield 170, [1, 0], 0), (.invokestatic 197, [23, 2], 2), (.ifCond .ne 5, [1], 0), (.iconst (-1), [], 0), (.ireturn, [0], 0)],
  [(.aload_n 0, [], 0), (.getfield 44, [9, 5], 0), (.getfield 170, [1, 0], 0), (.iload_n 1, [], 0), (.isub, [], 0), (.istore_n 2, [], 0), (.iload_n 2, [], 0), (.ifCond .le 18, [2], 0), (.aload_n 0, [], 0), (.getfield 44, [9, 5], 0), (.iload_n 1, [], 0), (.putfield 170, [1, 0], 0), (.aload_n 0, [], 0), (.getfield 71, [9, 8], 0), (.invokevirtual 175, [54, 1, 7], 1), (.nop, [2], 0)],
  [(.iload_n 2, [], 0), (.ireturn, [0], 0)]]
def am_s69 : List Nat := [0, 16, 45]
/-- WashLine.hangs(III)I -/
def am_b70 : List (List am_I) := [[(.aload_n 0, [], 0), (.getfield 37, [9, 4], 0), (.iload_n 1, [], 0), (.invokevirtual 222, [13, 2, 0], 2), (.istore 4, [], 0), (.iload 4, [], 0), (.ifCond .lt 17, [1], 0), (.iload_n 2, [], 0), (.invokestatic 203, [62, 1], 1), (.ifCond .eq 10, [1], 0), (.iload_n 3, [], 0), (.invokestatic 182, [57, 1], 1), (.ifCond .ne 5, [2], 0), (.nop, [1], 0)],
  [(.iconst (-1), [], 0), (.ireturn, [0], 0)],
  [(.aload_n 0, [], 0), (.aload_n 0, [], 0), (.getfield 37, [9, 4], 0), (.getfield 225, [0, 9], 0), (.iload 4, [], 0), (.bipush 8, [], 0), (.imul, [], 0), (.iload_n 3, [], 0), (.iadd, [], 0), (.iaload, [], 0), (.aload_n 0, [], 0), (.getfield 37, [9, 4], 0), (.iload 4, [], 0), (.iload_n 2, [], 0), (.iload_n 3, [], 0), (.invokevirtual 226, [71, 4, 0], 4), (.invokevirtual 131, [30, 3, 9], 3), (.ireturn, [0], 0)]]
def am_s70 : List Nat := [0, 29, 31]
/-- WashLine$Houses.leastIn(III)I -/
def am_b71 : List (List am_I) := [[(.aload_n 0, [], 0), (.getfield 36, [0, 0], 0), (.iload_n 2, [], 0), (.iload_n 3, [], 0), (.invokevirtual 91, [72, 3, 8], 3), (.ifCond .eq 7, [1], 0), (.iconst 0, [], 0), (.goto 14, [2], 0)],
  [(.aload_n 0, [], 0), (.getfield 30, [0, 8], 0), (.iload_n 1, [], 0), (.bipush 8, [], 0), (.imul, [], 0), (.iload_n 3, [], 0), (.iadd, [], 0), (.iaload, [], 0), (.nop, [2], 0)],
  [(.ireturn, [0], 0)]]
def am_s71 : List Nat := [0, 16, 27]
/-- WashLine$World.isInside(II)Z -/
def am_b72 : List (List am_I) := [[(.iload_n 1, [], 0), (.iconst 1, [], 0), (.if_icmp .ne 19, [1], 0), (.aload_n 0, [], 0), (.getfield 31, [8, 4], 0), (.iload_n 2, [], 0), (.ishr, [], 0), (.iconst 1, [], 0), (.iand, [], 0), (.iconst 1, [], 0), (.if_icmp .ne 7, [1], 0), (.iconst 1, [], 0), (.goto 4, [2], 0)],
  [(.iconst 0, [], 0), (.nop, [2], 0)],
  [(.ireturn, [1], 0)]]
def am_s72 : List Nat := [0, 21, 22]
/-- WashLine.explains(II)I -/
def am_b73 : List (List am_I) := [[(.aload_n 0, [], 0), (.getfield 37, [9, 4], 0), (.iload_n 2, [], 0), (.invokevirtual 222, [13, 2, 0], 2), (.istore_n 3, [], 0), (.iload_n 3, [], 0), (.ifCond .lt 11, [1], 0), (.aload_n 0, [], 0), (.iload_n 1, [], 0), (.invokevirtual 213, [66, 2, 9], 2), (.ifCond .ne 5, [2], 0), (.nop, [1], 0)],
  [(.iconst (-1), [], 0), (.ireturn, [0], 0)],
  [(.aload_n 0, [], 0), (.getfield 53, [9, 6], 0), (.iload_n 1, [], 0), (.iload_n 3, [], 0), (.invokevirtual 230, [74, 3, 2], 3), (.istore 4, [], 0), (.iload 4, [], 0), (.bipush (-9), [], 0), (.if_icmp .ne 8, [3], 0), (.bipush (-9), [], 0), (.goto 18, [4], 0)],
  [(.aload_n 0, [], 0), (.iload 4, [], 0), (.aload_n 0, [], 0), (.getfield 53, [9, 6], 0), (.iload 4, [], 0), (.invokevirtual 233, [81, 2, 2], 2), (.invokevirtual 131, [30, 3, 9], 3), (.nop, [4], 0)],
  [(.ireturn, [0], 0)]]
def am_s73 : List Nat := [0, 21, 23, 46, 61]
/-- WashLine$Looks.explain(II)I -/
def am_b74 : List (List am_I) := [[(.aload_n 0, [], 0), (.iload_n 1, [], 0), (.iload_n 2, [], 0), (.invokevirtual 56, [75, 3, 2], 3), (.ifCond .eq 5, [1], 0), (.iconst 0, [], 0), (.ireturn, [0], 0)],
  [(.aload_n 0, [], 0), (.iload_n 1, [], 0), (.iload_n 2, [], 0), (.invokevirtual 59, [79, 3, 2], 3), (.istore_n 3, [], 0), (.iload_n 3, [], 0), (.bipush (-9), [], 0), (.if_icmp .ne 12, [2], 0), (.aload_n 0, [], 0), (.iload_n 1, [], 0), (.iload_n 2, [], 0), (.invokevirtual 63, [80, 3, 2], 3), (.goto 4, [3], 0)],
  [(.iload_n 3, [], 0), (.nop, [3], 0)],
  [(.ireturn, [0], 0)]]
def am_s74 : List Nat := [0, 11, 33, 34]
/-- WashLine$Looks.agrees(II)Z -/
def am_b75 : List (List am_I) := [[(.aload_n 0, [], 0), (.iload_n 1, [], 0), (.iload_n 2, [], 0), (.iconst 0, [], 0), (.iconst 0, [], 0), (.iconst 0, [], 0), (.invokevirtual 23, [76, 6, 2], 6), (.ireturn, [1], 0)]]
def am_s75 : List Nat := [0]
/-- WashLine$Looks.agreesWith(IIIII)Z -/
def am_b76 : List (List am_I) := [[(.iconst 0, [], 0), (.istore 6, [], 0), (.nop, [1], 0)],
  [(.iload 6, [], 0), (.bipush 8, [], 0), (.if_icmp .ge 134, [4], 0), (.aload_n 0, [], 0), (.getfield 15, [2, 1], 0), (.getfield 27, [0, 9], 0), (.iload_n 2, [], 0), (.bipush 8, [], 0), (.imul, [], 0), (.iload 6, [], 0), (.iadd, [], 0), (.iaload, [], 0), (.iload 5, [], 0), (.aload_n 0, [], 0), (.getfield 9, [2, 0], 0), (.getfield 33, [8, 3], 0), (.iload_n 3, [], 0), (.bipush 8, [], 0), (.imul, [], 0), (.iload 6, [], 0), (.iadd, [], 0), (.iaload, [], 0), (.imul, [], 0), (.iadd, [], 0), (.istore 7, [], 0), (.aload_n 0, [], 0), (.getfield 15, [2, 1], 0), (.getfield 36, [0, 8], 0), (.iload_n 2, [], 0), (.bipush 8, [], 0), (.imul, [], 0), (.iload 6, [], 0), (.iadd, [], 0), (.iaload, [], 0), (.iload 4, [], 0), (.aload_n 0, [], 0), (.getfield 9, [2, 0], 0), (.getfield 39, [8, 2], 0), (.iload_n 3, [], 0), (.bipush 8, [], 0), (.imul, [], 0), (.iload 6, [], 0), (.iadd, [], 0), (.iaload, [], 0), (.imul, [], 0), (.iadd, [], 0), (.istore 8, [], 0), (.aload_n 0, [], 0), (.getfield 19, [2, 2], 0), (.iload_n 1, [], 0), (.iload 6, [], 0), (.iload 7, [], 0), (.invokevirtual 40, [77, 4, 1], 4), (.ifCond .ne 39, [2], 0), (.aload_n 0, [], 0), (.getfield 19, [2, 2], 0), (.iload_n 1, [], 0), (.iload 6, [], 0), (.iload 8, [], 0), (.invokevirtual 46, [78, 4, 1], 4), (.ifCond .eq 26, [3], 0), (.aload_n 0, [], 0), (.getfield 9, [2, 0], 0), (.aload_n 0, [], 0), (.getfield 19, [2, 2], 0), (.getfield 49, [1, 1], 0), (.iload_n 1, [], 0), (.iaload, [], 0), (.iload 6, [], 0), (.invokevirtual 52, [72, 3, 8], 3), (.ifCond .ne 5, [3], 0), (.nop, [2], 0)],
  [(.iconst 0, [], 0), (.ireturn, [1], 0)],
  [(.iinc 6 1, [], 0), (.goto (-135), [1], 0)],
  [(.iconst 1, [], 0), (.ireturn, [1], 0)]]
def am_s76 : List Nat := [0, 3, 133, 135, 141]
/-- WashLine$Line.isAbove(III)Z -/
def am_b77 : List (List am_I) := [[(.aload_n 0, [], 0), (.getfield 22, [1, 3], 0), (.iload_n 1, [], 0), (.bipush 8, [], 0), (.imul, [], 0), (.iload_n 2, [], 0), (.iadd, [], 0), (.iaload, [], 0), (.aload_n 0, [], 0), (.getfield 19, [1, 2], 0), (.iload_n 1, [], 0), (.iaload, [], 0), (.isub, [], 0), (.iload_n 3, [], 0), (.if_icmp .le 7, [1], 0), (.iconst 1, [], 0), (.goto 4, [2], 0)],
  [(.iconst 0, [], 0), (.nop, [2], 0)],
  [(.ireturn, [1], 0)]]
def am_s77 : List Nat := [0, 26, 27]
/-- WashLine$Line.isBelow(III)Z -/
def am_b78 : List (List am_I) := [[(.aload_n 0, [], 0), (.getfield 22, [1, 3], 0), (.iload_n 1, [], 0), (.bipush 8, [], 0), (.imul, [], 0), (.iload_n 2, [], 0), (.iadd, [], 0), (.iaload, [], 0), (.aload_n 0, [], 0), (.getfield 19, [1, 2], 0), (.iload_n 1, [], 0), (.iaload, [], 0), (.iadd, [], 0), (.iload_n 3, [], 0), (.if_icmp .ge 7, [1], 0), (.iconst 1, [], 0), (.goto 4, [2], 0)],
  [(.iconst 0, [], 0), (.nop, [2], 0)],
  [(.ireturn, [1], 0)]]
def am_s78 : List Nat := [0, 26, 27]
/-- WashLine$Looks.explainIll(II)I -/
def am_b79 : List (List am_I) := [[(.iconst 0, [], 0), (.istore_n 3, [], 0), (.nop, [1], 0)],
  [(.iload_n 3, [], 0), (.aload_n 0, [], 0), (.getfield 9, [2, 0], 0), (.getfield 66, [8, 0], 0), (.if_icmp .ge 43, [3], 0), (.aload_n 0, [], 0), (.getfield 15, [2, 1], 0), (.getfield 70, [0, 4], 0), (.iload_n 2, [], 0), (.bipush 6, [], 0), (.imul, [], 0), (.iload_n 3, [], 0), (.iadd, [], 0), (.iaload, [], 0), (.ifCond .le 20, [2], 0), (.aload_n 0, [], 0), (.iload_n 1, [], 0), (.iload_n 2, [], 0), (.iload_n 3, [], 0), (.iconst (-1), [], 0), (.iconst 0, [], 0), (.invokevirtual 23, [76, 6, 2], 6), (.ifCond .eq 8, [2], 0), (.bipush 10, [], 0), (.iload_n 3, [], 0), (.iadd, [], 0), (.ireturn, [0], 0)],
  [(.iinc 3 1, [], 0), (.goto (-48), [1], 0)],
  [(.bipush (-9), [], 0), (.ireturn, [0], 0)]]
def am_s79 : List Nat := [0, 2, 47, 53]
/-- WashLine$Looks.explainGuest(II)I -/
def am_b80 : List (List am_I) := [[(.iconst 0, [], 0), (.istore_n 3, [], 0), (.nop, [1], 0)],
  [(.iload_n 3, [], 0), (.aload_n 0, [], 0), (.getfield 9, [2, 0], 0), (.getfield 66, [8, 0], 0), (.if_icmp .ge 26, [3], 0), (.aload_n 0, [], 0), (.iload_n 1, [], 0), (.iload_n 2, [], 0), (.iload_n 3, [], 0), (.iconst 1, [], 0), (.iconst 1, [], 0), (.invokevirtual 23, [76, 6, 2], 6), (.ifCond .eq 8, [2], 0), (.bipush 20, [], 0), (.iload_n 3, [], 0), (.iadd, [], 0), (.ireturn, [0], 0)],
  [(.iinc 3 1, [], 0), (.goto (-31), [1], 0)],
  [(.bipush (-9), [], 0), (.ireturn, [0], 0)]]
def am_s80 : List Nat := [0, 2, 30, 36]
/-- WashLine$Looks.priceOf(I)I -/
def am_b81 : List (List am_I) := [[(.iload_n 1, [], 0), (.bipush 10, [], 0), (.if_icmp .ge 5, [1], 0), (.iconst 0, [], 0), (.ireturn, [0], 0)],
  [(.aload_n 0, [], 0), (.getfield 9, [2, 0], 0), (.getfield 73, [8, 5], 0), (.iload_n 1, [], 0), (.bipush 20, [], 0), (.if_icmp .ge 7, [2], 0), (.iconst 3, [], 0), (.goto 4, [3], 0)],
  [(.iconst 4, [], 0), (.nop, [3], 0)],
  [(.iaload, [], 0), (.ireturn, [0], 0)]]
def am_s81 : List Nat := [0, 8, 25, 26]
/-- WashLine.lacks(II)I -/
def am_b82 : List (List am_I) := [[(.aload_n 0, [], 0), (.getfield 37, [9, 4], 0), (.iload_n 2, [], 0), (.invokevirtual 222, [13, 2, 0], 2), (.istore_n 3, [], 0), (.iload_n 3, [], 0), (.ifCond .lt 11, [1], 0), (.aload_n 0, [], 0), (.iload_n 1, [], 0), (.invokevirtual 213, [66, 2, 9], 2), (.ifCond .ne 5, [2], 0), (.nop, [1], 0)],
  [(.iconst (-1), [], 0), (.ireturn, [0], 0)],
  [(.aload_n 0, [], 0), (.aload_n 0, [], 0), (.getfield 53, [9, 6], 0), (.iload_n 1, [], 0), (.iload_n 3, [], 0), (.invokevirtual 236, [83, 3, 2], 3), (.aload_n 0, [], 0), (.getfield 53, [9, 6], 0), (.iload_n 1, [], 0), (.iload_n 3, [], 0), (.invokevirtual 239, [84, 3, 2], 3), (.invokevirtual 131, [30, 3, 9], 3), (.ireturn, [0], 0)]]
def am_s82 : List Nat := [0, 21, 23]
/-- WashLine$Looks.tooMuch(II)I -/
def am_b83 : List (List am_I) := [[(.iconst 0, [], 0), (.istore_n 3, [], 0), (.iconst 0, [], 0), (.istore 4, [], 0), (.nop, [1], 0)],
  [(.iload 4, [], 0), (.bipush 8, [], 0), (.if_icmp .ge 44, [3], 0), (.aload_n 0, [], 0), (.getfield 19, [2, 2], 0), (.iload_n 1, [], 0), (.iload 4, [], 0), (.aload_n 0, [], 0), (.getfield 15, [2, 1], 0), (.getfield 27, [0, 9], 0), (.iload_n 2, [], 0), (.bipush 8, [], 0), (.imul, [], 0), (.iload 4, [], 0), (.iadd, [], 0), (.iaload, [], 0), (.invokevirtual 40, [77, 4, 1], 4), (.ifCond .eq 10, [2], 0), (.iload_n 3, [], 0), (.iconst 1, [], 0), (.iload 4, [], 0), (.ishl, [], 0), (.ior, [], 0), (.istore_n 3, [], 0), (.nop, [2], 0)],
  [(.iinc 4 1, [], 0), (.goto (-45), [1], 0)],
  [(.iload_n 3, [], 0), (.ireturn, [0], 0)]]
def am_s83 : List Nat := [0, 5, 47, 53]
/-- WashLine$Looks.tooLittle(II)I -/
def am_b84 : List (List am_I) := [[(.iconst 0, [], 0), (.istore_n 3, [], 0), (.iconst 0, [], 0), (.istore 4, [], 0), (.nop, [1], 0)],
  [(.iload 4, [], 0), (.bipush 8, [], 0), (.if_icmp .ge 48, [3], 0), (.aload_n 0, [], 0), (.getfield 19, [2, 2], 0), (.iload_n 1, [], 0), (.iload 4, [], 0), (.aload_n 0, [], 0), (.getfield 15, [2, 1], 0), (.iload_n 2, [], 0), (.aload_n 0, [], 0), (.getfield 19, [2, 2], 0), (.getfield 49, [1, 1], 0), (.iload_n 1, [], 0), (.iaload, [], 0), (.iload 4, [], 0), (.invokevirtual 86, [71, 4, 0], 4), (.invokevirtual 46, [78, 4, 1], 4), (.ifCond .eq 10, [2], 0), (.iload_n 3, [], 0), (.iconst 1, [], 0), (.iload 4, [], 0), (.ishl, [], 0), (.ior, [], 0), (.istore_n 3, [], 0), (.nop, [2], 0)],
  [(.iinc 4 1, [], 0), (.goto (-49), [1], 0)],
  [(.iload_n 3, [], 0), (.ireturn, [0], 0)]]
def am_s84 : List Nat := [0, 5, 51, 57]
/-- WashLine.fewest(I)I -/
def am_b85 : List (List am_I) := [[(.aload_n 0, [], 0), (.iload_n 1, [], 0), (.invokevirtual 213, [66, 2, 9], 2), (.ifCond .ne 5, [1], 0), (.iconst (-1), [], 0), (.ireturn, [0], 0)],
  [(.aload_n 0, [], 0), (.getfield 53, [9, 6], 0), (.iload_n 1, [], 0), (.invokevirtual 242, [86, 2, 2], 2), (.istore_n 2, [], 0), (.iload_n 2, [], 0), (.ifCond .ge 8, [2], 0), (.bipush (-9), [], 0), (.goto 25, [3], 0)],
  [(.aload_n 0, [], 0), (.aload_n 0, [], 0), (.getfield 37, [9, 4], 0), (.getfield 245, [0, 2], 0), (.iload_n 2, [], 0), (.iaload, [], 0), (.aload_n 0, [], 0), (.getfield 37, [9, 4], 0), (.getfield 248, [0, 3], 0), (.iload_n 2, [], 0), (.iaload, [], 0), (.invokevirtual 131, [30, 3, 9], 3), (.nop, [3], 0)],
  [(.ireturn, [0], 0)]]
def am_s85 : List Nat := [0, 10, 28, 50]
/-- WashLine$Looks.smallest(I)I -/
def am_b86 : List (List am_I) := [[(.iconst (-1), [], 0), (.istore_n 2, [], 0), (.iconst 0, [], 0), (.istore_n 3, [], 0), (.nop, [1], 0)],
  [(.iload_n 3, [], 0), (.aload_n 0, [], 0), (.getfield 15, [2, 1], 0), (.getfield 76, [0, 1], 0), (.if_icmp .ge 45, [4], 0), (.iload_n 2, [], 0), (.ifCond .lt 24, [2], 0), (.aload_n 0, [], 0), (.getfield 15, [2, 1], 0), (.getfield 90, [0, 3], 0), (.iload_n 3, [], 0), (.iaload, [], 0), (.aload_n 0, [], 0), (.getfield 15, [2, 1], 0), (.getfield 90, [0, 3], 0), (.iload_n 2, [], 0), (.iaload, [], 0), (.if_icmp .ge 14, [3], 0), (.nop, [2], 0)],
  [(.aload_n 0, [], 0), (.iload_n 1, [], 0), (.iload_n 3, [], 0), (.invokevirtual 56, [75, 3, 2], 3), (.ifCond .eq 5, [3], 0), (.iload_n 3, [], 0), (.istore_n 2, [], 0), (.nop, [3], 0)],
  [(.iinc 3 1, [], 0), (.goto (-50), [1], 0)],
  [(.iload_n 2, [], 0), (.ireturn, [0], 0)]]
def am_s86 : List Nat := [0, 4, 40, 51, 57]
/-- WashLine.bound(I)I -/
def am_b87 : List (List am_I) := [[(.aload_n 0, [], 0), (.iload_n 1, [], 0), (.invokevirtual 213, [66, 2, 9], 2), (.ifCond .eq 14, [1], 0), (.aload_n 0, [], 0), (.getfield 53, [9, 6], 0), (.iload_n 1, [], 0), (.invokevirtual 251, [88, 2, 2], 2), (.goto 4, [2], 0)],
  [(.iconst (-1), [], 0), (.nop, [2], 0)],
  [(.ireturn, [0], 0)]]
def am_s87 : List Nat := [0, 19, 20]
/-- WashLine$Looks.peopleByThings(I)I -/
def am_b88 : List (List am_I) := [[(.iconst 0, [], 0), (.istore_n 2, [], 0), (.iconst 0, [], 0), (.istore_n 3, [], 0), (.nop, [1], 0)],
  [(.iload_n 3, [], 0), (.bipush 8, [], 0), (.if_icmp .ge 75, [4], 0), (.aload_n 0, [], 0), (.getfield 19, [2, 2], 0), (.getfield 93, [1, 3], 0), (.iload_n 1, [], 0), (.bipush 8, [], 0), (.imul, [], 0), (.iload_n 3, [], 0), (.iadd, [], 0), (.iaload, [], 0), (.aload_n 0, [], 0), (.getfield 19, [2, 2], 0), (.getfield 96, [1, 2], 0), (.iload_n 1, [], 0), (.iaload, [], 0), (.isub, [], 0), (.istore 4, [], 0), (.aload_n 0, [], 0), (.iload_n 3, [], 0), (.invokevirtual 99, [89, 2, 2], 2), (.istore 5, [], 0), (.iload 4, [], 0), (.ifCond .le 11, [2], 0), (.iload 5, [], 0), (.ifCond .gt 6, [2], 0), (.bipush (-9), [], 0), (.ireturn, [0], 0)],
  [(.iload 4, [], 0), (.ifCond .le 18, [3], 0), (.iload_n 2, [], 0), (.iload 4, [], 0), (.iload 5, [], 0), (.iadd, [], 0), (.iconst 1, [], 0), (.isub, [], 0), (.iload 5, [], 0), (.idiv, [], 0), (.invokestatic 102, [0], 0), (.istore_n 2, [], 0), (.nop, [3], 0)],
  [(.iinc 3 1, [], 0), (.goto (-75), [1], 0)],
  [(.iload_n 2, [], 0), (.ireturn, [0], 0)]]
def am_s88 : List Nat := [0, 4, 56, 76, 82]
/-- WashLine$Looks.mostOfAny(I)I -/
def am_b89 : List (List am_I) := [[(.iconst 0, [], 0), (.istore_n 2, [], 0), (.iconst 0, [], 0), (.istore_n 3, [], 0), (.nop, [1], 0)],
  [(.iload_n 3, [], 0), (.aload_n 0, [], 0), (.getfield 9, [2, 0], 0), (.getfield 66, [8, 0], 0), (.if_icmp .ge 28, [2], 0), (.iload_n 2, [], 0), (.aload_n 0, [], 0), (.getfield 9, [2, 0], 0), (.getfield 33, [8, 3], 0), (.iload_n 3, [], 0), (.bipush 8, [], 0), (.imul, [], 0), (.iload_n 1, [], 0), (.iadd, [], 0), (.iaload, [], 0), (.invokestatic 102, [0], 0), (.istore_n 2, [], 0), (.iinc 3 1, [], 0), (.goto (-33), [1], 0)],
  [(.iload_n 2, [], 0), (.ireturn, [0], 0)]]
def am_s89 : List Nat := [0, 4, 40]
/-- WashLine.many(II)I -/
def am_b90 : List (List am_I) := [[(.aload_n 0, [], 0), (.iload_n 1, [], 0), (.invokevirtual 213, [66, 2, 9], 2), (.ifCond .eq 12, [1], 0), (.iload_n 2, [], 0), (.bipush 9, [], 0), (.invokestatic 197, [23, 2], 2), (.ifCond .ne 5, [2], 0), (.nop, [1], 0)],
  [(.iconst (-1), [], 0), (.ireturn, [0], 0)],
  [(.aload_n 0, [], 0), (.getfield 53, [9, 6], 0), (.iload_n 1, [], 0), (.iload_n 2, [], 0), (.invokevirtual 254, [91, 3, 2], 3), (.ireturn, [0], 0)]]
def am_s90 : List Nat := [0, 17, 19]
/-- WashLine$Looks.explained(II)I -/
def am_b91 : List (List am_I) := [[(.iconst 0, [], 0), (.istore_n 3, [], 0), (.iconst 0, [], 0), (.istore 4, [], 0), (.nop, [1], 0)],
  [(.iload 4, [], 0), (.aload_n 0, [], 0), (.getfield 15, [2, 1], 0), (.getfield 76, [0, 1], 0), (.if_icmp .ge 38, [3], 0), (.aload_n 0, [], 0), (.iload_n 1, [], 0), (.iload 4, [], 0), (.invokevirtual 79, [74, 3, 2], 3), (.istore 5, [], 0), (.iload 5, [], 0), (.bipush (-9), [], 0), (.if_icmp .eq 16, [2], 0), (.aload_n 0, [], 0), (.iload 5, [], 0), (.invokevirtual 82, [81, 2, 2], 2), (.iload_n 2, [], 0), (.if_icmp .gt 6, [2], 0), (.iinc 3 1, [], 0), (.nop, [2], 0)],
  [(.iinc 4 1, [], 0), (.goto (-44), [1], 0)],
  [(.iload_n 3, [], 0), (.ireturn, [0], 0)]]
def am_s91 : List Nat := [0, 5, 46, 52]
/-- WashLine.step(II)I -/
def am_b92 : List (List am_I) := [[(.aload_n 0, [], 0), (.getfield 37, [9, 4], 0), (.iload_n 1, [], 0), (.invokevirtual 222, [13, 2, 0], 2), (.istore_n 3, [], 0), (.aload_n 0, [], 0), (.getfield 37, [9, 4], 0), (.iload_n 2, [], 0), (.invokevirtual 222, [13, 2, 0], 2), (.istore 4, [], 0), (.iload_n 3, [], 0), (.ifCond .lt 8, [1], 0), (.iload 4, [], 0), (.ifCond .ge 5, [2], 0), (.nop, [1], 0)],
  [(.iconst (-1), [], 0), (.ireturn, [0], 0)],
  [(.aload_n 0, [], 0), (.getfield 62, [9, 7], 0), (.iload_n 3, [], 0), (.invokevirtual 257, [93, 2, 4], 2), (.aload_n 0, [], 0), (.getfield 62, [9, 7], 0), (.iload_n 3, [], 0), (.iload 4, [], 0), (.invokevirtual 260, [100, 3, 4], 3), (.ireturn, [0], 0)]]
def am_s92 : List Nat := [0, 28, 30]
/-- WashLine$Steps.know(I)V -/
def am_b93 : List (List am_I) := [[(.aload_n 0, [], 0), (.getfield 19, [4, 4], 0), (.iload_n 1, [], 0), (.baload, [], 0), (.ifCond .eq 4, [1], 0), (.return_, [], 0)],
  [(.aload_n 0, [], 0), (.getfield 27, [4, 1], 0), (.getfield 31, [0, 1], 0), (.istore_n 2, [], 0), (.aload_n 0, [], 0), (.getfield 15, [4, 3], 0), (.arraylength, [], 0), (.iload_n 2, [], 0), (.iload_n 2, [], 0), (.imul, [], 0), (.if_icmp .ge 12, [2], 0), (.aload_n 0, [], 0), (.iload_n 2, [], 0), (.iload_n 2, [], 0), (.imul, [], 0), (.newarray .byte, [], 0), (.putfield 15, [4, 3], 0), (.nop, [2], 0)],
  [(.aload_n 0, [], 0), (.getfield 9, [4, 2], 0), (.ldc 37, [], 1000000), (.invokestatic 38, [4, 2], 2), (.aload_n 0, [], 0), (.getfield 9, [4, 2], 0), (.iload_n 1, [], 0), (.iconst 0, [], 0), (.iastore, [], 0), (.aload_n 0, [], 0), (.aload_n 0, [], 0), (.getfield 9, [4, 2], 0), (.invokevirtual 44, [94, 2, 4], 2), (.iconst 0, [], 0), (.istore_n 3, [], 0), (.nop, [3], 0)],
  [(.iload_n 3, [], 0), (.iload_n 2, [], 0), (.if_icmp .ge 26, [4], 0), (.aload_n 0, [], 0), (.getfield 15, [4, 3], 0), (.iload_n 1, [], 0), (.iload_n 2, [], 0), (.imul, [], 0), (.iload_n 3, [], 0), (.iadd, [], 0), (.aload_n 0, [], 0), (.getfield 9, [4, 2], 0), (.iload_n 3, [], 0), (.iaload, [], 0), (.i2b, [], 0), (.bastore, [], 0), (.iinc 3 1, [], 0), (.goto (-25), [3], 0)],
  [(.aload_n 0, [], 0), (.getfield 19, [4, 4], 0), (.iload_n 1, [], 0), (.iconst 1, [], 0), (.bastore, [], 0), (.return_, [], 0)]]
def am_s93 : List Nat := [0, 10, 38, 64, 92]
/-- WashLine$Steps.spread([I)V -/
def am_b94 : List (List am_I) := [[(.aload_n 0, [], 0), (.aload_n 1, [], 0), (.aload_n 0, [], 0), (.getfield 23, [4, 0], 0), (.getfield 48, [8, 5], 0), (.iconst 1, [], 0), (.iaload, [], 0), (.invokevirtual 53, [95, 3, 4], 3), (.aload_n 0, [], 0), (.aload_n 1, [], 0), (.invokevirtual 56, [97, 2, 4], 2), (.aload_n 0, [], 0), (.aload_n 1, [], 0), (.aload_n 0, [], 0), (.getfield 23, [4, 0], 0), (.getfield 48, [8, 5], 0), (.iconst 0, [], 0), (.iaload, [], 0), (.invokevirtual 59, [99, 3, 4], 3), (.return_, [], 0)]]
def am_s94 : List Nat := [0]
/-- WashLine$Steps.fromMore([II)V -/
def am_b95 : List (List am_I) := [[(.aload_n 0, [], 0), (.getfield 27, [4, 1], 0), (.getfield 31, [0, 1], 0), (.iconst 1, [], 0), (.isub, [], 0), (.istore_n 3, [], 0), (.nop, [1], 0)],
  [(.iload_n 3, [], 0), (.ifCond .lt 26, [2], 0), (.aload_n 1, [], 0), (.iload_n 3, [], 0), (.aload_n 0, [], 0), (.aload_n 1, [], 0), (.aload_n 0, [], 0), (.getfield 27, [4, 1], 0), (.getfield 65, [0, 5], 0), (.iload_n 3, [], 0), (.iload_n 2, [], 0), (.invokevirtual 68, [96, 5, 4], 5), (.iastore, [], 0), (.iinc 3 (-1), [], 0), (.goto (-24), [1], 0)],
  [(.return_, [], 0)]]
def am_s95 : List Nat := [0, 10, 37]
/-- WashLine$Steps.leastOf([I[III)I -/
def am_b96 : List (List am_I) := [[(.aload_n 1, [], 0), (.iload_n 3, [], 0), (.iaload, [], 0), (.istore 5, [], 0), (.iload_n 3, [], 0), (.bipush 6, [], 0), (.imul, [], 0), (.istore 6, [], 0), (.nop, [1], 0)],
  [(.iload 6, [], 0), (.iload_n 3, [], 0), (.bipush 6, [], 0), (.imul, [], 0), (.aload_n 0, [], 0), (.getfield 23, [4, 0], 0), (.getfield 75, [8, 0], 0), (.iadd, [], 0), (.if_icmp .ge 41, [3], 0), (.aload_n 2, [], 0), (.iload 6, [], 0), (.iaload, [], 0), (.ifCond .lt 28, [2], 0), (.aload_n 1, [], 0), (.aload_n 2, [], 0), (.iload 6, [], 0), (.iaload, [], 0), (.iaload, [], 0), (.iload 4, [], 0), (.iadd, [], 0), (.iload 5, [], 0), (.if_icmp .ge 14, [2], 0), (.aload_n 1, [], 0), (.aload_n 2, [], 0), (.iload 6, [], 0), (.iaload, [], 0), (.iaload, [], 0), (.iload 4, [], 0), (.iadd, [], 0), (.istore 5, [], 0), (.nop, [2], 0)],
  [(.iinc 6 1, [], 0), (.goto (-52), [1], 0)],
  [(.iload 5, [], 0), (.ireturn, [0], 0)]]
def am_s96 : List Nat := [0, 11, 60, 66]
/-- WashLine$Steps.grow([I)V -/
def am_b97 : List (List am_I) := [[(.iconst 1, [], 0), (.istore_n 2, [], 0), (.iconst 0, [], 0), (.istore_n 3, [], 0), (.nop, [1], 0)],
  [(.iload_n 2, [], 0), (.ifCond .eq 50, [5], 0), (.iload_n 3, [], 0), (.bipush 64, [], 0), (.if_icmp .ge 44, [5], 0), (.iconst 0, [], 0), (.istore_n 2, [], 0), (.iconst 0, [], 0), (.istore 4, [], 0), (.nop, [2], 0)],
  [(.iload 4, [], 0), (.aload_n 0, [], 0), (.getfield 27, [4, 1], 0), (.getfield 31, [0, 1], 0), (.if_icmp .ge 21, [4], 0), (.aload_n 0, [], 0), (.aload_n 1, [], 0), (.iload 4, [], 0), (.invokevirtual 78, [98, 3, 4], 3), (.ifCond .eq 5, [3], 0), (.iconst 1, [], 0), (.istore_n 2, [], 0), (.nop, [3], 0)],
  [(.iinc 4 1, [], 0), (.goto (-27), [2], 0)],
  [(.iinc 3 1, [], 0), (.goto (-48), [1], 0)],
  [(.return_, [], 0)]]
def am_s97 : List Nat := [0, 4, 19, 43, 49, 55]
/-- WashLine$Steps.growOne([II)Z -/
def am_b98 : List (List am_I) := [[(.aload_n 1, [], 0), (.iload_n 2, [], 0), (.iaload, [], 0), (.aload_n 0, [], 0), (.getfield 23, [4, 0], 0), (.getfield 48, [8, 5], 0), (.iconst 2, [], 0), (.iaload, [], 0), (.iadd, [], 0), (.istore_n 3, [], 0), (.iconst 0, [], 0), (.istore 4, [], 0), (.iload_n 2, [], 0), (.bipush 6, [], 0), (.imul, [], 0), (.istore 5, [], 0), (.nop, [1], 0)],
  [(.iload 5, [], 0), (.iload_n 2, [], 0), (.bipush 6, [], 0), (.imul, [], 0), (.aload_n 0, [], 0), (.getfield 23, [4, 0], 0), (.getfield 75, [8, 0], 0), (.iadd, [], 0), (.if_icmp .ge 54, [3], 0), (.aload_n 0, [], 0), (.getfield 27, [4, 1], 0), (.getfield 82, [0, 7], 0), (.iload 5, [], 0), (.iaload, [], 0), (.ifCond .lt 35, [2], 0), (.iload_n 3, [], 0), (.aload_n 1, [], 0), (.aload_n 0, [], 0), (.getfield 27, [4, 1], 0), (.getfield 82, [0, 7], 0), (.iload 5, [], 0), (.iaload, [], 0), (.iaload, [], 0), (.if_icmp .ge 19, [2], 0), (.aload_n 1, [], 0), (.aload_n 0, [], 0), (.getfield 27, [4, 1], 0), (.getfield 82, [0, 7], 0), (.iload 5, [], 0), (.iaload, [], 0), (.iload_n 3, [], 0), (.iastore, [], 0), (.iconst 1, [], 0), (.istore 4, [], 0), (.nop, [2], 0)],
  [(.iinc 5 1, [], 0), (.goto (-65), [1], 0)],
  [(.iload 4, [], 0), (.ireturn, [1], 0)]]
def am_s98 : List Nat := [0, 23, 85, 91]
/-- WashLine$Steps.fromLess([II)V -/
def am_b99 : List (List am_I) := [[(.iconst 0, [], 0), (.istore_n 3, [], 0), (.nop, [1], 0)],
  [(.iload_n 3, [], 0), (.aload_n 0, [], 0), (.getfield 27, [4, 1], 0), (.getfield 31, [0, 1], 0), (.if_icmp .ge 26, [2], 0), (.aload_n 1, [], 0), (.iload_n 3, [], 0), (.aload_n 0, [], 0), (.aload_n 1, [], 0), (.aload_n 0, [], 0), (.getfield 27, [4, 1], 0), (.getfield 72, [0, 6], 0), (.iload_n 3, [], 0), (.iload_n 2, [], 0), (.invokevirtual 68, [96, 5, 4], 5), (.iastore, [], 0), (.iinc 3 1, [], 0), (.goto (-31), [1], 0)],
  [(.return_, [], 0)]]
def am_s99 : List Nat := [0, 2, 36]
/-- WashLine$Steps.between(II)I -/
def am_b100 : List (List am_I) := [[(.aload_n 0, [], 0), (.getfield 15, [4, 3], 0), (.iload_n 1, [], 0), (.aload_n 0, [], 0), (.getfield 27, [4, 1], 0), (.getfield 31, [0, 1], 0), (.imul, [], 0), (.iload_n 2, [], 0), (.iadd, [], 0), (.baload, [], 0), (.ireturn, [0], 0)]]
def am_s100 : List Nat := [0]
/-- WashLine.plain()I -/
def am_b101 : List (List am_I) := [[(.aload_n 0, [], 0), (.getfield 71, [9, 8], 0), (.invokevirtual 263, [102, 1, 7], 1), (.aload_n 0, [], 0), (.getfield 71, [9, 8], 0), (.invokevirtual 266, [106, 1, 7], 1), (.ifCond .eq 13, [1], 0), (.aload_n 0, [], 0), (.getfield 71, [9, 8], 0), (.getfield 269, [7, 6], 0), (.goto 5, [2], 0)],
  [(.bipush (-9), [], 0), (.nop, [2], 0)],
  [(.ireturn, [0], 0)]]
def am_s101 : List Nat := [0, 27, 29]
/-- WashLine$Winter.weigh()V -/
def am_b102 : List (List am_I) := [[(.aload_n 0, [], 0), (.getfield 9, [7, 4], 0), (.ifCond .eq 4, [1], 0), (.return_, [], 0)],
  [(.aload_n 0, [], 0), (.iconst 1, [], 0), (.putfield 9, [7, 4], 0), (.iconst 0, [], 0), (.istore_n 1, [], 0), (.nop, [2], 0)],
  [(.iload_n 1, [], 0), (.aload_n 0, [], 0), (.getfield 62, [7, 1], 0), (.getfield 75, [1, 0], 0), (.if_icmp .ge 14, [3], 0), (.aload_n 0, [], 0), (.iload_n 1, [], 0), (.invokevirtual 80, [103, 2, 7], 2), (.iinc 1 1, [], 0), (.goto (-19), [2], 0)],
  [(.aload_n 0, [], 0), (.aload_n 0, [], 0), (.invokevirtual 84, [104, 1, 7], 1), (.putfield 18, [7, 6], 0), (.aload_n 0, [], 0), (.invokevirtual 88, [106, 1, 7], 1), (.ifCond .eq 35, [6], 0), (.aload_n 0, [], 0), (.invokevirtual 92, [107, 1, 7], 1), (.iconst 0, [], 0), (.istore_n 1, [], 0), (.nop, [4], 0)],
  [(.iload_n 1, [], 0), (.aload_n 0, [], 0), (.getfield 62, [7, 1], 0), (.getfield 75, [1, 0], 0), (.if_icmp .ge 14, [5], 0), (.aload_n 0, [], 0), (.iload_n 1, [], 0), (.invokevirtual 95, [110, 2, 7], 2), (.iinc 1 1, [], 0), (.goto (-19), [4], 0)],
  [(.aload_n 0, [], 0), (.invokevirtual 98, [112, 1, 7], 1), (.nop, [6], 0)],
  [(.return_, [], 0)]]
def am_s102 : List Nat := [0, 8, 15, 37, 58, 80, 84]
/-- WashLine$Winter.setPrices(I)V -/
def am_b103 : List (List am_I) := [[(.iconst 0, [], 0), (.istore_n 2, [], 0), (.nop, [1], 0)],
  [(.iload_n 2, [], 0), (.aload_n 0, [], 0), (.getfield 58, [7, 0], 0), (.getfield 101, [0, 1], 0), (.if_icmp .ge 50, [4], 0), (.aload_n 0, [], 0), (.getfield 66, [7, 2], 0), (.iload_n 1, [], 0), (.iload_n 2, [], 0), (.invokevirtual 104, [74, 3, 2], 3), (.istore_n 3, [], 0), (.aload_n 0, [], 0), (.getfield 33, [7, 10], 0), (.iload_n 1, [], 0), (.sipush 462, [], 0), (.imul, [], 0), (.iload_n 2, [], 0), (.iadd, [], 0), (.iload_n 3, [], 0), (.bipush (-9), [], 0), (.if_icmp .ne 8, [2], 0), (.ldc 74, [], 1000000), (.goto 11, [3], 0)],
  [(.aload_n 0, [], 0), (.getfield 66, [7, 2], 0), (.iload_n 3, [], 0), (.invokevirtual 110, [81, 2, 2], 2), (.nop, [3], 0)],
  [(.iastore, [], 0), (.iinc 2 1, [], 0), (.goto (-55), [1], 0)],
  [(.return_, [], 0)]]
def am_s103 : List Nat := [0, 2, 45, 53, 60]
/-- WashLine$Winter.goAhead()I -/
def am_b104 : List (List am_I) := [[(.aload_n 0, [], 0), (.getfield 30, [7, 9], 0), (.ldc 74, [], 1000000), (.invokestatic 114, [4, 2], 2), (.aload_n 0, [], 0), (.getfield 30, [7, 9], 0), (.iconst 0, [], 0), (.iconst 0, [], 0), (.iastore, [], 0), (.iconst 0, [], 0), (.istore_n 1, [], 0), (.nop, [1], 0)],
  [(.iload_n 1, [], 0), (.aload_n 0, [], 0), (.getfield 62, [7, 1], 0), (.getfield 75, [1, 0], 0), (.if_icmp .ge 45, [2], 0), (.aload_n 0, [], 0), (.getfield 70, [7, 3], 0), (.aload_n 0, [], 0), (.getfield 30, [7, 9], 0), (.invokevirtual 120, [94, 2, 4], 2), (.aload_n 0, [], 0), (.iload_n 1, [], 0), (.invokevirtual 126, [105, 2, 7], 2), (.aload_n 0, [], 0), (.getfield 30, [7, 9], 0), (.iconst 0, [], 0), (.aload_n 0, [], 0), (.getfield 36, [7, 11], 0), (.iload_n 1, [], 0), (.sipush 462, [], 0), (.imul, [], 0), (.sipush 462, [], 0), (.invokestatic 128, [], 0), (.iinc 1 1, [], 0), (.goto (-50), [1], 0)],
  [(.ldc 74, [], 1000000), (.istore_n 1, [], 0), (.iconst 0, [], 0), (.istore_n 2, [], 0), (.nop, [3], 0)],
  [(.iload_n 2, [], 0), (.aload_n 0, [], 0), (.getfield 58, [7, 0], 0), (.getfield 101, [0, 1], 0), (.if_icmp .ge 20, [4], 0), (.iload_n 1, [], 0), (.aload_n 0, [], 0), (.getfield 30, [7, 9], 0), (.iload_n 2, [], 0), (.iaload, [], 0), (.invokestatic 134, [1], 0), (.istore_n 1, [], 0), (.iinc 2 1, [], 0), (.goto (-25), [3], 0)],
  [(.iload_n 1, [], 0), (.ireturn, [0], 0)]]
def am_s104 : List Nat := [0, 18, 71, 76, 104]
/-- WashLine$Winter.explain(I)V -/
def am_b105 : List (List am_I) := [[(.iconst 0, [], 0), (.istore_n 2, [], 0), (.nop, [1], 0)],
  [(.iload_n 2, [], 0), (.aload_n 0, [], 0), (.getfield 58, [7, 0], 0), (.getfield 101, [0, 1], 0), (.if_icmp .ge 39, [2], 0), (.aload_n 0, [], 0), (.getfield 30, [7, 9], 0), (.iload_n 2, [], 0), (.ldc 74, [], 1000000), (.aload_n 0, [], 0), (.getfield 30, [7, 9], 0), (.iload_n 2, [], 0), (.iaload, [], 0), (.aload_n 0, [], 0), (.getfield 33, [7, 10], 0), (.iload_n 1, [], 0), (.sipush 462, [], 0), (.imul, [], 0), (.iload_n 2, [], 0), (.iadd, [], 0), (.iaload, [], 0), (.iadd, [], 0), (.invokestatic 134, [1], 0), (.iastore, [], 0), (.iinc 2 1, [], 0), (.goto (-44), [1], 0)],
  [(.return_, [], 0)]]
def am_s105 : List Nat := [0, 2, 49]
/-- WashLine$Winter.isTold()Z -/
def am_b106 : List (List am_I) := [[(.aload_n 0, [], 0), (.getfield 18, [7, 6], 0), (.ldc 74, [], 1000000), (.if_icmp .ge 7, [1], 0), (.iconst 1, [], 0), (.goto 4, [2], 0)],
  [(.iconst 0, [], 0), (.nop, [2], 0)],
  [(.ireturn, [1], 0)]]
def am_s106 : List Nat := [0, 13, 14]
/-- WashLine$Winter.goBack()V -/
def am_b107 : List (List am_I) := [[(.aload_n 0, [], 0), (.getfield 30, [7, 9], 0), (.iconst 0, [], 0), (.invokestatic 114, [4, 2], 2), (.aload_n 0, [], 0), (.getfield 62, [7, 1], 0), (.getfield 75, [1, 0], 0), (.iconst 1, [], 0), (.isub, [], 0), (.istore_n 1, [], 0), (.nop, [1], 0)],
  [(.iload_n 1, [], 0), (.ifCond .lt 45, [2], 0), (.aload_n 0, [], 0), (.getfield 30, [7, 9], 0), (.iconst 0, [], 0), (.aload_n 0, [], 0), (.getfield 39, [7, 12], 0), (.iload_n 1, [], 0), (.sipush 462, [], 0), (.imul, [], 0), (.sipush 462, [], 0), (.invokestatic 128, [], 0), (.aload_n 0, [], 0), (.iload_n 1, [], 0), (.invokevirtual 126, [105, 2, 7], 2), (.aload_n 0, [], 0), (.getfield 70, [7, 3], 0), (.aload_n 0, [], 0), (.getfield 30, [7, 9], 0), (.invokevirtual 139, [108, 2, 4], 2), (.iinc 1 (-1), [], 0), (.goto (-43), [1], 0)],
  [(.return_, [], 0)]]
def am_s107 : List Nat := [0, 18, 64]
/-- WashLine$Steps.gather([I)V -/
def am_b108 : List (List am_I) := [[(.aload_n 0, [], 0), (.aload_n 1, [], 0), (.aload_n 0, [], 0), (.getfield 23, [4, 0], 0), (.getfield 48, [8, 5], 0), (.iconst 0, [], 0), (.iaload, [], 0), (.invokevirtual 53, [95, 3, 4], 3), (.aload_n 0, [], 0), (.aload_n 1, [], 0), (.invokevirtual 62, [109, 2, 4], 2), (.aload_n 0, [], 0), (.aload_n 1, [], 0), (.aload_n 0, [], 0), (.getfield 23, [4, 0], 0), (.getfield 48, [8, 5], 0), (.iconst 1, [], 0), (.iaload, [], 0), (.invokevirtual 59, [99, 3, 4], 3), (.return_, [], 0)]]
def am_s108 : List Nat := [0]
/-- WashLine$Steps.growBack([I)V -/
def am_b109 : List (List am_I) := [[(.aload_n 0, [], 0), (.getfield 23, [4, 0], 0), (.getfield 48, [8, 5], 0), (.iconst 2, [], 0), (.iaload, [], 0), (.istore_n 2, [], 0), (.iconst 1, [], 0), (.istore_n 3, [], 0), (.iconst 0, [], 0), (.istore 4, [], 0), (.nop, [1], 0)],
  [(.iload_n 3, [], 0), (.ifCond .eq 74, [5], 0), (.iload 4, [], 0), (.bipush 64, [], 0), (.if_icmp .ge 67, [5], 0), (.iconst 0, [], 0), (.istore_n 3, [], 0), (.aload_n 0, [], 0), (.getfield 27, [4, 1], 0), (.getfield 31, [0, 1], 0), (.iconst 1, [], 0), (.isub, [], 0), (.istore 5, [], 0), (.nop, [2], 0)],
  [(.iload 5, [], 0), (.ifCond .lt 43, [4], 0), (.aload_n 0, [], 0), (.aload_n 1, [], 0), (.aload_n 0, [], 0), (.getfield 27, [4, 1], 0), (.getfield 82, [0, 7], 0), (.iload 5, [], 0), (.iload_n 2, [], 0), (.invokevirtual 68, [96, 5, 4], 5), (.istore 6, [], 0), (.iload 6, [], 0), (.aload_n 1, [], 0), (.iload 5, [], 0), (.iaload, [], 0), (.if_icmp .ge 11, [3], 0), (.aload_n 1, [], 0), (.iload 5, [], 0), (.iload 6, [], 0), (.iastore, [], 0), (.iconst 1, [], 0), (.istore_n 3, [], 0), (.nop, [3], 0)],
  [(.iinc 5 (-1), [], 0), (.goto (-42), [2], 0)],
  [(.iinc 4 1, [], 0), (.goto (-72), [1], 0)],
  [(.return_, [], 0)]]
def am_s109 : List Nat := [0, 15, 39, 78, 84, 90]
/-- WashLine$Winter.list(I)V -/
def am_b110 : List (List am_I) := [[(.iconst 0, [], 0), (.istore_n 2, [], 0), (.iconst 0, [], 0), (.istore_n 3, [], 0), (.nop, [1], 0)],
  [(.iload_n 3, [], 0), (.aload_n 0, [], 0), (.getfield 58, [7, 0], 0), (.getfield 101, [0, 1], 0), (.if_icmp .ge 38, [3], 0), (.aload_n 0, [], 0), (.iload_n 1, [], 0), (.iload_n 3, [], 0), (.invokevirtual 142, [111, 3, 7], 3), (.aload_n 0, [], 0), (.getfield 18, [7, 6], 0), (.if_icmp .ne 19, [2], 0), (.aload_n 0, [], 0), (.getfield 42, [7, 13], 0), (.iload_n 1, [], 0), (.sipush 462, [], 0), (.imul, [], 0), (.iload_n 2, [], 0), (.iadd, [], 0), (.iload_n 3, [], 0), (.iastore, [], 0), (.iinc 2 1, [], 0), (.nop, [2], 0)],
  [(.iinc 3 1, [], 0), (.goto (-43), [1], 0)],
  [(.aload_n 0, [], 0), (.getfield 45, [7, 14], 0), (.iload_n 1, [], 0), (.iload_n 2, [], 0), (.iastore, [], 0), (.return_, [], 0)]]
def am_s110 : List Nat := [0, 4, 44, 50]
/-- WashLine$Winter.costBy(II)I -/
def am_b111 : List (List am_I) := [[(.aload_n 0, [], 0), (.invokevirtual 88, [106, 1, 7], 1), (.ifCond .eq 31, [1], 0), (.aload_n 0, [], 0), (.getfield 36, [7, 11], 0), (.iload_n 1, [], 0), (.sipush 462, [], 0), (.imul, [], 0), (.iload_n 2, [], 0), (.iadd, [], 0), (.iaload, [], 0), (.aload_n 0, [], 0), (.getfield 39, [7, 12], 0), (.iload_n 1, [], 0), (.sipush 462, [], 0), (.imul, [], 0), (.iload_n 2, [], 0), (.iadd, [], 0), (.iaload, [], 0), (.iadd, [], 0), (.goto 5, [2], 0)],
  [(.ldc 74, [], 1000000), (.nop, [2], 0)],
  [(.ireturn, [0], 0)]]
def am_s111 : List Nat := [0, 35, 37]
/-- WashLine$Winter.findFirst()V -/
def am_b112 : List (List am_I) := [[(.iconst 0, [], 0), (.istore_n 1, [], 0), (.nop, [1], 0)],
  [(.iload_n 1, [], 0), (.aload_n 0, [], 0), (.getfield 62, [7, 1], 0), (.getfield 75, [1, 0], 0), (.if_icmp .ge 100, [7], 0), (.iconst 1, [], 0), (.istore_n 2, [], 0), (.iload_n 1, [], 0), (.ifCond .le 18, [2], 0), (.aload_n 0, [], 0), (.getfield 70, [7, 3], 0), (.aload_n 0, [], 0), (.getfield 26, [7, 8], 0), (.iload_n 1, [], 0), (.iconst 1, [], 0), (.isub, [], 0), (.iaload, [], 0), (.invokevirtual 145, [93, 2, 4], 2), (.nop, [2], 0)],
  [(.iconst 0, [], 0), (.istore_n 3, [], 0), (.nop, [3], 0)],
  [(.iload_n 2, [], 0), (.ifCond .eq 67, [6], 0), (.iload_n 3, [], 0), (.aload_n 0, [], 0), (.getfield 45, [7, 14], 0), (.iload_n 1, [], 0), (.iaload, [], 0), (.if_icmp .ge 57, [6], 0), (.aload_n 0, [], 0), (.getfield 42, [7, 13], 0), (.iload_n 1, [], 0), (.sipush 462, [], 0), (.imul, [], 0), (.iload_n 3, [], 0), (.iadd, [], 0), (.iaload, [], 0), (.istore 4, [], 0), (.iload_n 1, [], 0), (.ifCond .eq 23, [4], 0), (.aload_n 0, [], 0), (.iload_n 1, [], 0), (.iconst 1, [], 0), (.isub, [], 0), (.aload_n 0, [], 0), (.getfield 26, [7, 8], 0), (.iload_n 1, [], 0), (.iconst 1, [], 0), (.isub, [], 0), (.iaload, [], 0), (.iload 4, [], 0), (.invokevirtual 148, [113, 4, 7], 4), (.ifCond .eq 13, [5], 0), (.nop, [4], 0)],
  [(.aload_n 0, [], 0), (.getfield 26, [7, 8], 0), (.iload_n 1, [], 0), (.iload 4, [], 0), (.iastore, [], 0), (.iconst 0, [], 0), (.istore_n 2, [], 0), (.nop, [5], 0)],
  [(.iinc 3 1, [], 0), (.goto (-65), [3], 0)],
  [(.iinc 1 1, [], 0), (.goto (-105), [1], 0)],
  [(.return_, [], 0)]]
def am_s112 : List Nat := [0, 2, 34, 36, 88, 98, 104, 110]
/-- WashLine$Winter.follows(III)Z -/
def am_b113 : List (List am_I) := [[(.iload_n 1, [], 0), (.iconst 1, [], 0), (.iadd, [], 0), (.sipush 462, [], 0), (.imul, [], 0), (.iload_n 3, [], 0), (.iadd, [], 0), (.istore 4, [], 0), (.aload_n 0, [], 0), (.getfield 36, [7, 11], 0), (.iload_n 1, [], 0), (.sipush 462, [], 0), (.imul, [], 0), (.iload_n 2, [], 0), (.iadd, [], 0), (.iaload, [], 0), (.aload_n 0, [], 0), (.getfield 70, [7, 3], 0), (.iload_n 2, [], 0), (.iload_n 3, [], 0), (.invokevirtual 152, [100, 3, 4], 3), (.iadd, [], 0), (.aload_n 0, [], 0), (.getfield 33, [7, 10], 0), (.iload 4, [], 0), (.iaload, [], 0), (.iadd, [], 0), (.aload_n 0, [], 0), (.getfield 36, [7, 11], 0), (.iload 4, [], 0), (.iaload, [], 0), (.if_icmp .ne 7, [1], 0), (.iconst 1, [], 0), (.goto 4, [2], 0)],
  [(.iconst 0, [], 0), (.nop, [2], 0)],
  [(.ireturn, [1], 0)]]
def am_s113 : List Nat := [0, 55, 56]
/-- WashLine.tale(I)I -/
def am_b114 : List (List am_I) := [[(.iload_n 1, [], 0), (.invokestatic 108, [22, 1], 1), (.ifCond .ne 5, [1], 0), (.iconst (-1), [], 0), (.ireturn, [0], 0)],
  [(.aload_n 0, [], 0), (.getfield 71, [9, 8], 0), (.invokevirtual 263, [102, 1, 7], 1), (.aload_n 0, [], 0), (.getfield 71, [9, 8], 0), (.invokevirtual 266, [106, 1, 7], 1), (.ifCond .ne 9, [2], 0), (.aload_n 0, [], 0), (.iconst 4, [], 0), (.invokevirtual 112, [24, 2, 9], 2), (.ireturn, [0], 0)],
  [(.aload_n 0, [], 0), (.getfield 11, [9, 0], 0), (.iload_n 1, [], 0), (.aaload, [], 0), (.aload_n 0, [], 0), (.getfield 44, [9, 5], 0), (.getfield 170, [1, 0], 0), (.iconst 0, [], 0), (.invokevirtual 116, [25, 3, 6], 3), (.iconst 0, [], 0), (.istore_n 2, [], 0), (.nop, [3], 0)],
  [(.iload_n 2, [], 0), (.aload_n 0, [], 0), (.getfield 44, [9, 5], 0), (.getfield 170, [1, 0], 0), (.if_icmp .ge 37, [4], 0), (.aload_n 0, [], 0), (.getfield 11, [9, 0], 0), (.iload_n 1, [], 0), (.aaload, [], 0), (.getfield 134, [6, 0], 0), (.iload_n 2, [], 0), (.aload_n 0, [], 0), (.getfield 37, [9, 4], 0), (.getfield 245, [0, 2], 0), (.aload_n 0, [], 0), (.getfield 71, [9, 8], 0), (.getfield 272, [7, 8], 0), (.iload_n 2, [], 0), (.iaload, [], 0), (.iaload, [], 0), (.iastore, [], 0), (.iinc 2 1, [], 0), (.goto (-42), [3], 0)],
  [(.aload_n 0, [], 0), (.getfield 44, [9, 5], 0), (.getfield 170, [1, 0], 0), (.ireturn, [0], 0)]]
def am_s114 : List Nat := [0, 9, 32, 51, 96]
/-- WashLine.ways()I -/
def am_b115 : List (List am_I) := [[(.aload_n 0, [], 0), (.getfield 71, [9, 8], 0), (.invokevirtual 263, [102, 1, 7], 1), (.aload_n 0, [], 0), (.getfield 71, [9, 8], 0), (.invokevirtual 275, [116, 1, 7], 1), (.aload_n 0, [], 0), (.getfield 71, [9, 8], 0), (.getfield 278, [7, 7], 0), (.ldc2_w 281, [], 1000000000000000), (.lcmp, [], 0), (.ifCond .le 6, [1], 0), (.bipush (-6), [], 0), (.ireturn, [0], 0)],
  [(.aload_n 0, [], 0), (.aload_n 0, [], 0), (.getfield 71, [9, 8], 0), (.getfield 278, [7, 7], 0), (.putfield 95, [9, 13], 0), (.aload_n 0, [], 0), (.getfield 71, [9, 8], 0), (.getfield 278, [7, 7], 0), (.lconst 0, [], 0), (.lcmp, [], 0), (.ifCond .le 7, [2], 0), (.iconst 1, [], 0), (.goto 4, [3], 0)],
  [(.iconst 0, [], 0), (.nop, [3], 0)],
  [(.ireturn, [0], 0)]]
def am_s115 : List Nat := [0, 31, 58, 59]
/-- WashLine$Winter.countWays()V -/
def am_b116 : List (List am_I) := [[(.aload_n 0, [], 0), (.getfield 15, [7, 5], 0), (.ifCond .eq 4, [1], 0), (.return_, [], 0)],
  [(.aload_n 0, [], 0), (.iconst 1, [], 0), (.putfield 15, [7, 5], 0), (.aload_n 0, [], 0), (.aload_n 0, [], 0), (.invokevirtual 88, [106, 1, 7], 1), (.ifCond .eq 7, [2], 0), (.lconst 1, [], 0), (.goto 4, [3], 0)],
  [(.lconst 0, [], 0), (.nop, [3], 0)],
  [(.putfield 22, [7, 7], 0), (.aload_n 0, [], 0), (.invokevirtual 88, [106, 1, 7], 1), (.ifCond .eq 119, [9], 0), (.aload_n 0, [], 0), (.getfield 62, [7, 1], 0), (.getfield 75, [1, 0], 0), (.ifCond .le 109, [9], 0), (.aload_n 0, [], 0), (.getfield 62, [7, 1], 0), (.getfield 75, [1, 0], 0), (.iconst 1, [], 0), (.isub, [], 0), (.istore_n 1, [], 0), (.nop, [4], 0)],
  [(.iload_n 1, [], 0), (.ifCond .lt 14, [5], 0), (.aload_n 0, [], 0), (.iload_n 1, [], 0), (.invokevirtual 161, [117, 2, 7], 2), (.iinc 1 (-1), [], 0), (.goto (-12), [4], 0)],
  [(.aload_n 0, [], 0), (.lconst 0, [], 0), (.putfield 22, [7, 7], 0), (.iconst 0, [], 0), (.istore_n 1, [], 0), (.nop, [6], 0)],
  [(.iload_n 1, [], 0), (.aload_n 0, [], 0), (.getfield 45, [7, 14], 0), (.iconst 0, [], 0), (.iaload, [], 0), (.if_icmp .ge 32, [7], 0), (.aload_n 0, [], 0), (.aload_n 0, [], 0), (.getfield 22, [7, 7], 0), (.aload_n 0, [], 0), (.getfield 52, [7, 16], 0), (.aload_n 0, [], 0), (.getfield 42, [7, 13], 0), (.iload_n 1, [], 0), (.iaload, [], 0), (.laload, [], 0), (.ladd, [], 0), (.invokestatic 164, [118, 1], 2), (.putfield 22, [7, 7], 0), (.iinc 1 1, [], 0), (.goto (-36), [6], 0)],
  [(.iconst 0, [], 0), (.istore_n 1, [], 0), (.nop, [8], 0)],
  [(.iload_n 1, [], 0), (.aload_n 0, [], 0), (.getfield 62, [7, 1], 0), (.getfield 75, [1, 0], 0), (.if_icmp .ge 25, [9], 0), (.aload_n 0, [], 0), (.getfield 22, [7, 7], 0), (.ldc2_w 168, [], 1000000000000000), (.lcmp, [], 0), (.ifCond .gt 14, [9], 0), (.aload_n 0, [], 0), (.iload_n 1, [], 0), (.invokevirtual 170, [119, 2, 7], 2), (.iinc 1 1, [], 0), (.goto (-30), [8], 0)],
  [(.return_, [], 0)]]
def am_s116 : List Nat := [0, 8, 25, 26, 56, 71, 78, 117, 119, 152]
/-- WashLine$Winter.countOn(I)V -/
def am_b117 : List (List am_I) := [[(.iload_n 1, [], 0), (.aload_n 0, [], 0), (.getfield 62, [7, 1], 0), (.getfield 75, [1, 0], 0), (.iconst 1, [], 0), (.isub, [], 0), (.if_icmp .ne 7, [1], 0), (.iconst 1, [], 0), (.goto 4, [2], 0)],
  [(.iconst 0, [], 0), (.nop, [2], 0)],
  [(.istore_n 2, [], 0), (.iconst 0, [], 0), (.istore_n 3, [], 0), (.nop, [3], 0)],
  [(.iload_n 3, [], 0), (.aload_n 0, [], 0), (.getfield 45, [7, 14], 0), (.iload_n 1, [], 0), (.iaload, [], 0), (.if_icmp .ge 136, [9], 0), (.aload_n 0, [], 0), (.getfield 42, [7, 13], 0), (.iload_n 1, [], 0), (.sipush 462, [], 0), (.imul, [], 0), (.iload_n 3, [], 0), (.iadd, [], 0), (.iaload, [], 0), (.istore 4, [], 0), (.iload_n 2, [], 0), (.ifCond .eq 7, [4], 0), (.lconst 1, [], 0), (.goto 4, [5], 0)],
  [(.lconst 0, [], 0), (.nop, [5], 0)],
  [(.lstore 5, [], 0), (.aload_n 0, [], 0), (.getfield 70, [7, 3], 0), (.iload 4, [], 0), (.invokevirtual 145, [93, 2, 4], 2), (.iconst 0, [], 0), (.istore 7, [], 0), (.nop, [6], 0)],
  [(.iload_n 2, [], 0), (.ifCond .ne 74, [8], 0), (.iload 7, [], 0), (.aload_n 0, [], 0), (.getfield 45, [7, 14], 0), (.iload_n 1, [], 0), (.iconst 1, [], 0), (.iadd, [], 0), (.iaload, [], 0), (.if_icmp .ge 61, [8], 0), (.aload_n 0, [], 0), (.getfield 42, [7, 13], 0), (.iload_n 1, [], 0), (.iconst 1, [], 0), (.iadd, [], 0), (.sipush 462, [], 0), (.imul, [], 0), (.iload 7, [], 0), (.iadd, [], 0), (.iaload, [], 0), (.istore 8, [], 0), (.aload_n 0, [], 0), (.iload_n 1, [], 0), (.iload 4, [], 0), (.iload 8, [], 0), (.invokevirtual 148, [113, 4, 7], 4), (.ifCond .eq 26, [7], 0), (.lload 5, [], 0), (.aload_n 0, [], 0), (.getfield 52, [7, 16], 0), (.iload_n 1, [], 0), (.iconst 1, [], 0), (.iadd, [], 0), (.sipush 462, [], 0), (.imul, [], 0), (.iload 8, [], 0), (.iadd, [], 0), (.laload, [], 0), (.ladd, [], 0), (.invokestatic 164, [118, 1], 2), (.lstore 5, [], 0), (.nop, [7], 0)],
  [(.iinc 7 1, [], 0), (.goto (-72), [6], 0)],
  [(.aload_n 0, [], 0), (.getfield 52, [7, 16], 0), (.iload_n 1, [], 0), (.sipush 462, [], 0), (.imul, [], 0), (.iload 4, [], 0), (.iadd, [], 0), (.lload 5, [], 0), (.lastore, [], 0), (.iinc 3 1, [], 0), (.goto (-140), [3], 0)],
  [(.return_, [], 0)]]
def am_s117 : List Nat := [0, 17, 18, 21, 53, 54, 68, 137, 143, 164]
/-- WashLine$Winter.capped(J)J -/
def am_b118 : List (List am_I) := [[(.lload_n 0, [], 0), (.ldc2_w 173, [], 1000000000000001), (.invokestatic 175, [2], 0), (.lreturn, [], 0)]]
def am_s118 : List Nat := [0]
/-- WashLine$Winter.countTo(I)V -/
def am_b119 : List (List am_I) := [[(.iconst 0, [], 0), (.istore_n 2, [], 0), (.nop, [1], 0)],
  [(.iload_n 2, [], 0), (.aload_n 0, [], 0), (.getfield 45, [7, 14], 0), (.iload_n 1, [], 0), (.iaload, [], 0), (.if_icmp .ge 126, [7], 0), (.aload_n 0, [], 0), (.getfield 42, [7, 13], 0), (.iload_n 1, [], 0), (.sipush 462, [], 0), (.imul, [], 0), (.iload_n 2, [], 0), (.iadd, [], 0), (.iaload, [], 0), (.istore_n 3, [], 0), (.iload_n 1, [], 0), (.ifCond .ne 7, [2], 0), (.lconst 1, [], 0), (.goto 4, [3], 0)],
  [(.lconst 0, [], 0), (.nop, [3], 0)],
  [(.lstore 4, [], 0), (.iconst 0, [], 0), (.istore 6, [], 0), (.nop, [4], 0)],
  [(.iload_n 1, [], 0), (.ifCond .le 75, [6], 0), (.iload 6, [], 0), (.aload_n 0, [], 0), (.getfield 45, [7, 14], 0), (.iload_n 1, [], 0), (.iconst 1, [], 0), (.isub, [], 0), (.iaload, [], 0), (.if_icmp .ge 62, [6], 0), (.aload_n 0, [], 0), (.getfield 42, [7, 13], 0), (.iload_n 1, [], 0), (.iconst 1, [], 0), (.isub, [], 0), (.sipush 462, [], 0), (.imul, [], 0), (.iload 6, [], 0), (.iadd, [], 0), (.iaload, [], 0), (.istore 7, [], 0), (.aload_n 0, [], 0), (.iload_n 1, [], 0), (.iconst 1, [], 0), (.isub, [], 0), (.iload 7, [], 0), (.iload_n 3, [], 0), (.invokevirtual 148, [113, 4, 7], 4), (.ifCond .eq 26, [5], 0), (.lload 4, [], 0), (.aload_n 0, [], 0), (.getfield 48, [7, 15], 0), (.iload_n 1, [], 0), (.iconst 1, [], 0), (.isub, [], 0), (.sipush 462, [], 0), (.imul, [], 0), (.iload 7, [], 0), (.iadd, [], 0), (.laload, [], 0), (.ladd, [], 0), (.invokestatic 164, [118, 1], 2), (.lstore 4, [], 0), (.nop, [5], 0)],
  [(.iinc 6 1, [], 0), (.goto (-73), [4], 0)],
  [(.aload_n 0, [], 0), (.getfield 48, [7, 15], 0), (.iload_n 1, [], 0), (.sipush 462, [], 0), (.imul, [], 0), (.iload_n 3, [], 0), (.iadd, [], 0), (.lload 4, [], 0), (.lastore, [], 0), (.iinc 2 1, [], 0), (.goto (-130), [1], 0)],
  [(.return_, [], 0)]]
def am_s119 : List Nat := [0, 2, 33, 34, 39, 109, 115, 135]
/-- WashLine.sure(II)I -/
def am_b120 : List (List am_I) := [[(.aload_n 0, [], 0), (.iload_n 1, [], 0), (.invokevirtual 213, [66, 2, 9], 2), (.ifCond .eq 11, [1], 0), (.aload_n 0, [], 0), (.iload_n 2, [], 0), (.invokevirtual 179, [56, 2, 9], 2), (.ifCond .ne 5, [2], 0), (.nop, [1], 0)],
  [(.iconst (-1), [], 0), (.ireturn, [0], 0)],
  [(.aload_n 0, [], 0), (.getfield 71, [9, 8], 0), (.invokevirtual 263, [102, 1, 7], 1), (.aload_n 0, [], 0), (.getfield 71, [9, 8], 0), (.invokevirtual 266, [106, 1, 7], 1), (.ifCond .ne 9, [3], 0), (.aload_n 0, [], 0), (.iconst 4, [], 0), (.invokevirtual 112, [24, 2, 9], 2), (.ireturn, [0], 0)],
  [(.aload_n 0, [], 0), (.aload_n 0, [], 0), (.getfield 71, [9, 8], 0), (.iload_n 1, [], 0), (.iload_n 2, [], 0), (.invokevirtual 283, [121, 3, 7], 3), (.aload_n 0, [], 0), (.getfield 71, [9, 8], 0), (.iload_n 1, [], 0), (.iload_n 2, [], 0), (.invokevirtual 286, [122, 3, 7], 3), (.invokevirtual 131, [30, 3, 9], 3), (.ireturn, [0], 0)]]
def am_s120 : List Nat := [0, 16, 18, 41]
/-- WashLine$Winter.mostOf(II)I -/
def am_b121 : List (List am_I) := [[(.iconst 0, [], 0), (.istore_n 3, [], 0), (.iconst 0, [], 0), (.istore 4, [], 0), (.nop, [1], 0)],
  [(.iload 4, [], 0), (.aload_n 0, [], 0), (.getfield 45, [7, 14], 0), (.iload_n 1, [], 0), (.iaload, [], 0), (.if_icmp .ge 40, [2], 0), (.iload_n 3, [], 0), (.aload_n 0, [], 0), (.getfield 58, [7, 0], 0), (.getfield 155, [0, 4], 0), (.aload_n 0, [], 0), (.getfield 42, [7, 13], 0), (.iload_n 1, [], 0), (.sipush 462, [], 0), (.imul, [], 0), (.iload 4, [], 0), (.iadd, [], 0), (.iaload, [], 0), (.bipush 6, [], 0), (.imul, [], 0), (.iload_n 2, [], 0), (.iadd, [], 0), (.iaload, [], 0), (.invokestatic 158, [0], 0), (.istore_n 3, [], 0), (.iinc 4 1, [], 0), (.goto (-45), [1], 0)],
  [(.iload_n 3, [], 0), (.ireturn, [0], 0)]]
def am_s121 : List Nat := [0, 5, 53]
/-- WashLine$Winter.leastOf(II)I -/
def am_b122 : List (List am_I) := [[(.iconst 5, [], 0), (.istore_n 3, [], 0), (.iconst 0, [], 0), (.istore 4, [], 0), (.nop, [1], 0)],
  [(.iload 4, [], 0), (.aload_n 0, [], 0), (.getfield 45, [7, 14], 0), (.iload_n 1, [], 0), (.iaload, [], 0), (.if_icmp .ge 40, [2], 0), (.iload_n 3, [], 0), (.aload_n 0, [], 0), (.getfield 58, [7, 0], 0), (.getfield 155, [0, 4], 0), (.aload_n 0, [], 0), (.getfield 42, [7, 13], 0), (.iload_n 1, [], 0), (.sipush 462, [], 0), (.imul, [], 0), (.iload 4, [], 0), (.iadd, [], 0), (.iaload, [], 0), (.bipush 6, [], 0), (.imul, [], 0), (.iload_n 2, [], 0), (.iadd, [], 0), (.iaload, [], 0), (.invokestatic 134, [1], 0), (.istore_n 3, [], 0), (.iinc 4 1, [], 0), (.goto (-45), [1], 0)],
  [(.iload_n 3, [], 0), (.ireturn, [0], 0)]]
def am_s122 : List Nat := [0, 5, 53]
/-- WashLine.share(III)I -/
def am_b123 : List (List am_I) := [[(.aload_n 0, [], 0), (.iload_n 1, [], 0), (.invokevirtual 213, [66, 2, 9], 2), (.ifCond .eq 19, [1], 0), (.aload_n 0, [], 0), (.iload_n 2, [], 0), (.invokevirtual 179, [56, 2, 9], 2), (.ifCond .eq 11, [1], 0), (.iload_n 3, [], 0), (.iconst 5, [], 0), (.invokestatic 197, [23, 2], 2), (.ifCond .ne 5, [2], 0), (.nop, [1], 0)],
  [(.iconst (-1), [], 0), (.ireturn, [0], 0)],
  [(.aload_n 0, [], 0), (.getfield 71, [9, 8], 0), (.invokevirtual 263, [102, 1, 7], 1), (.aload_n 0, [], 0), (.getfield 71, [9, 8], 0), (.invokevirtual 266, [106, 1, 7], 1), (.ifCond .ne 9, [3], 0), (.aload_n 0, [], 0), (.iconst 4, [], 0), (.invokevirtual 112, [24, 2, 9], 2), (.ireturn, [0], 0)],
  [(.aload_n 0, [], 0), (.getfield 71, [9, 8], 0), (.invokevirtual 275, [116, 1, 7], 1), (.aload_n 0, [], 0), (.getfield 71, [9, 8], 0), (.getfield 278, [7, 7], 0), (.ldc2_w 281, [], 1000000000000000), (.lcmp, [], 0), (.ifCond .le 6, [4], 0), (.bipush (-6), [], 0), (.ireturn, [0], 0)],
  [(.aload_n 0, [], 0), (.aload_n 0, [], 0), (.getfield 71, [9, 8], 0), (.iload_n 1, [], 0), (.iload_n 2, [], 0), (.iload_n 3, [], 0), (.invokevirtual 289, [124, 4, 7], 4), (.aload_n 0, [], 0), (.getfield 71, [9, 8], 0), (.getfield 278, [7, 7], 0), (.invokevirtual 293, [125, 3, 9], 5), (.iconst 1, [], 0), (.ireturn, [0], 0)]]
def am_s123 : List Nat := [0, 24, 26, 49, 73]
/-- WashLine$Winter.having(III)J -/
def am_b124 : List (List am_I) := [[(.lconst 0, [], 0), (.lstore 4, [], 0), (.iconst 0, [], 0), (.istore 6, [], 0), (.nop, [1], 0)],
  [(.iload 6, [], 0), (.aload_n 0, [], 0), (.getfield 45, [7, 14], 0), (.iload_n 1, [], 0), (.iaload, [], 0), (.if_icmp .ge 75, [3], 0), (.aload_n 0, [], 0), (.getfield 42, [7, 13], 0), (.iload_n 1, [], 0), (.sipush 462, [], 0), (.imul, [], 0), (.iload 6, [], 0), (.iadd, [], 0), (.iaload, [], 0), (.istore 7, [], 0), (.aload_n 0, [], 0), (.getfield 58, [7, 0], 0), (.getfield 155, [0, 4], 0), (.iload 7, [], 0), (.bipush 6, [], 0), (.imul, [], 0), (.iload_n 2, [], 0), (.iadd, [], 0), (.iaload, [], 0), (.iload_n 3, [], 0), (.if_icmp .ne 35, [2], 0), (.lload 4, [], 0), (.aload_n 0, [], 0), (.getfield 48, [7, 15], 0), (.iload_n 1, [], 0), (.sipush 462, [], 0), (.imul, [], 0), (.iload 7, [], 0), (.iadd, [], 0), (.laload, [], 0), (.aload_n 0, [], 0), (.getfield 52, [7, 16], 0), (.iload_n 1, [], 0), (.sipush 462, [], 0), (.imul, [], 0), (.iload 7, [], 0), (.iadd, [], 0), (.laload, [], 0), (.lmul, [], 0), (.ladd, [], 0), (.lstore 4, [], 0), (.nop, [2], 0)],
  [(.iinc 6 1, [], 0), (.goto (-80), [1], 0)],
  [(.lload 4, [], 0), (.lreturn, [], 0)]]
def am_s124 : List Nat := [0, 6, 83, 89]
/-- WashLine.tellFraction(JJ)V -/
def am_b125 : List (List am_I) := [[(.lload_n 1, [], 0), (.lload_n 3, [], 0), (.invokestatic 359, [126, 2], 4), (.lstore 5, [], 0), (.lload 5, [], 0), (.lconst 0, [], 0), (.lcmp, [], 0), (.ifCond .le 19, [1], 0), (.aload_n 0, [], 0), (.lload_n 1, [], 0), (.lload 5, [], 0), (.ldiv, [], 0), (.putfield 99, [9, 14], 0), (.aload_n 0, [], 0), (.lload_n 3, [], 0), (.lload 5, [], 0), (.ldiv, [], 0), (.putfield 102, [9, 15], 0), (.nop, [1], 0)],
  [(.return_, [], 0)]]
def am_s125 : List Nat := [0, 30]
/-- WashLine.commonDivisor(JJ)J -/
def am_b126 : List (List am_I) := [[(.lload_n 2, [], 0), (.lstore 4, [], 0), (.lload_n 0, [], 0), (.lstore 6, [], 0), (.iconst 0, [], 0), (.istore 8, [], 0), (.nop, [1], 0)],
  [(.iload 8, [], 0), (.sipush 200, [], 0), (.if_icmp .ge 31, [2], 0), (.lload 6, [], 0), (.lconst 0, [], 0), (.lcmp, [], 0), (.ifCond .eq 24, [2], 0), (.lload 4, [], 0), (.lload 6, [], 0), (.lrem, [], 0), (.lstore 9, [], 0), (.lload 6, [], 0), (.lstore 4, [], 0), (.lload 9, [], 0), (.lstore 6, [], 0), (.iinc 8 1, [], 0), (.goto (-33), [1], 0)],
  [(.lload 4, [], 0), (.lreturn, [], 0)]]
def am_s126 : List Nat := [0, 9, 45]
/-- WashLine.through(II)I -/
def am_b127 : List (List am_I) := [[(.aload_n 0, [], 0), (.getfield 37, [9, 4], 0), (.iload_n 2, [], 0), (.invokevirtual 222, [13, 2, 0], 2), (.istore_n 3, [], 0), (.iload_n 3, [], 0), (.ifCond .lt 11, [1], 0), (.aload_n 0, [], 0), (.iload_n 1, [], 0), (.invokevirtual 213, [66, 2, 9], 2), (.ifCond .ne 5, [2], 0), (.nop, [1], 0)],
  [(.iconst (-1), [], 0), (.ireturn, [0], 0)],
  [(.aload_n 0, [], 0), (.getfield 71, [9, 8], 0), (.invokevirtual 263, [102, 1, 7], 1), (.aload_n 0, [], 0), (.getfield 71, [9, 8], 0), (.iload_n 1, [], 0), (.iload_n 3, [], 0), (.invokevirtual 297, [111, 3, 7], 3), (.istore 4, [], 0), (.iload 4, [], 0), (.ldc_w 300, [], 1000000), (.if_icmp .ge 8, [3], 0), (.iload 4, [], 0), (.goto 5, [4], 0)],
  [(.bipush (-9), [], 0), (.nop, [4], 0)],
  [(.ireturn, [0], 0)]]
def am_s127 : List Nat := [0, 21, 23, 54, 56]
/-- WashLine.rival(I)I -/
def am_b128 : List (List am_I) := [[(.aload_n 0, [], 0), (.iload_n 1, [], 0), (.invokevirtual 213, [66, 2, 9], 2), (.ifCond .ne 5, [1], 0), (.iconst (-1), [], 0), (.ireturn, [0], 0)],
  [(.aload_n 0, [], 0), (.getfield 71, [9, 8], 0), (.invokevirtual 263, [102, 1, 7], 1), (.aload_n 0, [], 0), (.getfield 71, [9, 8], 0), (.invokevirtual 266, [106, 1, 7], 1), (.ifCond .ne 9, [2], 0), (.aload_n 0, [], 0), (.iconst 4, [], 0), (.invokevirtual 112, [24, 2, 9], 2), (.ireturn, [0], 0)],
  [(.aload_n 0, [], 0), (.getfield 71, [9, 8], 0), (.iload_n 1, [], 0), (.invokevirtual 301, [129, 2, 7], 2), (.istore_n 2, [], 0), (.iload_n 2, [], 0), (.ifCond .ge 8, [3], 0), (.bipush (-9), [], 0), (.goto 25, [4], 0)],
  [(.aload_n 0, [], 0), (.aload_n 0, [], 0), (.getfield 37, [9, 4], 0), (.getfield 245, [0, 2], 0), (.iload_n 2, [], 0), (.iaload, [], 0), (.aload_n 0, [], 0), (.getfield 71, [9, 8], 0), (.iload_n 1, [], 0), (.iload_n 2, [], 0), (.invokevirtual 297, [111, 3, 7], 3), (.invokevirtual 131, [30, 3, 9], 3), (.nop, [4], 0)],
  [(.ireturn, [0], 0)]]
def am_s128 : List Nat := [0, 10, 33, 51, 73]
/-- WashLine$Winter.other(I)I -/
def am_b129 : List (List am_I) := [[(.iconst (-1), [], 0), (.istore_n 2, [], 0), (.ldc 74, [], 1000000), (.istore_n 3, [], 0), (.iconst 0, [], 0), (.istore 4, [], 0), (.nop, [1], 0)],
  [(.iload 4, [], 0), (.aload_n 0, [], 0), (.getfield 58, [7, 0], 0), (.getfield 101, [0, 1], 0), (.if_icmp .ge 42, [3], 0), (.iload 4, [], 0), (.aload_n 0, [], 0), (.getfield 26, [7, 8], 0), (.iload_n 1, [], 0), (.iaload, [], 0), (.if_icmp .eq 25, [2], 0), (.aload_n 0, [], 0), (.iload_n 1, [], 0), (.iload 4, [], 0), (.invokevirtual 142, [111, 3, 7], 3), (.iload_n 3, [], 0), (.if_icmp .ge 14, [2], 0), (.iload 4, [], 0), (.istore_n 2, [], 0), (.aload_n 0, [], 0), (.iload_n 1, [], 0), (.iload 4, [], 0), (.invokevirtual 142, [111, 3, 7], 3), (.istore_n 3, [], 0), (.nop, [2], 0)],
  [(.iinc 4 1, [], 0), (.goto (-48), [1], 0)],
  [(.iload_n 2, [], 0), (.ireturn, [0], 0)]]
def am_s129 : List Nat := [0, 8, 53, 59]
/-- WashLine.happen(IIII)I -/
def am_b130 : List (List am_I) := [[(.iload_n 1, [], 0), (.bipush 11, [], 0), (.invokestatic 197, [23, 2], 2), (.ifCond .eq 12, [1], 0), (.iload_n 2, [], 0), (.bipush 6, [], 0), (.invokestatic 197, [23, 2], 2), (.ifCond .ne 5, [2], 0), (.nop, [1], 0)],
  [(.iconst (-1), [], 0), (.ireturn, [0], 0)],
  [(.iload_n 2, [], 0), (.bipush 6, [], 0), (.if_icmp .ne 26, [4], 0), (.iload_n 3, [], 0), (.invokestatic 182, [57, 1], 1), (.ifCond .eq 17, [3], 0), (.iload 4, [], 0), (.invokestatic 182, [57, 1], 1), (.ifCond .eq 9, [3], 0), (.iload_n 3, [], 0), (.iload 4, [], 0), (.if_icmp .ne 5, [4], 0), (.nop, [3], 0)],
  [(.iconst (-1), [], 0), (.ireturn, [0], 0)],
  [(.iload_n 2, [], 0), (.ifCond .eq 13, [5], 0), (.iload_n 2, [], 0), (.bipush 6, [], 0), (.if_icmp .eq 7, [5], 0), (.iconst 1, [], 0), (.goto 4, [6], 0)],
  [(.iconst 0, [], 0), (.nop, [6], 0)],
  [(.istore 5, [], 0), (.iload 5, [], 0), (.ifCond .eq 13, [7], 0), (.aload_n 0, [], 0), (.iload_n 3, [], 0), (.invokevirtual 179, [56, 2, 9], 2), (.ifCond .ne 5, [7], 0), (.iconst (-1), [], 0), (.ireturn, [0], 0)],
  [(.aload_n 0, [], 0), (.getfield 80, [9, 9], 0), (.getfield 171, [5, 2], 0), (.bipush 16, [], 0), (.if_icmp .lt 6, [8], 0), (.bipush (-2), [], 0), (.ireturn, [0], 0)],
  [(.aload_n 0, [], 0), (.getfield 80, [9, 9], 0), (.iload_n 1, [], 0), (.iload_n 2, [], 0), (.iload_n 2, [], 0), (.ifCond .ne 7, [9], 0), (.iconst 0, [], 0), (.goto 4, [10], 0)],
  [(.iload_n 3, [], 0), (.nop, [10], 0)],
  [(.iload_n 2, [], 0), (.bipush 6, [], 0), (.if_icmp .ne 8, [11], 0), (.iload 4, [], 0), (.goto 4, [12], 0)],
  [(.iconst 0, [], 0), (.nop, [12], 0)],
  [(.invokevirtual 304, [131, 5, 5], 5), (.ireturn, [0], 0)]]
def am_s130 : List Nat := [0, 18, 20, 47, 49, 63, 64, 81, 96, 110, 111, 122, 123]
/-- WashLine$Story.add(IIII)I -/
def am_b131 : List (List am_I) := [[(.aload_n 0, [], 0), (.getfield 15, [5, 3], 0), (.aload_n 0, [], 0), (.getfield 9, [5, 2], 0), (.iload_n 2, [], 0), (.iastore, [], 0), (.aload_n 0, [], 0), (.getfield 19, [5, 4], 0), (.aload_n 0, [], 0), (.getfield 9, [5, 2], 0), (.iload_n 1, [], 0), (.iastore, [], 0), (.aload_n 0, [], 0), (.getfield 22, [5, 5], 0), (.aload_n 0, [], 0), (.getfield 9, [5, 2], 0), (.iload_n 3, [], 0), (.iastore, [], 0), (.aload_n 0, [], 0), (.getfield 25, [5, 6], 0), (.aload_n 0, [], 0), (.getfield 9, [5, 2], 0), (.iload 4, [], 0), (.iastore, [], 0), (.aload_n 0, [], 0), (.dup, [], 0), (.getfield 9, [5, 2], 0), (.iconst 1, [], 0), (.iadd, [], 0), (.putfield 9, [5, 2], 0), (.aload_n 0, [], 0), (.getfield 9, [5, 2], 0), (.iconst 1, [], 0), (.isub, [], 0), (.ireturn, [0], 0)]]
def am_s131 : List Nat := [0]
/-- WashLine.isWithin(II)Z -/
def am_b132 : List (List am_I) := [[(.iload_n 0, [], 0), (.ifCond .lt 12, [1], 0), (.iload_n 0, [], 0), (.iload_n 1, [], 0), (.if_icmp .gt 7, [1], 0), (.iconst 1, [], 0), (.goto 4, [2], 0)],
  [(.iconst 0, [], 0), (.nop, [2], 0)],
  [(.ireturn, [1], 0)]]
def am_s132 : List Nat := [0, 13, 14]
/-- WashLine.isWithin(II)Z -/
def am_b133 : List (List am_I) := [[(.iload_n 0, [], 0), (.ifCond .lt 12, [1], 0), (.iload_n 0, [], 0), (.iload_n 1, [], 0), (.if_icmp .gt 7, [1], 0), (.iconst 1, [], 0), (.goto 4, [2], 0)],
  [(.iconst 0, [], 0), (.nop, [2], 0)],
  [(.ireturn, [1], 0)]]
def am_s133 : List Nat := [0, 13, 14]
/-- WashLine.isWithin(II)Z -/
def am_b134 : List (List am_I) := [[(.iload_n 0, [], 0), (.ifCond .lt 12, [1], 0), (.iload_n 0, [], 0), (.iload_n 1, [], 0), (.if_icmp .gt 7, [1], 0), (.iconst 1, [], 0), (.goto 4, [2], 0)],
  [(.iconst 0, [], 0), (.nop, [2], 0)],
  [(.ireturn, [1], 0)]]
def am_s134 : List Nat := [0, 13, 14]
/-- WashLine.isWithin(II)Z -/
def am_b135 : List (List am_I) := [[(.iload_n 0, [], 0), (.ifCond .lt 12, [1], 0), (.iload_n 0, [], 0), (.iload_n 1, [], 0), (.if_icmp .gt 7, [1], 0), (.iconst 1, [], 0), (.goto 4, [2], 0)],
  [(.iconst 0, [], 0), (.nop, [2], 0)],
  [(.ireturn, [1], 0)]]
def am_s135 : List Nat := [0, 13, 14]
/-- WashLine.isWithin(II)Z -/
def am_b136 : List (List am_I) := [[(.iload_n 0, [], 0), (.ifCond .lt 12, [1], 0), (.iload_n 0, [], 0), (.iload_n 1, [], 0), (.if_icmp .gt 7, [1], 0), (.iconst 1, [], 0), (.goto 4, [2], 0)],
  [(.iconst 0, [], 0), (.nop, [2], 0)],
  [(.ireturn, [1], 0)]]
def am_s136 : List Nat := [0, 13, 14]
/-- WashLine.isWithin(II)Z -/
def am_b137 : List (List am_I) := [[(.iload_n 0, [], 0), (.ifCond .lt 12, [1], 0), (.iload_n 0, [], 0), (.iload_n 1, [], 0), (.if_icmp .gt 7, [1], 0), (.iconst 1, [], 0), (.goto 4, [2], 0)],
  [(.iconst 0, [], 0), (.nop, [2], 0)],
  [(.ireturn, [1], 0)]]
def am_s137 : List Nat := [0, 13, 14]
/-- WashLine$Story.live(I)Z -/
def am_b138 : List (List am_I) := [[(.aload_n 0, [], 0), (.getfield 28, [5, 7], 0), (.iconst 0, [], 0), (.invokestatic 60, [4, 2], 2), (.iconst 0, [], 0), (.istore_n 2, [], 0), (.nop, [1], 0)],
  [(.iload_n 2, [], 0), (.iload_n 1, [], 0), (.if_icmp .gt 45, [5], 0), (.iconst 0, [], 0), (.istore_n 3, [], 0), (.nop, [2], 0)],
  [(.iload_n 3, [], 0), (.aload_n 0, [], 0), (.getfield 9, [5, 2], 0), (.if_icmp .ge 29, [4], 0), (.aload_n 0, [], 0), (.getfield 19, [5, 4], 0), (.iload_n 3, [], 0), (.iaload, [], 0), (.iload_n 2, [], 0), (.if_icmp .ne 13, [3], 0), (.aload_n 0, [], 0), (.iload_n 3, [], 0), (.invokevirtual 66, [139, 2, 5], 2), (.ifCond .ne 5, [3], 0), (.iconst 0, [], 0), (.ireturn, [1], 0)],
  [(.iinc 3 1, [], 0), (.goto (-31), [2], 0)],
  [(.iinc 2 1, [], 0), (.goto (-44), [1], 0)],
  [(.iconst 1, [], 0), (.ireturn, [1], 0)]]
def am_s138 : List Nat := [0, 10, 17, 45, 51, 57]
/-- WashLine$Story.comesTrue(I)Z -/
def am_b139 : List (List am_I) := [[(.aload_n 0, [], 0), (.getfield 15, [5, 3], 0), (.iload_n 1, [], 0), (.iaload, [], 0), (.tableswitch 88 1 3 #[26, 37, 48], [6, 1, 2, 3], 0)],
  [(.aload_n 0, [], 0), (.aload_n 0, [], 0), (.getfield 22, [5, 5], 0), (.iload_n 1, [], 0), (.iaload, [], 0), (.invokevirtual 69, [140, 2, 5], 2), (.ireturn, [1], 0)],
  [(.aload_n 0, [], 0), (.aload_n 0, [], 0), (.getfield 22, [5, 5], 0), (.iload_n 1, [], 0), (.iaload, [], 0), (.invokevirtual 72, [142, 2, 5], 2), (.ireturn, [1], 0)],
  [(.aload_n 0, [], 0), (.aload_n 0, [], 0), (.getfield 22, [5, 5], 0), (.iload_n 1, [], 0), (.iaload, [], 0), (.invokevirtual 72, [142, 2, 5], 2), (.ifCond .eq 28, [4], 0), (.aload_n 0, [], 0), (.aload_n 0, [], 0), (.getfield 40, [5, 0], 0), (.getfield 75, [8, 1], 0), (.aload_n 0, [], 0), (.getfield 22, [5, 5], 0), (.iload_n 1, [], 0), (.iaload, [], 0), (.iaload, [], 0), (.invokevirtual 69, [140, 2, 5], 2), (.ifCond .eq 7, [4], 0), (.iconst 1, [], 0), (.goto 4, [5], 0)],
  [(.iconst 0, [], 0), (.nop, [5], 0)],
  [(.ireturn, [1], 0)],
  [(.iconst 1, [], 0), (.ireturn, [1], 0)]]
def am_s139 : List Nat := [0, 32, 43, 54, 92, 93, 94]
/-- WashLine$Story.join(I)Z -/
def am_b140 : List (List am_I) := [[(.iload_n 1, [], 0), (.ifCond .lt 11, [1], 0), (.aload_n 0, [], 0), (.invokevirtual 56, [141, 1, 5], 1), (.iconst 5, [], 0), (.if_icmp .lt 5, [2], 0), (.nop, [1], 0)],
  [(.iconst 0, [], 0), (.ireturn, [1], 0)],
  [(.aload_n 0, [], 0), (.getfield 28, [5, 7], 0), (.iload_n 1, [], 0), (.dup2, [], 0), (.iaload, [], 0), (.iconst 1, [], 0), (.iadd, [], 0), (.iastore, [], 0), (.iconst 1, [], 0), (.ireturn, [1], 0)]]
def am_s140 : List Nat := [0, 12, 14]
/-- WashLine$Story.everybody()I -/
def am_b141 : List (List am_I) := [[(.iconst 0, [], 0), (.istore_n 1, [], 0), (.aload_n 0, [], 0), (.getfield 28, [5, 7], 0), (.astore_n 2, [], 0), (.aload_n 2, [], 0), (.arraylength, [], 0), (.istore_n 3, [], 0), (.iconst 0, [], 0), (.istore 4, [], 0), (.nop, [1], 0)],
  [(.iload 4, [], 0), (.iload_n 3, [], 0), (.if_icmp .ge 20, [2], 0), (.aload_n 2, [], 0), (.iload 4, [], 0), (.iaload, [], 0), (.istore 5, [], 0), (.iload_n 1, [], 0), (.iload 5, [], 0), (.iadd, [], 0), (.istore_n 1, [], 0), (.iinc 4 1, [], 0), (.goto (-20), [1], 0)],
  [(.iload_n 1, [], 0), (.ireturn, [0], 0)]]
def am_s141 : List Nat := [0, 13, 36]
/-- WashLine$Story.leave(I)Z -/
def am_b142 : List (List am_I) := [[(.aload_n 0, [], 0), (.getfield 28, [5, 7], 0), (.iload_n 1, [], 0), (.iaload, [], 0), (.ifCond .gt 5, [1], 0), (.iconst 0, [], 0), (.ireturn, [1], 0)],
  [(.aload_n 0, [], 0), (.getfield 28, [5, 7], 0), (.iload_n 1, [], 0), (.dup2, [], 0), (.iaload, [], 0), (.iconst 1, [], 0), (.isub, [], 0), (.iastore, [], 0), (.iconst 1, [], 0), (.ireturn, [1], 0)]]
def am_s142 : List Nat := [0, 11]
/-- WashLine.household(I)I -/
def am_b143 : List (List am_I) := [[(.iload_n 1, [], 0), (.bipush 11, [], 0), (.invokestatic 197, [23, 2], 2), (.ifCond .ne 5, [1], 0), (.iconst (-1), [], 0), (.ireturn, [0], 0)],
  [(.aload_n 0, [], 0), (.getfield 80, [9, 9], 0), (.iload_n 1, [], 0), (.invokevirtual 317, [138, 2, 5], 2), (.ifCond .eq 13, [2], 0), (.aload_n 0, [], 0), (.getfield 80, [9, 9], 0), (.invokevirtual 320, [144, 1, 5], 1), (.goto 5, [3], 0)],
  [(.bipush (-9), [], 0), (.nop, [3], 0)],
  [(.ireturn, [0], 0)]]
def am_s143 : List Nat := [0, 11, 32, 34]
/-- WashLine$Story.number()I -/
def am_b144 : List (List am_I) := [[(.iconst 0, [], 0), (.istore_n 1, [], 0), (.iconst 0, [], 0), (.istore_n 2, [], 0), (.nop, [1], 0)],
  [(.iload_n 2, [], 0), (.bipush 6, [], 0), (.if_icmp .ge 24, [2], 0), (.iload_n 1, [], 0), (.aload_n 0, [], 0), (.getfield 28, [5, 7], 0), (.iload_n 2, [], 0), (.iaload, [], 0), (.getstatic 80, [], 0), (.iload_n 2, [], 0), (.iaload, [], 0), (.imul, [], 0), (.iadd, [], 0), (.istore_n 1, [], 0), (.iinc 2 1, [], 0), (.goto (-24), [1], 0)],
  [(.iload_n 1, [], 0), (.ireturn, [0], 0)]]
def am_s144 : List Nat := [0, 4, 31]
/-- WashLine.isWithin(II)Z -/
def am_b145 : List (List am_I) := [[(.iload_n 0, [], 0), (.ifCond .lt 12, [1], 0), (.iload_n 0, [], 0), (.iload_n 1, [], 0), (.if_icmp .gt 7, [1], 0), (.iconst 1, [], 0), (.goto 4, [2], 0)],
  [(.iconst 0, [], 0), (.nop, [2], 0)],
  [(.ireturn, [1], 0)]]
def am_s145 : List Nat := [0, 13, 14]
/-- WashLine.isWithin(II)Z -/
def am_b146 : List (List am_I) := [[(.iload_n 0, [], 0), (.ifCond .lt 12, [1], 0), (.iload_n 0, [], 0), (.iload_n 1, [], 0), (.if_icmp .gt 7, [1], 0), (.iconst 1, [], 0), (.goto 4, [2], 0)],
  [(.iconst 0, [], 0), (.nop, [2], 0)],
  [(.ireturn, [1], 0)]]
def am_s146 : List Nat := [0, 13, 14]
/-- WashLine.isWithin(II)Z -/
def am_b147 : List (List am_I) := [[(.iload_n 0, [], 0), (.ifCond .lt 12, [1], 0), (.iload_n 0, [], 0), (.iload_n 1, [], 0), (.if_icmp .gt 7, [1], 0), (.iconst 1, [], 0), (.goto 4, [2], 0)],
  [(.iconst 0, [], 0), (.nop, [2], 0)],
  [(.ireturn, [1], 0)]]
def am_s147 : List Nat := [0, 13, 14]
/-- WashLine.isWithin(II)Z -/
def am_b148 : List (List am_I) := [[(.iload_n 0, [], 0), (.ifCond .lt 12, [1], 0), (.iload_n 0, [], 0), (.iload_n 1, [], 0), (.if_icmp .gt 7, [1], 0), (.iconst 1, [], 0), (.goto 4, [2], 0)],
  [(.iconst 0, [], 0), (.nop, [2], 0)],
  [(.ireturn, [1], 0)]]
def am_s148 : List Nat := [0, 13, 14]
/-- WashLine.isWithin(II)Z -/
def am_b149 : List (List am_I) := [[(.iload_n 0, [], 0), (.ifCond .lt 12, [1], 0), (.iload_n 0, [], 0), (.iload_n 1, [], 0), (.if_icmp .gt 7, [1], 0), (.iconst 1, [], 0), (.goto 4, [2], 0)],
  [(.iconst 0, [], 0), (.nop, [2], 0)],
  [(.ireturn, [1], 0)]]
def am_s149 : List Nat := [0, 13, 14]
/-- WashLine.isWithin(II)Z -/
def am_b150 : List (List am_I) := [[(.iload_n 0, [], 0), (.ifCond .lt 12, [1], 0), (.iload_n 0, [], 0), (.iload_n 1, [], 0), (.if_icmp .gt 7, [1], 0), (.iconst 1, [], 0), (.goto 4, [2], 0)],
  [(.iconst 0, [], 0), (.nop, [2], 0)],
  [(.ireturn, [1], 0)]]
def am_s150 : List Nat := [0, 13, 14]
/-- WashLine.isWithin(II)Z -/
def am_b151 : List (List am_I) := [[(.iload_n 0, [], 0), (.ifCond .lt 12, [1], 0), (.iload_n 0, [], 0), (.iload_n 1, [], 0), (.if_icmp .gt 7, [1], 0), (.iconst 1, [], 0), (.goto 4, [2], 0)],
  [(.iconst 0, [], 0), (.nop, [2], 0)],
  [(.ireturn, [1], 0)]]
def am_s151 : List Nat := [0, 13, 14]
/-- WashLine.doubts(I)I -/
def am_b152 : List (List am_I) := [[(.aload_n 0, [], 0), (.getfield 37, [9, 4], 0), (.iload_n 1, [], 0), (.invokevirtual 222, [13, 2, 0], 2), (.istore_n 2, [], 0), (.iload_n 2, [], 0), (.ifCond .ge 7, [1], 0), (.iconst (-1), [], 0), (.goto 11, [2], 0)],
  [(.aload_n 0, [], 0), (.getfield 53, [9, 6], 0), (.iload_n 2, [], 0), (.invokevirtual 329, [153, 2, 2], 2), (.nop, [2], 0)],
  [(.ireturn, [0], 0)]]
def am_s152 : List Nat := [0, 17, 25]
/-- WashLine$Looks.doubted(I)I -/
def am_b153 : List (List am_I) := [[(.iconst 0, [], 0), (.istore_n 2, [], 0), (.iconst 0, [], 0), (.istore_n 3, [], 0), (.nop, [1], 0)],
  [(.iload_n 3, [], 0), (.aload_n 0, [], 0), (.getfield 19, [2, 2], 0), (.getfield 107, [1, 0], 0), (.if_icmp .ge 96, [4], 0), (.iconst 0, [], 0), (.istore 4, [], 0), (.nop, [2], 0)],
  [(.iload 4, [], 0), (.bipush 8, [], 0), (.if_icmp .ge 80, [3], 0), (.aload_n 0, [], 0), (.getfield 19, [2, 2], 0), (.getfield 93, [1, 3], 0), (.iload_n 3, [], 0), (.bipush 8, [], 0), (.imul, [], 0), (.iload 4, [], 0), (.iadd, [], 0), (.iaload, [], 0), (.istore 5, [], 0), (.iload_n 2, [], 0), (.iconst 0, [], 0), (.aload_n 0, [], 0), (.getfield 15, [2, 1], 0), (.iload_n 1, [], 0), (.aload_n 0, [], 0), (.getfield 19, [2, 2], 0), (.getfield 49, [1, 1], 0), (.iload_n 3, [], 0), (.iaload, [], 0), (.iload 4, [], 0), (.invokevirtual 86, [71, 4, 0], 4), (.iload 5, [], 0), (.isub, [], 0), (.invokestatic 102, [0], 0), (.iadd, [], 0), (.istore_n 2, [], 0), (.iload_n 2, [], 0), (.iconst 0, [], 0), (.iload 5, [], 0), (.aload_n 0, [], 0), (.getfield 15, [2, 1], 0), (.getfield 27, [0, 9], 0), (.iload_n 1, [], 0), (.bipush 8, [], 0), (.imul, [], 0), (.iload 4, [], 0), (.iadd, [], 0), (.iaload, [], 0), (.isub, [], 0), (.invokestatic 102, [0], 0), (.iadd, [], 0), (.istore_n 2, [], 0), (.iinc 4 1, [], 0), (.goto (-81), [2], 0)],
  [(.iinc 3 1, [], 0), (.goto (-101), [1], 0)],
  [(.iload_n 2, [], 0), (.ireturn, [0], 0)]]
def am_s153 : List Nat := [0, 4, 18, 102, 108]
/-- WashLine.least()I -/
def am_b154 : List (List am_I) := [[(.aload_n 0, [], 0), (.getfield 53, [9, 6], 0), (.invokevirtual 332, [155, 1, 2], 1), (.istore_n 1, [], 0), (.aload_n 0, [], 0), (.aload_n 0, [], 0), (.getfield 53, [9, 6], 0), (.iload_n 1, [], 0), (.invokevirtual 329, [153, 2, 2], 2), (.aload_n 0, [], 0), (.getfield 37, [9, 4], 0), (.getfield 245, [0, 2], 0), (.iload_n 1, [], 0), (.iaload, [], 0), (.invokevirtual 131, [30, 3, 9], 3), (.ireturn, [0], 0)]]
def am_s154 : List Nat := [0]
/-- WashLine$Looks.leastDoubted()I -/
def am_b155 : List (List am_I) := [[(.iconst 0, [], 0), (.istore_n 1, [], 0), (.aload_n 0, [], 0), (.iconst 0, [], 0), (.invokevirtual 108, [153, 2, 2], 2), (.istore_n 2, [], 0), (.iconst 1, [], 0), (.istore_n 3, [], 0), (.nop, [1], 0)],
  [(.iload_n 3, [], 0), (.aload_n 0, [], 0), (.getfield 15, [2, 1], 0), (.getfield 76, [0, 1], 0), (.if_icmp .ge 54, [4], 0), (.aload_n 0, [], 0), (.iload_n 3, [], 0), (.invokevirtual 108, [153, 2, 2], 2), (.istore 4, [], 0), (.iload 4, [], 0), (.iload_n 2, [], 0), (.if_icmp .lt 30, [2], 0), (.iload 4, [], 0), (.iload_n 2, [], 0), (.if_icmp .ne 29, [3], 0), (.aload_n 0, [], 0), (.getfield 15, [2, 1], 0), (.getfield 90, [0, 3], 0), (.iload_n 3, [], 0), (.iaload, [], 0), (.aload_n 0, [], 0), (.getfield 15, [2, 1], 0), (.getfield 90, [0, 3], 0), (.iload_n 1, [], 0), (.iaload, [], 0), (.if_icmp .ge 8, [3], 0), (.nop, [2], 0)],
  [(.iload_n 3, [], 0), (.istore_n 1, [], 0), (.iload 4, [], 0), (.istore_n 2, [], 0), (.nop, [3], 0)],
  [(.iinc 3 1, [], 0), (.goto (-59), [1], 0)],
  [(.iload_n 1, [], 0), (.ireturn, [0], 0)]]
def am_s155 : List Nat := [0, 10, 61, 66, 72]
/-- WashLine.isWithin(II)Z -/
def am_b156 : List (List am_I) := [[(.iload_n 0, [], 0), (.ifCond .lt 12, [1], 0), (.iload_n 0, [], 0), (.iload_n 1, [], 0), (.if_icmp .gt 7, [1], 0), (.iconst 1, [], 0), (.goto 4, [2], 0)],
  [(.iconst 0, [], 0), (.nop, [2], 0)],
  [(.ireturn, [1], 0)]]
def am_s156 : List Nat := [0, 13, 14]
/-- WashLine.isWithin(II)Z -/
def am_b157 : List (List am_I) := [[(.iload_n 0, [], 0), (.ifCond .lt 12, [1], 0), (.iload_n 0, [], 0), (.iload_n 1, [], 0), (.if_icmp .gt 7, [1], 0), (.iconst 1, [], 0), (.goto 4, [2], 0)],
  [(.iconst 0, [], 0), (.nop, [2], 0)],
  [(.ireturn, [1], 0)]]
def am_s157 : List Nat := [0, 13, 14]
/-- WashLine.asked()I -/
def am_b158 : List (List am_I) := [[(.aload_n 0, [], 0), (.getfield 92, [9, 12], 0), (.ireturn, [0], 0)]]
def am_s158 : List Nat := [0]
/-- WashLine.tales()J -/
def am_b159 : List (List am_I) := [[(.aload_n 0, [], 0), (.getfield 95, [9, 13], 0), (.lreturn, [], 0)]]
def am_s159 : List Nat := [0]
/-- WashLine.upper()J -/
def am_b160 : List (List am_I) := [[(.aload_n 0, [], 0), (.getfield 99, [9, 14], 0), (.lreturn, [], 0)]]
def am_s160 : List Nat := [0]
/-- WashLine.lower()J -/
def am_b161 : List (List am_I) := [[(.aload_n 0, [], 0), (.getfield 102, [9, 15], 0), (.lreturn, [], 0)]]
def am_s161 : List Nat := [0]
/-- WashLine.isWithin(II)Z -/
def am_b162 : List (List am_I) := [[(.iload_n 0, [], 0), (.ifCond .lt 12, [1], 0), (.iload_n 0, [], 0), (.iload_n 1, [], 0), (.if_icmp .gt 7, [1], 0), (.iconst 1, [], 0), (.goto 4, [2], 0)],
  [(.iconst 0, [], 0), (.nop, [2], 0)],
  [(.ireturn, [1], 0)]]
def am_s162 : List Nat := [0, 13, 14]
/-- WashLine.isWithin(II)Z -/
def am_b163 : List (List am_I) := [[(.iload_n 0, [], 0), (.ifCond .lt 12, [1], 0), (.iload_n 0, [], 0), (.iload_n 1, [], 0), (.if_icmp .gt 7, [1], 0), (.iconst 1, [], 0), (.goto 4, [2], 0)],
  [(.iconst 0, [], 0), (.nop, [2], 0)],
  [(.ireturn, [1], 0)]]
def am_s163 : List Nat := [0, 13, 14]
/-- WashLine.isWithin(II)Z -/
def am_b164 : List (List am_I) := [[(.iload_n 0, [], 0), (.ifCond .lt 12, [1], 0), (.iload_n 0, [], 0), (.iload_n 1, [], 0), (.if_icmp .gt 7, [1], 0), (.iconst 1, [], 0), (.goto 4, [2], 0)],
  [(.iconst 0, [], 0), (.nop, [2], 0)],
  [(.ireturn, [1], 0)]]
def am_s164 : List Nat := [0, 13, 14]
/-- WashLine.isWithin(II)Z -/
def am_b165 : List (List am_I) := [[(.iload_n 0, [], 0), (.ifCond .lt 12, [1], 0), (.iload_n 0, [], 0), (.iload_n 1, [], 0), (.if_icmp .gt 7, [1], 0), (.iconst 1, [], 0), (.goto 4, [2], 0)],
  [(.iconst 0, [], 0), (.nop, [2], 0)],
  [(.ireturn, [1], 0)]]
def am_s165 : List Nat := [0, 13, 14]
/-- WashLine.isWithin(II)Z -/
def am_b166 : List (List am_I) := [[(.iload_n 0, [], 0), (.ifCond .lt 12, [1], 0), (.iload_n 0, [], 0), (.iload_n 1, [], 0), (.if_icmp .gt 7, [1], 0), (.iconst 1, [], 0), (.goto 4, [2], 0)],
  [(.iconst 0, [], 0), (.nop, [2], 0)],
  [(.ireturn, [1], 0)]]
def am_s166 : List Nat := [0, 13, 14]
/-- WashLine.isWithin(II)Z -/
def am_b167 : List (List am_I) := [[(.iload_n 0, [], 0), (.ifCond .lt 12, [1], 0), (.iload_n 0, [], 0), (.iload_n 1, [], 0), (.if_icmp .gt 7, [1], 0), (.iconst 1, [], 0), (.goto 4, [2], 0)],
  [(.iconst 0, [], 0), (.nop, [2], 0)],
  [(.ireturn, [1], 0)]]
def am_s167 : List Nat := [0, 13, 14]
/-- WashLine.isWithin(II)Z -/
def am_b168 : List (List am_I) := [[(.iload_n 0, [], 0), (.ifCond .lt 12, [1], 0), (.iload_n 0, [], 0), (.iload_n 1, [], 0), (.if_icmp .gt 7, [1], 0), (.iconst 1, [], 0), (.goto 4, [2], 0)],
  [(.iconst 0, [], 0), (.nop, [2], 0)],
  [(.ireturn, [1], 0)]]
def am_s168 : List Nat := [0, 13, 14]
/-- WashLine.isWithin(II)Z -/
def am_b169 : List (List am_I) := [[(.iload_n 0, [], 0), (.ifCond .lt 12, [1], 0), (.iload_n 0, [], 0), (.iload_n 1, [], 0), (.if_icmp .gt 7, [1], 0), (.iconst 1, [], 0), (.goto 4, [2], 0)],
  [(.iconst 0, [], 0), (.nop, [2], 0)],
  [(.ireturn, [1], 0)]]
def am_s169 : List Nat := [0, 13, 14]
/-- WashLine.isWithin(II)Z -/
def am_b170 : List (List am_I) := [[(.iload_n 0, [], 0), (.ifCond .lt 12, [1], 0), (.iload_n 0, [], 0), (.iload_n 1, [], 0), (.if_icmp .gt 7, [1], 0), (.iconst 1, [], 0), (.goto 4, [2], 0)],
  [(.iconst 0, [], 0), (.nop, [2], 0)],
  [(.ireturn, [1], 0)]]
def am_s170 : List Nat := [0, 13, 14]
/-- WashLine.isWithin(II)Z -/
def am_b171 : List (List am_I) := [[(.iload_n 0, [], 0), (.ifCond .lt 12, [1], 0), (.iload_n 0, [], 0), (.iload_n 1, [], 0), (.if_icmp .gt 7, [1], 0), (.iconst 1, [], 0), (.goto 4, [2], 0)],
  [(.iconst 0, [], 0), (.nop, [2], 0)],
  [(.ireturn, [1], 0)]]
def am_s171 : List Nat := [0, 13, 14]
/-- WashLineLaw.low(II)I -/
def am_b172 : List (List am_I) := [[(.iload_n 0, [], 0), (.ldc 7, [], 2147483647), (.iand, [], 0), (.iload_n 1, [], 0), (.irem, [], 0), (.ireturn, [0], 0)]]
def am_s172 : List Nat := [0]
/-- WashLineLaw.cell([II)I -/
def am_b173 : List (List am_I) := [[(.iload_n 1, [], 0), (.aload_n 0, [], 0), (.arraylength, [], 0), (.if_icmp .ge 9, [1], 0), (.aload_n 0, [], 0), (.iload_n 1, [], 0), (.iaload, [], 0), (.goto 11, [2], 0)],
  [(.ldc 8, [], 40503), (.iload_n 1, [], 0), (.imul, [], 0), (.sipush 977, [], 0), (.iadd, [], 0), (.nop, [2], 0)],
  [(.ireturn, [0], 0)]]
def am_s173 : List Nat := [0, 12, 20]
/-- WashLineLaw.told(LWashLine;I)I -/
def am_b174 : List (List am_I) := [[(.iload_n 1, [], 0), (.iconst 1, [], 0), (.if_icmp .ne 10, [1], 0), (.aload_n 0, [], 0), (.invokevirtual 9, [158, 1, 9], 1), (.goto 6, [2], 0)],
  [(.sipush (-7777), [], 0), (.nop, [2], 0)],
  [(.ireturn, [0], 0)]]
def am_s174 : List Nat := [0, 12, 15]
/-- WashLineLaw.world(LWashLine;[III[I[I[I[I)I -/
def am_b175 : List (List am_I) := [[(.bipush 64, [], 0), (.newarray .int, [], 0), (.astore 8, [], 0), (.iconst 0, [], 0), (.istore 9, [], 0), (.iconst 1, [], 0), (.aload_n 1, [], 0), (.iload_n 2, [], 0), (.invokestatic 15, [173, 2], 2), (.iload_n 3, [], 0), (.invokestatic 21, [172, 2], 2), (.iadd, [], 0), (.istore 10, [], 0), (.iconst 0, [], 0), (.istore 11, [], 0), (.nop, [1], 0)],
  [(.iload 11, [], 0), (.iload 10, [], 0), (.if_icmp .ge 111, [8], 0), (.aload_n 1, [], 0), (.iload_n 2, [], 0), (.iconst 1, [], 0), (.iadd, [], 0), (.iload 11, [], 0), (.iadd, [], 0), (.invokestatic 15, [173, 2], 2), (.istore 12, [], 0), (.aload 4, [], 0), (.iload 11, [], 0), (.iload 12, [], 0), (.iconst 2, [], 0), (.invokestatic 21, [172, 2], 2), (.ifCond .ne 8, [2], 0), (.bipush (-9), [], 0), (.goto 11, [3], 0)],
  [(.iload 12, [], 0), (.iconst 1, [], 0), (.ishr, [], 0), (.iconst 4, [], 0), (.invokestatic 21, [172, 2], 2), (.nop, [3], 0)],
  [(.iastore, [], 0), (.aload 8, [], 0), (.iload 9, [], 0), (.bipush 107, [], 0), (.iastore, [], 0), (.aload 8, [], 0), (.iload 9, [], 0), (.iconst 1, [], 0), (.iadd, [], 0), (.aload 4, [], 0), (.iload 11, [], 0), (.iaload, [], 0), (.ifCond .ge 8, [4], 0), (.bipush 45, [], 0), (.goto 11, [5], 0)],
  [(.bipush 48, [], 0), (.aload 4, [], 0), (.iload 11, [], 0), (.iaload, [], 0), (.iadd, [], 0), (.nop, [5], 0)],
  [(.iastore, [], 0), (.iinc 9 2, [], 0), (.aload 4, [], 0), (.iload 11, [], 0), (.aload 4, [], 0), (.iload 11, [], 0), (.iaload, [], 0), (.iload 10, [], 0), (.if_icmp .lt 8, [6], 0), (.bipush (-9), [], 0), (.goto 8, [7], 0)],
  [(.aload 4, [], 0), (.iload 11, [], 0), (.iaload, [], 0), (.nop, [7], 0)],
  [(.iastore, [], 0), (.iinc 11 1, [], 0), (.goto (-112), [1], 0)],
  [(.iconst 0, [], 0), (.istore 11, [], 0), (.nop, [9], 0)],
  [(.iload 11, [], 0), (.iload 10, [], 0), (.if_icmp .ge 197, [12], 0), (.aload_n 1, [], 0), (.iload_n 2, [], 0), (.iconst 4, [], 0), (.iadd, [], 0), (.iload 11, [], 0), (.iadd, [], 0), (.invokestatic 15, [173, 2], 2), (.istore 12, [], 0), (.iconst 0, [], 0), (.istore 13, [], 0), (.nop, [10], 0)],
  [(.iload 13, [], 0), (.iconst 2, [], 0), (.if_icmp .ge 170, [11], 0), (.iload 12, [], 0), (.iconst 3, [], 0), (.iload 13, [], 0), (.imul, [], 0), (.ishr, [], 0), (.iconst 3, [], 0), (.invokestatic 21, [172, 2], 2), (.istore 14, [], 0), (.iload 12, [], 0), (.bipush 6, [], 0), (.iconst 2, [], 0), (.iload 13, [], 0), (.imul, [], 0), (.iadd, [], 0), (.ishr, [], 0), (.iconst 3, [], 0), (.invokestatic 21, [172, 2], 2), (.istore 15, [], 0), (.iload 15, [], 0), (.iload 12, [], 0), (.bipush 11, [], 0), (.iconst 2, [], 0), (.iload 13, [], 0), (.imul, [], 0), (.iadd, [], 0), (.ishr, [], 0), (.iconst 3, [], 0), (.invokestatic 21, [172, 2], 2), (.iadd, [], 0), (.istore 16, [], 0), (.aload 5, [], 0), (.bipush 8, [], 0), (.iload 11, [], 0), (.imul, [], 0), (.iload 14, [], 0), (.iadd, [], 0), (.iload 15, [], 0), (.iastore, [], 0), (.aload 6, [], 0), (.bipush 8, [], 0), (.iload 11, [], 0), (.imul, [], 0), (.iload 14, [], 0), (.iadd, [], 0), (.iload 16, [], 0), (.iastore, [], 0), (.aload 8, [], 0), (.iload 9, [], 0), (.bipush 119, [], 0), (.iastore, [], 0), (.aload 8, [], 0), (.iload 9, [], 0), (.iconst 1, [], 0), (.iadd, [], 0), (.bipush 48, [], 0), (.iload 11, [], 0), (.iadd, [], 0), (.iastore, [], 0), (.aload 8, [], 0), (.iload 9, [], 0), (.iconst 2, [], 0), (.iadd, [], 0), (.bipush 116, [], 0), (.iastore, [], 0), (.aload 8, [], 0), (.iload 9, [], 0), (.iconst 3, [], 0), (.iadd, [], 0), (.bipush 48, [], 0), (.iload 14, [], 0), (.iadd, [], 0), (.iastore, [], 0), (.aload 8, [], 0), (.iload 9, [], 0), (.iconst 4, [], 0), (.iadd, [], 0), (.bipush 58, [], 0), (.iastore, [], 0), (.aload 8, [], 0), (.iload 9, [], 0), (.iconst 5, [], 0), (.iadd, [], 0), (.bipush 48, [], 0), (.iload 15, [], 0), (.iadd, [], 0), (.iastore, [], 0), (.aload 8, [], 0), (.iload 9, [], 0), (.bipush 6, [], 0), (.iadd, [], 0), (.bipush 45, [], 0), (.iastore, [], 0), (.aload 8, [], 0), (.iload 9, [], 0), (.bipush 7, [], 0), (.iadd, [], 0), (.bipush 48, [], 0), (.iload 16, [], 0), (.iadd, [], 0), (.iastore, [], 0), (.iinc 9 8, [], 0), (.iinc 13 1, [], 0), (.goto (-170), [10], 0)],
  [(.iinc 11 1, [], 0), (.goto (-198), [9], 0)],
  [(.aload_n 1, [], 0), (.iload_n 2, [], 0), (.bipush 7, [], 0), (.iadd, [], 0), (.invokestatic 15, [173, 2], 2), (.istore 11, [], 0), (.aload 7, [], 0), (.iconst 0, [], 0), (.iload 11, [], 0), (.iconst 2, [], 0), (.invokestatic 21, [172, 2], 2), (.ifCond .ne 7, [13], 0), (.iconst 0, [], 0), (.goto 13, [14], 0)],
  [(.iconst 1, [], 0), (.iload 11, [], 0), (.iconst 1, [], 0), (.ishr, [], 0), (.iconst 3, [], 0), (.invokestatic 21, [172, 2], 2), (.ishl, [], 0), (.nop, [14], 0)],
  [(.iastore, [], 0), (.aload 7, [], 0), (.iconst 0, [], 0), (.iaload, [], 0), (.ifCond .le 31, [15], 0), (.aload 8, [], 0), (.iload 9, [], 0), (.bipush 105, [], 0), (.iastore, [], 0), (.aload 8, [], 0), (.iload 9, [], 0), (.iconst 1, [], 0), (.iadd, [], 0), (.bipush 48, [], 0), (.iload 11, [], 0), (.iconst 1, [], 0), (.ishr, [], 0), (.iconst 3, [], 0), (.invokestatic 21, [172, 2], 2), (.iadd, [], 0), (.iastore, [], 0), (.iinc 9 2, [], 0), (.nop, [15], 0)],
  [(.iconst 0, [], 0), (.istore 12, [], 0), (.nop, [16], 0)],
  [(.iload 12, [], 0), (.iconst 5, [], 0), (.if_icmp .ge 37, [20], 0), (.aload 7, [], 0), (.iconst 1, [], 0), (.iload 12, [], 0), (.iadd, [], 0), (.iload 12, [], 0), (.iconst 2, [], 0), (.if_icmp .ge 7, [17], 0), (.iconst 3, [], 0), (.goto 14, [19], 0)],
  [(.iload 12, [], 0), (.iconst 2, [], 0), (.if_icmp .ne 7, [18], 0), (.iconst 1, [], 0), (.goto 4, [19], 0)],
  [(.iconst 2, [], 0), (.nop, [19], 0)],
  [(.iastore, [], 0), (.iinc 12 1, [], 0), (.goto (-37), [16], 0)],
  [(.iload 11, [], 0), (.iconst 4, [], 0), (.ishr, [], 0), (.iconst 2, [], 0), (.invokestatic 21, [172, 2], 2), (.ifCond .ne 67, [22], 0), (.aload 8, [], 0), (.iload 9, [], 0), (.bipush 99, [], 0), (.iastore, [], 0), (.iinc 9 1, [], 0), (.iconst 0, [], 0), (.istore 12, [], 0), (.nop, [21], 0)],
  [(.iload 12, [], 0), (.iconst 5, [], 0), (.if_icmp .ge 48, [22], 0), (.aload 7, [], 0), (.iconst 1, [], 0), (.iload 12, [], 0), (.iadd, [], 0), (.iload 11, [], 0), (.bipush 6, [], 0), (.iconst 3, [], 0), (.iload 12, [], 0), (.imul, [], 0), (.iadd, [], 0), (.ishr, [], 0), (.iconst 5, [], 0), (.invokestatic 21, [172, 2], 2), (.iastore, [], 0), (.aload 8, [], 0), (.iload 9, [], 0), (.bipush 48, [], 0), (.aload 7, [], 0), (.iconst 1, [], 0), (.iload 12, [], 0), (.iadd, [], 0), (.iaload, [], 0), (.iadd, [], 0), (.iastore, [], 0), (.iinc 9 1, [], 0), (.iinc 12 1, [], 0), (.goto (-48), [21], 0)],
  [(.aload_n 0, [], 0), (.iconst 3, [], 0), (.iload 9, [], 0), (.invokevirtual 25, [37, 3, 9], 3), (.iload 9, [], 0), (.if_icmp .ne 7, [23], 0), (.iconst 1, [], 0), (.goto 4, [24], 0)],
  [(.iconst 0, [], 0), (.nop, [24], 0)],
  [(.istore 12, [], 0), (.iconst 0, [], 0), (.istore 13, [], 0), (.nop, [25], 0)],
  [(.iload 13, [], 0), (.iload 9, [], 0), (.if_icmp .ge 39, [28], 0), (.iload 12, [], 0), (.ifCond .eq 34, [28], 0), (.aload_n 0, [], 0), (.iconst 3, [], 0), (.iload 13, [], 0), (.aload 8, [], 0), (.iload 13, [], 0), (.iaload, [], 0), (.invokevirtual 28, [39, 4, 9], 4), (.sipush 1032, [], 0), (.if_icmp .ne 7, [26], 0), (.iconst 1, [], 0), (.goto 4, [27], 0)],
  [(.iconst 0, [], 0), (.nop, [27], 0)],
  [(.istore 12, [], 0), (.iinc 13 1, [], 0), (.goto (-40), [25], 0)],
  [(.iload 12, [], 0), (.ifCond .eq 28, [29], 0), (.aload_n 0, [], 0), (.iconst 3, [], 0), (.invokevirtual 32, [40, 2, 9], 2), (.bipush (-9), [], 0), (.if_icmp .ne 18, [29], 0), (.aload_n 0, [], 0), (.iconst 3, [], 0), (.invokevirtual 36, [51, 2, 9], 2), (.iload 10, [], 0), (.if_icmp .ne 8, [29], 0), (.iload 10, [], 0), (.goto 4, [30], 0)],
  [(.iconst (-1), [], 0), (.nop, [30], 0)],
  [(.ireturn, [0], 0)]]
def am_s175 : List Nat := [0, 25, 62, 70, 97, 105, 128, 133, 140, 143, 165, 338, 344, 370, 380, 416, 419, 441, 451, 452, 459, 483, 534, 550, 551, 556, 590, 591, 599, 629, 630]
/-- WashLineLaw.houses(I)[I -/
def am_b176 : List (List am_I) := [[(.bipush 64, [], 0), (.newarray .int, [], 0), (.astore_n 1, [], 0), (.iload_n 0, [], 0), (.iconst 1, [], 0), (.if_icmp .ne 8, [1], 0), (.bipush 10, [], 0), (.goto 16, [3], 0)],
  [(.iload_n 0, [], 0), (.iconst 2, [], 0), (.if_icmp .ne 8, [2], 0), (.bipush 100, [], 0), (.goto 6, [3], 0)],
  [(.sipush 1000, [], 0), (.nop, [3], 0)],
  [(.istore_n 2, [], 0), (.iconst 0, [], 0), (.istore_n 3, [], 0), (.nop, [4], 0)],
  [(.iload_n 3, [], 0), (.iload_n 2, [], 0), (.if_icmp .ge 45, [6], 0), (.iload_n 3, [], 0), (.bipush 10, [], 0), (.irem, [], 0), (.iload_n 3, [], 0), (.bipush 10, [], 0), (.idiv, [], 0), (.bipush 10, [], 0), (.irem, [], 0), (.iadd, [], 0), (.iload_n 3, [], 0), (.bipush 100, [], 0), (.idiv, [], 0), (.iadd, [], 0), (.iconst 5, [], 0), (.if_icmp .gt 18, [5], 0), (.aload_n 1, [], 0), (.aload_n 1, [], 0), (.bipush 63, [], 0), (.iaload, [], 0), (.iload_n 3, [], 0), (.iastore, [], 0), (.aload_n 1, [], 0), (.bipush 63, [], 0), (.dup2, [], 0), (.iaload, [], 0), (.iconst 1, [], 0), (.iadd, [], 0), (.iastore, [], 0), (.nop, [5], 0)],
  [(.iinc 3 1, [], 0), (.goto (-44), [4], 0)],
  [(.aload_n 1, [], 0), (.areturn, [], 0)]]
def am_s176 : List Nat := [0, 15, 25, 28, 31, 72, 78]
/-- WashLineLaw.mondays(LWashLine;[IIII[I[I[I[I)I -/
def am_b177 : List (List am_I) := [[(.iload 4, [], 0), (.invokestatic 39, [176, 1], 1), (.astore 9, [], 0), (.iconst 1, [], 0), (.aload_n 1, [], 0), (.iload_n 2, [], 0), (.invokestatic 15, [173, 2], 2), (.iload_n 3, [], 0), (.invokestatic 21, [172, 2], 2), (.iadd, [], 0), (.istore 10, [], 0), (.aload 9, [], 0), (.aload_n 1, [], 0), (.iload_n 2, [], 0), (.invokestatic 15, [173, 2], 2), (.iconst 4, [], 0), (.ishr, [], 0), (.aload 9, [], 0), (.bipush 63, [], 0), (.iaload, [], 0), (.invokestatic 21, [172, 2], 2), (.iaload, [], 0), (.istore 11, [], 0), (.iconst 0, [], 0), (.istore 12, [], 0), (.nop, [1], 0)],
  [(.iload 12, [], 0), (.iload 10, [], 0), (.if_icmp .ge 339, [20], 0), (.aload_n 1, [], 0), (.iload_n 2, [], 0), (.iconst 1, [], 0), (.iadd, [], 0), (.iload 12, [], 0), (.iadd, [], 0), (.invokestatic 15, [173, 2], 2), (.istore 13, [], 0), (.iload 13, [], 0), (.iconst 3, [], 0), (.invokestatic 21, [172, 2], 2), (.ifCond .ne 21, [2], 0), (.aload 9, [], 0), (.iload 13, [], 0), (.iconst 2, [], 0), (.ishr, [], 0), (.aload 9, [], 0), (.bipush 63, [], 0), (.iaload, [], 0), (.invokestatic 21, [172, 2], 2), (.iaload, [], 0), (.goto 5, [3], 0)],
  [(.iload 11, [], 0), (.nop, [3], 0)],
  [(.istore 11, [], 0), (.aload 8, [], 0), (.bipush 10, [], 0), (.iload 12, [], 0), (.imul, [], 0), (.iload 13, [], 0), (.bipush 9, [], 0), (.ishr, [], 0), (.iconst 3, [], 0), (.invokestatic 21, [172, 2], 2), (.ifCond .ne 7, [4], 0), (.iconst 1, [], 0), (.goto 4, [5], 0)],
  [(.iconst 0, [], 0), (.nop, [5], 0)],
  [(.iastore, [], 0), (.aload 8, [], 0), (.bipush 10, [], 0), (.iload 12, [], 0), (.imul, [], 0), (.iconst 1, [], 0), (.iadd, [], 0), (.iload 13, [], 0), (.bipush 11, [], 0), (.ishr, [], 0), (.iconst 4, [], 0), (.invokestatic 21, [172, 2], 2), (.ifCond .ne 17, [6], 0), (.iconst 1, [], 0), (.iload 13, [], 0), (.bipush 13, [], 0), (.ishr, [], 0), (.iconst 2, [], 0), (.invokestatic 21, [172, 2], 2), (.iadd, [], 0), (.goto 4, [7], 0)],
  [(.iconst 0, [], 0), (.nop, [7], 0)],
  [(.iastore, [], 0), (.aload_n 0, [], 0), (.iconst 4, [], 0), (.bipush 8, [], 0), (.invokevirtual 43, [21, 3, 9], 3), (.bipush 8, [], 0), (.if_icmp .eq 5, [8], 0), (.iconst (-1), [], 0), (.ireturn, [0], 0)],
  [(.iconst 0, [], 0), (.istore 14, [], 0), (.nop, [9], 0)],
  [(.iload 14, [], 0), (.bipush 8, [], 0), (.if_icmp .ge 174, [18], 0), (.aload 8, [], 0), (.bipush 10, [], 0), (.iload 12, [], 0), (.imul, [], 0), (.iaload, [], 0), (.iconst 1, [], 0), (.if_icmp .ne 20, [10], 0), (.aload 7, [], 0), (.iconst 0, [], 0), (.iaload, [], 0), (.iload 14, [], 0), (.ishr, [], 0), (.iconst 1, [], 0), (.iand, [], 0), (.iconst 1, [], 0), (.if_icmp .ne 7, [10], 0), (.iconst 0, [], 0), (.goto 12, [11], 0)],
  [(.aload 5, [], 0), (.iload 11, [], 0), (.iload 14, [], 0), (.invokestatic 46, [178, 3], 3), (.nop, [11], 0)],
  [(.istore 15, [], 0), (.aload 6, [], 0), (.iload 11, [], 0), (.iload 14, [], 0), (.invokestatic 46, [178, 3], 3), (.iload 15, [], 0), (.isub, [], 0), (.iconst 1, [], 0), (.iadd, [], 0), (.istore 16, [], 0), (.iload 15, [], 0), (.iload 13, [], 0), (.bipush 14, [], 0), (.iload 14, [], 0), (.iadd, [], 0), (.ishr, [], 0), (.iload 16, [], 0), (.invokestatic 21, [172, 2], 2), (.iadd, [], 0), (.iload 13, [], 0), (.bipush 17, [], 0), (.iload 14, [], 0), (.iadd, [], 0), (.ishr, [], 0), (.bipush 19, [], 0), (.invokestatic 21, [172, 2], 2), (.ifCond .ne 7, [12], 0), (.iconst 1, [], 0), (.goto 4, [13], 0)],
  [(.iconst 0, [], 0), (.nop, [13], 0)],
  [(.iadd, [], 0), (.istore 17, [], 0), (.iload 14, [], 0), (.iconst 2, [], 0), (.if_icmp .le 20, [14], 0), (.iload 13, [], 0), (.bipush 20, [], 0), (.ishr, [], 0), (.bipush 30, [], 0), (.invokestatic 21, [172, 2], 2), (.ifCond .le 7, [14], 0), (.iconst 0, [], 0), (.goto 17, [16], 0)],
  [(.iload 17, [], 0), (.bipush 40, [], 0), (.if_icmp .le 8, [15], 0), (.bipush 40, [], 0), (.goto 5, [16], 0)],
  [(.iload 17, [], 0), (.nop, [16], 0)],
  [(.istore 17, [], 0), (.aload 8, [], 0), (.bipush 10, [], 0), (.iload 12, [], 0), (.imul, [], 0), (.iconst 2, [], 0), (.iadd, [], 0), (.iload 14, [], 0), (.iadd, [], 0), (.iload 17, [], 0), (.iastore, [], 0), (.aload_n 0, [], 0), (.iconst 4, [], 0), (.iload 14, [], 0), (.iload 17, [], 0), (.invokevirtual 50, [26, 4, 9], 4), (.iconst 1, [], 0), (.if_icmp .eq 5, [17], 0), (.iconst (-1), [], 0), (.ireturn, [0], 0)],
  [(.iinc 14 1, [], 0), (.goto (-175), [9], 0)],
  [(.aload_n 0, [], 0), (.aload 8, [], 0), (.bipush 10, [], 0), (.iload 12, [], 0), (.imul, [], 0), (.iaload, [], 0), (.iconst 4, [], 0), (.aload 8, [], 0), (.bipush 10, [], 0), (.iload 12, [], 0), (.imul, [], 0), (.iconst 1, [], 0), (.iadd, [], 0), (.iaload, [], 0), (.invokevirtual 53, [61, 4, 9], 4), (.iload 12, [], 0), (.if_icmp .eq 5, [19], 0), (.iconst (-1), [], 0), (.ireturn, [0], 0)],
  [(.iinc 12 1, [], 0), (.goto (-340), [1], 0)],
  [(.iload 10, [], 0), (.ireturn, [0], 0)]]
def am_s177 : List Nat := [0, 43, 89, 91, 116, 117, 153, 154, 169, 172, 208, 217, 271, 272, 298, 310, 312, 344, 350, 380, 386]
/-- WashLineLaw.sum([III)I -/
def am_b178 : List (List am_I) := [[(.aload_n 0, [], 0), (.iload_n 2, [], 0), (.iaload, [], 0), (.iload_n 1, [], 0), (.bipush 10, [], 0), (.irem, [], 0), (.imul, [], 0), (.aload_n 0, [], 0), (.bipush 8, [], 0), (.iload_n 2, [], 0), (.iadd, [], 0), (.iaload, [], 0), (.iload_n 1, [], 0), (.bipush 10, [], 0), (.idiv, [], 0), (.bipush 10, [], 0), (.irem, [], 0), (.imul, [], 0), (.iadd, [], 0), (.aload_n 0, [], 0), (.bipush 16, [], 0), (.iload_n 2, [], 0), (.iadd, [], 0), (.iaload, [], 0), (.iload_n 1, [], 0), (.bipush 100, [], 0), (.idiv, [], 0), (.imul, [], 0), (.iadd, [], 0), (.ireturn, [0], 0)]]
def am_s178 : List Nat := [0]
/-- name, bytes, places for locals, answer, frames and words that it needs, how many arguments, how it is called (0 static, 1 virtual, 2 making, 3 making a nest mate), blocks' starts, blocks -/
abbrev am_M : Type := MethodName × ByteArray × Nat × Option FieldType × (Nat × Nat) × Nat × Nat × List Nat × List (List am_I)
def am_m0 : am_M := (⟨"WashLineLaw", "law", "([I)Z"⟩, code, 25, some .boolean, (10, 378), 1, 0, am_s0, am_b0)
def am_m1 : am_M := (⟨"WashLine", "<init>", "()V"⟩, prog_1_method_1_code, 2, none, (6, 134), 1, 2, am_s1, am_b1)
def am_m2 : am_M := (⟨"WashLine$World", "<init>", "()V"⟩, prog_10_method_1_code, 1, none, (2, 43), 1, 2, am_s2, am_b2)
def am_m3 : am_M := (⟨"WashLine$World", "clear", "()V"⟩, prog_10_method_2_code, 1, none, (1, 23), 1, 1, am_s3, am_b3)
def am_m4 : am_M := (⟨"java/util/Arrays", "fill", "([II)V"⟩, prog_15_method_103_code, 4, none, (0, 0), 2, 0, am_s4, am_b4)
def am_m5 : am_M := (⟨"WashLine$Reader", "<init>", "()V"⟩, prog_5_method_1_code, 1, none, (3, 63), 1, 3, am_s5, am_b5)
def am_m6 : am_M := (⟨"WashLine$Strip", "<init>", "(I)V"⟩, prog_8_method_1_code, 2, none, (1, 20), 2, 2, am_s6, am_b6)
def am_m7 : am_M := (⟨"WashLine$Houses", "<init>", "(LWashLine$World;)V"⟩, prog_2_method_1_code, 2, none, (5, 113), 2, 2, am_s7, am_b7)
def am_m8 : am_M := (⟨"WashLine$Houses", "build", "()V"⟩, prog_2_method_2_code, 3, none, (4, 91), 1, 1, am_s8, am_b8)
def am_m9 : am_M := (⟨"WashLine$Houses", "list", "()V"⟩, prog_2_method_3_code, 1, none, (3, 71), 1, 1, am_s9, am_b9)
def am_m10 : am_M := (⟨"java/util/Arrays", "fill", "([IIII)V"⟩, prog_15_method_104_code, 5, none, (1, 22), 4, 0, am_s10, am_b10)
def am_m11 : am_M := (⟨"java/util/Arrays", "rangeCheck", "(III)V"⟩, prog_15_method_30_code, 3, none, (0, 0), 3, 0, am_s11, am_b11)
def am_m12 : am_M := (⟨"WashLine$Houses", "follow", "(II)Z"⟩, prog_2_method_4_code, 6, some .boolean, (2, 46), 3, 1, am_s12, am_b12)
def am_m13 : am_M := (⟨"WashLine$Houses", "find", "(I)I"⟩, prog_2_method_5_code, 5, some .int, (0, 0), 2, 1, am_s13, am_b13)
def am_m14 : am_M := (⟨"WashLine$Houses", "hang", "(I)V"⟩, prog_2_method_7_code, 6, none, (0, 0), 2, 1, am_s14, am_b14)
def am_m15 : am_M := (⟨"WashLine$Houses", "grown", "(II)I"⟩, prog_2_method_6_code, 4, some .int, (0, 0), 3, 1, am_s15, am_b15)
def am_m16 : am_M := (⟨"WashLine$Line", "<init>", "()V"⟩, prog_3_method_1_code, 1, none, (1, 20), 1, 3, am_s16, am_b16)
def am_m17 : am_M := (⟨"WashLine$Looks", "<init>", "(LWashLine$World;LWashLine$Houses;LWashLine$Line;)V"⟩, prog_4_method_1_code, 4, none, (1, 20), 4, 2, am_s17, am_b17)
def am_m18 : am_M := (⟨"WashLine$Steps", "<init>", "(LWashLine$World;LWashLine$Houses;)V"⟩, prog_6_method_1_code, 3, none, (1, 20), 3, 2, am_s18, am_b18)
def am_m19 : am_M := (⟨"WashLine$Winter", "<init>", "(LWashLine$Houses;LWashLine$Line;LWashLine$Looks;LWashLine$Steps;)V"⟩, prog_9_method_1_code, 5, none, (1, 20), 5, 2, am_s19, am_b19)
def am_m20 : am_M := (⟨"WashLine$Story", "<init>", "(LWashLine$World;LWashLine$Line;)V"⟩, prog_7_method_1_code, 3, none, (1, 20), 3, 2, am_s20, am_b20)
def am_m21 : am_M := (⟨"WashLine", "row", "(II)I"⟩, prog_1_method_2_code, 3, some .int, (2, 45), 3, 1, am_s21, am_b21)
def am_m22 : am_M := (⟨"WashLine", "isRow", "(I)Z"⟩, prog_1_method_56_code, 1, some .boolean, (1, 21), 1, 0, am_s22, am_b22)
def am_m23 : am_M := (⟨"WashLine", "isWithin", "(II)Z"⟩, prog_1_method_55_code, 2, some .boolean, (0, 0), 2, 0, am_s23, am_b23)
def am_m24 : am_M := (⟨"WashLine", "finds", "(I)I"⟩, prog_1_method_50_code, 2, some .int, (0, 0), 2, 1, am_s24, am_b24)
def am_m25 : am_M := (⟨"WashLine$Strip", "begin", "(II)V"⟩, prog_8_method_2_code, 3, none, (1, 23), 3, 1, am_s25, am_b25)
def am_m26 : am_M := (⟨"WashLine", "lay", "(III)I"⟩, prog_1_method_3_code, 4, some .int, (2, 41), 4, 1, am_s26, am_b26)
def am_m27 : am_M := (⟨"WashLine$Strip", "isMissing", "()Z"⟩, prog_8_method_3_code, 1, some .boolean, (0, 0), 1, 1, am_s27, am_b27)
def am_m28 : am_M := (⟨"WashLine$Strip", "has", "(I)Z"⟩, prog_8_method_4_code, 2, some .boolean, (0, 0), 2, 1, am_s28, am_b28)
def am_m29 : am_M := (⟨"WashLine$Strip", "swap", "(II)I"⟩, prog_8_method_6_code, 4, some .int, (0, 0), 3, 1, am_s29, am_b29)
def am_m30 : am_M := (⟨"WashLine", "tells", "(II)I"⟩, prog_1_method_51_code, 3, some .int, (0, 0), 3, 1, am_s30, am_b30)
def am_m31 : am_M := (⟨"WashLine", "at", "(II)I"⟩, prog_1_method_4_code, 3, some .int, (2, 41), 3, 1, am_s31, am_b31)
def am_m32 : am_M := (⟨"WashLine", "isWithin", "(II)Z"⟩, prog_1_method_55_code, 2, some .boolean, (0, 0), 2, 0, am_s32, am_b32)
def am_m33 : am_M := (⟨"WashLine", "isWithin", "(II)Z"⟩, prog_1_method_55_code, 2, some .boolean, (0, 0), 2, 0, am_s33, am_b33)
def am_m34 : am_M := (⟨"WashLine", "isWithin", "(II)Z"⟩, prog_1_method_55_code, 2, some .boolean, (0, 0), 2, 0, am_s34, am_b34)
def am_m35 : am_M := (⟨"WashLine", "isWithin", "(II)Z"⟩, prog_1_method_55_code, 2, some .boolean, (0, 0), 2, 0, am_s35, am_b35)
def am_m36 : am_M := (⟨"WashLine", "isWithin", "(II)Z"⟩, prog_1_method_55_code, 2, some .boolean, (0, 0), 2, 0, am_s36, am_b36)
def am_m37 : am_M := (⟨"WashLine", "text", "(II)I"⟩, prog_1_method_8_code, 3, some .int, (2, 45), 3, 1, am_s37, am_b37)
def am_m38 : am_M := (⟨"WashLine", "isText", "(I)Z"⟩, prog_1_method_57_code, 1, some .boolean, (1, 21), 1, 0, am_s38, am_b38)
def am_m39 : am_M := (⟨"WashLine", "put", "(III)I"⟩, prog_1_method_9_code, 4, some .int, (2, 41), 4, 1, am_s39, am_b39)
def am_m40 : am_M := (⟨"WashLine", "fault", "(I)I"⟩, prog_1_method_10_code, 2, some .int, (6, 131), 2, 1, am_s40, am_b40)
def am_m41 : am_M := (⟨"WashLine$Reader", "read", "(LWashLine$Strip;)I"⟩, prog_5_method_2_code, 4, some .int, (5, 108), 2, 1, am_s41, am_b41)
def am_m42 : am_M := (⟨"WashLine$Reader", "letter", "(I)Z"⟩, prog_5_method_9_code, 2, some .boolean, (2, 41), 2, 1, am_s42, am_b42)
def am_m43 : am_M := (⟨"WashLine$Reader", "sign", "()I"⟩, prog_5_method_3_code, 1, some .int, (1, 21), 1, 1, am_s43, am_b43)
def am_m44 : am_M := (⟨"WashLine$Reader", "item", "()Z"⟩, prog_5_method_4_code, 1, some .boolean, (4, 88), 1, 1, am_s44, am_b44)
def am_m45 : am_M := (⟨"WashLine$Reader", "sort", "()Z"⟩, prog_5_method_5_code, 2, some .boolean, (3, 64), 1, 1, am_s45, am_b45)
def am_m46 : am_M := (⟨"WashLine$Reader", "figure", "(II)I"⟩, prog_5_method_10_code, 4, some .int, (2, 41), 3, 1, am_s46, am_b46)
def am_m47 : am_M := (⟨"WashLine$Reader", "wash", "()Z"⟩, prog_5_method_6_code, 5, some .boolean, (3, 64), 1, 1, am_s47, am_b47)
def am_m48 : am_M := (⟨"WashLine$Reader", "inside", "()Z"⟩, prog_5_method_7_code, 2, some .boolean, (3, 64), 1, 1, am_s48, am_b48)
def am_m49 : am_M := (⟨"WashLine$Reader", "costs", "()Z"⟩, prog_5_method_8_code, 3, some .boolean, (3, 64), 1, 1, am_s49, am_b49)
def am_m50 : am_M := (⟨"WashLine$World", "growIntoToldOnly", "()V"⟩, prog_10_method_5_code, 2, none, (0, 0), 1, 1, am_s50, am_b50)
def am_m51 : am_M := (⟨"WashLine", "world", "(I)I"⟩, prog_1_method_11_code, 2, some .int, (6, 131), 2, 1, am_s51, am_b51)
def am_m52 : am_M := (⟨"WashLine$World", "take", "(LWashLine$World;)V"⟩, prog_10_method_3_code, 2, none, (1, 26), 2, 1, am_s52, am_b52)
def am_m53 : am_M := (⟨"WashLine$Steps", "forget", "()V"⟩, prog_6_method_2_code, 2, none, (0, 0), 1, 1, am_s53, am_b53)
def am_m54 : am_M := (⟨"WashLine$Winter", "forget", "()V"⟩, prog_9_method_2_code, 1, none, (0, 0), 1, 1, am_s54, am_b54)
def am_m55 : am_M := (⟨"WashLine", "isWithin", "(II)Z"⟩, prog_1_method_55_code, 2, some .boolean, (0, 0), 2, 0, am_s55, am_b55)
def am_m56 : am_M := (⟨"WashLine", "isSort", "(I)Z"⟩, prog_1_method_60_code, 2, some .boolean, (1, 21), 2, 1, am_s56, am_b56)
def am_m57 : am_M := (⟨"WashLine", "isThing", "(I)Z"⟩, prog_1_method_58_code, 1, some .boolean, (1, 21), 1, 0, am_s57, am_b57)
def am_m58 : am_M := (⟨"WashLine", "isWithin", "(II)Z"⟩, prog_1_method_55_code, 2, some .boolean, (0, 0), 2, 0, am_s58, am_b58)
def am_m59 : am_M := (⟨"WashLine", "indoors", "()I"⟩, prog_1_method_14_code, 1, some .int, (0, 0), 1, 1, am_s59, am_b59)
def am_m60 : am_M := (⟨"WashLine", "isWithin", "(II)Z"⟩, prog_1_method_55_code, 2, some .boolean, (0, 0), 2, 0, am_s60, am_b60)
def am_m61 : am_M := (⟨"WashLine", "monday", "(III)I"⟩, prog_1_method_16_code, 4, some .int, (2, 49), 4, 1, am_s61, am_b61)
def am_m62 : am_M := (⟨"WashLine", "isWeather", "(I)Z"⟩, prog_1_method_59_code, 1, some .boolean, (1, 21), 1, 0, am_s62, am_b62)
def am_m63 : am_M := (⟨"WashLine$Strip", "holdsUpTo", "(I)Z"⟩, prog_8_method_8_code, 3, some .boolean, (0, 0), 2, 1, am_s63, am_b63)
def am_m64 : am_M := (⟨"WashLine$Line", "add", "(I[II)I"⟩, prog_3_method_2_code, 4, some .int, (1, 26), 4, 1, am_s64, am_b64)
def am_m65 : am_M := (⟨"WashLine", "isWithin", "(II)Z"⟩, prog_1_method_55_code, 2, some .boolean, (0, 0), 2, 0, am_s65, am_b65)
def am_m66 : am_M := (⟨"WashLine", "isMonday", "(I)Z"⟩, prog_1_method_61_code, 2, some .boolean, (1, 21), 2, 1, am_s66, am_b66)
def am_m67 : am_M := (⟨"WashLine", "isWithin", "(II)Z"⟩, prog_1_method_55_code, 2, some .boolean, (0, 0), 2, 0, am_s67, am_b67)
def am_m68 : am_M := (⟨"WashLine", "isWithin", "(II)Z"⟩, prog_1_method_55_code, 2, some .boolean, (0, 0), 2, 0, am_s68, am_b68)
def am_m69 : am_M := (⟨"WashLine", "back", "(I)I"⟩, prog_1_method_19_code, 3, some .int, (1, 21), 2, 1, am_s69, am_b69)
def am_m70 : am_M := (⟨"WashLine", "hangs", "(III)I"⟩, prog_1_method_20_code, 5, some .int, (2, 45), 4, 1, am_s70, am_b70)
def am_m71 : am_M := (⟨"WashLine$Houses", "leastIn", "(III)I"⟩, prog_2_method_8_code, 4, some .int, (1, 22), 4, 1, am_s71, am_b71)
def am_m72 : am_M := (⟨"WashLine$World", "isInside", "(II)Z"⟩, prog_10_method_4_code, 3, some .boolean, (0, 0), 3, 1, am_s72, am_b72)
def am_m73 : am_M := (⟨"WashLine", "explains", "(II)I"⟩, prog_1_method_21_code, 5, some .int, (4, 97), 3, 1, am_s73, am_b73)
def am_m74 : am_M := (⟨"WashLine$Looks", "explain", "(II)I"⟩, prog_4_method_4_code, 4, some .int, (3, 74), 3, 1, am_s74, am_b74)
def am_m75 : am_M := (⟨"WashLine$Looks", "agrees", "(II)Z"⟩, prog_4_method_2_code, 3, some .boolean, (2, 51), 3, 1, am_s75, am_b75)
def am_m76 : am_M := (⟨"WashLine$Looks", "agreesWith", "(IIIII)Z"⟩, prog_4_method_3_code, 9, some .boolean, (1, 23), 6, 1, am_s76, am_b76)
def am_m77 : am_M := (⟨"WashLine$Line", "isAbove", "(III)Z"⟩, prog_3_method_4_code, 4, some .boolean, (0, 0), 4, 1, am_s77, am_b77)
def am_m78 : am_M := (⟨"WashLine$Line", "isBelow", "(III)Z"⟩, prog_3_method_5_code, 4, some .boolean, (0, 0), 4, 1, am_s78, am_b78)
def am_m79 : am_M := (⟨"WashLine$Looks", "explainIll", "(II)I"⟩, prog_4_method_5_code, 4, some .int, (2, 51), 3, 1, am_s79, am_b79)
def am_m80 : am_M := (⟨"WashLine$Looks", "explainGuest", "(II)I"⟩, prog_4_method_6_code, 4, some .int, (2, 51), 3, 1, am_s80, am_b80)
def am_m81 : am_M := (⟨"WashLine$Looks", "priceOf", "(I)I"⟩, prog_4_method_7_code, 2, some .int, (0, 0), 2, 1, am_s81, am_b81)
def am_m82 : am_M := (⟨"WashLine", "lacks", "(II)I"⟩, prog_1_method_22_code, 4, some .int, (3, 69), 3, 1, am_s82, am_b82)
def am_m83 : am_M := (⟨"WashLine$Looks", "tooMuch", "(II)I"⟩, prog_4_method_10_code, 5, some .int, (1, 23), 3, 1, am_s83, am_b83)
def am_m84 : am_M := (⟨"WashLine$Looks", "tooLittle", "(II)I"⟩, prog_4_method_9_code, 5, some .int, (2, 45), 3, 1, am_s84, am_b84)
def am_m85 : am_M := (⟨"WashLine", "fewest", "(I)I"⟩, prog_1_method_23_code, 3, some .int, (4, 96), 2, 1, am_s85, am_b85)
def am_m86 : am_M := (⟨"WashLine$Looks", "smallest", "(I)I"⟩, prog_4_method_11_code, 4, some .int, (3, 73), 2, 1, am_s86, am_b86)
def am_m87 : am_M := (⟨"WashLine", "bound", "(I)I"⟩, prog_1_method_24_code, 2, some .int, (3, 71), 2, 1, am_s87, am_b87)
def am_m88 : am_M := (⟨"WashLine$Looks", "peopleByThings", "(I)I"⟩, prog_4_method_12_code, 6, some .int, (2, 46), 2, 1, am_s88, am_b88)
def am_m89 : am_M := (⟨"WashLine$Looks", "mostOfAny", "(I)I"⟩, prog_4_method_13_code, 4, some .int, (1, 23), 2, 1, am_s89, am_b89)
def am_m90 : am_M := (⟨"WashLine", "many", "(II)I"⟩, prog_1_method_25_code, 3, some .int, (5, 122), 3, 1, am_s90, am_b90)
def am_m91 : am_M := (⟨"WashLine$Looks", "explained", "(II)I"⟩, prog_4_method_8_code, 6, some .int, (4, 97), 3, 1, am_s91, am_b91)
def am_m92 : am_M := (⟨"WashLine", "step", "(II)I"⟩, prog_1_method_26_code, 5, some .int, (4, 93), 3, 1, am_s92, am_b92)
def am_m93 : am_M := (⟨"WashLine$Steps", "know", "(I)V"⟩, prog_6_method_3_code, 4, none, (3, 70), 2, 1, am_s93, am_b93)
def am_m94 : am_M := (⟨"WashLine$Steps", "spread", "([I)V"⟩, prog_6_method_5_code, 2, none, (2, 49), 2, 1, am_s94, am_b94)
def am_m95 : am_M := (⟨"WashLine$Steps", "fromMore", "([II)V"⟩, prog_6_method_7_code, 4, none, (1, 26), 3, 1, am_s95, am_b95)
def am_m96 : am_M := (⟨"WashLine$Steps", "leastOf", "([I[III)I"⟩, prog_6_method_9_code, 7, some .int, (0, 0), 5, 1, am_s96, am_b96)
def am_m97 : am_M := (⟨"WashLine$Steps", "grow", "([I)V"⟩, prog_6_method_10_code, 5, none, (1, 25), 2, 1, am_s97, am_b97)
def am_m98 : am_M := (⟨"WashLine$Steps", "growOne", "([II)Z"⟩, prog_6_method_11_code, 6, some .boolean, (0, 0), 3, 1, am_s98, am_b98)
def am_m99 : am_M := (⟨"WashLine$Steps", "fromLess", "([II)V"⟩, prog_6_method_8_code, 4, none, (1, 26), 3, 1, am_s99, am_b99)
def am_m100 : am_M := (⟨"WashLine$Steps", "between", "(II)I"⟩, prog_6_method_4_code, 3, some .int, (0, 0), 3, 1, am_s100, am_b100)
def am_m101 : am_M := (⟨"WashLine", "plain", "()I"⟩, prog_1_method_27_code, 1, some .int, (6, 141), 1, 1, am_s101, am_b101)
def am_m102 : am_M := (⟨"WashLine$Winter", "weigh", "()V"⟩, prog_9_method_4_code, 2, none, (5, 120), 1, 1, am_s102, am_b102)
def am_m103 : am_M := (⟨"WashLine$Winter", "setPrices", "(I)V"⟩, prog_9_method_5_code, 4, none, (4, 97), 2, 1, am_s103, am_b103)
def am_m104 : am_M := (⟨"WashLine$Winter", "goAhead", "()I"⟩, prog_9_method_6_code, 3, some .int, (3, 70), 1, 1, am_s104, am_b104)
def am_m105 : am_M := (⟨"WashLine$Winter", "explain", "(I)V"⟩, prog_9_method_8_code, 3, none, (1, 23), 2, 1, am_s105, am_b105)
def am_m106 : am_M := (⟨"WashLine$Winter", "isTold", "()Z"⟩, prog_9_method_3_code, 1, some .boolean, (0, 0), 1, 1, am_s106, am_b106)
def am_m107 : am_M := (⟨"WashLine$Winter", "goBack", "()V"⟩, prog_9_method_7_code, 2, none, (3, 73), 1, 1, am_s107, am_b107)
def am_m108 : am_M := (⟨"WashLine$Steps", "gather", "([I)V"⟩, prog_6_method_6_code, 2, none, (2, 52), 2, 1, am_s108, am_b108)
def am_m109 : am_M := (⟨"WashLine$Steps", "growBack", "([I)V"⟩, prog_6_method_12_code, 7, none, (1, 26), 2, 1, am_s109, am_b109)
def am_m110 : am_M := (⟨"WashLine$Winter", "list", "(I)V"⟩, prog_9_method_9_code, 4, none, (2, 42), 2, 1, am_s110, am_b110)
def am_m111 : am_M := (⟨"WashLine$Winter", "costBy", "(II)I"⟩, prog_9_method_12_code, 3, some .int, (1, 20), 3, 1, am_s111, am_b111)
def am_m112 : am_M := (⟨"WashLine$Winter", "findFirst", "()V"⟩, prog_9_method_10_code, 5, none, (4, 93), 1, 1, am_s112, am_b112)
def am_m113 : am_M := (⟨"WashLine$Winter", "follows", "(III)Z"⟩, prog_9_method_11_code, 5, some .boolean, (1, 22), 4, 1, am_s113, am_b113)
def am_m114 : am_M := (⟨"WashLine", "tale", "(I)I"⟩, prog_1_method_28_code, 3, some .int, (6, 141), 2, 1, am_s114, am_b114)
def am_m115 : am_M := (⟨"WashLine", "ways", "()I"⟩, prog_1_method_29_code, 1, some .int, (6, 142), 1, 1, am_s115, am_b115)
def am_m116 : am_M := (⟨"WashLine$Winter", "countWays", "()V"⟩, prog_9_method_16_code, 2, none, (5, 121), 1, 1, am_s116, am_b116)
def am_m117 : am_M := (⟨"WashLine$Winter", "countOn", "(I)V"⟩, prog_9_method_17_code, 9, none, (4, 93), 2, 1, am_s117, am_b117)
def am_m118 : am_M := (⟨"WashLine$Winter", "capped", "(J)J"⟩, prog_9_method_19_code, 2, some .long, (1, 23), 1, 0, am_s118, am_b118)
def am_m119 : am_M := (⟨"WashLine$Winter", "countTo", "(I)V"⟩, prog_9_method_18_code, 8, none, (2, 46), 2, 1, am_s119, am_b119)
def am_m120 : am_M := (⟨"WashLine", "sure", "(II)I"⟩, prog_1_method_30_code, 3, some .int, (6, 141), 3, 1, am_s120, am_b120)
def am_m121 : am_M := (⟨"WashLine$Winter", "mostOf", "(II)I"⟩, prog_9_method_15_code, 5, some .int, (1, 23), 3, 1, am_s121, am_b121)
def am_m122 : am_M := (⟨"WashLine$Winter", "leastOf", "(II)I"⟩, prog_9_method_14_code, 5, some .int, (1, 23), 3, 1, am_s122, am_b122)
def am_m123 : am_M := (⟨"WashLine", "share", "(III)I"⟩, prog_1_method_31_code, 4, some .int, (6, 142), 4, 1, am_s123, am_b123)
def am_m124 : am_M := (⟨"WashLine$Winter", "having", "(III)J"⟩, prog_9_method_20_code, 8, some .long, (0, 0), 4, 1, am_s124, am_b124)
def am_m125 : am_M := (⟨"WashLine", "tellFraction", "(JJ)V"⟩, prog_1_method_52_code, 7, none, (1, 30), 3, 1, am_s125, am_b125)
def am_m126 : am_M := (⟨"WashLine", "commonDivisor", "(JJ)J"⟩, prog_1_method_53_code, 11, some .long, (0, 0), 2, 0, am_s126, am_b126)
def am_m127 : am_M := (⟨"WashLine", "through", "(II)I"⟩, prog_1_method_32_code, 5, some .int, (6, 141), 3, 1, am_s127, am_b127)
def am_m128 : am_M := (⟨"WashLine", "rival", "(I)I"⟩, prog_1_method_33_code, 3, some .int, (6, 141), 2, 1, am_s128, am_b128)
def am_m129 : am_M := (⟨"WashLine$Winter", "other", "(I)I"⟩, prog_9_method_13_code, 5, some .int, (2, 42), 2, 1, am_s129, am_b129)
def am_m130 : am_M := (⟨"WashLine", "happen", "(IIII)I"⟩, prog_1_method_34_code, 6, some .int, (2, 42), 5, 1, am_s130, am_b130)
def am_m131 : am_M := (⟨"WashLine$Story", "add", "(IIII)I"⟩, prog_7_method_2_code, 5, some .int, (0, 0), 5, 1, am_s131, am_b131)
def am_m132 : am_M := (⟨"WashLine", "isWithin", "(II)Z"⟩, prog_1_method_55_code, 2, some .boolean, (0, 0), 2, 0, am_s132, am_b132)
def am_m133 : am_M := (⟨"WashLine", "isWithin", "(II)Z"⟩, prog_1_method_55_code, 2, some .boolean, (0, 0), 2, 0, am_s133, am_b133)
def am_m134 : am_M := (⟨"WashLine", "isWithin", "(II)Z"⟩, prog_1_method_55_code, 2, some .boolean, (0, 0), 2, 0, am_s134, am_b134)
def am_m135 : am_M := (⟨"WashLine", "isWithin", "(II)Z"⟩, prog_1_method_55_code, 2, some .boolean, (0, 0), 2, 0, am_s135, am_b135)
def am_m136 : am_M := (⟨"WashLine", "isWithin", "(II)Z"⟩, prog_1_method_55_code, 2, some .boolean, (0, 0), 2, 0, am_s136, am_b136)
def am_m137 : am_M := (⟨"WashLine", "isWithin", "(II)Z"⟩, prog_1_method_55_code, 2, some .boolean, (0, 0), 2, 0, am_s137, am_b137)
def am_m138 : am_M := (⟨"WashLine$Story", "live", "(I)Z"⟩, prog_7_method_7_code, 4, some .boolean, (3, 67), 2, 1, am_s138, am_b138)
def am_m139 : am_M := (⟨"WashLine$Story", "comesTrue", "(I)Z"⟩, prog_7_method_8_code, 2, some .boolean, (2, 46), 2, 1, am_s139, am_b139)
def am_m140 : am_M := (⟨"WashLine$Story", "join", "(I)Z"⟩, prog_7_method_9_code, 2, some .boolean, (1, 25), 2, 1, am_s140, am_b140)
def am_m141 : am_M := (⟨"WashLine$Story", "everybody", "()I"⟩, prog_7_method_11_code, 6, some .int, (0, 0), 1, 1, am_s141, am_b141)
def am_m142 : am_M := (⟨"WashLine$Story", "leave", "(I)Z"⟩, prog_7_method_10_code, 2, some .boolean, (0, 0), 2, 1, am_s142, am_b142)
def am_m143 : am_M := (⟨"WashLine", "household", "(I)I"⟩, prog_1_method_37_code, 2, some .int, (4, 90), 2, 1, am_s143, am_b143)
def am_m144 : am_M := (⟨"WashLine$Story", "number", "()I"⟩, prog_7_method_12_code, 3, some .int, (0, 0), 1, 1, am_s144, am_b144)
def am_m145 : am_M := (⟨"WashLine", "isWithin", "(II)Z"⟩, prog_1_method_55_code, 2, some .boolean, (0, 0), 2, 0, am_s145, am_b145)
def am_m146 : am_M := (⟨"WashLine", "isWithin", "(II)Z"⟩, prog_1_method_55_code, 2, some .boolean, (0, 0), 2, 0, am_s146, am_b146)
def am_m147 : am_M := (⟨"WashLine", "isWithin", "(II)Z"⟩, prog_1_method_55_code, 2, some .boolean, (0, 0), 2, 0, am_s147, am_b147)
def am_m148 : am_M := (⟨"WashLine", "isWithin", "(II)Z"⟩, prog_1_method_55_code, 2, some .boolean, (0, 0), 2, 0, am_s148, am_b148)
def am_m149 : am_M := (⟨"WashLine", "isWithin", "(II)Z"⟩, prog_1_method_55_code, 2, some .boolean, (0, 0), 2, 0, am_s149, am_b149)
def am_m150 : am_M := (⟨"WashLine", "isWithin", "(II)Z"⟩, prog_1_method_55_code, 2, some .boolean, (0, 0), 2, 0, am_s150, am_b150)
def am_m151 : am_M := (⟨"WashLine", "isWithin", "(II)Z"⟩, prog_1_method_55_code, 2, some .boolean, (0, 0), 2, 0, am_s151, am_b151)
def am_m152 : am_M := (⟨"WashLine", "doubts", "(I)I"⟩, prog_1_method_39_code, 3, some .int, (3, 70), 2, 1, am_s152, am_b152)
def am_m153 : am_M := (⟨"WashLine$Looks", "doubted", "(I)I"⟩, prog_4_method_14_code, 6, some .int, (2, 45), 2, 1, am_s153, am_b153)
def am_m154 : am_M := (⟨"WashLine", "least", "()I"⟩, prog_1_method_40_code, 2, some .int, (4, 94), 1, 1, am_s154, am_b154)
def am_m155 : am_M := (⟨"WashLine$Looks", "leastDoubted", "()I"⟩, prog_4_method_15_code, 5, some .int, (3, 70), 1, 1, am_s155, am_b155)
def am_m156 : am_M := (⟨"WashLine", "isWithin", "(II)Z"⟩, prog_1_method_55_code, 2, some .boolean, (0, 0), 2, 0, am_s156, am_b156)
def am_m157 : am_M := (⟨"WashLine", "isWithin", "(II)Z"⟩, prog_1_method_55_code, 2, some .boolean, (0, 0), 2, 0, am_s157, am_b157)
def am_m158 : am_M := (⟨"WashLine", "asked", "()I"⟩, prog_1_method_42_code, 1, some .int, (0, 0), 1, 1, am_s158, am_b158)
def am_m159 : am_M := (⟨"WashLine", "tales", "()J"⟩, prog_1_method_43_code, 1, some .long, (0, 0), 1, 1, am_s159, am_b159)
def am_m160 : am_M := (⟨"WashLine", "upper", "()J"⟩, prog_1_method_44_code, 1, some .long, (0, 0), 1, 1, am_s160, am_b160)
def am_m161 : am_M := (⟨"WashLine", "lower", "()J"⟩, prog_1_method_45_code, 1, some .long, (0, 0), 1, 1, am_s161, am_b161)
def am_m162 : am_M := (⟨"WashLine", "isWithin", "(II)Z"⟩, prog_1_method_55_code, 2, some .boolean, (0, 0), 2, 0, am_s162, am_b162)
def am_m163 : am_M := (⟨"WashLine", "isWithin", "(II)Z"⟩, prog_1_method_55_code, 2, some .boolean, (0, 0), 2, 0, am_s163, am_b163)
def am_m164 : am_M := (⟨"WashLine", "isWithin", "(II)Z"⟩, prog_1_method_55_code, 2, some .boolean, (0, 0), 2, 0, am_s164, am_b164)
def am_m165 : am_M := (⟨"WashLine", "isWithin", "(II)Z"⟩, prog_1_method_55_code, 2, some .boolean, (0, 0), 2, 0, am_s165, am_b165)
def am_m166 : am_M := (⟨"WashLine", "isWithin", "(II)Z"⟩, prog_1_method_55_code, 2, some .boolean, (0, 0), 2, 0, am_s166, am_b166)
def am_m167 : am_M := (⟨"WashLine", "isWithin", "(II)Z"⟩, prog_1_method_55_code, 2, some .boolean, (0, 0), 2, 0, am_s167, am_b167)
def am_m168 : am_M := (⟨"WashLine", "isWithin", "(II)Z"⟩, prog_1_method_55_code, 2, some .boolean, (0, 0), 2, 0, am_s168, am_b168)
def am_m169 : am_M := (⟨"WashLine", "isWithin", "(II)Z"⟩, prog_1_method_55_code, 2, some .boolean, (0, 0), 2, 0, am_s169, am_b169)
def am_m170 : am_M := (⟨"WashLine", "isWithin", "(II)Z"⟩, prog_1_method_55_code, 2, some .boolean, (0, 0), 2, 0, am_s170, am_b170)
def am_m171 : am_M := (⟨"WashLine", "isWithin", "(II)Z"⟩, prog_1_method_55_code, 2, some .boolean, (0, 0), 2, 0, am_s171, am_b171)
def am_m172 : am_M := (⟨"WashLineLaw", "low", "(II)I"⟩, method_2_code, 2, some .int, (0, 0), 2, 0, am_s172, am_b172)
def am_m173 : am_M := (⟨"WashLineLaw", "cell", "([II)I"⟩, method_3_code, 2, some .int, (0, 0), 2, 0, am_s173, am_b173)
def am_m174 : am_M := (⟨"WashLineLaw", "told", "(LWashLine;I)I"⟩, method_4_code, 2, some .int, (1, 20), 2, 0, am_s174, am_b174)
def am_m175 : am_M := (⟨"WashLineLaw", "world", "(LWashLine;[III[I[I[I[I)I"⟩, method_5_code, 17, some .int, (7, 152), 8, 0, am_s175, am_b175)
def am_m176 : am_M := (⟨"WashLineLaw", "houses", "(I)[I"⟩, method_6_code, 4, some (.array .int), (0, 0), 1, 0, am_s176, am_b176)
def am_m177 : am_M := (⟨"WashLineLaw", "mondays", "(LWashLine;[IIII[I[I[I[I)I"⟩, method_9_code, 18, some .int, (3, 72), 9, 0, am_s177, am_b177)
def am_m178 : am_M := (⟨"WashLineLaw", "sum", "([III)I"⟩, method_8_code, 3, some .int, (0, 0), 3, 0, am_s178, am_b178)
def am_meths : List am_M := [am_m0, am_m1, am_m2, am_m3, am_m4, am_m5, am_m6, am_m7, am_m8, am_m9, am_m10, am_m11, am_m12, am_m13, am_m14, am_m15, am_m16, am_m17, am_m18, am_m19, am_m20, am_m21, am_m22, am_m23, am_m24, am_m25, am_m26, am_m27, am_m28, am_m29, am_m30, am_m31, am_m32, am_m33, am_m34, am_m35, am_m36, am_m37, am_m38, am_m39, am_m40, am_m41, am_m42, am_m43, am_m44, am_m45, am_m46, am_m47, am_m48, am_m49, am_m50, am_m51, am_m52, am_m53, am_m54, am_m55, am_m56, am_m57, am_m58, am_m59, am_m60, am_m61, am_m62, am_m63, am_m64, am_m65, am_m66, am_m67, am_m68, am_m69, am_m70, am_m71, am_m72, am_m73, am_m74, am_m75, am_m76, am_m77, am_m78, am_m79, am_m80, am_m81, am_m82, am_m83, am_m84, am_m85, am_m86, am_m87, am_m88, am_m89, am_m90, am_m91, am_m92, am_m93, am_m94, am_m95, am_m96, am_m97, am_m98, am_m99, am_m100, am_m101, am_m102, am_m103, am_m104, am_m105, am_m106, am_m107, am_m108, am_m109, am_m110, am_m111, am_m112, am_m113, am_m114, am_m115, am_m116, am_m117, am_m118, am_m119, am_m120, am_m121, am_m122, am_m123, am_m124, am_m125, am_m126, am_m127, am_m128, am_m129, am_m130, am_m131, am_m132, am_m133, am_m134, am_m135, am_m136, am_m137, am_m138, am_m139, am_m140, am_m141, am_m142, am_m143, am_m144, am_m145, am_m146, am_m147, am_m148, am_m149, am_m150, am_m151, am_m152, am_m153, am_m154, am_m155, am_m156, am_m157, am_m158, am_m159, am_m160, am_m161, am_m162, am_m163, am_m164, am_m165, am_m166, am_m167, am_m168, am_m169, am_m170, am_m171, am_m172, am_m173, am_m174, am_m175, am_m176, am_m177, am_m178]
/-- frames, words, locals, arguments, call: what a caller must know -/
def am_RM : List (Nat × Nat × Nat × Nat × Nat) := [(10, 378, 25, 1, 0), (6, 134, 2, 1, 2), (2, 43, 1, 1, 2), (1, 23, 1, 1, 1), (0, 0, 4, 2, 0), (3, 63, 1, 1, 3), (1, 20, 2, 2, 2), (5, 113, 2, 2, 2), (4, 91, 3, 1, 1), (3, 71, 1, 1, 1), (1, 22, 5, 4, 0), (0, 0, 3, 3, 0), (2, 46, 6, 3, 1), (0, 0, 5, 2, 1), (0, 0, 6, 2, 1), (0, 0, 4, 3, 1), (1, 20, 1, 1, 3), (1, 20, 4, 4, 2), (1, 20, 3, 3, 2), (1, 20, 5, 5, 2), (1, 20, 3, 3, 2), (2, 45, 3, 3, 1), (1, 21, 1, 1, 0), (0, 0, 2, 2, 0), (0, 0, 2, 2, 1), (1, 23, 3, 3, 1), (2, 41, 4, 4, 1), (0, 0, 1, 1, 1), (0, 0, 2, 2, 1), (0, 0, 4, 3, 1), (0, 0, 3, 3, 1), (2, 41, 3, 3, 1), (0, 0, 2, 2, 0), (0, 0, 2, 2, 0), (0, 0, 2, 2, 0), (0, 0, 2, 2, 0), (0, 0, 2, 2, 0), (2, 45, 3, 3, 1), (1, 21, 1, 1, 0), (2, 41, 4, 4, 1), (6, 131, 2, 2, 1), (5, 108, 4, 2, 1), (2, 41, 2, 2, 1), (1, 21, 1, 1, 1), (4, 88, 1, 1, 1), (3, 64, 2, 1, 1), (2, 41, 4, 3, 1), (3, 64, 5, 1, 1), (3, 64, 2, 1, 1), (3, 64, 3, 1, 1), (0, 0, 2, 1, 1), (6, 131, 2, 2, 1), (1, 26, 2, 2, 1), (0, 0, 2, 1, 1), (0, 0, 1, 1, 1), (0, 0, 2, 2, 0), (1, 21, 2, 2, 1), (1, 21, 1, 1, 0), (0, 0, 2, 2, 0), (0, 0, 1, 1, 1), (0, 0, 2, 2, 0), (2, 49, 4, 4, 1), (1, 21, 1, 1, 0), (0, 0, 3, 2, 1), (1, 26, 4, 4, 1), (0, 0, 2, 2, 0), (1, 21, 2, 2, 1), (0, 0, 2, 2, 0), (0, 0, 2, 2, 0), (1, 21, 3, 2, 1), (2, 45, 5, 4, 1), (1, 22, 4, 4, 1), (0, 0, 3, 3, 1), (4, 97, 5, 3, 1), (3, 74, 4, 3, 1), (2, 51, 3, 3, 1), (1, 23, 9, 6, 1), (0, 0, 4, 4, 1), (0, 0, 4, 4, 1), (2, 51, 4, 3, 1), (2, 51, 4, 3, 1), (0, 0, 2, 2, 1), (3, 69, 4, 3, 1), (1, 23, 5, 3, 1), (2, 45, 5, 3, 1), (4, 96, 3, 2, 1), (3, 73, 4, 2, 1), (3, 71, 2, 2, 1), (2, 46, 6, 2, 1), (1, 23, 4, 2, 1), (5, 122, 3, 3, 1), (4, 97, 6, 3, 1), (4, 93, 5, 3, 1), (3, 70, 4, 2, 1), (2, 49, 2, 2, 1), (1, 26, 4, 3, 1), (0, 0, 7, 5, 1), (1, 25, 5, 2, 1), (0, 0, 6, 3, 1), (1, 26, 4, 3, 1), (0, 0, 3, 3, 1), (6, 141, 1, 1, 1), (5, 120, 2, 1, 1), (4, 97, 4, 2, 1), (3, 70, 3, 1, 1), (1, 23, 3, 2, 1), (0, 0, 1, 1, 1), (3, 73, 2, 1, 1), (2, 52, 2, 2, 1), (1, 26, 7, 2, 1), (2, 42, 4, 2, 1), (1, 20, 3, 3, 1), (4, 93, 5, 1, 1), (1, 22, 5, 4, 1), (6, 141, 3, 2, 1), (6, 142, 1, 1, 1), (5, 121, 2, 1, 1), (4, 93, 9, 2, 1), (1, 23, 2, 1, 0), (2, 46, 8, 2, 1), (6, 141, 3, 3, 1), (1, 23, 5, 3, 1), (1, 23, 5, 3, 1), (6, 142, 4, 4, 1), (0, 0, 8, 4, 1), (1, 30, 7, 3, 1), (0, 0, 11, 2, 0), (6, 141, 5, 3, 1), (6, 141, 3, 2, 1), (2, 42, 5, 2, 1), (2, 42, 6, 5, 1), (0, 0, 5, 5, 1), (0, 0, 2, 2, 0), (0, 0, 2, 2, 0), (0, 0, 2, 2, 0), (0, 0, 2, 2, 0), (0, 0, 2, 2, 0), (0, 0, 2, 2, 0), (3, 67, 4, 2, 1), (2, 46, 2, 2, 1), (1, 25, 2, 2, 1), (0, 0, 6, 1, 1), (0, 0, 2, 2, 1), (4, 90, 2, 2, 1), (0, 0, 3, 1, 1), (0, 0, 2, 2, 0), (0, 0, 2, 2, 0), (0, 0, 2, 2, 0), (0, 0, 2, 2, 0), (0, 0, 2, 2, 0), (0, 0, 2, 2, 0), (0, 0, 2, 2, 0), (3, 70, 3, 2, 1), (2, 45, 6, 2, 1), (4, 94, 2, 1, 1), (3, 70, 5, 1, 1), (0, 0, 2, 2, 0), (0, 0, 2, 2, 0), (0, 0, 1, 1, 1), (0, 0, 1, 1, 1), (0, 0, 1, 1, 1), (0, 0, 1, 1, 1), (0, 0, 2, 2, 0), (0, 0, 2, 2, 0), (0, 0, 2, 2, 0), (0, 0, 2, 2, 0), (0, 0, 2, 2, 0), (0, 0, 2, 2, 0), (0, 0, 2, 2, 0), (0, 0, 2, 2, 0), (0, 0, 2, 2, 0), (0, 0, 2, 2, 0), (0, 0, 2, 2, 0), (0, 0, 2, 2, 0), (1, 20, 2, 2, 0), (7, 152, 17, 8, 0), (0, 0, 4, 1, 0), (3, 72, 18, 9, 0), (0, 0, 3, 3, 0)]
end
section
def am_OW : List Nat := [11, 9, 8, 8, 12, 3, 6, 0, 0, 0, 12, 12, 0, 0, 0, 0, 1, 2, 4, 7, 5, 9, 9, 9, 9, 6, 9, 6, 6, 6, 9, 9, 9, 9, 9, 9, 9, 9, 9, 9, 9, 3, 3, 3, 3, 3, 3, 3, 3, 3, 8, 9, 8, 4, 7, 9, 9, 9, 9, 9, 9, 9, 9, 6, 1, 9, 9, 9, 9, 9, 9, 0, 8, 9, 2, 2, 2, 1, 1, 2, 2, 2, 9, 2, 2, 9, 2, 9, 2, 2, 9, 2, 9, 4, 4, 4, 4, 4, 4, 4, 4, 9, 7, 7, 7, 7, 7, 7, 4, 4, 7, 7, 7, 7, 9, 9, 7, 7, 7, 7, 9, 7, 7, 9, 7, 9, 9, 9, 9, 7, 9, 5, 9, 9, 9, 9, 9, 9, 5, 5, 5, 5, 5, 9, 5, 9, 9, 9, 9, 9, 9, 9, 9, 2, 9, 2, 9, 9, 9, 9, 9, 9, 9, 9, 9, 9, 9, 9, 9, 9, 9, 9, 11, 11, 11, 11, 11, 11, 11]
/-! THE WORDS THAT A CALL HANDS ON -/
def lw_gt : List Jvm.Cond := lw_tbl.filter goodWord
theorem am_gm {w : Jvm.Cond} (h : w ∈ lw_tbl) (hg : goodWord w = true) : w ∈ lw_gt := List.mem_filter.mpr ⟨h, hg⟩
theorem am_gg : GoodIn lw_gt lw_gt := fun w h => ⟨h, good_of_word (List.mem_filter.mp h).2⟩
theorem am_gt {w : Jvm.Cond} (h : w ∈ lw_gt) : w ∈ lw_tbl := (List.mem_filter.mp h).1
/-! A METHOD'S BLOCKS AGAINST ITS BYTES -/
def am_jmp (sts : List Nat) (pc : Nat) (off : Int) (b : Nat) : Bool := match sts[b]? with
  | some t => decide ((pc : Int) + off = (t : Int))
  | none => false
def am_jmps (sts : List Nat) (pc : Nat) : List Int → List Nat → Bool
  | [], [] => true
  | o :: os, b :: bs => am_jmp sts pc o b && am_jmps sts pc os bs
  | _, _ => false
def am_side (o : Nat) (ini : Bool) (maxL : Nat) (ret : Option FieldType) (RF RL : Nat) (sts : List Nat) (pc len : Nat) (i : Instr) (ops : List Nat) (v : Int) : Bool := match i with
  | .iconst n => len == 1 && decide (-10 ≤ n ∧ n ≤ 10)
  | .bipush n => len == 2 && decide (-128 ≤ n ∧ n < 128)
  | .sipush n => len == 3 && decide (-32768 ≤ n ∧ n < 32768)
  | .ldc x => len == 2 && am_CT.any (fun e => e.1 == o && e.2.1 == x && e.2.2.1 == v) && decide (-2147483648 ≤ v ∧ v < 2147483648)
  | .ldc_w x => len == 3 && am_CT.any (fun e => e.1 == o && e.2.1 == x && e.2.2.1 == v) && decide (-2147483648 ≤ v ∧ v < 2147483648)
  | .lconst _ => len == 1
  | .ldc2_w x => len == 3 && am_CJ.any (fun e => e.1 == o && e.2.1 == x && e.2.2.1 == v) && decide (-9223372036854775808 ≤ v ∧ v < 9223372036854775808)
  | .iload_n _ => len == 1
  | .iload _ => len == 2
  | .lload_n _ => len == 1
  | .lload _ => len == 2
  | .aload_n _ => len == 1
  | .aload _ => len == 2
  | .istore_n k => len == 1 && decide ((k : Nat) < maxL)
  | .istore k => len == 2 && decide (k < maxL)
  | .lstore_n k => len == 1 && decide ((k : Nat) + 1 < maxL)
  | .lstore k => len == 2 && decide (k + 1 < maxL)
  | .astore_n k => len == 1 && decide ((k : Nat) < maxL)
  | .astore k => len == 2 && decide (k < maxL)
  | .iinc k _ => len == 3 && decide (k < maxL)
  | .ifCond _ off => len == 3 && am_jmp sts pc off (ops.headD 0)
  | .if_icmp _ off => len == 3 && am_jmp sts pc off (ops.headD 0)
  | .goto off => len == 3 && am_jmp sts pc off (ops.headD 0)
  | .tableswitch d lo hi offs => am_jmp sts pc d (ops.headD 0) && am_jmps sts pc offs.toList ops.tail && decide (hi - lo < (offs.size : Int))
  | .lookupswitch d ps => am_jmp sts pc d (ops.headD 0) && am_jmps sts pc (ps.toList.map (fun q => q.2)) ops.tail && (ps.toList.zip (ps.toList.drop 1)).all (fun (a, next) => a.1 < next.1)
  | .getfield x => len == 3 && (match ops with
    | [c, k] => decide (c < 11) && decide (k < am_cN c) && am_FL.any (fun e => e.1 == o && e.2.1 == x && e.2.2.1 == c && e.2.2.2.1 == k)
    | _ => false)
  | .putfield x => len == 3 && (match ops with
    | [c, k] => decide (c < 11) && decide (k < am_cN c) && am_FL.any (fun e => e.1 == o && e.2.1 == x && e.2.2.1 == c && e.2.2.2.1 == k) && (!(am_Tt c k).2.2.2 || (ini && decide (c = o)))
    | _ => false)
  | .getstatic x => len == 3 && am_NG.any (fun e => e.1 == o && e.2 == x)
  | .newarray t => len == 2 && decide (newarray.typeOf t = .int ∨ newarray.typeOf t = .long ∨ newarray.typeOf t = .byte ∨ newarray.typeOf t = .boolean)
  | .anewarray x => len == 3 && am_CK.any (fun e => e.1 == o && e.2.1 == x && e.2.2.1 == 6)
  | .new x => len == 3 && (match ops with
    | [c] => decide (c < 11) && am_CK.any (fun e => e.1 == o && e.2.1 == x && e.2.2.1 == c)
    | _ => false)
  | .invokespecial x => len == 3 && (match ops with
    | [] => am_OI.any (fun e => e.1 == o && e.2.1 == x) && decide (1 ≤ RF) && decide (20 ≤ RL)
    | [m, n] => (match am_RM[m]? with
      | some (a, b, c, d, k) => decide (d = n) && decide (a + 1 ≤ RF) && decide (8 + (c + 11) + b ≤ RL) && decide (v ≤ (c : Int)) && ((decide (k = 2) && am_ML.any (fun e => e.1 == o && e.2.1 == x && e.2.2.1 == m)) || (decide (k = 3) && am_NM.any (fun e => e.1 == o && e.2.1 == x && e.2.2 == m)))
      | none => false)
    | _ => false)
  | .invokestatic x => len == 3 && (match ops with
    | [] => am_AC.any (fun e => e.1 == o && e.2.1 == x) && decide (1 ≤ RF) && decide (26 ≤ RL)
    | [m] => am_MA.any (fun e => e.1 == o && e.2.1 == x && e.2.2.1 == m) && decide (1 ≤ RF) && decide (23 ≤ RL)
    | [m, n] => (match am_RM[m]? with
      | some (a, b, c, d, k) => decide (d = n) && decide (a + 1 ≤ RF) && decide (8 + (c + 11) + b ≤ RL) && decide (v ≤ (c : Int)) && decide (k = 0) && am_ML.any (fun e => e.1 == o && e.2.1 == x && e.2.2.1 == m)
      | none => false)
    | _ => false)
  | .invokevirtual x => len == 3 && (match ops with
    | [m, n, cc] => (match am_RM[m]? with
      | some (a, b, c, d, k) => decide (d = n) && decide (a + 1 ≤ RF) && decide (8 + (c + 11) + b ≤ RL) && decide (v ≤ (c : Int)) && decide (k = 1) && decide (cc < 11) && decide (am_OW.getD m 99 = cc) && am_ML.any (fun e => e.1 == o && e.2.1 == x && e.2.2.1 == m)
      | none => false)
    | _ => false)
  | .return_ => len == 1 && decide (ret = none)
  | .ireturn => len == 1 && decide ((ops = [0] ∧ ret = some .int) ∨ (ops = [1] ∧ ret = some .boolean))
  | .lreturn => len == 1 && decide (ret = some .long)
  | .areturn => len == 1 && decide (ret = some (.array .int))
  | _ => len == 1
def am_chk (o : Nat) (ini : Bool) (maxL : Nat) (ret : Option FieldType) (RF RL : Nat) (sts : List Nat) (code : ByteArray) : Nat → List am_I → Bool
  | _, [] => true
  | pc, (i, ops, v) :: is => if i = .nop then (match sts[ops.headD 0]? with
      | some t => decide (t = pc)
      | none => false)
    else match decode code pc with
    | .ok (j, len) => decide (j = i) && am_side o ini maxL ret RF RL sts pc len i ops v && am_chk o ini maxL ret RF RL sts code (pc + len) is
    | .error _ => false
def am_chkM (o : Nat) (m : am_M) : Bool := match m with
  | (y, bytes, maxL, ret, (RF, RL), _, _, sts, bs) => decide (sts[0]? = some 0) && decide (sts.length = bs.length) && (sts.zip bs).all (fun q => am_chk o (y.name == "<init>") maxL ret RF RL sts bytes q.1 q.2)
/-- the words of a method, by how it is called -/
def am_kw (y : MethodName) (n : Nat) (k : Nat) : Prop := match k with
  | 0 => Jvm.Cond.static y ∈ lw_gt ∧ (parseMethodDescriptor y.desc).map (fun d => d.parameters.length) = some n
  | 1 => Jvm.Cond.instanceMethod y ∈ lw_gt ∧ Jvm.Cond.selects y.cls y y ∈ lw_gt ∧ (parseMethodDescriptor y.desc).map (fun d => d.parameters.length) = some (n - 1)
  | _ => Jvm.Cond.instanceMethod y ∈ lw_gt ∧ y.name = "<init>" ∧ (parseMethodDescriptor y.desc).map (fun d => d.parameters.length) = some (n - 1)
def am_good (j : Nat) (m : am_M) : Prop := match m with
  | (y, bytes, maxL, ret, (RF, RL), n, k, sts, bs) => ∃ o, o < 14 ∧ am_OW[j]? = some o ∧ y.cls = am_cn o ∧ am_chkM o (y, bytes, maxL, ret, (RF, RL), n, k, sts, bs) = true ∧ am_RM[j]? = some (RF, RL, maxL, n, k) ∧ plainName y.cls = true ∧ Jvm.Cond.code y bytes maxL ret ∈ lw_gt ∧ Jvm.Cond.initialized y.cls ∈ lw_gt ∧ am_kw y n k
end
section
set_option maxRecDepth 100000 in
theorem am_g1 : am_good 1 am_m1 := ⟨9, by decide, rfl, rfl, by decide +kernel, rfl, by decide +kernel, am_gm (List.mem_of_getElem? (i := 59) rfl) rfl, am_gm (List.mem_of_getElem? (i := 42) rfl) rfl, ⟨am_gm (List.mem_of_getElem? (i := 58) rfl) rfl, rfl, by decide +kernel⟩⟩
set_option maxRecDepth 100000 in
theorem am_g2 : am_good 2 am_m2 := ⟨8, by decide, rfl, rfl, by decide +kernel, rfl, by decide +kernel, am_gm (List.mem_of_getElem? (i := 69) rfl) rfl, am_gm (List.mem_of_getElem? (i := 43) rfl) rfl, ⟨am_gm (List.mem_of_getElem? (i := 68) rfl) rfl, rfl, by decide +kernel⟩⟩
set_option maxRecDepth 100000 in
theorem am_g3 : am_good 3 am_m3 := ⟨8, by decide, rfl, rfl, by decide +kernel, rfl, by decide +kernel, am_gm (List.mem_of_getElem? (i := 74) rfl) rfl, am_gm (List.mem_of_getElem? (i := 43) rfl) rfl, ⟨am_gm (List.mem_of_getElem? (i := 72) rfl) rfl, am_gm (List.mem_of_getElem? (i := 73) rfl) rfl, by decide +kernel⟩⟩
set_option maxRecDepth 100000 in
theorem am_g4 : am_good 4 am_m4 := ⟨12, by decide, rfl, rfl, by decide +kernel, rfl, by decide +kernel, am_gm (List.mem_of_getElem? (i := 77) rfl) rfl, am_gm (List.mem_of_getElem? (i := 44) rfl) rfl, ⟨am_gm (List.mem_of_getElem? (i := 76) rfl) rfl, by decide +kernel⟩⟩
set_option maxRecDepth 100000 in
theorem am_g5 : am_good 5 am_m5 := ⟨3, by decide, rfl, rfl, by decide +kernel, rfl, by decide +kernel, am_gm (List.mem_of_getElem? (i := 121) rfl) rfl, am_gm (List.mem_of_getElem? (i := 45) rfl) rfl, ⟨am_gm (List.mem_of_getElem? (i := 120) rfl) rfl, rfl, by decide +kernel⟩⟩
set_option maxRecDepth 100000 in
theorem am_g6 : am_good 6 am_m6 := ⟨6, by decide, rfl, rfl, by decide +kernel, rfl, by decide +kernel, am_gm (List.mem_of_getElem? (i := 127) rfl) rfl, am_gm (List.mem_of_getElem? (i := 46) rfl) rfl, ⟨am_gm (List.mem_of_getElem? (i := 126) rfl) rfl, rfl, by decide +kernel⟩⟩
set_option maxRecDepth 100000 in
theorem am_g7 : am_good 7 am_m7 := ⟨0, by decide, rfl, rfl, by decide +kernel, rfl, by decide +kernel, am_gm (List.mem_of_getElem? (i := 157) rfl) rfl, am_gm (List.mem_of_getElem? (i := 47) rfl) rfl, ⟨am_gm (List.mem_of_getElem? (i := 156) rfl) rfl, rfl, by decide +kernel⟩⟩
set_option maxRecDepth 100000 in
theorem am_g8 : am_good 8 am_m8 := ⟨0, by decide, rfl, rfl, by decide +kernel, rfl, by decide +kernel, am_gm (List.mem_of_getElem? (i := 162) rfl) rfl, am_gm (List.mem_of_getElem? (i := 47) rfl) rfl, ⟨am_gm (List.mem_of_getElem? (i := 160) rfl) rfl, am_gm (List.mem_of_getElem? (i := 161) rfl) rfl, by decide +kernel⟩⟩
set_option maxRecDepth 100000 in
theorem am_g9 : am_good 9 am_m9 := ⟨0, by decide, rfl, rfl, by decide +kernel, rfl, by decide +kernel, am_gm (List.mem_of_getElem? (i := 166) rfl) rfl, am_gm (List.mem_of_getElem? (i := 47) rfl) rfl, ⟨am_gm (List.mem_of_getElem? (i := 165) rfl) rfl, am_gm (List.mem_of_getElem? (i := 0) rfl) rfl, by decide +kernel⟩⟩
set_option maxRecDepth 100000 in
theorem am_g10 : am_good 10 am_m10 := ⟨12, by decide, rfl, rfl, by decide +kernel, rfl, by decide +kernel, am_gm (List.mem_of_getElem? (i := 169) rfl) rfl, am_gm (List.mem_of_getElem? (i := 44) rfl) rfl, ⟨am_gm (List.mem_of_getElem? (i := 168) rfl) rfl, by decide +kernel⟩⟩
set_option maxRecDepth 100000 in
theorem am_g11 : am_good 11 am_m11 := ⟨12, by decide, rfl, rfl, by decide +kernel, rfl, by decide +kernel, am_gm (List.mem_of_getElem? (i := 172) rfl) rfl, am_gm (List.mem_of_getElem? (i := 44) rfl) rfl, ⟨am_gm (List.mem_of_getElem? (i := 171) rfl) rfl, by decide +kernel⟩⟩
set_option maxRecDepth 100000 in
theorem am_g12 : am_good 12 am_m12 := ⟨0, by decide, rfl, rfl, by decide +kernel, rfl, by decide +kernel, am_gm (List.mem_of_getElem? (i := 176) rfl) rfl, am_gm (List.mem_of_getElem? (i := 47) rfl) rfl, ⟨am_gm (List.mem_of_getElem? (i := 175) rfl) rfl, am_gm (List.mem_of_getElem? (i := 1) rfl) rfl, by decide +kernel⟩⟩
set_option maxRecDepth 100000 in
theorem am_g13 : am_good 13 am_m13 := ⟨0, by decide, rfl, rfl, by decide +kernel, rfl, by decide +kernel, am_gm (List.mem_of_getElem? (i := 185) rfl) rfl, am_gm (List.mem_of_getElem? (i := 47) rfl) rfl, ⟨am_gm (List.mem_of_getElem? (i := 183) rfl) rfl, am_gm (List.mem_of_getElem? (i := 184) rfl) rfl, by decide +kernel⟩⟩
set_option maxRecDepth 100000 in
theorem am_g14 : am_good 14 am_m14 := ⟨0, by decide, rfl, rfl, by decide +kernel, rfl, by decide +kernel, am_gm (List.mem_of_getElem? (i := 189) rfl) rfl, am_gm (List.mem_of_getElem? (i := 47) rfl) rfl, ⟨am_gm (List.mem_of_getElem? (i := 188) rfl) rfl, am_gm (List.mem_of_getElem? (i := 2) rfl) rfl, by decide +kernel⟩⟩
set_option maxRecDepth 100000 in
theorem am_g15 : am_good 15 am_m15 := ⟨0, by decide, rfl, rfl, by decide +kernel, rfl, by decide +kernel, am_gm (List.mem_of_getElem? (i := 193) rfl) rfl, am_gm (List.mem_of_getElem? (i := 47) rfl) rfl, ⟨am_gm (List.mem_of_getElem? (i := 192) rfl) rfl, am_gm (List.mem_of_getElem? (i := 3) rfl) rfl, by decide +kernel⟩⟩
set_option maxRecDepth 100000 in
theorem am_g16 : am_good 16 am_m16 := ⟨1, by decide, rfl, rfl, by decide +kernel, rfl, by decide +kernel, am_gm (List.mem_of_getElem? (i := 243) rfl) rfl, am_gm (List.mem_of_getElem? (i := 49) rfl) rfl, ⟨am_gm (List.mem_of_getElem? (i := 242) rfl) rfl, rfl, by decide +kernel⟩⟩
set_option maxRecDepth 100000 in
theorem am_g17 : am_good 17 am_m17 := ⟨2, by decide, rfl, rfl, by decide +kernel, rfl, by decide +kernel, am_gm (List.mem_of_getElem? (i := 268) rfl) rfl, am_gm (List.mem_of_getElem? (i := 50) rfl) rfl, ⟨am_gm (List.mem_of_getElem? (i := 267) rfl) rfl, rfl, by decide +kernel⟩⟩
set_option maxRecDepth 100000 in
theorem am_g18 : am_good 18 am_m18 := ⟨4, by decide, rfl, rfl, by decide +kernel, rfl, by decide +kernel, am_gm (List.mem_of_getElem? (i := 284) rfl) rfl, am_gm (List.mem_of_getElem? (i := 51) rfl) rfl, ⟨am_gm (List.mem_of_getElem? (i := 283) rfl) rfl, rfl, by decide +kernel⟩⟩
set_option maxRecDepth 100000 in
theorem am_g19 : am_good 19 am_m19 := ⟨7, by decide, rfl, rfl, by decide +kernel, rfl, by decide +kernel, am_gm (List.mem_of_getElem? (i := 308) rfl) rfl, am_gm (List.mem_of_getElem? (i := 52) rfl) rfl, ⟨am_gm (List.mem_of_getElem? (i := 307) rfl) rfl, rfl, by decide +kernel⟩⟩
set_option maxRecDepth 100000 in
theorem am_g20 : am_good 20 am_m20 := ⟨5, by decide, rfl, rfl, by decide +kernel, rfl, by decide +kernel, am_gm (List.mem_of_getElem? (i := 373) rfl) rfl, am_gm (List.mem_of_getElem? (i := 53) rfl) rfl, ⟨am_gm (List.mem_of_getElem? (i := 372) rfl) rfl, rfl, by decide +kernel⟩⟩
set_option maxRecDepth 100000 in
theorem am_g21 : am_good 21 am_m21 := ⟨9, by decide, rfl, rfl, by decide +kernel, rfl, by decide +kernel, am_gm (List.mem_of_getElem? (i := 463) rfl) rfl, am_gm (List.mem_of_getElem? (i := 42) rfl) rfl, ⟨am_gm (List.mem_of_getElem? (i := 461) rfl) rfl, am_gm (List.mem_of_getElem? (i := 462) rfl) rfl, by decide +kernel⟩⟩
set_option maxRecDepth 100000 in
theorem am_g22 : am_good 22 am_m22 := ⟨9, by decide, rfl, rfl, by decide +kernel, rfl, by decide +kernel, am_gm (List.mem_of_getElem? (i := 466) rfl) rfl, am_gm (List.mem_of_getElem? (i := 42) rfl) rfl, ⟨am_gm (List.mem_of_getElem? (i := 465) rfl) rfl, by decide +kernel⟩⟩
set_option maxRecDepth 100000 in
theorem am_g23 : am_good 23 am_m23 := ⟨9, by decide, rfl, rfl, by decide +kernel, rfl, by decide +kernel, am_gm (List.mem_of_getElem? (i := 469) rfl) rfl, am_gm (List.mem_of_getElem? (i := 42) rfl) rfl, ⟨am_gm (List.mem_of_getElem? (i := 468) rfl) rfl, by decide +kernel⟩⟩
set_option maxRecDepth 100000 in
theorem am_g24 : am_good 24 am_m24 := ⟨9, by decide, rfl, rfl, by decide +kernel, rfl, by decide +kernel, am_gm (List.mem_of_getElem? (i := 473) rfl) rfl, am_gm (List.mem_of_getElem? (i := 42) rfl) rfl, ⟨am_gm (List.mem_of_getElem? (i := 472) rfl) rfl, am_gm (List.mem_of_getElem? (i := 4) rfl) rfl, by decide +kernel⟩⟩
set_option maxRecDepth 100000 in
theorem am_g25 : am_good 25 am_m25 := ⟨6, by decide, rfl, rfl, by decide +kernel, rfl, by decide +kernel, am_gm (List.mem_of_getElem? (i := 477) rfl) rfl, am_gm (List.mem_of_getElem? (i := 46) rfl) rfl, ⟨am_gm (List.mem_of_getElem? (i := 475) rfl) rfl, am_gm (List.mem_of_getElem? (i := 476) rfl) rfl, by decide +kernel⟩⟩
set_option maxRecDepth 100000 in
theorem am_g26 : am_good 26 am_m26 := ⟨9, by decide, rfl, rfl, by decide +kernel, rfl, by decide +kernel, am_gm (List.mem_of_getElem? (i := 482) rfl) rfl, am_gm (List.mem_of_getElem? (i := 42) rfl) rfl, ⟨am_gm (List.mem_of_getElem? (i := 480) rfl) rfl, am_gm (List.mem_of_getElem? (i := 481) rfl) rfl, by decide +kernel⟩⟩
set_option maxRecDepth 100000 in
theorem am_g27 : am_good 27 am_m27 := ⟨6, by decide, rfl, rfl, by decide +kernel, rfl, by decide +kernel, am_gm (List.mem_of_getElem? (i := 486) rfl) rfl, am_gm (List.mem_of_getElem? (i := 46) rfl) rfl, ⟨am_gm (List.mem_of_getElem? (i := 484) rfl) rfl, am_gm (List.mem_of_getElem? (i := 485) rfl) rfl, by decide +kernel⟩⟩
set_option maxRecDepth 100000 in
theorem am_g28 : am_good 28 am_m28 := ⟨6, by decide, rfl, rfl, by decide +kernel, rfl, by decide +kernel, am_gm (List.mem_of_getElem? (i := 490) rfl) rfl, am_gm (List.mem_of_getElem? (i := 46) rfl) rfl, ⟨am_gm (List.mem_of_getElem? (i := 488) rfl) rfl, am_gm (List.mem_of_getElem? (i := 489) rfl) rfl, by decide +kernel⟩⟩
set_option maxRecDepth 100000 in
theorem am_g29 : am_good 29 am_m29 := ⟨6, by decide, rfl, rfl, by decide +kernel, rfl, by decide +kernel, am_gm (List.mem_of_getElem? (i := 494) rfl) rfl, am_gm (List.mem_of_getElem? (i := 46) rfl) rfl, ⟨am_gm (List.mem_of_getElem? (i := 492) rfl) rfl, am_gm (List.mem_of_getElem? (i := 493) rfl) rfl, by decide +kernel⟩⟩
set_option maxRecDepth 100000 in
theorem am_g30 : am_good 30 am_m30 := ⟨9, by decide, rfl, rfl, by decide +kernel, rfl, by decide +kernel, am_gm (List.mem_of_getElem? (i := 498) rfl) rfl, am_gm (List.mem_of_getElem? (i := 42) rfl) rfl, ⟨am_gm (List.mem_of_getElem? (i := 497) rfl) rfl, am_gm (List.mem_of_getElem? (i := 5) rfl) rfl, by decide +kernel⟩⟩
set_option maxRecDepth 100000 in
theorem am_g31 : am_good 31 am_m31 := ⟨9, by decide, rfl, rfl, by decide +kernel, rfl, by decide +kernel, am_gm (List.mem_of_getElem? (i := 502) rfl) rfl, am_gm (List.mem_of_getElem? (i := 42) rfl) rfl, ⟨am_gm (List.mem_of_getElem? (i := 500) rfl) rfl, am_gm (List.mem_of_getElem? (i := 501) rfl) rfl, by decide +kernel⟩⟩
set_option maxRecDepth 100000 in
theorem am_g32 : am_good 32 am_m32 := ⟨9, by decide, rfl, rfl, by decide +kernel, rfl, by decide +kernel, am_gm (List.mem_of_getElem? (i := 469) rfl) rfl, am_gm (List.mem_of_getElem? (i := 42) rfl) rfl, ⟨am_gm (List.mem_of_getElem? (i := 468) rfl) rfl, by decide +kernel⟩⟩
set_option maxRecDepth 100000 in
theorem am_g33 : am_good 33 am_m33 := ⟨9, by decide, rfl, rfl, by decide +kernel, rfl, by decide +kernel, am_gm (List.mem_of_getElem? (i := 469) rfl) rfl, am_gm (List.mem_of_getElem? (i := 42) rfl) rfl, ⟨am_gm (List.mem_of_getElem? (i := 468) rfl) rfl, by decide +kernel⟩⟩
set_option maxRecDepth 100000 in
theorem am_g34 : am_good 34 am_m34 := ⟨9, by decide, rfl, rfl, by decide +kernel, rfl, by decide +kernel, am_gm (List.mem_of_getElem? (i := 469) rfl) rfl, am_gm (List.mem_of_getElem? (i := 42) rfl) rfl, ⟨am_gm (List.mem_of_getElem? (i := 468) rfl) rfl, by decide +kernel⟩⟩
set_option maxRecDepth 100000 in
theorem am_g35 : am_good 35 am_m35 := ⟨9, by decide, rfl, rfl, by decide +kernel, rfl, by decide +kernel, am_gm (List.mem_of_getElem? (i := 469) rfl) rfl, am_gm (List.mem_of_getElem? (i := 42) rfl) rfl, ⟨am_gm (List.mem_of_getElem? (i := 468) rfl) rfl, by decide +kernel⟩⟩
set_option maxRecDepth 100000 in
theorem am_g36 : am_good 36 am_m36 := ⟨9, by decide, rfl, rfl, by decide +kernel, rfl, by decide +kernel, am_gm (List.mem_of_getElem? (i := 469) rfl) rfl, am_gm (List.mem_of_getElem? (i := 42) rfl) rfl, ⟨am_gm (List.mem_of_getElem? (i := 468) rfl) rfl, by decide +kernel⟩⟩
set_option maxRecDepth 100000 in
theorem am_g37 : am_good 37 am_m37 := ⟨9, by decide, rfl, rfl, by decide +kernel, rfl, by decide +kernel, am_gm (List.mem_of_getElem? (i := 899) rfl) rfl, am_gm (List.mem_of_getElem? (i := 42) rfl) rfl, ⟨am_gm (List.mem_of_getElem? (i := 897) rfl) rfl, am_gm (List.mem_of_getElem? (i := 898) rfl) rfl, by decide +kernel⟩⟩
set_option maxRecDepth 100000 in
theorem am_g38 : am_good 38 am_m38 := ⟨9, by decide, rfl, rfl, by decide +kernel, rfl, by decide +kernel, am_gm (List.mem_of_getElem? (i := 902) rfl) rfl, am_gm (List.mem_of_getElem? (i := 42) rfl) rfl, ⟨am_gm (List.mem_of_getElem? (i := 901) rfl) rfl, by decide +kernel⟩⟩
set_option maxRecDepth 100000 in
theorem am_g39 : am_good 39 am_m39 := ⟨9, by decide, rfl, rfl, by decide +kernel, rfl, by decide +kernel, am_gm (List.mem_of_getElem? (i := 906) rfl) rfl, am_gm (List.mem_of_getElem? (i := 42) rfl) rfl, ⟨am_gm (List.mem_of_getElem? (i := 904) rfl) rfl, am_gm (List.mem_of_getElem? (i := 905) rfl) rfl, by decide +kernel⟩⟩
set_option maxRecDepth 100000 in
theorem am_g40 : am_good 40 am_m40 := ⟨9, by decide, rfl, rfl, by decide +kernel, rfl, by decide +kernel, am_gm (List.mem_of_getElem? (i := 910) rfl) rfl, am_gm (List.mem_of_getElem? (i := 42) rfl) rfl, ⟨am_gm (List.mem_of_getElem? (i := 908) rfl) rfl, am_gm (List.mem_of_getElem? (i := 909) rfl) rfl, by decide +kernel⟩⟩
set_option maxRecDepth 100000 in
theorem am_g41 : am_good 41 am_m41 := ⟨3, by decide, rfl, rfl, by decide +kernel, rfl, by decide +kernel, am_gm (List.mem_of_getElem? (i := 914) rfl) rfl, am_gm (List.mem_of_getElem? (i := 45) rfl) rfl, ⟨am_gm (List.mem_of_getElem? (i := 912) rfl) rfl, am_gm (List.mem_of_getElem? (i := 913) rfl) rfl, by decide +kernel⟩⟩
set_option maxRecDepth 100000 in
theorem am_g42 : am_good 42 am_m42 := ⟨3, by decide, rfl, rfl, by decide +kernel, rfl, by decide +kernel, am_gm (List.mem_of_getElem? (i := 919) rfl) rfl, am_gm (List.mem_of_getElem? (i := 45) rfl) rfl, ⟨am_gm (List.mem_of_getElem? (i := 918) rfl) rfl, am_gm (List.mem_of_getElem? (i := 33) rfl) rfl, by decide +kernel⟩⟩
set_option maxRecDepth 100000 in
theorem am_g43 : am_good 43 am_m43 := ⟨3, by decide, rfl, rfl, by decide +kernel, rfl, by decide +kernel, am_gm (List.mem_of_getElem? (i := 923) rfl) rfl, am_gm (List.mem_of_getElem? (i := 45) rfl) rfl, ⟨am_gm (List.mem_of_getElem? (i := 922) rfl) rfl, am_gm (List.mem_of_getElem? (i := 34) rfl) rfl, by decide +kernel⟩⟩
set_option maxRecDepth 100000 in
theorem am_g44 : am_good 44 am_m44 := ⟨3, by decide, rfl, rfl, by decide +kernel, rfl, by decide +kernel, am_gm (List.mem_of_getElem? (i := 928) rfl) rfl, am_gm (List.mem_of_getElem? (i := 45) rfl) rfl, ⟨am_gm (List.mem_of_getElem? (i := 927) rfl) rfl, am_gm (List.mem_of_getElem? (i := 35) rfl) rfl, by decide +kernel⟩⟩
set_option maxRecDepth 100000 in
theorem am_g45 : am_good 45 am_m45 := ⟨3, by decide, rfl, rfl, by decide +kernel, rfl, by decide +kernel, am_gm (List.mem_of_getElem? (i := 932) rfl) rfl, am_gm (List.mem_of_getElem? (i := 45) rfl) rfl, ⟨am_gm (List.mem_of_getElem? (i := 931) rfl) rfl, am_gm (List.mem_of_getElem? (i := 36) rfl) rfl, by decide +kernel⟩⟩
set_option maxRecDepth 100000 in
theorem am_g46 : am_good 46 am_m46 := ⟨3, by decide, rfl, rfl, by decide +kernel, rfl, by decide +kernel, am_gm (List.mem_of_getElem? (i := 936) rfl) rfl, am_gm (List.mem_of_getElem? (i := 45) rfl) rfl, ⟨am_gm (List.mem_of_getElem? (i := 935) rfl) rfl, am_gm (List.mem_of_getElem? (i := 37) rfl) rfl, by decide +kernel⟩⟩
set_option maxRecDepth 100000 in
theorem am_g47 : am_good 47 am_m47 := ⟨3, by decide, rfl, rfl, by decide +kernel, rfl, by decide +kernel, am_gm (List.mem_of_getElem? (i := 940) rfl) rfl, am_gm (List.mem_of_getElem? (i := 45) rfl) rfl, ⟨am_gm (List.mem_of_getElem? (i := 939) rfl) rfl, am_gm (List.mem_of_getElem? (i := 38) rfl) rfl, by decide +kernel⟩⟩
set_option maxRecDepth 100000 in
theorem am_g48 : am_good 48 am_m48 := ⟨3, by decide, rfl, rfl, by decide +kernel, rfl, by decide +kernel, am_gm (List.mem_of_getElem? (i := 944) rfl) rfl, am_gm (List.mem_of_getElem? (i := 45) rfl) rfl, ⟨am_gm (List.mem_of_getElem? (i := 943) rfl) rfl, am_gm (List.mem_of_getElem? (i := 39) rfl) rfl, by decide +kernel⟩⟩
set_option maxRecDepth 100000 in
theorem am_g49 : am_good 49 am_m49 := ⟨3, by decide, rfl, rfl, by decide +kernel, rfl, by decide +kernel, am_gm (List.mem_of_getElem? (i := 948) rfl) rfl, am_gm (List.mem_of_getElem? (i := 45) rfl) rfl, ⟨am_gm (List.mem_of_getElem? (i := 947) rfl) rfl, am_gm (List.mem_of_getElem? (i := 40) rfl) rfl, by decide +kernel⟩⟩
set_option maxRecDepth 100000 in
theorem am_g50 : am_good 50 am_m50 := ⟨8, by decide, rfl, rfl, by decide +kernel, rfl, by decide +kernel, am_gm (List.mem_of_getElem? (i := 952) rfl) rfl, am_gm (List.mem_of_getElem? (i := 43) rfl) rfl, ⟨am_gm (List.mem_of_getElem? (i := 950) rfl) rfl, am_gm (List.mem_of_getElem? (i := 951) rfl) rfl, by decide +kernel⟩⟩
set_option maxRecDepth 100000 in
theorem am_g51 : am_good 51 am_m51 := ⟨9, by decide, rfl, rfl, by decide +kernel, rfl, by decide +kernel, am_gm (List.mem_of_getElem? (i := 956) rfl) rfl, am_gm (List.mem_of_getElem? (i := 42) rfl) rfl, ⟨am_gm (List.mem_of_getElem? (i := 954) rfl) rfl, am_gm (List.mem_of_getElem? (i := 955) rfl) rfl, by decide +kernel⟩⟩
set_option maxRecDepth 100000 in
theorem am_g52 : am_good 52 am_m52 := ⟨8, by decide, rfl, rfl, by decide +kernel, rfl, by decide +kernel, am_gm (List.mem_of_getElem? (i := 960) rfl) rfl, am_gm (List.mem_of_getElem? (i := 43) rfl) rfl, ⟨am_gm (List.mem_of_getElem? (i := 958) rfl) rfl, am_gm (List.mem_of_getElem? (i := 959) rfl) rfl, by decide +kernel⟩⟩
set_option maxRecDepth 100000 in
theorem am_g53 : am_good 53 am_m53 := ⟨4, by decide, rfl, rfl, by decide +kernel, rfl, by decide +kernel, am_gm (List.mem_of_getElem? (i := 966) rfl) rfl, am_gm (List.mem_of_getElem? (i := 51) rfl) rfl, ⟨am_gm (List.mem_of_getElem? (i := 964) rfl) rfl, am_gm (List.mem_of_getElem? (i := 965) rfl) rfl, by decide +kernel⟩⟩
set_option maxRecDepth 100000 in
theorem am_g54 : am_good 54 am_m54 := ⟨7, by decide, rfl, rfl, by decide +kernel, rfl, by decide +kernel, am_gm (List.mem_of_getElem? (i := 521) rfl) rfl, am_gm (List.mem_of_getElem? (i := 52) rfl) rfl, ⟨am_gm (List.mem_of_getElem? (i := 519) rfl) rfl, am_gm (List.mem_of_getElem? (i := 520) rfl) rfl, by decide +kernel⟩⟩
set_option maxRecDepth 100000 in
theorem am_g55 : am_good 55 am_m55 := ⟨9, by decide, rfl, rfl, by decide +kernel, rfl, by decide +kernel, am_gm (List.mem_of_getElem? (i := 469) rfl) rfl, am_gm (List.mem_of_getElem? (i := 42) rfl) rfl, ⟨am_gm (List.mem_of_getElem? (i := 468) rfl) rfl, by decide +kernel⟩⟩
set_option maxRecDepth 100000 in
theorem am_g56 : am_good 56 am_m56 := ⟨9, by decide, rfl, rfl, by decide +kernel, rfl, by decide +kernel, am_gm (List.mem_of_getElem? (i := 772) rfl) rfl, am_gm (List.mem_of_getElem? (i := 42) rfl) rfl, ⟨am_gm (List.mem_of_getElem? (i := 771) rfl) rfl, am_gm (List.mem_of_getElem? (i := 27) rfl) rfl, by decide +kernel⟩⟩
set_option maxRecDepth 100000 in
theorem am_g57 : am_good 57 am_m57 := ⟨9, by decide, rfl, rfl, by decide +kernel, rfl, by decide +kernel, am_gm (List.mem_of_getElem? (i := 538) rfl) rfl, am_gm (List.mem_of_getElem? (i := 42) rfl) rfl, ⟨am_gm (List.mem_of_getElem? (i := 537) rfl) rfl, by decide +kernel⟩⟩
set_option maxRecDepth 100000 in
theorem am_g58 : am_good 58 am_m58 := ⟨9, by decide, rfl, rfl, by decide +kernel, rfl, by decide +kernel, am_gm (List.mem_of_getElem? (i := 469) rfl) rfl, am_gm (List.mem_of_getElem? (i := 42) rfl) rfl, ⟨am_gm (List.mem_of_getElem? (i := 468) rfl) rfl, by decide +kernel⟩⟩
set_option maxRecDepth 100000 in
theorem am_g59 : am_good 59 am_m59 := ⟨9, by decide, rfl, rfl, by decide +kernel, rfl, by decide +kernel, am_gm (List.mem_of_getElem? (i := 506) rfl) rfl, am_gm (List.mem_of_getElem? (i := 42) rfl) rfl, ⟨am_gm (List.mem_of_getElem? (i := 504) rfl) rfl, am_gm (List.mem_of_getElem? (i := 505) rfl) rfl, by decide +kernel⟩⟩
set_option maxRecDepth 100000 in
theorem am_g60 : am_good 60 am_m60 := ⟨9, by decide, rfl, rfl, by decide +kernel, rfl, by decide +kernel, am_gm (List.mem_of_getElem? (i := 469) rfl) rfl, am_gm (List.mem_of_getElem? (i := 42) rfl) rfl, ⟨am_gm (List.mem_of_getElem? (i := 468) rfl) rfl, by decide +kernel⟩⟩
set_option maxRecDepth 100000 in
theorem am_g61 : am_good 61 am_m61 := ⟨9, by decide, rfl, rfl, by decide +kernel, rfl, by decide +kernel, am_gm (List.mem_of_getElem? (i := 510) rfl) rfl, am_gm (List.mem_of_getElem? (i := 42) rfl) rfl, ⟨am_gm (List.mem_of_getElem? (i := 508) rfl) rfl, am_gm (List.mem_of_getElem? (i := 509) rfl) rfl, by decide +kernel⟩⟩
set_option maxRecDepth 100000 in
theorem am_g62 : am_good 62 am_m62 := ⟨9, by decide, rfl, rfl, by decide +kernel, rfl, by decide +kernel, am_gm (List.mem_of_getElem? (i := 513) rfl) rfl, am_gm (List.mem_of_getElem? (i := 42) rfl) rfl, ⟨am_gm (List.mem_of_getElem? (i := 512) rfl) rfl, by decide +kernel⟩⟩
set_option maxRecDepth 100000 in
theorem am_g63 : am_good 63 am_m63 := ⟨6, by decide, rfl, rfl, by decide +kernel, rfl, by decide +kernel, am_gm (List.mem_of_getElem? (i := 517) rfl) rfl, am_gm (List.mem_of_getElem? (i := 46) rfl) rfl, ⟨am_gm (List.mem_of_getElem? (i := 515) rfl) rfl, am_gm (List.mem_of_getElem? (i := 516) rfl) rfl, by decide +kernel⟩⟩
set_option maxRecDepth 100000 in
theorem am_g64 : am_good 64 am_m64 := ⟨1, by decide, rfl, rfl, by decide +kernel, rfl, by decide +kernel, am_gm (List.mem_of_getElem? (i := 525) rfl) rfl, am_gm (List.mem_of_getElem? (i := 49) rfl) rfl, ⟨am_gm (List.mem_of_getElem? (i := 523) rfl) rfl, am_gm (List.mem_of_getElem? (i := 524) rfl) rfl, by decide +kernel⟩⟩
set_option maxRecDepth 100000 in
theorem am_g65 : am_good 65 am_m65 := ⟨9, by decide, rfl, rfl, by decide +kernel, rfl, by decide +kernel, am_gm (List.mem_of_getElem? (i := 469) rfl) rfl, am_gm (List.mem_of_getElem? (i := 42) rfl) rfl, ⟨am_gm (List.mem_of_getElem? (i := 468) rfl) rfl, by decide +kernel⟩⟩
set_option maxRecDepth 100000 in
theorem am_g66 : am_good 66 am_m66 := ⟨9, by decide, rfl, rfl, by decide +kernel, rfl, by decide +kernel, am_gm (List.mem_of_getElem? (i := 554) rfl) rfl, am_gm (List.mem_of_getElem? (i := 42) rfl) rfl, ⟨am_gm (List.mem_of_getElem? (i := 553) rfl) rfl, am_gm (List.mem_of_getElem? (i := 6) rfl) rfl, by decide +kernel⟩⟩
set_option maxRecDepth 100000 in
theorem am_g67 : am_good 67 am_m67 := ⟨9, by decide, rfl, rfl, by decide +kernel, rfl, by decide +kernel, am_gm (List.mem_of_getElem? (i := 469) rfl) rfl, am_gm (List.mem_of_getElem? (i := 42) rfl) rfl, ⟨am_gm (List.mem_of_getElem? (i := 468) rfl) rfl, by decide +kernel⟩⟩
set_option maxRecDepth 100000 in
theorem am_g68 : am_good 68 am_m68 := ⟨9, by decide, rfl, rfl, by decide +kernel, rfl, by decide +kernel, am_gm (List.mem_of_getElem? (i := 469) rfl) rfl, am_gm (List.mem_of_getElem? (i := 42) rfl) rfl, ⟨am_gm (List.mem_of_getElem? (i := 468) rfl) rfl, by decide +kernel⟩⟩
set_option maxRecDepth 100000 in
theorem am_g69 : am_good 69 am_m69 := ⟨9, by decide, rfl, rfl, by decide +kernel, rfl, by decide +kernel, am_gm (List.mem_of_getElem? (i := 530) rfl) rfl, am_gm (List.mem_of_getElem? (i := 42) rfl) rfl, ⟨am_gm (List.mem_of_getElem? (i := 528) rfl) rfl, am_gm (List.mem_of_getElem? (i := 529) rfl) rfl, by decide +kernel⟩⟩
set_option maxRecDepth 100000 in
theorem am_g70 : am_good 70 am_m70 := ⟨9, by decide, rfl, rfl, by decide +kernel, rfl, by decide +kernel, am_gm (List.mem_of_getElem? (i := 534) rfl) rfl, am_gm (List.mem_of_getElem? (i := 42) rfl) rfl, ⟨am_gm (List.mem_of_getElem? (i := 532) rfl) rfl, am_gm (List.mem_of_getElem? (i := 533) rfl) rfl, by decide +kernel⟩⟩
set_option maxRecDepth 100000 in
theorem am_g71 : am_good 71 am_m71 := ⟨0, by decide, rfl, rfl, by decide +kernel, rfl, by decide +kernel, am_gm (List.mem_of_getElem? (i := 542) rfl) rfl, am_gm (List.mem_of_getElem? (i := 47) rfl) rfl, ⟨am_gm (List.mem_of_getElem? (i := 540) rfl) rfl, am_gm (List.mem_of_getElem? (i := 541) rfl) rfl, by decide +kernel⟩⟩
set_option maxRecDepth 100000 in
theorem am_g72 : am_good 72 am_m72 := ⟨8, by decide, rfl, rfl, by decide +kernel, rfl, by decide +kernel, am_gm (List.mem_of_getElem? (i := 546) rfl) rfl, am_gm (List.mem_of_getElem? (i := 43) rfl) rfl, ⟨am_gm (List.mem_of_getElem? (i := 544) rfl) rfl, am_gm (List.mem_of_getElem? (i := 545) rfl) rfl, by decide +kernel⟩⟩
set_option maxRecDepth 100000 in
theorem am_g73 : am_good 73 am_m73 := ⟨9, by decide, rfl, rfl, by decide +kernel, rfl, by decide +kernel, am_gm (List.mem_of_getElem? (i := 550) rfl) rfl, am_gm (List.mem_of_getElem? (i := 42) rfl) rfl, ⟨am_gm (List.mem_of_getElem? (i := 548) rfl) rfl, am_gm (List.mem_of_getElem? (i := 549) rfl) rfl, by decide +kernel⟩⟩
set_option maxRecDepth 100000 in
theorem am_g74 : am_good 74 am_m74 := ⟨2, by decide, rfl, rfl, by decide +kernel, rfl, by decide +kernel, am_gm (List.mem_of_getElem? (i := 558) rfl) rfl, am_gm (List.mem_of_getElem? (i := 50) rfl) rfl, ⟨am_gm (List.mem_of_getElem? (i := 556) rfl) rfl, am_gm (List.mem_of_getElem? (i := 557) rfl) rfl, by decide +kernel⟩⟩
set_option maxRecDepth 100000 in
theorem am_g75 : am_good 75 am_m75 := ⟨2, by decide, rfl, rfl, by decide +kernel, rfl, by decide +kernel, am_gm (List.mem_of_getElem? (i := 562) rfl) rfl, am_gm (List.mem_of_getElem? (i := 50) rfl) rfl, ⟨am_gm (List.mem_of_getElem? (i := 561) rfl) rfl, am_gm (List.mem_of_getElem? (i := 7) rfl) rfl, by decide +kernel⟩⟩
set_option maxRecDepth 100000 in
theorem am_g76 : am_good 76 am_m76 := ⟨2, by decide, rfl, rfl, by decide +kernel, rfl, by decide +kernel, am_gm (List.mem_of_getElem? (i := 566) rfl) rfl, am_gm (List.mem_of_getElem? (i := 50) rfl) rfl, ⟨am_gm (List.mem_of_getElem? (i := 565) rfl) rfl, am_gm (List.mem_of_getElem? (i := 8) rfl) rfl, by decide +kernel⟩⟩
set_option maxRecDepth 100000 in
theorem am_g77 : am_good 77 am_m77 := ⟨1, by decide, rfl, rfl, by decide +kernel, rfl, by decide +kernel, am_gm (List.mem_of_getElem? (i := 570) rfl) rfl, am_gm (List.mem_of_getElem? (i := 49) rfl) rfl, ⟨am_gm (List.mem_of_getElem? (i := 568) rfl) rfl, am_gm (List.mem_of_getElem? (i := 569) rfl) rfl, by decide +kernel⟩⟩
set_option maxRecDepth 100000 in
theorem am_g78 : am_good 78 am_m78 := ⟨1, by decide, rfl, rfl, by decide +kernel, rfl, by decide +kernel, am_gm (List.mem_of_getElem? (i := 574) rfl) rfl, am_gm (List.mem_of_getElem? (i := 49) rfl) rfl, ⟨am_gm (List.mem_of_getElem? (i := 572) rfl) rfl, am_gm (List.mem_of_getElem? (i := 573) rfl) rfl, by decide +kernel⟩⟩
set_option maxRecDepth 100000 in
theorem am_g79 : am_good 79 am_m79 := ⟨2, by decide, rfl, rfl, by decide +kernel, rfl, by decide +kernel, am_gm (List.mem_of_getElem? (i := 579) rfl) rfl, am_gm (List.mem_of_getElem? (i := 50) rfl) rfl, ⟨am_gm (List.mem_of_getElem? (i := 578) rfl) rfl, am_gm (List.mem_of_getElem? (i := 9) rfl) rfl, by decide +kernel⟩⟩
set_option maxRecDepth 100000 in
theorem am_g80 : am_good 80 am_m80 := ⟨2, by decide, rfl, rfl, by decide +kernel, rfl, by decide +kernel, am_gm (List.mem_of_getElem? (i := 583) rfl) rfl, am_gm (List.mem_of_getElem? (i := 50) rfl) rfl, ⟨am_gm (List.mem_of_getElem? (i := 582) rfl) rfl, am_gm (List.mem_of_getElem? (i := 10) rfl) rfl, by decide +kernel⟩⟩
set_option maxRecDepth 100000 in
theorem am_g81 : am_good 81 am_m81 := ⟨2, by decide, rfl, rfl, by decide +kernel, rfl, by decide +kernel, am_gm (List.mem_of_getElem? (i := 587) rfl) rfl, am_gm (List.mem_of_getElem? (i := 50) rfl) rfl, ⟨am_gm (List.mem_of_getElem? (i := 585) rfl) rfl, am_gm (List.mem_of_getElem? (i := 586) rfl) rfl, by decide +kernel⟩⟩
set_option maxRecDepth 100000 in
theorem am_g82 : am_good 82 am_m82 := ⟨9, by decide, rfl, rfl, by decide +kernel, rfl, by decide +kernel, am_gm (List.mem_of_getElem? (i := 591) rfl) rfl, am_gm (List.mem_of_getElem? (i := 42) rfl) rfl, ⟨am_gm (List.mem_of_getElem? (i := 589) rfl) rfl, am_gm (List.mem_of_getElem? (i := 590) rfl) rfl, by decide +kernel⟩⟩
set_option maxRecDepth 100000 in
theorem am_g83 : am_good 83 am_m83 := ⟨2, by decide, rfl, rfl, by decide +kernel, rfl, by decide +kernel, am_gm (List.mem_of_getElem? (i := 595) rfl) rfl, am_gm (List.mem_of_getElem? (i := 50) rfl) rfl, ⟨am_gm (List.mem_of_getElem? (i := 593) rfl) rfl, am_gm (List.mem_of_getElem? (i := 594) rfl) rfl, by decide +kernel⟩⟩
set_option maxRecDepth 100000 in
theorem am_g84 : am_good 84 am_m84 := ⟨2, by decide, rfl, rfl, by decide +kernel, rfl, by decide +kernel, am_gm (List.mem_of_getElem? (i := 599) rfl) rfl, am_gm (List.mem_of_getElem? (i := 50) rfl) rfl, ⟨am_gm (List.mem_of_getElem? (i := 597) rfl) rfl, am_gm (List.mem_of_getElem? (i := 598) rfl) rfl, by decide +kernel⟩⟩
set_option maxRecDepth 100000 in
theorem am_g85 : am_good 85 am_m85 := ⟨9, by decide, rfl, rfl, by decide +kernel, rfl, by decide +kernel, am_gm (List.mem_of_getElem? (i := 604) rfl) rfl, am_gm (List.mem_of_getElem? (i := 42) rfl) rfl, ⟨am_gm (List.mem_of_getElem? (i := 602) rfl) rfl, am_gm (List.mem_of_getElem? (i := 603) rfl) rfl, by decide +kernel⟩⟩
set_option maxRecDepth 100000 in
theorem am_g86 : am_good 86 am_m86 := ⟨2, by decide, rfl, rfl, by decide +kernel, rfl, by decide +kernel, am_gm (List.mem_of_getElem? (i := 608) rfl) rfl, am_gm (List.mem_of_getElem? (i := 50) rfl) rfl, ⟨am_gm (List.mem_of_getElem? (i := 606) rfl) rfl, am_gm (List.mem_of_getElem? (i := 607) rfl) rfl, by decide +kernel⟩⟩
set_option maxRecDepth 100000 in
theorem am_g87 : am_good 87 am_m87 := ⟨9, by decide, rfl, rfl, by decide +kernel, rfl, by decide +kernel, am_gm (List.mem_of_getElem? (i := 612) rfl) rfl, am_gm (List.mem_of_getElem? (i := 42) rfl) rfl, ⟨am_gm (List.mem_of_getElem? (i := 610) rfl) rfl, am_gm (List.mem_of_getElem? (i := 611) rfl) rfl, by decide +kernel⟩⟩
set_option maxRecDepth 100000 in
theorem am_g88 : am_good 88 am_m88 := ⟨2, by decide, rfl, rfl, by decide +kernel, rfl, by decide +kernel, am_gm (List.mem_of_getElem? (i := 616) rfl) rfl, am_gm (List.mem_of_getElem? (i := 50) rfl) rfl, ⟨am_gm (List.mem_of_getElem? (i := 614) rfl) rfl, am_gm (List.mem_of_getElem? (i := 615) rfl) rfl, by decide +kernel⟩⟩
set_option maxRecDepth 100000 in
theorem am_g89 : am_good 89 am_m89 := ⟨2, by decide, rfl, rfl, by decide +kernel, rfl, by decide +kernel, am_gm (List.mem_of_getElem? (i := 620) rfl) rfl, am_gm (List.mem_of_getElem? (i := 50) rfl) rfl, ⟨am_gm (List.mem_of_getElem? (i := 619) rfl) rfl, am_gm (List.mem_of_getElem? (i := 11) rfl) rfl, by decide +kernel⟩⟩
set_option maxRecDepth 100000 in
theorem am_g90 : am_good 90 am_m90 := ⟨9, by decide, rfl, rfl, by decide +kernel, rfl, by decide +kernel, am_gm (List.mem_of_getElem? (i := 627) rfl) rfl, am_gm (List.mem_of_getElem? (i := 42) rfl) rfl, ⟨am_gm (List.mem_of_getElem? (i := 625) rfl) rfl, am_gm (List.mem_of_getElem? (i := 626) rfl) rfl, by decide +kernel⟩⟩
end
section
set_option maxRecDepth 100000 in
theorem am_g91 : am_good 91 am_m91 := ⟨2, by decide, rfl, rfl, by decide +kernel, rfl, by decide +kernel, am_gm (List.mem_of_getElem? (i := 631) rfl) rfl, am_gm (List.mem_of_getElem? (i := 50) rfl) rfl, ⟨am_gm (List.mem_of_getElem? (i := 629) rfl) rfl, am_gm (List.mem_of_getElem? (i := 630) rfl) rfl, by decide +kernel⟩⟩
set_option maxRecDepth 100000 in
theorem am_g92 : am_good 92 am_m92 := ⟨9, by decide, rfl, rfl, by decide +kernel, rfl, by decide +kernel, am_gm (List.mem_of_getElem? (i := 637) rfl) rfl, am_gm (List.mem_of_getElem? (i := 42) rfl) rfl, ⟨am_gm (List.mem_of_getElem? (i := 635) rfl) rfl, am_gm (List.mem_of_getElem? (i := 636) rfl) rfl, by decide +kernel⟩⟩
set_option maxRecDepth 100000 in
theorem am_g93 : am_good 93 am_m93 := ⟨4, by decide, rfl, rfl, by decide +kernel, rfl, by decide +kernel, am_gm (List.mem_of_getElem? (i := 641) rfl) rfl, am_gm (List.mem_of_getElem? (i := 51) rfl) rfl, ⟨am_gm (List.mem_of_getElem? (i := 639) rfl) rfl, am_gm (List.mem_of_getElem? (i := 640) rfl) rfl, by decide +kernel⟩⟩
set_option maxRecDepth 100000 in
theorem am_g94 : am_good 94 am_m94 := ⟨4, by decide, rfl, rfl, by decide +kernel, rfl, by decide +kernel, am_gm (List.mem_of_getElem? (i := 647) rfl) rfl, am_gm (List.mem_of_getElem? (i := 51) rfl) rfl, ⟨am_gm (List.mem_of_getElem? (i := 645) rfl) rfl, am_gm (List.mem_of_getElem? (i := 646) rfl) rfl, by decide +kernel⟩⟩
set_option maxRecDepth 100000 in
theorem am_g95 : am_good 95 am_m95 := ⟨4, by decide, rfl, rfl, by decide +kernel, rfl, by decide +kernel, am_gm (List.mem_of_getElem? (i := 651) rfl) rfl, am_gm (List.mem_of_getElem? (i := 51) rfl) rfl, ⟨am_gm (List.mem_of_getElem? (i := 650) rfl) rfl, am_gm (List.mem_of_getElem? (i := 12) rfl) rfl, by decide +kernel⟩⟩
set_option maxRecDepth 100000 in
theorem am_g96 : am_good 96 am_m96 := ⟨4, by decide, rfl, rfl, by decide +kernel, rfl, by decide +kernel, am_gm (List.mem_of_getElem? (i := 655) rfl) rfl, am_gm (List.mem_of_getElem? (i := 51) rfl) rfl, ⟨am_gm (List.mem_of_getElem? (i := 654) rfl) rfl, am_gm (List.mem_of_getElem? (i := 13) rfl) rfl, by decide +kernel⟩⟩
set_option maxRecDepth 100000 in
theorem am_g97 : am_good 97 am_m97 := ⟨4, by decide, rfl, rfl, by decide +kernel, rfl, by decide +kernel, am_gm (List.mem_of_getElem? (i := 659) rfl) rfl, am_gm (List.mem_of_getElem? (i := 51) rfl) rfl, ⟨am_gm (List.mem_of_getElem? (i := 658) rfl) rfl, am_gm (List.mem_of_getElem? (i := 14) rfl) rfl, by decide +kernel⟩⟩
set_option maxRecDepth 100000 in
theorem am_g98 : am_good 98 am_m98 := ⟨4, by decide, rfl, rfl, by decide +kernel, rfl, by decide +kernel, am_gm (List.mem_of_getElem? (i := 663) rfl) rfl, am_gm (List.mem_of_getElem? (i := 51) rfl) rfl, ⟨am_gm (List.mem_of_getElem? (i := 662) rfl) rfl, am_gm (List.mem_of_getElem? (i := 15) rfl) rfl, by decide +kernel⟩⟩
set_option maxRecDepth 100000 in
theorem am_g99 : am_good 99 am_m99 := ⟨4, by decide, rfl, rfl, by decide +kernel, rfl, by decide +kernel, am_gm (List.mem_of_getElem? (i := 667) rfl) rfl, am_gm (List.mem_of_getElem? (i := 51) rfl) rfl, ⟨am_gm (List.mem_of_getElem? (i := 666) rfl) rfl, am_gm (List.mem_of_getElem? (i := 16) rfl) rfl, by decide +kernel⟩⟩
set_option maxRecDepth 100000 in
theorem am_g100 : am_good 100 am_m100 := ⟨4, by decide, rfl, rfl, by decide +kernel, rfl, by decide +kernel, am_gm (List.mem_of_getElem? (i := 671) rfl) rfl, am_gm (List.mem_of_getElem? (i := 51) rfl) rfl, ⟨am_gm (List.mem_of_getElem? (i := 669) rfl) rfl, am_gm (List.mem_of_getElem? (i := 670) rfl) rfl, by decide +kernel⟩⟩
set_option maxRecDepth 100000 in
theorem am_g101 : am_good 101 am_m101 := ⟨9, by decide, rfl, rfl, by decide +kernel, rfl, by decide +kernel, am_gm (List.mem_of_getElem? (i := 675) rfl) rfl, am_gm (List.mem_of_getElem? (i := 42) rfl) rfl, ⟨am_gm (List.mem_of_getElem? (i := 673) rfl) rfl, am_gm (List.mem_of_getElem? (i := 674) rfl) rfl, by decide +kernel⟩⟩
set_option maxRecDepth 100000 in
theorem am_g102 : am_good 102 am_m102 := ⟨7, by decide, rfl, rfl, by decide +kernel, rfl, by decide +kernel, am_gm (List.mem_of_getElem? (i := 679) rfl) rfl, am_gm (List.mem_of_getElem? (i := 52) rfl) rfl, ⟨am_gm (List.mem_of_getElem? (i := 677) rfl) rfl, am_gm (List.mem_of_getElem? (i := 678) rfl) rfl, by decide +kernel⟩⟩
set_option maxRecDepth 100000 in
theorem am_g103 : am_good 103 am_m103 := ⟨7, by decide, rfl, rfl, by decide +kernel, rfl, by decide +kernel, am_gm (List.mem_of_getElem? (i := 683) rfl) rfl, am_gm (List.mem_of_getElem? (i := 52) rfl) rfl, ⟨am_gm (List.mem_of_getElem? (i := 682) rfl) rfl, am_gm (List.mem_of_getElem? (i := 17) rfl) rfl, by decide +kernel⟩⟩
set_option maxRecDepth 100000 in
theorem am_g104 : am_good 104 am_m104 := ⟨7, by decide, rfl, rfl, by decide +kernel, rfl, by decide +kernel, am_gm (List.mem_of_getElem? (i := 690) rfl) rfl, am_gm (List.mem_of_getElem? (i := 52) rfl) rfl, ⟨am_gm (List.mem_of_getElem? (i := 689) rfl) rfl, am_gm (List.mem_of_getElem? (i := 18) rfl) rfl, by decide +kernel⟩⟩
set_option maxRecDepth 100000 in
theorem am_g105 : am_good 105 am_m105 := ⟨7, by decide, rfl, rfl, by decide +kernel, rfl, by decide +kernel, am_gm (List.mem_of_getElem? (i := 696) rfl) rfl, am_gm (List.mem_of_getElem? (i := 52) rfl) rfl, ⟨am_gm (List.mem_of_getElem? (i := 695) rfl) rfl, am_gm (List.mem_of_getElem? (i := 19) rfl) rfl, by decide +kernel⟩⟩
set_option maxRecDepth 100000 in
theorem am_g106 : am_good 106 am_m106 := ⟨7, by decide, rfl, rfl, by decide +kernel, rfl, by decide +kernel, am_gm (List.mem_of_getElem? (i := 704) rfl) rfl, am_gm (List.mem_of_getElem? (i := 52) rfl) rfl, ⟨am_gm (List.mem_of_getElem? (i := 702) rfl) rfl, am_gm (List.mem_of_getElem? (i := 703) rfl) rfl, by decide +kernel⟩⟩
set_option maxRecDepth 100000 in
theorem am_g107 : am_good 107 am_m107 := ⟨7, by decide, rfl, rfl, by decide +kernel, rfl, by decide +kernel, am_gm (List.mem_of_getElem? (i := 708) rfl) rfl, am_gm (List.mem_of_getElem? (i := 52) rfl) rfl, ⟨am_gm (List.mem_of_getElem? (i := 707) rfl) rfl, am_gm (List.mem_of_getElem? (i := 20) rfl) rfl, by decide +kernel⟩⟩
set_option maxRecDepth 100000 in
theorem am_g108 : am_good 108 am_m108 := ⟨4, by decide, rfl, rfl, by decide +kernel, rfl, by decide +kernel, am_gm (List.mem_of_getElem? (i := 712) rfl) rfl, am_gm (List.mem_of_getElem? (i := 51) rfl) rfl, ⟨am_gm (List.mem_of_getElem? (i := 710) rfl) rfl, am_gm (List.mem_of_getElem? (i := 711) rfl) rfl, by decide +kernel⟩⟩
set_option maxRecDepth 100000 in
theorem am_g109 : am_good 109 am_m109 := ⟨4, by decide, rfl, rfl, by decide +kernel, rfl, by decide +kernel, am_gm (List.mem_of_getElem? (i := 716) rfl) rfl, am_gm (List.mem_of_getElem? (i := 51) rfl) rfl, ⟨am_gm (List.mem_of_getElem? (i := 715) rfl) rfl, am_gm (List.mem_of_getElem? (i := 21) rfl) rfl, by decide +kernel⟩⟩
set_option maxRecDepth 100000 in
theorem am_g110 : am_good 110 am_m110 := ⟨7, by decide, rfl, rfl, by decide +kernel, rfl, by decide +kernel, am_gm (List.mem_of_getElem? (i := 720) rfl) rfl, am_gm (List.mem_of_getElem? (i := 52) rfl) rfl, ⟨am_gm (List.mem_of_getElem? (i := 719) rfl) rfl, am_gm (List.mem_of_getElem? (i := 22) rfl) rfl, by decide +kernel⟩⟩
set_option maxRecDepth 100000 in
theorem am_g111 : am_good 111 am_m111 := ⟨7, by decide, rfl, rfl, by decide +kernel, rfl, by decide +kernel, am_gm (List.mem_of_getElem? (i := 724) rfl) rfl, am_gm (List.mem_of_getElem? (i := 52) rfl) rfl, ⟨am_gm (List.mem_of_getElem? (i := 722) rfl) rfl, am_gm (List.mem_of_getElem? (i := 723) rfl) rfl, by decide +kernel⟩⟩
set_option maxRecDepth 100000 in
theorem am_g112 : am_good 112 am_m112 := ⟨7, by decide, rfl, rfl, by decide +kernel, rfl, by decide +kernel, am_gm (List.mem_of_getElem? (i := 728) rfl) rfl, am_gm (List.mem_of_getElem? (i := 52) rfl) rfl, ⟨am_gm (List.mem_of_getElem? (i := 727) rfl) rfl, am_gm (List.mem_of_getElem? (i := 23) rfl) rfl, by decide +kernel⟩⟩
set_option maxRecDepth 100000 in
theorem am_g113 : am_good 113 am_m113 := ⟨7, by decide, rfl, rfl, by decide +kernel, rfl, by decide +kernel, am_gm (List.mem_of_getElem? (i := 733) rfl) rfl, am_gm (List.mem_of_getElem? (i := 52) rfl) rfl, ⟨am_gm (List.mem_of_getElem? (i := 732) rfl) rfl, am_gm (List.mem_of_getElem? (i := 24) rfl) rfl, by decide +kernel⟩⟩
set_option maxRecDepth 100000 in
theorem am_g114 : am_good 114 am_m114 := ⟨9, by decide, rfl, rfl, by decide +kernel, rfl, by decide +kernel, am_gm (List.mem_of_getElem? (i := 739) rfl) rfl, am_gm (List.mem_of_getElem? (i := 42) rfl) rfl, ⟨am_gm (List.mem_of_getElem? (i := 737) rfl) rfl, am_gm (List.mem_of_getElem? (i := 738) rfl) rfl, by decide +kernel⟩⟩
set_option maxRecDepth 100000 in
theorem am_g115 : am_good 115 am_m115 := ⟨9, by decide, rfl, rfl, by decide +kernel, rfl, by decide +kernel, am_gm (List.mem_of_getElem? (i := 743) rfl) rfl, am_gm (List.mem_of_getElem? (i := 42) rfl) rfl, ⟨am_gm (List.mem_of_getElem? (i := 741) rfl) rfl, am_gm (List.mem_of_getElem? (i := 742) rfl) rfl, by decide +kernel⟩⟩
set_option maxRecDepth 100000 in
theorem am_g116 : am_good 116 am_m116 := ⟨7, by decide, rfl, rfl, by decide +kernel, rfl, by decide +kernel, am_gm (List.mem_of_getElem? (i := 747) rfl) rfl, am_gm (List.mem_of_getElem? (i := 52) rfl) rfl, ⟨am_gm (List.mem_of_getElem? (i := 745) rfl) rfl, am_gm (List.mem_of_getElem? (i := 746) rfl) rfl, by decide +kernel⟩⟩
set_option maxRecDepth 100000 in
theorem am_g117 : am_good 117 am_m117 := ⟨7, by decide, rfl, rfl, by decide +kernel, rfl, by decide +kernel, am_gm (List.mem_of_getElem? (i := 751) rfl) rfl, am_gm (List.mem_of_getElem? (i := 52) rfl) rfl, ⟨am_gm (List.mem_of_getElem? (i := 750) rfl) rfl, am_gm (List.mem_of_getElem? (i := 25) rfl) rfl, by decide +kernel⟩⟩
set_option maxRecDepth 100000 in
theorem am_g118 : am_good 118 am_m118 := ⟨7, by decide, rfl, rfl, by decide +kernel, rfl, by decide +kernel, am_gm (List.mem_of_getElem? (i := 754) rfl) rfl, am_gm (List.mem_of_getElem? (i := 52) rfl) rfl, ⟨am_gm (List.mem_of_getElem? (i := 753) rfl) rfl, by decide +kernel⟩⟩
set_option maxRecDepth 100000 in
theorem am_g119 : am_good 119 am_m119 := ⟨7, by decide, rfl, rfl, by decide +kernel, rfl, by decide +kernel, am_gm (List.mem_of_getElem? (i := 763) rfl) rfl, am_gm (List.mem_of_getElem? (i := 52) rfl) rfl, ⟨am_gm (List.mem_of_getElem? (i := 762) rfl) rfl, am_gm (List.mem_of_getElem? (i := 26) rfl) rfl, by decide +kernel⟩⟩
set_option maxRecDepth 100000 in
theorem am_g120 : am_good 120 am_m120 := ⟨9, by decide, rfl, rfl, by decide +kernel, rfl, by decide +kernel, am_gm (List.mem_of_getElem? (i := 768) rfl) rfl, am_gm (List.mem_of_getElem? (i := 42) rfl) rfl, ⟨am_gm (List.mem_of_getElem? (i := 766) rfl) rfl, am_gm (List.mem_of_getElem? (i := 767) rfl) rfl, by decide +kernel⟩⟩
set_option maxRecDepth 100000 in
theorem am_g121 : am_good 121 am_m121 := ⟨7, by decide, rfl, rfl, by decide +kernel, rfl, by decide +kernel, am_gm (List.mem_of_getElem? (i := 776) rfl) rfl, am_gm (List.mem_of_getElem? (i := 52) rfl) rfl, ⟨am_gm (List.mem_of_getElem? (i := 774) rfl) rfl, am_gm (List.mem_of_getElem? (i := 775) rfl) rfl, by decide +kernel⟩⟩
set_option maxRecDepth 100000 in
theorem am_g122 : am_good 122 am_m122 := ⟨7, by decide, rfl, rfl, by decide +kernel, rfl, by decide +kernel, am_gm (List.mem_of_getElem? (i := 781) rfl) rfl, am_gm (List.mem_of_getElem? (i := 52) rfl) rfl, ⟨am_gm (List.mem_of_getElem? (i := 779) rfl) rfl, am_gm (List.mem_of_getElem? (i := 780) rfl) rfl, by decide +kernel⟩⟩
set_option maxRecDepth 100000 in
theorem am_g123 : am_good 123 am_m123 := ⟨9, by decide, rfl, rfl, by decide +kernel, rfl, by decide +kernel, am_gm (List.mem_of_getElem? (i := 785) rfl) rfl, am_gm (List.mem_of_getElem? (i := 42) rfl) rfl, ⟨am_gm (List.mem_of_getElem? (i := 783) rfl) rfl, am_gm (List.mem_of_getElem? (i := 784) rfl) rfl, by decide +kernel⟩⟩
set_option maxRecDepth 100000 in
theorem am_g124 : am_good 124 am_m124 := ⟨7, by decide, rfl, rfl, by decide +kernel, rfl, by decide +kernel, am_gm (List.mem_of_getElem? (i := 789) rfl) rfl, am_gm (List.mem_of_getElem? (i := 52) rfl) rfl, ⟨am_gm (List.mem_of_getElem? (i := 787) rfl) rfl, am_gm (List.mem_of_getElem? (i := 788) rfl) rfl, by decide +kernel⟩⟩
set_option maxRecDepth 100000 in
theorem am_g125 : am_good 125 am_m125 := ⟨9, by decide, rfl, rfl, by decide +kernel, rfl, by decide +kernel, am_gm (List.mem_of_getElem? (i := 793) rfl) rfl, am_gm (List.mem_of_getElem? (i := 42) rfl) rfl, ⟨am_gm (List.mem_of_getElem? (i := 792) rfl) rfl, am_gm (List.mem_of_getElem? (i := 28) rfl) rfl, by decide +kernel⟩⟩
set_option maxRecDepth 100000 in
theorem am_g126 : am_good 126 am_m126 := ⟨9, by decide, rfl, rfl, by decide +kernel, rfl, by decide +kernel, am_gm (List.mem_of_getElem? (i := 796) rfl) rfl, am_gm (List.mem_of_getElem? (i := 42) rfl) rfl, ⟨am_gm (List.mem_of_getElem? (i := 795) rfl) rfl, by decide +kernel⟩⟩
set_option maxRecDepth 100000 in
theorem am_g127 : am_good 127 am_m127 := ⟨9, by decide, rfl, rfl, by decide +kernel, rfl, by decide +kernel, am_gm (List.mem_of_getElem? (i := 800) rfl) rfl, am_gm (List.mem_of_getElem? (i := 42) rfl) rfl, ⟨am_gm (List.mem_of_getElem? (i := 798) rfl) rfl, am_gm (List.mem_of_getElem? (i := 799) rfl) rfl, by decide +kernel⟩⟩
set_option maxRecDepth 100000 in
theorem am_g128 : am_good 128 am_m128 := ⟨9, by decide, rfl, rfl, by decide +kernel, rfl, by decide +kernel, am_gm (List.mem_of_getElem? (i := 806) rfl) rfl, am_gm (List.mem_of_getElem? (i := 42) rfl) rfl, ⟨am_gm (List.mem_of_getElem? (i := 804) rfl) rfl, am_gm (List.mem_of_getElem? (i := 805) rfl) rfl, by decide +kernel⟩⟩
set_option maxRecDepth 100000 in
theorem am_g129 : am_good 129 am_m129 := ⟨7, by decide, rfl, rfl, by decide +kernel, rfl, by decide +kernel, am_gm (List.mem_of_getElem? (i := 810) rfl) rfl, am_gm (List.mem_of_getElem? (i := 52) rfl) rfl, ⟨am_gm (List.mem_of_getElem? (i := 808) rfl) rfl, am_gm (List.mem_of_getElem? (i := 809) rfl) rfl, by decide +kernel⟩⟩
set_option maxRecDepth 100000 in
theorem am_g130 : am_good 130 am_m130 := ⟨9, by decide, rfl, rfl, by decide +kernel, rfl, by decide +kernel, am_gm (List.mem_of_getElem? (i := 814) rfl) rfl, am_gm (List.mem_of_getElem? (i := 42) rfl) rfl, ⟨am_gm (List.mem_of_getElem? (i := 812) rfl) rfl, am_gm (List.mem_of_getElem? (i := 813) rfl) rfl, by decide +kernel⟩⟩
set_option maxRecDepth 100000 in
theorem am_g131 : am_good 131 am_m131 := ⟨5, by decide, rfl, rfl, by decide +kernel, rfl, by decide +kernel, am_gm (List.mem_of_getElem? (i := 818) rfl) rfl, am_gm (List.mem_of_getElem? (i := 53) rfl) rfl, ⟨am_gm (List.mem_of_getElem? (i := 816) rfl) rfl, am_gm (List.mem_of_getElem? (i := 817) rfl) rfl, by decide +kernel⟩⟩
set_option maxRecDepth 100000 in
theorem am_g132 : am_good 132 am_m132 := ⟨9, by decide, rfl, rfl, by decide +kernel, rfl, by decide +kernel, am_gm (List.mem_of_getElem? (i := 469) rfl) rfl, am_gm (List.mem_of_getElem? (i := 42) rfl) rfl, ⟨am_gm (List.mem_of_getElem? (i := 468) rfl) rfl, by decide +kernel⟩⟩
set_option maxRecDepth 100000 in
theorem am_g133 : am_good 133 am_m133 := ⟨9, by decide, rfl, rfl, by decide +kernel, rfl, by decide +kernel, am_gm (List.mem_of_getElem? (i := 469) rfl) rfl, am_gm (List.mem_of_getElem? (i := 42) rfl) rfl, ⟨am_gm (List.mem_of_getElem? (i := 468) rfl) rfl, by decide +kernel⟩⟩
set_option maxRecDepth 100000 in
theorem am_g134 : am_good 134 am_m134 := ⟨9, by decide, rfl, rfl, by decide +kernel, rfl, by decide +kernel, am_gm (List.mem_of_getElem? (i := 469) rfl) rfl, am_gm (List.mem_of_getElem? (i := 42) rfl) rfl, ⟨am_gm (List.mem_of_getElem? (i := 468) rfl) rfl, by decide +kernel⟩⟩
set_option maxRecDepth 100000 in
theorem am_g135 : am_good 135 am_m135 := ⟨9, by decide, rfl, rfl, by decide +kernel, rfl, by decide +kernel, am_gm (List.mem_of_getElem? (i := 469) rfl) rfl, am_gm (List.mem_of_getElem? (i := 42) rfl) rfl, ⟨am_gm (List.mem_of_getElem? (i := 468) rfl) rfl, by decide +kernel⟩⟩
set_option maxRecDepth 100000 in
theorem am_g136 : am_good 136 am_m136 := ⟨9, by decide, rfl, rfl, by decide +kernel, rfl, by decide +kernel, am_gm (List.mem_of_getElem? (i := 469) rfl) rfl, am_gm (List.mem_of_getElem? (i := 42) rfl) rfl, ⟨am_gm (List.mem_of_getElem? (i := 468) rfl) rfl, by decide +kernel⟩⟩
set_option maxRecDepth 100000 in
theorem am_g137 : am_good 137 am_m137 := ⟨9, by decide, rfl, rfl, by decide +kernel, rfl, by decide +kernel, am_gm (List.mem_of_getElem? (i := 469) rfl) rfl, am_gm (List.mem_of_getElem? (i := 42) rfl) rfl, ⟨am_gm (List.mem_of_getElem? (i := 468) rfl) rfl, by decide +kernel⟩⟩
set_option maxRecDepth 100000 in
theorem am_g138 : am_good 138 am_m138 := ⟨5, by decide, rfl, rfl, by decide +kernel, rfl, by decide +kernel, am_gm (List.mem_of_getElem? (i := 826) rfl) rfl, am_gm (List.mem_of_getElem? (i := 53) rfl) rfl, ⟨am_gm (List.mem_of_getElem? (i := 824) rfl) rfl, am_gm (List.mem_of_getElem? (i := 825) rfl) rfl, by decide +kernel⟩⟩
set_option maxRecDepth 100000 in
theorem am_g139 : am_good 139 am_m139 := ⟨5, by decide, rfl, rfl, by decide +kernel, rfl, by decide +kernel, am_gm (List.mem_of_getElem? (i := 831) rfl) rfl, am_gm (List.mem_of_getElem? (i := 53) rfl) rfl, ⟨am_gm (List.mem_of_getElem? (i := 830) rfl) rfl, am_gm (List.mem_of_getElem? (i := 29) rfl) rfl, by decide +kernel⟩⟩
set_option maxRecDepth 100000 in
theorem am_g140 : am_good 140 am_m140 := ⟨5, by decide, rfl, rfl, by decide +kernel, rfl, by decide +kernel, am_gm (List.mem_of_getElem? (i := 835) rfl) rfl, am_gm (List.mem_of_getElem? (i := 53) rfl) rfl, ⟨am_gm (List.mem_of_getElem? (i := 834) rfl) rfl, am_gm (List.mem_of_getElem? (i := 30) rfl) rfl, by decide +kernel⟩⟩
set_option maxRecDepth 100000 in
theorem am_g141 : am_good 141 am_m141 := ⟨5, by decide, rfl, rfl, by decide +kernel, rfl, by decide +kernel, am_gm (List.mem_of_getElem? (i := 839) rfl) rfl, am_gm (List.mem_of_getElem? (i := 53) rfl) rfl, ⟨am_gm (List.mem_of_getElem? (i := 838) rfl) rfl, am_gm (List.mem_of_getElem? (i := 31) rfl) rfl, by decide +kernel⟩⟩
set_option maxRecDepth 100000 in
theorem am_g142 : am_good 142 am_m142 := ⟨5, by decide, rfl, rfl, by decide +kernel, rfl, by decide +kernel, am_gm (List.mem_of_getElem? (i := 843) rfl) rfl, am_gm (List.mem_of_getElem? (i := 53) rfl) rfl, ⟨am_gm (List.mem_of_getElem? (i := 842) rfl) rfl, am_gm (List.mem_of_getElem? (i := 32) rfl) rfl, by decide +kernel⟩⟩
set_option maxRecDepth 100000 in
theorem am_g143 : am_good 143 am_m143 := ⟨9, by decide, rfl, rfl, by decide +kernel, rfl, by decide +kernel, am_gm (List.mem_of_getElem? (i := 822) rfl) rfl, am_gm (List.mem_of_getElem? (i := 42) rfl) rfl, ⟨am_gm (List.mem_of_getElem? (i := 820) rfl) rfl, am_gm (List.mem_of_getElem? (i := 821) rfl) rfl, by decide +kernel⟩⟩
set_option maxRecDepth 100000 in
theorem am_g144 : am_good 144 am_m144 := ⟨5, by decide, rfl, rfl, by decide +kernel, rfl, by decide +kernel, am_gm (List.mem_of_getElem? (i := 847) rfl) rfl, am_gm (List.mem_of_getElem? (i := 53) rfl) rfl, ⟨am_gm (List.mem_of_getElem? (i := 845) rfl) rfl, am_gm (List.mem_of_getElem? (i := 846) rfl) rfl, by decide +kernel⟩⟩
set_option maxRecDepth 100000 in
theorem am_g145 : am_good 145 am_m145 := ⟨9, by decide, rfl, rfl, by decide +kernel, rfl, by decide +kernel, am_gm (List.mem_of_getElem? (i := 469) rfl) rfl, am_gm (List.mem_of_getElem? (i := 42) rfl) rfl, ⟨am_gm (List.mem_of_getElem? (i := 468) rfl) rfl, by decide +kernel⟩⟩
set_option maxRecDepth 100000 in
theorem am_g146 : am_good 146 am_m146 := ⟨9, by decide, rfl, rfl, by decide +kernel, rfl, by decide +kernel, am_gm (List.mem_of_getElem? (i := 469) rfl) rfl, am_gm (List.mem_of_getElem? (i := 42) rfl) rfl, ⟨am_gm (List.mem_of_getElem? (i := 468) rfl) rfl, by decide +kernel⟩⟩
set_option maxRecDepth 100000 in
theorem am_g147 : am_good 147 am_m147 := ⟨9, by decide, rfl, rfl, by decide +kernel, rfl, by decide +kernel, am_gm (List.mem_of_getElem? (i := 469) rfl) rfl, am_gm (List.mem_of_getElem? (i := 42) rfl) rfl, ⟨am_gm (List.mem_of_getElem? (i := 468) rfl) rfl, by decide +kernel⟩⟩
set_option maxRecDepth 100000 in
theorem am_g148 : am_good 148 am_m148 := ⟨9, by decide, rfl, rfl, by decide +kernel, rfl, by decide +kernel, am_gm (List.mem_of_getElem? (i := 469) rfl) rfl, am_gm (List.mem_of_getElem? (i := 42) rfl) rfl, ⟨am_gm (List.mem_of_getElem? (i := 468) rfl) rfl, by decide +kernel⟩⟩
set_option maxRecDepth 100000 in
theorem am_g149 : am_good 149 am_m149 := ⟨9, by decide, rfl, rfl, by decide +kernel, rfl, by decide +kernel, am_gm (List.mem_of_getElem? (i := 469) rfl) rfl, am_gm (List.mem_of_getElem? (i := 42) rfl) rfl, ⟨am_gm (List.mem_of_getElem? (i := 468) rfl) rfl, by decide +kernel⟩⟩
set_option maxRecDepth 100000 in
theorem am_g150 : am_good 150 am_m150 := ⟨9, by decide, rfl, rfl, by decide +kernel, rfl, by decide +kernel, am_gm (List.mem_of_getElem? (i := 469) rfl) rfl, am_gm (List.mem_of_getElem? (i := 42) rfl) rfl, ⟨am_gm (List.mem_of_getElem? (i := 468) rfl) rfl, by decide +kernel⟩⟩
set_option maxRecDepth 100000 in
theorem am_g151 : am_good 151 am_m151 := ⟨9, by decide, rfl, rfl, by decide +kernel, rfl, by decide +kernel, am_gm (List.mem_of_getElem? (i := 469) rfl) rfl, am_gm (List.mem_of_getElem? (i := 42) rfl) rfl, ⟨am_gm (List.mem_of_getElem? (i := 468) rfl) rfl, by decide +kernel⟩⟩
set_option maxRecDepth 100000 in
theorem am_g152 : am_good 152 am_m152 := ⟨9, by decide, rfl, rfl, by decide +kernel, rfl, by decide +kernel, am_gm (List.mem_of_getElem? (i := 852) rfl) rfl, am_gm (List.mem_of_getElem? (i := 42) rfl) rfl, ⟨am_gm (List.mem_of_getElem? (i := 850) rfl) rfl, am_gm (List.mem_of_getElem? (i := 851) rfl) rfl, by decide +kernel⟩⟩
set_option maxRecDepth 100000 in
theorem am_g153 : am_good 153 am_m153 := ⟨2, by decide, rfl, rfl, by decide +kernel, rfl, by decide +kernel, am_gm (List.mem_of_getElem? (i := 856) rfl) rfl, am_gm (List.mem_of_getElem? (i := 50) rfl) rfl, ⟨am_gm (List.mem_of_getElem? (i := 854) rfl) rfl, am_gm (List.mem_of_getElem? (i := 855) rfl) rfl, by decide +kernel⟩⟩
set_option maxRecDepth 100000 in
theorem am_g154 : am_good 154 am_m154 := ⟨9, by decide, rfl, rfl, by decide +kernel, rfl, by decide +kernel, am_gm (List.mem_of_getElem? (i := 860) rfl) rfl, am_gm (List.mem_of_getElem? (i := 42) rfl) rfl, ⟨am_gm (List.mem_of_getElem? (i := 858) rfl) rfl, am_gm (List.mem_of_getElem? (i := 859) rfl) rfl, by decide +kernel⟩⟩
set_option maxRecDepth 100000 in
theorem am_g155 : am_good 155 am_m155 := ⟨2, by decide, rfl, rfl, by decide +kernel, rfl, by decide +kernel, am_gm (List.mem_of_getElem? (i := 864) rfl) rfl, am_gm (List.mem_of_getElem? (i := 50) rfl) rfl, ⟨am_gm (List.mem_of_getElem? (i := 862) rfl) rfl, am_gm (List.mem_of_getElem? (i := 863) rfl) rfl, by decide +kernel⟩⟩
set_option maxRecDepth 100000 in
theorem am_g156 : am_good 156 am_m156 := ⟨9, by decide, rfl, rfl, by decide +kernel, rfl, by decide +kernel, am_gm (List.mem_of_getElem? (i := 469) rfl) rfl, am_gm (List.mem_of_getElem? (i := 42) rfl) rfl, ⟨am_gm (List.mem_of_getElem? (i := 468) rfl) rfl, by decide +kernel⟩⟩
set_option maxRecDepth 100000 in
theorem am_g157 : am_good 157 am_m157 := ⟨9, by decide, rfl, rfl, by decide +kernel, rfl, by decide +kernel, am_gm (List.mem_of_getElem? (i := 469) rfl) rfl, am_gm (List.mem_of_getElem? (i := 42) rfl) rfl, ⟨am_gm (List.mem_of_getElem? (i := 468) rfl) rfl, by decide +kernel⟩⟩
set_option maxRecDepth 100000 in
theorem am_g158 : am_good 158 am_m158 := ⟨9, by decide, rfl, rfl, by decide +kernel, rfl, by decide +kernel, am_gm (List.mem_of_getElem? (i := 869) rfl) rfl, am_gm (List.mem_of_getElem? (i := 42) rfl) rfl, ⟨am_gm (List.mem_of_getElem? (i := 867) rfl) rfl, am_gm (List.mem_of_getElem? (i := 868) rfl) rfl, by decide +kernel⟩⟩
set_option maxRecDepth 100000 in
theorem am_g159 : am_good 159 am_m159 := ⟨9, by decide, rfl, rfl, by decide +kernel, rfl, by decide +kernel, am_gm (List.mem_of_getElem? (i := 873) rfl) rfl, am_gm (List.mem_of_getElem? (i := 42) rfl) rfl, ⟨am_gm (List.mem_of_getElem? (i := 871) rfl) rfl, am_gm (List.mem_of_getElem? (i := 872) rfl) rfl, by decide +kernel⟩⟩
set_option maxRecDepth 100000 in
theorem am_g160 : am_good 160 am_m160 := ⟨9, by decide, rfl, rfl, by decide +kernel, rfl, by decide +kernel, am_gm (List.mem_of_getElem? (i := 877) rfl) rfl, am_gm (List.mem_of_getElem? (i := 42) rfl) rfl, ⟨am_gm (List.mem_of_getElem? (i := 875) rfl) rfl, am_gm (List.mem_of_getElem? (i := 876) rfl) rfl, by decide +kernel⟩⟩
set_option maxRecDepth 100000 in
theorem am_g161 : am_good 161 am_m161 := ⟨9, by decide, rfl, rfl, by decide +kernel, rfl, by decide +kernel, am_gm (List.mem_of_getElem? (i := 881) rfl) rfl, am_gm (List.mem_of_getElem? (i := 42) rfl) rfl, ⟨am_gm (List.mem_of_getElem? (i := 879) rfl) rfl, am_gm (List.mem_of_getElem? (i := 880) rfl) rfl, by decide +kernel⟩⟩
set_option maxRecDepth 100000 in
theorem am_g162 : am_good 162 am_m162 := ⟨9, by decide, rfl, rfl, by decide +kernel, rfl, by decide +kernel, am_gm (List.mem_of_getElem? (i := 469) rfl) rfl, am_gm (List.mem_of_getElem? (i := 42) rfl) rfl, ⟨am_gm (List.mem_of_getElem? (i := 468) rfl) rfl, by decide +kernel⟩⟩
set_option maxRecDepth 100000 in
theorem am_g163 : am_good 163 am_m163 := ⟨9, by decide, rfl, rfl, by decide +kernel, rfl, by decide +kernel, am_gm (List.mem_of_getElem? (i := 469) rfl) rfl, am_gm (List.mem_of_getElem? (i := 42) rfl) rfl, ⟨am_gm (List.mem_of_getElem? (i := 468) rfl) rfl, by decide +kernel⟩⟩
set_option maxRecDepth 100000 in
theorem am_g164 : am_good 164 am_m164 := ⟨9, by decide, rfl, rfl, by decide +kernel, rfl, by decide +kernel, am_gm (List.mem_of_getElem? (i := 469) rfl) rfl, am_gm (List.mem_of_getElem? (i := 42) rfl) rfl, ⟨am_gm (List.mem_of_getElem? (i := 468) rfl) rfl, by decide +kernel⟩⟩
set_option maxRecDepth 100000 in
theorem am_g165 : am_good 165 am_m165 := ⟨9, by decide, rfl, rfl, by decide +kernel, rfl, by decide +kernel, am_gm (List.mem_of_getElem? (i := 469) rfl) rfl, am_gm (List.mem_of_getElem? (i := 42) rfl) rfl, ⟨am_gm (List.mem_of_getElem? (i := 468) rfl) rfl, by decide +kernel⟩⟩
set_option maxRecDepth 100000 in
theorem am_g166 : am_good 166 am_m166 := ⟨9, by decide, rfl, rfl, by decide +kernel, rfl, by decide +kernel, am_gm (List.mem_of_getElem? (i := 469) rfl) rfl, am_gm (List.mem_of_getElem? (i := 42) rfl) rfl, ⟨am_gm (List.mem_of_getElem? (i := 468) rfl) rfl, by decide +kernel⟩⟩
set_option maxRecDepth 100000 in
theorem am_g167 : am_good 167 am_m167 := ⟨9, by decide, rfl, rfl, by decide +kernel, rfl, by decide +kernel, am_gm (List.mem_of_getElem? (i := 469) rfl) rfl, am_gm (List.mem_of_getElem? (i := 42) rfl) rfl, ⟨am_gm (List.mem_of_getElem? (i := 468) rfl) rfl, by decide +kernel⟩⟩
set_option maxRecDepth 100000 in
theorem am_g168 : am_good 168 am_m168 := ⟨9, by decide, rfl, rfl, by decide +kernel, rfl, by decide +kernel, am_gm (List.mem_of_getElem? (i := 469) rfl) rfl, am_gm (List.mem_of_getElem? (i := 42) rfl) rfl, ⟨am_gm (List.mem_of_getElem? (i := 468) rfl) rfl, by decide +kernel⟩⟩
set_option maxRecDepth 100000 in
theorem am_g169 : am_good 169 am_m169 := ⟨9, by decide, rfl, rfl, by decide +kernel, rfl, by decide +kernel, am_gm (List.mem_of_getElem? (i := 469) rfl) rfl, am_gm (List.mem_of_getElem? (i := 42) rfl) rfl, ⟨am_gm (List.mem_of_getElem? (i := 468) rfl) rfl, by decide +kernel⟩⟩
set_option maxRecDepth 100000 in
theorem am_g170 : am_good 170 am_m170 := ⟨9, by decide, rfl, rfl, by decide +kernel, rfl, by decide +kernel, am_gm (List.mem_of_getElem? (i := 469) rfl) rfl, am_gm (List.mem_of_getElem? (i := 42) rfl) rfl, ⟨am_gm (List.mem_of_getElem? (i := 468) rfl) rfl, by decide +kernel⟩⟩
set_option maxRecDepth 100000 in
theorem am_g171 : am_good 171 am_m171 := ⟨9, by decide, rfl, rfl, by decide +kernel, rfl, by decide +kernel, am_gm (List.mem_of_getElem? (i := 469) rfl) rfl, am_gm (List.mem_of_getElem? (i := 42) rfl) rfl, ⟨am_gm (List.mem_of_getElem? (i := 468) rfl) rfl, by decide +kernel⟩⟩
set_option maxRecDepth 100000 in
theorem am_g172 : am_good 172 am_m172 := ⟨11, by decide, rfl, rfl, by decide +kernel, rfl, by decide +kernel, am_gm (List.mem_of_getElem? (i := 884) rfl) rfl, am_gm (List.mem_of_getElem? (i := 41) rfl) rfl, ⟨am_gm (List.mem_of_getElem? (i := 883) rfl) rfl, by decide +kernel⟩⟩
set_option maxRecDepth 100000 in
theorem am_g173 : am_good 173 am_m173 := ⟨11, by decide, rfl, rfl, by decide +kernel, rfl, by decide +kernel, am_gm (List.mem_of_getElem? (i := 888) rfl) rfl, am_gm (List.mem_of_getElem? (i := 41) rfl) rfl, ⟨am_gm (List.mem_of_getElem? (i := 887) rfl) rfl, by decide +kernel⟩⟩
set_option maxRecDepth 100000 in
theorem am_g174 : am_good 174 am_m174 := ⟨11, by decide, rfl, rfl, by decide +kernel, rfl, by decide +kernel, am_gm (List.mem_of_getElem? (i := 892) rfl) rfl, am_gm (List.mem_of_getElem? (i := 41) rfl) rfl, ⟨am_gm (List.mem_of_getElem? (i := 891) rfl) rfl, by decide +kernel⟩⟩
set_option maxRecDepth 100000 in
theorem am_g175 : am_good 175 am_m175 := ⟨11, by decide, rfl, rfl, by decide +kernel, rfl, by decide +kernel, am_gm (List.mem_of_getElem? (i := 895) rfl) rfl, am_gm (List.mem_of_getElem? (i := 41) rfl) rfl, ⟨am_gm (List.mem_of_getElem? (i := 894) rfl) rfl, by decide +kernel⟩⟩
set_option maxRecDepth 100000 in
theorem am_g176 : am_good 176 am_m176 := ⟨11, by decide, rfl, rfl, by decide +kernel, rfl, by decide +kernel, am_gm (List.mem_of_getElem? (i := 969) rfl) rfl, am_gm (List.mem_of_getElem? (i := 41) rfl) rfl, ⟨am_gm (List.mem_of_getElem? (i := 968) rfl) rfl, by decide +kernel⟩⟩
set_option maxRecDepth 100000 in
theorem am_g177 : am_good 177 am_m177 := ⟨11, by decide, rfl, rfl, by decide +kernel, rfl, by decide +kernel, am_gm (List.mem_of_getElem? (i := 972) rfl) rfl, am_gm (List.mem_of_getElem? (i := 41) rfl) rfl, ⟨am_gm (List.mem_of_getElem? (i := 971) rfl) rfl, by decide +kernel⟩⟩
set_option maxRecDepth 100000 in
theorem am_g178 : am_good 178 am_m178 := ⟨11, by decide, rfl, rfl, by decide +kernel, rfl, by decide +kernel, am_gm (List.mem_of_getElem? (i := 975) rfl) rfl, am_gm (List.mem_of_getElem? (i := 41) rfl) rfl, ⟨am_gm (List.mem_of_getElem? (i := 974) rfl) rfl, by decide +kernel⟩⟩
set_option maxRecDepth 100000 in
theorem am_gall : ∀ (j : Nat) (m : am_M), am_meths[j]? = some m → j ≠ 0 → am_good j m := by
  intro j m h hj
  match j with
  | 0 => exact absurd rfl hj
  | 1 => cases h; exact am_g1
  | 2 => cases h; exact am_g2
  | 3 => cases h; exact am_g3
  | 4 => cases h; exact am_g4
  | 5 => cases h; exact am_g5
  | 6 => cases h; exact am_g6
  | 7 => cases h; exact am_g7
  | 8 => cases h; exact am_g8
  | 9 => cases h; exact am_g9
  | 10 => cases h; exact am_g10
  | 11 => cases h; exact am_g11
  | 12 => cases h; exact am_g12
  | 13 => cases h; exact am_g13
  | 14 => cases h; exact am_g14
  | 15 => cases h; exact am_g15
  | 16 => cases h; exact am_g16
  | 17 => cases h; exact am_g17
  | 18 => cases h; exact am_g18
  | 19 => cases h; exact am_g19
  | 20 => cases h; exact am_g20
  | 21 => cases h; exact am_g21
  | 22 => cases h; exact am_g22
  | 23 => cases h; exact am_g23
  | 24 => cases h; exact am_g24
  | 25 => cases h; exact am_g25
  | 26 => cases h; exact am_g26
  | 27 => cases h; exact am_g27
  | 28 => cases h; exact am_g28
  | 29 => cases h; exact am_g29
  | 30 => cases h; exact am_g30
  | 31 => cases h; exact am_g31
  | 32 => cases h; exact am_g32
  | 33 => cases h; exact am_g33
  | 34 => cases h; exact am_g34
  | 35 => cases h; exact am_g35
  | 36 => cases h; exact am_g36
  | 37 => cases h; exact am_g37
  | 38 => cases h; exact am_g38
  | 39 => cases h; exact am_g39
  | 40 => cases h; exact am_g40
  | 41 => cases h; exact am_g41
  | 42 => cases h; exact am_g42
  | 43 => cases h; exact am_g43
  | 44 => cases h; exact am_g44
  | 45 => cases h; exact am_g45
  | 46 => cases h; exact am_g46
  | 47 => cases h; exact am_g47
  | 48 => cases h; exact am_g48
  | 49 => cases h; exact am_g49
  | 50 => cases h; exact am_g50
  | 51 => cases h; exact am_g51
  | 52 => cases h; exact am_g52
  | 53 => cases h; exact am_g53
  | 54 => cases h; exact am_g54
  | 55 => cases h; exact am_g55
  | 56 => cases h; exact am_g56
  | 57 => cases h; exact am_g57
  | 58 => cases h; exact am_g58
  | 59 => cases h; exact am_g59
  | 60 => cases h; exact am_g60
  | 61 => cases h; exact am_g61
  | 62 => cases h; exact am_g62
  | 63 => cases h; exact am_g63
  | 64 => cases h; exact am_g64
  | 65 => cases h; exact am_g65
  | 66 => cases h; exact am_g66
  | 67 => cases h; exact am_g67
  | 68 => cases h; exact am_g68
  | 69 => cases h; exact am_g69
  | 70 => cases h; exact am_g70
  | 71 => cases h; exact am_g71
  | 72 => cases h; exact am_g72
  | 73 => cases h; exact am_g73
  | 74 => cases h; exact am_g74
  | 75 => cases h; exact am_g75
  | 76 => cases h; exact am_g76
  | 77 => cases h; exact am_g77
  | 78 => cases h; exact am_g78
  | 79 => cases h; exact am_g79
  | 80 => cases h; exact am_g80
  | 81 => cases h; exact am_g81
  | 82 => cases h; exact am_g82
  | 83 => cases h; exact am_g83
  | 84 => cases h; exact am_g84
  | 85 => cases h; exact am_g85
  | 86 => cases h; exact am_g86
  | 87 => cases h; exact am_g87
  | 88 => cases h; exact am_g88
  | 89 => cases h; exact am_g89
  | 90 => cases h; exact am_g90
  | 91 => cases h; exact am_g91
  | 92 => cases h; exact am_g92
  | 93 => cases h; exact am_g93
  | 94 => cases h; exact am_g94
  | 95 => cases h; exact am_g95
  | 96 => cases h; exact am_g96
  | 97 => cases h; exact am_g97
  | 98 => cases h; exact am_g98
  | 99 => cases h; exact am_g99
  | 100 => cases h; exact am_g100
  | 101 => cases h; exact am_g101
  | 102 => cases h; exact am_g102
  | 103 => cases h; exact am_g103
  | 104 => cases h; exact am_g104
  | 105 => cases h; exact am_g105
  | 106 => cases h; exact am_g106
  | 107 => cases h; exact am_g107
  | 108 => cases h; exact am_g108
  | 109 => cases h; exact am_g109
  | 110 => cases h; exact am_g110
  | 111 => cases h; exact am_g111
  | 112 => cases h; exact am_g112
  | 113 => cases h; exact am_g113
  | 114 => cases h; exact am_g114
  | 115 => cases h; exact am_g115
  | 116 => cases h; exact am_g116
  | 117 => cases h; exact am_g117
  | 118 => cases h; exact am_g118
  | 119 => cases h; exact am_g119
  | 120 => cases h; exact am_g120
  | 121 => cases h; exact am_g121
  | 122 => cases h; exact am_g122
  | 123 => cases h; exact am_g123
  | 124 => cases h; exact am_g124
  | 125 => cases h; exact am_g125
  | 126 => cases h; exact am_g126
  | 127 => cases h; exact am_g127
  | 128 => cases h; exact am_g128
  | 129 => cases h; exact am_g129
  | 130 => cases h; exact am_g130
  | 131 => cases h; exact am_g131
  | 132 => cases h; exact am_g132
  | 133 => cases h; exact am_g133
  | 134 => cases h; exact am_g134
  | 135 => cases h; exact am_g135
  | 136 => cases h; exact am_g136
  | 137 => cases h; exact am_g137
  | 138 => cases h; exact am_g138
  | 139 => cases h; exact am_g139
  | 140 => cases h; exact am_g140
  | 141 => cases h; exact am_g141
  | 142 => cases h; exact am_g142
  | 143 => cases h; exact am_g143
  | 144 => cases h; exact am_g144
  | 145 => cases h; exact am_g145
  | 146 => cases h; exact am_g146
  | 147 => cases h; exact am_g147
  | 148 => cases h; exact am_g148
  | 149 => cases h; exact am_g149
  | 150 => cases h; exact am_g150
  | 151 => cases h; exact am_g151
  | 152 => cases h; exact am_g152
  | 153 => cases h; exact am_g153
  | 154 => cases h; exact am_g154
  | 155 => cases h; exact am_g155
  | 156 => cases h; exact am_g156
  | 157 => cases h; exact am_g157
  | 158 => cases h; exact am_g158
  | 159 => cases h; exact am_g159
  | 160 => cases h; exact am_g160
  | 161 => cases h; exact am_g161
  | 162 => cases h; exact am_g162
  | 163 => cases h; exact am_g163
  | 164 => cases h; exact am_g164
  | 165 => cases h; exact am_g165
  | 166 => cases h; exact am_g166
  | 167 => cases h; exact am_g167
  | 168 => cases h; exact am_g168
  | 169 => cases h; exact am_g169
  | 170 => cases h; exact am_g170
  | 171 => cases h; exact am_g171
  | 172 => cases h; exact am_g172
  | 173 => cases h; exact am_g173
  | 174 => cases h; exact am_g174
  | 175 => cases h; exact am_g175
  | 176 => cases h; exact am_g176
  | 177 => cases h; exact am_g177
  | 178 => cases h; exact am_g178
  | j + 179 => simp [am_meths] at h
end
section
def am_law_c (k pc : Nat) : Bool := am_chk 11 (am_m0.1.name == "<init>") 25 (some .boolean) 10 378 am_s0 code pc (am_b0.getD k [])
set_option maxRecDepth 100000 in
theorem am_g0_0 : am_law_c 0 0 = true := by decide +kernel
set_option maxRecDepth 100000 in
theorem am_g0_1 : am_law_c 1 60 = true := by decide +kernel
set_option maxRecDepth 100000 in
theorem am_g0_2 : am_law_c 2 77 = true := by decide +kernel
set_option maxRecDepth 100000 in
theorem am_g0_3 : am_law_c 3 86 = true := by decide +kernel
set_option maxRecDepth 100000 in
theorem am_g0_4 : am_law_c 4 103 = true := by decide +kernel
set_option maxRecDepth 100000 in
theorem am_g0_5 : am_law_c 5 291 = true := by decide +kernel
set_option maxRecDepth 100000 in
theorem am_g0_6 : am_law_c 6 293 = true := by decide +kernel
set_option maxRecDepth 100000 in
theorem am_g0_7 : am_law_c 7 358 = true := by decide +kernel
set_option maxRecDepth 100000 in
theorem am_g0_8 : am_law_c 8 359 = true := by decide +kernel
set_option maxRecDepth 100000 in
theorem am_g0_9 : am_law_c 9 373 = true := by decide +kernel
set_option maxRecDepth 100000 in
theorem am_g0_10 : am_law_c 10 374 = true := by decide +kernel
set_option maxRecDepth 100000 in
theorem am_g0_11 : am_law_c 11 405 = true := by decide +kernel
set_option maxRecDepth 100000 in
theorem am_g0_12 : am_law_c 12 406 = true := by decide +kernel
set_option maxRecDepth 100000 in
theorem am_g0_13 : am_law_c 13 410 = true := by decide +kernel
set_option maxRecDepth 100000 in
theorem am_g0_14 : am_law_c 14 412 = true := by decide +kernel
set_option maxRecDepth 100000 in
theorem am_g0_15 : am_law_c 15 506 = true := by decide +kernel
set_option maxRecDepth 100000 in
theorem am_g0_16 : am_law_c 16 508 = true := by decide +kernel
set_option maxRecDepth 100000 in
theorem am_g0_17 : am_law_c 17 511 = true := by decide +kernel
set_option maxRecDepth 100000 in
theorem am_g0_18 : am_law_c 18 513 = true := by decide +kernel
set_option maxRecDepth 100000 in
theorem am_g0_19 : am_law_c 19 519 = true := by decide +kernel
set_option maxRecDepth 100000 in
theorem am_g0_20 : am_law_c 20 522 = true := by decide +kernel
set_option maxRecDepth 100000 in
theorem am_g0_21 : am_law_c 21 590 = true := by decide +kernel
set_option maxRecDepth 100000 in
theorem am_g0_22 : am_law_c 22 592 = true := by decide +kernel
set_option maxRecDepth 100000 in
theorem am_g0_23 : am_law_c 23 595 = true := by decide +kernel
set_option maxRecDepth 100000 in
theorem am_g0_24 : am_law_c 24 636 = true := by decide +kernel
set_option maxRecDepth 100000 in
theorem am_g0_25 : am_law_c 25 638 = true := by decide +kernel
set_option maxRecDepth 100000 in
theorem am_g0_26 : am_law_c 26 644 = true := by decide +kernel
set_option maxRecDepth 100000 in
theorem am_g0_27 : am_law_c 27 650 = true := by decide +kernel
set_option maxRecDepth 100000 in
theorem am_g0_28 : am_law_c 28 672 = true := by decide +kernel
set_option maxRecDepth 100000 in
theorem am_g0_29 : am_law_c 29 673 = true := by decide +kernel
set_option maxRecDepth 100000 in
theorem am_g0_30 : am_law_c 30 684 = true := by decide +kernel
set_option maxRecDepth 100000 in
theorem am_g0_31 : am_law_c 31 685 = true := by decide +kernel
set_option maxRecDepth 100000 in
theorem am_g0_32 : am_law_c 32 690 = true := by decide +kernel
set_option maxRecDepth 100000 in
theorem am_g0_33 : am_law_c 33 699 = true := by decide +kernel
set_option maxRecDepth 100000 in
theorem am_g0_34 : am_law_c 34 741 = true := by decide +kernel
set_option maxRecDepth 100000 in
theorem am_g0_35 : am_law_c 35 807 = true := by decide +kernel
set_option maxRecDepth 100000 in
theorem am_g0_36 : am_law_c 36 820 = true := by decide +kernel
set_option maxRecDepth 100000 in
theorem am_g0_37 : am_law_c 37 822 = true := by decide +kernel
set_option maxRecDepth 100000 in
theorem am_g0_38 : am_law_c 38 828 = true := by decide +kernel
set_option maxRecDepth 100000 in
theorem am_g0_39 : am_law_c 39 842 = true := by decide +kernel
set_option maxRecDepth 100000 in
theorem am_g0_40 : am_law_c 40 915 = true := by decide +kernel
set_option maxRecDepth 100000 in
theorem am_g0_41 : am_law_c 41 971 = true := by decide +kernel
set_option maxRecDepth 100000 in
theorem am_g0_42 : am_law_c 42 994 = true := by decide +kernel
set_option maxRecDepth 100000 in
theorem am_g0_43 : am_law_c 43 996 = true := by decide +kernel
set_option maxRecDepth 100000 in
theorem am_g0_44 : am_law_c 44 1019 = true := by decide +kernel
set_option maxRecDepth 100000 in
theorem am_g0_45 : am_law_c 45 1034 = true := by decide +kernel
set_option maxRecDepth 100000 in
theorem am_g0_46 : am_law_c 46 1036 = true := by decide +kernel
set_option maxRecDepth 100000 in
theorem am_g0_47 : am_law_c 47 1052 = true := by decide +kernel
set_option maxRecDepth 100000 in
theorem am_g0_48 : am_law_c 48 1053 = true := by decide +kernel
set_option maxRecDepth 100000 in
theorem am_g0_49 : am_law_c 49 1058 = true := by decide +kernel
set_option maxRecDepth 100000 in
theorem am_g0_50 : am_law_c 50 1094 = true := by decide +kernel
set_option maxRecDepth 100000 in
theorem am_g0_51 : am_law_c 51 1095 = true := by decide +kernel
set_option maxRecDepth 100000 in
theorem am_g0_52 : am_law_c 52 1109 = true := by decide +kernel
set_option maxRecDepth 100000 in
theorem am_g0_53 : am_law_c 53 1110 = true := by decide +kernel
set_option maxRecDepth 100000 in
theorem am_g0_54 : am_law_c 54 1118 = true := by decide +kernel
set_option maxRecDepth 100000 in
theorem am_g0_55 : am_law_c 55 1156 = true := by decide +kernel
set_option maxRecDepth 100000 in
theorem am_g0_56 : am_law_c 56 1158 = true := by decide +kernel
set_option maxRecDepth 100000 in
theorem am_g0_57 : am_law_c 57 1181 = true := by decide +kernel
set_option maxRecDepth 100000 in
theorem am_g0_58 : am_law_c 58 1191 = true := by decide +kernel
set_option maxRecDepth 100000 in
theorem am_g0_59 : am_law_c 59 1210 = true := by decide +kernel
set_option maxRecDepth 100000 in
theorem am_g0_60 : am_law_c 60 1212 = true := by decide +kernel
set_option maxRecDepth 100000 in
theorem am_g0_61 : am_law_c 61 1236 = true := by decide +kernel
set_option maxRecDepth 100000 in
theorem am_g0_62 : am_law_c 62 1238 = true := by decide +kernel
set_option maxRecDepth 100000 in
theorem am_g0_63 : am_law_c 63 1260 = true := by decide +kernel
set_option maxRecDepth 100000 in
theorem am_g0_64 : am_law_c 64 1271 = true := by decide +kernel
set_option maxRecDepth 100000 in
theorem am_g0_65 : am_law_c 65 1273 = true := by decide +kernel
set_option maxRecDepth 100000 in
theorem am_g0_66 : am_law_c 66 1374 = true := by decide +kernel
set_option maxRecDepth 100000 in
theorem am_g0_67 : am_law_c 67 1375 = true := by decide +kernel
set_option maxRecDepth 100000 in
theorem am_g0 : ∀ (k pc : Nat), am_s0[k]? = some pc → am_law_c k pc = true := by
  intro k pc h
  match k with
  | 0 => cases h; exact am_g0_0
  | 1 => cases h; exact am_g0_1
  | 2 => cases h; exact am_g0_2
  | 3 => cases h; exact am_g0_3
  | 4 => cases h; exact am_g0_4
  | 5 => cases h; exact am_g0_5
  | 6 => cases h; exact am_g0_6
  | 7 => cases h; exact am_g0_7
  | 8 => cases h; exact am_g0_8
  | 9 => cases h; exact am_g0_9
  | 10 => cases h; exact am_g0_10
  | 11 => cases h; exact am_g0_11
  | 12 => cases h; exact am_g0_12
  | 13 => cases h; exact am_g0_13
  | 14 => cases h; exact am_g0_14
  | 15 => cases h; exact am_g0_15
  | 16 => cases h; exact am_g0_16
  | 17 => cases h; exact am_g0_17
  | 18 => cases h; exact am_g0_18
  | 19 => cases h; exact am_g0_19
  | 20 => cases h; exact am_g0_20
  | 21 => cases h; exact am_g0_21
  | 22 => cases h; exact am_g0_22
  | 23 => cases h; exact am_g0_23
  | 24 => cases h; exact am_g0_24
  | 25 => cases h; exact am_g0_25
  | 26 => cases h; exact am_g0_26
  | 27 => cases h; exact am_g0_27
  | 28 => cases h; exact am_g0_28
  | 29 => cases h; exact am_g0_29
  | 30 => cases h; exact am_g0_30
  | 31 => cases h; exact am_g0_31
  | 32 => cases h; exact am_g0_32
  | 33 => cases h; exact am_g0_33
  | 34 => cases h; exact am_g0_34
  | 35 => cases h; exact am_g0_35
  | 36 => cases h; exact am_g0_36
  | 37 => cases h; exact am_g0_37
  | 38 => cases h; exact am_g0_38
  | 39 => cases h; exact am_g0_39
  | 40 => cases h; exact am_g0_40
  | 41 => cases h; exact am_g0_41
  | 42 => cases h; exact am_g0_42
  | 43 => cases h; exact am_g0_43
  | 44 => cases h; exact am_g0_44
  | 45 => cases h; exact am_g0_45
  | 46 => cases h; exact am_g0_46
  | 47 => cases h; exact am_g0_47
  | 48 => cases h; exact am_g0_48
  | 49 => cases h; exact am_g0_49
  | 50 => cases h; exact am_g0_50
  | 51 => cases h; exact am_g0_51
  | 52 => cases h; exact am_g0_52
  | 53 => cases h; exact am_g0_53
  | 54 => cases h; exact am_g0_54
  | 55 => cases h; exact am_g0_55
  | 56 => cases h; exact am_g0_56
  | 57 => cases h; exact am_g0_57
  | 58 => cases h; exact am_g0_58
  | 59 => cases h; exact am_g0_59
  | 60 => cases h; exact am_g0_60
  | 61 => cases h; exact am_g0_61
  | 62 => cases h; exact am_g0_62
  | 63 => cases h; exact am_g0_63
  | 64 => cases h; exact am_g0_64
  | 65 => cases h; exact am_g0_65
  | 66 => cases h; exact am_g0_66
  | 67 => cases h; exact am_g0_67
  | k + 68 => simp [am_s0] at h
end
section
def am_mname (k : Nat) : MethodName := match k with
  | 0 => Jvm.Lib.Math.max.name
  | 1 => Jvm.Lib.Math.min.name
  | _ => Jvm.Lib.MathLoose.min_long.x
set_option maxRecDepth 100000 in
theorem am_FLk_b : (am_FL.all (fun e => decide (lw_tbl[e.2.2.2.2]? = some (Jvm.Cond.fieldLink (am_cn e.1) e.2.1 (am_Tt e.2.2.1 e.2.2.2.1).1 (am_Tt e.2.2.1 e.2.2.2.1).2.1 (am_Tt e.2.2.1 e.2.2.2.1).2.2.1)))) = true := by decide +kernel
theorem am_FLk : ∀ e ∈ am_FL, (Jvm.Cond.fieldLink (am_cn e.1) e.2.1 (am_Tt e.2.2.1 e.2.2.2.1).1 (am_Tt e.2.2.1 e.2.2.2.1).2.1 (am_Tt e.2.2.1 e.2.2.2.1).2.2.1) ∈ lw_gt := by
  intro e he
  exact am_gm (List.mem_of_getElem? (of_decide_eq_true (List.all_eq_true.mp am_FLk_b e he))) rfl
set_option maxRecDepth 100000 in
theorem am_MLk_b : (am_ML.all (fun e => decide (lw_tbl[e.2.2.2]? = some (Jvm.Cond.methodLink (am_cn e.1) e.2.1 (am_meths.getD e.2.2.1 am_m0).1)))) = true := by decide +kernel
theorem am_MLk : ∀ e ∈ am_ML, (Jvm.Cond.methodLink (am_cn e.1) e.2.1 (am_meths.getD e.2.2.1 am_m0).1) ∈ lw_gt := by
  intro e he
  exact am_gm (List.mem_of_getElem? (of_decide_eq_true (List.all_eq_true.mp am_MLk_b e he))) rfl
set_option maxRecDepth 100000 in
theorem am_OIk_b : (am_OI.all (fun e => decide (lw_tbl[e.2.2]? = some (Jvm.Cond.methodLink (am_cn e.1) e.2.1 Jvm.Lib.objectInit)))) = true := by decide +kernel
theorem am_OIk : ∀ e ∈ am_OI, (Jvm.Cond.methodLink (am_cn e.1) e.2.1 Jvm.Lib.objectInit) ∈ lw_gt := by
  intro e he
  exact am_gm (List.mem_of_getElem? (of_decide_eq_true (List.all_eq_true.mp am_OIk_b e he))) rfl
set_option maxRecDepth 100000 in
theorem am_ACk_b : (am_AC.all (fun e => decide (lw_tbl[e.2.2]? = some (Jvm.Cond.methodLink (am_cn e.1) e.2.1 arraycopyName)))) = true := by decide +kernel
theorem am_ACk : ∀ e ∈ am_AC, (Jvm.Cond.methodLink (am_cn e.1) e.2.1 arraycopyName) ∈ lw_gt := by
  intro e he
  exact am_gm (List.mem_of_getElem? (of_decide_eq_true (List.all_eq_true.mp am_ACk_b e he))) rfl
set_option maxRecDepth 100000 in
theorem am_MAk_b : (am_MA.all (fun e => decide (lw_tbl[e.2.2.2]? = some (Jvm.Cond.methodLink (am_cn e.1) e.2.1 (am_mname e.2.2.1))))) = true := by decide +kernel
theorem am_MAk : ∀ e ∈ am_MA, (Jvm.Cond.methodLink (am_cn e.1) e.2.1 (am_mname e.2.2.1)) ∈ lw_gt := by
  intro e he
  exact am_gm (List.mem_of_getElem? (of_decide_eq_true (List.all_eq_true.mp am_MAk_b e he))) rfl
set_option maxRecDepth 100000 in
theorem am_CTk_b : (am_CT.all (fun e => decide (lw_tbl[e.2.2.2]? = some (Jvm.Cond.constant (am_cn e.1) e.2.1 (Int32.ofInt e.2.2.1))))) = true := by decide +kernel
theorem am_CTk : ∀ e ∈ am_CT, (Jvm.Cond.constant (am_cn e.1) e.2.1 (Int32.ofInt e.2.2.1)) ∈ lw_gt := by
  intro e he
  exact am_gm (List.mem_of_getElem? (of_decide_eq_true (List.all_eq_true.mp am_CTk_b e he))) rfl
set_option maxRecDepth 100000 in
theorem am_CJk_b : (am_CJ.all (fun e => decide (lw_tbl[e.2.2.2]? = some (Jvm.Cond.constantLong (am_cn e.1) e.2.1 (Int64.ofInt e.2.2.1))))) = true := by decide +kernel
theorem am_CJk : ∀ e ∈ am_CJ, (Jvm.Cond.constantLong (am_cn e.1) e.2.1 (Int64.ofInt e.2.2.1)) ∈ lw_gt := by
  intro e he
  exact am_gm (List.mem_of_getElem? (of_decide_eq_true (List.all_eq_true.mp am_CJk_b e he))) rfl
set_option maxRecDepth 100000 in
theorem am_CKk_b : (am_CK.all (fun e => decide (lw_tbl[e.2.2.2]? = some (Jvm.Cond.classLink (am_cn e.1) e.2.1 (am_cn e.2.2.1))))) = true := by decide +kernel
theorem am_CKk : ∀ e ∈ am_CK, (Jvm.Cond.classLink (am_cn e.1) e.2.1 (am_cn e.2.2.1)) ∈ lw_gt := by
  intro e he
  exact am_gm (List.mem_of_getElem? (of_decide_eq_true (List.all_eq_true.mp am_CKk_b e he))) rfl
set_option maxRecDepth 100000 in
theorem am_in0 : ∀ w ∈ u_ws (am_cn 0) (am_Tt 0) (am_cN 0), w ∈ lw_gt := by
  intro w hw
  obtain ⟨k, hk, rfl⟩ := List.mem_map.mp hw
  have hk := List.mem_range.mp hk
  match k, hk with
  | 0, _ => exact am_gm (List.mem_of_getElem? (i := 218) rfl) rfl
  | 1, _ => exact am_gm (List.mem_of_getElem? (i := 220) rfl) rfl
  | 2, _ => exact am_gm (List.mem_of_getElem? (i := 222) rfl) rfl
  | 3, _ => exact am_gm (List.mem_of_getElem? (i := 224) rfl) rfl
  | 4, _ => exact am_gm (List.mem_of_getElem? (i := 226) rfl) rfl
  | 5, _ => exact am_gm (List.mem_of_getElem? (i := 228) rfl) rfl
  | 6, _ => exact am_gm (List.mem_of_getElem? (i := 230) rfl) rfl
  | 7, _ => exact am_gm (List.mem_of_getElem? (i := 232) rfl) rfl
  | 8, _ => exact am_gm (List.mem_of_getElem? (i := 234) rfl) rfl
  | 9, _ => exact am_gm (List.mem_of_getElem? (i := 236) rfl) rfl
  | k + 10, hk => exact absurd hk (by simp [am_cN])
theorem am_nm0 : ∀ a, a < am_cN 0 → ∀ b, b < am_cN 0 → a ≠ b → (am_Tt 0 a).2.1 ≠ (am_Tt 0 b).2.1 := by decide +kernel
theorem am_tk0 : ∀ k, k < am_cN 0 → parseFieldDescriptor (am_Tt 0 k).2.2.1 = some (am_fty 0 k) := by decide +kernel
theorem am_dc0 : ∀ k, k < am_cN 0 → (am_Tt 0 k).1 = am_cn 0 := by decide +kernel
set_option maxRecDepth 100000 in
theorem am_is0 : Jvm.Cond.instantiable (am_cn 0) (am_cN 0) ∈ lw_gt ∧ Jvm.Cond.initialized (am_cn 0) ∈ lw_gt := ⟨am_gm (List.mem_of_getElem? (i := 154) rfl) rfl, am_gm (List.mem_of_getElem? (i := 47) rfl) rfl⟩
set_option maxRecDepth 100000 in
theorem am_in1 : ∀ w ∈ u_ws (am_cn 1) (am_Tt 1) (am_cN 1), w ∈ lw_gt := by
  intro w hw
  obtain ⟨k, hk, rfl⟩ := List.mem_map.mp hw
  have hk := List.mem_range.mp hk
  match k, hk with
  | 0, _ => exact am_gm (List.mem_of_getElem? (i := 255) rfl) rfl
  | 1, _ => exact am_gm (List.mem_of_getElem? (i := 257) rfl) rfl
  | 2, _ => exact am_gm (List.mem_of_getElem? (i := 259) rfl) rfl
  | 3, _ => exact am_gm (List.mem_of_getElem? (i := 261) rfl) rfl
  | k + 4, hk => exact absurd hk (by simp [am_cN])
theorem am_nm1 : ∀ a, a < am_cN 1 → ∀ b, b < am_cN 1 → a ≠ b → (am_Tt 1 a).2.1 ≠ (am_Tt 1 b).2.1 := by decide +kernel
theorem am_tk1 : ∀ k, k < am_cN 1 → parseFieldDescriptor (am_Tt 1 k).2.2.1 = some (am_fty 1 k) := by decide +kernel
theorem am_dc1 : ∀ k, k < am_cN 1 → (am_Tt 1 k).1 = am_cn 1 := by decide +kernel
set_option maxRecDepth 100000 in
theorem am_is1 : Jvm.Cond.instantiable (am_cn 1) (am_cN 1) ∈ lw_gt ∧ Jvm.Cond.initialized (am_cn 1) ∈ lw_gt := ⟨am_gm (List.mem_of_getElem? (i := 240) rfl) rfl, am_gm (List.mem_of_getElem? (i := 49) rfl) rfl⟩
set_option maxRecDepth 100000 in
theorem am_in2 : ∀ w ∈ u_ws (am_cn 2) (am_Tt 2) (am_cN 2), w ∈ lw_gt := by
  intro w hw
  obtain ⟨k, hk, rfl⟩ := List.mem_map.mp hw
  have hk := List.mem_range.mp hk
  match k, hk with
  | 0, _ => exact am_gm (List.mem_of_getElem? (i := 273) rfl) rfl
  | 1, _ => exact am_gm (List.mem_of_getElem? (i := 275) rfl) rfl
  | 2, _ => exact am_gm (List.mem_of_getElem? (i := 277) rfl) rfl
  | k + 3, hk => exact absurd hk (by simp [am_cN])
theorem am_nm2 : ∀ a, a < am_cN 2 → ∀ b, b < am_cN 2 → a ≠ b → (am_Tt 2 a).2.1 ≠ (am_Tt 2 b).2.1 := by decide +kernel
theorem am_tk2 : ∀ k, k < am_cN 2 → parseFieldDescriptor (am_Tt 2 k).2.2.1 = some (am_fty 2 k) := by decide +kernel
theorem am_dc2 : ∀ k, k < am_cN 2 → (am_Tt 2 k).1 = am_cn 2 := by decide +kernel
set_option maxRecDepth 100000 in
theorem am_is2 : Jvm.Cond.instantiable (am_cn 2) (am_cN 2) ∈ lw_gt ∧ Jvm.Cond.initialized (am_cn 2) ∈ lw_gt := ⟨am_gm (List.mem_of_getElem? (i := 265) rfl) rfl, am_gm (List.mem_of_getElem? (i := 50) rfl) rfl⟩
set_option maxRecDepth 100000 in
theorem am_in3 : ∀ w ∈ u_ws (am_cn 3) (am_Tt 3) (am_cN 3), w ∈ lw_gt := by
  intro w hw
  obtain ⟨k, hk, rfl⟩ := List.mem_map.mp hw
  have hk := List.mem_range.mp hk
  match k, hk with
  | 0, _ => exact am_gm (List.mem_of_getElem? (i := 146) rfl) rfl
  | 1, _ => exact am_gm (List.mem_of_getElem? (i := 148) rfl) rfl
  | 2, _ => exact am_gm (List.mem_of_getElem? (i := 150) rfl) rfl
  | k + 3, hk => exact absurd hk (by simp [am_cN])
theorem am_nm3 : ∀ a, a < am_cN 3 → ∀ b, b < am_cN 3 → a ≠ b → (am_Tt 3 a).2.1 ≠ (am_Tt 3 b).2.1 := by decide +kernel
theorem am_tk3 : ∀ k, k < am_cN 3 → parseFieldDescriptor (am_Tt 3 k).2.2.1 = some (am_fty 3 k) := by decide +kernel
theorem am_dc3 : ∀ k, k < am_cN 3 → (am_Tt 3 k).1 = am_cn 3 := by decide +kernel
set_option maxRecDepth 100000 in
theorem am_is3 : Jvm.Cond.instantiable (am_cn 3) (am_cN 3) ∈ lw_gt ∧ Jvm.Cond.initialized (am_cn 3) ∈ lw_gt := ⟨am_gm (List.mem_of_getElem? (i := 118) rfl) rfl, am_gm (List.mem_of_getElem? (i := 45) rfl) rfl⟩
set_option maxRecDepth 100000 in
theorem am_in4 : ∀ w ∈ u_ws (am_cn 4) (am_Tt 4) (am_cN 4), w ∈ lw_gt := by
  intro w hw
  obtain ⟨k, hk, rfl⟩ := List.mem_map.mp hw
  have hk := List.mem_range.mp hk
  match k, hk with
  | 0, _ => exact am_gm (List.mem_of_getElem? (i := 291) rfl) rfl
  | 1, _ => exact am_gm (List.mem_of_getElem? (i := 293) rfl) rfl
  | 2, _ => exact am_gm (List.mem_of_getElem? (i := 295) rfl) rfl
  | 3, _ => exact am_gm (List.mem_of_getElem? (i := 297) rfl) rfl
  | 4, _ => exact am_gm (List.mem_of_getElem? (i := 299) rfl) rfl
  | k + 5, hk => exact absurd hk (by simp [am_cN])
theorem am_nm4 : ∀ a, a < am_cN 4 → ∀ b, b < am_cN 4 → a ≠ b → (am_Tt 4 a).2.1 ≠ (am_Tt 4 b).2.1 := by decide +kernel
theorem am_tk4 : ∀ k, k < am_cN 4 → parseFieldDescriptor (am_Tt 4 k).2.2.1 = some (am_fty 4 k) := by decide +kernel
theorem am_dc4 : ∀ k, k < am_cN 4 → (am_Tt 4 k).1 = am_cn 4 := by decide +kernel
set_option maxRecDepth 100000 in
theorem am_is4 : Jvm.Cond.instantiable (am_cn 4) (am_cN 4) ∈ lw_gt ∧ Jvm.Cond.initialized (am_cn 4) ∈ lw_gt := ⟨am_gm (List.mem_of_getElem? (i := 281) rfl) rfl, am_gm (List.mem_of_getElem? (i := 51) rfl) rfl⟩
set_option maxRecDepth 100000 in
theorem am_in5 : ∀ w ∈ u_ws (am_cn 5) (am_Tt 5) (am_cN 5), w ∈ lw_gt := by
  intro w hw
  obtain ⟨k, hk, rfl⟩ := List.mem_map.mp hw
  have hk := List.mem_range.mp hk
  match k, hk with
  | 0, _ => exact am_gm (List.mem_of_getElem? (i := 387) rfl) rfl
  | 1, _ => exact am_gm (List.mem_of_getElem? (i := 389) rfl) rfl
  | 2, _ => exact am_gm (List.mem_of_getElem? (i := 391) rfl) rfl
  | 3, _ => exact am_gm (List.mem_of_getElem? (i := 393) rfl) rfl
  | 4, _ => exact am_gm (List.mem_of_getElem? (i := 395) rfl) rfl
  | 5, _ => exact am_gm (List.mem_of_getElem? (i := 397) rfl) rfl
  | 6, _ => exact am_gm (List.mem_of_getElem? (i := 399) rfl) rfl
  | 7, _ => exact am_gm (List.mem_of_getElem? (i := 401) rfl) rfl
  | 8, _ => exact am_gm (List.mem_of_getElem? (i := 403) rfl) rfl
  | 9, _ => exact am_gm (List.mem_of_getElem? (i := 405) rfl) rfl
  | 10, _ => exact am_gm (List.mem_of_getElem? (i := 407) rfl) rfl
  | k + 11, hk => exact absurd hk (by simp [am_cN])
theorem am_nm5 : ∀ a, a < am_cN 5 → ∀ b, b < am_cN 5 → a ≠ b → (am_Tt 5 a).2.1 ≠ (am_Tt 5 b).2.1 := by decide +kernel
theorem am_tk5 : ∀ k, k < am_cN 5 → parseFieldDescriptor (am_Tt 5 k).2.2.1 = some (am_fty 5 k) := by decide +kernel
theorem am_dc5 : ∀ k, k < am_cN 5 → (am_Tt 5 k).1 = am_cn 5 := by decide +kernel
set_option maxRecDepth 100000 in
theorem am_is5 : Jvm.Cond.instantiable (am_cn 5) (am_cN 5) ∈ lw_gt ∧ Jvm.Cond.initialized (am_cn 5) ∈ lw_gt := ⟨am_gm (List.mem_of_getElem? (i := 370) rfl) rfl, am_gm (List.mem_of_getElem? (i := 53) rfl) rfl⟩
set_option maxRecDepth 100000 in
theorem am_in6 : ∀ w ∈ u_ws (am_cn 6) (am_Tt 6) (am_cN 6), w ∈ lw_gt := by
  intro w hw
  obtain ⟨k, hk, rfl⟩ := List.mem_map.mp hw
  have hk := List.mem_range.mp hk
  match k, hk with
  | 0, _ => exact am_gm (List.mem_of_getElem? (i := 135) rfl) rfl
  | 1, _ => exact am_gm (List.mem_of_getElem? (i := 137) rfl) rfl
  | k + 2, hk => exact absurd hk (by simp [am_cN])
theorem am_nm6 : ∀ a, a < am_cN 6 → ∀ b, b < am_cN 6 → a ≠ b → (am_Tt 6 a).2.1 ≠ (am_Tt 6 b).2.1 := by decide +kernel
theorem am_tk6 : ∀ k, k < am_cN 6 → parseFieldDescriptor (am_Tt 6 k).2.2.1 = some (am_fty 6 k) := by decide +kernel
theorem am_dc6 : ∀ k, k < am_cN 6 → (am_Tt 6 k).1 = am_cn 6 := by decide +kernel
set_option maxRecDepth 100000 in
theorem am_is6 : Jvm.Cond.instantiable (am_cn 6) (am_cN 6) ∈ lw_gt ∧ Jvm.Cond.initialized (am_cn 6) ∈ lw_gt := ⟨am_gm (List.mem_of_getElem? (i := 124) rfl) rfl, am_gm (List.mem_of_getElem? (i := 46) rfl) rfl⟩
set_option maxRecDepth 100000 in
theorem am_in7 : ∀ w ∈ u_ws (am_cn 7) (am_Tt 7) (am_cN 7), w ∈ lw_gt := by
  intro w hw
  obtain ⟨k, hk, rfl⟩ := List.mem_map.mp hw
  have hk := List.mem_range.mp hk
  match k, hk with
  | 0, _ => exact am_gm (List.mem_of_getElem? (i := 331) rfl) rfl
  | 1, _ => exact am_gm (List.mem_of_getElem? (i := 333) rfl) rfl
  | 2, _ => exact am_gm (List.mem_of_getElem? (i := 335) rfl) rfl
  | 3, _ => exact am_gm (List.mem_of_getElem? (i := 337) rfl) rfl
  | 4, _ => exact am_gm (List.mem_of_getElem? (i := 339) rfl) rfl
  | 5, _ => exact am_gm (List.mem_of_getElem? (i := 341) rfl) rfl
  | 6, _ => exact am_gm (List.mem_of_getElem? (i := 343) rfl) rfl
  | 7, _ => exact am_gm (List.mem_of_getElem? (i := 345) rfl) rfl
  | 8, _ => exact am_gm (List.mem_of_getElem? (i := 347) rfl) rfl
  | 9, _ => exact am_gm (List.mem_of_getElem? (i := 349) rfl) rfl
  | 10, _ => exact am_gm (List.mem_of_getElem? (i := 351) rfl) rfl
  | 11, _ => exact am_gm (List.mem_of_getElem? (i := 353) rfl) rfl
  | 12, _ => exact am_gm (List.mem_of_getElem? (i := 355) rfl) rfl
  | 13, _ => exact am_gm (List.mem_of_getElem? (i := 357) rfl) rfl
  | 14, _ => exact am_gm (List.mem_of_getElem? (i := 359) rfl) rfl
  | 15, _ => exact am_gm (List.mem_of_getElem? (i := 361) rfl) rfl
  | 16, _ => exact am_gm (List.mem_of_getElem? (i := 363) rfl) rfl
  | 17, _ => exact am_gm (List.mem_of_getElem? (i := 365) rfl) rfl
  | k + 18, hk => exact absurd hk (by simp [am_cN])
theorem am_nm7 : ∀ a, a < am_cN 7 → ∀ b, b < am_cN 7 → a ≠ b → (am_Tt 7 a).2.1 ≠ (am_Tt 7 b).2.1 := by decide +kernel
theorem am_tk7 : ∀ k, k < am_cN 7 → parseFieldDescriptor (am_Tt 7 k).2.2.1 = some (am_fty 7 k) := by decide +kernel
theorem am_dc7 : ∀ k, k < am_cN 7 → (am_Tt 7 k).1 = am_cn 7 := by decide +kernel
set_option maxRecDepth 100000 in
theorem am_is7 : Jvm.Cond.instantiable (am_cn 7) (am_cN 7) ∈ lw_gt ∧ Jvm.Cond.initialized (am_cn 7) ∈ lw_gt := ⟨am_gm (List.mem_of_getElem? (i := 305) rfl) rfl, am_gm (List.mem_of_getElem? (i := 52) rfl) rfl⟩
set_option maxRecDepth 100000 in
theorem am_in8 : ∀ w ∈ u_ws (am_cn 8) (am_Tt 8) (am_cN 8), w ∈ lw_gt := by
  intro w hw
  obtain ⟨k, hk, rfl⟩ := List.mem_map.mp hw
  have hk := List.mem_range.mp hk
  match k, hk with
  | 0, _ => exact am_gm (List.mem_of_getElem? (i := 103) rfl) rfl
  | 1, _ => exact am_gm (List.mem_of_getElem? (i := 105) rfl) rfl
  | 2, _ => exact am_gm (List.mem_of_getElem? (i := 107) rfl) rfl
  | 3, _ => exact am_gm (List.mem_of_getElem? (i := 109) rfl) rfl
  | 4, _ => exact am_gm (List.mem_of_getElem? (i := 111) rfl) rfl
  | 5, _ => exact am_gm (List.mem_of_getElem? (i := 113) rfl) rfl
  | k + 6, hk => exact absurd hk (by simp [am_cN])
theorem am_nm8 : ∀ a, a < am_cN 8 → ∀ b, b < am_cN 8 → a ≠ b → (am_Tt 8 a).2.1 ≠ (am_Tt 8 b).2.1 := by decide +kernel
theorem am_tk8 : ∀ k, k < am_cN 8 → parseFieldDescriptor (am_Tt 8 k).2.2.1 = some (am_fty 8 k) := by decide +kernel
theorem am_dc8 : ∀ k, k < am_cN 8 → (am_Tt 8 k).1 = am_cn 8 := by decide +kernel
set_option maxRecDepth 100000 in
theorem am_is8 : Jvm.Cond.instantiable (am_cn 8) (am_cN 8) ∈ lw_gt ∧ Jvm.Cond.initialized (am_cn 8) ∈ lw_gt := ⟨am_gm (List.mem_of_getElem? (i := 66) rfl) rfl, am_gm (List.mem_of_getElem? (i := 43) rfl) rfl⟩
set_option maxRecDepth 100000 in
theorem am_in9 : ∀ w ∈ u_ws (am_cn 9) (am_Tt 9) (am_cN 9), w ∈ lw_gt := by
  intro w hw
  obtain ⟨k, hk, rfl⟩ := List.mem_map.mp hw
  have hk := List.mem_range.mp hk
  match k, hk with
  | 0, _ => exact am_gm (List.mem_of_getElem? (i := 427) rfl) rfl
  | 1, _ => exact am_gm (List.mem_of_getElem? (i := 429) rfl) rfl
  | 2, _ => exact am_gm (List.mem_of_getElem? (i := 431) rfl) rfl
  | 3, _ => exact am_gm (List.mem_of_getElem? (i := 433) rfl) rfl
  | 4, _ => exact am_gm (List.mem_of_getElem? (i := 435) rfl) rfl
  | 5, _ => exact am_gm (List.mem_of_getElem? (i := 437) rfl) rfl
  | 6, _ => exact am_gm (List.mem_of_getElem? (i := 439) rfl) rfl
  | 7, _ => exact am_gm (List.mem_of_getElem? (i := 441) rfl) rfl
  | 8, _ => exact am_gm (List.mem_of_getElem? (i := 443) rfl) rfl
  | 9, _ => exact am_gm (List.mem_of_getElem? (i := 445) rfl) rfl
  | 10, _ => exact am_gm (List.mem_of_getElem? (i := 447) rfl) rfl
  | 11, _ => exact am_gm (List.mem_of_getElem? (i := 449) rfl) rfl
  | 12, _ => exact am_gm (List.mem_of_getElem? (i := 451) rfl) rfl
  | 13, _ => exact am_gm (List.mem_of_getElem? (i := 453) rfl) rfl
  | 14, _ => exact am_gm (List.mem_of_getElem? (i := 455) rfl) rfl
  | 15, _ => exact am_gm (List.mem_of_getElem? (i := 457) rfl) rfl
  | k + 16, hk => exact absurd hk (by simp [am_cN])
theorem am_nm9 : ∀ a, a < am_cN 9 → ∀ b, b < am_cN 9 → a ≠ b → (am_Tt 9 a).2.1 ≠ (am_Tt 9 b).2.1 := by decide +kernel
theorem am_tk9 : ∀ k, k < am_cN 9 → parseFieldDescriptor (am_Tt 9 k).2.2.1 = some (am_fty 9 k) := by decide +kernel
theorem am_dc9 : ∀ k, k < am_cN 9 → (am_Tt 9 k).1 = am_cn 9 := by decide +kernel
set_option maxRecDepth 100000 in
theorem am_is9 : Jvm.Cond.instantiable (am_cn 9) (am_cN 9) ∈ lw_gt ∧ Jvm.Cond.initialized (am_cn 9) ∈ lw_gt := ⟨am_gm (List.mem_of_getElem? (i := 56) rfl) rfl, am_gm (List.mem_of_getElem? (i := 42) rfl) rfl⟩
set_option maxRecDepth 100000 in
theorem am_in10 : ∀ w ∈ u_ws (am_cn 10) (am_Tt 10) (am_cN 10), w ∈ lw_gt := by
  intro w hw
  obtain ⟨k, hk, rfl⟩ := List.mem_map.mp hw
  have hk := List.mem_range.mp hk
  match k, hk with
  | 0, _ => exact am_gm (List.mem_of_getElem? (i := 427) rfl) rfl
  | 1, _ => exact am_gm (List.mem_of_getElem? (i := 429) rfl) rfl
  | 2, _ => exact am_gm (List.mem_of_getElem? (i := 431) rfl) rfl
  | 3, _ => exact am_gm (List.mem_of_getElem? (i := 433) rfl) rfl
  | 4, _ => exact am_gm (List.mem_of_getElem? (i := 435) rfl) rfl
  | 5, _ => exact am_gm (List.mem_of_getElem? (i := 437) rfl) rfl
  | 6, _ => exact am_gm (List.mem_of_getElem? (i := 439) rfl) rfl
  | 7, _ => exact am_gm (List.mem_of_getElem? (i := 441) rfl) rfl
  | 8, _ => exact am_gm (List.mem_of_getElem? (i := 443) rfl) rfl
  | 9, _ => exact am_gm (List.mem_of_getElem? (i := 445) rfl) rfl
  | 10, _ => exact am_gm (List.mem_of_getElem? (i := 447) rfl) rfl
  | 11, _ => exact am_gm (List.mem_of_getElem? (i := 449) rfl) rfl
  | 12, _ => exact am_gm (List.mem_of_getElem? (i := 451) rfl) rfl
  | 13, _ => exact am_gm (List.mem_of_getElem? (i := 453) rfl) rfl
  | 14, _ => exact am_gm (List.mem_of_getElem? (i := 455) rfl) rfl
  | 15, _ => exact am_gm (List.mem_of_getElem? (i := 457) rfl) rfl
  | k + 16, hk => exact absurd hk (by simp [am_cN])
theorem am_nm10 : ∀ a, a < am_cN 10 → ∀ b, b < am_cN 10 → a ≠ b → (am_Tt 10 a).2.1 ≠ (am_Tt 10 b).2.1 := by decide +kernel
theorem am_tk10 : ∀ k, k < am_cN 10 → parseFieldDescriptor (am_Tt 10 k).2.2.1 = some (am_fty 10 k) := by decide +kernel
theorem am_dc10 : ∀ k, k < am_cN 10 → (am_Tt 10 k).1 = am_cn 10 := by decide +kernel
set_option maxRecDepth 100000 in
theorem am_is10 : Jvm.Cond.instantiable (am_cn 10) (am_cN 10) ∈ lw_gt ∧ Jvm.Cond.initialized (am_cn 10) ∈ lw_gt := ⟨am_gm (List.mem_of_getElem? (i := 56) rfl) rfl, am_gm (List.mem_of_getElem? (i := 42) rfl) rfl⟩
theorem am_inA : ∀ c, c < 11 → ∀ w ∈ u_ws (am_cn c) (am_Tt c) (am_cN c), w ∈ lw_gt := by
  intro c hc
  match c, hc with
  | 0, _ => exact am_in0
  | 1, _ => exact am_in1
  | 2, _ => exact am_in2
  | 3, _ => exact am_in3
  | 4, _ => exact am_in4
  | 5, _ => exact am_in5
  | 6, _ => exact am_in6
  | 7, _ => exact am_in7
  | 8, _ => exact am_in8
  | 9, _ => exact am_in9
  | 10, _ => exact am_in10
  | c + 11, hc => exact absurd hc (by omega)
theorem am_nmA : ∀ c, c < 11 → ∀ a, a < am_cN c → ∀ b, b < am_cN c → a ≠ b → (am_Tt c a).2.1 ≠ (am_Tt c b).2.1 := by
  intro c hc
  match c, hc with
  | 0, _ => exact am_nm0
  | 1, _ => exact am_nm1
  | 2, _ => exact am_nm2
  | 3, _ => exact am_nm3
  | 4, _ => exact am_nm4
  | 5, _ => exact am_nm5
  | 6, _ => exact am_nm6
  | 7, _ => exact am_nm7
  | 8, _ => exact am_nm8
  | 9, _ => exact am_nm9
  | 10, _ => exact am_nm10
  | c + 11, hc => exact absurd hc (by omega)
theorem am_tkA : ∀ c, c < 11 → ∀ k, k < am_cN c → parseFieldDescriptor (am_Tt c k).2.2.1 = some (am_fty c k) := by
  intro c hc
  match c, hc with
  | 0, _ => exact am_tk0
  | 1, _ => exact am_tk1
  | 2, _ => exact am_tk2
  | 3, _ => exact am_tk3
  | 4, _ => exact am_tk4
  | 5, _ => exact am_tk5
  | 6, _ => exact am_tk6
  | 7, _ => exact am_tk7
  | 8, _ => exact am_tk8
  | 9, _ => exact am_tk9
  | 10, _ => exact am_tk10
  | c + 11, hc => exact absurd hc (by omega)
theorem am_dcA : ∀ c, c < 11 → ∀ k, k < am_cN c → (am_Tt c k).1 = am_cn c := by
  intro c hc
  match c, hc with
  | 0, _ => exact am_dc0
  | 1, _ => exact am_dc1
  | 2, _ => exact am_dc2
  | 3, _ => exact am_dc3
  | 4, _ => exact am_dc4
  | 5, _ => exact am_dc5
  | 6, _ => exact am_dc6
  | 7, _ => exact am_dc7
  | 8, _ => exact am_dc8
  | 9, _ => exact am_dc9
  | 10, _ => exact am_dc10
  | c + 11, hc => exact absurd hc (by omega)
theorem am_isA : ∀ c, c < 11 → Jvm.Cond.instantiable (am_cn c) (am_cN c) ∈ lw_gt ∧ Jvm.Cond.initialized (am_cn c) ∈ lw_gt := by
  intro c hc
  match c, hc with
  | 0, _ => exact am_is0
  | 1, _ => exact am_is1
  | 2, _ => exact am_is2
  | 3, _ => exact am_is3
  | 4, _ => exact am_is4
  | 5, _ => exact am_is5
  | 6, _ => exact am_is6
  | 7, _ => exact am_is7
  | 8, _ => exact am_is8
  | 9, _ => exact am_is9
  | 10, _ => exact am_is10
  | c + 11, hc => exact absurd hc (by omega)
theorem am_clA : ∀ c, c < 11 → am_cl[c]? = some (am_cn c, am_Tt c, am_cN c) := by
  intro c hc
  match c, hc with
  | 0, _ => rfl
  | 1, _ => rfl
  | 2, _ => rfl
  | 3, _ => rfl
  | 4, _ => rfl
  | 5, _ => rfl
  | 6, _ => rfl
  | 7, _ => rfl
  | 8, _ => rfl
  | 9, _ => rfl
  | 10, _ => rfl
  | c + 11, hc => exact absurd hc (by omega)
set_option maxRecDepth 100000 in
theorem am_aci : Jvm.Cond.arrayClass .int ∈ lw_gt ∧ Jvm.Cond.arrayClass .long ∈ lw_gt ∧ Jvm.Cond.arrayClass .byte ∈ lw_gt ∧ Jvm.Cond.arrayClass .boolean ∈ lw_gt := ⟨am_gm (List.mem_of_getElem? (i := 116) rfl) rfl, am_gm (List.mem_of_getElem? (i := 368) rfl) rfl, am_gm (List.mem_of_getElem? (i := 302) rfl) rfl, am_gm (List.mem_of_getElem? (i := 303) rfl) rfl⟩
set_option maxRecDepth 100000 in
theorem am_aco : Jvm.Cond.arrayOver (.object "WashLine$Strip") ∈ lw_tbl := List.mem_of_getElem? (i := 64) rfl
set_option maxRecDepth 100000 in
theorem am_maw : Jvm.Cond.initialized "java/lang/Math" ∈ lw_gt ∧ (Jvm.Cond.static Jvm.Lib.Math.max.name ∈ lw_gt ∧ Jvm.Cond.code Jvm.Lib.Math.max.name Jvm.Lib.Math.max.code 2 (some .int) ∈ lw_gt) ∧ (Jvm.Cond.static Jvm.Lib.Math.min.name ∈ lw_gt ∧ Jvm.Cond.code Jvm.Lib.Math.min.name Jvm.Lib.Math.min.code 2 (some .int) ∈ lw_gt) ∧ (Jvm.Cond.static Jvm.Lib.MathLoose.min_long.x ∈ lw_gt ∧ Jvm.Cond.code Jvm.Lib.MathLoose.min_long.x Jvm.Lib.MathLoose.min_long.code 4 (some .long) ∈ lw_gt) := ⟨am_gm (List.mem_of_getElem? (i := 54) rfl) rfl, ⟨am_gm (List.mem_of_getElem? (i := 622) rfl) rfl, am_gm (List.mem_of_getElem? (i := 623) rfl) rfl⟩, ⟨am_gm (List.mem_of_getElem? (i := 698) rfl) rfl, am_gm (List.mem_of_getElem? (i := 699) rfl) rfl⟩, ⟨am_gm (List.mem_of_getElem? (i := 757) rfl) rfl, am_gm (List.mem_of_getElem? (i := 758) rfl) rfl⟩⟩
set_option maxRecDepth 100000 in
theorem am_acw : Jvm.Cond.native arraycopyName ∈ lw_gt ∧ Jvm.Cond.static arraycopyName ∈ lw_gt ∧ Jvm.Cond.initialized "java/lang/System" ∈ lw_gt ∧ Jvm.Cond.instanceMethod Jvm.Lib.objectInit ∈ lw_gt ∧ Jvm.Cond.code Jvm.Lib.objectInit ⟨#[0xb1]⟩ 1 none ∈ lw_gt := ⟨am_gm (List.mem_of_getElem? (i := 179) rfl) rfl, am_gm (List.mem_of_getElem? (i := 178) rfl) rfl, am_gm (List.mem_of_getElem? (i := 48) rfl) rfl, am_gm (List.mem_of_getElem? (i := 61) rfl) rfl, am_gm (List.mem_of_getElem? (i := 62) rfl) rfl⟩
end
section
/-! NUMBERS OF THE SMALL MACHINE AGAINST THOSE OF THE LARGE ONE -/
def am_r32 (x : Int) : Prop := -2147483648 ≤ x ∧ x < 2147483648
def am_r64 (x : Int) : Prop := -9223372036854775808 ≤ x ∧ x < 9223372036854775808
theorem w32_rg (x : Int) : am_r32 (w32 x) := by
  unfold am_r32 w32
  have h1 := Int.le_bmod (x := x) (m := 4294967296) (by omega)
  have h2 := Int.bmod_lt (x := x) (m := 4294967296) (by omega)
  omega
theorem w64_rg (x : Int) : am_r64 (w64 x) := by
  unfold am_r64 w64
  have h1 := Int.le_bmod (x := x) (m := 18446744073709551616) (by omega)
  have h2 := Int.bmod_lt (x := x) (m := 18446744073709551616) (by omega)
  omega
theorem w8_rg (x : Int) : am_r32 (w8 x) := by
  unfold am_r32 w8
  have h1 := Int.le_bmod (x := x) (m := 256) (by omega)
  have h2 := Int.bmod_lt (x := x) (m := 256) (by omega)
  omega
theorem i32_id {x : Int} (h : am_r32 x) : (Int32.ofInt x).toInt = x := Int32.toInt_ofInt_of_le (by have := h.1; omega) (by have := h.2; omega)
theorem i64_id {x : Int} (h : am_r64 x) : (Int64.ofInt x).toInt = x := Int64.toInt_ofInt_of_le (by have := h.1; omega) (by have := h.2; omega)
theorem i32_rg (v : Int32) : am_r32 v.toInt := ⟨by have := v.le_toInt; omega, by have := v.toInt_lt; omega⟩
theorem i64_rg (v : Int64) : am_r64 v.toInt := ⟨by have := v.le_toInt; omega, by have := v.toInt_lt; omega⟩
theorem w32_of (x : Int) : Int32.ofInt (w32 x) = Int32.ofInt x := by
  apply Int32.toInt_inj.mp
  rw [Int32.toInt_ofInt, Int32.toInt_ofInt]
  show Int.bmod (Int.bmod x 4294967296) 4294967296 = Int.bmod x 4294967296
  exact Int.bmod_bmod
theorem w64_of (x : Int) : Int64.ofInt (w64 x) = Int64.ofInt x := by
  apply Int64.toInt_inj.mp
  rw [Int64.toInt_ofInt, Int64.toInt_ofInt]
  show Int.bmod (Int.bmod x 18446744073709551616) 18446744073709551616 = Int.bmod x 18446744073709551616
  exact Int.bmod_bmod
theorem w32_id {x : Int} (h : am_r32 x) : w32 x = x := by
  have e := w32_of x
  have := congrArg Int32.toInt e
  rwa [i32_id (w32_rg x), i32_id h] at this
theorem w64_id {x : Int} (h : am_r64 x) : w64 x = x := by
  have e := w64_of x
  have := congrArg Int64.toInt e
  rwa [i64_id (w64_rg x), i64_id h] at this
theorem of_toInt (v : Int32) : Int32.ofInt v.toInt = v := Int32.ofInt_toInt v
theorem e_add (x y : Int) : Int32.ofInt (w32 (x + y)) = Int32.ofInt x + Int32.ofInt y := by rw [w32_of, Int32.ofInt_add]
theorem e_sub (x y : Int) : Int32.ofInt (w32 (x - y)) = Int32.ofInt x - Int32.ofInt y := by rw [w32_of, Int32.ofInt_sub]
theorem e_mul (x y : Int) : Int32.ofInt (w32 (x * y)) = Int32.ofInt x * Int32.ofInt y := by rw [w32_of, Int32.ofInt_mul]
theorem e_ladd (x y : Int) : Int64.ofInt (w64 (x + y)) = Int64.ofInt x + Int64.ofInt y := by rw [w64_of, Int64.ofInt_add]
theorem e_lmul (x y : Int) : Int64.ofInt (w64 (x * y)) = Int64.ofInt x * Int64.ofInt y := by rw [w64_of, Int64.ofInt_mul]
theorem e_div {x y : Int} (hx : am_r32 x) (hy : am_r32 y) : Int32.ofInt (w32 (Int.tdiv x y)) = Int32.ofInt x / Int32.ofInt y := by
  apply Int32.toInt_inj.mp
  rw [Int32.toInt_div, i32_id hx, i32_id hy, i32_id (w32_rg _)]
  rfl
theorem e_ldiv {x y : Int} (hx : am_r64 x) (hy : am_r64 y) : Int64.ofInt (w64 (Int.tdiv x y)) = Int64.ofInt x / Int64.ofInt y := by
  apply Int64.toInt_inj.mp
  rw [Int64.toInt_div, i64_id hx, i64_id hy, i64_id (w64_rg _)]
  rfl
theorem tmod_eq (x y : Int) : Int.tmod x y = x - Int.tdiv x y * y := by
  have := Int.tmod_add_mul_tdiv x y
  rw [Int.mul_comm] at this
  omega
theorem e_rem {x y : Int} (hx : am_r32 x) (hy : am_r32 y) : Int32.ofInt (Int.tmod x y) = Int32.ofInt x - Int32.ofInt x / Int32.ofInt y * Int32.ofInt y := by
  rw [tmod_eq, Int32.ofInt_sub, Int32.ofInt_mul, ← e_div hx hy, w32_of]
theorem e_lrem {x y : Int} (hx : am_r64 x) (hy : am_r64 y) : Int64.ofInt (Int.tmod x y) = Int64.ofInt x - Int64.ofInt x / Int64.ofInt y * Int64.ofInt y := by
  rw [tmod_eq, Int64.ofInt_sub, Int64.ofInt_mul, ← e_ldiv hx hy, w64_of]
theorem tmod_rg {x y m : Int} (h1 : -m ≤ x) (h2 : x < m) : -m ≤ Int.tmod x y ∧ Int.tmod x y < m := by
  have h3 : (Int.tmod x y).natAbs ≤ x.natAbs := by
    rw [Int.natAbs_tmod]
    exact Nat.mod_le _ _
  rcases Int.le_total 0 x with h | h
  · have a := Int.tmod_nonneg y h
    omega
  · have a : 0 ≤ Int.tmod (-x) y := Int.tmod_nonneg y (by omega)
    rw [Int.neg_tmod] at a
    omega
theorem i32_ne {y : Int} (hy : am_r32 y) (h : y ≠ 0) : ¬ Int32.ofInt y = 0 := by
  intro e
  have := congrArg Int32.toInt e
  rw [i32_id hy] at this
  exact h this
theorem i64_ne {y : Int} (hy : am_r64 y) (h : y ≠ 0) : ¬ Int64.ofInt y = 0 := by
  intro e
  have := congrArg Int64.toInt e
  rw [i64_id hy] at this
  exact h this
theorem i32_lt {x y : Int} (hx : am_r32 x) (hy : am_r32 y) : Int32.ofInt x < Int32.ofInt y ↔ x < y := by rw [Int32.lt_iff_toInt_lt, i32_id hx, i32_id hy]
theorem i32_le {x y : Int} (hx : am_r32 x) (hy : am_r32 y) : Int32.ofInt x ≤ Int32.ofInt y ↔ x ≤ y := by rw [Int32.le_iff_toInt_le, i32_id hx, i32_id hy]
theorem i32_eq {x y : Int} (hx : am_r32 x) (hy : am_r32 y) : Int32.ofInt x = Int32.ofInt y ↔ x = y := by rw [← Int32.toInt_inj, i32_id hx, i32_id hy]
theorem i64_lt {x y : Int} (hx : am_r64 x) (hy : am_r64 y) : Int64.ofInt x < Int64.ofInt y ↔ x < y := by rw [Int64.lt_iff_toInt_lt, i64_id hx, i64_id hy]
theorem i64_eq {x y : Int} (hx : am_r64 x) (hy : am_r64 y) : Int64.ofInt x = Int64.ofInt y ↔ x = y := by rw [← Int64.toInt_inj, i64_id hx, i64_id hy]
theorem r32_0 : am_r32 0 := by unfold am_r32; omega
theorem i32_clamp {x : Int} (hx : am_r32 x) : (Int32.ofInt x).toNatClampNeg = x.toNat := by
  show (Int32.ofInt x).toInt.toNat = x.toNat
  rw [i32_id hx]
theorem e_cmp {x y : Int} (hx : am_r64 x) (hy : am_r64 y) : lg_cmp (Int64.ofInt x) (Int64.ofInt y) = Int32.ofInt (a_cmp x y) := by
  unfold lg_cmp a_cmp
  simp only [gt_iff_lt, i64_lt hy hx, i64_eq hx hy]
  split
  · rfl
  · split <;> rfl
theorem a_cmp_rg (x y : Int) : am_r32 (a_cmp x y) := by
  unfold a_cmp am_r32
  split
  · omega
  · split <;> omega
theorem e_i2l {x : Int} (hx : am_r32 x) : (Int32.ofInt x).toInt64 = Int64.ofInt x := by
  apply Int64.toInt_inj.mp
  rw [Int32.toInt_toInt64, i32_id hx, i64_id (by unfold am_r32 at hx; unfold am_r64; omega)]
theorem e_l2i {x : Int} (hx : am_r64 x) : (Int64.ofInt x).toInt32 = Int32.ofInt (w32 x) := by
  apply Int32.toInt_inj.mp
  rw [Int64.toInt_toInt32, i64_id hx, i32_id (w32_rg x)]
  rfl
theorem e_i2b {x : Int} (hx : am_r32 x) : (Int32.ofInt x).toInt8.toInt32 = Int32.ofInt (w8 x) := by
  apply Int32.toInt_inj.mp
  rw [Int8.toInt_toInt32, Int32.toInt_toInt8, i32_id hx, i32_id (w8_rg x)]
  rfl
def am_rg (v : am_V) : Prop := match v with
  | .inl x => am_r32 x
  | .inr (.inl x) => am_r64 x
  | _ => True
/-- where the cells lie: z the heap's size at the law's start, w the static table's place, b the script's -/
def am_ad (z w b a : Nat) : Nat := if a = 0 then w else if a = 1 then b else z + (a - 2)
def am_tv (z w b : Nat) (v : am_V) : Value := match v with
  | .inl x => .int (Int32.ofInt x)
  | .inr (.inl x) => .long (Int64.ofInt x)
  | .inr (.inr none) => .null
  | .inr (.inr (some a)) => .ref (am_ad z w b a)
def am_t2 (z w b : Nat) (q : Nat × am_V) : Nat × Value := (q.1, am_tv z w b q.2)
theorem am_tv_cat (z w b : Nat) (v : am_V) : (am_tv z w b v).category = am_cat v := by
  rcases v with x | x | _ | a <;> rfl
theorem am_two_cat (z w b : Nat) (v : am_V) : ((am_tv z w b v).category == 2) = am_two v := by
  rcases v with x | x | _ | a <;> rfl
theorem lget_mem {l : am_Lc} {i : Nat} {v : am_V} (h : lget l i = some v) : (i, v) ∈ l := by
  induction l with
  | nil => cases h
  | cons q l ih =>
    unfold lget at h
    split at h
    · rename_i e
      cases h
      subst e
      exact List.mem_cons_self
    · exact List.mem_cons_of_mem _ (ih h)
theorem lget_has {z w b : Nat} {ls : Array Slot} {nL : Nat} {l : am_Lc} {i : Nat} {v : am_V} (hl : lv_has ls nL (l.map (am_t2 z w b))) (h : lget l i = some v) : ls[i]? = some (.val (am_tv z w b v)) :=
  hl.2.2 (i, am_tv z w b v) (List.mem_map.mpr ⟨(i, v), lget_mem h, rfl⟩)
theorem lget_pos {z w b : Nat} {l : am_Lc} {i : Nat} {v : am_V} (h : lget l i = some v) : ∃ k : Nat, (l.map (am_t2 z w b))[k]? = some (i, am_tv z w b v) := by
  obtain ⟨k, hk⟩ := List.getElem?_of_mem (lget_mem h)
  exact ⟨k, by rw [List.getElem?_map, hk]; rfl⟩
theorem lset1_map (z w b : Nat) (l : am_Lc) (i : Nat) (v : am_V) : (i, am_tv z w b v) :: (l.map (am_t2 z w b)).filter (fun q => !(q.1 == i) && !(q.1 + 1 == i && q.2.category == 2)) = (lset1 l i v).map (am_t2 z w b) := by
  unfold lset1
  rw [List.map_cons, List.filter_map]
  congr 2
  apply List.filter_congr
  intro q _
  show (!(q.1 == i) && !(q.1 + 1 == i && ((am_tv z w b q.2).category == 2))) = _
  rw [am_two_cat]
theorem lset2_map (z w b : Nat) (l : am_Lc) (i : Nat) (v : am_V) : (i, am_tv z w b v) :: (l.map (am_t2 z w b)).filter (fun q => !(q.1 == i) && (!(q.1 == i + 1) && !(q.1 + 1 == i && q.2.category == 2))) = (lset2 l i v).map (am_t2 z w b) := by
  unfold lset2
  rw [List.map_cons, List.filter_map]
  congr 2
  apply List.filter_congr
  intro q _
  show (!(q.1 == i) && (!(q.1 == i + 1) && !(q.1 + 1 == i && ((am_tv z w b q.2).category == 2)))) = _
  rw [am_two_cat]
theorem lset1_rg {l : am_Lc} {i : Nat} {v : am_V} (hl : ∀ q ∈ l, am_rg q.2) (hv : am_rg v) : ∀ q ∈ lset1 l i v, am_rg q.2 := by
  intro q hq
  rcases List.mem_cons.mp hq with rfl | h
  · exact hv
  · exact hl q ((List.mem_filter.mp h).1)
theorem lset2_rg {l : am_Lc} {i : Nat} {v : am_V} (hl : ∀ q ∈ l, am_rg q.2) (hv : am_rg v) : ∀ q ∈ lset2 l i v, am_rg q.2 := by
  intro q hq
  rcases List.mem_cons.mp hq with rfl | h
  · exact hv
  · exact hl q ((List.mem_filter.mp h).1)
theorem am_args_map (z w b : Nat) : ∀ (i : Nat) (as : List am_V), lv_args i (as.map (am_tv z w b)) = (am_args i as).map (am_t2 z w b)
  | _, [] => rfl
  | i, v :: vs => by
    show (i, am_tv z w b v) :: lv_args _ _ = (i, am_tv z w b v) :: _
    rw [am_args_map z w b _ vs]
    have e : (if (am_tv z w b v).category = 2 then i + 2 else i + 1) = (if am_two v then i + 2 else i + 1) := by
      rcases v with x | x | _ | a <;> rfl
    rw [e]
theorem am_args_rg : ∀ (i : Nat) (as : List am_V), (∀ v ∈ as, am_rg v) → ∀ q ∈ am_args i as, am_rg q.2
  | _, [], _ => fun q hq => by cases hq
  | i, v :: vs, h => fun q hq => by
    rcases List.mem_cons.mp hq with rfl | hq
    · exact h _ List.mem_cons_self
    · exact am_args_rg _ vs (fun u hu => h u (List.mem_cons_of_mem _ hu)) q hq
theorem lget_rg {l : am_Lc} {i : Nat} {v : am_V} (hl : ∀ q ∈ l, am_rg q.2) (h : lget l i = some v) : am_rg v := hl _ (lget_mem h)
end
section
/-! A STEP OF THE SMALL MACHINE IS ONE OF THE LARGE ONE: locals, stack, numbers -/
theorem e_bi {n : Int} (h1 : -128 ≤ n) (h2 : n < 128) : (Int8.ofInt n).toInt32 = Int32.ofInt n := by
  apply Int32.toInt_inj.mp
  rw [Int8.toInt_toInt32, Int8.toInt_ofInt_of_le (by omega) (by omega), i32_id ⟨by omega, by omega⟩]
theorem e_si {n : Int} (h1 : -32768 ≤ n) (h2 : n < 32768) : (Int16.ofInt n).toInt32 = Int32.ofInt n := by
  apply Int32.toInt_inj.mp
  rw [Int16.toInt_toInt32, Int16.toInt_ofInt_of_le (by omega) (by omega), i32_id ⟨by omega, by omega⟩]
theorem am_ldI_inv {l l' : am_Lc} {k : Nat} {st st' : List am_V} (h : am_ldI l k st = some (l', st')) : ∃ x, lget l k = some (vI x) ∧ l' = l ∧ st' = vI x :: st := by
  unfold am_ldI at h
  split at h
  · rename_i x hx; cases h; exact ⟨x, hx, rfl, rfl⟩
  · cases h
theorem am_ldL_inv {l l' : am_Lc} {k : Nat} {st st' : List am_V} (h : am_ldL l k st = some (l', st')) : ∃ x, lget l k = some (vL x) ∧ l' = l ∧ st' = vL x :: st := by
  unfold am_ldL at h
  split at h
  · rename_i x hx; cases h; exact ⟨x, hx, rfl, rfl⟩
  · cases h
theorem am_ldR_inv {l l' : am_Lc} {k : Nat} {st st' : List am_V} (h : am_ldR l k st = some (l', st')) : ∃ x, lget l k = some (vR x) ∧ l' = l ∧ st' = vR x :: st := by
  unfold am_ldR at h
  split at h
  · rename_i x hx; cases h; exact ⟨x, hx, rfl, rfl⟩
  · cases h
theorem am_stI_inv {l l' : am_Lc} {k : Nat} {st st' : List am_V} (h : am_stI l k st = some (l', st')) : ∃ x, st = vI x :: st' ∧ l' = lset1 l k (vI x) := by
  unfold am_stI at h
  split at h
  · cases h; exact ⟨_, rfl, rfl⟩
  · cases h
theorem am_stL_inv {l l' : am_Lc} {k : Nat} {st st' : List am_V} (h : am_stL l k st = some (l', st')) : ∃ x, st = vL x :: st' ∧ l' = lset2 l k (vL x) := by
  unfold am_stL at h
  split at h
  · cases h; exact ⟨_, rfl, rfl⟩
  · cases h
theorem am_stR_inv {l l' : am_Lc} {k : Nat} {st st' : List am_V} (h : am_stR l k st = some (l', st')) : ∃ x, st = vR x :: st' ∧ l' = lset1 l k (vR x) := by
  unfold am_stR at h
  split at h
  · cases h; exact ⟨_, rfl, rfl⟩
  · cases h
theorem am_inc_inv {l l' : am_Lc} {k : Nat} {n : Int} {st st' : List am_V} (h : am_inc l k n st = some (l', st')) : ∃ x, lget l k = some (vI x) ∧ l' = lset1 l k (vI (w32 (x + n))) ∧ st' = st := by
  unfold am_inc at h
  split at h
  · rename_i x hx; cases h; exact ⟨x, hx, rfl, rfl⟩
  · cases h
theorem am_bI_inv {f : Int → Int → Int} {l l' : am_Lc} {st st' : List am_V} (h : am_bI f l st = some (l', st')) : ∃ x y r, st = vI y :: vI x :: r ∧ l' = l ∧ st' = vI (f x y) :: r := by
  unfold am_bI at h
  split at h
  · cases h; exact ⟨_, _, _, rfl, rfl, rfl⟩
  · cases h
theorem am_dI_inv {f : Int → Int → Int} {l l' : am_Lc} {st st' : List am_V} (h : am_dI f l st = some (l', st')) : ∃ x y r, st = vI y :: vI x :: r ∧ y ≠ 0 ∧ l' = l ∧ st' = vI (f x y) :: r := by
  unfold am_dI at h
  split at h
  · split at h
    · cases h
    · rename_i hne; cases h; exact ⟨_, _, _, rfl, hne, rfl, rfl⟩
  · cases h
theorem am_bL_inv {f : Int → Int → Int} {l l' : am_Lc} {st st' : List am_V} (h : am_bL f l st = some (l', st')) : ∃ x y r, st = vL y :: vL x :: r ∧ l' = l ∧ st' = vL (f x y) :: r := by
  unfold am_bL at h
  split at h
  · cases h; exact ⟨_, _, _, rfl, rfl, rfl⟩
  · cases h
theorem am_dL_inv {f : Int → Int → Int} {l l' : am_Lc} {st st' : List am_V} (h : am_dL f l st = some (l', st')) : ∃ x y r, st = vL y :: vL x :: r ∧ y ≠ 0 ∧ l' = l ∧ st' = vL (f x y) :: r := by
  unfold am_dL at h
  split at h
  · split at h
    · cases h
    · rename_i hne; cases h; exact ⟨_, _, _, rfl, hne, rfl, rfl⟩
  · cases h
theorem am_cL_inv {l l' : am_Lc} {st st' : List am_V} (h : am_cL l st = some (l', st')) : ∃ x y r, st = vL y :: vL x :: r ∧ l' = l ∧ st' = vI (a_cmp x y) :: r := by
  unfold am_cL at h
  split at h
  · cases h; exact ⟨_, _, _, rfl, rfl, rfl⟩
  · cases h
theorem am_uI_inv {f : Int → am_V} {l l' : am_Lc} {st st' : List am_V} (h : am_uI f l st = some (l', st')) : ∃ x r, st = vI x :: r ∧ l' = l ∧ st' = f x :: r := by
  unfold am_uI at h
  split at h
  · cases h; exact ⟨_, _, rfl, rfl, rfl⟩
  · cases h
theorem am_uL_inv {f : Int → am_V} {l l' : am_Lc} {st st' : List am_V} (h : am_uL f l st = some (l', st')) : ∃ x r, st = vL x :: r ∧ l' = l ∧ st' = f x :: r := by
  unfold am_uL at h
  split at h
  · cases h; exact ⟨_, _, rfl, rfl, rfl⟩
  · cases h
theorem am_cat1 {z w b : Nat} {v : am_V} (h : am_two v = false) : (am_tv z w b v).category = 1 := by
  rcases v with x | x | _ | a
  · rfl
  · cases h
  · rfl
  · rfl
theorem am_dup_inv {l l' : am_Lc} {st st' : List am_V} (h : am_dup l st = some (l', st')) : ∃ v r, st = v :: r ∧ am_two v = false ∧ l' = l ∧ st' = v :: v :: r := by
  unfold am_dup at h
  split at h
  · split at h
    · cases h
    · rename_i hne; cases h; exact ⟨_, _, rfl, by simpa using hne, rfl, rfl⟩
  · cases h
theorem am_dup2_inv {l l' : am_Lc} {st st' : List am_V} (h : am_dup2 l st = some (l', st')) : ∃ v u r, st = v :: u :: r ∧ am_two v = false ∧ am_two u = false ∧ l' = l ∧ st' = v :: u :: v :: u :: r := by
  unfold am_dup2 at h
  split at h
  · split at h
    · cases h
    · rename_i hne
      cases h
      simp only [Bool.or_eq_true, not_or, Bool.not_eq_true] at hne
      exact ⟨_, _, _, rfl, hne.1, hne.2, rfl, rfl⟩
  · cases h
theorem am_pop_inv {l l' : am_Lc} {st st' : List am_V} (h : am_pop l st = some (l', st')) : ∃ v, st = v :: st' ∧ am_two v = false ∧ l' = l := by
  unfold am_pop at h
  split at h
  · split at h
    · cases h
    · rename_i hne; cases h; exact ⟨_, rfl, by simpa using hne, rfl⟩
  · cases h
theorem rg_c {v : am_V} {r : List am_V} (h1 : am_rg v) (h2 : ∀ u ∈ r, am_rg u) : ∀ u ∈ v :: r, am_rg u := by
  intro u hu
  rcases List.mem_cons.mp hu with rfl | hu
  · exact h1
  · exact h2 u hu
theorem rg_h {v : am_V} {r : List am_V} (h : ∀ u ∈ v :: r, am_rg u) : am_rg v := h v List.mem_cons_self
theorem rg_t {v : am_V} {r : List am_V} (h : ∀ u ∈ v :: r, am_rg u) : ∀ u ∈ r, am_rg u := fun u hu => h u (List.mem_cons_of_mem _ hu)
section SIMAR
variable {p : Program} {l0 : Launch} {e : Env} {R : Room} {s : State} {m : MethodId} {args : Array Value} {below : List Frame} {meth : Method} {c : Code} {H : Heap} {locs : List Loc} {cells slots : Nat} {Q : State → Prop} {cc : ByteArray} {pc : Nat} {ls : Array Slot}
variable {z w b : Nat} {o : Nat} {ini : Bool} {maxL : Nat} {ret : Option FieldType} {RF RL : Nat} {sts : List Nat} {len : Nat}
set_option maxHeartbeats 4000000 in
theorem am_sim_ar (hx : p.tables.exec = Jvm.exec) (hb : c.code = cc) (hown : s.vm.findClass (am_cn o) = some m.cls) (hts : ∀ q ∈ lw_gt, q.before args s = true) {i : Instr} {ops : List Nat} {v : Int} {l l' : am_Lc} {st st' : List am_V} (h : am_ar i v l st = some (l', st')) (hdg : decode cc pc = .ok (i, len)) (hs : am_side o ini maxL ret RF RL sts pc len i ops v = true)
    (hl : lv_has ls maxL (l.map (am_t2 z w b))) (gl : ∀ q ∈ l, am_rg q.2) (gs : ∀ u ∈ st, am_rg u)
    (kk : ∀ ls', lv_has ls' maxL (l'.map (am_t2 z w b)) → (∀ q ∈ l', am_rg q.2) → (∀ u ∈ st', am_rg u) → W p l0 e R s m args below meth c H locs cells slots Q (F0 m (pc + len) ls' (st'.map (am_tv z w b)))) :
    W p l0 e R s m args below meth c H locs cells slots Q (F0 m pc ls (st.map (am_tv z w b))) := by
  unfold am_ar at h
  split at h
  · simp only [am_side, Bool.and_eq_true, beq_iff_eq, decide_eq_true_eq] at hs
    obtain ⟨rfl, h1, h2⟩ := hs
    cases h
    exact lv_iconst hx hb hdg rfl (kk ls hl gl (rg_c (show am_r32 _ from ⟨by omega, by omega⟩) gs))
  · simp only [am_side, Bool.and_eq_true, beq_iff_eq, decide_eq_true_eq] at hs
    obtain ⟨rfl, h1, h2⟩ := hs
    cases h
    exact lv_bipush hx hb hdg (e_bi h1 h2) (kk ls hl gl (rg_c (show am_r32 _ from ⟨by omega, by omega⟩) gs))
  · simp only [am_side, Bool.and_eq_true, beq_iff_eq, decide_eq_true_eq] at hs
    obtain ⟨rfl, h1, h2⟩ := hs
    cases h
    exact lv_sipush hx hb hdg (e_si h1 h2) (kk ls hl gl (rg_c (show am_r32 _ from ⟨by omega, by omega⟩) gs))
  · simp only [am_side, Bool.and_eq_true, beq_iff_eq, decide_eq_true_eq, List.any_eq_true] at hs
    obtain ⟨⟨rfl, q, hq, ⟨e1, e2⟩, e3⟩, h1, h2⟩ := hs
    cases h
    have hc := hts _ (am_CTk q hq)
    rw [e1, e2, e3] at hc
    exact lv_ldc hx hb hown hc hdg (kk ls hl gl (rg_c (show am_r32 _ from ⟨by omega, by omega⟩) gs))
  · simp only [am_side, Bool.and_eq_true, beq_iff_eq, decide_eq_true_eq, List.any_eq_true] at hs
    obtain ⟨⟨rfl, q, hq, ⟨e1, e2⟩, e3⟩, h1, h2⟩ := hs
    cases h
    have hc := hts _ (am_CTk q hq)
    rw [e1, e2, e3] at hc
    exact lv_ldcw hx hb hown hc hdg (kk ls hl gl (rg_c (show am_r32 _ from ⟨by omega, by omega⟩) gs))
  · rename_i n
    simp only [am_side, beq_iff_eq] at hs
    subst hs
    cases h
    have hn : (n : Nat) < 2 := n.isLt
    exact lv_lconst hx hb hdg Int64.ofInt_eq_ofNat.symm (kk ls hl gl (rg_c (show am_r64 _ from ⟨by omega, by omega⟩) gs))
  · simp only [am_side, Bool.and_eq_true, beq_iff_eq, decide_eq_true_eq, List.any_eq_true] at hs
    obtain ⟨⟨rfl, q, hq, ⟨e1, e2⟩, e3⟩, h1, h2⟩ := hs
    cases h
    have hc := hts _ (am_CJk q hq)
    rw [e1, e2, e3] at hc
    exact lv_ldc2 hx hb hown hc hdg (kk ls hl gl (rg_c (show am_r64 _ from ⟨by omega, by omega⟩) gs))
  · simp only [am_side, beq_iff_eq] at hs
    subst hs
    obtain ⟨x, hg, rfl, rfl⟩ := am_ldI_inv h
    exact lv_iload_n hx hb hdg rfl (lget_has hl hg) (kk ls hl gl (rg_c (lget_rg gl hg) gs))
  · simp only [am_side, beq_iff_eq] at hs
    subst hs
    obtain ⟨x, hg, rfl, rfl⟩ := am_ldI_inv h
    exact lv_iload hx hb hdg (lget_has hl hg) (kk ls hl gl (rg_c (lget_rg gl hg) gs))
  · simp only [am_side, beq_iff_eq] at hs
    subst hs
    obtain ⟨x, hg, rfl, rfl⟩ := am_ldL_inv h
    exact lv_lload_n hx hb hdg rfl (lget_has hl hg) (kk ls hl gl (rg_c (lget_rg gl hg) gs))
  · simp only [am_side, beq_iff_eq] at hs
    subst hs
    obtain ⟨x, hg, rfl, rfl⟩ := am_ldL_inv h
    exact lv_lload hx hb hdg (lget_has hl hg) (kk ls hl gl (rg_c (lget_rg gl hg) gs))
  · simp only [am_side, beq_iff_eq] at hs
    subst hs
    obtain ⟨x, hg, rfl, rfl⟩ := am_ldR_inv h
    exact lv_aload_n hx hb hdg rfl (lget_has hl hg) (kk ls hl gl (rg_c (lget_rg gl hg) gs))
  · simp only [am_side, beq_iff_eq] at hs
    subst hs
    obtain ⟨x, hg, rfl, rfl⟩ := am_ldR_inv h
    exact lv_aload hx hb hdg (lget_has hl hg) (kk ls hl gl (rg_c (lget_rg gl hg) gs))
  · simp only [am_side, Bool.and_eq_true, beq_iff_eq, decide_eq_true_eq] at hs
    obtain ⟨rfl, hn⟩ := hs
    obtain ⟨x, rfl, rfl⟩ := am_stI_inv h
    exact lv_istore_n hx hb hdg rfl hl hn (lset1_map z w b l _ (vI x)) (fun ls' h' => kk ls' h' (lset1_rg gl (rg_h gs)) (rg_t gs))
  · simp only [am_side, Bool.and_eq_true, beq_iff_eq, decide_eq_true_eq] at hs
    obtain ⟨rfl, hn⟩ := hs
    obtain ⟨x, rfl, rfl⟩ := am_stI_inv h
    exact lv_istore hx hb hdg hl hn (lset1_map z w b l _ (vI x)) (fun ls' h' => kk ls' h' (lset1_rg gl (rg_h gs)) (rg_t gs))
  · simp only [am_side, Bool.and_eq_true, beq_iff_eq, decide_eq_true_eq] at hs
    obtain ⟨rfl, hn⟩ := hs
    obtain ⟨x, rfl, rfl⟩ := am_stL_inv h
    exact lv_lstore_n hx hb hdg rfl hl hn (lset2_map z w b l _ (vL x)) (fun ls' h' => kk ls' h' (lset2_rg gl (rg_h gs)) (rg_t gs))
  · simp only [am_side, Bool.and_eq_true, beq_iff_eq, decide_eq_true_eq] at hs
    obtain ⟨rfl, hn⟩ := hs
    obtain ⟨x, rfl, rfl⟩ := am_stL_inv h
    exact lv_lstore hx hb hdg hl hn (lset2_map z w b l _ (vL x)) (fun ls' h' => kk ls' h' (lset2_rg gl (rg_h gs)) (rg_t gs))
  · simp only [am_side, Bool.and_eq_true, beq_iff_eq, decide_eq_true_eq] at hs
    obtain ⟨rfl, hn⟩ := hs
    obtain ⟨x, rfl, rfl⟩ := am_stR_inv h
    exact lv_astore_n hx hb hdg rfl hl hn (lset1_map z w b l _ (vR x)) (fun ls' h' => kk ls' h' (lset1_rg gl (rg_h gs)) (rg_t gs))
  · simp only [am_side, Bool.and_eq_true, beq_iff_eq, decide_eq_true_eq] at hs
    obtain ⟨rfl, hn⟩ := hs
    obtain ⟨x, rfl, rfl⟩ := am_stR_inv h
    exact lv_astore hx hb hdg hl hn (lset1_map z w b l _ (vR x)) (fun ls' h' => kk ls' h' (lset1_rg gl (rg_h gs)) (rg_t gs))
  · simp only [am_side, Bool.and_eq_true, beq_iff_eq, decide_eq_true_eq] at hs
    obtain ⟨rfl, hn⟩ := hs
    obtain ⟨x, hg, rfl, rfl⟩ := am_inc_inv h
    obtain ⟨k, hk⟩ := lget_pos (z := z) (w := w) (b := b) hg
    exact lv_iinc hx hb hdg hl hk (e_add x _).symm hn (lset1_map z w b l _ (vI _)) (fun ls' h' => kk ls' h' (lset1_rg gl (show am_r32 _ from w32_rg _)) gs)
  · simp only [am_side, beq_iff_eq] at hs
    subst hs
    obtain ⟨x, y, r, rfl, rfl, rfl⟩ := am_bI_inv h
    refine lv_iadd hx hb hdg ?_
    rw [← e_add]
    exact kk ls hl gl (rg_c (show am_r32 _ from w32_rg _) (rg_t (rg_t gs)))
  · simp only [am_side, beq_iff_eq] at hs
    subst hs
    obtain ⟨x, y, r, rfl, rfl, rfl⟩ := am_bI_inv h
    refine lv_isub hx hb hdg ?_
    rw [← e_sub]
    exact kk ls hl gl (rg_c (show am_r32 _ from w32_rg _) (rg_t (rg_t gs)))
  · simp only [am_side, beq_iff_eq] at hs
    subst hs
    obtain ⟨x, y, r, rfl, rfl, rfl⟩ := am_bI_inv h
    refine lv_imul hx hb hdg ?_
    rw [← e_mul]
    exact kk ls hl gl (rg_c (show am_r32 _ from w32_rg _) (rg_t (rg_t gs)))
  · simp only [am_side, beq_iff_eq] at hs
    subst hs
    obtain ⟨x, y, r, rfl, rfl, rfl⟩ := am_bI_inv h
    refine lv_iand hx hb hdg ?_
    rw [← of_toInt (Int32.ofInt x &&& Int32.ofInt y)]
    exact kk ls hl gl (rg_c (show am_r32 _ from i32_rg _) (rg_t (rg_t gs)))
  · simp only [am_side, beq_iff_eq] at hs
    subst hs
    obtain ⟨x, y, r, rfl, rfl, rfl⟩ := am_bI_inv h
    refine lv_ior hx hb hdg ?_
    rw [← of_toInt (Int32.ofInt x ||| Int32.ofInt y)]
    exact kk ls hl gl (rg_c (show am_r32 _ from i32_rg _) (rg_t (rg_t gs)))
  · simp only [am_side, beq_iff_eq] at hs
    subst hs
    obtain ⟨x, y, r, rfl, rfl, rfl⟩ := am_bI_inv h
    refine lv_ishl hx hb hdg ?_
    rw [← of_toInt (Int32.ofInt x <<< (Int32.ofInt y &&& 31))]
    exact kk ls hl gl (rg_c (show am_r32 _ from i32_rg _) (rg_t (rg_t gs)))
  · simp only [am_side, beq_iff_eq] at hs
    subst hs
    obtain ⟨x, y, r, rfl, rfl, rfl⟩ := am_bI_inv h
    refine lv_ishr hx hb hdg ?_
    rw [← of_toInt (Int32.ofInt x >>> (Int32.ofInt y &&& 31))]
    exact kk ls hl gl (rg_c (show am_r32 _ from i32_rg _) (rg_t (rg_t gs)))
  · simp only [am_side, beq_iff_eq] at hs
    subst hs
    obtain ⟨x, y, r, rfl, hne, rfl, rfl⟩ := am_dI_inv h
    have gy : am_r32 y := rg_h gs
    have gx : am_r32 x := rg_h (rg_t gs)
    refine lv_idiv hx hb hdg (i32_ne gy hne) ?_
    rw [← e_div gx gy]
    exact kk ls hl gl (rg_c (show am_r32 _ from w32_rg _) (rg_t (rg_t gs)))
  · simp only [am_side, beq_iff_eq] at hs
    subst hs
    obtain ⟨x, y, r, rfl, hne, rfl, rfl⟩ := am_dI_inv h
    have gy : am_r32 y := rg_h gs
    have gx : am_r32 x := rg_h (rg_t gs)
    refine lv_irem hx hb hdg (i32_ne gy hne) ?_
    rw [← e_rem gx gy]
    exact kk ls hl gl (rg_c (show am_r32 _ from tmod_rg gx.1 gx.2) (rg_t (rg_t gs)))
  · simp only [am_side, beq_iff_eq] at hs
    subst hs
    obtain ⟨x, y, r, rfl, rfl, rfl⟩ := am_bL_inv h
    refine lv_ladd hx hb hdg ?_
    rw [← e_ladd]
    exact kk ls hl gl (rg_c (show am_r64 _ from w64_rg _) (rg_t (rg_t gs)))
  · simp only [am_side, beq_iff_eq] at hs
    subst hs
    obtain ⟨x, y, r, rfl, rfl, rfl⟩ := am_bL_inv h
    refine lv_lmul hx hb hdg ?_
    rw [← e_lmul]
    exact kk ls hl gl (rg_c (show am_r64 _ from w64_rg _) (rg_t (rg_t gs)))
  · simp only [am_side, beq_iff_eq] at hs
    subst hs
    obtain ⟨x, y, r, rfl, hne, rfl, rfl⟩ := am_dL_inv h
    have gy : am_r64 y := rg_h gs
    have gx : am_r64 x := rg_h (rg_t gs)
    refine lv_ldiv hx hb hdg (i64_ne gy hne) ?_
    rw [← e_ldiv gx gy]
    exact kk ls hl gl (rg_c (show am_r64 _ from w64_rg _) (rg_t (rg_t gs)))
  · simp only [am_side, beq_iff_eq] at hs
    subst hs
    obtain ⟨x, y, r, rfl, hne, rfl, rfl⟩ := am_dL_inv h
    have gy : am_r64 y := rg_h gs
    have gx : am_r64 x := rg_h (rg_t gs)
    refine lv_lrem hx hb hdg (i64_ne gy hne) ?_
    rw [← e_lrem gx gy]
    exact kk ls hl gl (rg_c (show am_r64 _ from tmod_rg gx.1 gx.2) (rg_t (rg_t gs)))
  · simp only [am_side, beq_iff_eq] at hs
    subst hs
    obtain ⟨x, y, r, rfl, rfl, rfl⟩ := am_cL_inv h
    have gy : am_r64 y := rg_h gs
    have gx : am_r64 x := rg_h (rg_t gs)
    refine W.lcmp hx hb hdg ?_
    rw [e_cmp gx gy]
    exact kk ls hl gl (rg_c (show am_r32 _ from a_cmp_rg _ _) (rg_t (rg_t gs)))
  · simp only [am_side, beq_iff_eq] at hs
    subst hs
    obtain ⟨x, r, rfl, rfl, rfl⟩ := am_uI_inv h
    have gx : am_r32 x := rg_h gs
    exact lv_i2l hx hb hdg (e_i2l gx) (kk ls hl gl (rg_c (show am_r64 _ by unfold am_r32 at gx; unfold am_r64; omega) (rg_t gs)))
  · simp only [am_side, beq_iff_eq] at hs
    subst hs
    obtain ⟨x, r, rfl, rfl, rfl⟩ := am_uL_inv h
    exact lv_l2i hx hb hdg (e_l2i (rg_h gs)) (kk ls hl gl (rg_c (show am_r32 _ from w32_rg _) (rg_t gs)))
  · simp only [am_side, beq_iff_eq] at hs
    subst hs
    obtain ⟨x, r, rfl, rfl, rfl⟩ := am_uI_inv h
    exact lv_i2b hx hb hdg (e_i2b (rg_h gs)) (kk ls hl gl (rg_c (show am_r32 _ from w8_rg _) (rg_t gs)))
  · simp only [am_side, beq_iff_eq] at hs
    subst hs
    obtain ⟨v, r, rfl, hv, rfl, rfl⟩ := am_dup_inv h
    exact lv_dup hx hb hdg (am_cat1 hv) (kk ls hl gl (rg_c (rg_h gs) gs))
  · simp only [am_side, beq_iff_eq] at hs
    subst hs
    obtain ⟨v, u, r, rfl, hv, hu, rfl, rfl⟩ := am_dup2_inv h
    exact lv_dup2_11 hx hb hdg (am_cat1 hv) (am_cat1 hu) (kk ls hl gl (rg_c (rg_h gs) (rg_c (rg_h (rg_t gs)) gs)))
  · simp only [am_side, beq_iff_eq] at hs
    subst hs
    obtain ⟨v, rfl, hv, rfl⟩ := am_pop_inv h
    exact lv_pop hx hb hdg (am_cat1 hv) (kk ls hl gl (rg_t gs))
  · cases h
end SIMAR
end
section
/-! THE TWO MACHINES' CELLS -/
def am_wv : Nat → Int32 := fun j => ([1, 10, 100, 1000, 10000, 100000] : List Int32).getD j 0
def am_okt (ty : FieldType) : Prop := ty = .int ∨ ty = .long ∨ ty = .byte ∨ ty = .boolean ∨ ty = am_strip
def am_ce (z w b : Nat) (D : va_G) (σ : am_S) (U : State) (H : Heap) (a : Nat) (q : am_Ly) : Prop := match q with
  | (.inl ty, n) => am_okt ty ∧ (∃ cA, H[am_ad z w b a]? = some (arrV cA n (fun j => am_tv z w b (am_gv ty a j σ))) ∧ ArrOfT U cA ty ∧ va_RA U cA ty) ∧ ∀ j, j < n → am_rg (am_gv ty a j σ)
  | (.inr c, _) => c < 11 ∧ t_OB (am_ad z w b a) (D.1 c) (am_cN c) (D.2 c) H (fun k => am_tv z w b (am_gv (am_fty c k) a k σ)) ∧ ∀ k, k < am_cN c → am_rg (am_gv (am_fty c k) a k σ)
def am_HR (z w b L : Nat) (xs : Nat → Int32) (D : va_G) (σ : am_S) (U : State) (H : Heap) : Prop :=
  H.size + 2 = z + σ.2.2.1.length ∧ 2 ≤ σ.2.2.1.length ∧ σ.2.2.1[0]? = some (.inl .int, 6) ∧ σ.2.2.1[1]? = some (.inl .int, L) ∧ (∀ j, σ.1 0 j = (am_wv j).toInt) ∧ (∀ j, σ.1 1 j = (xs j).toInt) ∧ ∀ (a : Nat) (q : am_Ly), 2 ≤ a → σ.2.2.1[a]? = some q → am_ce z w b D σ U H a q
/-- what stays as it is all the time -/
def am_FX (z w b L : Nat) (xs : Nat → Int32) (D : va_G) (U : State) : Prop :=
  va_K D am_cl [] U ∧ va_Z "WashLine" "WORTHS" "[I" (.ref w) (fun q => z ≤ q) U U.heap ∧ va_T .int w 6 (fun j => Value.int (am_wv j)) (fun q => z ≤ q) U U.heap ∧ va_X b L xs U U.heap ∧ (w < z ∧ b < z ∧ z ≤ U.heap.size) ∧ (∀ e ∈ am_NG, va_Nw (.fieldLinkNest (am_cn e.1) e.2 "WashLine" "WORTHS" "[I" "WashLine") U) ∧ (∀ e ∈ am_NM, va_Nw (.methodLinkNest (am_cn e.1) e.2.1 (am_meths.getD e.2.2 am_m0).1 "WashLine") U) ∧ va_AO "WashLine$Strip" U
theorem am_ad2 {z w b a : Nat} (h : 2 ≤ a) : am_ad z w b a = z + (a - 2) := by
  unfold am_ad
  rw [if_neg (by omega), if_neg (by omega)]
theorem am_ad_ne {z w b a c : Nat} (ha : 2 ≤ a) (hc : 2 ≤ c) (h : a ≠ c) : am_ad z w b a ≠ am_ad z w b c := by
  rw [am_ad2 ha, am_ad2 hc]
  omega
theorem am_gv_eq {ty : FieldType} {a k : Nat} {σ σ' : am_S} (h : σ'.1 a k = σ.1 a k) (h2 : σ'.2.1 a k = σ.2.1 a k) : am_gv ty a k σ' = am_gv ty a k σ := by
  unfold am_gv
  rw [h, h2]
theorem am_ce_keep {z w b : Nat} {D : va_G} {σ σ' : am_S} {U : State} {H H1 : Heap} {a : Nat} {q : am_Ly} (h : ∀ j, σ'.1 a j = σ.1 a j ∧ σ'.2.1 a j = σ.2.1 a j) (hH : H1[am_ad z w b a]? = H[am_ad z w b a]?) (hc : am_ce z w b D σ U H a q) : am_ce z w b D σ' U H1 a q := by
  obtain ⟨t | c, n⟩ := q
  · obtain ⟨h1, ⟨cA, h2, h3, h4⟩, h5⟩ := hc
    refine ⟨h1, ⟨cA, ?_, h3, h4⟩, fun j hj => by rw [am_gv_eq (h j).1 (h j).2]; exact h5 j hj⟩
    rw [hH, h2]
    congr 2
    funext j
    rw [am_gv_eq (h j).1 (h j).2]
  · obtain ⟨h1, h2, h3⟩ := hc
    refine ⟨h1, (h2.kept hH).to (fun k _ => by rw [am_gv_eq (h k).1 (h k).2]), fun j hj => by rw [am_gv_eq (h j).1 (h j).2]; exact h3 j hj⟩
theorem am_HR_put {z w b L : Nat} {xs : Nat → Int32} {D : va_G} {σ σ' : am_S} {U : State} {H H1 : Heap} {a : Nat} {q : am_Ly} (hH : am_HR z w b L xs D σ U H) (ha : 2 ≤ a) (hq : σ.2.2.1[a]? = some q) (hl : σ'.2.2.1 = σ.2.2.1) (h : ∀ c j, c ≠ a → σ'.1 c j = σ.1 c j ∧ σ'.2.1 c j = σ.2.1 c j) (z1 : H1.size = H.size) (oq : ∀ x, x ≠ am_ad z w b a → H1[x]? = H[x]?) (hc : am_ce z w b D σ' U H1 a q) : am_HR z w b L xs D σ' U H1 := by
  obtain ⟨e1, e2, e3, e4, e5, e6, e7⟩ := hH
  refine ⟨by rw [hl, z1]; exact e1, by rw [hl]; exact e2, by rw [hl]; exact e3, by rw [hl]; exact e4, fun j => by rw [(h 0 j (by omega)).1]; exact e5 j, fun j => by rw [(h 1 j (by omega)).1]; exact e6 j, fun c x h2 hx => ?_⟩
  rw [hl] at hx
  by_cases hca : c = a
  · subst hca
    cases hq.symm.trans hx
    exact hc
  · exact am_ce_keep (fun j => h c j hca) (oq _ (am_ad_ne h2 ha hca)) (e7 c x h2 hx)
theorem am_HR_new {z w b L : Nat} {xs : Nat → Int32} {D : va_G} {σ : am_S} {U : State} {H H1 : Heap} {q : am_Ly} (hH : am_HR z w b L xs D σ U H) (z1 : H1.size = H.size + 1) (oq : ∀ x, x < H.size → H1[x]? = H[x]?) (hc : am_ce z w b D (am_new σ q) U H1 σ.2.2.1.length q) : am_HR z w b L xs D (am_new σ q) U H1 := by
  obtain ⟨e1, e2, e3, e4, e5, e6, e7⟩ := hH
  have hne : ∀ c j, c ≠ σ.2.2.1.length → (am_new σ q).1 c j = σ.1 c j ∧ (am_new σ q).2.1 c j = σ.2.1 c j := fun c j hc => ⟨if_neg hc, if_neg hc⟩
  refine ⟨?_, ?_, ?_, ?_, fun j => by rw [(hne 0 j (by omega)).1]; exact e5 j, fun j => by rw [(hne 1 j (by omega)).1]; exact e6 j, fun c x h2 hx => ?_⟩
  · show H1.size + 2 = z + (σ.2.2.1 ++ [q]).length
    rw [List.length_append, List.length_singleton]
    omega
  · show 2 ≤ (σ.2.2.1 ++ [q]).length
    rw [List.length_append]
    omega
  · show (σ.2.2.1 ++ [q])[0]? = _
    rw [List.getElem?_append_left (by omega)]
    exact e3
  · show (σ.2.2.1 ++ [q])[1]? = _
    rw [List.getElem?_append_left (by omega)]
    exact e4
  · have hx : (σ.2.2.1 ++ [q])[c]? = some x := hx
    by_cases hcl : c < σ.2.2.1.length
    · rw [List.getElem?_append_left hcl] at hx
      refine am_ce_keep (fun j => hne c j (by omega)) (oq _ ?_) (e7 c x h2 hx)
      rw [am_ad2 h2]
      omega
    · rw [List.getElem?_append_right (by omega)] at hx
      have h3 : c - σ.2.2.1.length < 1 := (List.getElem?_eq_some_iff.mp hx).1
      have h4 : c = σ.2.2.1.length := by omega
      subst h4
      rw [Nat.sub_self] at hx
      cases hx
      exact hc
theorem am_HR_moved {z w b L : Nat} {xs : Nat → Int32} {D : va_G} {σ : am_S} {u U : State} {H : Heap} (hvm : u.vm.Alike U.vm) (hH : am_HR z w b L xs D σ u H) : am_HR z w b L xs D σ U H := by
  obtain ⟨e1, e2, e3, e4, e5, e6, e7⟩ := hH
  refine ⟨e1, e2, e3, e4, e5, e6, fun c x h2 hx => ?_⟩
  have hc := e7 c x h2 hx
  obtain ⟨t | c', n⟩ := x
  · obtain ⟨h1, ⟨cA, g2, g3, g4⟩, h5⟩ := hc
    exact ⟨h1, ⟨cA, g2, arrOfT_moved hvm g3, g4.moved hvm⟩, h5⟩
  · exact hc
theorem am_FX_moved {z w b L : Nat} {xs : Nat → Int32} {D : va_G} {u U : State} (hW : u.WarmedH U.vm) (hh : ∀ q, q < z → U.heap[q]? = u.heap[q]?) (hz : z ≤ U.heap.size) (h : am_FX z w b L xs D u) : am_FX z w b L xs D U := by
  obtain ⟨h1, h2, h3, h4, ⟨h5, h6, h7⟩, h8, h9, h10⟩ := h
  have hvm := hW.alike
  refine ⟨va_K.moved hvm h1, ?_, ?_, ?_, ⟨h5, h6, hz⟩, fun e he => va_Nw.warmF hW (h8 e he), fun e he => va_Nw.warmM hW (h9 e he), va_AO.moved hvm h10⟩
  · exact (va_Z.moved hvm h2).kept (fun a ha hA => hh a (Nat.not_le.mp hA))
  · exact (va_T.moved hvm h3).kept (fun a ha hA => hh a (Nat.not_le.mp hA))
  · exact (va_X.moved hvm h4).kept (hh b h6)
theorem am_isO_inv {σ : am_S} {a c : Nat} (h : am_isO σ a c = true) : ∃ n, σ.2.2.1[a]? = some (.inr c, n) ∧ 2 ≤ a := by
  unfold am_isO at h
  split at h
  · rename_i c' n hq
    simp only [Bool.and_eq_true, decide_eq_true_eq] at h
    obtain ⟨rfl, h2⟩ := h
    exact ⟨n, hq, h2⟩
  · cases h
theorem am_pv_inv {z w b : Nat} {ty : FieldType} {a k : Nat} {v : am_V} {σ σ' : am_S} (h : am_pv ty a k v σ = some σ') (hv : am_rg v) :
    am_gv ty a k σ' = v ∧ (∀ t c j, c ≠ a ∨ j ≠ k → am_gv t c j σ' = am_gv t c j σ) ∧ σ'.2.2 = σ.2.2 ∧ (∀ c j, c ≠ a → σ'.1 c j = σ.1 c j ∧ σ'.2.1 c j = σ.2.1 c j) ∧ narrow ty (am_tv z w b v) = am_tv z w b v ∧ fits ty (am_tv z w b v) = true := by
  have s1 : ∀ x, am_gv .int a k (am_set σ a k x) = vI x ∧ am_gv .boolean a k (am_set σ a k x) = vI x ∧ am_gv .long a k (am_set σ a k x) = vL x := fun x => by
    simp [am_gv, am_set, vI, vL]
  have s2 : ∀ x, (∀ t c j, c ≠ a ∨ j ≠ k → am_gv t c j (am_set σ a k x) = am_gv t c j σ) ∧ (am_set σ a k x).2.2 = σ.2.2 ∧ (∀ c j, c ≠ a → (am_set σ a k x).1 c j = σ.1 c j ∧ (am_set σ a k x).2.1 c j = σ.2.1 c j) := fun x =>
    ⟨fun t c j hcj => am_gv_eq (if_neg (fun q => hcj.elim (fun g => g q.1) (fun g => g q.2))) rfl, rfl, fun c j hc => ⟨if_neg (fun q => hc q.1), rfl⟩⟩
  have s3 : ∀ x, (∀ t c j, c ≠ a ∨ j ≠ k → am_gv t c j (am_setR σ a k x) = am_gv t c j σ) ∧ (am_setR σ a k x).2.2 = σ.2.2 ∧ (∀ c j, c ≠ a → (am_setR σ a k x).1 c j = σ.1 c j ∧ (am_setR σ a k x).2.1 c j = σ.2.1 c j) := fun x =>
    ⟨fun t c j hcj => am_gv_eq rfl (if_neg (fun q => hcj.elim (fun g => g q.1) (fun g => g q.2))), rfl, fun c j hc => ⟨rfl, if_neg (fun q => hc q.1)⟩⟩
  unfold am_pv at h
  split at h
  · cases h
    exact ⟨(s1 _).1, (s2 _).1, (s2 _).2.1, (s2 _).2.2, rfl, rfl⟩
  · split at h
    · rename_i h01
      cases h
      refine ⟨(s1 _).2.1, (s2 _).1, (s2 _).2.1, (s2 _).2.2, ?_, ?_⟩
      · rcases h01 with rfl | rfl <;> rfl
      · rcases h01 with rfl | rfl <;> rfl
    · cases h
  · cases h
    exact ⟨(s1 _).2.2, (s2 _).1, (s2 _).2.1, (s2 _).2.2, rfl, rfl⟩
  · cases h
    exact ⟨by simp [am_gv, am_setR], (s3 _).1, (s3 _).2.1, (s3 _).2.2, rfl, rfl⟩
  · cases h
    exact ⟨by simp [am_gv, am_setR], (s3 _).1, (s3 _).2.1, (s3 _).2.2, rfl, rfl⟩
  · cases h
theorem am_in {i : Int} {n : Nat} {cA : ClassId} {f : Nat → Value} (hi : am_r32 i) (h0 : 0 ≤ i) (hn : i < (n : Int)) : ¬ (Int32.ofInt i < 0 ∨ (arrV cA n f).slots.size ≤ (Int32.ofInt i).toNatClampNeg) := by
  rw [arrV_size, i32_clamp hi]
  have : ¬ Int32.ofInt i < 0 := by
    rw [show (0 : Int32) = Int32.ofInt 0 from rfl, i32_lt hi r32_0]
    omega
  intro h
  rcases h with h | h
  · exact this h
  · omega
theorem am_inx {i : Int} {n : Nat} (hi : am_r32 i) (h0 : 0 ≤ i) (hn : i < (n : Int)) : vp_in (Int32.ofInt i) n := by
  unfold vp_in
  rw [i32_clamp hi]
  have : ¬ Int32.ofInt i < 0 := by
    rw [show (0 : Int32) = Int32.ofInt 0 from rfl, i32_lt hi r32_0]
    omega
  intro h
  rcases h with h | h
  · exact this h
  · omega
theorem e_and1 (x : Int) : Int32.ofInt x &&& 1 = Int32.ofInt (x % 2) := by
  apply Int32.toBitVec_inj.mp
  show BitVec.ofInt 32 x &&& 1#32 = BitVec.ofInt 32 (x % 2)
  apply BitVec.eq_of_toNat_eq
  rw [BitVec.toNat_and, BitVec.toNat_ofInt, BitVec.toNat_ofInt]
  show (x % 4294967296).toNat &&& 1 = (x % 2 % 4294967296).toNat
  rw [Nat.and_one_is_mod]
  omega
end
section
/-! A STEP OF THE SMALL MACHINE IS ONE OF THE LARGE ONE: cells -/
theorem am_aget_inv {t : FieldType} {st st' : List am_V} {σ σ' : am_S} (h : am_aget t st σ = some (st', σ')) : ∃ i a r n, st = vI i :: vR a :: r ∧ σ.2.2.1[a]? = some (.inl t, n) ∧ 0 ≤ i ∧ i < (n : Int) ∧ st' = am_gv t a i.toNat σ :: r ∧ σ = σ' := by
  unfold am_aget at h
  split at h
  · split at h
    · rename_i hq
      split at h
      · rename_i h3
        obtain ⟨rfl, h4, h5⟩ := h3
        cases h
        exact ⟨_, _, _, _, rfl, hq, h4, h5, rfl, rfl⟩
      · cases h
    · cases h
  · cases h
theorem am_aput_inv {t : FieldType} {f : Int → Int} {st st' : List am_V} {σ σ' : am_S} (h : am_aput t f st σ = some (st', σ')) : ∃ x i a n, st = vI x :: vI i :: vR a :: st' ∧ σ.2.2.1[a]? = some (.inl t, n) ∧ 0 ≤ i ∧ i < (n : Int) ∧ 2 ≤ a ∧ σ' = am_set σ a i.toNat (f x) := by
  unfold am_aput at h
  split at h
  · split at h
    · rename_i hq
      split at h
      · rename_i h3
        obtain ⟨rfl, h4, h5, h6⟩ := h3
        cases h
        exact ⟨_, _, _, _, rfl, hq, h4, h5, h6, rfl⟩
      · cases h
    · cases h
  · cases h
theorem am_aputL_inv {st st' : List am_V} {σ σ' : am_S} (h : am_aputL st σ = some (st', σ')) : ∃ x i a n, st = vL x :: vI i :: vR a :: st' ∧ σ.2.2.1[a]? = some (.inl .long, n) ∧ 0 ≤ i ∧ i < (n : Int) ∧ 2 ≤ a ∧ σ' = am_set σ a i.toNat x := by
  unfold am_aputL at h
  split at h
  · split at h
    · rename_i hq
      split at h
      · rename_i h3
        obtain ⟨rfl, h4, h5, h6⟩ := h3
        cases h
        exact ⟨_, _, _, _, rfl, hq, h4, h5, h6, rfl⟩
      · cases h
    · cases h
  · cases h
theorem am_aputR_inv {st st' : List am_V} {σ σ' : am_S} (h : am_aputR st σ = some (st', σ')) : ∃ c i a n k, st = vR c :: vI i :: vR a :: st' ∧ σ.2.2.1[a]? = some (.inl am_strip, n) ∧ σ.2.2.1[c]? = some (.inr 6, k) ∧ 0 ≤ i ∧ i < (n : Int) ∧ 2 ≤ a ∧ 2 ≤ c ∧ σ' = am_setR σ a i.toNat (some c) := by
  unfold am_aputR at h
  split at h
  · split at h
    · rename_i hq hc
      split at h
      · rename_i h3
        obtain ⟨rfl, h4, h5, h6, h7⟩ := h3
        cases h
        exact ⟨_, _, _, _, _, rfl, hq, hc, h4, h5, h6, h7, rfl⟩
      · cases h
    · cases h
  · cases h
theorem am_alen_inv {st st' : List am_V} {σ σ' : am_S} (h : am_alen st σ = some (st', σ')) : ∃ a r t n, st = vR a :: r ∧ σ.2.2.1[a]? = some (.inl t, n) ∧ (n : Int) < 1000000 ∧ st' = vI n :: r ∧ σ = σ' := by
  unfold am_alen at h
  split at h
  · split at h
    · rename_i hq
      split at h
      · rename_i h3
        cases h
        exact ⟨_, _, _, _, rfl, hq, h3, rfl, rfl⟩
      · cases h
    · cases h
  · cases h
theorem am_newa_inv {t : FieldType} {st st' : List am_V} {σ σ' : am_S} (h : am_newa t st σ = some (st', σ')) : ∃ n r, st = vI n :: r ∧ 0 ≤ n ∧ n ≤ 1000000 ∧ st' = vR σ.2.2.1.length :: r ∧ σ' = am_new σ (.inl t, n.toNat) := by
  unfold am_newa at h
  split at h
  · split at h
    · rename_i h3
      cases h
      exact ⟨_, _, rfl, h3.1, h3.2, rfl, rfl⟩
    · cases h
  · cases h
theorem am_getf_inv {c k : Nat} {st st' : List am_V} {σ σ' : am_S} (h : am_getf c k st σ = some (st', σ')) : ∃ a r n, st = vR a :: r ∧ σ.2.2.1[a]? = some (.inr c, n) ∧ 2 ≤ a ∧ st' = am_gv (am_fty c k) a k σ :: r ∧ σ = σ' := by
  unfold am_getf at h
  split at h
  · split at h
    · rename_i h3
      obtain ⟨n, h4, h5⟩ := am_isO_inv h3
      cases h
      exact ⟨_, _, n, rfl, h4, h5, rfl, rfl⟩
    · cases h
  · cases h
theorem am_putf_inv {c k : Nat} {st st' : List am_V} {σ σ' : am_S} (h : am_putf c k st σ = some (st', σ')) : ∃ v a n, st = v :: vR a :: st' ∧ σ.2.2.1[a]? = some (.inr c, n) ∧ 2 ≤ a ∧ am_pv (am_fty c k) a k v σ = some σ' := by
  unfold am_putf at h
  split at h
  · split at h
    · rename_i h3
      obtain ⟨n, h4, h5⟩ := am_isO_inv h3
      rw [Option.map_eq_some_iff] at h
      obtain ⟨σ2, h6, h7⟩ := h
      cases h7
      exact ⟨_, _, n, rfl, h4, h5, h6⟩
    · cases h
  · cases h
theorem am_acopy_inv {st st' : List am_V} {σ σ' : am_S} (h : am_acopy st σ = some (st', σ')) : ∃ n dp d sp a n0 n1, st = vI n :: vI dp :: vR d :: vI sp :: vR a :: st' ∧ σ.2.2.1[a]? = some (.inl .int, n0) ∧ σ.2.2.1[d]? = some (.inl .int, n1) ∧ 0 ≤ n ∧ 0 ≤ dp ∧ 0 ≤ sp ∧ sp + n ≤ (n0 : Int) ∧ dp + n ≤ (n1 : Int) ∧ 2 ≤ a ∧ 2 ≤ d ∧ (st'.map am_cat).sum ≤ 8 ∧ σ' = am_cpy σ a sp.toNat d dp.toNat n.toNat := by
  unfold am_acopy at h
  split at h
  · split at h
    · rename_i hq hc
      split at h
      · rename_i h3
        obtain ⟨rfl, rfl, h4, h5, h6, h7, h8, h9, h10, h11⟩ := h3
        cases h
        exact ⟨_, _, _, _, _, _, _, rfl, hq, hc, h4, h5, h6, h7, h8, h9, h10, h11, rfl⟩
      · cases h
    · cases h
  · cases h
theorem am_map_cat (z w b : Nat) (st : List am_V) : ((st.map (am_tv z w b)).map fun v => v.category).sum = (st.map am_cat).sum := by
  rw [List.map_map]
  congr 1
  apply List.map_congr_left
  intro v _
  exact am_tv_cat z w b v
theorem am_gv_ne (t : FieldType) (a : Nat) {j k : Nat} (x : Int) (σ : am_S) (h : ¬ j = k) : am_gv t a j (am_set σ a k x) = am_gv t a j σ := am_gv_eq (if_neg (fun q => h q.2)) rfl
theorem am_gvR_ne (t : FieldType) (a : Nat) {j k : Nat} (x : Option Nat) (σ : am_S) (h : ¬ j = k) : am_gv t a j (am_setR σ a k x) = am_gv t a j σ := am_gv_eq rfl (if_neg (fun q => h q.2))
theorem am_setc {z w b : Nat} {t : FieldType} {a k : Nat} {x : Int} {σ : am_S} {v : am_V} (hv : am_gv t a k (am_set σ a k x) = v) : (fun j => am_tv z w b (am_gv t a j (am_set σ a k x))) = updV (fun j => am_tv z w b (am_gv t a j σ)) k (am_tv z w b v) := by
  funext j
  unfold updV
  by_cases h : j = k
  · subst h
    rw [if_pos rfl, hv]
  · rw [if_neg h, am_gv_ne t a x σ h]
def am_okf (t : FieldType) : Bool := match t with
  | .int => true
  | .long => true
  | .byte => true
  | .boolean => true
  | .object _ => true
  | .array _ => true
  | _ => false
theorem am_ftok (c k : Nat) : am_okf (am_fty c k) = true := by
  unfold am_fty
  split
  · unfold am_ty0; split <;> rfl
  · unfold am_ty1; split <;> rfl
  · unfold am_ty2; split <;> rfl
  · unfold am_ty3; split <;> rfl
  · unfold am_ty4; split <;> rfl
  · unfold am_ty5; split <;> rfl
  · unfold am_ty6; split <;> rfl
  · unfold am_ty7; split <;> rfl
  · unfold am_ty8; split <;> rfl
  · unfold am_ty9; split <;> rfl
  · unfold am_ty10; split <;> rfl
section SIMME
variable {p : Program} {l0 : Launch} {e : Env} {R : Room} {s : State} {m : MethodId} {args : Array Value} {below : List Frame} {meth : Method} {c : Code} {H : Heap} {locs : List Loc} {cells slots : Nat} {Q : State → Prop} {cc : ByteArray} {pc : Nat} {ls : Array Slot}
variable {z w b L : Nat} {xs : Nat → Int32} {D : va_G} {o : Nat} {ini : Bool} {maxL : Nat} {ret : Option FieldType} {RF RL : Nat} {sts : List Nat} {len : Nat}
/-- an array of numbers, stored into -/
theorem am_st_ce {t : FieldType} {a k n : Nat} {x : Int} {σ : am_S} {v : am_V} {H1 : Heap} {cA : ClassId} (hok : am_okt t) (hA : ArrOfT s cA t) (hR : va_RA s cA t) (hg : ∀ j, j < n → am_rg (am_gv t a j σ)) (hv : am_gv t a k (am_set σ a k x) = v) (hvr : am_rg v)
    (e1 : H1[am_ad z w b a]? = some ((arrV cA n (fun j => am_tv z w b (am_gv t a j σ))).setSlot k (am_tv z w b v))) : am_ce z w b D (am_set σ a k x) s H1 a (.inl t, n) := by
  refine ⟨hok, ⟨cA, ?_, hA, hR⟩, fun j hj => ?_⟩
  · rw [e1, arrV_store, am_setc hv]
  · by_cases h : j = k
    · subst h
      rw [hv]
      exact hvr
    · rw [am_gv_ne t a x σ h]
      exact hg j hj
theorem am_set_other (σ : am_S) (a k : Nat) (x : Int) : ∀ c j, c ≠ a → (am_set σ a k x).1 c j = σ.1 c j ∧ (am_set σ a k x).2.1 c j = σ.2.1 c j := fun c j hc => ⟨if_neg (fun q => hc q.1), rfl⟩
theorem am_setR_other (σ : am_S) (a k : Nat) (x : Option Nat) : ∀ c j, c ≠ a → (am_setR σ a k x).1 c j = σ.1 c j ∧ (am_setR σ a k x).2.1 c j = σ.2.1 c j := fun c j hc => ⟨rfl, if_neg (fun q => hc q.1)⟩
theorem am_zA {a : Nat} (h : 2 ≤ a) : (fun q : Nat => z ≤ q) (am_ad z w b a) := by
  show z ≤ am_ad z w b a
  rw [am_ad2 h]
  omega
set_option maxHeartbeats 4000000 in
theorem am_copyi (hexec : p.tables.exec = Jvm.exec) (hb : c.code = cc) (hml : c.maxLocals = ls.size) {own : String} {index : Nat} (hown : s.vm.findClass own = some m.cls) (hlink : (Cond.methodLink own index arraycopyName).before args s = true) (hnat : (Cond.native arraycopyName).before args s = true) (hstat : (Cond.static arraycopyName).before args s = true) (hini : (Cond.initialized "java/lang/System").before args s = true)
    {a0 a : Nat} {c0 c1 : ClassId} {n0 n1 : Nat} {f g : Nat → Int32} (hc0 : H[a0]? = some (vp_cell c0 (n0, .inl f))) (hc1 : H[a]? = some (vp_cell c1 (n1, .inl g))) (ht0 : ArrOfT s c0 .int) (ht1 : ArrOfT s c1 .int)
    {sp dp n : Int32} (h1 : ¬ sp < 0) (h2 : ¬ dp < 0) (h3 : ¬ n < 0) (h4 : sp.toNatClampNeg + n.toNatClampNeg ≤ n0) (h5 : dp.toNatClampNeg + n.toNatClampNeg ≤ n1)
    {rest : List Value} (hframes : 1 ≤ R.frames) (hlocals : (rest.map fun v => v.category).sum + (nativeFrameWords "java/lang/System" "arraycopy" 5 + 11) ≤ R.locals) (hdg : decode cc pc = .ok (.invokestatic index, 3))
    (kk : ∀ (H1 : Heap) (L : List Loc), H1[a]? = some (vp_cell c1 (n1, .inl (va_cpy f g sp.toNatClampNeg dp.toNatClampNeg n.toNatClampNeg))) → H1.size = H.size → (∀ q, q ≠ a → H1[q]? = H[q]?) → (∀ q ∈ L, q.base = a) → W p l0 e R s m args below meth c H1 (locs ++ L) cells slots Q (F0 m (pc + 3) ls rest)) : W p l0 e R s m args below meth c H locs cells slots Q (F0 m pc ls (.int n :: .int dp :: .ref a :: .int sp :: .ref a0 :: rest)) := by
  have nn : ∀ z : Int32, ¬ z < 0 → z.toInt = (z.toNatClampNeg : Int) := by
    intro z hz
    have hz0 : (0 : Int) ≤ z.toInt := by
      have := Int32.not_lt.mp hz
      simpa using Int32.le_iff_toInt_le.mp this
    show z.toInt = ((z.toInt.toNat : Nat) : Int)
    omega
  intro T hT X
  obtain ⟨-, k0, hk0, cm0, hkk0⟩ := ht0 n0 (fun j => .int (f j))
  obtain ⟨-, k1, hk1, cm1, hkk1⟩ := ht1 n1 (fun j => .int (g j))
  obtain ⟨vm', X', step⟩ := X.arraycopy hexec hown hlink hnat hstat hini (src := a0) (dst := a) (cs := vp_cell c0 (n0, .inl f)) (cd := vp_cell c1 (n1, .inl g)) (srcPos := sp) (destPos := dp) (n := n) (by rw [hT]; exact hc0) (by rw [hT]; exact hc1)
    (fun _ h => by cases h) (fun _ h => by cases h) (fun h => by cases h) (fun h => by cases h) hk0 hk1 hkk0 hkk1 rfl h1 h2 h3
    (by rw [nn sp h1, nn n h3]; show ¬ _ > ((arrV c0 n0 (fun j => .int (f j))).slots.size : Int); rw [arrV_size]; omega)
    (by rw [nn dp h2, nn n h3]; show ¬ _ > ((arrV c1 n1 (fun j => .int (g j))).slots.size : Int); rw [arrV_size]; omega)
    (fun vm₁ _ i hi => by
      have e : (vp_cell c0 (n0, .inl f)).slots.getD (sp.toNatClampNeg + i) .null = .int (f (sp.toNatClampNeg + i)) := by
        show (arrV c0 n0 (fun j => .int (f j))).slots.getD _ _ = _
        rw [Array.getD_eq_getD_getElem?, arrV_read _ _ (by omega)]
        rfl
      refine ⟨?_, ?_⟩
      · rw [e]
        rfl
      · rw [e]
        exact trivial)
    (g := F0 m pc ls (.int n :: .int dp :: .ref a :: .int sp :: .ref a0 :: rest)) rfl (by rw [hml]) (rest := rest) rfl (by rw [hb]; exact hdg) hframes (by show 2 * 0 + _ + _ ≤ _; omega)
  have e1 : copied (vp_cell c0 (n0, .inl f)) (vp_cell c1 (n1, .inl g)) sp dp n = vp_cell c1 (n1, .inl (va_cpy f g sp.toNatClampNeg dp.toNatClampNeg n.toNatClampNeg)) := va_copied (fun z => .int z) c0 c1 f g h4
  rw [e1] at X' step
  have hl : a < H.size := (Array.getElem?_eq_some_iff.mp hc1).1
  have hheap : ((T.setVm vm').setCell a (vp_cell c1 (n1, .inl (va_cpy f g sp.toNatClampNeg dp.toNatClampNeg n.toNatClampNeg)))).heap = H.setIfInBounds a (vp_cell c1 (n1, .inl (va_cpy f g sp.toNatClampNeg dp.toNatClampNeg n.toNatClampNeg))) := by rw [← hT]; rfl
  have oq : ∀ q : Nat, q ≠ a → (H.setIfInBounds a (vp_cell c1 (n1, .inl (va_cpy f g sp.toNatClampNeg dp.toNatClampNeg n.toNatClampNeg))))[q]? = H[q]? := fun q hq => by simp [Array.getElem?_setIfInBounds, Ne.symm hq]
  obtain ⟨t, a1, b1⟩ := kk _ _ (show (H.setIfInBounds a _)[a]? = some _ by simp [Array.getElem?_setIfInBounds, hl]) (by simp) oq (fun q hq => by
    obtain ⟨z, -, hz⟩ := List.mem_map.mp hq
    rw [← hz]) _ hheap X'
  exact ⟨t, step t a1, b1⟩
set_option maxHeartbeats 8000000 in
theorem am_sim_me (hx : p.tables.exec = Jvm.exec) (hb : c.code = cc) (hml : c.maxLocals = maxL) (hown : s.vm.findClass (am_cn o) = some m.cls) (hts : ∀ q ∈ lw_gt, q.before args s = true) (hF : am_FX z w b L xs D s) (hini : ini = true → meth.name = "<init>") (hRF : R.frames = RF) (hRL : R.locals = RL)
    {i : Instr} {ops : List Nat} {v : Int} {l : am_Lc} {st st' : List am_V} {σ σ' : am_S} (h : am_me i ops st σ = some (st', σ')) (hdg : decode cc pc = .ok (i, len)) (hs : am_side o ini maxL ret RF RL sts pc len i ops v = true)
    (hl : lv_has ls maxL (l.map (am_t2 z w b))) (gs : ∀ u ∈ st, am_rg u) (hH : am_HR z w b L xs D σ s H) (hS : va_S (fun q => z ≤ q) s.heap H locs) (hrc : cells + σ'.2.2.2.1 ≤ R.cells + σ.2.2.2.1) (hrs : slots + σ'.2.2.2.2 ≤ R.slots + σ.2.2.2.2)
    (kk : ∀ H1 locs1 cells1 slots1, am_HR z w b L xs D σ' s H1 → va_S (fun q => z ≤ q) s.heap H1 locs1 → cells1 + σ.2.2.2.1 = cells + σ'.2.2.2.1 → slots1 + σ.2.2.2.2 = slots + σ'.2.2.2.2 → (∀ u ∈ st', am_rg u) → W p l0 e R s m args below meth c H1 locs1 cells1 slots1 Q (F0 m (pc + len) ls (st'.map (am_tv z w b)))) :
    W p l0 e R s m args below meth c H locs cells slots Q (F0 m pc ls (st.map (am_tv z w b))) := by
  obtain ⟨hK, hZ, hXw, hXb, ⟨hwz, hbz, hzs⟩, hng, hnm, hao⟩ := hF
  have hE := hH
  obtain ⟨z1, z2, l0', l1', y0, y1, hce⟩ := hE
  have sameK : ∀ {r}, st' = r → σ' = σ → True := fun _ _ => trivial
  unfold am_me at h
  split at h
  · -- getfield
    split at h
    · rename_i idx cx kx
      simp only [am_side, Bool.and_eq_true, beq_iff_eq, decide_eq_true_eq, List.any_eq_true] at hs
      obtain ⟨rfl, ⟨hc, hk⟩, q, hq, ⟨⟨e1, e2⟩, e3⟩, e4⟩ := hs
      obtain ⟨a, r, n, rfl, hla, ha2, rfl, rfl⟩ := am_getf_inv h
      have hlk := hts _ (am_FLk q hq)
      rw [e1, e2, e3, e4] at hlk
      obtain ⟨-, ⟨cell, q1, q2, q3, q4⟩, hrg⟩ := hce a _ ha2 hla
      obtain ⟨hSl, hfc, kC, hkC, hkind⟩ := hK.1 cx _ (am_clA cx hc)
      obtain ⟨cf, kf, fi, f, hi, hsl⟩ := hSl kx hk
      refine W.getf (g := F0 m pc ls _) hx hb hown hlk hi (u_facts hfc hkC (u_lays hts (am_inA cx hc) hk) hi).1 q1 (by rw [q3]; exact fun h => by cases h) (v := am_tv z w b (am_gv (am_fty cx kx) a kx σ)) (by rw [hsl]; exact q4 kx hk) rfl rfl hdg ?_
      exact kk H locs cells slots hH hS rfl rfl (rg_c (hrg kx hk) (rg_t gs))
    · cases h
  · -- putfield
    split at h
    · rename_i idx cx kx
      simp only [am_side, Bool.and_eq_true, beq_iff_eq, decide_eq_true_eq, List.any_eq_true] at hs
      obtain ⟨rfl, ⟨⟨hc, hk⟩, q, hq, ⟨⟨e1, e2⟩, e3⟩, e4⟩, hfin⟩ := hs
      obtain ⟨v, a, n, rfl, hla, ha2, hpv⟩ := am_putf_inv h
      have hlk := hts _ (am_FLk q hq)
      rw [e1, e2, e3, e4] at hlk
      obtain ⟨-, ⟨cell, q1, q2, q3, q4⟩, hrg⟩ := hce a _ ha2 hla
      obtain ⟨hSl, hfc, kC, hkC, hkind⟩ := hK.1 cx _ (am_clA cx hc)
      have hap := va_apart (own := am_cn o) (D := D) hts (am_inA cx hc) (am_fty cx) (am_tkA cx hc) (am_nmA cx hc) hK (am_clA cx hc)
      obtain ⟨cf, kf, fi, f, hi, hsl⟩ := hSl kx hk
      have gv := rg_h gs
      obtain ⟨p1, p2, p3, p4, p5, p6⟩ := am_pv_inv (z := z) (w := w) (b := b) hpv gv
      have hst := (u_facts hfc hkC (u_lays hts (am_inA cx hc) hk) hi).1
      have hgo : ∀ H' : Heap, H'[am_ad z w b a]? = some (cell.setSlot (D.2 cx kx) (am_tv z w b v)) → H'.size = H.size → (∀ q, q ≠ am_ad z w b a → H'[q]? = H[q]?) → W p l0 e R s m args below meth c H' (locs ++ [⟨am_ad z w b a, D.2 cx kx⟩]) cells slots Q (F0 m (pc + 3) ls (st'.map (am_tv z w b))) := by
        intro H' f1 f2 f3
        refine kk H' _ cells slots (am_HR_put hH ha2 hla (by rw [p3]) p4 f2 f3 ⟨hc, ?_, ?_⟩) (hS.put f2 f3 (am_zA ha2)) (by rw [p3]) (by rw [p3]) (rg_t (rg_t gs))
        · refine t_OB.to (V := updV (fun k => am_tv z w b (am_gv (am_fty cx k) a k σ)) kx (am_tv z w b v)) ⟨_, f1, q2, q3, t_set q4 hap hk _⟩ (fun j hj => ?_)
          unfold updV
          by_cases hjk : j = kx
          · subst hjk
            rw [if_pos rfl, p1]
          · rw [if_neg hjk, p2 _ a j (Or.inr hjk)]
        · intro j hj
          by_cases hjk : j = kx
          · subst hjk
            rw [p1]
            exact gv
          · rw [p2 _ a j (Or.inr hjk)]
            exact hrg j hj
      have hlay := hts _ (am_inA cx hc _ (u_in_lay hk))
      unfold u_lay at hlay
      by_cases hf : (am_Tt cx kx).2.2.2 = true
      · rw [if_pos hf] at hlay
        have hio : ini = true ∧ cx = o := by
          rcases Bool.or_eq_true _ _ ▸ hfin with h1 | h1
          · rw [hf] at h1; cases h1
          · exact ⟨(Bool.and_eq_true _ _ ▸ h1).1, of_decide_eq_true (Bool.and_eq_true _ _ ▸ h1).2⟩
        have hcf : m.cls = cf := by
          obtain ⟨_, _, c', _, _, _, -, -, hf', -, -, -, hown2, -⟩ := Cond.laysFinal_spec hlay
          have e5 : c' = cf := by have := hi.symm.trans hf'; simp at this; exact this.1.symm
          rw [am_dcA cx hc kx hk, hio.2] at hown2
          rw [← e5]; exact Option.some.inj (hown.symm.trans hown2)
        have h6 := u_fits hfc hkC hkind (Or.inr hlay) hi (am_tkA cx hc kx hk) p5 p6
        refine W.putFinK (g := F0 m pc ls _) hx hb hown hlk hi hst hcf (hini hio.1) (by rw [q2]; exact h6) q1 q3 (by rw [hsl]; exact k2_hasslot (q4 kx hk)) rfl rfl hdg fun H' f1 f2 f3 => ?_
        rw [hsl] at f1 ⊢
        exact hgo H' f1 f2 f3
      · rw [if_neg hf] at hlay
        have h6 := u_store hfc hkC hkind hlay hi (am_tkA cx hc kx hk) p5 p6
        refine W.putK (g := F0 m pc ls _) hx hb (f := f) ⟨hown, hlk, ⟨_, _, _, hi⟩, hst⟩ (by rw [q2]; exact h6) q1 q3 (by rw [hsl]; exact k2_hasslot (q4 kx hk)) rfl rfl hdg fun H' f1 f2 f3 => ?_
        rw [hsl] at f1 ⊢
        exact hgo H' f1 f2 f3
    · cases h
  · -- getstatic
    rename_i idx
    simp only [am_side, Bool.and_eq_true, beq_iff_eq, decide_eq_true_eq, List.any_eq_true] at hs
    obtain ⟨rfl, q, hq, e1, e2⟩ := hs
    cases h
    have hn := va_Nw.use (A := args) rfl (hng q hq)
    rw [e1, e2] at hn
    exact va_getsN hx hb hZ hS hown hn (fun _ h => h) hdg (kk H locs cells slots hH hS rfl rfl (rg_c trivial gs))
  · -- iaload
    simp only [am_side, beq_iff_eq] at hs
    subst hs
    obtain ⟨i, a, r, n, rfl, hla, h0, hn, rfl, rfl⟩ := am_aget_inv h
    have gi : am_r32 i := rg_h gs
    have kk' := kk H locs cells slots hH hS rfl rfl
    by_cases ha2 : 2 ≤ a
    · obtain ⟨-, ⟨cA, q1, q2, -⟩, hrg⟩ := hce a _ ha2 hla
      refine W.iald (g := F0 m pc ls _) hx hb q1 (q2 _ _) (fun h => by cases h) (am_in gi h0 hn) (v := am_tv z w b (am_gv .int a i.toNat σ)) (by rw [i32_clamp gi]; exact arrV_read _ _ (by omega)) rfl rfl hdg ?_
      exact kk' (rg_c (hrg _ (by omega)) (rg_t (rg_t gs)))
    · rcases (show a = 0 ∨ a = 1 by omega) with rfl | rfl
      · cases l0'.symm.trans hla
        have ev : am_gv .int 0 i.toNat σ = vI (am_wv i.toNat).toInt := by simp [am_gv, y0]
        rw [ev] at kk'
        refine va_ti hx hb hXw hS (am_inx gi h0 hn) (v := Value.int (am_wv (Int32.ofInt i).toNatClampNeg)) rfl hdg ?_
        rw [i32_clamp gi, ← of_toInt (am_wv i.toNat)]
        exact kk' (rg_c (i32_rg _) (rg_t (rg_t gs)))
      · cases l1'.symm.trans hla
        have ev : am_gv .int 1 i.toNat σ = vI (xs i.toNat).toInt := by simp [am_gv, y1]
        rw [ev] at kk'
        refine va_sld hx hb hXb (by omega) (by show ¬ z ≤ b; omega) hS (am_inx gi h0 hn) hdg ?_
        rw [i32_clamp gi, ← of_toInt (xs i.toNat)]
        exact kk' (rg_c (i32_rg _) (rg_t (rg_t gs)))
  · -- laload
    simp only [am_side, beq_iff_eq] at hs
    subst hs
    obtain ⟨i, a, r, n, rfl, hla, h0, hn, rfl, rfl⟩ := am_aget_inv h
    have gi : am_r32 i := rg_h gs
    have ha2 : 2 ≤ a := by
      rcases (show a = 0 ∨ a = 1 ∨ 2 ≤ a by omega) with rfl | rfl | h2
      · cases l0'.symm.trans hla
      · cases l1'.symm.trans hla
      · exact h2
    obtain ⟨-, ⟨cA, q1, q2, -⟩, hrg⟩ := hce a _ ha2 hla
    refine W.lald (g := F0 m pc ls _) hx hb q1 (q2 _ _) (fun h => by cases h) (am_in gi h0 hn) (v := am_tv z w b (am_gv .long a i.toNat σ)) (by rw [i32_clamp gi]; exact arrV_read _ _ (by omega)) rfl rfl hdg ?_
    exact kk H locs cells slots hH hS rfl rfl (rg_c (hrg _ (by omega)) (rg_t (rg_t gs)))
  · -- baload
    simp only [am_side, beq_iff_eq] at hs
    subst hs
    unfold am_bget at h
    rw [Option.or_eq_some_iff] at h
    rcases h with h | ⟨-, h⟩
    · obtain ⟨i, a, r, n, rfl, hla, h0, hn, rfl, rfl⟩ := am_aget_inv h
      have gi : am_r32 i := rg_h gs
      have ha2 : 2 ≤ a := by
        rcases (show a = 0 ∨ a = 1 ∨ 2 ≤ a by omega) with rfl | rfl | h2
        · cases l0'.symm.trans hla
        · cases l1'.symm.trans hla
        · exact h2
      obtain ⟨-, ⟨cA, q1, q2, -⟩, hrg⟩ := hce a _ ha2 hla
      refine W.bald (g := F0 m pc ls _) hx hb q1 (q2 _ _) (fun h => by cases h) (am_in gi h0 hn) (v := am_tv z w b (am_gv .byte a i.toNat σ)) (by rw [i32_clamp gi]; exact arrV_read _ _ (by omega)) rfl rfl hdg ?_
      exact kk H locs cells slots hH hS rfl rfl (rg_c (hrg _ (by omega)) (rg_t (rg_t gs)))
    · obtain ⟨i, a, r, n, rfl, hla, h0, hn, rfl, rfl⟩ := am_aget_inv h
      have gi : am_r32 i := rg_h gs
      have ha2 : 2 ≤ a := by
        rcases (show a = 0 ∨ a = 1 ∨ 2 ≤ a by omega) with rfl | rfl | h2
        · cases l0'.symm.trans hla
        · cases l1'.symm.trans hla
        · exact h2
      obtain ⟨-, ⟨cA, q1, q2, -⟩, hrg⟩ := hce a _ ha2 hla
      refine W.zald (g := F0 m pc ls _) hx hb q1 (q2 _ _) (fun h => by cases h) (am_in gi h0 hn) (v := am_tv z w b (am_gv .boolean a i.toNat σ)) (by rw [i32_clamp gi]; exact arrV_read _ _ (by omega)) rfl rfl hdg ?_
      exact kk H locs cells slots hH hS rfl rfl (rg_c (hrg _ (by omega)) (rg_t (rg_t gs)))
  · -- aaload
    simp only [am_side, beq_iff_eq] at hs
    subst hs
    obtain ⟨i, a, r, n, rfl, hla, h0, hn, rfl, rfl⟩ := am_aget_inv h
    have gi : am_r32 i := rg_h gs
    have ha2 : 2 ≤ a := by
      rcases (show a = 0 ∨ a = 1 ∨ 2 ≤ a by omega) with rfl | rfl | h2
      · cases l0'.symm.trans hla
      · cases l1'.symm.trans hla
      · exact h2
    obtain ⟨-, ⟨cA, q1, q2, -⟩, hrg⟩ := hce a _ ha2 hla
    refine W.aald (g := F0 m pc ls _) hx hb q1 (q2 _ _) rfl (fun h => by cases h) (am_in gi h0 hn) (v := am_tv z w b (am_gv am_strip a i.toNat σ)) (by rw [i32_clamp gi]; exact arrV_read _ _ (by omega)) rfl rfl hdg ?_
    exact kk H locs cells slots hH hS rfl rfl (rg_c (hrg _ (by omega)) (rg_t (rg_t gs)))
  · -- iastore
    simp only [am_side, beq_iff_eq] at hs
    subst hs
    obtain ⟨x, i, a, n, rfl, hla, h0, hn, ha2, rfl⟩ := am_aput_inv h
    have gx : am_r32 x := rg_h gs
    have gi : am_r32 i := rg_h (rg_t gs)
    obtain ⟨hok, ⟨cA, q1, q2, q3⟩, hrg⟩ := hce a _ ha2 hla
    refine W.iast (g := F0 m pc ls _) hx hb q1 (q2 _ _) (fun h => by cases h) (am_in gi h0 hn) rfl rfl hdg fun H1 f1 f2 f3 => ?_
    rw [i32_clamp gi] at f1 ⊢
    exact kk H1 _ cells slots (am_HR_put hH ha2 hla rfl (am_set_other _ _ _ _) f2 f3 (am_st_ce hok q2 q3 hrg (v := vI x) (by simp [am_gv, am_set, vI]) gx f1)) (hS.put f2 f3 (am_zA ha2)) rfl rfl (rg_t (rg_t (rg_t gs)))
  · -- lastore
    simp only [am_side, beq_iff_eq] at hs
    subst hs
    obtain ⟨x, i, a, n, rfl, hla, h0, hn, ha2, rfl⟩ := am_aputL_inv h
    have gx : am_r64 x := rg_h gs
    have gi : am_r32 i := rg_h (rg_t gs)
    obtain ⟨hok, ⟨cA, q1, q2, q3⟩, hrg⟩ := hce a _ ha2 hla
    refine W.last (g := F0 m pc ls _) hx hb q1 (q2 _ _) (fun h => by cases h) (am_in gi h0 hn) rfl rfl hdg fun H1 f1 f2 f3 => ?_
    rw [i32_clamp gi] at f1 ⊢
    exact kk H1 _ cells slots (am_HR_put hH ha2 hla rfl (am_set_other _ _ _ _) f2 f3 (am_st_ce hok q2 q3 hrg (v := vL x) (by simp [am_gv, am_set, vL]) gx f1)) (hS.put f2 f3 (am_zA ha2)) rfl rfl (rg_t (rg_t (rg_t gs)))
  · -- bastore
    simp only [am_side, beq_iff_eq] at hs
    subst hs
    unfold am_bput at h
    rw [Option.or_eq_some_iff] at h
    rcases h with h | ⟨-, h⟩
    · obtain ⟨x, i, a, n, rfl, hla, h0, hn, ha2, rfl⟩ := am_aput_inv h
      have gx : am_r32 x := rg_h gs
      have gi : am_r32 i := rg_h (rg_t gs)
      obtain ⟨hok, ⟨cA, q1, q2, q3⟩, hrg⟩ := hce a _ ha2 hla
      refine W.bast (g := F0 m pc ls _) hx hb q1 (q2 _ _) (fun h => by cases h) (am_in gi h0 hn) rfl rfl hdg fun H1 f1 f2 f3 => ?_
      rw [i32_clamp gi] at f1 ⊢
      rw [narrow_byte, e_i2b gx] at f1
      exact kk H1 _ cells slots (am_HR_put hH ha2 hla rfl (am_set_other _ _ _ _) f2 f3 (am_st_ce hok q2 q3 hrg (v := vI (w8 x)) (by simp [am_gv, am_set, vI]) (w8_rg x) f1)) (hS.put f2 f3 (am_zA ha2)) rfl rfl (rg_t (rg_t (rg_t gs)))
    · obtain ⟨x, i, a, n, rfl, hla, h0, hn, ha2, rfl⟩ := am_aput_inv h
      have gx : am_r32 x := rg_h gs
      have gi : am_r32 i := rg_h (rg_t gs)
      obtain ⟨hok, ⟨cA, q1, q2, q3⟩, hrg⟩ := hce a _ ha2 hla
      refine W.zast (g := F0 m pc ls _) hx hb q1 (q2 _ _) (fun h => by cases h) (am_in gi h0 hn) rfl rfl hdg fun H1 f1 f2 f3 => ?_
      rw [i32_clamp gi] at f1 ⊢
      rw [show narrow .boolean (.int (Int32.ofInt x)) = .int (Int32.ofInt x &&& 1) from rfl, e_and1] at f1
      exact kk H1 _ cells slots (am_HR_put hH ha2 hla rfl (am_set_other _ _ _ _) f2 f3 (am_st_ce hok q2 q3 hrg (v := vI (x % 2)) (by simp [am_gv, am_set, vI]) (show am_r32 _ by unfold am_r32; omega) f1)) (hS.put f2 f3 (am_zA ha2)) rfl rfl (rg_t (rg_t (rg_t gs)))
  · -- aastore
    simp only [am_side, beq_iff_eq] at hs
    subst hs
    obtain ⟨d, i, a, n, k, rfl, hla, hlc, h0, hn, ha2, hc2, rfl⟩ := am_aputR_inv h
    have gi : am_r32 i := rg_h (rg_t gs)
    obtain ⟨hok, ⟨cA, q1, q2, kA, comp, k1, k2, k3, k4⟩, hrg⟩ := hce a _ ha2 hla
    obtain ⟨-, ⟨cellV, g1, g2, g3, -⟩, -⟩ := hce d _ hc2 hlc
    have hcls := (hK.1 6 _ (am_clA 6 (by omega))).2
    have hcomp : comp = D.1 6 := Option.some.inj (k3.symm.trans hcls.1)
    subst hcomp
    obtain ⟨kC, hkC, -⟩ := hcls.2
    have hlt : i.toNat < n := by omega
    refine W.aast (g := F0 m pc ls _) hx hb q1 (fun q h => by cases h) (fun h => by cases h) k1 k2 rfl hkC ⟨fun q => am_in gi h0 hn (cA := cA) (f := fun j => am_tv z w b (am_gv am_strip a j σ)) (Or.inl q), by rw [arrV_size, i32_clamp gi]; exact hlt⟩ g1 (fun q h => by rw [g3] at h; cases h) (by rw [g2]; exact hkC) (by rw [g2]; exact va_assign hcls) rfl rfl hdg fun H1 f1 f2 f3 => ?_
    rw [i32_clamp gi] at f1 ⊢
    refine kk H1 _ cells slots (am_HR_put hH ha2 hla rfl (am_setR_other _ _ _ _) f2 f3 ⟨hok, ⟨cA, ?_, q2, kA, _, k1, k2, k3, k4⟩, fun j hj => trivial⟩) (hS.put f2 f3 (am_zA ha2)) rfl rfl (rg_t (rg_t (rg_t gs)))
    rw [f1, arrV_store]
    congr 2
    funext j
    unfold updV
    by_cases hj : j = i.toNat
    · subst hj
      rw [if_pos rfl]
      simp [am_gv, am_setR, am_strip, am_tv]
    · rw [if_neg hj, am_gvR_ne am_strip a _ σ hj]
  · -- arraylength
    simp only [am_side, beq_iff_eq] at hs
    subst hs
    obtain ⟨a, r, t, n, rfl, hla, hn, rfl, rfl⟩ := am_alen_inv h
    have kk' := kk H locs cells slots hH hS rfl rfl (rg_c (show am_r32 _ from ⟨by omega, by omega⟩) (rg_t gs))
    have en : Int32.ofInt (n : Int) = Int32.ofNat n := Int32.ofInt_eq_ofNat
    by_cases ha2 : 2 ≤ a
    · obtain ⟨-, ⟨cA, q1, q2, -⟩, hrg⟩ := hce a _ ha2 hla
      exact W.alen (g := F0 m pc ls _) hx hb q1 (q2 _ _) (n := Int32.ofInt (n : Int)) (by rw [arrV_size, en]) rfl rfl hdg kk'
    · rcases (show a = 0 ∨ a = 1 by omega) with rfl | rfl
      · cases l0'.symm.trans hla
        exact va_tlen hx hb hXw hS rfl hdg (by rw [← en]; exact kk')
      · cases l1'.symm.trans hla
        exact va_slen (b := b) hx hb hXb (by omega) (by show ¬ z ≤ b; omega) hS hdg (by rw [← en]; exact kk')
  · -- newarray
    rename_i t
    simp only [am_side, Bool.and_eq_true, beq_iff_eq, decide_eq_true_eq] at hs
    obtain ⟨rfl, ht⟩ := hs
    obtain ⟨n, r, rfl, h0, hn, rfl, rfl⟩ := am_newa_inv h
    have gn : am_r32 n := rg_h gs
    have hcw : (Cond.arrayClass (newarray.typeOf t)).before args s = true := by
      rcases ht with h1 | h1 | h1 | h1 <;> rw [h1]
      · exact hts _ am_aci.1
      · exact hts _ am_aci.2.1
      · exact hts _ am_aci.2.2.1
      · exact hts _ am_aci.2.2.2
    have hcb : componentBytes (newarray.typeOf t) ≤ 8 := by
      rcases ht with h1 | h1 | h1 | h1 <;> rw [h1] <;> decide
    have hn0 : ¬ Int32.ofInt n < 0 := by
      rw [show (0 : Int32) = Int32.ofInt 0 from rfl, i32_lt gn r32_0]
      omega
    have hlen : am_ad z w b σ.2.2.1.length = H.size := by
      rw [am_ad2 z2]
      omega
    have hrc' : cells + (σ.2.2.2.1 + 1) ≤ R.cells + σ.2.2.2.1 := hrc
    have hrs' : slots + (σ.2.2.2.2 + n.toNat) ≤ R.slots + σ.2.2.2.2 := hrs
    refine va_newaK (g := F0 m pc ls _) hx hb hcw rfl hdg rfl hn0 (i32_clamp gn) (Nat.le_trans (Nat.mul_le_mul (show n.toNat ≤ 1000000 by omega) hcb) (by omega)) (by omega) (by omega) rfl fun H1 cA f1 f2 f3 f4 f5 => ?_
    rw [← hlen] at f1 ⊢
    refine kk H1 locs _ _ (am_HR_new hH (by rw [f2]) f3 ⟨?_, ⟨cA, ?_, f4, ?_⟩, ?_⟩) ⟨Nat.le_trans hS.1 (by omega), fun q g1 g2 => (f3 q (Nat.lt_of_lt_of_le g1 hS.1)).trans (hS.2.1 q g1 g2), hS.2.2⟩ (by show _ = cells + (σ.2.2.2.1 + 1); omega) (by show _ = slots + (σ.2.2.2.2 + n.toNat); omega) (rg_c trivial (rg_t gs))
    · rcases ht with h1 | h1 | h1 | h1
      · exact Or.inl h1
      · exact Or.inr (Or.inl h1)
      · exact Or.inr (Or.inr (Or.inl h1))
      · exact Or.inr (Or.inr (Or.inr (Or.inl h1)))
    · rw [f1]
      congr 2
      funext j
      show defaultValue (newarray.typeOf t) = am_tv z w b (am_gv (newarray.typeOf t) _ j _)
      rcases ht with h1 | h1 | h1 | h1 <;> rw [h1] <;> simp [am_gv, am_new, am_tv, defaultValue] <;> rfl
    · show va_RA s cA (newarray.typeOf t)
      rcases ht with h1 | h1 | h1 | h1 <;> rw [h1] at f5 ⊢ <;> exact f5
    · intro j _
      show am_rg (am_gv (newarray.typeOf t) _ j _)
      rcases ht with h1 | h1 | h1 | h1 <;> rw [h1] <;> simp [am_gv, am_new, am_rg, am_r32, am_r64]
  · -- anewarray
    rename_i idx
    simp only [am_side, Bool.and_eq_true, beq_iff_eq, decide_eq_true_eq, List.any_eq_true] at hs
    obtain ⟨rfl, q, hq, ⟨e1, e2⟩, e3⟩ := hs
    unfold am_newq at h
    obtain ⟨n, r, rfl, h0, hn, rfl, rfl⟩ := am_newa_inv h
    have gn : am_r32 n := rg_h gs
    have hlk := hts _ (am_CKk q hq)
    rw [e1, e2, e3] at hlk
    have hn0 : ¬ Int32.ofInt n < 0 := by
      rw [show (0 : Int32) = Int32.ofInt 0 from rfl, i32_lt gn r32_0]
      omega
    have hlen : am_ad z w b σ.2.2.1.length = H.size := by
      rw [am_ad2 z2]
      omega
    have hrc' : cells + (σ.2.2.2.1 + 1) ≤ R.cells + σ.2.2.2.1 := hrc
    have hrs' : slots + (σ.2.2.2.2 + n.toNat) ≤ R.slots + σ.2.2.2.2 := hrs
    refine W.anew (g := F0 m pc ls _) hx hb hown hlk (va_AO.use hao) rfl hdg rfl hn0 (by rw [i32_clamp gn]; omega) (by omega) (by rw [i32_clamp gn]; omega) fun cA kA comp f1 f2 f3 f4 => ?_
    rw [i32_clamp gn]
    generalize hH1 : H.push ({ cls := cA, slots := Array.replicate n.toNat .null, vm := .none } : Cell) = H1
    have w1 : H1.size = H.size + 1 := by rw [← hH1, Array.size_push]
    have w2 : H1[H.size]? = some (arrV cA n.toNat (fun _ => .null)) := by rw [← hH1, Array.getElem?_push_size, ← arrV_new]
    have w3 : ∀ q : Nat, q < H.size → H1[q]? = H[q]? := fun q hq => by rw [← hH1, Array.getElem?_push, if_neg (Nat.ne_of_lt hq)]
    have hAr : ArrOfT s cA am_strip := fun N z => ⟨(fun k h => by cases h), kA, f2, comp, f3⟩
    rw [← hlen] at w2 ⊢
    refine kk H1 locs _ _ (am_HR_new hH w1 w3 ⟨Or.inr (Or.inr (Or.inr (Or.inr rfl))), ⟨cA, ?_, hAr, ?_⟩, fun j _ => trivial⟩) ⟨Nat.le_trans hS.1 (by omega), fun q g1 g2 => (w3 q (Nat.lt_of_lt_of_le g1 hS.1)).trans (hS.2.1 q g1 g2), hS.2.2⟩ (by show _ = cells + (σ.2.2.2.1 + 1); omega) (by show _ = slots + (σ.2.2.2.2 + n.toNat); omega) (rg_c trivial (rg_t gs))
    · rw [w2]
      congr 2
      funext j
      simp [am_gv, am_new, am_strip, am_tv]
    · exact ⟨kA, comp, f2, f3, f4, f1⟩
  · -- new
    split at h
    · rename_i idx cx
      simp only [am_side, Bool.and_eq_true, beq_iff_eq, decide_eq_true_eq, List.any_eq_true] at hs
      obtain ⟨rfl, hc, q, hq, ⟨e1, e2⟩, e3⟩ := hs
      unfold am_newo at h
      rw [if_pos hc] at h
      cases h
      have hlk := hts _ (am_CKk q hq)
      rw [e1, e2, e3] at hlk
      have hKn := hK.1 cx _ (am_clA cx hc)
      have hlen : am_ad z w b σ.2.2.1.length = H.size := by
        rw [am_ad2 z2]
        omega
      have hrc' : cells + (σ.2.2.2.1 + 1) ≤ R.cells + σ.2.2.2.1 := hrc
      have hrs' : slots + (σ.2.2.2.2 + am_cN cx) ≤ R.slots + σ.2.2.2.2 := hrs
      refine W.newcK (g := F0 m pc ls _) hx hb hown hlk (hts _ (am_isA cx hc).1) (hts _ (am_isA cx hc).2) rfl hdg (by omega) (by omega) hKn.2.1 rfl fun H1 kC hkC f1 f2 f3 => ?_
      have hob := u_born (am_fty cx) hts (am_inA cx hc) hKn hkC f1 (am_tkA cx hc)
      rw [← hlen] at hob ⊢
      have hdv : ∀ k, defaultValue (am_fty cx k) = am_tv z w b (am_gv (am_fty cx k) σ.2.2.1.length k (am_new σ (.inr cx, am_cN cx))) := by
        intro k
        have e0 : (am_new σ (.inr cx, am_cN cx)).1 σ.2.2.1.length k = 0 := if_pos rfl
        have e1 : (am_new σ (.inr cx, am_cN cx)).2.1 σ.2.2.1.length k = none := if_pos rfl
        have hok := am_ftok cx k
        unfold am_gv
        rw [e0, e1]
        cases hty : am_fty cx k <;> rw [hty] at hok <;> first | rfl | cases hok
      refine kk H1 locs _ _ (am_HR_new hH f2 f3 ⟨hc, hob.to (fun k _ => hdv k), fun k _ => ?_⟩) ⟨Nat.le_trans hS.1 (by omega), fun q g1 g2 => (f3 q (Nat.lt_of_lt_of_le g1 hS.1)).trans (hS.2.1 q g1 g2), hS.2.2⟩ (by show _ = cells + (σ.2.2.2.1 + 1); omega) (by show _ = slots + (σ.2.2.2.2 + am_cN cx); omega) (rg_c trivial gs)
      cases am_fty cx k <;> simp [am_gv, am_new, am_rg, am_r32, am_r64]
    · cases h
  · -- Object.<init>
    split at h
    · rename_i idx
      simp only [am_side, Bool.and_eq_true, beq_iff_eq, decide_eq_true_eq, List.any_eq_true] at hs
      obtain ⟨rfl, ⟨⟨q, hq, e1, e2⟩, h1⟩, h2⟩ := hs
      have hlk := hts _ (am_OIk q hq)
      rw [e1, e2] at hlk
      unfold am_initO at h
      split at h
      · rename_i a r
        split at h
        · rename_i hcat
          cases h
          refine W.objInit (g := F0 m pc ls _) hx hb hown hlk (hts _ am_acw.2.2.2.1) (hts _ am_acw.2.2.2.2) rfl (by rw [hml]; exact hl.1) rfl hdg (by omega) (by show 2 * 0 + _ + 12 ≤ _; rw [am_map_cat]; omega) (kk H locs cells slots hH hS rfl rfl (rg_t gs))
        · cases h
      · cases h
    · cases h
  · -- System.arraycopy, Math
    split at h
    · rename_i idx
      simp only [am_side, Bool.and_eq_true, beq_iff_eq, decide_eq_true_eq, List.any_eq_true] at hs
      obtain ⟨rfl, ⟨⟨q, hq, e1, e2⟩, h1⟩, h2⟩ := hs
      have hlk := hts _ (am_ACk q hq)
      rw [e1, e2] at hlk
      obtain ⟨n, dp, d, sp, a, n0, n1, rfl, hla, hld, g0, g1, g2, g3, g4, ha2, hd2, hcat, rfl⟩ := am_acopy_inv h
      have gn : am_r32 n := rg_h gs
      have gdp : am_r32 dp := rg_h (rg_t gs)
      have gsp : am_r32 sp := rg_h (rg_t (rg_t (rg_t gs)))
      obtain ⟨hok0, ⟨cA0, q1, q2, -⟩, hrg0⟩ := hce a _ ha2 hla
      obtain ⟨hok1, ⟨cA1, r1, r2, r3⟩, hrg1⟩ := hce d _ hd2 hld
      have ng : ∀ {x : Int}, am_r32 x → 0 ≤ x → ¬ Int32.ofInt x < 0 := fun {x} hx h0 => by
        rw [show (0 : Int32) = Int32.ofInt 0 from rfl, i32_lt hx r32_0]
        omega
      refine am_copyi (f := fun j => Int32.ofInt (σ.1 a j)) (g := fun j => Int32.ofInt (σ.1 d j)) hx hb (by rw [hml]; exact hl.1.symm) hown hlk (hts _ am_acw.1) (hts _ am_acw.2.1) (hts _ am_acw.2.2.1) q1 r1 q2 r2 (ng gsp g2) (ng gdp g1) (ng gn g0) (by rw [i32_clamp gsp, i32_clamp gn]; omega) (by rw [i32_clamp gdp, i32_clamp gn]; omega) (by omega) (by rw [am_map_cat]; show _ + 18 ≤ _; omega) hdg fun H1 L1 f1 f2 f3 f4 => ?_
      rw [i32_clamp gsp, i32_clamp gdp, i32_clamp gn] at f1
      have hoth : ∀ c j, c ≠ d → (am_cpy σ a sp.toNat d dp.toNat n.toNat).1 c j = σ.1 c j ∧ (am_cpy σ a sp.toNat d dp.toNat n.toNat).2.1 c j = σ.2.1 c j := fun c j hc => ⟨if_neg (fun q => hc q.1), rfl⟩
      refine kk H1 _ cells slots (am_HR_put hH hd2 hld rfl hoth f2 f3 ⟨hok1, ⟨cA1, ?_, r2, r3⟩, fun j hj => ?_⟩) ⟨by rw [f2]; exact hS.1, fun q x1 x2 => ?_, fun q hq => ?_⟩ rfl rfl (rg_t (rg_t (rg_t (rg_t (rg_t gs)))))
      · rw [f1, vp_cell_i]
        congr 2
        funext j
        show Value.int (va_cpy _ _ _ _ _ j) = am_tv z w b (vI (if d = d ∧ dp.toNat ≤ j ∧ j < dp.toNat + n.toNat then σ.1 a (sp.toNat + (j - dp.toNat)) else σ.1 d j))
        unfold va_cpy
        by_cases hj : dp.toNat ≤ j ∧ j < dp.toNat + n.toNat
        · rw [if_pos hj, if_pos ⟨rfl, hj⟩]
          rfl
        · rw [if_neg hj, if_neg (fun q => hj q.2)]
          rfl
      · show am_r32 (if d = d ∧ dp.toNat ≤ j ∧ j < dp.toNat + n.toNat then σ.1 a (sp.toNat + (j - dp.toNat)) else σ.1 d j)
        split
        · rename_i hj
          exact hrg0 _ (by omega)
        · exact hrg1 j hj
      · rw [f3 q (fun e => x2 (by rw [e]; exact am_zA hd2))]
        exact hS.2.1 q x1 x2
      · rcases List.mem_append.mp hq with h | h
        · exact hS.2.2 q h
        · rw [f4 q h]
          exact am_zA hd2
    · rename_i idx k
      simp only [am_side, Bool.and_eq_true, beq_iff_eq, decide_eq_true_eq, List.any_eq_true] at hs
      obtain ⟨rfl, ⟨⟨q, hq, ⟨e1, e2⟩, e3⟩, h1⟩, h2⟩ := hs
      have hlk := hts _ (am_MAk q hq)
      rw [e1, e2, e3] at hlk
      obtain ⟨mw0, ⟨mw1, mw2⟩, ⟨mw3, mw4⟩, mw5, mw6⟩ := am_maw
      have hls : c.maxLocals = ls.size := by rw [hml]; exact hl.1.symm
      unfold am_math at h
      split at h
      · split at h
        · split at h
          · rename_i y x r hcat
            cases h
            have gy : am_r32 y := rg_h gs
            have gx : am_r32 x := rg_h (rg_t gs)
            refine va_mmax hx hb hls hown hlk (hts _ mw1) (hts _ mw0) (hts _ mw2) (by omega) (by rw [am_map_cat]; omega) (by omega) (by omega) hdg ?_
            have := kk H locs cells slots hH hS rfl rfl (rg_c (show am_r32 _ by split <;> assumption) (rg_t (rg_t gs)))
            simp only [i32_lt gx gy]
            by_cases hc : x < y
            · simp only [if_pos hc] at this ⊢; exact this
            · simp only [if_neg hc] at this ⊢; exact this
          · cases h
        · cases h
      · split at h
        · split at h
          · rename_i y x r hcat
            cases h
            have gy : am_r32 y := rg_h gs
            have gx : am_r32 x := rg_h (rg_t gs)
            refine va_mmin hx hb hls hown hlk (hts _ mw3) (hts _ mw0) (hts _ mw4) (by omega) (by rw [am_map_cat]; omega) (by omega) (by omega) hdg ?_
            have := kk H locs cells slots hH hS rfl rfl (rg_c (show am_r32 _ by split <;> assumption) (rg_t (rg_t gs)))
            simp only [i32_lt gy gx]
            by_cases hc : y < x
            · simp only [if_pos hc] at this ⊢; exact this
            · simp only [if_neg hc] at this ⊢; exact this
          · cases h
        · cases h
      · split at h
        · split at h
          · rename_i y x r hcat
            cases h
            have gy : am_r64 y := rg_h gs
            have gx : am_r64 x := rg_h (rg_t gs)
            refine va_mmin_long hx hb hls hown hlk (hts _ mw5) (hts _ mw0) (hts _ mw6) (by omega) (by rw [am_map_cat]; omega) (by omega) (by omega) hdg ?_
            have := kk H locs cells slots hH hS rfl rfl (rg_c (show am_r64 _ by split <;> assumption) (rg_t (rg_t gs)))
            simp only [i64_lt gy gx]
            by_cases hc : y < x
            · simp only [if_pos hc] at this ⊢; exact this
            · simp only [if_neg hc] at this ⊢; exact this
          · cases h
        · cases h
      · cases h
    · cases h
  · cases h
end SIMME
end
section
/-! A RUN OF THE SMALL MACHINE IS ONE OF THE LARGE ONE -/
theorem am_pv_al {ty : FieldType} {a k : Nat} {v : am_V} {σ σ' : am_S} (h : am_pv ty a k v σ = some σ') : σ'.2.2 = σ.2.2 := by
  unfold am_pv at h
  split at h
  · cases h; rfl
  · split at h
    · cases h; rfl
    · cases h
  · cases h; rfl
  · cases h; rfl
  · cases h; rfl
  · cases h
/-- what was made stays made -/
def am_up (σ σ' : am_S) : Prop := σ.2.2.2.1 ≤ σ'.2.2.2.1 ∧ σ.2.2.2.2 ≤ σ'.2.2.2.2
theorem am_up_rf (σ : am_S) : am_up σ σ := ⟨Nat.le_refl _, Nat.le_refl _⟩
theorem am_up_tr {a b c : am_S} (h1 : am_up a b) (h2 : am_up b c) : am_up a c := ⟨Nat.le_trans h1.1 h2.1, Nat.le_trans h1.2 h2.2⟩
theorem am_up_al {σ σ' : am_S} (h : σ'.2.2 = σ.2.2) : am_up σ σ' := by unfold am_up; rw [h]; exact ⟨Nat.le_refl _, Nat.le_refl _⟩
theorem am_up_new (σ : am_S) (q : am_Ly) : am_up σ (am_new σ q) := ⟨Nat.le_succ _, Nat.le_add_right _ _⟩
theorem am_up_me {i : Instr} {ops : List Nat} {st st' : List am_V} {σ σ' : am_S} (h : am_me i ops st σ = some (st', σ')) : am_up σ σ' := by
  unfold am_me at h
  split at h
  · split at h
    · obtain ⟨_, _, _, _, _, _, _, rfl⟩ := am_getf_inv h; exact am_up_rf _
    · cases h
  · split at h
    · obtain ⟨_, _, _, _, _, _, h1⟩ := am_putf_inv h; exact am_up_al (am_pv_al h1)
    · cases h
  · cases h; exact am_up_rf _
  · obtain ⟨_, _, _, _, _, _, _, _, _, rfl⟩ := am_aget_inv h; exact am_up_rf _
  · obtain ⟨_, _, _, _, _, _, _, _, _, rfl⟩ := am_aget_inv h; exact am_up_rf _
  · unfold am_bget at h
    rw [Option.or_eq_some_iff] at h
    rcases h with h | ⟨-, h⟩
    · obtain ⟨_, _, _, _, _, _, _, _, _, rfl⟩ := am_aget_inv h; exact am_up_rf _
    · obtain ⟨_, _, _, _, _, _, _, _, _, rfl⟩ := am_aget_inv h; exact am_up_rf _
  · obtain ⟨_, _, _, _, _, _, _, _, _, rfl⟩ := am_aget_inv h; exact am_up_rf _
  · obtain ⟨_, _, _, _, _, _, _, _, _, rfl⟩ := am_aput_inv h; exact am_up_al rfl
  · obtain ⟨_, _, _, _, _, _, _, _, _, rfl⟩ := am_aputL_inv h; exact am_up_al rfl
  · unfold am_bput at h
    rw [Option.or_eq_some_iff] at h
    rcases h with h | ⟨-, h⟩
    · obtain ⟨_, _, _, _, _, _, _, _, _, rfl⟩ := am_aput_inv h; exact am_up_al rfl
    · obtain ⟨_, _, _, _, _, _, _, _, _, rfl⟩ := am_aput_inv h; exact am_up_al rfl
  · obtain ⟨_, _, _, _, _, _, _, _, _, _, _, _, rfl⟩ := am_aputR_inv h; exact am_up_al rfl
  · obtain ⟨_, _, _, _, _, _, _, _, rfl⟩ := am_alen_inv h; exact am_up_rf _
  · obtain ⟨_, _, _, _, _, _, rfl⟩ := am_newa_inv h; exact am_up_new _ _
  · unfold am_newq at h; obtain ⟨_, _, _, _, _, _, rfl⟩ := am_newa_inv h; exact am_up_new _ _
  · split at h
    · unfold am_newo at h
      split at h
      · cases h; exact am_up_new _ _
      · cases h
    · cases h
  · split at h
    · unfold am_initO at h
      split at h
      · split at h
        · cases h; exact am_up_rf _
        · cases h
      · cases h
    · cases h
  · split at h
    · obtain ⟨_, _, _, _, _, _, _, _, _, _, _, _, _, _, _, _, _, _, rfl⟩ := am_acopy_inv h; exact am_up_al rfl
    · unfold am_math at h
      split at h
      · split at h
        · split at h
          · cases h; exact am_up_rf _
          · cases h
        · cases h
      · split at h
        · split at h
          · cases h; exact am_up_rf _
          · cases h
        · cases h
      · split at h
        · split at h
          · cases h; exact am_up_rf _
          · cases h
        · cases h
      · cases h
    · cases h
  · cases h
theorem am_up_run (P : Nat → List (List am_I)) : ∀ (n : Nat) (bs : List (List am_I)) (is : List am_I) (l : am_Lc) (st : List am_V) (σ : am_S) (r : Option am_V) (σ' : am_S), am_run P n bs is l st σ = some (r, σ') → am_up σ σ' := by
  intro n
  induction n with
  | zero => intro bs is l st σ r σ' h; simp [am_run] at h
  | succ n ih =>
    intro bs is l st σ r σ' h
    cases is with
    | nil => simp [am_run] at h
    | cons i is =>
      obtain ⟨i, ops, v⟩ := i
      rw [am_run] at h
      cases h1 : am_ar i v l st with
      | some q => rw [h1] at h; exact ih _ _ _ _ _ _ _ h
      | none =>
        rw [h1] at h
        dsimp only at h
        cases h2 : am_me i ops st σ with
        | some q => rw [h2] at h; exact am_up_tr (am_up_me h2) (ih _ _ _ _ _ _ _ h)
        | none =>
          rw [h2] at h
          dsimp only at h
          cases h3 : am_ct i ops st with
          | some q =>
            obtain ⟨b, st'⟩ := q
            rw [h3] at h
            cases b with
            | some b => exact ih _ _ _ _ _ _ _ h
            | none => exact ih _ _ _ _ _ _ _ h
          | none =>
            rw [h3] at h
            dsimp only at h
            cases h4 : am_ca i ops v st σ with
            | some q =>
              obtain ⟨m, as, st'⟩ := q
              rw [h4] at h
              dsimp only at h
              cases h5 : am_run P n (P m) ((P m).getD 0 []) (am_args 0 as) [] σ with
              | none => rw [h5] at h; cases h
              | some q =>
                obtain ⟨r1, σ1⟩ := q
                rw [h5] at h
                exact am_up_tr (ih _ _ _ _ _ _ _ h5) (ih _ _ _ _ _ _ _ h)
            | none =>
              rw [h4] at h
              dsimp only at h
              cases h6 : am_rt i ops st with
              | some r1 => rw [h6] at h; cases h; exact am_up_rf _
              | none => rw [h6] at h; cases h
theorem am_condI {c : Jvm.ClassFile.Cond} {x y : Int} : am_cond c x y = true ↔ (match c with
  | .eq => x = y
  | .ne => ¬ x = y
  | .lt => x < y
  | .ge => y ≤ x
  | .gt => y < x
  | .le => x ≤ y) := by
  cases c <;> simp [am_cond]
theorem am_jmp_inv {sts : List Nat} {pc : Nat} {off : Int} {k : Nat} (h : am_jmp sts pc off k = true) : ∃ t, sts[k]? = some t ∧ (pc : Int) + off = (t : Int) := by
  unfold am_jmp at h
  split at h
  · rename_i t ht
    exact ⟨t, ht, of_decide_eq_true h⟩
  · cases h
theorem am_jmps_inv {sts : List Nat} {pc : Nat} : ∀ {os : List Int} {ks : List Nat}, am_jmps sts pc os ks = true → os.length = ks.length ∧ ∀ (j : Nat) (off : Int), os[j]? = some off → ∃ t, sts[ks.getD j 0]? = some t ∧ (pc : Int) + off = (t : Int)
  | [], [], _ => ⟨rfl, fun j off h => by simp at h⟩
  | o :: os, k :: ks, h => by
    unfold am_jmps at h
    rw [Bool.and_eq_true] at h
    obtain ⟨h1, h2⟩ := am_jmps_inv h.2
    refine ⟨by simp [h1], fun j off hj => ?_⟩
    cases j with
    | zero =>
      cases hj
      exact am_jmp_inv h.1
    | succ j => exact h2 j off (by simpa using hj)
  | [], _ :: _, h => by cases h
  | _ :: _, [], h => by cases h
theorem am_look_inv {sts : List Nat} {pc : Nat} {d x : Int} {kd : Nat} {td : Nat} (hd : sts[kd]? = some td) (hd2 : (pc : Int) + d = (td : Int)) : ∀ {ps : List (Int × Int)} {ks : List Nat}, am_jmps sts pc (ps.map (fun q => q.2)) ks = true → ∃ t, sts[am_look ps ks kd x]? = some t ∧ (pc : Int) + Op.lookupswitch.offset ps d x = (t : Int)
  | [], [], _ => ⟨td, hd, hd2⟩
  | q :: ps, k :: ks, h => by
    have h : (am_jmp sts pc q.2 k && am_jmps sts pc (ps.map (fun q => q.2)) ks) = true := h
    rw [Bool.and_eq_true] at h
    obtain ⟨a, o⟩ := q
    unfold am_look Op.lookupswitch.offset
    by_cases hx : x = a
    · rw [if_pos hx]
      obtain ⟨t, h1, h2⟩ := am_jmp_inv h.1
      refine ⟨t, h1, ?_⟩
      first
        | (rw [if_pos hx]; exact h2)
        | (rw [if_pos hx.symm]; exact h2)
        | (simp [hx]; exact h2)
    · rw [if_neg hx]
      obtain ⟨t, h1, h2⟩ := am_look_inv hd hd2 (x := x) h.2
      refine ⟨t, h1, ?_⟩
      first
        | (rw [if_neg hx]; exact h2)
        | (rw [if_neg (Ne.symm hx)]; exact h2)
        | (simp [hx]; exact h2)
  | [], _ :: _, h => by cases h
  | _ :: _, [], h => by cases h
section SIMCT
variable {p : Program} {l0 : Launch} {e : Env} {R : Room} {s : State} {m : MethodId} {args : Array Value} {below : List Frame} {meth : Method} {c : Code} {H : Heap} {locs : List Loc} {cells slots : Nat} {Q : State → Prop} {cc : ByteArray} {pc : Nat} {ls : Array Slot}
variable {z w b L : Nat} {xs : Nat → Int32} {D : va_G} {o : Nat} {ini : Bool} {maxL : Nat} {ret : Option FieldType} {RF RL : Nat} {sts : List Nat} {len : Nat}
theorem am_brI {P : Prop} {c : Bool} (h : c = true ↔ P) {k : Nat} {st' : List am_V} {q : Option Nat × List am_V} (he : some ((if c then some k else none), st') = some q) : (P → q = (some k, st')) ∧ (¬ P → q = (none, st')) := by
  cases he
  refine ⟨fun hp => by rw [if_pos (h.mpr hp)], fun hp => by rw [if_neg (fun hc => hp (h.mp hc))]⟩
set_option maxHeartbeats 4000000 in
theorem am_sim_ct (hx : p.tables.exec = Jvm.exec) (hb : c.code = cc) {i : Instr} {ops : List Nat} {v : Int} {st st' : List am_V} {r : Option Nat} (h : am_ct i ops st = some (r, st')) (hnop : i ≠ .nop) (hdg : decode cc pc = .ok (i, len)) (hs : am_side o ini maxL ret RF RL sts pc len i ops v = true)
    (gs : ∀ u ∈ st, am_rg u)
    (kn : r = none → (∀ u ∈ st', am_rg u) → W p l0 e R s m args below meth c H locs cells slots Q (F0 m (pc + len) ls (st'.map (am_tv z w b))))
    (kj : ∀ k t, r = some k → sts[k]? = some t → (∀ u ∈ st', am_rg u) → W p l0 e R s m args below meth c H locs cells slots Q (F0 m t ls (st'.map (am_tv z w b)))) :
    W p l0 e R s m args below meth c H locs cells slots Q (F0 m pc ls (st.map (am_tv z w b))) := by
  unfold am_ct at h
  split at h
  · rename_i cd off
    split at h
    · rename_i x r0
      simp only [am_side, Bool.and_eq_true, beq_iff_eq] at hs
      obtain ⟨rfl, hj⟩ := hs
      obtain ⟨t, ht, ht2⟩ := am_jmp_inv hj
      have gx : am_r32 x := rg_h gs
      obtain ⟨b1, b2⟩ := am_brI am_condI h
      have e1 : ∀ k, (r, st') = (some k, r0) → r = some k ∧ st' = r0 := fun k h => by cases h; exact ⟨rfl, rfl⟩
      have e2 : (r, st') = (none, r0) → r = none ∧ st' = r0 := fun h => by cases h; exact ⟨rfl, rfl⟩
      cases cd
      · refine lv_if_eq hx hb hdg ht2 (fun hc => ?_) (fun hc => ?_)
        · obtain ⟨q1, q2⟩ := e1 _ (b1 ((i32_eq gx r32_0).mp hc)); exact kj _ t q1 ht (q2 ▸ rg_t gs) |> (q2 ▸ ·)
        · obtain ⟨q1, q2⟩ := e2 (b2 (fun h => hc ((i32_eq gx r32_0).mpr h))); exact kn q1 (q2 ▸ rg_t gs) |> (q2 ▸ ·)
      · refine lv_if_ne hx hb hdg ht2 (fun hc => ?_) (fun hc => ?_)
        · obtain ⟨q1, q2⟩ := e1 _ (b1 (fun h => hc ((i32_eq gx r32_0).mpr h))); exact kj _ t q1 ht (q2 ▸ rg_t gs) |> (q2 ▸ ·)
        · obtain ⟨q1, q2⟩ := e2 (b2 (fun h => h ((i32_eq gx r32_0).mp hc))); exact kn q1 (q2 ▸ rg_t gs) |> (q2 ▸ ·)
      · refine lv_if_lt hx hb hdg ht2 (fun hc => ?_) (fun hc => ?_)
        · obtain ⟨q1, q2⟩ := e1 _ (b1 ((i32_lt gx r32_0).mp hc)); exact kj _ t q1 ht (q2 ▸ rg_t gs) |> (q2 ▸ ·)
        · obtain ⟨q1, q2⟩ := e2 (b2 (fun h => hc ((i32_lt gx r32_0).mpr h))); exact kn q1 (q2 ▸ rg_t gs) |> (q2 ▸ ·)
      · refine lv_if_ge hx hb hdg ht2 (fun hc => ?_) (fun hc => ?_)
        · obtain ⟨q1, q2⟩ := e1 _ (b1 ((i32_le r32_0 gx).mp hc)); exact kj _ t q1 ht (q2 ▸ rg_t gs) |> (q2 ▸ ·)
        · obtain ⟨q1, q2⟩ := e2 (b2 (fun h => hc ((i32_le r32_0 gx).mpr h))); exact kn q1 (q2 ▸ rg_t gs) |> (q2 ▸ ·)
      · refine lv_if_gt hx hb hdg ht2 (fun hc => ?_) (fun hc => ?_)
        · obtain ⟨q1, q2⟩ := e1 _ (b1 ((i32_lt r32_0 gx).mp hc)); exact kj _ t q1 ht (q2 ▸ rg_t gs) |> (q2 ▸ ·)
        · obtain ⟨q1, q2⟩ := e2 (b2 (fun h => hc ((i32_lt r32_0 gx).mpr h))); exact kn q1 (q2 ▸ rg_t gs) |> (q2 ▸ ·)
      · refine lv_if_le hx hb hdg ht2 (fun hc => ?_) (fun hc => ?_)
        · obtain ⟨q1, q2⟩ := e1 _ (b1 ((i32_le gx r32_0).mp hc)); exact kj _ t q1 ht (q2 ▸ rg_t gs) |> (q2 ▸ ·)
        · obtain ⟨q1, q2⟩ := e2 (b2 (fun h => hc ((i32_le gx r32_0).mpr h))); exact kn q1 (q2 ▸ rg_t gs) |> (q2 ▸ ·)
    · cases h
  · rename_i cd off
    split at h
    · rename_i y x r0
      simp only [am_side, Bool.and_eq_true, beq_iff_eq] at hs
      obtain ⟨rfl, hj⟩ := hs
      obtain ⟨t, ht, ht2⟩ := am_jmp_inv hj
      have gy : am_r32 y := rg_h gs
      have gx : am_r32 x := rg_h (rg_t gs)
      obtain ⟨b1, b2⟩ := am_brI am_condI h
      have e1 : ∀ k, (r, st') = (some k, r0) → r = some k ∧ st' = r0 := fun k h => by cases h; exact ⟨rfl, rfl⟩
      have e2 : (r, st') = (none, r0) → r = none ∧ st' = r0 := fun h => by cases h; exact ⟨rfl, rfl⟩
      have gt := rg_t (rg_t gs)
      cases cd
      · refine lv_icmp_eq hx hb hdg ht2 (fun hc => ?_) (fun hc => ?_)
        · obtain ⟨q1, q2⟩ := e1 _ (b1 ((i32_eq gx gy).mp hc)); exact kj _ t q1 ht (q2 ▸ gt) |> (q2 ▸ ·)
        · obtain ⟨q1, q2⟩ := e2 (b2 (fun h => hc ((i32_eq gx gy).mpr h))); exact kn q1 (q2 ▸ gt) |> (q2 ▸ ·)
      · refine lv_icmp_ne hx hb hdg ht2 (fun hc => ?_) (fun hc => ?_)
        · obtain ⟨q1, q2⟩ := e1 _ (b1 (fun h => hc ((i32_eq gx gy).mpr h))); exact kj _ t q1 ht (q2 ▸ gt) |> (q2 ▸ ·)
        · obtain ⟨q1, q2⟩ := e2 (b2 (fun h => h ((i32_eq gx gy).mp hc))); exact kn q1 (q2 ▸ gt) |> (q2 ▸ ·)
      · refine lv_icmp_lt hx hb hdg ht2 (fun hc => ?_) (fun hc => ?_)
        · obtain ⟨q1, q2⟩ := e1 _ (b1 ((i32_lt gx gy).mp hc)); exact kj _ t q1 ht (q2 ▸ gt) |> (q2 ▸ ·)
        · obtain ⟨q1, q2⟩ := e2 (b2 (fun h => hc ((i32_lt gx gy).mpr h))); exact kn q1 (q2 ▸ gt) |> (q2 ▸ ·)
      · refine lv_icmp_ge hx hb hdg ht2 (fun hc => ?_) (fun hc => ?_)
        · obtain ⟨q1, q2⟩ := e1 _ (b1 ((i32_le gy gx).mp hc)); exact kj _ t q1 ht (q2 ▸ gt) |> (q2 ▸ ·)
        · obtain ⟨q1, q2⟩ := e2 (b2 (fun h => hc ((i32_le gy gx).mpr h))); exact kn q1 (q2 ▸ gt) |> (q2 ▸ ·)
      · refine lv_icmp_gt hx hb hdg ht2 (fun hc => ?_) (fun hc => ?_)
        · obtain ⟨q1, q2⟩ := e1 _ (b1 ((i32_lt gy gx).mp hc)); exact kj _ t q1 ht (q2 ▸ gt) |> (q2 ▸ ·)
        · obtain ⟨q1, q2⟩ := e2 (b2 (fun h => hc ((i32_lt gy gx).mpr h))); exact kn q1 (q2 ▸ gt) |> (q2 ▸ ·)
      · refine lv_icmp_le hx hb hdg ht2 (fun hc => ?_) (fun hc => ?_)
        · obtain ⟨q1, q2⟩ := e1 _ (b1 ((i32_le gx gy).mp hc)); exact kj _ t q1 ht (q2 ▸ gt) |> (q2 ▸ ·)
        · obtain ⟨q1, q2⟩ := e2 (b2 (fun h => hc ((i32_le gx gy).mpr h))); exact kn q1 (q2 ▸ gt) |> (q2 ▸ ·)
    · cases h
  · simp only [am_side, Bool.and_eq_true, beq_iff_eq] at hs
    obtain ⟨rfl, hj⟩ := hs
    obtain ⟨t, ht, ht2⟩ := am_jmp_inv hj
    cases h
    exact lv_goto hx hb hdg ht2 (kj _ t rfl ht gs)
  · exact absurd rfl hnop
  · rename_i d lo hi offs
    split at h
    · rename_i x r0
      simp only [am_side, Bool.and_eq_true, decide_eq_true_eq] at hs
      obtain ⟨⟨hd, hjs⟩, hsz⟩ := hs
      obtain ⟨td, hd1, hd2⟩ := am_jmp_inv hd
      obtain ⟨hlen, hall⟩ := am_jmps_inv hjs
      have gx : am_r32 x := rg_h gs
      cases h
      by_cases hc : x < lo ∨ hi < x
      · rw [if_pos hc] at kj
        exact lv_tableOut hx hb hdg (by rw [i32_id gx]; exact hc) hd2 (kj _ td rfl hd1 (rg_t gs))
      · rw [if_neg hc] at kj
        have hlt : (x - lo).toNat < offs.size := by omega
        obtain ⟨t, ht1, ht2⟩ := hall (x - lo).toNat offs[(x - lo).toNat] (by rw [Array.getElem?_toList]; exact Array.getElem?_eq_getElem hlt)
        exact lv_tableIn hx hb hdg (by rw [i32_id gx]; omega) (by rw [i32_id gx]; omega) (by rw [i32_id gx]; exact Array.getElem?_eq_getElem hlt) ht2 (kj _ t rfl ht1 (rg_t gs))
    · cases h
  · rename_i d ps
    split at h
    · rename_i x r0
      simp only [am_side, Bool.and_eq_true] at hs
      obtain ⟨⟨hd, hjs⟩, hsz⟩ := hs
      obtain ⟨td, hd1, hd2⟩ := am_jmp_inv hd
      have gx : am_r32 x := rg_h gs
      cases h
      obtain ⟨t, ht1, ht2⟩ := am_look_inv hd1 hd2 (x := x) hjs
      exact lv_lookup hx hb hdg hsz (by rw [i32_id gx]) ht2 (kj _ t rfl ht1 (rg_t gs))
    · cases h
  · cases h
end SIMCT
end
section
/-! THE SMALL MACHINE'S CALLS ARE THE LARGE ONE'S -/
def am_P (m : Nat) : List (List am_I) := (am_meths.getD m am_m0).2.2.2.2.2.2.2.2
/-- what is known of a method's call in the large machine: where the small one, begun with these arguments in this world, ends so -/
def am_Met (l0 : Launch) (z w b L : Nat) (xs : Nat → Int32) (D : va_G) (q : am_M) (as : List am_V) (σ : am_S) (r : Option am_V) (σ' : am_S) : Prop :=
  Met l0 q.1 (Cond.code q.1 q.2.1 q.2.2.1 q.2.2.2.1 :: lw_gt) ({ frames := q.2.2.2.2.1.1, cells := σ'.2.2.2.1 - σ.2.2.2.1, slots := σ'.2.2.2.2 - σ.2.2.2.2, locals := q.2.2.2.2.1.2 } : Room)
    (fun v U => v = (as.map (am_tv z w b)).toArray ∧ am_HR z w b L xs D σ U U.heap ∧ am_FX z w b L xs D U)
    (fun _ st oc t => oc = .returned (r.map (am_tv z w b)) ∧ am_HR z w b L xs D σ' t t.heap ∧ va_F (fun q => z ≤ q) st t ∧ am_rg (r.getD (vR 0)))
    (σ'.2.2.2.1 - σ.2.2.2.1) (σ'.2.2.2.2 - σ.2.2.2.2) (fun q => z ≤ q)
theorem am_ML0 : ∀ e ∈ am_ML, e.2.2.1 ≠ 0 ∧ e.2.2.1 < 179 := by decide +kernel
theorem am_NM0 : ∀ e ∈ am_NM, e.2.2 ≠ 0 ∧ e.2.2 < 179 := by decide +kernel
theorem am_cnN : ∀ o, o < 14 → am_cn o ≠ "java/lang/invoke/MethodHandle" ∧ am_cn o ≠ "java/lang/invoke/VarHandle" := by decide +kernel
set_option maxRecDepth 100000 in
theorem am_mlen : am_meths.length = 179 := by decide +kernel
theorem am_mget {j : Nat} (h : j < 179) : ∃ q, am_meths[j]? = some q := ⟨_, List.getElem?_eq_getElem (by rw [am_mlen]; exact h)⟩
set_option maxRecDepth 100000 in
theorem am_rtn_b : (am_meths.all (fun q => decide (2 ≤ q.2.2.2.2.2.2.1 → q.2.2.2.1 = none))) = true := by decide +kernel
theorem am_rtn {j : Nat} {q : am_M} (h : am_meths[j]? = some q) (hk : 2 ≤ q.2.2.2.2.2.2.1) : q.2.2.2.1 = none := of_decide_eq_true (List.all_eq_true.mp am_rtn_b q (List.mem_of_getElem? h)) hk
theorem am_ca_inv {i : Instr} {ops : List Nat} {v : Int} {st st' as : List am_V} {m : Nat} {σ : am_S} (h : am_ca i ops v st σ = some (m, as, st')) : ∃ n, st = as.reverse ++ st' ∧ as.length = n ∧ (st'.map am_cat).sum ≤ 8 ∧ ((as.map am_cat).sum : Int) ≤ v ∧ ((∃ x, i = .invokestatic x ∧ ops = [m, n]) ∨ (∃ x c a as', i = .invokevirtual x ∧ ops = [m, n, c] ∧ as = vR a :: as' ∧ am_isO σ a c = true) ∨ ∃ x a as', i = .invokespecial x ∧ ops = [m, n] ∧ as = vR a :: as') := by
  have key : ∀ (n : Nat) (as : List am_V), (st.take n).reverse = as → n ≤ st.length → st = as.reverse ++ st.drop n ∧ as.length = n := by
    intro n as h1 h2
    subst h1
    rw [List.reverse_reverse, List.take_append_drop, List.length_reverse, List.length_take]
    exact ⟨rfl, by omega⟩
  unfold am_ca at h
  split at h
  · split at h
    · rename_i x _ m' n
      split at h
      · rename_i h1
        cases h
        obtain ⟨k1, k2⟩ := key n _ rfl h1.1
        exact ⟨n, k1, k2, h1.2.1, h1.2.2, Or.inl ⟨x, rfl, rfl⟩⟩
      · cases h
    · cases h
  · split at h
    · rename_i x _ m' n c
      split at h
      · rename_i a as' h0
        split at h
        · rename_i h1
          cases h
          obtain ⟨k1, k2⟩ := key n _ h0 h1.1
          exact ⟨n, k1, k2, h1.2.1, h1.2.2.1, Or.inr (Or.inl ⟨x, c, a, as', rfl, rfl, rfl, h1.2.2.2⟩)⟩
        · cases h
      · cases h
    · cases h
  · split at h
    · rename_i x _ m' n
      split at h
      · rename_i a as' h0
        split at h
        · rename_i h1
          cases h
          obtain ⟨k1, k2⟩ := key n _ h0 h1.1
          exact ⟨n, k1, k2, h1.2.1, h1.2.2, Or.inr (Or.inr ⟨x, a, as', rfl, rfl, rfl⟩)⟩
        · cases h
      · cases h
    · cases h
  · cases h
theorem am_rt_inv {i : Instr} {ops : List Nat} {st : List am_V} {r : Option am_V} (h : am_rt i ops st = some r) : st = r.toList ∧ ((i = .return_ ∧ r = none) ∨ (∃ x, i = .ireturn ∧ r = some (vI x) ∧ (ops.headD 0 = 0 ∨ x = 0 ∨ x = 1)) ∨ (∃ x, i = .lreturn ∧ r = some (vL x)) ∨ ∃ x, i = .areturn ∧ r = some (vR x)) := by
  unfold am_rt at h
  split at h
  · split at h
    · cases h; exact ⟨rfl, Or.inl ⟨rfl, rfl⟩⟩
    · cases h
  · split at h
    · split at h
      · rename_i h1
        cases h; exact ⟨rfl, Or.inr (Or.inl ⟨_, rfl, rfl, h1⟩)⟩
      · cases h
    · cases h
  · split at h
    · cases h; exact ⟨rfl, Or.inr (Or.inr (Or.inl ⟨_, rfl, rfl⟩))⟩
    · cases h
  · split at h
    · cases h; exact ⟨rfl, Or.inr (Or.inr (Or.inr ⟨_, rfl, rfl⟩))⟩
    · cases h
  · cases h
theorem am_sl_len (z w b : Nat) (as : List am_V) : (lg_sl (as.map (am_tv z w b))).length = (as.map am_cat).sum := by
  induction as with
  | nil => rfl
  | cons v as ih =>
    unfold lg_sl at ih ⊢
    rw [List.map_cons, List.flatMap_cons, List.length_append, ih, List.map_cons, List.sum_cons]
    congr 1
    rw [am_tv_cat]
    rcases v with x | x | _ | a <;> rfl
section SIM
variable {p : Program} {l0 : Launch} {e : Env} {R : Room} {s : State} {m : MethodId} {args : Array Value} {below : List Frame} {meth : Method} {c : Code} {H : Heap} {locs : List Loc} {cells slots : Nat} {Q : State → Prop} {cc : ByteArray} {pc : Nat} {ls : Array Slot}
variable {z w b L : Nat} {xs : Nat → Int32} {D : va_G} {o : Nat} {ini : Bool} {maxL : Nat} {ret : Option FieldType} {RF RL : Nat} {sts : List Nat} {len : Nat}
/-- behind a call -/
theorem am_after {st0 : List Value} {rest : List Value} {a : Array Value} {mc ms : Nat} {r : Option am_V} {σ' : am_S}
    (hr : va_Run p l0 e R s m args below meth c H locs cells slots mc ms (F0 m pc ls st0) rest ((fun _ st oc t => oc = .returned (r.map (am_tv z w b)) ∧ am_HR z w b L xs D σ' t t.heap ∧ va_F (fun q => z ≤ q) st t ∧ am_rg (r.getD (vR 0)) : Array Value → State → Outcome → State → Prop) a) (fun q => z ≤ q)) (hS : va_S (fun q => z ≤ q) s.heap H locs)
    (kk : am_rg (r.getD (vR 0)) → ∀ H1 locs1, am_HR z w b L xs D σ' s H1 → va_S (fun q => z ≤ q) s.heap H1 locs1 → W p l0 e R s m args below meth c H1 locs1 (cells + mc) (slots + ms) Q (F0 m (pc + 3) ls ((r.map (am_tv z w b)).toList ++ rest))) : W p l0 e R s m args below meth c H locs cells slots Q (F0 m pc ls st0) := by
  intro T hT X
  obtain ⟨v, st₀, t, T', L0, h0, X', hL, e1, e2, ⟨hv, hp, ⟨hz, hk⟩, hgr⟩, st⟩ := hr T hT X
  cases hv
  rw [h0] at hz hk
  have hal : s.vm.Alike t.vm := by rw [← e2]; exact X'.warmed.alike
  obtain ⟨t2, a1, b1⟩ := kk hgr T'.heap (locs ++ L0) (by rw [e1]; exact am_HR_moved hal.symm hp)
    ⟨Nat.le_trans hS.1 (by rw [e1]; exact hz), fun q h1 h2 => by rw [e1, hk q (Nat.lt_of_lt_of_le h1 hS.1) h2]; exact hS.2.1 q h1 h2, fun q hq => by
      rcases List.mem_append.mp hq with h | h
      · exact hS.2.2 q h
      · exact hL q h⟩ T' rfl X'
  exact ⟨t2, st t2 a1, b1⟩
theorem am_FX_at {U : State} (hF : am_FX z w b L xs D s) (hS : va_S (fun q => z ≤ q) s.heap H locs) (hU : U.heap = H) (hW : s.WarmedH U.vm) : am_FX z w b L xs D U := by
  have hz := hF.2.2.2.2.1.2.2
  refine am_FX_moved hW (fun q hq => ?_) (by rw [hU]; exact Nat.le_trans hz hS.1) hF
  rw [hU]
  exact hS.2.1 q (by omega) (by show ¬ z ≤ q; omega)
theorem am_blind {as : List am_V} {σ : am_S} : FrameBlind (fun v U => v = (as.map (am_tv z w b)).toArray ∧ am_HR z w b L xs D σ U U.heap ∧ am_FX z w b L xs D U) := by
  intro a U g mk h
  obtain ⟨h1, h2, h3⟩ := h
  refine ⟨h1, am_HR_moved (u := U) (U := U.calling g mk a) (Vm.Alike.refl U.vm) h2, ?_⟩
  obtain ⟨g1, g2, g3, g4, g5, g6, g7, g8⟩ := h3
  refine ⟨va_K.moved (u := U) (U := U.calling g mk a) (Vm.Alike.refl U.vm) g1, va_Z.moved (u := U) (U := U.calling g mk a) (Vm.Alike.refl U.vm) g2, va_T.moved (u := U) (U := U.calling g mk a) (Vm.Alike.refl U.vm) g3, va_X.moved (u := U) (U := U.calling g mk a) (Vm.Alike.refl U.vm) g4, g5, fun e he => va_Nw.same (u := U) (U := U.calling g mk a) rfl rfl (g6 e he), fun e he => va_Nw.same (u := U) (U := U.calling g mk a) rfl rfl (g7 e he), va_AO.moved (u := U) (U := U.calling g mk a) (Vm.Alike.refl U.vm) g8⟩
theorem am_map_rev (as st' : List am_V) (f : am_V → Value) : (as.reverse ++ st').map f = (as.map f).reverse ++ st'.map f := by
  rw [List.map_append, List.map_reverse]
set_option maxHeartbeats 4000000 in
theorem am_sim_ca (hx : p.tables.exec = Jvm.exec) (hb : c.code = cc) (hml : c.maxLocals = maxL) (hown : s.vm.findClass (am_cn o) = some m.cls) (hts : ∀ q ∈ lw_gt, q.before args s = true) (hF : am_FX z w b L xs D s) (hRF : R.frames = RF) (hRL : R.locals = RL)
    {i : Instr} {ops : List Nat} {v : Int} {l : am_Lc} {st st' as : List am_V} {σ σ1 : am_S} {j : Nat} {r : Option am_V} (h : am_ca i ops v st σ = some (j, as, st')) (hdg : decode cc pc = .ok (i, len)) (hs : am_side o ini maxL ret RF RL sts pc len i ops v = true)
    (hl : lv_has ls maxL (l.map (am_t2 z w b))) (hH : am_HR z w b L xs D σ s H) (hS : va_S (fun q => z ≤ q) s.heap H locs) (hup : am_up σ σ1) (hrc : cells + σ1.2.2.2.1 ≤ R.cells + σ.2.2.2.1) (hrs : slots + σ1.2.2.2.2 ≤ R.slots + σ.2.2.2.2)
    (hmet : ∀ q, am_meths[j]? = some q → j ≠ 0 → (as.map am_cat).sum ≤ q.2.2.1 → am_Met l0 z w b L xs D q as σ r σ1)
    (kk : am_rg (r.getD (vR 0)) → ∀ H1 locs1 cells1 slots1, am_HR z w b L xs D σ1 s H1 → va_S (fun q => z ≤ q) s.heap H1 locs1 → cells1 + σ.2.2.2.1 = cells + σ1.2.2.2.1 → slots1 + σ.2.2.2.2 = slots + σ1.2.2.2.2 → W p l0 e R s m args below meth c H1 locs1 cells1 slots1 Q (F0 m (pc + len) ls ((r.toList ++ st').map (am_tv z w b)))) :
    W p l0 e R s m args below meth c H locs cells slots Q (F0 m pc ls (st.map (am_tv z w b))) := by
  obtain ⟨n, rfl, hn, hcat, hwd, hk⟩ := am_ca_inv h
  have hsz : ls.size = maxL := hl.1
  have hfix : CallFix p m c cc maxL s args lw_gt (am_cn o) := ⟨hx, hb, hml, hown, hts⟩
  have hrest : 2 * (F0 m pc ls ((as.reverse ++ st').map (am_tv z w b))).monitorRoom + ((st'.map (am_tv z w b)).map fun v => v.category).sum ≤ 8 := lv_room (by rw [am_map_cat]; exact hcat)
  have hroom : cells + (σ1.2.2.2.1 - σ.2.2.2.1) ≤ R.cells ∧ slots + (σ1.2.2.2.2 - σ.2.2.2.2) ≤ R.slots := by
    obtain ⟨u1, u2⟩ := hup
    omega
  have hgoon : am_rg (r.getD (vR 0)) → ∀ H1 locs1, am_HR z w b L xs D σ1 s H1 → va_S (fun q => z ≤ q) s.heap H1 locs1 → W p l0 e R s m args below meth c H1 locs1 (cells + (σ1.2.2.2.1 - σ.2.2.2.1)) (slots + (σ1.2.2.2.2 - σ.2.2.2.2)) Q (F0 m (pc + len) ls ((r.map (am_tv z w b)).toList ++ st'.map (am_tv z w b))) := by
    intro hgr H1 locs1 k1 k2
    obtain ⟨u1, u2⟩ := hup
    have := kk hgr H1 locs1 (cells + (σ1.2.2.2.1 - σ.2.2.2.1)) (slots + (σ1.2.2.2.2 - σ.2.2.2.2)) k1 k2 (by omega) (by omega)
    rw [List.map_append] at this
    cases r with
    | none => exact this
    | some r => exact this
  have hPc : ∀ U : State, U.heap = H → s.WarmedH U.vm → ((as.map (am_tv z w b)).toArray = (as.map (am_tv z w b)).toArray ∧ am_HR z w b L xs D σ U U.heap ∧ am_FX z w b L xs D U) := fun U hU hW => ⟨rfl, by rw [hU]; exact am_HR_moved hW.alike hH, am_FX_at hF hS hU hW⟩
  rcases hk with ⟨x, rfl, rfl⟩ | ⟨x, cn, a, as', rfl, rfl, rfl, hio⟩ | ⟨x, a, as', rfl, rfl, rfl⟩
  · -- static
    simp only [am_side] at hs
    cases hRM : am_RM[j]? with
    | none => rw [hRM] at hs; simp at hs
    | some q =>
      obtain ⟨a1, a2, a3, a4, a5⟩ := q
      rw [hRM] at hs
      simp only [Bool.and_eq_true, beq_iff_eq, decide_eq_true_eq, List.any_eq_true] at hs
      obtain ⟨rfl, ⟨⟨⟨⟨rfl, hf⟩, hlo⟩, hvw⟩, rfl⟩, q, hq, ⟨e1, e2⟩, e3⟩ := hs
      have hlk := hts _ (am_MLk q hq)
      rw [e1, e2, e3] at hlk
      obtain ⟨hj0, hj1⟩ := am_ML0 q hq
      rw [e3] at hj0 hj1
      obtain ⟨mm, hjm⟩ := am_mget hj1
      have hgood := am_gall j mm hjm hj0
      rw [List.getD_eq_getElem?_getD, hjm] at hlk
      obtain ⟨y, bytes, mL, rt, ⟨fF, fL⟩, nn, kd, ss, bb⟩ := mm
      obtain ⟨oo, ho14, how, hcls, -, hRM2, -, hcode, hini, hkw⟩ := hgood
      have hd : y.cls ≠ "java/lang/invoke/MethodHandle" ∧ y.cls ≠ "java/lang/invoke/VarHandle" := by rw [hcls]; exact am_cnN oo ho14
      cases hRM.symm.trans hRM2
      have hme := hmet _ hjm hj0 (by show _ ≤ a3; omega)
      obtain ⟨hst, hpar⟩ := hkw
      have cw : CallB R s args (am_cn o) x y bytes a3 rt (Cond.code y bytes a3 rt :: lw_gt) ({ frames := a1, cells := σ1.2.2.2.1 - σ.2.2.2.1, slots := σ1.2.2.2.2 - σ.2.2.2.2, locals := a2 } : Room) (σ1.2.2.2.1 - σ.2.2.2.1) (σ1.2.2.2.2 - σ.2.2.2.2) a4 ∧ (Cond.static y).before args s = true :=
        ⟨callB_of a4 hts (fun q hq => by
          rcases List.mem_cons.mp hq with rfl | hq
          · exact am_gg _ hcode
          · exact am_gg _ hq) rfl rfl rfl (hts _ hini) hlk ⟨hd.1, hd.2, hpar⟩ ⟨by rw [hRF]; exact hf, by rw [hRL]; exact hlo⟩, hts _ hst⟩
      refine am_after (a := (as.map (am_tv z w b)).toArray) (rest := st'.map (am_tv z w b)) (mc := σ1.2.2.2.1 - σ.2.2.2.1) (ms := σ1.2.2.2.2 - σ.2.2.2.2) (r := r) (σ' := σ1) ?_ hS hgoon
      exact va_runS (As := as.map (am_tv z w b)) (rest := st'.map (am_tv z w b)) hfix hme cw ⟨am_blind, hPc⟩ rfl (by rw [List.length_map]; exact hn) hsz (am_map_rev _ _ _) hrest hdg hroom
  · -- virtual
    simp only [am_side] at hs
    cases hRM : am_RM[j]? with
    | none => rw [hRM] at hs; simp at hs
    | some q =>
      obtain ⟨a1, a2, a3, a4, a5⟩ := q
      rw [hRM] at hs
      simp only [Bool.and_eq_true, beq_iff_eq, decide_eq_true_eq, List.any_eq_true] at hs
      obtain ⟨rfl, ⟨⟨⟨⟨⟨⟨rfl, hf⟩, hlo⟩, hvw⟩, rfl⟩, hcn⟩, how2⟩, q, hq, ⟨e1, e2⟩, e3⟩ := hs
      have hlk := hts _ (am_MLk q hq)
      rw [e1, e2, e3] at hlk
      obtain ⟨hj0, hj1⟩ := am_ML0 q hq
      rw [e3] at hj0 hj1
      obtain ⟨mm, hjm⟩ := am_mget hj1
      have hgood := am_gall j mm hjm hj0
      rw [List.getD_eq_getElem?_getD, hjm] at hlk
      obtain ⟨y, bytes, mL, rt, ⟨fF, fL⟩, nn, kd, ss, bb⟩ := mm
      obtain ⟨oo, ho14, how, hcls, -, hRM2, -, hcode, hini, hkw⟩ := hgood
      have hd : y.cls ≠ "java/lang/invoke/MethodHandle" ∧ y.cls ≠ "java/lang/invoke/VarHandle" := by rw [hcls]; exact am_cnN oo ho14
      cases hRM.symm.trans hRM2
      have hme := hmet _ hjm hj0 (by show _ ≤ a3; omega)
      obtain ⟨hin, hse, hpar⟩ := hkw
      rw [List.getD_eq_getElem?_getD, how] at how2
      have how2 : oo = cn := how2
      subst how2
      obtain ⟨nlen, hla, ha2⟩ := am_isO_inv hio
      obtain ⟨-, ⟨cellB, g1, g2, g3, -⟩, -⟩ := hH.2.2.2.2.2.2 a _ ha2 hla
      have hfc := (hF.1.1 oo _ (am_clA oo hcn)).2.1
      have cw : CallW R s args (am_cn o) (am_cn oo) x y bytes a3 rt (Cond.code y bytes a3 rt :: lw_gt) ({ frames := a1, cells := σ1.2.2.2.1 - σ.2.2.2.1, slots := σ1.2.2.2.2 - σ.2.2.2.2, locals := a2 } : Room) (σ1.2.2.2.1 - σ.2.2.2.1) (σ1.2.2.2.2 - σ.2.2.2.2) (a4 - 1) :=
        ⟨callB_of (a4 - 1) hts (fun q hq => by
          rcases List.mem_cons.mp hq with rfl | hq
          · exact am_gg _ hcode
          · exact am_gg _ hq) rfl rfl rfl (hts _ hini) hlk ⟨hd.1, hd.2, hpar⟩ ⟨by rw [hRF]; exact hf, by rw [hRL]; exact hlo⟩, hts _ hin, by rw [← hcls]; exact hts _ hse⟩
      refine am_after (a := (Value.ref (am_ad z w b a) :: as'.map (am_tv z w b)).toArray) (rest := st'.map (am_tv z w b)) (mc := σ1.2.2.2.1 - σ.2.2.2.1) (ms := σ1.2.2.2.2 - σ.2.2.2.2) (r := r) (σ' := σ1) ?_ hS hgoon
      exact va_runV (b := am_ad z w b a) (As := as'.map (am_tv z w b)) (rest := st'.map (am_tv z w b)) hfix hme cw ⟨am_blind, ⟨cellB, g1, by rw [g3]; rfl, by rw [g2]; exact hfc⟩, hPc⟩ rfl (by rw [List.length_map]; simp only [List.length_cons] at hn; omega) hsz (by rw [am_map_rev]; show (Value.ref (am_ad z w b a) :: as'.map (am_tv z w b)).reverse ++ _ = _; rw [List.reverse_cons, List.append_assoc]; rfl) hrest hdg hroom
  · -- making
    simp only [am_side] at hs
    cases hRM : am_RM[j]? with
    | none => rw [hRM] at hs; simp at hs
    | some q =>
      obtain ⟨a1, a2, a3, a4, a5⟩ := q
      rw [hRM] at hs
      simp only [Bool.and_eq_true, Bool.or_eq_true, beq_iff_eq, decide_eq_true_eq, List.any_eq_true] at hs
      obtain ⟨rfl, ⟨⟨⟨rfl, hf⟩, hlo⟩, hvw⟩, hor⟩ := hs
      rcases hor with ⟨rfl, q, hq, ⟨e1, e2⟩, e3⟩ | ⟨rfl, q, hq, ⟨e1, e2⟩, e3⟩
      · have hlk := hts _ (am_MLk q hq)
        rw [e1, e2, e3] at hlk
        obtain ⟨hj0, hj1⟩ := am_ML0 q hq
        rw [e3] at hj0 hj1
        obtain ⟨mm, hjm⟩ := am_mget hj1
        have hgood := am_gall j mm hjm hj0
        rw [List.getD_eq_getElem?_getD, hjm] at hlk
        obtain ⟨y, bytes, mL, rt, ⟨fF, fL⟩, nn, kd, ss, bb⟩ := mm
        obtain ⟨oo, ho14, how, hcls, -, hRM2, -, hcode, hini, hkw⟩ := hgood
        have hd : y.cls ≠ "java/lang/invoke/MethodHandle" ∧ y.cls ≠ "java/lang/invoke/VarHandle" := by rw [hcls]; exact am_cnN oo ho14
        cases hRM.symm.trans hRM2
        have hme := hmet _ hjm hj0 (by show _ ≤ a3; omega)
        obtain ⟨hin, hnam, hpar⟩ := hkw
        have hrt : rt = none := am_rtn hjm (Nat.le_of_ble_eq_true rfl)
        subst hrt
        have cw : CallB R s args (am_cn o) x y bytes a3 none (Cond.code y bytes a3 none :: lw_gt) ({ frames := a1, cells := σ1.2.2.2.1 - σ.2.2.2.1, slots := σ1.2.2.2.2 - σ.2.2.2.2, locals := a2 } : Room) (σ1.2.2.2.1 - σ.2.2.2.1) (σ1.2.2.2.2 - σ.2.2.2.2) (a4 - 1) ∧ y.name = "<init>" ∧ (Cond.instanceMethod y).before args s = true :=
          ⟨callB_of (a4 - 1) hts (fun q hq => by
            rcases List.mem_cons.mp hq with rfl | hq
            · exact am_gg _ hcode
            · exact am_gg _ hq) rfl rfl rfl (hts _ hini) hlk ⟨hd.1, hd.2, hpar⟩ ⟨by rw [hRF]; exact hf, by rw [hRL]; exact hlo⟩, hnam, hts _ hin⟩
        refine am_after (a := (Value.ref (am_ad z w b a) :: as'.map (am_tv z w b)).toArray) (rest := st'.map (am_tv z w b)) (mc := σ1.2.2.2.1 - σ.2.2.2.1) (ms := σ1.2.2.2.2 - σ.2.2.2.2) (r := r) (σ' := σ1) ?_ hS hgoon
        exact va_runI (b := am_ad z w b a) (As := as'.map (am_tv z w b)) (rest := st'.map (am_tv z w b)) hfix hme cw ⟨am_blind, hPc⟩ rfl (by rw [List.length_map]; simp only [List.length_cons] at hn; omega) hsz (by rw [am_map_rev]; show (Value.ref (am_ad z w b a) :: as'.map (am_tv z w b)).reverse ++ _ = _; rw [List.reverse_cons, List.append_assoc]; rfl) hrest hdg hroom
      · have hlk := va_Nw.use (A := args) rfl (hF.2.2.2.2.2.2.1 q hq)
        rw [e1, e2, e3] at hlk
        obtain ⟨hj0, hj1⟩ := am_NM0 q hq
        rw [e3] at hj0 hj1
        obtain ⟨mm, hjm⟩ := am_mget hj1
        have hgood := am_gall j mm hjm hj0
        rw [List.getD_eq_getElem?_getD, hjm] at hlk
        obtain ⟨y, bytes, mL, rt, ⟨fF, fL⟩, nn, kd, ss, bb⟩ := mm
        obtain ⟨oo, ho14, how, hcls, -, hRM2, -, hcode, hini, hkw⟩ := hgood
        have hd : y.cls ≠ "java/lang/invoke/MethodHandle" ∧ y.cls ≠ "java/lang/invoke/VarHandle" := by rw [hcls]; exact am_cnN oo ho14
        cases hRM.symm.trans hRM2
        have hme := hmet _ hjm hj0 (by show _ ≤ a3; omega)
        obtain ⟨hin, hnam, hpar⟩ := hkw
        have hrt : rt = none := am_rtn hjm (Nat.le_of_ble_eq_true rfl)
        subst hrt
        have cw : va_CN R s args (am_cn o) x y "WashLine" bytes a3 none (Cond.code y bytes a3 none :: lw_gt) ({ frames := a1, cells := σ1.2.2.2.1 - σ.2.2.2.1, slots := σ1.2.2.2.2 - σ.2.2.2.2, locals := a2 } : Room) (σ1.2.2.2.1 - σ.2.2.2.1) (σ1.2.2.2.2 - σ.2.2.2.2) (a4 - 1) ∧ y.name = "<init>" ∧ (Cond.instanceMethod y).before args s = true :=
          ⟨va_cnB (a4 - 1) hts (fun q hq => by
            rcases List.mem_cons.mp hq with rfl | hq
            · exact am_gg _ hcode
            · exact am_gg _ hq) rfl rfl rfl (va_Nw.of rfl hlk) (hts _ hini) ⟨hd.1, hd.2, hpar⟩ ⟨by rw [hRF]; exact hf, by rw [hRL]; exact hlo⟩, hnam, hts _ hin⟩
        refine am_after (a := (Value.ref (am_ad z w b a) :: as'.map (am_tv z w b)).toArray) (rest := st'.map (am_tv z w b)) (mc := σ1.2.2.2.1 - σ.2.2.2.1) (ms := σ1.2.2.2.2 - σ.2.2.2.2) (r := r) (σ' := σ1) ?_ hS hgoon
        exact va_runIN (b := am_ad z w b a) (As := as'.map (am_tv z w b)) (rest := st'.map (am_tv z w b)) hfix hme cw ⟨am_blind, hPc⟩ rfl (by rw [List.length_map]; simp only [List.length_cons] at hn; omega) hsz (by rw [am_map_rev]; show (Value.ref (am_ad z w b a) :: as'.map (am_tv z w b)).reverse ++ _ = _; rw [List.reverse_cons, List.append_assoc]; rfl) hrest hdg hroom
/-- what waits behind the end -/
def am_End (p : Program) (l0 : Launch) (e : Env) (R : Room) (s : State) (m : MethodId) (args : Array Value) (below : List Frame) (meth : Method) (c : Code) (Q : State → Prop) (cc : ByteArray) (ret : Option FieldType) (z w b L : Nat) (xs : Nat → Int32) (D : va_G) (mc ms : Nat) (r : Option am_V) (σf : am_S) : Prop :=
  ∀ (pc : Nat) (ls : Array Slot) (H : Heap) (locs : List Loc), am_HR z w b L xs D σf s H → va_S (fun q => z ≤ q) s.heap H locs →
    (match r with
      | none => decode cc pc = .ok (.return_, 1) ∧ ret = none
      | some (.inl x) => decode cc pc = .ok (.ireturn, 1) ∧ (ret = some .int ∨ (ret = some .boolean ∧ (x = 0 ∨ x = 1)))
      | some (.inr (.inl _)) => decode cc pc = .ok (.lreturn, 1) ∧ ret = some .long
      | some (.inr (.inr (some _))) => decode cc pc = .ok (.areturn, 1) ∧ ret = some (.array .int)
      | _ => False) → W p l0 e R s m args below meth c H locs mc ms Q (F0 m pc ls ((r.map (am_tv z w b)).toList))
set_option maxHeartbeats 4000000 in
theorem am_sim_run (hx : p.tables.exec = Jvm.exec) (hb : c.code = cc) (hml : c.maxLocals = maxL) (hown : s.vm.findClass (am_cn o) = some m.cls) (hts : ∀ q ∈ lw_gt, q.before args s = true) (hF : am_FX z w b L xs D s) (hini : ini = true → meth.name = "<init>") (hRF : R.frames = RF) (hRL : R.locals = RL) {bs : List (List am_I)} (hbs : ∀ k t, sts[k]? = some t → am_chk o ini maxL ret RF RL sts cc t (bs.getD k []) = true)
    {r : Option am_V} {σf : am_S} {mc ms : Nat} (hmc : mc ≤ R.cells) (hms : ms ≤ R.slots) (hend : am_rg (r.getD (vR 0)) → am_End p l0 e R s m args below meth c Q cc ret z w b L xs D mc ms r σf) :
    ∀ (n : Nat), (∀ (k : Nat), k < n → ∀ (j : Nat) (q : am_M) (as : List am_V) (σ : am_S) (r : Option am_V) (σ' : am_S), am_meths[j]? = some q → j ≠ 0 → (as.map am_cat).sum ≤ q.2.2.1 → (∀ v ∈ as, am_rg v) → am_run am_P k (am_P j) ((am_P j).getD 0 []) (am_args 0 as) [] σ = some (r, σ') → am_Met l0 z w b L xs D q as σ r σ') →
    ∀ (is : List am_I) (pc : Nat) (l : am_Lc) (st : List am_V) (σ : am_S) (ls : Array Slot) (H : Heap) (locs : List Loc) (cells slots : Nat), am_chk o ini maxL ret RF RL sts cc pc is = true → lv_has ls maxL (l.map (am_t2 z w b)) → (∀ q ∈ l, am_rg q.2) → (∀ v ∈ st, am_rg v) → am_HR z w b L xs D σ s H → va_S (fun q => z ≤ q) s.heap H locs → cells + σf.2.2.2.1 = mc + σ.2.2.2.1 → slots + σf.2.2.2.2 = ms + σ.2.2.2.2 →
      am_run am_P n bs is l st σ = some (r, σf) → W p l0 e R s m args below meth c H locs cells slots Q (F0 m pc ls (st.map (am_tv z w b))) := by
  intro n
  induction n with
  | zero => intro _ is pc l st σ ls H locs cells slots _ _ _ _ _ _ _ _ h; simp [am_run] at h
  | succ n ih =>
    intro hcall is pc l st σ ls H locs cells slots hchk hl gl gs hH hS hc1 hc2 h
    have ih := ih (fun k hk => hcall k (Nat.lt_succ_of_lt hk))
    cases is with
    | nil => simp [am_run] at h
    | cons i is =>
      obtain ⟨i, ops, v⟩ := i
      have hup := am_up_run am_P _ _ _ _ _ _ _ _ h
      rw [am_run] at h
      unfold am_chk at hchk
      by_cases hnop : i = .nop
      · subst hnop
        rw [if_pos rfl] at hchk
        have h : am_run am_P n bs (bs.getD (ops.headD 0) []) l st σ = some (r, σf) := h
        split at hchk
        · rename_i t ht
          have := of_decide_eq_true hchk
          subst this
          exact ih _ _ l st σ ls H locs cells slots (hbs _ _ ht) hl gl gs hH hS hc1 hc2 h
        · cases hchk
      · rw [if_neg hnop] at hchk
        split at hchk
        · rename_i j len hdg
          rw [Bool.and_eq_true, Bool.and_eq_true] at hchk
          obtain ⟨⟨hij, hs⟩, hchk⟩ := hchk
          have := of_decide_eq_true hij
          subst this
          cases h1 : am_ar j v l st with
          | some q =>
            rw [h1] at h
            obtain ⟨l', st'⟩ := q
            exact am_sim_ar hx hb hown hts h1 hdg hs hl gl gs (fun ls' hl' gl' gs' => ih _ _ l' st' σ ls' H locs cells slots hchk hl' gl' gs' hH hS hc1 hc2 h)
          | none =>
            rw [h1] at h
            dsimp only at h
            cases h2 : am_me j ops st σ with
            | some q =>
              obtain ⟨st', σ'⟩ := q
              rw [h2] at h
              have hu1 := am_up_me h2
              have hu2 := am_up_run am_P _ _ _ _ _ _ _ _ h
              obtain ⟨u1, u2⟩ := hu1
              obtain ⟨u3, u4⟩ := hu2
              exact am_sim_me hx hb hml hown hts hF hini hRF hRL h2 hdg hs hl gs hH hS (by omega) (by omega) (fun H1 locs1 c1 s1 k1 k2 k3 k4 gs' => ih _ _ l st' σ' ls H1 locs1 c1 s1 hchk hl gl gs' k1 k2 (by omega) (by omega) h)
            | none =>
              rw [h2] at h
              dsimp only at h
              cases h3 : am_ct j ops st with
              | some q =>
                obtain ⟨k, st'⟩ := q
                rw [h3] at h
                refine am_sim_ct hx hb h3 hnop hdg hs gs (fun hk gs' => ?_) (fun k' t hk ht gs' => ?_)
                · subst hk
                  exact ih _ _ l st' σ ls H locs cells slots hchk hl gl gs' hH hS hc1 hc2 h
                · subst hk
                  exact ih _ _ l st' σ ls H locs cells slots (hbs _ _ ht) hl gl gs' hH hS hc1 hc2 h
              | none =>
                rw [h3] at h
                dsimp only at h
                cases h4 : am_ca j ops v st σ with
                | some q =>
                  obtain ⟨mm, as, st'⟩ := q
                  rw [h4] at h
                  dsimp only at h
                  cases h5 : am_run am_P n (am_P mm) ((am_P mm).getD 0 []) (am_args 0 as) [] σ with
                  | none => rw [h5] at h; cases h
                  | some q =>
                    obtain ⟨r1, σ1⟩ := q
                    rw [h5] at h
                    have hu1 := am_up_run am_P _ _ _ _ _ _ _ _ h5
                    have hu2 := am_up_run am_P _ _ _ _ _ _ _ _ h
                    have gas : ∀ u ∈ as, am_rg u := by
                      obtain ⟨nn, e1, -⟩ := am_ca_inv h4
                      intro u hu
                      exact gs u (by rw [e1]; exact List.mem_append_left _ (List.mem_reverse.mpr hu))
                    have gst : ∀ u ∈ st', am_rg u := by
                      obtain ⟨nn, e1, -⟩ := am_ca_inv h4
                      intro u hu
                      exact gs u (by rw [e1]; exact List.mem_append_right _ hu)
                    have hu3 := hu1
                    obtain ⟨u1, u2⟩ := hu1
                    obtain ⟨u3, u4⟩ := hu2
                    refine am_sim_ca hx hb hml hown hts hF hRF hRL h4 hdg hs hl hH hS hu3 (by omega) (by omega) (fun q hq hm0 hwd => (hcall n (Nat.lt_succ_self n) mm q as σ r1 σ1 hq hm0 hwd gas h5)) (fun gr H1 locs1 c1 s1 k1 k2 k3 k4 => ih _ _ l (r1.toList ++ st') σ1 ls H1 locs1 c1 s1 hchk hl gl ?_ k1 k2 (by omega) (by omega) h)
                    intro u hu
                    rcases List.mem_append.mp hu with hu | hu
                    · cases r1 with
                      | none => cases hu
                      | some r1 =>
                        cases List.mem_singleton.mp hu
                        exact gr
                    · exact gst u hu
                | none =>
                  rw [h4] at h
                  dsimp only at h
                  cases h6 : am_rt j ops st with
                  | none => rw [h6] at h; cases h
                  | some r1 =>
                    rw [h6] at h
                    cases h
                    obtain ⟨e1, hk⟩ := am_rt_inv h6
                    subst e1
                    have gr : am_rg (r.getD (vR 0)) := by
                      cases r with
                      | none => exact trivial
                      | some r => exact gs r List.mem_cons_self
                    have hc3 : cells = mc := by omega
                    have hs3 : slots = ms := by omega
                    subst hc3
                    subst hs3
                    have hfin := hend gr pc ls H locs hH hS
                    rcases hk with ⟨rfl, rfl⟩ | ⟨x, rfl, rfl, hx01⟩ | ⟨x, rfl, rfl⟩ | ⟨x, rfl, rfl⟩
                    · simp only [am_side, Bool.and_eq_true, beq_iff_eq, decide_eq_true_eq] at hs
                      obtain ⟨rfl, hr⟩ := hs
                      exact hfin ⟨hdg, hr⟩
                    · simp only [am_side, Bool.and_eq_true, beq_iff_eq, decide_eq_true_eq] at hs
                      obtain ⟨rfl, hr⟩ := hs
                      refine hfin ⟨hdg, ?_⟩
                      rcases hr with ⟨-, hr⟩ | ⟨rfl, hr⟩
                      · exact Or.inl hr
                      · refine Or.inr ⟨hr, ?_⟩
                        rcases hx01 with h | h
                        · cases h
                        · exact h
                    · simp only [am_side, Bool.and_eq_true, beq_iff_eq, decide_eq_true_eq] at hs
                      obtain ⟨rfl, hr⟩ := hs
                      exact hfin ⟨hdg, hr⟩
                    · simp only [am_side, Bool.and_eq_true, beq_iff_eq, decide_eq_true_eq] at hs
                      obtain ⟨rfl, hr⟩ := hs
                      exact hfin ⟨hdg, hr⟩
        · cases hchk
/-- the least that a call's end must give -/
theorem am_chkB {o : Nat} {q : am_M} (h : am_chkM o q = true) : ∀ (k t : Nat), q.2.2.2.2.2.2.2.1[k]? = some t → am_chk o (q.1.name == "<init>") q.2.2.1 q.2.2.2.1 q.2.2.2.2.1.1 q.2.2.2.2.1.2 q.2.2.2.2.2.2.2.1 q.2.1 t (q.2.2.2.2.2.2.2.2.getD k []) = true := by
  obtain ⟨y, bytes, mL, rt, ⟨fF, fL⟩, nn, kd, ss, bb⟩ := q
  intro k t ht
  have ht : ss[k]? = some t := ht
  have h : (decide (ss[0]? = some 0) && decide (ss.length = bb.length) && (ss.zip bb).all (fun q => am_chk o (y.name == "<init>") mL rt fF fL ss bytes q.1 q.2)) = true := h
  rw [Bool.and_eq_true, Bool.and_eq_true] at h
  obtain ⟨⟨h1, h2⟩, h3⟩ := h
  have h2 := of_decide_eq_true h2
  have hk : k < ss.length := (List.getElem?_eq_some_iff.mp ht).1
  have hb : bb[k]? = some (bb.getD k []) := by
    rw [List.getD_eq_getElem?_getD, List.getElem?_eq_getElem (by omega)]
    rfl
  have hz : (ss.zip bb)[k]? = some (t, bb.getD k []) := by
    rw [List.getElem?_zip_eq_some]
    exact ⟨ht, hb⟩
  exact List.all_eq_true.mp h3 _ (List.mem_of_getElem? hz)
theorem am_chk0 {o : Nat} {q : am_M} (h : am_chkM o q = true) : q.2.2.2.2.2.2.2.1[0]? = some 0 := by
  obtain ⟨y, bytes, mL, rt, ⟨fF, fL⟩, nn, kd, ss, bb⟩ := q
  have h : (decide (ss[0]? = some 0) && decide (ss.length = bb.length) && (ss.zip bb).all (fun q => am_chk o (y.name == "<init>") mL rt fF fL ss bytes q.1 q.2)) = true := h
  rw [Bool.and_eq_true, Bool.and_eq_true] at h
  exact of_decide_eq_true h.1.1
set_option maxHeartbeats 4000000 in
theorem am_sim_all (l0 : Launch) (z w b L : Nat) (xs : Nat → Int32) (D : va_G) : ∀ (n : Nat) (j : Nat) (q : am_M) (as : List am_V) (σ : am_S) (r : Option am_V) (σ' : am_S), am_meths[j]? = some q → j ≠ 0 → (as.map am_cat).sum ≤ q.2.2.1 → (∀ v ∈ as, am_rg v) → am_run am_P n (am_P j) ((am_P j).getD 0 []) (am_args 0 as) [] σ = some (r, σ') → am_Met l0 z w b L xs D q as σ r σ' := by
  intro n
  induction n using Nat.strongRecOn with
  | ind n ihn =>
    intro j q as σ r σ' hq hj hwd gas h
    have hgood := am_gall j q hq hj
    have hP : am_P j = q.2.2.2.2.2.2.2.2 := by
      unfold am_P
      rw [List.getD_eq_getElem?_getD, hq]
      rfl
    obtain ⟨y, bytes, mL, rt, ⟨fF, fL⟩, nn, kd, ss, bb⟩ := q
    obtain ⟨o, ho14, how, hcls, hchk, hRM, hpl, hcode, hini, hkw⟩ := hgood
    have hB := am_chkB hchk
    have h0 := am_chk0 hchk
    have hP : am_P j = bb := hP
    unfold am_Met
    refine Met.ofW (cc := bytes) (maxL := mL) (ret := rt) hpl rfl ?_
    intro p e s m args below meth c s₁ B hml hv
    obtain ⟨rfl, hH, hF⟩ := hv
    have hx := B.exec
    have hb := B.bytes
    have hr := B.returns
    have hts0 := atoms_spec (ws := Cond.code y bytes mL rt :: lw_gt) B.pre
    have hts : ∀ q ∈ lw_gt, q.before (as.map (am_tv z w b)).toArray s = true := fun q hq => hts0 q (List.mem_cons_of_mem _ hq)
    have hown : s.vm.findClass (am_cn o) = some m.cls := by rw [← hcls]; exact findClass_of_methodNamed B.named
    have hlocks := B.notSynchronized
    have hnm : meth.name = y.name := (name_of_methodNamed B.named B.method).1
    have hlen : (lg_sl (as.map (am_tv z w b))).length ≤ mL := by rw [am_sl_len]; exact hwd
    have hl := lv_entry (as.map (am_tv z w b)) (n := mL) hlen
    rw [am_args_map] at hl
    rw [lg_entry_eq]
    generalize (lg_sl (as.map (am_tv z w b)) ++ List.replicate (mL - (lg_sl (as.map (am_tv z w b))).length) Slot.unset).toArray = ls at hl ⊢
    have hup := am_up_run am_P _ _ _ _ _ _ _ _ h
    obtain ⟨u1, u2⟩ := hup
    have hrun := am_sim_run (p := p) (l0 := l0) (e := e) (R := (headSpec (Cond.code y bytes mL rt :: lw_gt) ({ frames := fF, cells := σ'.2.2.2.1 - σ.2.2.2.1, slots := σ'.2.2.2.2 - σ.2.2.2.2, locals := fL } : Room)).room) (s := s) (m := m) (args := (as.map (am_tv z w b)).toArray) (below := below) (meth := meth) (c := c) (Q := MQ below (fun _ st oc t => oc = .returned (r.map (am_tv z w b)) ∧ am_HR z w b L xs D σ' t t.heap ∧ va_F (fun q => z ≤ q) st t ∧ am_rg (r.getD (vR 0))) (as.map (am_tv z w b)).toArray s (σ'.2.2.2.1 - σ.2.2.2.1) (σ'.2.2.2.2 - σ.2.2.2.2) (fun q => z ≤ q)) (cc := bytes) (z := z) (w := w) (b := b) (L := L) (xs := xs) (D := D) (o := o) (ini := y.name == "<init>") (maxL := mL) (ret := rt) (RF := fF) (RL := fL) (sts := ss) hx hb hml hown hts hF (fun hi => by rw [hnm]; exact eq_of_beq hi) rfl rfl (bs := bb) hB (r := r) (σf := σ') (mc := σ'.2.2.2.1 - σ.2.2.2.1) (ms := σ'.2.2.2.2 - σ.2.2.2.2) (Nat.le_refl _) (Nat.le_refl _) ?_ n (fun k hk => ihn k hk) (bb.getD 0 []) 0 (am_args 0 as) [] σ ls s.heap [] 0 0 (hB 0 0 h0) hl (am_args_rg 0 as gas) (fun v hv => by cases hv) hH va_S.rf (by omega) (by omega) (by rw [← hP]; exact h)
    · exact hrun
    · intro hgr pc ls H locs hH hS hm
      have hq : ∀ t : State, t.heap = H → s.WarmedH t.vm → (Outcome.returned (r.map (am_tv z w b)) = .returned (r.map (am_tv z w b)) ∧ am_HR z w b L xs D σ' t t.heap ∧ va_F (fun q => z ≤ q) s t ∧ am_rg (r.getD (vR 0))) := fun t ht hW => ⟨rfl, by rw [ht]; exact am_HR_moved hW.alike hH, hS.F ht, hgr⟩
      rcases r with _ | x | x | x
      · exact W.vret hx hb (by rw [hr, hm.2]) hq hS.2.2 hm.1
      · obtain ⟨hd, hrt⟩ := hm
        rcases hrt with hrt | ⟨hrt, h01⟩
        · exact W.iret hx hb (by rw [hr, hrt]) hq hS.2.2 hd
        · refine W.zret (ty := .boolean) hx hb (by rw [hr, hrt]) ?_ hq hS.2.2 hd
          rcases h01 with rfl | rfl <;> rfl
      · exact W.lret hx hb (by rw [hr, hm.2]) hq hS.2.2 hm.1
      · rcases x with _ | x
        · exact absurd hm (fun h => h)
        · exact W.aret (v := am_tv z w b (vR x)) hx hb (by rw [hr, hm.2]) (Or.inr ⟨.int, rfl⟩) (Or.inr ⟨_, rfl⟩) hq hS.2.2 hm.1
end SIM
end
