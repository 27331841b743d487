/-! STEPS; WHAT EXPLAINS, LACKS, HANGS -/
theorem lw_14 {k mm pH L : Nat} {xs : Nat → Int32} {D : Nat → Nat → Int} {A : am_S} (σ : am_S) (hA : LA k mm pH L xs D A) (hZ : LZ k mm D A σ) {t : Nat} (ht : t < 8) {hA0 : Nat} (bA0 : hA0 < nkT k) (hK : ∀ σ' : am_S, LZ k mm D A σ' → TT am_b0 (am_b0.getD 4 []) [(0, vR 1), (1, vR 2), (5, vR 79), (6, vI (((k : Nat) : Int))), (8, vI (((mm : Nat) : Int))), (9, vR pH), (10, vI (((nkT k : Nat) : Int))), (11, vI (((t + 1 : Nat) : Int)))] [] σ' (fun r σ' => QL r σ')) : TT am_b0 (am_b0.getD 14 []) [(0, vR 1), (1, vR 2), (5, vR 79), (6, vI (((k : Nat) : Int))), (8, vI (((mm : Nat) : Int))), (9, vR pH), (10, vI (((nkT k : Nat) : Int))), (11, vI (((t : Nat) : Int))), (12, vI (((tb k hA0 : Nat) : Int)))] [] σ (fun r σ' => QL r σ') := by
  have hkm := hA.1.2
  have hNb := la_N hA
  have tA0 := la_tb hA bA0
  refine tt_ar rfl ?_
  refine tt_ar rfl ?_
  refine tt_ar rfl ?_
  refine tt_iadd (by omega) (by omega) ?_
  refine tt_cs2 2 rfl (c173' σ L xs (lz_sc hA hZ) hA.2.1.2 ((14 + t)) (by omega) _ (by omega)) (kxI (fun xc1 hxc1 => ?_))
  · refine tt_ar rfl ?_
    refine tt_bI (g := a_shr) (z := a_shr (xc1) (21)) rfl rfl ?_
    refine tt_ar rfl ?_
    refine tt_cs2 2 rfl (c172 σ _ _ (by omega)) (kx (fun i2 hi2 => ?_))
    · refine tt_ar rfl ?_
      refine tt_ar rfl ?_
      refine tt_ar rfl ?_
      refine tt_ar rfl ?_
      refine tt_ar rfl ?_
      refine tt_cv4 4 rfl (wo_2 hZ.1.w) (w70 hZ bA0 (x := i2) (by omega) rfl (by omega) rfl) ?_
      intro r3 σ3 hq3
      have hn0 : ¬ isIn (A.1 5 4) 0 ((i2 : Nat) : Int) := fun e => by have := e.1; omega
      rw [if_neg hn0] at hq3
      have hx25 := la_25 hA bA0 (x := i2) (by omega)
      obtain ⟨hZ3, -, rfl, aq3⟩ := hq3
      · refine tt_ar rfl ?_
        refine tt_ar rfl ?_
        refine tt_cv1 1 rfl (wo_2 hZ3.1.w) (w158 hZ3) ?_
        intro r4 σ4 hq4
        rw [aq3] at hq4
        obtain ⟨hZ4, -, -, rfl⟩ := hq4
        · refine tt_ar rfl ?_
          refine tt_ar rfl ?_
          refine tt_ar rfl ?_
          refine tt_ar rfl ?_
          refine tt_ar rfl ?_
          refine tt_cv4 4 rfl (wo_2 hZ4.1.w) (w70 hZ4 bA0 (x := i2) (by omega) rfl (by omega) rfl) ?_
          intro r5 σ5 hq5
          obtain ⟨wet, hwet, hwe⟩ : ∃ z : Int, ((a_and (a_shr (A.1 5 4) ((i2 : Nat) : Int)) 1 = 1 ∧ z = 0) ∨ (¬ a_and (a_shr (A.1 5 4) ((i2 : Nat) : Int)) 1 = 1 ∧ z = A.1 25 (hA0 * 8 + i2))) ∧ (if isIn (A.1 5 4) 1 ((i2 : Nat) : Int) then 0 else A.1 25 (hA0 * 8 + i2)) = z := by
            by_cases c : isIn (A.1 5 4) 1 ((i2 : Nat) : Int)
            · exact ⟨_, Or.inl ⟨c.2, rfl⟩, if_pos c⟩
            · exact ⟨_, Or.inr ⟨fun e => c ⟨rfl, e⟩, rfl⟩, if_neg c⟩
          rw [hwe] at hq5
          obtain ⟨hZ5, -, rfl, aq5⟩ := hq5
          · refine tt_ar rfl ?_
            refine tt_ar rfl ?_
            refine tt_iflt (fun h14_26 => ?_) (fun h14_26 => ?_)
            · exfalso; omega
            · refine tt_ar rfl ?_
              refine tt_ar rfl ?_
              refine tt_iclt (fun h14_29 => ?_) (fun h14_29 => ?_)
              · exfalso; omega
              · refine tt_ar rfl ?_
                refine tt_ar rfl ?_
                refine tt_icgt (fun h14_32 => ?_) (fun h14_32 => ?_)
                · exfalso; omega
                · refine tt_ar rfl ?_
                  refine tt_cv1 1 rfl (wo_2 hZ5.1.w) (w158 hZ5) ?_
                  intro r6 σ6 hq6
                  rw [aq5] at hq6
                  obtain ⟨hZ6, -, -, rfl⟩ := hq6
                  · refine tt_ar rfl ?_
                    refine tt_icne (fun h14_36 => ?_) (fun h14_36 => ?_)
                    · exfalso; omega
                    · refine tt_ar rfl ?_
                      refine tt_ar rfl ?_
                      refine tt_cv1 1 rfl (wo_2 hZ6.1.w) (w59 hZ6) ?_
                      intro r7 σ7 hq7
                      obtain ⟨hZ7, -, -, rfl⟩ := hq7
                      · refine tt_ar rfl ?_
                        refine tt_bI (g := a_shr) (z := a_shr (A.1 5 4) (((i2 : Nat) : Int))) rfl rfl ?_
                        refine tt_ar rfl ?_
                        refine tt_bI (g := a_and) (z := a_and (a_shr (A.1 5 4) (((i2 : Nat) : Int))) (1)) rfl rfl ?_
                        refine tt_ar rfl ?_
                        refine tt_icne (fun h14_45 => ?_) (fun h14_45 => ?_)
                        · refine tt_ar rfl ?_
                          refine tt_nop ?_
                          refine tt_iceq (fun h16_0 => ?_) (fun h16_0 => ?_)
                          · refine tt_iinc (y := ((t + 1 : Nat) : Int)) rfl (iinc_fit (by omega) (by omega) (by omega)) ?_
                            refine tt_goto ?_
                            refine tt_loc [(0, vR 1), (1, vR 2), (5, vR 79), (6, vI (((k : Nat) : Int))), (8, vI (((mm : Nat) : Int))), (9, vR pH), (10, vI (((nkT k : Nat) : Int))), (11, vI (((t + 1 : Nat) : Int)))] rfl rfl ⟨rfl, rfl, rfl, rfl, rfl, rfl, rfl, rfl, trivial⟩ ?_
                            exact hK _ hZ7
                          · refine tt_nop ?_
                            exfalso; omega
                        · refine tt_ar rfl ?_
                          refine tt_goto ?_
                          refine tt_iceq (fun h16_0 => ?_) (fun h16_0 => ?_)
                          · refine tt_iinc (y := ((t + 1 : Nat) : Int)) rfl (iinc_fit (by omega) (by omega) (by omega)) ?_
                            refine tt_goto ?_
                            refine tt_loc [(0, vR 1), (1, vR 2), (5, vR 79), (6, vI (((k : Nat) : Int))), (8, vI (((mm : Nat) : Int))), (9, vR pH), (10, vI (((nkT k : Nat) : Int))), (11, vI (((t + 1 : Nat) : Int)))] rfl rfl ⟨rfl, rfl, rfl, rfl, rfl, rfl, rfl, rfl, trivial⟩ ?_
                            exact hK _ hZ7
                          · refine tt_nop ?_
                            exfalso; omega

theorem lw_6 {k mm pH L : Nat} {xs : Nat → Int32} {D : Nat → Nat → Int} {A : am_S} (σ : am_S) (hA : LA k mm pH L xs D A) (hZ : LZ k mm D A σ) {t : Nat} (ht : t < 8) {hA0 : Nat} (bA0 : hA0 < nkT k) (hK : ∀ σ' : am_S, LZ k mm D A σ' → TT am_b0 (am_b0.getD 4 []) [(0, vR 1), (1, vR 2), (5, vR 79), (6, vI (((k : Nat) : Int))), (8, vI (((mm : Nat) : Int))), (9, vR pH), (10, vI (((nkT k : Nat) : Int))), (11, vI (((t + 1 : Nat) : Int)))] [] σ' (fun r σ' => QL r σ')) : TT am_b0 (am_b0.getD 6 []) [(0, vR 1), (1, vR 2), (5, vR 79), (6, vI (((k : Nat) : Int))), (8, vI (((mm : Nat) : Int))), (9, vR pH), (10, vI (((nkT k : Nat) : Int))), (11, vI (((t : Nat) : Int))), (12, vI (((tb k hA0 : Nat) : Int)))] [] σ (fun r σ' => QL r σ') := by
  have hkm := hA.1.2
  have hNb := la_N hA
  have tA0 := la_tb hA bA0
  refine tt_ar rfl ?_
  refine tt_ar rfl ?_
  refine tt_ar rfl ?_
  refine tt_iadd (by omega) (by omega) ?_
  refine tt_cs2 2 rfl (c173' σ L xs (lz_sc hA hZ) hA.2.1.2 ((14 + t)) (by omega) _ (by omega)) (kxI (fun xc8 hxc8 => ?_))
  · refine tt_ar rfl ?_
    refine tt_bI (g := a_shr) (z := a_shr (xc8) (19)) rfl rfl ?_
    refine tt_ar rfl ?_
    refine tt_cs2 2 rfl (c172 σ _ _ (by omega)) (kx (fun i9 hi9 => ?_))
    · refine tt_ar rfl ?_
      refine tt_ar rfl ?_
      refine tt_ar rfl ?_
      refine tt_ar rfl ?_
      refine tt_cv3 3 rfl (wo_2 hZ.1.w) (w73 hZ (m := i9) (by omega) bA0 rfl rfl) ?_
      intro r10 σ10 hq10
      obtain ⟨hZ10, -, hq10⟩ := hq10
      obtain ⟨hag, hand⟩ := la_ag hA (m := i9) (by omega) bA0
      obtain ⟨po1, po2, po3⟩ := la_po hA (how := cEx A k i9 hA0)
      have po4 : 0 < prOf (A.1 9) (cEx A k i9 hA0) → cEx A k i9 hA0 < 20 → prOf (A.1 9) (cEx A k i9 hA0) = A.1 9 3 := fun q q2 => by rw [po3 q, if_pos q2]
      have po5 : 0 < prOf (A.1 9) (cEx A k i9 hA0) → ¬ cEx A k i9 hA0 < 20 → prOf (A.1 9) (cEx A k i9 hA0) = A.1 9 4 := fun q q2 => by rw [po3 q, if_neg q2]
      rcases hq10 with ⟨z9, rfl⟩ | ⟨z9, rfl, aq10⟩
      · refine tt_ar rfl ?_
        refine tt_ar rfl ?_
        refine tt_cv1 1 rfl (wo_2 hZ10.1.w) (w158 hZ10) ?_
        intro r11 σ11 hq11
        obtain ⟨hZ11, -, -, rfl⟩ := hq11
        · refine tt_ar rfl ?_
          refine tt_ar rfl ?_
          refine tt_ar rfl ?_
          refine tt_ar rfl ?_
          refine tt_cv3 3 rfl (wo_2 hZ11.1.w) (w82 hZ11 (m := i9) (by omega) bA0 rfl rfl) ?_
          intro r12 σ12 hq12
          obtain ⟨hZ12, -, rfl, aq12⟩ := hq12
          · refine tt_ar rfl ?_
            refine tt_ar rfl ?_
            refine tt_cv1 1 rfl (wo_2 hZ12.1.w) (w158 hZ12) ?_
            intro r13 σ13 hq13
            rw [aq12] at hq13
            obtain ⟨hZ13, -, -, rfl⟩ := hq13
            · refine tt_ar rfl ?_
              refine tt_ar rfl ?_
              refine tt_ifne (fun h6_27 => ?_) (fun h6_27 => ?_)
              · refine tt_ar rfl ?_
                refine tt_nop ?_
                refine tt_ar rfl ?_
                refine tt_ifneT (by decide) ?_
                refine tt_ar rfl ?_
                refine tt_nop ?_
                refine tt_icne (fun h => absurd h (by omega)) (fun _ => ?_)
                refine tt_ar rfl ?_
                refine tt_ar rfl ?_
                refine tt_bI (g := a_and) (z := 0) rfl hand ?_
                refine tt_ifne (fun h10_4 => ?_) (fun h10_4 => ?_)
                · exfalso; omega
                · refine tt_ar rfl ?_
                  refine tt_ifleT (by decide) ?_
                  refine tt_loc [(0, vR 1), (1, vR 2), (5, vR 79), (6, vI (((k : Nat) : Int))), (8, vI (((mm : Nat) : Int))), (9, vR pH), (10, vI (((nkT k : Nat) : Int))), (11, vI (((t : Nat) : Int))), (12, vI (((tb k hA0 : Nat) : Int)))] rfl rfl ⟨rfl, rfl, rfl, rfl, rfl, rfl, rfl, rfl, rfl, trivial⟩ ?_
                  exact lw_14 _ hA hZ13 ht bA0 hK
              · refine tt_ar rfl ?_
                refine tt_ifne (fun h6_29 => ?_) (fun h6_29 => ?_)
                · refine tt_ar rfl ?_
                  refine tt_nop ?_
                  refine tt_ar rfl ?_
                  refine tt_ifneT (by decide) ?_
                  refine tt_ar rfl ?_
                  refine tt_nop ?_
                  refine tt_icne (fun h => absurd h (by omega)) (fun _ => ?_)
                  refine tt_ar rfl ?_
                  refine tt_ar rfl ?_
                  refine tt_bI (g := a_and) (z := 0) rfl hand ?_
                  refine tt_ifne (fun h10_4 => ?_) (fun h10_4 => ?_)
                  · exfalso; omega
                  · refine tt_ar rfl ?_
                    refine tt_ifleT (by decide) ?_
                    refine tt_loc [(0, vR 1), (1, vR 2), (5, vR 79), (6, vI (((k : Nat) : Int))), (8, vI (((mm : Nat) : Int))), (9, vR pH), (10, vI (((nkT k : Nat) : Int))), (11, vI (((t : Nat) : Int))), (12, vI (((tb k hA0 : Nat) : Int)))] rfl rfl ⟨rfl, rfl, rfl, rfl, rfl, rfl, rfl, rfl, rfl, trivial⟩ ?_
                    exact lw_14 _ hA hZ13 ht bA0 hK
                · refine tt_ar rfl ?_
                  refine tt_goto ?_
                  refine tt_ar rfl ?_
                  refine tt_ifneT (by decide) ?_
                  refine tt_ar rfl ?_
                  refine tt_nop ?_
                  refine tt_icne (fun _ => ?_) (fun h => absurd h (by omega))
                  exfalso; omega
      · refine tt_ar rfl ?_
        refine tt_ar rfl ?_
        refine tt_cv1 1 rfl (wo_2 hZ10.1.w) (w158 hZ10) ?_
        intro r14 σ14 hq14
        rw [aq10] at hq14
        obtain ⟨hZ14, -, -, rfl⟩ := hq14
        · refine tt_ar rfl ?_
          refine tt_ar rfl ?_
          refine tt_ar rfl ?_
          refine tt_ar rfl ?_
          refine tt_cv3 3 rfl (wo_2 hZ14.1.w) (w82 hZ14 (m := i9) (by omega) bA0 rfl rfl) ?_
          intro r15 σ15 hq15
          obtain ⟨hZ15, -, rfl, aq15⟩ := hq15
          · refine tt_ar rfl ?_
            refine tt_ar rfl ?_
            refine tt_cv1 1 rfl (wo_2 hZ15.1.w) (w158 hZ15) ?_
            intro r16 σ16 hq16
            rw [aq15] at hq16
            obtain ⟨hZ16, -, -, rfl⟩ := hq16
            · refine tt_ar rfl ?_
              refine tt_ar rfl ?_
              refine tt_ifne (fun h6_27 => ?_) (fun h6_27 => ?_)
              · refine tt_ar rfl ?_
                refine tt_nop ?_
                refine tt_ar rfl ?_
                refine tt_ifne (fun h8_1 => ?_) (fun h8_1 => ?_)
                · refine tt_ar rfl ?_
                  refine tt_nop ?_
                  refine tt_icne (fun h => absurd h (by omega)) (fun _ => ?_)
                  refine tt_ar rfl ?_
                  refine tt_ar rfl ?_
                  refine tt_bI (g := a_and) (z := 0) rfl hand ?_
                  refine tt_ifne (fun h10_4 => ?_) (fun h10_4 => ?_)
                  · exfalso; omega
                  · refine tt_ar rfl ?_
                    refine tt_ifle (fun h10_6 => ?_) (fun h10_6 => ?_)
                    · refine tt_loc [(0, vR 1), (1, vR 2), (5, vR 79), (6, vI (((k : Nat) : Int))), (8, vI (((mm : Nat) : Int))), (9, vR pH), (10, vI (((nkT k : Nat) : Int))), (11, vI (((t : Nat) : Int))), (12, vI (((tb k hA0 : Nat) : Int)))] rfl rfl ⟨rfl, rfl, rfl, rfl, rfl, rfl, rfl, rfl, rfl, trivial⟩ ?_
                      exact lw_14 _ hA hZ16 ht bA0 hK
                    · refine tt_ar rfl ?_
                      refine tt_ar rfl ?_
                      refine tt_ar rfl ?_
                      refine tt_ar rfl ?_
                      refine tt_icge (fun h10_11 => ?_) (fun h10_11 => ?_)
                      · refine tt_ar rfl ?_
                        refine tt_nop ?_
                        refine tt_iald (5) (x := A.1 9 4) (lz_k79 hA hZ16) (by omega) (by omega) (lz_mo hA hZ16 (i := 4) (by omega)) ?_
                        refine tt_iceq (fun h12_1 => ?_) (fun h12_1 => ?_)
                        · refine tt_loc [(0, vR 1), (1, vR 2), (5, vR 79), (6, vI (((k : Nat) : Int))), (8, vI (((mm : Nat) : Int))), (9, vR pH), (10, vI (((nkT k : Nat) : Int))), (11, vI (((t : Nat) : Int))), (12, vI (((tb k hA0 : Nat) : Int)))] rfl rfl ⟨rfl, rfl, rfl, rfl, rfl, rfl, rfl, rfl, rfl, trivial⟩ ?_
                          exact lw_14 _ hA hZ16 ht bA0 hK
                        · refine tt_nop ?_
                          exfalso; omega
                      · refine tt_ar rfl ?_
                        refine tt_goto ?_
                        refine tt_iald (4) (x := A.1 9 3) (lz_k79 hA hZ16) (by omega) (by omega) (lz_mo hA hZ16 (i := 3) (by omega)) ?_
                        refine tt_iceq (fun h12_1 => ?_) (fun h12_1 => ?_)
                        · refine tt_loc [(0, vR 1), (1, vR 2), (5, vR 79), (6, vI (((k : Nat) : Int))), (8, vI (((mm : Nat) : Int))), (9, vR pH), (10, vI (((nkT k : Nat) : Int))), (11, vI (((t : Nat) : Int))), (12, vI (((tb k hA0 : Nat) : Int)))] rfl rfl ⟨rfl, rfl, rfl, rfl, rfl, rfl, rfl, rfl, rfl, trivial⟩ ?_
                          exact lw_14 _ hA hZ16 ht bA0 hK
                        · refine tt_nop ?_
                          exfalso; omega
                · refine tt_ar rfl ?_
                  refine tt_ifne (fun h8_3 => ?_) (fun h8_3 => ?_)
                  · refine tt_ar rfl ?_
                    refine tt_nop ?_
                    refine tt_icne (fun h => absurd h (by omega)) (fun _ => ?_)
                    refine tt_ar rfl ?_
                    refine tt_ar rfl ?_
                    refine tt_bI (g := a_and) (z := 0) rfl hand ?_
                    refine tt_ifne (fun h10_4 => ?_) (fun h10_4 => ?_)
                    · exfalso; omega
                    · refine tt_ar rfl ?_
                      refine tt_ifle (fun h10_6 => ?_) (fun h10_6 => ?_)
                      · refine tt_loc [(0, vR 1), (1, vR 2), (5, vR 79), (6, vI (((k : Nat) : Int))), (8, vI (((mm : Nat) : Int))), (9, vR pH), (10, vI (((nkT k : Nat) : Int))), (11, vI (((t : Nat) : Int))), (12, vI (((tb k hA0 : Nat) : Int)))] rfl rfl ⟨rfl, rfl, rfl, rfl, rfl, rfl, rfl, rfl, rfl, trivial⟩ ?_
                        exact lw_14 _ hA hZ16 ht bA0 hK
                      · refine tt_ar rfl ?_
                        refine tt_ar rfl ?_
                        refine tt_ar rfl ?_
                        refine tt_ar rfl ?_
                        refine tt_icge (fun h10_11 => ?_) (fun h10_11 => ?_)
                        · refine tt_ar rfl ?_
                          refine tt_nop ?_
                          refine tt_iald (5) (x := A.1 9 4) (lz_k79 hA hZ16) (by omega) (by omega) (lz_mo hA hZ16 (i := 4) (by omega)) ?_
                          refine tt_iceq (fun h12_1 => ?_) (fun h12_1 => ?_)
                          · refine tt_loc [(0, vR 1), (1, vR 2), (5, vR 79), (6, vI (((k : Nat) : Int))), (8, vI (((mm : Nat) : Int))), (9, vR pH), (10, vI (((nkT k : Nat) : Int))), (11, vI (((t : Nat) : Int))), (12, vI (((tb k hA0 : Nat) : Int)))] rfl rfl ⟨rfl, rfl, rfl, rfl, rfl, rfl, rfl, rfl, rfl, trivial⟩ ?_
                            exact lw_14 _ hA hZ16 ht bA0 hK
                          · refine tt_nop ?_
                            exfalso; omega
                        · refine tt_ar rfl ?_
                          refine tt_goto ?_
                          refine tt_iald (4) (x := A.1 9 3) (lz_k79 hA hZ16) (by omega) (by omega) (lz_mo hA hZ16 (i := 3) (by omega)) ?_
                          refine tt_iceq (fun h12_1 => ?_) (fun h12_1 => ?_)
                          · refine tt_loc [(0, vR 1), (1, vR 2), (5, vR 79), (6, vI (((k : Nat) : Int))), (8, vI (((mm : Nat) : Int))), (9, vR pH), (10, vI (((nkT k : Nat) : Int))), (11, vI (((t : Nat) : Int))), (12, vI (((tb k hA0 : Nat) : Int)))] rfl rfl ⟨rfl, rfl, rfl, rfl, rfl, rfl, rfl, rfl, rfl, trivial⟩ ?_
                            exact lw_14 _ hA hZ16 ht bA0 hK
                          · refine tt_nop ?_
                            exfalso; omega
                  · refine tt_ar rfl ?_
                    refine tt_goto ?_
                    refine tt_icne (fun _ => ?_) (fun h => absurd h (by omega))
                    exfalso; omega
              · refine tt_ar rfl ?_
                refine tt_ifne (fun h6_29 => ?_) (fun h6_29 => ?_)
                · refine tt_ar rfl ?_
                  refine tt_nop ?_
                  refine tt_ar rfl ?_
                  refine tt_ifne (fun h8_1 => ?_) (fun h8_1 => ?_)
                  · refine tt_ar rfl ?_
                    refine tt_nop ?_
                    refine tt_icne (fun h => absurd h (by omega)) (fun _ => ?_)
                    refine tt_ar rfl ?_
                    refine tt_ar rfl ?_
                    refine tt_bI (g := a_and) (z := 0) rfl hand ?_
                    refine tt_ifne (fun h10_4 => ?_) (fun h10_4 => ?_)
                    · exfalso; omega
                    · refine tt_ar rfl ?_
                      refine tt_ifle (fun h10_6 => ?_) (fun h10_6 => ?_)
                      · refine tt_loc [(0, vR 1), (1, vR 2), (5, vR 79), (6, vI (((k : Nat) : Int))), (8, vI (((mm : Nat) : Int))), (9, vR pH), (10, vI (((nkT k : Nat) : Int))), (11, vI (((t : Nat) : Int))), (12, vI (((tb k hA0 : Nat) : Int)))] rfl rfl ⟨rfl, rfl, rfl, rfl, rfl, rfl, rfl, rfl, rfl, trivial⟩ ?_
                        exact lw_14 _ hA hZ16 ht bA0 hK
                      · refine tt_ar rfl ?_
                        refine tt_ar rfl ?_
                        refine tt_ar rfl ?_
                        refine tt_ar rfl ?_
                        refine tt_icge (fun h10_11 => ?_) (fun h10_11 => ?_)
                        · refine tt_ar rfl ?_
                          refine tt_nop ?_
                          refine tt_iald (5) (x := A.1 9 4) (lz_k79 hA hZ16) (by omega) (by omega) (lz_mo hA hZ16 (i := 4) (by omega)) ?_
                          refine tt_iceq (fun h12_1 => ?_) (fun h12_1 => ?_)
                          · refine tt_loc [(0, vR 1), (1, vR 2), (5, vR 79), (6, vI (((k : Nat) : Int))), (8, vI (((mm : Nat) : Int))), (9, vR pH), (10, vI (((nkT k : Nat) : Int))), (11, vI (((t : Nat) : Int))), (12, vI (((tb k hA0 : Nat) : Int)))] rfl rfl ⟨rfl, rfl, rfl, rfl, rfl, rfl, rfl, rfl, rfl, trivial⟩ ?_
                            exact lw_14 _ hA hZ16 ht bA0 hK
                          · refine tt_nop ?_
                            exfalso; omega
                        · refine tt_ar rfl ?_
                          refine tt_goto ?_
                          refine tt_iald (4) (x := A.1 9 3) (lz_k79 hA hZ16) (by omega) (by omega) (lz_mo hA hZ16 (i := 3) (by omega)) ?_
                          refine tt_iceq (fun h12_1 => ?_) (fun h12_1 => ?_)
                          · refine tt_loc [(0, vR 1), (1, vR 2), (5, vR 79), (6, vI (((k : Nat) : Int))), (8, vI (((mm : Nat) : Int))), (9, vR pH), (10, vI (((nkT k : Nat) : Int))), (11, vI (((t : Nat) : Int))), (12, vI (((tb k hA0 : Nat) : Int)))] rfl rfl ⟨rfl, rfl, rfl, rfl, rfl, rfl, rfl, rfl, rfl, trivial⟩ ?_
                            exact lw_14 _ hA hZ16 ht bA0 hK
                          · refine tt_nop ?_
                            exfalso; omega
                  · refine tt_ar rfl ?_
                    refine tt_ifne (fun h8_3 => ?_) (fun h8_3 => ?_)
                    · refine tt_ar rfl ?_
                      refine tt_nop ?_
                      refine tt_icne (fun h => absurd h (by omega)) (fun _ => ?_)
                      refine tt_ar rfl ?_
                      refine tt_ar rfl ?_
                      refine tt_bI (g := a_and) (z := 0) rfl hand ?_
                      refine tt_ifne (fun h10_4 => ?_) (fun h10_4 => ?_)
                      · exfalso; omega
                      · refine tt_ar rfl ?_
                        refine tt_ifle (fun h10_6 => ?_) (fun h10_6 => ?_)
                        · refine tt_loc [(0, vR 1), (1, vR 2), (5, vR 79), (6, vI (((k : Nat) : Int))), (8, vI (((mm : Nat) : Int))), (9, vR pH), (10, vI (((nkT k : Nat) : Int))), (11, vI (((t : Nat) : Int))), (12, vI (((tb k hA0 : Nat) : Int)))] rfl rfl ⟨rfl, rfl, rfl, rfl, rfl, rfl, rfl, rfl, rfl, trivial⟩ ?_
                          exact lw_14 _ hA hZ16 ht bA0 hK
                        · refine tt_ar rfl ?_
                          refine tt_ar rfl ?_
                          refine tt_ar rfl ?_
                          refine tt_ar rfl ?_
                          refine tt_icge (fun h10_11 => ?_) (fun h10_11 => ?_)
                          · refine tt_ar rfl ?_
                            refine tt_nop ?_
                            refine tt_iald (5) (x := A.1 9 4) (lz_k79 hA hZ16) (by omega) (by omega) (lz_mo hA hZ16 (i := 4) (by omega)) ?_
                            refine tt_iceq (fun h12_1 => ?_) (fun h12_1 => ?_)
                            · refine tt_loc [(0, vR 1), (1, vR 2), (5, vR 79), (6, vI (((k : Nat) : Int))), (8, vI (((mm : Nat) : Int))), (9, vR pH), (10, vI (((nkT k : Nat) : Int))), (11, vI (((t : Nat) : Int))), (12, vI (((tb k hA0 : Nat) : Int)))] rfl rfl ⟨rfl, rfl, rfl, rfl, rfl, rfl, rfl, rfl, rfl, trivial⟩ ?_
                              exact lw_14 _ hA hZ16 ht bA0 hK
                            · refine tt_nop ?_
                              exfalso; omega
                          · refine tt_ar rfl ?_
                            refine tt_goto ?_
                            refine tt_iald (4) (x := A.1 9 3) (lz_k79 hA hZ16) (by omega) (by omega) (lz_mo hA hZ16 (i := 3) (by omega)) ?_
                            refine tt_iceq (fun h12_1 => ?_) (fun h12_1 => ?_)
                            · refine tt_loc [(0, vR 1), (1, vR 2), (5, vR 79), (6, vI (((k : Nat) : Int))), (8, vI (((mm : Nat) : Int))), (9, vR pH), (10, vI (((nkT k : Nat) : Int))), (11, vI (((t : Nat) : Int))), (12, vI (((tb k hA0 : Nat) : Int)))] rfl rfl ⟨rfl, rfl, rfl, rfl, rfl, rfl, rfl, rfl, rfl, trivial⟩ ?_
                              exact lw_14 _ hA hZ16 ht bA0 hK
                            · refine tt_nop ?_
                              exfalso; omega
                    · refine tt_ar rfl ?_
                      refine tt_goto ?_
                      refine tt_icne (fun _ => ?_) (fun h => absurd h (by omega))
                      exfalso; omega
                · refine tt_ar rfl ?_
                  refine tt_goto ?_
                  refine tt_ar rfl ?_
                  refine tt_ifne (fun h8_1 => ?_) (fun h8_1 => ?_)
                  · refine tt_ar rfl ?_
                    refine tt_nop ?_
                    refine tt_icne (fun _ => ?_) (fun h => absurd h (by omega))
                    exfalso; omega
                  · refine tt_ar rfl ?_
                    refine tt_ifne (fun h8_3 => ?_) (fun h8_3 => ?_)
                    · refine tt_ar rfl ?_
                      refine tt_nop ?_
                      refine tt_icne (fun _ => ?_) (fun h => absurd h (by omega))
                      exfalso; omega
                    · refine tt_ar rfl ?_
                      refine tt_goto ?_
                      refine tt_icne (fun h => absurd h (by omega)) (fun _ => ?_)
                      refine tt_ar rfl ?_
                      refine tt_ar rfl ?_
                      refine tt_bI (g := a_and) (z := 0) rfl hand ?_
                      refine tt_ifne (fun h10_4 => ?_) (fun h10_4 => ?_)
                      · exfalso; omega
                      · refine tt_ar rfl ?_
                        refine tt_ifle (fun h10_6 => ?_) (fun h10_6 => ?_)
                        · refine tt_loc [(0, vR 1), (1, vR 2), (5, vR 79), (6, vI (((k : Nat) : Int))), (8, vI (((mm : Nat) : Int))), (9, vR pH), (10, vI (((nkT k : Nat) : Int))), (11, vI (((t : Nat) : Int))), (12, vI (((tb k hA0 : Nat) : Int)))] rfl rfl ⟨rfl, rfl, rfl, rfl, rfl, rfl, rfl, rfl, rfl, trivial⟩ ?_
                          exact lw_14 _ hA hZ16 ht bA0 hK
                        · refine tt_ar rfl ?_
                          refine tt_ar rfl ?_
                          refine tt_ar rfl ?_
                          refine tt_ar rfl ?_
                          refine tt_icge (fun h10_11 => ?_) (fun h10_11 => ?_)
                          · refine tt_ar rfl ?_
                            refine tt_nop ?_
                            refine tt_iald (5) (x := A.1 9 4) (lz_k79 hA hZ16) (by omega) (by omega) (lz_mo hA hZ16 (i := 4) (by omega)) ?_
                            refine tt_iceq (fun h12_1 => ?_) (fun h12_1 => ?_)
                            · refine tt_loc [(0, vR 1), (1, vR 2), (5, vR 79), (6, vI (((k : Nat) : Int))), (8, vI (((mm : Nat) : Int))), (9, vR pH), (10, vI (((nkT k : Nat) : Int))), (11, vI (((t : Nat) : Int))), (12, vI (((tb k hA0 : Nat) : Int)))] rfl rfl ⟨rfl, rfl, rfl, rfl, rfl, rfl, rfl, rfl, rfl, trivial⟩ ?_
                              exact lw_14 _ hA hZ16 ht bA0 hK
                            · refine tt_nop ?_
                              exfalso; omega
                          · refine tt_ar rfl ?_
                            refine tt_goto ?_
                            refine tt_iald (4) (x := A.1 9 3) (lz_k79 hA hZ16) (by omega) (by omega) (lz_mo hA hZ16 (i := 3) (by omega)) ?_
                            refine tt_iceq (fun h12_1 => ?_) (fun h12_1 => ?_)
                            · refine tt_loc [(0, vR 1), (1, vR 2), (5, vR 79), (6, vI (((k : Nat) : Int))), (8, vI (((mm : Nat) : Int))), (9, vR pH), (10, vI (((nkT k : Nat) : Int))), (11, vI (((t : Nat) : Int))), (12, vI (((tb k hA0 : Nat) : Int)))] rfl rfl ⟨rfl, rfl, rfl, rfl, rfl, rfl, rfl, rfl, rfl, trivial⟩ ?_
                              exact lw_14 _ hA hZ16 ht bA0 hK
                            · refine tt_nop ?_
                              exfalso; omega

theorem lw_4 {k mm pH L : Nat} {xs : Nat → Int32} {D : Nat → Nat → Int} {A : am_S} (σ : am_S) (hA : LA k mm pH L xs D A) (hZ : LZ k mm D A σ) : TT am_b0 (am_b0.getD 4 []) [(0, vR 1), (1, vR 2), (5, vR 79), (6, vI (((k : Nat) : Int))), (8, vI (((mm : Nat) : Int))), (9, vR pH), (10, vI (((nkT k : Nat) : Int))), (11, vI 0)] [] σ (fun r σ' => QL r σ') := by
  have hkm := hA.1.2
  have hN0 : 0 < nkT k := by have := la_N hA; omega
  have hNb := la_N hA
  have lp4_1 : ∀ (μ : Nat) (t : Nat) (σt : am_S), 8 - t < μ → (t ≤ 8) → (LZ k mm D A σt) → TT am_b0 (am_b0.getD 4 []) [(0, vR 1), (1, vR 2), (5, vR 79), (6, vI (((k : Nat) : Int))), (8, vI (((mm : Nat) : Int))), (9, vR pH), (10, vI (((nkT k : Nat) : Int))), (11, vI (((t : Nat) : Int)))] [] σt (fun r σ' => QL r σ') := by
    intro μ
    induction μ with
    | zero => intro t σt hμ; exact absurd hμ (Nat.not_lt_zero _)
    | succ μ ih4 =>
      intro t σt hμ ht hZt
      refine tt_ar rfl ?_
      refine tt_ar rfl ?_
      refine tt_icge (fun h4_2 => ?_) (fun h4_2 => ?_)
      · refine tt_loc [(0, vR 1), (1, vR 2), (6, vI (((k : Nat) : Int))), (8, vI (((mm : Nat) : Int))), (10, vI (((nkT k : Nat) : Int)))] rfl rfl ⟨rfl, rfl, rfl, rfl, rfl, trivial⟩ ?_
        exact lw_19 _ hA hZt
      · refine tt_ar rfl ?_
        refine tt_ar rfl ?_
        refine tt_ar rfl ?_
        refine tt_ar rfl ?_
        refine tt_iadd (by omega) (by omega) ?_
        refine tt_cs2 2 rfl (c173' σt L xs (lz_sc hA hZt) hA.2.1.2 ((14 + t)) (by omega) _ (by omega)) (kxI (fun xc17 hxc17 => ?_))
        · refine tt_ar rfl ?_
          refine tt_cs2 2 rfl (c172 σt _ _ (by omega)) (kx (fun i18 hi18 => ?_))
          · obtain ⟨hA0, bA0, eA0⟩ := lz_ho hA hZt (i := i18) (by omega)
            have tA0 := la_tb hA bA0
            refine tt_iald (i18) (x := ((tb k hA0 : Nat) : Int)) (lz_kpH hA hZt) (by omega) (by omega) eA0 ?_
            refine tt_ar rfl ?_
            refine tt_ar rfl ?_
            refine tt_ar rfl ?_
            refine tt_ar rfl ?_
            refine tt_ar rfl ?_
            refine tt_iadd (by omega) (by omega) ?_
            refine tt_cs2 2 rfl (c173' σt L xs (lz_sc hA hZt) hA.2.1.2 ((14 + t)) (by omega) _ (by omega)) (kxI (fun xc19 hxc19 => ?_))
            · refine tt_ar rfl ?_
              refine tt_bI (g := a_shr) (z := a_shr (xc19) (7)) rfl rfl ?_
              refine tt_ar rfl ?_
              refine tt_cs2 2 rfl (c172 σt _ _ (by omega)) (kx (fun i20 hi20 => ?_))
              · obtain ⟨hB0, bB0, eB0⟩ := lz_ho hA hZt (i := i20) (by omega)
                have tB0 := la_tb hA bB0
                refine tt_iald (i20) (x := ((tb k hB0 : Nat) : Int)) (lz_kpH hA hZt) (by omega) (by omega) eB0 ?_
                refine tt_ar rfl ?_
                refine tt_ar rfl ?_
                refine tt_ar rfl ?_
                refine tt_ar rfl ?_
                refine tt_ar rfl ?_
                refine tt_iadd (by omega) (by omega) ?_
                refine tt_cs2 2 rfl (c173' σt L xs (lz_sc hA hZt) hA.2.1.2 ((14 + t)) (by omega) _ (by omega)) (kxI (fun xc21 hxc21 => ?_))
                · refine tt_ar rfl ?_
                  refine tt_bI (g := a_shr) (z := a_shr (xc21) (13)) rfl rfl ?_
                  refine tt_ar rfl ?_
                  refine tt_cs2 2 rfl (c172 σt _ _ (by omega)) (kx (fun i22 hi22 => ?_))
                  · obtain ⟨hC0, bC0, eC0⟩ := lz_ho hA hZt (i := i22) (by omega)
                    have tC0 := la_tb hA bC0
                    refine tt_iald (i22) (x := ((tb k hC0 : Nat) : Int)) (lz_kpH hA hZt) (by omega) (by omega) eC0 ?_
                    refine tt_ar rfl ?_
                    refine tt_ar rfl ?_
                    refine tt_ar rfl ?_
                    refine tt_ar rfl ?_
                    refine tt_cv3 3 rfl (wo_2 hZt.1.w) (w92 hZt (i := hA0) (j := hB0) bA0 bB0 rfl rfl) ?_
                    intro r23 σ23 hq23
                    obtain ⟨hZ23, -, rfl⟩ := hq23
                    have d23 := la_D hA bA0 bB0
                    · refine tt_ar rfl ?_
                      refine tt_ar rfl ?_
                      refine tt_iflt (fun h4_43 => ?_) (fun h4_43 => ?_)
                      · exfalso; omega
                      · refine tt_ar rfl ?_
                        refine tt_ar rfl ?_
                        refine tt_ar rfl ?_
                        refine tt_cv3 3 rfl (wo_2 hZ23.1.w) (w92 hZ23 (i := hA0) (j := hA0) bA0 bA0 rfl rfl) ?_
                        intro r24 σ24 hq24
                        rw [la_self hA bA0] at hq24
                        obtain ⟨hZ24, -, rfl⟩ := hq24
                        have d24 := la_D hA bA0 bA0
                        · refine tt_ifneF (by decide) ?_
                          refine tt_ar rfl ?_
                          refine tt_ar rfl ?_
                          refine tt_ar rfl ?_
                          refine tt_ar rfl ?_
                          refine tt_cv3 3 rfl (wo_2 hZ24.1.w) (w92 hZ24 (i := hA0) (j := hC0) bA0 bC0 rfl rfl) ?_
                          intro r25 σ25 hq25
                          obtain ⟨hZ25, -, rfl⟩ := hq25
                          have d25 := la_D hA bA0 bC0
                          · refine tt_ar rfl ?_
                            refine tt_ar rfl ?_
                            refine tt_ar rfl ?_
                            refine tt_cv3 3 rfl (wo_2 hZ25.1.w) (w92 hZ25 (i := hC0) (j := hB0) bC0 bB0 rfl rfl) ?_
                            intro r26 σ26 hq26
                            obtain ⟨hZ26, -, rfl⟩ := hq26
                            have d26 := la_D hA bC0 bB0
                            · refine tt_iadd (by omega) (by omega) ?_
                              have htr := la_tri hA bA0 bB0 bC0
                              refine tt_icgt (fun h4_59 => ?_) (fun h4_59 => ?_)
                              · exfalso; omega
                              · refine tt_ar rfl ?_
                                refine tt_ar rfl ?_
                                refine tt_ar rfl ?_
                                refine tt_cv3 3 rfl (wo_2 hZ26.1.w) (w92 hZ26 (i := 0) (j := hB0) hN0 bB0 (la_0 hA) rfl) ?_
                                intro r27 σ27 hq27
                                obtain ⟨hZ27, -, rfl⟩ := hq27
                                have d27 := la_D hA hN0 bB0
                                · refine tt_ar rfl ?_
                                  refine tt_ar rfl ?_
                                  refine tt_dI (g := (fun a b => Int.tmod a b)) (z := (((tb k hB0) % 10 : Nat) : Int)) rfl (by omega) tm10 ?_
                                  refine tt_ar rfl ?_
                                  refine tt_ar rfl ?_
                                  refine tt_dI (g := (fun a b => w32 (Int.tdiv a b))) (z := (((tb k hB0) / 10 : Nat) : Int)) rfl (by omega) (td10 (by omega)) ?_
                                  refine tt_ar rfl ?_
                                  refine tt_dI (g := (fun a b => Int.tmod a b)) (z := ((((tb k hB0) / 10) % 10 : Nat) : Int)) rfl (by omega) tm10 ?_
                                  refine tt_iadd (by omega) (by omega) ?_
                                  refine tt_ar rfl ?_
                                  refine tt_ar rfl ?_
                                  refine tt_dI (g := (fun a b => w32 (Int.tdiv a b))) (z := (((tb k hB0) / 100 : Nat) : Int)) rfl (by omega) (td100 (by omega)) ?_
                                  refine tt_iadd (by omega) (by omega) ?_
                                  refine tt_ar rfl ?_
                                  refine tt_ar rfl ?_
                                  refine tt_iald (1) (x := A.1 9 0) (lz_k79 hA hZ27) (by omega) (by omega) (lz_mo hA hZ27 (i := 0) (by omega)) ?_
                                  have hdg0 := la_ds hA bB0
                                  have hpm0 := la_pm hA (n := ((((tb k hB0) % 10) + (((tb k hB0) / 10) % 10)) + ((tb k hB0) / 100))) (i := 0) (by omega) (by omega)
                                  have hup0 := la_up hA bB0 (n := ((((tb k hB0) % 10) + (((tb k hB0) / 10) % 10)) + ((tb k hB0) / 100))) (by omega)
                                  refine tt_bI (g := fun a b => w32 (a * b)) (z := (((((((tb k hB0) % 10) + (((tb k hB0) / 10) % 10)) + ((tb k hB0) / 100)) : Nat) : Int) * A.1 9 0)) rfl (by rw [show ((((((tb k hB0) % 10 : Nat) : Int) + ((((tb k hB0) / 10) % 10 : Nat) : Int)) + (((tb k hB0) / 100 : Nat) : Int))) = (((((((tb k hB0) % 10) + (((tb k hB0) / 10) % 10)) + ((tb k hB0) / 100)) : Nat)) : Int) from by omega]; exact hpm0.2.2) ?_
                                  refine tt_icgt (fun h4_81 => ?_) (fun h4_81 => ?_)
                                  · exfalso; omega
                                  · refine tt_ar rfl ?_
                                    refine tt_ar rfl ?_
                                    refine tt_ar rfl ?_
                                    refine tt_cv3 3 rfl (wo_2 hZ27.1.w) (w92 hZ27 (i := hB0) (j := 0) bB0 hN0 rfl (la_0 hA)) ?_
                                    intro r28 σ28 hq28
                                    obtain ⟨hZ28, -, rfl⟩ := hq28
                                    have d28 := la_D hA bB0 hN0
                                    · refine tt_ar rfl ?_
                                      refine tt_ar rfl ?_
                                      refine tt_dI (g := (fun a b => Int.tmod a b)) (z := (((tb k hB0) % 10 : Nat) : Int)) rfl (by omega) tm10 ?_
                                      refine tt_ar rfl ?_
                                      refine tt_ar rfl ?_
                                      refine tt_dI (g := (fun a b => w32 (Int.tdiv a b))) (z := (((tb k hB0) / 10 : Nat) : Int)) rfl (by omega) (td10 (by omega)) ?_
                                      refine tt_ar rfl ?_
                                      refine tt_dI (g := (fun a b => Int.tmod a b)) (z := ((((tb k hB0) / 10) % 10 : Nat) : Int)) rfl (by omega) tm10 ?_
                                      refine tt_iadd (by omega) (by omega) ?_
                                      refine tt_ar rfl ?_
                                      refine tt_ar rfl ?_
                                      refine tt_dI (g := (fun a b => w32 (Int.tdiv a b))) (z := (((tb k hB0) / 100 : Nat) : Int)) rfl (by omega) (td100 (by omega)) ?_
                                      refine tt_iadd (by omega) (by omega) ?_
                                      refine tt_ar rfl ?_
                                      refine tt_ar rfl ?_
                                      refine tt_iald (2) (x := A.1 9 1) (lz_k79 hA hZ28) (by omega) (by omega) (lz_mo hA hZ28 (i := 1) (by omega)) ?_
                                      have hdg1 := la_ds hA bB0
                                      have hpm1 := la_pm hA (n := ((((tb k hB0) % 10) + (((tb k hB0) / 10) % 10)) + ((tb k hB0) / 100))) (i := 1) (by omega) (by omega)
                                      have hup1 := la_dn hA bB0 (n := ((((tb k hB0) % 10) + (((tb k hB0) / 10) % 10)) + ((tb k hB0) / 100))) (by omega)
                                      refine tt_bI (g := fun a b => w32 (a * b)) (z := (((((((tb k hB0) % 10) + (((tb k hB0) / 10) % 10)) + ((tb k hB0) / 100)) : Nat) : Int) * A.1 9 1)) rfl (by rw [show ((((((tb k hB0) % 10 : Nat) : Int) + ((((tb k hB0) / 10) % 10 : Nat) : Int)) + (((tb k hB0) / 100 : Nat) : Int))) = (((((((tb k hB0) % 10) + (((tb k hB0) / 10) % 10)) + ((tb k hB0) / 100)) : Nat)) : Int) from by omega]; exact hpm1.2.2) ?_
                                      refine tt_icle (fun h4_103 => ?_) (fun h4_103 => ?_)
                                      · refine tt_loc [(0, vR 1), (1, vR 2), (5, vR 79), (6, vI (((k : Nat) : Int))), (8, vI (((mm : Nat) : Int))), (9, vR pH), (10, vI (((nkT k : Nat) : Int))), (11, vI (((t : Nat) : Int))), (12, vI (((tb k hA0 : Nat) : Int)))] rfl rfl ⟨rfl, rfl, rfl, rfl, rfl, rfl, rfl, rfl, rfl, trivial⟩ ?_
                                        exact lw_6 _ hA hZ28 (by omega) bA0 (fun σ' hz => ih4 (t + 1) σ' (by omega) (by omega) hz)
                                      · refine tt_nop ?_
                                        exfalso; omega
  refine tt_loc [(0, vR 1), (1, vR 2), (5, vR 79), (6, vI (((k : Nat) : Int))), (8, vI (((mm : Nat) : Int))), (9, vR pH), (10, vI (((nkT k : Nat) : Int))), (11, vI (((0 : Nat) : Int)))] rfl rfl ⟨rfl, rfl, rfl, rfl, rfl, rfl, rfl, lv_to rfl (by omega), trivial⟩ ?_
  exact lp4_1 _ (0) σ (Nat.lt_succ_self _) (by omega) hZ

