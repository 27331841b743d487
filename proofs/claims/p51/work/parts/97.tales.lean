/-! PLAIN TALES COST AS TOLD -/
theorem w174 {k mm : Nat} {D : Nat → Nat → Int} {A σ : am_S} (hS : LZ k mm D A σ) : CC 174 [vR 2, vI 1] σ (fun r σ' => LZ k mm D A σ' ∧ RK σ σ' ∧ (∀ j, σ'.1 2 j = σ.1 2 j) ∧ r = some (vI (σ.1 2 12))) := by
  refine CC.imp (c174 σ k mm 0 D hS.1) (fun r σ' q => ?_)
  exact ⟨ls_of hS q (fun _ _ _ => rfl), rk_of q (fun _ _ _ => rfl), fun j => q.2.2.1 2 j (Or.inl rfl), q.2.1⟩
theorem lw_27 {k mm pH L : Nat} {xs : Nat → Int32} {D : Nat → Nat → Int} {A : am_S} (σ : am_S) (hA : LA k mm pH L xs D A) (hZ : LZ k mm D A σ) : TT am_b0 (am_b0.getD 27 []) [(0, vR 1), (1, vR 2), (6, vI (((k : Nat) : Int))), (8, vI (((mm : Nat) : Int)))] [] σ (fun r σ' => QL r σ') := by
  refine tt_ar rfl ?_
  refine tt_cv1 1 rfl (wo_2 hZ.1.w) (w101 hZ) ?_
  intro r1 σ1 hq1
  obtain ⟨pl, hpl, hple⟩ : ∃ pl : Int, ((BS k mm D A < 1000000 ∧ pl = BS k mm D A) ∨ (¬ BS k mm D A < 1000000 ∧ pl = -9)) ∧ (if BS k mm D A < 1000000 then BS k mm D A else -9) = pl := by
    by_cases c : BS k mm D A < 1000000
    · exact ⟨_, Or.inl ⟨c, rfl⟩, if_pos c⟩
    · exact ⟨_, Or.inr ⟨c, rfl⟩, if_neg c⟩
  rw [hple] at hq1
  obtain ⟨hZ1, -, rfl⟩ := hq1
  have hB0 := la_Bnn hA
  have hkm := hA.1.2
  · refine tt_ar rfl ?_
    refine tt_ar rfl ?_
    refine tt_ar rfl ?_
    refine tt_cv2 2 rfl (wo_2 hZ1.1.w) (w114 hZ1 (by omega)) ?_
    intro r2 σ2 hq2
    obtain ⟨hZ2, hq2⟩ := hq2
    rcases hq2 with ⟨ht, rfl, hP2⟩ | ⟨hnt, rfl⟩
    · refine tt_ar rfl ?_
      refine tt_ar rfl ?_
      refine tt_iflt (fun h27_8 => ?_) (fun h27_8 => ?_)
      · exfalso; omega
      · refine tt_ar rfl ?_
        refine tt_goto ?_
        refine tt_ar rfl ?_
        refine tt_ar rfl ?_
        refine tt_icne (fun h29_2 => ?_) (fun h29_2 => ?_)
        · exfalso; omega
        · refine tt_ar rfl ?_
          refine tt_goto ?_
          refine tt_iceq (fun _ => ?_) (fun h => absurd h (by omega))
          refine tt_ar rfl ?_
          refine tt_ar rfl ?_
          refine tt_ar rfl ?_
          refine tt_ar rfl ?_
          refine tt_ar rfl ?_
          refine tt_ar rfl ?_
          refine tt_nop ?_
          have lp33_1 : ∀ (μ : Nat) (m : Nat) (σl : am_S), mm - m < μ → (m ≤ mm) → (LZ k mm D A σl) → (R1 k mm D A σl) → TT am_b0 (am_b0.getD 33 []) [(0, vR 1), (1, vR 2), (6, vI (((k : Nat) : Int))), (8, vI (((mm : Nat) : Int))), (11, vI (pl)), (13, vI (((tb k (NWi k mm D A m) : Nat) : Int))), (14, vI (CO k mm D A m)), (15, vI (((m : Nat) : Int)))] [] σl (fun r σ' => QL r σ') := by
            intro μ
            induction μ with
            | zero => intro m σl hμ; exact absurd hμ (Nat.not_lt_zero _)
            | succ μ ih33 =>
              intro m σl hμ hm hZl hPl
              refine tt_ar rfl ?_
              refine tt_ar rfl ?_
              refine tt_icge (fun h33_2 => ?_) (fun h33_2 => ?_)
              · have hcm : CO k mm D A m = BS k mm D A := by rw [show m = mm by omega]; exact la_ce hA ht
                refine tt_ar rfl ?_
                refine tt_iflt (fun h38_1 => ?_) (fun h38_1 => ?_)
                · refine tt_loc [(0, vR 1), (1, vR 2), (6, vI (((k : Nat) : Int))), (8, vI (((mm : Nat) : Int))), (11, vI (pl))] rfl rfl ⟨rfl, rfl, rfl, rfl, rfl, trivial⟩ ?_
                  exact lw_39 _ hA hZl pl hpl
                · refine tt_ar rfl ?_
                  refine tt_ar rfl ?_
                  refine tt_iceq (fun h38_4 => ?_) (fun h38_4 => ?_)
                  · refine tt_loc [(0, vR 1), (1, vR 2), (6, vI (((k : Nat) : Int))), (8, vI (((mm : Nat) : Int))), (11, vI (pl))] rfl rfl ⟨rfl, rfl, rfl, rfl, rfl, trivial⟩ ?_
                    exact lw_39 _ hA hZl pl hpl
                  · refine tt_ar rfl ?_
                    refine tt_zret (by omega) ?_
                    exfalso; omega
              · refine tt_ar rfl ?_
                refine tt_iflt (fun h33_4 => ?_) (fun h33_4 => ?_)
                · have hcm : CO k mm D A m = BS k mm D A := by rw [show m = mm by omega]; exact la_ce hA ht
                  refine tt_ar rfl ?_
                  refine tt_iflt (fun h38_1 => ?_) (fun h38_1 => ?_)
                  · refine tt_loc [(0, vR 1), (1, vR 2), (6, vI (((k : Nat) : Int))), (8, vI (((mm : Nat) : Int))), (11, vI (pl))] rfl rfl ⟨rfl, rfl, rfl, rfl, rfl, trivial⟩ ?_
                    exact lw_39 _ hA hZl pl hpl
                  · refine tt_ar rfl ?_
                    refine tt_ar rfl ?_
                    refine tt_iceq (fun h38_4 => ?_) (fun h38_4 => ?_)
                    · refine tt_loc [(0, vR 1), (1, vR 2), (6, vI (((k : Nat) : Int))), (8, vI (((mm : Nat) : Int))), (11, vI (pl))] rfl rfl ⟨rfl, rfl, rfl, rfl, rfl, trivial⟩ ?_
                      exact lw_39 _ hA hZl pl hpl
                    · refine tt_ar rfl ?_
                      refine tt_zret (by omega) ?_
                      exfalso; omega
                · have hlt : m < mm := by omega
                  obtain ⟨g1, g2, g3⟩ := la_fr hA ht hlt
                  have hco := la_co hA ht hlt
                  have hcn := la_cn hA ht (show m ≤ mm by omega)
                  have hnw := la_nw hA ht (show m ≤ mm by omega)
                  have hdd := la_D hA hnw g1
                  have hxx := la_ex hA m (FR k mm D A m)
                  have hk6 : k ≤ 6 := by omega
                  refine tt_ar rfl ?_
                  refine tt_ar rfl ?_
                  refine tt_ar rfl ?_
                  refine tt_ar rfl ?_
                  refine tt_cv3 3 rfl (wo_2 hZl.1.w) (w31 hZl hPl hlt rfl) ?_
                  intro r3 σ3 hq3
                  obtain ⟨hZ3, hR3, rfl, aq3⟩ := hq3
                  have hP3 := hPl.rk hR3
                  · refine tt_cs2 2 rfl (w174 hZ3) ?_
                    intro r4 σ4 hq4
                    rw [aq3] at hq4
                    obtain ⟨hZ4, hR4, -, rfl⟩ := hq4
                    have hP4 := hP3.rk hR4
                    · refine tt_ar rfl ?_
                      refine tt_ar rfl ?_
                      refine tt_ar rfl ?_
                      refine tt_ar rfl ?_
                      refine tt_cv3 3 rfl (wo_2 hZ4.1.w) (w73 hZ4 hlt g1 rfl rfl) ?_
                      intro r5 σ5 hq5
                      rw [(la_exn hA ht hlt).2] at hq5
                      obtain ⟨hZ5, hR5, hq5⟩ := hq5
                      replace hq5 := (hq5.resolve_left (fun e => (la_exn hA ht hlt).1 e.1)).2.1
                      subst hq5
                      have hP5 := hP4.rk hR5
                      · refine tt_ar rfl ?_
                        refine tt_ar rfl ?_
                        refine tt_ifge (fun h33_18 => ?_) (fun h33_18 => ?_)
                        · refine tt_ar rfl ?_
                          refine tt_ar rfl ?_
                          refine tt_ar rfl ?_
                          refine tt_ar rfl ?_
                          refine tt_cv3 3 rfl (wo_2 hZ5.1.w) (w92 hZ5 hnw g1 rfl rfl) ?_
                          intro r6 σ6 hq6
                          obtain ⟨hZ6, hR6, rfl⟩ := hq6
                          have hP6 := hP5.rk hR6
                          · refine tt_ar rfl ?_
                            refine tt_iadd (by omega) (by omega) ?_
                            refine tt_bI (g := fun a b => w32 (a + b)) (z := CO k mm D A (m + 1)) rfl ((w32_i (by omega) (by omega)).trans hco.1.symm) ?_
                            refine tt_ar rfl ?_
                            refine tt_ar rfl ?_
                            refine tt_ar rfl ?_
                            refine tt_ar rfl ?_
                            refine tt_ar rfl ?_
                            refine tt_cv2 2 rfl (wo_2 hZ6.1.w) (w128 hZ6 ht hlt rfl) ?_
                            intro r7 σ7 hq7
                            obtain ⟨hZ7, hR7, hq7⟩ := hq7
                            have hP7 := hP6.rk hR7
                            rcases hq7 with rfl | ⟨h, y1, y2, y3, rfl, aq7⟩
                            · refine tt_ar rfl ?_
                              refine tt_ar rfl ?_
                              refine tt_cv1 1 rfl (wo_2 hZ7.1.w) (w158 hZ7) ?_
                              intro r8 σ8 hq8
                              obtain ⟨hZ8, hR8, -, rfl⟩ := hq8
                              have hP8 := hP7.rk hR8
                              · refine tt_ar rfl ?_
                                refine tt_ar rfl ?_
                                refine tt_ifltT (by decide) ?_
                                refine tt_ar rfl ?_
                                refine tt_ar rfl ?_
                                refine tt_ar rfl ?_
                                refine tt_cv3 3 rfl (wo_2 hZ8.1.w) (w127 hZ8 ht hlt g1 rfl rfl (by omega)) ?_
                                intro r9 σ9 hq9
                                rw [g2] at hq9
                                obtain ⟨hZ9, hR9, rfl⟩ := hq9
                                have hP9 := hP8.rk hR9
                                · refine tt_ar rfl ?_
                                  refine tt_iceq (fun h35_5 => ?_) (fun h35_5 => ?_)
                                  · refine tt_iinc (y := ((m + 1 : Nat) : Int)) rfl (iinc_fit (by omega) (by omega) (by omega)) ?_
                                    refine tt_goto ?_
                                    refine tt_loc [(0, vR 1), (1, vR 2), (6, vI (((k : Nat) : Int))), (8, vI (((mm : Nat) : Int))), (11, vI (pl)), (13, vI (((tb k (NWi k mm D A (m + 1)) : Nat) : Int))), (14, vI (CO k mm D A (m + 1))), (15, vI (((m + 1 : Nat) : Int)))] rfl rfl ⟨rfl, rfl, rfl, rfl, rfl, lv_to rfl (by unfold NWi; rw [if_neg (by omega), Nat.add_sub_cancel]), rfl, rfl, trivial⟩ ?_
                                    exact ih33 (m + 1) σ9 (by omega) (by omega) hZ9 hP9
                                  · refine tt_nop ?_
                                    exfalso; omega
                            · have hlb := la_lb hA hlt y1
                              have hne : ¬ ((tb k h : Nat) : Int) = ((tb k (FR k mm D A m) : Nat) : Int) := fun e => y2 (tb_inj hk6 y1 g1 (by omega))
                              refine tt_ar rfl ?_
                              refine tt_ar rfl ?_
                              refine tt_cv1 1 rfl (wo_2 hZ7.1.w) (w158 hZ7) ?_
                              intro r10 σ10 hq10
                              rw [aq7] at hq10
                              obtain ⟨hZ10, hR10, -, rfl⟩ := hq10
                              have hP10 := hP7.rk hR10
                              · refine tt_ar rfl ?_
                                refine tt_ar rfl ?_
                                refine tt_iflt (fun h34_19 => ?_) (fun h34_19 => ?_)
                                · exfalso; omega
                                · refine tt_ar rfl ?_
                                  refine tt_ar rfl ?_
                                  refine tt_iclt (fun h34_22 => ?_) (fun h34_22 => ?_)
                                  · exfalso; omega
                                  · refine tt_ar rfl ?_
                                    refine tt_ar rfl ?_
                                    refine tt_iceq (fun h34_25 => ?_) (fun h34_25 => ?_)
                                    · exfalso; omega
                                    · refine tt_ar rfl ?_
                                      refine tt_ar rfl ?_
                                      refine tt_ar rfl ?_
                                      refine tt_cv3 3 rfl (wo_2 hZ10.1.w) (w127 hZ10 ht hlt y1 rfl rfl y3) ?_
                                      intro r11 σ11 hq11
                                      obtain ⟨hZ11, hR11, rfl⟩ := hq11
                                      have hP11 := hP10.rk hR11
                                      · refine tt_ar rfl ?_
                                        refine tt_icne (fun h34_31 => ?_) (fun h34_31 => ?_)
                                        · exfalso; omega
                                        · refine tt_nop ?_
                                          refine tt_ar rfl ?_
                                          refine tt_ar rfl ?_
                                          refine tt_ar rfl ?_
                                          refine tt_cv3 3 rfl (wo_2 hZ11.1.w) (w127 hZ11 ht hlt g1 rfl rfl (by omega)) ?_
                                          intro r12 σ12 hq12
                                          rw [g2] at hq12
                                          obtain ⟨hZ12, hR12, rfl⟩ := hq12
                                          have hP12 := hP11.rk hR12
                                          · refine tt_ar rfl ?_
                                            refine tt_iceq (fun h35_5 => ?_) (fun h35_5 => ?_)
                                            · refine tt_iinc (y := ((m + 1 : Nat) : Int)) rfl (iinc_fit (by omega) (by omega) (by omega)) ?_
                                              refine tt_goto ?_
                                              refine tt_loc [(0, vR 1), (1, vR 2), (6, vI (((k : Nat) : Int))), (8, vI (((mm : Nat) : Int))), (11, vI (pl)), (13, vI (((tb k (NWi k mm D A (m + 1)) : Nat) : Int))), (14, vI (CO k mm D A (m + 1))), (15, vI (((m + 1 : Nat) : Int)))] rfl rfl ⟨rfl, rfl, rfl, rfl, rfl, lv_to rfl (by unfold NWi; rw [if_neg (by omega), Nat.add_sub_cancel]), rfl, rfl, trivial⟩ ?_
                                              exact ih33 (m + 1) σ12 (by omega) (by omega) hZ12 hP12
                                            · refine tt_nop ?_
                                              exfalso; omega
                        · refine tt_ar rfl ?_
                          refine tt_zret (by omega) ?_
                          exfalso; omega
          refine tt_loc [(0, vR 1), (1, vR 2), (6, vI (((k : Nat) : Int))), (8, vI (((mm : Nat) : Int))), (11, vI (pl)), (13, vI (((tb k (NWi k mm D A 0) : Nat) : Int))), (14, vI (CO k mm D A 0)), (15, vI (((0 : Nat) : Int)))] rfl rfl ⟨rfl, rfl, rfl, rfl, rfl, lv_to rfl (la_0 hA), lv_to rfl rfl, lv_to rfl (by omega), trivial⟩ ?_
          exact lp33_1 _ (0) σ2 (Nat.lt_succ_self _) (by omega) hZ2 hP2
    · refine tt_ar rfl ?_
      refine tt_ar rfl ?_
      refine tt_iflt (fun h27_8 => ?_) (fun h27_8 => ?_)
      · refine tt_ar rfl ?_
        refine tt_nop ?_
        refine tt_ar rfl ?_
        refine tt_ar rfl ?_
        refine tt_icne (fun _ => ?_) (fun h => absurd h (by omega))
        refine tt_ar rfl ?_
        refine tt_nop ?_
        refine tt_iceq (fun _ => ?_) (fun h => absurd h (by omega))
        refine tt_ar rfl ?_
        refine tt_ar rfl ?_
        refine tt_ar rfl ?_
        refine tt_ar rfl ?_
        refine tt_ar rfl ?_
        refine tt_ar rfl ?_
        refine tt_nop ?_
        refine tt_ar rfl ?_
        refine tt_ar rfl ?_
        refine tt_icge (fun h33_2 => ?_) (fun h33_2 => ?_)
        · refine tt_ar rfl ?_
          refine tt_iflt (fun h38_1 => ?_) (fun h38_1 => ?_)
          · refine tt_loc [(0, vR 1), (1, vR 2), (6, vI (((k : Nat) : Int))), (8, vI (((mm : Nat) : Int))), (11, vI (pl))] rfl rfl ⟨rfl, rfl, rfl, rfl, rfl, trivial⟩ ?_
            exact lw_39 _ hA hZ2 pl hpl
          · refine tt_ar rfl ?_
            refine tt_ar rfl ?_
            refine tt_iceq (fun h38_4 => ?_) (fun h38_4 => ?_)
            · refine tt_loc [(0, vR 1), (1, vR 2), (6, vI (((k : Nat) : Int))), (8, vI (((mm : Nat) : Int))), (11, vI (pl))] rfl rfl ⟨rfl, rfl, rfl, rfl, rfl, trivial⟩ ?_
              exact lw_39 _ hA hZ2 pl hpl
            · refine tt_ar rfl ?_
              refine tt_zret (by omega) ?_
              exfalso; omega
        · refine tt_ar rfl ?_
          refine tt_iflt (fun h33_4 => ?_) (fun h33_4 => ?_)
          · refine tt_ar rfl ?_
            refine tt_iflt (fun h38_1 => ?_) (fun h38_1 => ?_)
            · refine tt_loc [(0, vR 1), (1, vR 2), (6, vI (((k : Nat) : Int))), (8, vI (((mm : Nat) : Int))), (11, vI (pl))] rfl rfl ⟨rfl, rfl, rfl, rfl, rfl, trivial⟩ ?_
              exact lw_39 _ hA hZ2 pl hpl
            · refine tt_ar rfl ?_
              refine tt_ar rfl ?_
              refine tt_iceq (fun h38_4 => ?_) (fun h38_4 => ?_)
              · refine tt_loc [(0, vR 1), (1, vR 2), (6, vI (((k : Nat) : Int))), (8, vI (((mm : Nat) : Int))), (11, vI (pl))] rfl rfl ⟨rfl, rfl, rfl, rfl, rfl, trivial⟩ ?_
                exact lw_39 _ hA hZ2 pl hpl
              · refine tt_ar rfl ?_
                refine tt_zret (by omega) ?_
                exfalso; omega
          · exfalso; omega
      · exfalso; omega

