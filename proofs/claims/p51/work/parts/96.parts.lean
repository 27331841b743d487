/-! PARTS OF TALES -/
theorem lw_39 {k mm pH L : Nat} {xs : Nat → Int32} {D : Nat → Nat → Int} {A : am_S} (σ : am_S) (hA : LA k mm pH L xs D A) (hZ : LZ k mm D A σ) (pl : Int) (hpl : (BS k mm D A < 1000000 ∧ pl = BS k mm D A) ∨ (¬ BS k mm D A < 1000000 ∧ pl = -9)) : TT am_b0 (am_b0.getD 39 []) [(0, vR 1), (1, vR 2), (6, vI (((k : Nat) : Int))), (8, vI (((mm : Nat) : Int))), (11, vI (pl))] [] σ (fun r σ' => QL r σ') := by
  have hkm := hA.1.2
  refine tt_ar rfl ?_
  refine tt_cv1 1 rfl (wo_2 hZ.1.w) (w115 hZ) ?_
  intro r1 σ1 hq1
  obtain ⟨hZ1, -, z, rfl, hz⟩ := hq1
  · refine tt_ar rfl ?_
    refine tt_ar rfl ?_
    refine tt_ar rfl ?_
    refine tt_icne (fun h39_5 => ?_) (fun h39_5 => ?_)
    · refine tt_loc [(0, vR 1), (1, vR 2), (6, vI (((k : Nat) : Int))), (8, vI (((mm : Nat) : Int))), (11, vI (pl))] rfl rfl ⟨rfl, rfl, rfl, rfl, rfl, trivial⟩ ?_
      exact lw_46 _ hA hZ1 pl hpl
    · refine tt_ar rfl ?_
      refine tt_iflt (fun h39_7 => ?_) (fun h39_7 => ?_)
      · refine tt_loc [(0, vR 1), (1, vR 2), (6, vI (((k : Nat) : Int))), (8, vI (((mm : Nat) : Int))), (11, vI (pl))] rfl rfl ⟨rfl, rfl, rfl, rfl, rfl, trivial⟩ ?_
        exact lw_46 _ hA hZ1 pl hpl
      · refine tt_ar rfl ?_
        have ht : BS k mm D A < 1000000 := by omega
        obtain ⟨hT15, tq⟩ := hz ht (by omega)
        have hT1 := la_T1 hA ht
        refine tt_cv1 1 rfl (wo_2 hZ1.1.w) (w159 hZ1) ?_
        intro r2 σ2 hq2
        rw [tq] at hq2
        obtain ⟨hZ2, -, -, rfl⟩ := hq2
        · refine tt_ar rfl ?_
          refine tt_ar rfl ?_
          refine tt_ar rfl ?_
          refine tt_cs2 2 rfl (c173' σ2 L xs (lz_sc hA hZ2) hA.2.1.2 (22) (by omega) _ (by omega)) (kxI (fun xc3 hxc3 => ?_))
          · refine tt_ar rfl ?_
            refine tt_cs2 2 rfl (c172 σ2 _ _ (by omega)) (kx (fun i4 hi4 => ?_))
            · refine tt_ar rfl ?_
              refine tt_ar rfl ?_
              refine tt_ar rfl ?_
              refine tt_cs2 2 rfl (c173' σ2 L xs (lz_sc hA hZ2) hA.2.1.2 (22) (by omega) _ (by omega)) (kxI (fun xc5 hxc5 => ?_))
              · refine tt_ar rfl ?_
                refine tt_bI (g := a_shr) (z := a_shr (xc5) (3)) rfl rfl ?_
                refine tt_ar rfl ?_
                refine tt_cs2 2 rfl (c172 σ2 _ _ (by omega)) (kx (fun i6 hi6 => ?_))
                · refine tt_ar rfl ?_
                  refine tt_ar rfl ?_
                  refine tt_ar rfl ?_
                  refine tt_ar rfl ?_
                  refine tt_cv3 3 rfl (wo_2 hZ2.1.w) (w120 hZ2 ht (m := i4) (s := i6) (by omega) (by omega) rfl rfl) ?_
                  intro r7 σ7 hq7
                  obtain ⟨few, hfew⟩ : ∃ z, z = foQ mnS 5 (plM 1000000 (nkT k) mm D (exA k A) i4) (nkT k) (fun h => ((dg (tb k h) i6 : Nat) : Int)) := ⟨_, rfl⟩
                  obtain ⟨ov, hov⟩ : ∃ z, z = foQ mxS 0 (plM 1000000 (nkT k) mm D (exA k A) i4) (nkT k) (fun h => ((dg (tb k h) i6 : Nat) : Int)) := ⟨_, rfl⟩
                  rw [← hfew, ← hov] at hq7
                  obtain ⟨hZ7, -, rfl, aq, -⟩ := hq7
                  · refine tt_ar rfl ?_
                    refine tt_ar rfl ?_
                    refine tt_cv1 1 rfl (wo_2 hZ7.1.w) (w158 hZ7) ?_
                    intro r8 σ8 hq8
                    rw [aq] at hq8
                    obtain ⟨hZ8, -, -, rfl⟩ := hq8
                    · refine tt_ar rfl ?_
                      refine tt_ar rfl ?_
                      refine tt_ar rfl ?_
                      refine tt_ar rfl ?_
                      refine tt_ar rfl ?_
                      refine tt_nop ?_
                      have lp40_1 : ∀ (μ : Nat) (v : Nat) (σv : am_S), 6 - v < μ → (v ≤ 6) → (LZ k mm D A σv) → TT am_b0 (am_b0.getD 40 []) [(0, vR 1), (1, vR 2), (6, vI (((k : Nat) : Int))), (8, vI (((mm : Nat) : Int))), (11, vI (pl)), (16, vL (TA k mm D A)), (18, vI (((i4 : Nat) : Int))), (19, vI (((i6 : Nat) : Int))), (20, vI (few)), (21, vI (ov)), (22, vL (sumN v (fun w => HV k mm D A i4 i6 w))), (24, vI (((v : Nat) : Int)))] [] σv (fun r σ' => QL r σ') := by
                        intro μ
                        induction μ with
                        | zero => intro v σv hμ; exact absurd hμ (Nat.not_lt_zero _)
                        | succ μ ih40 =>
                          intro v σv hμ hv hZv
                          refine tt_ar rfl ?_
                          refine tt_ar rfl ?_
                          refine tt_icge (fun h40_2 => ?_) (fun h40_2 => ?_)
                          · have e6 : v = 6 := by omega
                            have hall : sumN v (fun w => HV k mm D A i4 i6 w) = TA k mm D A := by rw [e6]; exact la_all hA (by omega) (by omega)
                            refine tt_ar rfl ?_
                            refine tt_ar rfl ?_
                            refine tt_lcmp (fun h2 => ?_) (fun h3 => ?_) (fun h4 => ?_)
                            ·
                              refine tt_ifneT (by decide) ?_
                              exfalso; omega
                            ·
                              refine tt_ifneF (by decide) ?_
                              refine tt_ar rfl ?_
                              refine tt_ar rfl ?_
                              refine tt_lcmp (fun h5 => ?_) (fun h6 => ?_) (fun h7 => ?_)
                              ·
                                refine tt_ifgeF (by decide) ?_
                                refine tt_nop ?_
                                exfalso; omega
                              ·
                                refine tt_ifgeT (by decide) ?_
                                refine tt_loc [(0, vR 1), (1, vR 2), (6, vI (((k : Nat) : Int))), (8, vI (((mm : Nat) : Int))), (11, vI (pl))] rfl rfl ⟨rfl, rfl, rfl, rfl, rfl, trivial⟩ ?_
                                exact lw_46 _ hA hZv pl hpl
                              ·
                                refine tt_ifgeT (by decide) ?_
                                refine tt_loc [(0, vR 1), (1, vR 2), (6, vI (((k : Nat) : Int))), (8, vI (((mm : Nat) : Int))), (11, vI (pl))] rfl rfl ⟨rfl, rfl, rfl, rfl, rfl, trivial⟩ ?_
                                exact lw_46 _ hA hZv pl hpl
                            ·
                              refine tt_ifneT (by decide) ?_
                              exfalso; omega
                          · refine tt_ar rfl ?_
                            refine tt_ar rfl ?_
                            refine tt_ar rfl ?_
                            refine tt_ar rfl ?_
                            refine tt_cv4 4 rfl (wo_2 hZv.1.w) (w123 hZv ht hT15 (m := i4) (s := i6) (v := v) (by omega) (by omega) (by omega) rfl rfl rfl) ?_
                            intro r9 σ9 hq9
                            obtain ⟨hZ9, -, rfl, uq, lq⟩ := hq9
                            obtain ⟨hv0, hv1, hv2⟩ := la_hv hA ht (m := i4) (s := i6) (v := v) (by omega) (by omega) (by omega)
                            obtain ⟨g, u, lo, f1, f2, f3, f4, f5, f6⟩ := frac (h := (HV k mm D A i4 i6 v).toNat) (T := (TA k mm D A).toNat) (by omega)
                            rw [f1] at uq
                            rw [f2] at lq
                            have eT : TA k mm D A = ((g * lo : Nat) : Int) := by rw [← f5]; exact (Int.toNat_of_nonneg (by omega)).symm
                            have eH : HV k mm D A i4 i6 v = ((g * u : Nat) : Int) := by rw [← f6]; exact (Int.toNat_of_nonneg hv0).symm
                            have up : 0 < u → few ≤ (v : Int) ∧ (v : Int) ≤ ov := fun q => by have q2 : 0 < g * u := Nat.mul_pos f3 q; have q3 := hv1 (by omega); rw [← hfew, ← hov] at q3; exact q3
                            have uz : u = 0 → ¬ (v : Int) = few ∧ ¬ (v : Int) = ov := fun q => by have q2 : g * u = 0 := (congrArg (g * ·) q).trans (Nat.mul_zero g); have q3 := hv2 (by omega); rw [← hfew, ← hov] at q3; exact q3
                            have hsv := la_hs hA (m := i4) (s := i6) (by omega) (by omega) (v := v) (by omega)
                            have hsv1 := la_hs hA (m := i4) (s := i6) (by omega) (by omega) (v := v + 1) (by omega)
                            have es : sumN (v + 1) (fun w => HV k mm D A i4 i6 w) = sumN v (fun w => HV k mm D A i4 i6 w) + HV k mm D A i4 i6 v := rfl
                            have hvT : HV k mm D A i4 i6 v ≤ TA k mm D A := by omega
                            · refine tt_ar rfl ?_
                              refine tt_icne (fun h => absurd h (by omega)) (fun _ => ?_)
                              refine tt_ar rfl ?_
                              refine tt_ar rfl ?_
                              refine tt_cv1 1 rfl (wo_2 hZ9.1.w) (w161 hZ9) ?_
                              intro r10 σ10 hq10
                              rw [lq] at hq10
                              obtain ⟨hZ10, -, hj10, rfl⟩ := hq10
                              have uq_10 := (hj10 14).trans uq
                              have lq_10 := (hj10 15).trans lq
                              · refine tt_dL (g := (fun a b => Int.tmod a b)) (z := 0) rfl (by omega) (fr_md eT) ?_
                                refine tt_ar rfl ?_
                                refine tt_lcmp (fun h8 => ?_) (fun h9 => ?_) (fun h10 => ?_)
                                ·
                                  refine tt_ifneT (by decide) ?_
                                  exfalso; omega
                                ·
                                  refine tt_ifneF (by decide) ?_
                                  refine tt_ar rfl ?_
                                  refine tt_cv1 1 rfl (wo_2 hZ10.1.w) (w160 hZ10) ?_
                                  intro r11 σ11 hq11
                                  rw [uq_10] at hq11
                                  obtain ⟨hZ11, -, hj11, rfl⟩ := hq11
                                  have uq_11 := (hj11 14).trans uq_10
                                  have lq_11 := (hj11 15).trans lq_10
                                  · refine tt_ar rfl ?_
                                    refine tt_lcmp (fun h11 => ?_) (fun h12 => ?_) (fun h13 => ?_)
                                    ·
                                      exfalso; omega
                                    ·
                                      refine tt_ifleT (by decide) ?_
                                      refine tt_ar rfl ?_
                                      refine tt_cv1 1 rfl (wo_2 hZ11.1.w) (w160 hZ11) ?_
                                      intro r12 σ12 hq12
                                      rw [uq_11] at hq12
                                      obtain ⟨hZ12, -, hj12, rfl⟩ := hq12
                                      have uq_12 := (hj12 14).trans uq_11
                                      have lq_12 := (hj12 15).trans lq_11
                                      · refine tt_ar rfl ?_
                                        refine tt_lcmp (fun h14 => ?_) (fun h15 => ?_) (fun h16 => ?_)
                                        ·
                                          exfalso; omega
                                        ·
                                          refine tt_ifneF (by decide) ?_
                                          refine tt_ar rfl ?_
                                          refine tt_ar rfl ?_
                                          refine tt_iceq (fun h41_7 => ?_) (fun h41_7 => ?_)
                                          · exfalso; omega
                                          · refine tt_ar rfl ?_
                                            refine tt_ar rfl ?_
                                            refine tt_icne (fun h41_10 => ?_) (fun h41_10 => ?_)
                                            · refine tt_ar rfl ?_
                                              refine tt_ar rfl ?_
                                              refine tt_cv1 1 rfl (wo_2 hZ12.1.w) (w160 hZ12) ?_
                                              intro r13 σ13 hq13
                                              rw [uq_12] at hq13
                                              obtain ⟨hZ13, -, hj13, rfl⟩ := hq13
                                              have uq_13 := (hj13 14).trans uq_12
                                              have lq_13 := (hj13 15).trans lq_12
                                              · refine tt_ar rfl ?_
                                                refine tt_ar rfl ?_
                                                refine tt_cv1 1 rfl (wo_2 hZ13.1.w) (w161 hZ13) ?_
                                                intro r14 σ14 hq14
                                                rw [lq_13] at hq14
                                                obtain ⟨hZ14, -, hj14, rfl⟩ := hq14
                                                have uq_14 := (hj14 14).trans uq_13
                                                have lq_14 := (hj14 15).trans lq_13
                                                · refine tt_dL (g := (fun a b => w64 (Int.tdiv a b))) (z := ((g : Nat) : Int)) rfl (by omega) (fr_dv eT f4 hT15) ?_
                                                  refine tt_bL (g := (fun a b => w64 (a * b))) (z := HV k mm D A i4 i6 v) rfl (fr_ml eH (by omega)) ?_
                                                  refine tt_bL (g := (fun a b => w64 (a + b))) (z := sumN (v + 1) (fun w => HV k mm D A i4 i6 w)) rfl ((w64_i (by omega) (by omega)).trans es.symm) ?_
                                                  refine tt_ar rfl ?_
                                                  refine tt_iinc (y := ((v + 1 : Nat) : Int)) rfl (iinc_fit (by omega) (by omega) (by omega)) ?_
                                                  refine tt_goto ?_
                                                  refine tt_loc [(0, vR 1), (1, vR 2), (6, vI (((k : Nat) : Int))), (8, vI (((mm : Nat) : Int))), (11, vI (pl)), (16, vL (TA k mm D A)), (18, vI (((i4 : Nat) : Int))), (19, vI (((i6 : Nat) : Int))), (20, vI (few)), (21, vI (ov)), (22, vL (sumN (v + 1) (fun w => HV k mm D A i4 i6 w))), (24, vI (((v + 1 : Nat) : Int)))] rfl rfl ⟨rfl, rfl, rfl, rfl, rfl, rfl, rfl, rfl, rfl, rfl, rfl, rfl, trivial⟩ ?_
                                                  exact ih40 (v + 1) σ14 (by omega) (by omega) hZ14
                                            · refine tt_nop ?_
                                              exfalso; omega
                                        ·
                                          exfalso; omega
                                    ·
                                      refine tt_ifleF (by decide) ?_
                                      refine tt_ar rfl ?_
                                      refine tt_ar rfl ?_
                                      refine tt_iclt (fun h40_24 => ?_) (fun h40_24 => ?_)
                                      · exfalso; omega
                                      · refine tt_ar rfl ?_
                                        refine tt_ar rfl ?_
                                        refine tt_icgt (fun h40_27 => ?_) (fun h40_27 => ?_)
                                        · exfalso; omega
                                        · refine tt_nop ?_
                                          refine tt_ar rfl ?_
                                          refine tt_cv1 1 rfl (wo_2 hZ11.1.w) (w160 hZ11) ?_
                                          intro r15 σ15 hq15
                                          rw [uq_11] at hq15
                                          obtain ⟨hZ15, -, hj15, rfl⟩ := hq15
                                          have uq_15 := (hj15 14).trans uq_11
                                          have lq_15 := (hj15 15).trans lq_11
                                          · refine tt_ar rfl ?_
                                            refine tt_lcmp (fun h17 => ?_) (fun h18 => ?_) (fun h19 => ?_)
                                            ·
                                              exfalso; omega
                                            ·
                                              exfalso; omega
                                            ·
                                              refine tt_ifneT (by decide) ?_
                                              refine tt_ar rfl ?_
                                              refine tt_ar rfl ?_
                                              refine tt_cv1 1 rfl (wo_2 hZ15.1.w) (w160 hZ15) ?_
                                              intro r16 σ16 hq16
                                              rw [uq_15] at hq16
                                              obtain ⟨hZ16, -, hj16, rfl⟩ := hq16
                                              have uq_16 := (hj16 14).trans uq_15
                                              have lq_16 := (hj16 15).trans lq_15
                                              · refine tt_ar rfl ?_
                                                refine tt_ar rfl ?_
                                                refine tt_cv1 1 rfl (wo_2 hZ16.1.w) (w161 hZ16) ?_
                                                intro r17 σ17 hq17
                                                rw [lq_16] at hq17
                                                obtain ⟨hZ17, -, hj17, rfl⟩ := hq17
                                                have uq_17 := (hj17 14).trans uq_16
                                                have lq_17 := (hj17 15).trans lq_16
                                                · refine tt_dL (g := (fun a b => w64 (Int.tdiv a b))) (z := ((g : Nat) : Int)) rfl (by omega) (fr_dv eT f4 hT15) ?_
                                                  refine tt_bL (g := (fun a b => w64 (a * b))) (z := HV k mm D A i4 i6 v) rfl (fr_ml eH (by omega)) ?_
                                                  refine tt_bL (g := (fun a b => w64 (a + b))) (z := sumN (v + 1) (fun w => HV k mm D A i4 i6 w)) rfl ((w64_i (by omega) (by omega)).trans es.symm) ?_
                                                  refine tt_ar rfl ?_
                                                  refine tt_iinc (y := ((v + 1 : Nat) : Int)) rfl (iinc_fit (by omega) (by omega) (by omega)) ?_
                                                  refine tt_goto ?_
                                                  refine tt_loc [(0, vR 1), (1, vR 2), (6, vI (((k : Nat) : Int))), (8, vI (((mm : Nat) : Int))), (11, vI (pl)), (16, vL (TA k mm D A)), (18, vI (((i4 : Nat) : Int))), (19, vI (((i6 : Nat) : Int))), (20, vI (few)), (21, vI (ov)), (22, vL (sumN (v + 1) (fun w => HV k mm D A i4 i6 w))), (24, vI (((v + 1 : Nat) : Int)))] rfl rfl ⟨rfl, rfl, rfl, rfl, rfl, rfl, rfl, rfl, rfl, rfl, rfl, rfl, trivial⟩ ?_
                                                  exact ih40 (v + 1) σ17 (by omega) (by omega) hZ17
                                ·
                                  refine tt_ifneT (by decide) ?_
                                  exfalso; omega
                      refine tt_loc [(0, vR 1), (1, vR 2), (6, vI (((k : Nat) : Int))), (8, vI (((mm : Nat) : Int))), (11, vI (pl)), (16, vL (TA k mm D A)), (18, vI (((i4 : Nat) : Int))), (19, vI (((i6 : Nat) : Int))), (20, vI (few)), (21, vI (ov)), (22, vL (sumN 0 (fun w => HV k mm D A i4 i6 w))), (24, vI (((0 : Nat) : Int)))] rfl rfl ⟨rfl, rfl, rfl, rfl, rfl, rfl, rfl, rfl, rfl, rfl, lv_toL rfl rfl, lv_to rfl (by omega), trivial⟩ ?_
                      exact lp40_1 _ (0) σ8 (Nat.lt_succ_self _) (by omega) hZ8

