/-! THE FEWEST, THE BOUND, HOW MANY -/
theorem lw_19 {k mm pH L : Nat} {xs : Nat → Int32} {D : Nat → Nat → Int} {A : am_S} (σ : am_S) (hA : LA k mm pH L xs D A) (hZ : LZ k mm D A σ) : TT am_b0 (am_b0.getD 19 []) [(0, vR 1), (1, vR 2), (6, vI (((k : Nat) : Int))), (8, vI (((mm : Nat) : Int))), (10, vI (((nkT k : Nat) : Int)))] [] σ (fun r σ' => QL r σ') := by
  have hkm := hA.1.2
  refine tt_ar rfl ?_
  refine tt_ar rfl ?_
  refine tt_nop ?_
  have lp20_1 : ∀ (μ : Nat) (m : Nat) (σm : am_S), mm - m < μ → (m ≤ mm) → (LZ k mm D A σm) → TT am_b0 (am_b0.getD 20 []) [(0, vR 1), (1, vR 2), (6, vI (((k : Nat) : Int))), (8, vI (((mm : Nat) : Int))), (10, vI (((nkT k : Nat) : Int))), (11, vI (((m : Nat) : Int)))] [] σm (fun r σ' => QL r σ') := by
    intro μ
    induction μ with
    | zero => intro m σm hμ; exact absurd hμ (Nat.not_lt_zero _)
    | succ μ ih20 =>
      intro m σm hμ hm hZm
      refine tt_ar rfl ?_
      refine tt_ar rfl ?_
      refine tt_icge (fun h20_2 => ?_) (fun h20_2 => ?_)
      · refine tt_loc [(0, vR 1), (1, vR 2), (6, vI (((k : Nat) : Int))), (8, vI (((mm : Nat) : Int)))] rfl rfl ⟨rfl, rfl, rfl, rfl, trivial⟩ ?_
        exact lw_27 _ hA hZm
      · refine tt_ar rfl ?_
        refine tt_ar rfl ?_
        have hlt : m < mm := by omega
        refine tt_cv2 2 rfl (wo_2 hZm.1.w) (w85 hZm hlt rfl) ?_
        intro r1 σ1 hq1
        obtain ⟨hZ1, -, hq1⟩ := hq1
        rcases hq1 with ⟨-, rfl⟩ | ⟨s, s1, s2, rfl, aq1⟩
        · refine tt_ar rfl ?_
          refine tt_ar rfl ?_
          refine tt_cv1 1 rfl (wo_2 hZ1.1.w) (w158 hZ1) ?_
          intro r2 σ2 hq2
          obtain ⟨hZ2, -, -, rfl⟩ := hq2
          · refine tt_ar rfl ?_
            refine tt_ar rfl ?_
            refine tt_ar rfl ?_
            refine tt_cv2 2 rfl (wo_2 hZ2.1.w) (w87 hZ2 hlt rfl) ?_
            intro r3 σ3 hq3
            obtain ⟨hZ3, -, rfl⟩ := hq3
            · refine tt_ar rfl ?_
              refine tt_ar rfl ?_
              refine tt_ifltT (by decide) ?_
              refine tt_ar rfl ?_
              refine tt_ar rfl ?_
              refine tt_nop ?_
              have lp23_2 : ∀ (μ : Nat) (x : Nat) (σk : am_S), 10 - x < μ → (1 ≤ x ∧ x ≤ 10) → (LZ k mm D A σk) → TT am_b0 (am_b0.getD 23 []) [(0, vR 1), (1, vR 2), (6, vI (((k : Nat) : Int))), (8, vI (((mm : Nat) : Int))), (10, vI (((nkT k : Nat) : Int))), (11, vI (((m : Nat) : Int))), (15, vI (((x : Nat) : Int)))] [] σk (fun r σ' => QL r σ') := by
                intro μ
                induction μ with
                | zero => intro x σk hμ; exact absurd hμ (Nat.not_lt_zero _)
                | succ μ ih23 =>
                  intro x σk hμ hx hZk
                  refine tt_ar rfl ?_
                  refine tt_ar rfl ?_
                  refine tt_icge (fun h23_2 => ?_) (fun h23_2 => ?_)
                  · refine tt_iinc (y := ((m + 1 : Nat) : Int)) rfl (iinc_fit (by omega) (by omega) (by omega)) ?_
                    refine tt_goto ?_
                    refine tt_loc [(0, vR 1), (1, vR 2), (6, vI (((k : Nat) : Int))), (8, vI (((mm : Nat) : Int))), (10, vI (((nkT k : Nat) : Int))), (11, vI (((m + 1 : Nat) : Int)))] rfl rfl ⟨rfl, rfl, rfl, rfl, rfl, rfl, trivial⟩ ?_
                    exact ih20 (m + 1) σk (by omega) (by omega) hZk
                  · have hmo := cn_mono (A := A) (k := k) (m := m) (show ((x : Nat) : Int) - 1 ≤ ((x : Nat) : Int) by omega) (n := nkT k)
                    have hcb := (cCnt_bd A k m ((x : Nat) : Int) (nkT k)).2
                    refine tt_ar rfl ?_
                    refine tt_ar rfl ?_
                    refine tt_ar rfl ?_
                    refine tt_cv3 3 rfl (wo_2 hZk.1.w) (w90 hZk hlt rfl (y := ((x : Nat) : Int)) (by omega)) ?_
                    intro r4 σ4 hq4
                    obtain ⟨hZ4, -, rfl⟩ := hq4
                    · refine tt_ar rfl ?_
                      refine tt_ar rfl ?_
                      refine tt_ar rfl ?_
                      refine tt_ar rfl ?_
                      refine tt_isub (by omega) (by omega) ?_
                      refine tt_cv3 3 rfl (wo_2 hZ4.1.w) (w90 hZ4 hlt rfl (y := (((x : Nat) : Int) - 1)) (by omega)) ?_
                      intro r5 σ5 hq5
                      obtain ⟨hZ5, -, rfl⟩ := hq5
                      · refine tt_iclt (fun h23_13 => ?_) (fun h23_13 => ?_)
                        · exfalso; omega
                        · refine tt_ar rfl ?_
                          refine tt_ar rfl ?_
                          refine tt_ar rfl ?_
                          refine tt_cv3 3 rfl (wo_2 hZ5.1.w) (w90 hZ5 hlt rfl (y := ((x : Nat) : Int)) (by omega)) ?_
                          intro r6 σ6 hq6
                          obtain ⟨hZ6, -, rfl⟩ := hq6
                          · refine tt_ar rfl ?_
                            refine tt_icle (fun h23_19 => ?_) (fun h23_19 => ?_)
                            · refine tt_iinc (y := ((x + 1 : Nat) : Int)) rfl (iinc_fit (by omega) (by omega) (by omega)) ?_
                              refine tt_goto ?_
                              refine tt_loc [(0, vR 1), (1, vR 2), (6, vI (((k : Nat) : Int))), (8, vI (((mm : Nat) : Int))), (10, vI (((nkT k : Nat) : Int))), (11, vI (((m : Nat) : Int))), (15, vI (((x + 1 : Nat) : Int)))] rfl rfl ⟨rfl, rfl, rfl, rfl, rfl, rfl, rfl, trivial⟩ ?_
                              exact ih23 (x + 1) σ6 (by omega) (by omega) hZ6
                            · refine tt_nop ?_
                              exfalso; omega
              refine tt_loc [(0, vR 1), (1, vR 2), (6, vI (((k : Nat) : Int))), (8, vI (((mm : Nat) : Int))), (10, vI (((nkT k : Nat) : Int))), (11, vI (((m : Nat) : Int))), (15, vI (((1 : Nat) : Int)))] rfl rfl ⟨rfl, rfl, rfl, rfl, rfl, rfl, lv_to rfl (by omega), trivial⟩ ?_
              exact lp23_2 _ (1) σ3 (Nat.lt_succ_self _) (by omega) hZ3
        · obtain ⟨y1, y2, y3, y4, y5⟩ := la_sm hA hlt s1 s2
          refine tt_ar rfl ?_
          refine tt_ar rfl ?_
          refine tt_cv1 1 rfl (wo_2 hZ1.1.w) (w158 hZ1) ?_
          intro r7 σ7 hq7
          rw [aq1] at hq7
          obtain ⟨hZ7, -, -, rfl⟩ := hq7
          · refine tt_ar rfl ?_
            refine tt_ar rfl ?_
            refine tt_ar rfl ?_
            refine tt_cv2 2 rfl (wo_2 hZ7.1.w) (w87 hZ7 hlt rfl) ?_
            intro r8 σ8 hq8
            obtain ⟨hZ8, -, rfl⟩ := hq8
            · refine tt_ar rfl ?_
              refine tt_ar rfl ?_
              refine tt_ifltF (by omega) ?_
              refine tt_ar rfl ?_
              refine tt_iflt (fun h20_17 => ?_) (fun h20_17 => ?_)
              · exfalso; omega
              · refine tt_ar rfl ?_
                refine tt_ar rfl ?_
                refine tt_icgt (fun h20_20 => ?_) (fun h20_20 => ?_)
                · exfalso; omega
                · refine tt_ar rfl ?_
                  refine tt_ar rfl ?_
                  refine tt_ar rfl ?_
                  refine tt_cv3 3 rfl (wo_2 hZ8.1.w) (w73 hZ8 hlt s1 rfl rfl) ?_
                  intro r9 σ9 hq9
                  rw [y2] at hq9
                  obtain ⟨hZ9, -, hq9⟩ := hq9
                  replace hq9 := (hq9.resolve_left (fun e => by have := e.1; omega)).2.1
                  subst hq9
                  · refine tt_ifneF (by decide) ?_
                    refine tt_ar rfl ?_
                    refine tt_ar rfl ?_
                    refine tt_ar rfl ?_
                    refine tt_cv3 3 rfl (wo_2 hZ9.1.w) (w90 hZ9 hlt rfl (y := 0) (by omega)) ?_
                    intro r10 σ10 hq10
                    obtain ⟨hZ10, -, rfl⟩ := hq10
                    · refine tt_ar rfl ?_
                      refine tt_icge (fun h20_31 => ?_) (fun h20_31 => ?_)
                      · refine tt_ar rfl ?_
                        refine tt_ar rfl ?_
                        refine tt_nop ?_
                        have lp23_3 : ∀ (μ : Nat) (x : Nat) (σk : am_S), 10 - x < μ → (1 ≤ x ∧ x ≤ 10) → (LZ k mm D A σk) → TT am_b0 (am_b0.getD 23 []) [(0, vR 1), (1, vR 2), (6, vI (((k : Nat) : Int))), (8, vI (((mm : Nat) : Int))), (10, vI (((nkT k : Nat) : Int))), (11, vI (((m : Nat) : Int))), (15, vI (((x : Nat) : Int)))] [] σk (fun r σ' => QL r σ') := by
                          intro μ
                          induction μ with
                          | zero => intro x σk hμ; exact absurd hμ (Nat.not_lt_zero _)
                          | succ μ ih23 =>
                            intro x σk hμ hx hZk
                            refine tt_ar rfl ?_
                            refine tt_ar rfl ?_
                            refine tt_icge (fun h23_2 => ?_) (fun h23_2 => ?_)
                            · refine tt_iinc (y := ((m + 1 : Nat) : Int)) rfl (iinc_fit (by omega) (by omega) (by omega)) ?_
                              refine tt_goto ?_
                              refine tt_loc [(0, vR 1), (1, vR 2), (6, vI (((k : Nat) : Int))), (8, vI (((mm : Nat) : Int))), (10, vI (((nkT k : Nat) : Int))), (11, vI (((m + 1 : Nat) : Int)))] rfl rfl ⟨rfl, rfl, rfl, rfl, rfl, rfl, trivial⟩ ?_
                              exact ih20 (m + 1) σk (by omega) (by omega) hZk
                            · have hmo := cn_mono (A := A) (k := k) (m := m) (show ((x : Nat) : Int) - 1 ≤ ((x : Nat) : Int) by omega) (n := nkT k)
                              have hcb := (cCnt_bd A k m ((x : Nat) : Int) (nkT k)).2
                              refine tt_ar rfl ?_
                              refine tt_ar rfl ?_
                              refine tt_ar rfl ?_
                              refine tt_cv3 3 rfl (wo_2 hZk.1.w) (w90 hZk hlt rfl (y := ((x : Nat) : Int)) (by omega)) ?_
                              intro r11 σ11 hq11
                              obtain ⟨hZ11, -, rfl⟩ := hq11
                              · refine tt_ar rfl ?_
                                refine tt_ar rfl ?_
                                refine tt_ar rfl ?_
                                refine tt_ar rfl ?_
                                refine tt_isub (by omega) (by omega) ?_
                                refine tt_cv3 3 rfl (wo_2 hZ11.1.w) (w90 hZ11 hlt rfl (y := (((x : Nat) : Int) - 1)) (by omega)) ?_
                                intro r12 σ12 hq12
                                obtain ⟨hZ12, -, rfl⟩ := hq12
                                · refine tt_iclt (fun h23_13 => ?_) (fun h23_13 => ?_)
                                  · exfalso; omega
                                  · refine tt_ar rfl ?_
                                    refine tt_ar rfl ?_
                                    refine tt_ar rfl ?_
                                    refine tt_cv3 3 rfl (wo_2 hZ12.1.w) (w90 hZ12 hlt rfl (y := ((x : Nat) : Int)) (by omega)) ?_
                                    intro r13 σ13 hq13
                                    obtain ⟨hZ13, -, rfl⟩ := hq13
                                    · refine tt_ar rfl ?_
                                      refine tt_icle (fun h23_19 => ?_) (fun h23_19 => ?_)
                                      · refine tt_iinc (y := ((x + 1 : Nat) : Int)) rfl (iinc_fit (by omega) (by omega) (by omega)) ?_
                                        refine tt_goto ?_
                                        refine tt_loc [(0, vR 1), (1, vR 2), (6, vI (((k : Nat) : Int))), (8, vI (((mm : Nat) : Int))), (10, vI (((nkT k : Nat) : Int))), (11, vI (((m : Nat) : Int))), (15, vI (((x + 1 : Nat) : Int)))] rfl rfl ⟨rfl, rfl, rfl, rfl, rfl, rfl, rfl, trivial⟩ ?_
                                        exact ih23 (x + 1) σ13 (by omega) (by omega) hZ13
                                      · refine tt_nop ?_
                                        exfalso; omega
                        refine tt_loc [(0, vR 1), (1, vR 2), (6, vI (((k : Nat) : Int))), (8, vI (((mm : Nat) : Int))), (10, vI (((nkT k : Nat) : Int))), (11, vI (((m : Nat) : Int))), (15, vI (((1 : Nat) : Int)))] rfl rfl ⟨rfl, rfl, rfl, rfl, rfl, rfl, lv_to rfl (by omega), trivial⟩ ?_
                        exact lp23_3 _ (1) σ10 (Nat.lt_succ_self _) (by omega) hZ10
                      · refine tt_nop ?_
                        exfalso; omega
  refine tt_loc [(0, vR 1), (1, vR 2), (6, vI (((k : Nat) : Int))), (8, vI (((mm : Nat) : Int))), (10, vI (((nkT k : Nat) : Int))), (11, vI (((0 : Nat) : Int)))] rfl rfl ⟨rfl, rfl, rfl, rfl, rfl, lv_to rfl (by omega), trivial⟩ ?_
  exact lp20_1 _ (0) σ (Nat.lt_succ_self _) (by omega) hZ

