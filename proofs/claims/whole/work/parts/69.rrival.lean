/-! THE REFERENCE'S CALLS: TALE, RIVAL -/
theorem c238 (A σ : am_S) (k nm ns : Nat) (D : Nat → Nat → Int) (hA : CI k nm ns D A) (hW : Wd σ) (hR : RRb k nm ns D A σ) (ex : Nat → Nat → Int) (hex : exA k A = ex) (hs : σ.1 76 31 = 1) (hT : TLs k nm D ex σ) (ht : bsN 1000000 (nkT k) nm D ex < 1000000) : CC 238 [vR 76] σ (fun r σ' => r = none ∧ Fr [101] σ σ' ∧ ∀ q, q < nm → σ'.1 101 q = ((frM 1000000 (nkT k) nm D ex q : Nat) : Int)) := by
  show TT am_b238 (am_b238.getD 0 []) [(0, vR 76)] [] σ _
  have hk5 := hR.aa.1
  have hl27 := hR.aa.2.1
  have hs47 := hR.aa.2.2
  have hk6 := hA.x.1.2.1
  have hm12 := hA.x.2.2.1.2.1
  have hs16 := hA.st.2
  have hDA := hA.x.1
  have hHT := hA.x.2.1
  have hLA := hA.x.2.2.1
  have hHB := HB_of hDA hHT
  have hnb := nkT_bd k
  have hpr := hDA.2.2.2.1
  have hDx : ∀ a b, a < nkT k → b < nkT k → 0 ≤ D a b ∧ D a b ≤ 90 := fun a b ha hb => DI.bd hk6 hpr hA.x.2.2.2 ha hb
  have hD0 : ∀ a b, a < nkT k → b < nkT k → 0 ≤ D a b := fun a b ha hb => (hDx a b ha hb).1
  have hx9 : ∀ m h, ex m h ≤ 9 ∨ ex m h = 1000000 := fun m h => by rw [← hex]; exact (ep_mi hDA).2.1
  have hx0 : ∀ m h, 0 ≤ ex m h := fun m h => by rw [← hex]; exact (ep_mi hDA).2.2
  have hep : ∀ m h, epR A k m h = miN 100000 (ex m h) := fun m h => by rw [← hex]; exact (ep_mi hDA).1
  have hRH := RH_of hA hex
  refine tt_ar rfl ?_
  refine tt_ar rfl ?_
  refine tt_nop ?_
  have lp1_1 : ∀ (μ : Nat) (m : Nat) (σ1 : am_S), nm - m < μ → Fr [101] σ σ1 → (m ≤ nm) → (∀ q, q < m → σ1.1 101 q = ((frM 1000000 (nkT k) nm D ex q : Nat) : Int)) → TT am_b238 (am_b238.getD 1 []) [(0, vR 76), (1, vI (((m : Nat) : Int)))] [] σ1 (fun r σ' => r = none ∧ Fr [101] σ σ' ∧ ∀ q, q < nm → σ'.1 101 q = ((frM 1000000 (nkT k) nm D ex q : Nat) : Int)) := by
    intro μ
    induction μ with
    | zero => intro m σ1 hμ; exact absurd hμ (Nat.not_lt_zero _)
    | succ μ ih1 =>
      intro m σ1 hμ hF_σ1 hm hF1
      have hW_σ1 := Fr.wd hF_σ1 hW
      have hT1 := hT.fr hF_σ1 (by decide)
      have hR1 := hR.fr hF_σ1 (by decide)
      have hs1 := (hF_σ1.2 76 (by decide) 31).trans hs
      refine tt_ar rfl ?_
      refine tt_ar rfl ?_
      refine tt_getI (x := ((nm : Nat) : Int)) (wo_76 hW_σ1) rfl ((hF_σ1.2 76 (by decide) (25)).trans hR.ln.1) ?_
      refine tt_icge (fun h1_3 => ?_) (fun h1_3 => ?_)
      · refine tt_vret ?_
        have em : m = nm := by omega
        rw [em] at hF1
        exact ⟨rfl, hF_σ1, hF1⟩
      · refine tt_ar rfl ?_
        refine tt_ar rfl ?_
        refine tt_nop ?_
        have lp2_2 : ∀ (μ : Nat) (h : Nat), frM 1000000 (nkT k) nm D ex m - h < μ → (h ≤ frM 1000000 (nkT k) nm D ex m) → TT am_b238 (am_b238.getD 2 []) [(0, vR 76), (1, vI (((m : Nat) : Int))), (2, vI (((h : Nat) : Int)))] [] σ1 (fun r σ' => r = none ∧ Fr [101] σ σ' ∧ ∀ q, q < nm → σ'.1 101 q = ((frM 1000000 (nkT k) nm D ex q : Nat) : Int)) := by
          intro μ
          induction μ with
          | zero => intro h hμ; exact absurd hμ (Nat.not_lt_zero _)
          | succ μ ih2 =>
            intro h hμ hh
            have hfo := frM_ok (F := 1000000) (n := nm) (by omega) hRH.1 hRH.d0 hRH.e0 ht (show m < nm by omega)
            have hpf := frM_pf (F := 1000000) (n := nm) (by omega) hRH.1 hRH.d0 hRH.e0 ht (show m < nm by omega)
            refine tt_ar rfl ?_
            refine tt_ar rfl ?_
            refine tt_ar rfl ?_
            refine tt_cv3 3 rfl (wo_76 hW_σ1) (c239 A σ1 k nm ns D hA hW_σ1 hR1 ex hex hs1 hT1 m h (by omega) (by omega) ht) (kb (fun h2_3 => ?_) (fun h2_3 => ?_))
            · refine tt_ifeqF (by decide) ?_
              refine tt_ar rfl ?_
              refine tt_ifle (fun h2_6 => ?_) (fun h2_6 => ?_)
              · have hyes : PFM 1000000 (nkT k) nm D ex m h = true := by unfold PFM; rw [Bool.and_eq_true, show decide (m = 0) = true from decide_eq_true (by omega)]; exact ⟨h2_3, rfl⟩
                have heq : h = frM 1000000 (nkT k) nm D ex m := by
                  rcases Nat.lt_or_ge h (frM 1000000 (nkT k) nm D ex m) with q | q
                  · have z := (fstN_is (p := PFM 1000000 (nkT k) nm D ex m) ⟨_, hfo.1, hpf⟩).2.2 h (by rw [← frM_is]; exact q)
                    rw [hyes] at z
                    cases z
                  · omega
                refine tt_ar rfl ?_
                refine tt_getR (wo_76 hW_σ1) rfl (wr_76_40 hW_σ1) ?_
                refine tt_ar rfl ?_
                refine tt_ar rfl ?_
                refine tt_iast (m) (wa_101 hW_σ1) (by omega) rfl (by omega) ?_
                refine tt_iinc (y := ((m + 1 : Nat) : Int)) rfl (iinc_fit (by omega) (by omega) (by omega)) ?_
                refine tt_goto ?_
                refine tt_loc [(0, vR 76), (1, vI (((m + 1 : Nat) : Int)))] rfl rfl ⟨rfl, rfl, trivial⟩ ?_
                exact ih1 (m + 1) _ (by omega) (Fr.put (Fr.tr Fr.rf hF_σ1 (by decide)) (by decide)) (by omega) (fun q hq => by rw [am_set_at]; by_cases e : q = m; (rw [if_pos e, e, heq]); (rw [if_neg e]; exact hF1 q (by omega)))
              · obtain ⟨m1, hm1⟩ : ∃ m1, m = m1 + 1 := ⟨m - 1, by omega⟩
                have hfo1 := frM_ok (F := 1000000) (n := nm) (by omega) hRH.1 hRH.d0 hRH.e0 ht (show m1 < nm by omega)
                obtain ⟨fm, hfm⟩ : ∃ n : Nat, frM 1000000 (nkT k) nm D ex m1 = n := ⟨_, rfl⟩
                rw [hfm] at hfo1
                have h101 : σ1.1 101 (m - 1) = ((fm : Nat) : Int) := by rw [hF1 (m - 1) (by omega), show m - 1 = m1 by omega, hfm]
                have hb1 := ahN_bd (F := 1000000) (N := nkT k) (D := D) (ex := ex) (by omega) (by omega) hD0 (fun m h _ => hx0 m h) m1 (show fm < nkT k by omega)
                have hmc1 := mi_c (ahN 1000000 (nkT k) D ex m1 fm)
                have hbe := mi_c (ex m h)
                have hbe0 := hx0 m h
                have hfm2 := fo_mi (n := nm) hRH (by omega) (show m1 + 1 < nm by omega) hfo1.1 (show h < nkT k by omega) ht (by rw [← hm1]; exact h2_3)
                rw [← hm1] at hfm2
                refine tt_ar rfl ?_
                refine tt_getR (wo_76 hW_σ1) rfl (wr_76_37 hW_σ1) ?_
                refine tt_ar rfl ?_
                refine tt_ar rfl ?_
                refine tt_ar rfl ?_
                refine tt_isub (by omega) (by omega) ?_
                refine tt_imul (by omega) (by omega) ?_
                refine tt_ar rfl ?_
                refine tt_getR (wo_76 hW_σ1) rfl (wr_76_40 hW_σ1) ?_
                refine tt_ar rfl ?_
                refine tt_ar rfl ?_
                refine tt_isub (by omega) (by omega) ?_
                refine tt_iald (m - 1) (x := ((fm : Nat) : Int)) (wa_101 hW_σ1) (by omega) (by omega) h101 ?_
                refine tt_iadd (by omega) (by omega) ?_
                refine tt_iald (462 * m1 + fm) (x := miN 100000 (ahN 1000000 (nkT k) D ex m1 fm)) (wa_99 hW_σ1) (by omega) (by omega) ((hF_σ1.2 99 (by decide) (462 * m1 + fm)).trans ((hT.1 m1 (by omega) fm (by omega)).2.1)) ?_
                refine tt_ar rfl ?_
                refine tt_ar rfl ?_
                refine tt_getR (wo_76 hW_σ1) rfl (wr_76_40 hW_σ1) ?_
                refine tt_ar rfl ?_
                refine tt_ar rfl ?_
                refine tt_isub (by omega) (by omega) ?_
                refine tt_iald (m - 1) (x := ((fm : Nat) : Int)) (wa_101 hW_σ1) (by omega) (by omega) h101 ?_
                refine tt_ar rfl ?_
                have hd9 := hDx fm h (by omega) (by omega)
                refine tt_cv3 3 rfl (wo_76 hW_σ1) (c233 A σ1 k nm ns D hA hW_σ1 hR1 hs1 fm h (by omega) (by omega)) (kp ?_)
                refine tt_iadd (by omega) (by omega) ?_
                refine tt_ar rfl ?_
                refine tt_getR (wo_76 hW_σ1) rfl (wr_76_36 hW_σ1) ?_
                refine tt_ar rfl ?_
                refine tt_ar rfl ?_
                refine tt_imul (by omega) (by omega) ?_
                refine tt_ar rfl ?_
                refine tt_iadd (by omega) (by omega) ?_
                refine tt_iald (((462 * m) + h)) (x := miN 100000 (ex m h)) (wa_98 hW_σ1) (by omega) (by omega) ((hF_σ1.2 98 (by decide) (((462 * m) + h))).trans ((hT.1 m (by omega) h (by omega)).1)) ?_
                refine tt_iadd (by omega) (by omega) ?_
                refine tt_ar rfl ?_
                refine tt_getR (wo_76 hW_σ1) rfl (wr_76_37 hW_σ1) ?_
                refine tt_ar rfl ?_
                refine tt_ar rfl ?_
                refine tt_imul (by omega) (by omega) ?_
                refine tt_ar rfl ?_
                refine tt_iadd (by omega) (by omega) ?_
                refine tt_iald (((462 * m) + h)) (x := miN 100000 (ahN 1000000 (nkT k) D ex m h)) (wa_99 hW_σ1) (by omega) (by omega) ((hF_σ1.2 99 (by decide) (((462 * m) + h))).trans ((hT.1 m (by omega) h (by omega)).2.1)) ?_
                refine tt_iceq (fun h2_49 => ?_) (fun h2_49 => ?_)
                · have hyes : PFM 1000000 (nkT k) nm D ex m h = true := by unfold PFM; rw [Bool.and_eq_true, show decide (m = 0) = false from decide_eq_false (by omega), Bool.false_or, show m - 1 = m1 by omega, hfm]; exact ⟨h2_3, hfm2.mp (by omega)⟩
                  have heq : h = frM 1000000 (nkT k) nm D ex m := by
                    rcases Nat.lt_or_ge h (frM 1000000 (nkT k) nm D ex m) with q | q
                    · have z := (fstN_is (p := PFM 1000000 (nkT k) nm D ex m) ⟨_, hfo.1, hpf⟩).2.2 h (by rw [← frM_is]; exact q)
                      rw [hyes] at z
                      cases z
                    · omega
                  refine tt_ar rfl ?_
                  refine tt_getR (wo_76 hW_σ1) rfl (wr_76_40 hW_σ1) ?_
                  refine tt_ar rfl ?_
                  refine tt_ar rfl ?_
                  refine tt_iast (m) (wa_101 hW_σ1) (by omega) rfl (by omega) ?_
                  refine tt_iinc (y := ((m + 1 : Nat) : Int)) rfl (iinc_fit (by omega) (by omega) (by omega)) ?_
                  refine tt_goto ?_
                  refine tt_loc [(0, vR 76), (1, vI (((m + 1 : Nat) : Int)))] rfl rfl ⟨rfl, rfl, trivial⟩ ?_
                  exact ih1 (m + 1) _ (by omega) (Fr.put (Fr.tr Fr.rf hF_σ1 (by decide)) (by decide)) (by omega) (fun q hq => by rw [am_set_at]; by_cases e : q = m; (rw [if_pos e, e, heq]); (rw [if_neg e]; exact hF1 q (by omega)))
                · refine tt_nop ?_
                  have hnext : ¬ PFM 1000000 (nkT k) nm D ex m h = true → h + 1 ≤ frM 1000000 (nkT k) nm D ex m := fun q => by
                    have : h ≠ frM 1000000 (nkT k) nm D ex m := fun e => q (by rw [e]; exact hpf)
                    omega
                  have hno : ¬ PFM 1000000 (nkT k) nm D ex m h = true := fun q => by unfold PFM at q; rw [Bool.and_eq_true, show decide (m = 0) = false from decide_eq_false (by omega), Bool.false_or, show m - 1 = m1 by omega, hfm] at q; have := hfm2.mpr q.2; omega
                  refine tt_iinc (y := ((h + 1 : Nat) : Int)) rfl (iinc_fit (by omega) (by omega) (by omega)) ?_
                  refine tt_goto ?_
                  refine tt_loc [(0, vR 76), (1, vI (((m : Nat) : Int))), (2, vI (((h + 1 : Nat) : Int)))] rfl rfl ⟨rfl, rfl, rfl, trivial⟩ ?_
                  exact ih2 (h + 1) (by have := hnext hno; omega) (hnext hno)
            · refine tt_ifeqT (by decide) ?_
              have hnext : ¬ PFM 1000000 (nkT k) nm D ex m h = true → h + 1 ≤ frM 1000000 (nkT k) nm D ex m := fun q => by
                have : h ≠ frM 1000000 (nkT k) nm D ex m := fun e => q (by rw [e]; exact hpf)
                omega
              have hno : ¬ PFM 1000000 (nkT k) nm D ex m h = true := fun q => by unfold PFM at q; rw [Bool.and_eq_true] at q; exact h2_3 q.1
              refine tt_iinc (y := ((h + 1 : Nat) : Int)) rfl (iinc_fit (by omega) (by omega) (by omega)) ?_
              refine tt_goto ?_
              refine tt_loc [(0, vR 76), (1, vI (((m : Nat) : Int))), (2, vI (((h + 1 : Nat) : Int)))] rfl rfl ⟨rfl, rfl, rfl, trivial⟩ ?_
              exact ih2 (h + 1) (by have := hnext hno; omega) (hnext hno)
        refine tt_loc [(0, vR 76), (1, vI (((m : Nat) : Int))), (2, vI (((0 : Nat) : Int)))] rfl rfl ⟨rfl, rfl, lv_to rfl (by omega), trivial⟩ ?_
        exact lp2_2 _ (0) (Nat.lt_succ_self _) (by omega)
  refine tt_loc [(0, vR 76), (1, vI (((0 : Nat) : Int)))] rfl rfl ⟨rfl, lv_to rfl (by omega), trivial⟩ ?_
  exact lp1_1 _ (0) σ (Nat.lt_succ_self _) Fr.rf (by omega) (fun q hq => absurd hq (Nat.not_lt_zero q))

theorem c177f (σ : am_S) (u n : Nat) (hW : Wd σ) (hu : u < 6) (hn : n ≤ 40) : CC 177 [vR 76, vI (((u : Nat) : Int)), vI (((n : Nat) : Int))] σ (fun r σ' => r = some (vI ((n : Nat) : Int)) ∧ Fr [78, 79] σ σ' ∧ (∀ q, σ'.1 78 q = if q = u then ((n : Nat) : Int) else σ.1 78 q) ∧ ∀ x, σ'.1 79 x = if 40 * u ≤ x ∧ x < 40 * u + 40 then 0 else σ.1 79 x) := by
  show TT am_b177 (am_b177.getD 0 []) [(0, vR 76), (1, vI (((u : Nat) : Int))), (2, vI (((n : Nat) : Int)))] [] σ _
  refine tt_ar rfl ?_
  refine tt_cs1 1 rfl (c178 _ _) (kb (fun h0_1 => ?_) (fun h0_1 => ?_))
  · refine tt_ifeqF (by decide) ?_
    refine tt_ar rfl ?_
    refine tt_ar rfl ?_
    refine tt_icle (fun h0_5 => ?_) (fun h0_5 => ?_)
    · refine tt_ar rfl ?_
      refine tt_ifgeT (by omega) ?_
      refine tt_ar rfl ?_
      refine tt_getR (wo_76 hW) rfl (wr_76_6 hW) ?_
      refine tt_ar rfl ?_
      refine tt_ar rfl ?_
      refine tt_iast (u) (wa_78 hW) (by omega) rfl (by omega) ?_
      refine tt_ar rfl ?_
      refine tt_ar rfl ?_
      refine tt_nop ?_
      have lp4_1 : ∀ (μ : Nat) (i : Nat) (σ1 : am_S), 40 - i < μ → Fr [79] (am_set σ 78 (u) (((n : Nat) : Int))) σ1 → (i ≤ 40) → (∀ x, σ1.1 79 x = if 40 * u ≤ x ∧ x < 40 * u + i then 0 else σ.1 79 x) → TT am_b177 (am_b177.getD 4 []) [(0, vR 76), (1, vI (((u : Nat) : Int))), (2, vI (((n : Nat) : Int))), (3, vI (((i : Nat) : Int)))] [] σ1 (fun r σ' => r = some (vI ((n : Nat) : Int)) ∧ Fr [78, 79] σ σ' ∧ (∀ q, σ'.1 78 q = if q = u then ((n : Nat) : Int) else σ.1 78 q) ∧ ∀ x, σ'.1 79 x = if 40 * u ≤ x ∧ x < 40 * u + 40 then 0 else σ.1 79 x) := by
        intro μ
        induction μ with
        | zero => intro i σ1 hμ; exact absurd hμ (Nat.not_lt_zero _)
        | succ μ ih4 =>
          intro i σ1 hμ hF_σ1 hi hC
          have hW_σ1 := Fr.wd hF_σ1 hW
          refine tt_ar rfl ?_
          refine tt_ar rfl ?_
          refine tt_icge (fun h4_2 => ?_) (fun h4_2 => ?_)
          · refine tt_ar rfl ?_
            refine tt_iret ?_
            have e : i = 40 := by omega
            subst e
            exact ⟨rfl, Fr.tr (Fr.put Fr.rf (by decide)) hF_σ1 (by decide), fun q => (hF_σ1.2 78 (by decide) q).trans am_set_at, hC⟩
          · refine tt_ar rfl ?_
            refine tt_getR (wo_76 hW_σ1) rfl (wr_76_7 hW_σ1) ?_
            refine tt_ar rfl ?_
            refine tt_ar rfl ?_
            refine tt_imul (by omega) (by omega) ?_
            refine tt_ar rfl ?_
            refine tt_iadd (by omega) (by omega) ?_
            refine tt_ar rfl ?_
            refine tt_iast (((40 * u) + i)) (wa_79 hW_σ1) (by omega) (by omega) (by omega) ?_
            refine tt_iinc (y := ((i + 1 : Nat) : Int)) rfl (iinc_fit (by omega) (by omega) (by omega)) ?_
            refine tt_goto ?_
            refine tt_loc [(0, vR 76), (1, vI (((u : Nat) : Int))), (2, vI (((n : Nat) : Int))), (3, vI (((i + 1 : Nat) : Int)))] rfl rfl ⟨rfl, rfl, rfl, rfl, trivial⟩ ?_
            exact ih4 (i + 1) _ (by omega) (Fr.put (Fr.tr Fr.rf hF_σ1 (by decide)) (by decide)) (by omega) (fillr_step (by omega) hC)
      refine tt_loc [(0, vR 76), (1, vI (((u : Nat) : Int))), (2, vI (((n : Nat) : Int))), (3, vI (((0 : Nat) : Int)))] rfl rfl ⟨rfl, rfl, rfl, lv_to rfl (by omega), trivial⟩ ?_
      exact lp4_1 _ (0) _ (Nat.lt_succ_self _) Fr.rf (by omega) (fun x => by rw [if_neg (by omega)]; rfl)
    · refine tt_nop ?_
      refine tt_ar rfl ?_
      refine tt_iret ?_
      exfalso; omega
  · refine tt_ifeqT (by decide) ?_
    refine tt_ar rfl ?_
    refine tt_iret ?_
    exfalso; omega

theorem c237 (A σ : am_S) (k nm ns : Nat) (D : Nat → Nat → Int) (hA : CI k nm ns D A) (hW : Wd σ) (hR : RRb k nm ns D A σ) (u : Int) : CC 237 [vR 76, vI (u)] σ (fun r σ' => PMd A σ (x_tale k nm D A u) r σ') := by
  show TT am_b237 (am_b237.getD 0 []) [(0, vR 76), (1, vI (u))] [] σ _
  have hk5 := hR.aa.1
  have hl27 := hR.aa.2.1
  have hs47 := hR.aa.2.2
  have hk6 := hA.x.1.2.1
  have hm12 := hA.x.2.2.1.2.1
  have hs16 := hA.st.2
  have hDA := hA.x.1
  have hHT := hA.x.2.1
  have hLA := hA.x.2.2.1
  have hHB := HB_of hDA hHT
  have hnb := nkT_bd k
  obtain ⟨ex, hxA⟩ : ∃ ex : Nat → Nat → Int, exA k A = ex := ⟨_, rfl⟩
  have hRH := RH_of hA hxA
  refine tt_ar rfl ?_
  refine tt_cs1 1 rfl (c178 _ _) (kb (fun h0_1 => ?_) (fun h0_1 => ?_))
  · refine tt_ifneT (by decide) ?_
    obtain ⟨un, rfl⟩ : ∃ un : Nat, u = (un : Int) := ⟨u.toNat, by omega⟩
    refine tt_ar rfl ?_
    refine tt_cv1 1 rfl (wo_76 hW) (c235 A σ k nm ns D hA hW hR ex hxA) ?_
    intro r0 σt hq0
    obtain ⟨rfl, hRt, hst, hFt, hT⟩ := hq0
    have hW1 := Fr.wd hFt hW
    have hbsd := bs_dc (n := nm) hRH
    have hbm := mi_c (bsN 1000000 (nkT k) nm D ex)
    refine tt_ar rfl ?_
    refine tt_getI (x := miN 100000 (bsN 1000000 (nkT k) nm D ex)) (wo_76 hW1) rfl hT.2 ?_
    refine tt_ar rfl ?_
    refine tt_icne (fun h1_5 => ?_) (fun h1_5 => ?_)
    · have htold : bsN 1000000 (nkT k) nm D ex < 1000000 := by omega
      refine tt_ar rfl ?_
      refine tt_cv1 1 rfl (wo_76 hW1) (c238 A σt k nm ns D hA hW1 hRt ex hxA hst hT (by omega)) ?_
      intro r0 σf hq0
      obtain ⟨rfl, hFf, hfst⟩ := hq0
      have hW2 := Fr.wd hFf hW1
      refine tt_ar rfl ?_
      refine tt_ar rfl ?_
      refine tt_ar rfl ?_
      refine tt_getI (x := ((nm : Nat) : Int)) (wo_76 hW2) rfl ((hFf.2 76 (by decide) (25)).trans hRt.ln.1) ?_
      refine tt_cv3 3 rfl (wo_76 hW2) (c177f σf un nm hW2 (by omega) (by omega)) ?_
      intro r0 σr hq0
      obtain ⟨rfl, hFr, h78, h79⟩ := hq0
      have hW3 := Fr.wd hFr hW2
      refine tt_ar rfl ?_
      refine tt_ar rfl ?_
      refine tt_ar rfl ?_
      refine tt_nop ?_
      have lp3_4 : ∀ (μ : Nat) (m : Nat) (σ3 : am_S), nm - m < μ → Fr [79] σr σ3 → (m ≤ nm) → (∀ x, σ3.1 79 x = if 40 * un ≤ x ∧ x < 40 * un + m then ((tb k (frM 1000000 (nkT k) nm D ex (x - 40 * un)) : Nat) : Int) else σr.1 79 x) → TT am_b237 (am_b237.getD 3 []) [(0, vR 76), (1, vI (((un : Nat) : Int))), (2, vI (((m : Nat) : Int)))] [] σ3 (fun r σ' => PMd A σ (x_tale k nm D A (un : Int)) r σ') := by
        intro μ
        induction μ with
        | zero => intro m σ3 hμ; exact absurd hμ (Nat.not_lt_zero _)
        | succ μ ih3 =>
          intro m σ3 hμ hF_σ3 hm hC3
          have hW_σ3 := Fr.wd hF_σ3 hW3
          have hfo := fun hq => frM_ok (F := 1000000) (n := nm) (by omega) hRH.1 hRH.d0 hRH.e0 htold (m := m) hq
          refine tt_ar rfl ?_
          refine tt_ar rfl ?_
          refine tt_getI (x := ((nm : Nat) : Int)) (wo_76 hW_σ3) rfl (((hF_σ3.2 76 (by decide) (25)).trans ((hFr.2 76 (by decide) (25)).trans (hFf.2 76 (by decide) (25)))).trans hRt.ln.1) ?_
          refine tt_icge (fun h3_3 => ?_) (fun h3_3 => ?_)
          · refine tt_ar rfl ?_
            refine tt_getI (x := ((nm : Nat) : Int)) (wo_76 hW_σ3) rfl (((hF_σ3.2 76 (by decide) (25)).trans ((hFr.2 76 (by decide) (25)).trans (hFf.2 76 (by decide) (25)))).trans hRt.ln.1) ?_
            refine tt_iret ?_
            have em : m = nm := by omega
            rw [em] at hC3
            have hRf := hRt.fr hFf (by decide)
            have hF3 : Fr [78, 79] σf σ3 := Fr.tr hFr hF_σ3 (by decide)
            have h2 := hRf.row (A' := (upS (56 + 2 * un) 40 (fun j => if j < nm then ((tb k (frM 1000000 (nkT k) nm D ex j) : Nat) : Int) else 0) (nm : Int) A)) (r := un) (by omega) (fun a j h1 h2 => upS_o h1 (by omega)) hF3 (fun q => by rw [hF_σ3.2 78 (by decide) q, h78, upS_1]; have := szR_c (nm : Int); split; omega; rfl) (fun j hj => by rw [show (upS (56 + 2 * un) 40 (fun j => if j < nm then ((tb k (frM 1000000 (nkT k) nm D ex j) : Nat) : Int) else 0) (nm : Int) A).1 (57 + 2 * un) j = if j < nm then ((tb k (frM 1000000 (nkT k) nm D ex j) : Nat) : Int) else 0 by rw [show 57 + 2 * un = 56 + 2 * un + 1 by omega]; exact upS_2 hj, hC3]; by_cases e : j < nm; (rw [if_pos (by omega), if_pos e, show 40 * un + j - 40 * un = j by omega]); (rw [if_neg (by omega), if_neg e, h79, if_pos (by omega)])) (fun x hx => by rw [hC3, if_neg (by omega), h79, if_neg (by omega)])
            exact pm_any h2 (show x_tale k nm D A un = (vI (nm : Int), (upS (56 + 2 * un) 40 (fun j => if j < nm then ((tb k (frM 1000000 (nkT k) nm D ex j) : Nat) : Int) else 0) (nm : Int) A)) by unfold x_tale; (try simp only [Int.toNat_natCast, hl27, hk5]); (try rw [hxA]); (repeat (first | rw [if_pos (by omega)] | rw [if_neg (by omega)])); (first | done | rfl)) (QR.of ((Fr.tr (Fr.tr (Fr.tr (Fr.tr Fr.rf hFt (by decide)) hFf (by decide)) hFr (by decide)) hF_σ3 (by decide)) : Fr [76, 78, 79, 94, 95, 96, 97, 98, 99, 100, 101] σ σ3) (by decide))
          · refine tt_ar rfl ?_
            refine tt_getR (wo_76 hW_σ3) rfl (wr_76_7 hW_σ3) ?_
            refine tt_ar rfl ?_
            refine tt_ar rfl ?_
            refine tt_imul (by omega) (by omega) ?_
            refine tt_ar rfl ?_
            refine tt_iadd (by omega) (by omega) ?_
            refine tt_ar rfl ?_
            refine tt_getR (wo_76 hW_σ3) rfl (wr_76_28 hW_σ3) ?_
            refine tt_ar rfl ?_
            refine tt_getR (wo_76 hW_σ3) rfl (wr_76_40 hW_σ3) ?_
            refine tt_ar rfl ?_
            refine tt_iald (m) (x := ((frM 1000000 (nkT k) nm D ex m : Nat) : Int)) (wa_101 hW_σ3) rfl (by omega) (((hF_σ3.2 101 (by decide) (m)).trans (hFr.2 101 (by decide) (m))).trans (hfst m (by omega))) ?_
            have hfo := hfo (by omega)
            refine tt_iald (frM 1000000 (nkT k) nm D ex m) (x := ((tb k (frM 1000000 (nkT k) nm D ex m) : Nat) : Int)) (wa_92 hW_σ3) rfl (by omega) (((hF_σ3.2 92 (by decide) (frM 1000000 (nkT k) nm D ex m)).trans ((hFr.2 92 (by decide) (frM 1000000 (nkT k) nm D ex m)).trans ((hFf.2 92 (by decide) (frM 1000000 (nkT k) nm D ex m)).trans (hFt.2 92 (by decide) (frM 1000000 (nkT k) nm D ex m))))).trans (hR.hs.2 (frM 1000000 (nkT k) nm D ex m) hfo.1).1) ?_
            refine tt_iast (((40 * un) + m)) (wa_79 hW_σ3) (by omega) (by omega) (by omega) ?_
            refine tt_iinc (y := ((m + 1 : Nat) : Int)) rfl (iinc_fit (by omega) (by omega) (by omega)) ?_
            refine tt_goto ?_
            refine tt_loc [(0, vR 76), (1, vI (((un : Nat) : Int))), (2, vI (((m + 1 : Nat) : Int)))] rfl rfl ⟨rfl, rfl, rfl, trivial⟩ ?_
            exact ih3 (m + 1) _ (by omega) (Fr.put (Fr.tr Fr.rf hF_σ3 (by decide)) (by decide)) (by omega) (fun x => by rw [am_set_at, hC3 x]; by_cases e : x = 40 * un + m; (rw [if_pos e, if_pos (by omega), e, show 40 * un + m - 40 * un = m by omega]); (rw [if_neg e]; by_cases e2 : 40 * un ≤ x ∧ x < 40 * un + m; (rw [if_pos e2, if_pos (by omega)]); (rw [if_neg e2, if_neg (by omega)])))
      refine tt_loc [(0, vR 76), (1, vI (((un : Nat) : Int))), (2, vI (((0 : Nat) : Int)))] rfl rfl ⟨rfl, rfl, lv_to rfl (by omega), trivial⟩ ?_
      exact lp3_4 _ (0) σr (Nat.lt_succ_self _) Fr.rf (by omega) (fun x => by rw [if_neg (by omega)])
    · refine tt_ar rfl ?_
      refine tt_ar rfl ?_
      refine tt_cv2 2 rfl (wo_76 hW1) (c179 σt 4 hW1 (by omega)) (ks ?_)
      refine tt_iret ?_
      exact pm_mt (f := 4) hRt (by decide) (show x_tale k nm D A un = (vI (-3), upF 4 A) by unfold x_tale; (try simp only [Int.toNat_natCast, hl27, hk5]); (try rw [hxA]); (repeat (first | rw [if_pos (by omega)] | rw [if_neg (by omega)])); (first | done | rfl)) (QR.of hFt (by decide))
  · refine tt_ifneF (by decide) ?_
    refine tt_ar rfl ?_
    refine tt_iret ?_
    exact pm_any (M := A) hR (show x_tale k nm D A u = (vI (-1), A) by unfold x_tale; (try simp only [Int.toNat_natCast, hl27, hk5]); (try rw [hxA]); (repeat (first | rw [if_pos (by omega)] | rw [if_neg (by omega)])); (first | done | rfl)) QR.rf

theorem c248 (A σ : am_S) (k nm ns : Nat) (D : Nat → Nat → Int) (hA : CI k nm ns D A) (hW : Wd σ) (hR : RRb k nm ns D A σ) (u : Int) : CC 248 [vR 76, vI (u)] σ (fun r σ' => PMd A σ (x_rival k nm D A u) r σ') := by
  show TT am_b248 (am_b248.getD 0 []) [(0, vR 76), (1, vI (u))] [] σ _
  have hk5 := hR.aa.1
  have hl27 := hR.aa.2.1
  have hs47 := hR.aa.2.2
  have hk6 := hA.x.1.2.1
  have hm12 := hA.x.2.2.1.2.1
  have hs16 := hA.st.2
  have hDA := hA.x.1
  have hHT := hA.x.2.1
  have hLA := hA.x.2.2.1
  have hHB := HB_of hDA hHT
  have hnb := nkT_bd k
  obtain ⟨ex, hxA⟩ : ∃ ex : Nat → Nat → Int, exA k A = ex := ⟨_, rfl⟩
  have hRH := RH_of hA hxA
  refine tt_ar rfl ?_
  refine tt_ar rfl ?_
  refine tt_cv2 2 rfl (wo_76 hW) (c209 A σ k nm ns D hA hW hR _) (kb (fun h0_2 => ?_) (fun h0_2 => ?_))
  · refine tt_ifneT (by decide) ?_
    obtain ⟨un, rfl⟩ : ∃ un : Nat, u = (un : Int) := ⟨u.toNat, by omega⟩
    refine tt_ar rfl ?_
    refine tt_cv1 1 rfl (wo_76 hW) (c235 A σ k nm ns D hA hW hR ex hxA) ?_
    intro r0 σt hq0
    obtain ⟨rfl, hRt, hst, hFt, hT⟩ := hq0
    have hW1 := Fr.wd hFt hW
    have hbsd := bs_dc (n := nm) hRH
    have hbm := mi_c (bsN 1000000 (nkT k) nm D ex)
    refine tt_ar rfl ?_
    refine tt_getI (x := miN 100000 (bsN 1000000 (nkT k) nm D ex)) (wo_76 hW1) rfl hT.2 ?_
    refine tt_ar rfl ?_
    refine tt_icne (fun h1_5 => ?_) (fun h1_5 => ?_)
    · have htold : bsN 1000000 (nkT k) nm D ex < 1000000 := by omega
      refine tt_ar rfl ?_
      refine tt_cv1 1 rfl (wo_76 hW1) (c238 A σt k nm ns D hA hW1 hRt ex hxA hst hT (by omega)) ?_
      intro r0 σf hq0
      obtain ⟨rfl, hFf, hfst⟩ := hq0
      have hW2 := Fr.wd hFf hW1
      refine tt_ar rfl ?_
      refine tt_ar rfl ?_
      refine tt_ar rfl ?_
      refine tt_ar rfl ?_
      refine tt_ar rfl ?_
      refine tt_ar rfl ?_
      refine tt_nop ?_
      have lp3_3 : ∀ (μ : Nat) (h : Nat), nkT k - h < μ → (h ≤ nkT k) → TT am_b248 (am_b248.getD 3 []) [(0, vR 76), (1, vI (((un : Nat) : Int))), (2, vI (beR (rvI 1000000 (frM 1000000 (nkT k) nm D ex un) (ctM 1000000 (nkT k) nm D ex un) h))), (3, vI (miN 100000 (rvV 1000000 (frM 1000000 (nkT k) nm D ex un) (ctM 1000000 (nkT k) nm D ex un) h))), (4, vI (((h : Nat) : Int)))] [] σf (fun r σ' => PMd A σ (x_rival k nm D A (un : Int)) r σ') := by
        intro μ
        induction μ with
        | zero => intro h hμ; exact absurd hμ (Nat.not_lt_zero _)
        | succ μ ih3 =>
          intro h hμ hh
          have hrm := mi_c (rvV 1000000 (frM 1000000 (nkT k) nm D ex un) (ctM 1000000 (nkT k) nm D ex un) h)
          have hrd : rvV 1000000 (frM 1000000 (nkT k) nm D ex un) (ctM 1000000 (nkT k) nm D ex un) h = 1000000 ∨ rvV 1000000 (frM 1000000 (nkT k) nm D ex un) (ctM 1000000 (nkT k) nm D ex un) h ≤ 1188 := by rcases rv_is (F := 1000000) (sk := frM 1000000 (nkT k) nm D ex un) (f := ctM 1000000 (nkT k) nm D ex un) h with z | ⟨i, z1, z2, z3, z4⟩; (exact Or.inl z.2); (have := ct_dc (n := nm) hRH (m := un) (h := i) (by omega) (by omega); omega)
          refine tt_ar rfl ?_
          refine tt_ar rfl ?_
          refine tt_getI (x := ((nkT k : Nat) : Int)) (wo_76 hW2) rfl ((hFf.2 76 (by decide) (27)).trans hRt.hs.1) ?_
          refine tt_icge (fun h3_3 => ?_) (fun h3_3 => ?_)
          · refine tt_ar rfl ?_
            refine tt_ifge (fun h5_1 => ?_) (fun h5_1 => ?_)
            · have eh : h = nkT k := by omega
              have hbe := beR_c (rvI 1000000 (frM 1000000 (nkT k) nm D ex un) (ctM 1000000 (nkT k) nm D ex un) h)
              obtain ⟨bn, hbn⟩ : ∃ bn : Nat, rvI 1000000 (frM 1000000 (nkT k) nm D ex un) (ctM 1000000 (nkT k) nm D ex un) h = (bn : Int) := ⟨_, (Int.toNat_of_nonneg (by omega)).symm⟩
              have hb2 : bn < nkT k ∧ rvV 1000000 (frM 1000000 (nkT k) nm D ex un) (ctM 1000000 (nkT k) nm D ex un) h = ctM 1000000 (nkT k) nm D ex un bn ∧ ctM 1000000 (nkT k) nm D ex un bn < 1000000 := by
                rcases rv_is (F := 1000000) (sk := frM 1000000 (nkT k) nm D ex un) (f := ctM 1000000 (nkT k) nm D ex un) h with z | ⟨i, z1, z2, z3, z4⟩
                · omega
                · have e : i = bn := by omega
                  subst e
                  exact ⟨by omega, z3, z4⟩
              have hcd := ct_dc (n := nm) hRH (m := un) (h := bn) (by omega) (by omega)
              rw [eh] at hbn
              refine tt_loc [(0, vR 76), (2, vI (((bn : Nat) : Int))), (3, vI (ctM 1000000 (nkT k) nm D ex un bn))] rfl rfl ⟨rfl, lv_to rfl (by rw [eh] at hbe ⊢; omega), lv_to rfl (by rw [hb2.2.1]; have := mi_c (ctM 1000000 (nkT k) nm D ex un bn); omega), trivial⟩ ?_
              refine tt_ar rfl ?_
              refine tt_ar rfl ?_
              refine tt_getR (wo_76 hW2) rfl (wr_76_28 hW2) ?_
              refine tt_ar rfl ?_
              refine tt_iald (bn) (x := ((tb k bn : Nat) : Int)) (wa_92 hW2) rfl (by omega) (((hFf.2 92 (by decide) (bn)).trans (hFt.2 92 (by decide) (bn))).trans (hR.hs.2 bn (by omega)).1) ?_
              refine tt_ar rfl ?_
              refine tt_cv3 3 rfl (wo_76 hW2) (c183 σf _ _ hW2) (ks ?_)
              refine tt_nop ?_
              refine tt_iret ?_
              exact pm_ak (M := A) (hRt.fr hFf (by decide)) (show x_rival k nm D A un = (vI (ctM 1000000 (nkT k) nm D ex un bn), upA ((tb k bn : Nat) : Int) A) by unfold x_rival rvA; simp only [Int.toNat_natCast, hl27]; rw [hxA, if_pos (by omega), if_pos htold, hbn, if_neg (by omega)]; rfl) (QR.of (Fr.tr (Fr.mono hFt (by decide) : Fr [76, 94, 95, 96, 97, 98, 99, 100, 101] σ σt) hFf (by decide)) (by decide))
            · refine tt_ar rfl ?_
              refine tt_goto ?_
              refine tt_iret ?_
              have eh : h = nkT k := by omega
              have hbe := beR_c (rvI 1000000 (frM 1000000 (nkT k) nm D ex un) (ctM 1000000 (nkT k) nm D ex un) h)
              rw [eh] at hbe h5_1
              exact pm_same (hRt.fr hFf (by decide)) (show x_rival k nm D A un = (vI (-9), A) by unfold x_rival rvA; simp only [Int.toNat_natCast, hl27]; rw [hxA, if_pos (by omega), if_pos htold, if_pos (by omega)]) (QR.of (Fr.tr (Fr.mono hFt (by decide) : Fr [76, 94, 95, 96, 97, 98, 99, 100, 101] σ σt) hFf (by decide)) (by decide))
          · refine tt_ar rfl ?_
            refine tt_ar rfl ?_
            refine tt_ar rfl ?_
            refine tt_imul (by omega) (by omega) ?_
            refine tt_ar rfl ?_
            refine tt_iadd (by omega) (by omega) ?_
            have hc236 := c236t σf k nm D ex hW2 hRH (by omega) (hT.fr (W := [101]) (Fr.tr Fr.rf hFf (by decide)) (by decide)) un h (by omega) (by omega)
            rw [show ((462 * un + h : Nat) : Int) = (((462 * ((un : Nat) : Int)) + ((h : Nat) : Int))) by omega] at hc236
            have hcd := ct_dc (n := nm) hRH (m := un) (h := h) (by omega) (by omega)
            have hcm := mi_c (ctM 1000000 (nkT k) nm D ex un h)
            refine tt_cv2 2 rfl (wo_76 hW2) hc236 (kp ?_)
            refine tt_ar rfl ?_
            refine tt_ar rfl ?_
            refine tt_ar rfl ?_
            refine tt_getR (wo_76 hW2) rfl (wr_76_40 hW2) ?_
            refine tt_ar rfl ?_
            refine tt_iald (un) (x := ((frM 1000000 (nkT k) nm D ex un : Nat) : Int)) (wa_101 hW2) rfl (by omega) (hfst un (by omega)) ?_
            refine tt_iceq (fun h3_17 => ?_) (fun h3_17 => ?_)
            · refine tt_iinc (y := ((h + 1 : Nat) : Int)) rfl (iinc_fit (by omega) (by omega) (by omega)) ?_
              refine tt_goto ?_
              refine tt_loc [(0, vR 76), (1, vI (((un : Nat) : Int))), (2, vI (beR (rvI 1000000 (frM 1000000 (nkT k) nm D ex un) (ctM 1000000 (nkT k) nm D ex un) (h + 1)))), (3, vI (miN 100000 (rvV 1000000 (frM 1000000 (nkT k) nm D ex un) (ctM 1000000 (nkT k) nm D ex un) (h + 1)))), (4, vI (((h + 1 : Nat) : Int)))] rfl rfl ⟨rfl, rfl, lv_to rfl (by rw [rvI_s]; first | (rw [if_pos ⟨by omega, by omega⟩]; unfold beR; rw [if_neg (by omega)]) | (rw [if_neg (fun q => by have := q.1; have := q.2; omega)])), lv_to rfl (by rw [rvV_s]; first | (rw [if_pos ⟨by omega, by omega⟩]) | (rw [if_neg (fun q => by have := q.1; have := q.2; omega)])), rfl, trivial⟩ ?_
              exact ih3 (h + 1) (by omega) (by omega)
            · refine tt_ar rfl ?_
              refine tt_ar rfl ?_
              refine tt_icge (fun h3_20 => ?_) (fun h3_20 => ?_)
              · refine tt_iinc (y := ((h + 1 : Nat) : Int)) rfl (iinc_fit (by omega) (by omega) (by omega)) ?_
                refine tt_goto ?_
                refine tt_loc [(0, vR 76), (1, vI (((un : Nat) : Int))), (2, vI (beR (rvI 1000000 (frM 1000000 (nkT k) nm D ex un) (ctM 1000000 (nkT k) nm D ex un) (h + 1)))), (3, vI (miN 100000 (rvV 1000000 (frM 1000000 (nkT k) nm D ex un) (ctM 1000000 (nkT k) nm D ex un) (h + 1)))), (4, vI (((h + 1 : Nat) : Int)))] rfl rfl ⟨rfl, rfl, lv_to rfl (by rw [rvI_s]; first | (rw [if_pos ⟨by omega, by omega⟩]; unfold beR; rw [if_neg (by omega)]) | (rw [if_neg (fun q => by have := q.1; have := q.2; omega)])), lv_to rfl (by rw [rvV_s]; first | (rw [if_pos ⟨by omega, by omega⟩]) | (rw [if_neg (fun q => by have := q.1; have := q.2; omega)])), rfl, trivial⟩ ?_
                exact ih3 (h + 1) (by omega) (by omega)
              · refine tt_ar rfl ?_
                refine tt_ar rfl ?_
                refine tt_ar rfl ?_
                refine tt_ar rfl ?_
                refine tt_nop ?_
                refine tt_iinc (y := ((h + 1 : Nat) : Int)) rfl (iinc_fit (by omega) (by omega) (by omega)) ?_
                refine tt_goto ?_
                refine tt_loc [(0, vR 76), (1, vI (((un : Nat) : Int))), (2, vI (beR (rvI 1000000 (frM 1000000 (nkT k) nm D ex un) (ctM 1000000 (nkT k) nm D ex un) (h + 1)))), (3, vI (miN 100000 (rvV 1000000 (frM 1000000 (nkT k) nm D ex un) (ctM 1000000 (nkT k) nm D ex un) (h + 1)))), (4, vI (((h + 1 : Nat) : Int)))] rfl rfl ⟨rfl, rfl, lv_to rfl (by rw [rvI_s]; first | (rw [if_pos ⟨by omega, by omega⟩]; unfold beR; rw [if_neg (by omega)]) | (rw [if_neg (fun q => by have := q.1; have := q.2; omega)])), lv_to rfl (by rw [rvV_s]; first | (rw [if_pos ⟨by omega, by omega⟩]) | (rw [if_neg (fun q => by have := q.1; have := q.2; omega)])), rfl, trivial⟩ ?_
                exact ih3 (h + 1) (by omega) (by omega)
      refine tt_loc [(0, vR 76), (1, vI (((un : Nat) : Int))), (2, vI (beR (rvI 1000000 (frM 1000000 (nkT k) nm D ex un) (ctM 1000000 (nkT k) nm D ex un) 0))), (3, vI (miN 100000 (rvV 1000000 (frM 1000000 (nkT k) nm D ex un) (ctM 1000000 (nkT k) nm D ex un) 0))), (4, vI (((0 : Nat) : Int)))] rfl rfl ⟨rfl, rfl, lv_to rfl rfl, lv_to rfl rfl, lv_to rfl (by omega), trivial⟩ ?_
      exact lp3_3 _ (0) (Nat.lt_succ_self _) (by omega)
    · refine tt_ar rfl ?_
      refine tt_ar rfl ?_
      refine tt_cv2 2 rfl (wo_76 hW1) (c179 σt 4 hW1 (by omega)) (ks ?_)
      refine tt_iret ?_
      exact pm_mt (f := 4) hRt (by decide) (show x_rival k nm D A un = (vI (-3), upF 4 A) by unfold x_rival; (try simp only [Int.toNat_natCast, hl27, hk5]); (try rw [hxA]); (repeat (first | rw [if_pos (by omega)] | rw [if_neg (by omega)])); (first | done | rfl)) (QR.of hFt (by decide))
  · refine tt_ifneF (by decide) ?_
    refine tt_ar rfl ?_
    refine tt_iret ?_
    exact pm_any (M := A) hR (show x_rival k nm D A u = (vI (-1), A) by unfold x_rival; (try simp only [Int.toNat_natCast, hl27, hk5]); (try rw [hxA]); (repeat (first | rw [if_pos (by omega)] | rw [if_neg (by omega)])); (first | done | rfl)) QR.rf

