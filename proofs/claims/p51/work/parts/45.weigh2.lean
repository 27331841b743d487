/-! WINTER WEIGHED -/
def WG (k nm : Nat) (D ex : Nat → Nat → Int) (σ : am_S) : Prop := WK k nm D ex σ ∧ (bsN 1000000 (nkT k) nm D ex < 1000000 → LQ k nm D ex σ ∧ ∀ q, q < nm → σ.1 37 q = (((frM 1000000 (nkT k) nm D ex q) : Nat) : Int))
theorem c102 (σ : am_S) (k nm : Nat) (hW : Wd σ) (D ex : Nat → Nat → Int) (hX : WX k nm D σ) (hex : ∀ m h, h < nkT k → 0 ≤ ex m h ∧ ex m h ≤ 1000000) (hKN : KNs k D σ) (hexE : ∀ m h, cPr σ k m h = ex m h) (hC : σ.1 36 4 = 0 ∨ σ.1 36 4 = 1 ∧ WG k nm D ex σ) : CC 102 [vR 36] σ (fun r σ' => r = none ∧ KNs k D σ' ∧ FZ [33, 34, 35, 36, 37, 38, 39, 40, 41, 42, 43] σ σ' ∧ σ'.1 36 4 = 1 ∧ (∀ j, j ≠ 4 → j ≠ 6 → σ'.1 36 j = σ.1 36 j) ∧ WG k nm D ex σ') := by
  show TT am_b102 (am_b102.getD 0 []) [(0, vR 36)] [] σ _
  obtain ⟨hD, hH, hL, hDI⟩ := id hX
  have hk6 := hD.2.1
  have hnb := nkT_bd k
  have hnm := hL.2.1
  have hpr := hD.2.2.2.1
  have hDb : ∀ a b, a < nkT k → b < nkT k → 0 ≤ D a b := fun a b ha hb => (DI.bd hk6 hpr hDI ha hb).1
  have hab : ∀ m h, h < nkT k → 0 ≤ ahN 1000000 (nkT k) D ex m h ∧ ahN 1000000 (nkT k) D ex m h ≤ 1000000 := fun m h hh => ahN_bd (by omega) (by omega) hDb (fun m h hh => (hex m h hh).1) m hh
  refine tt_ar rfl ?_
  refine tt_getZ (x := σ.1 36 (4)) (wo_36 hW) rfl rfl ?_
  refine tt_ifeq (fun h0_2 => ?_) (fun h0_2 => ?_)
  · refine tt_ar rfl ?_
    refine tt_ar rfl ?_
    refine tt_putZ (wo_36 hW) rfl (by omega) ?_
    have hZr : FZ [36] σ (am_set σ 36 (4) (1)) := (FZ.put FZ.rf (by decide))
    have hKNr : KNs k D (am_set σ 36 (4) (1)) := KNs.fr (Fr.put Fr.rf (by decide) : Fr [36] σ _) (by decide) hKN
    have hr4 : (am_set σ 36 (4) (1)).1 36 4 = 1 := am_set_rd
    have hr36 : ∀ j, j ≠ 4 → j ≠ 6 → (am_set σ 36 (4) (1)).1 36 j = σ.1 36 j := fun j h1 h2 => (am_set_at).trans (if_neg h1)
    have hW_σr : Wd (am_set σ 36 (4) (1)) := hW
    obtain ⟨σr, hσr⟩ : ∃ x, x = (am_set σ 36 (4) (1)) := ⟨_, rfl⟩
    rw [← hσr] at hZr hKNr hr4 hr36 hW_σr
    refine tt_st hσr.symm ?_
    have hXr := WX.fz hZr (by decide) hX
    have hexr : ∀ m h, cPr σr k m h = ex m h := fun m h => by rw [hσr, cPr_fr (Fr.put Fr.rf (by decide) : Fr [36] σ _) (by decide)]; exact hexE m h
    refine tt_ar rfl ?_
    refine tt_ar rfl ?_
    refine tt_nop ?_
    have lp2_1 : ∀ (μ : Nat) (m : Nat) (σ1 : am_S), nm - m < μ → Fr [39] σr σ1 → (m ≤ nm) → (∀ q, q < m → ∀ h, h < nkT k → σ1.1 39 (q * 462 + h) = ex q h) → TT am_b102 (am_b102.getD 2 []) [(0, vR 36), (1, vI (((m : Nat) : Int)))] [] σ1 (fun r σ' => r = none ∧ KNs k D σ' ∧ FZ [33, 34, 35, 36, 37, 38, 39, 40, 41, 42, 43] σ σ' ∧ σ'.1 36 4 = 1 ∧ (∀ j, j ≠ 4 → j ≠ 6 → σ'.1 36 j = σ.1 36 j) ∧ WG k nm D ex σ') := by
      intro μ
      induction μ with
      | zero => intro m σ1 hμ; exact absurd hμ (Nat.not_lt_zero _)
      | succ μ ih2 =>
        intro m σ1 hμ hF_σ1 hm hP
        have hW_σ1 := Fr.wd hF_σ1 hW_σr
        refine tt_ar rfl ?_
        refine tt_ar rfl ?_
        refine tt_getR (wo_36 hW_σ1) rfl (wr_36_1 hW_σ1) ?_
        refine tt_getI (x := ((nm : Nat) : Int)) (wo_27 hW_σ1) rfl ((hF_σ1.2 27 (by decide) (0)).trans hXr.2.2.1.1) ?_
        refine tt_icge (fun h2_4 => ?_) (fun h2_4 => ?_)
        · refine tt_ar rfl ?_
          refine tt_ar rfl ?_
          have hXa := WX.fz (FZ.of hF_σ1) (by decide) hXr
          refine tt_cv1 1 rfl (wo_36 hW_σ1) (c104 σ1 k nm hW_σ1 hXa.1 hXa.2.1 hXa.2.2.1 D ex hXa.2.2.2 hex (fun q hq => hP q (by omega))) ?_
          intro r0 σ3 hq0
          obtain ⟨rfl, hF3, hA3⟩ := hq0
          have hW2 := Fr.wd hF3 hW_σ1
          refine tt_putI (wo_36 hW2) rfl ?_
          have hZg : FZ [36, 38, 39, 40] σr (am_set σ3 36 (6) (bsN 1000000 (nkT k) nm D ex)) := (FZ.put (FZ.trF (FZ.trF FZ.rf hF_σ1 (by decide)) hF3 (by decide)) (by decide))
          have hFg : Fr [36, 38, 39, 40] σr (am_set σ3 36 (6) (bsN 1000000 (nkT k) nm D ex)) := (Fr.put (Fr.tr (Fr.tr Fr.rf hF_σ1 (by decide)) hF3 (by decide)) (by decide))
          have hg6 : (am_set σ3 36 (6) (bsN 1000000 (nkT k) nm D ex)).1 36 6 = bsN 1000000 (nkT k) nm D ex := am_set_rd
          have hg36 : ∀ j, j ≠ 6 → (am_set σ3 36 (6) (bsN 1000000 (nkT k) nm D ex)).1 36 j = σr.1 36 j := fun j hj => (am_set_at).trans ((if_neg hj).trans ((hF3.2 36 (by decide) j).trans (hF_σ1.2 36 (by decide) j)))
          have hg39 : ∀ q, q < nm → ∀ h, h < nkT k → (am_set σ3 36 (6) (bsN 1000000 (nkT k) nm D ex)).1 39 (q * 462 + h) = ex q h ∧ (am_set σ3 36 (6) (bsN 1000000 (nkT k) nm D ex)).1 40 (q * 462 + h) = ahN 1000000 (nkT k) D ex q h := fun q hq h hh => ⟨(am_set_nb (by decide)).trans ((hF3.2 39 (by decide) _).trans (hP q (by omega) h hh)), (am_set_nb (by decide)).trans (hA3 q hq h hh)⟩
          have hW_σg : Wd (am_set σ3 36 (6) (bsN 1000000 (nkT k) nm D ex)) := hW2
          obtain ⟨σg, hσg⟩ : ∃ x, x = (am_set σ3 36 (6) (bsN 1000000 (nkT k) nm D ex)) := ⟨_, rfl⟩
          rw [← hσg] at hZg hFg hg6 hg36 hg39 hW_σg
          refine tt_st hσg.symm ?_
          have hXg := WX.fz hZg (by decide) hXr
          have hKNg := KNs.fr hFg (by decide) hKNr
          refine tt_ar rfl ?_
          refine tt_cv1 1 rfl (wo_36 hW_σg) (c106 σg hW_σg) (kb (fun h3_5 => ?_) (fun h3_5 => ?_))
          · rw [hg6] at h3_5
            have hTb : bsN 1000000 (nkT k) nm D ex < 1000000 := h3_5
            refine tt_ifeqF (by decide) ?_
            refine tt_ar rfl ?_
            refine tt_cv1 1 rfl (wo_36 hW_σg) (c107 σg k nm hW_σg hXg.1 hXg.2.1 hXg.2.2.1 D ex hXg.2.2.2 hex (fun q hq h hh => (hg39 q hq h hh).1)) ?_
            intro r0 σ5 hq0
            obtain ⟨rfl, hF5, hA5⟩ := hq0
            have hW3 := Fr.wd hF5 hW_σg
            have hFh : Fr [38, 41] σg σ5 := (Fr.tr Fr.rf hF5 (by decide))
            have hKh : WK k nm D ex σ5 := ⟨(hF5.2 36 (by decide) 6).trans hg6, fun q hq h hh => ⟨(hF5.2 39 (by decide) _).trans (hg39 q hq h hh).1, (hF5.2 40 (by decide) _).trans (hg39 q hq h hh).2⟩, fun _ q hq h hh => hA5 q hq h hh⟩
            have hW_σh : Wd σ5 := hW3
            obtain ⟨σh, hσh⟩ : ∃ x, x = σ5 := ⟨_, rfl⟩
            rw [← hσh] at hFh hKh hW_σh
            refine tt_st hσh.symm ?_
            have hXh := WX.fz (FZ.of hFh) (by decide) hXg
            have hKNh := KNs.fr hFh (by decide) hKNg
            refine tt_ar rfl ?_
            refine tt_ar rfl ?_
            refine tt_nop ?_
            have lp4_4 : ∀ (μ : Nat) (m : Nat) (σ6 : am_S), nm - m < μ → Fr [42, 43] σh σ6 → (m ≤ nm) → (∀ q, q < m → LI (plM 1000000 (nkT k) nm D ex q) (nkT k) (fun i => σ6.1 42 (q * 462 + i)) ∧ σ6.1 43 q = (((ctN (plM 1000000 (nkT k) nm D ex q) (nkT k)) : Nat) : Int)) → TT am_b102 (am_b102.getD 4 []) [(0, vR 36), (1, vI (((m : Nat) : Int)))] [] σ6 (fun r σ' => r = none ∧ KNs k D σ' ∧ FZ [33, 34, 35, 36, 37, 38, 39, 40, 41, 42, 43] σ σ' ∧ σ'.1 36 4 = 1 ∧ (∀ j, j ≠ 4 → j ≠ 6 → σ'.1 36 j = σ.1 36 j) ∧ WG k nm D ex σ') := by
              intro μ
              induction μ with
              | zero => intro m σ6 hμ; exact absurd hμ (Nat.not_lt_zero _)
              | succ μ ih4 =>
                intro m σ6 hμ hF_σ6 hm hL6
                have hW_σ6 := Fr.wd hF_σ6 hW_σh
                refine tt_ar rfl ?_
                refine tt_ar rfl ?_
                refine tt_getR (wo_36 hW_σ6) rfl (wr_36_1 hW_σ6) ?_
                refine tt_getI (x := ((nm : Nat) : Int)) (wo_27 hW_σ6) rfl ((hF_σ6.2 27 (by decide) (0)).trans hXh.2.2.1.1) ?_
                refine tt_icge (fun h4_4 => ?_) (fun h4_4 => ?_)
                · refine tt_ar rfl ?_
                  have hXa := WX.fz (FZ.of hF_σ6) (by decide) hXh
                  have hKa := WK.fr hF_σ6 (by decide) hKh
                  have hKNa := KNs.fr hF_σ6 (by decide) hKNh
                  have hLSa : LQ k nm D ex σ6 := fun q hq => hL6 q (by omega)
                  refine tt_cv1 1 rfl (wo_36 hW_σ6) (c112 σ6 k nm hW_σ6 D ex hXa hex hKa hKNa hTb hLSa) ?_
                  intro r0 σ8 hq0
                  obtain ⟨rfl, hKN8, hF8, hfr8⟩ := hq0
                  have hW5 := FZ.wd hF8 hW_σ6
                  refine tt_nop ?_
                  refine tt_vret ?_
                  exact ⟨rfl, hKN8, FZ.tr (FZ.trF (FZ.trF (FZ.tr (FZ.mono hZr (by decide)) hZg (by decide)) hFh (by decide)) hF_σ6 (by decide)) hF8 (by decide), ((hF8.2 36 ⟨by decide, Or.inl (by decide)⟩ 4).trans ((hF_σ6.2 36 (by decide) 4).trans ((hFh.2 36 (by decide) 4).trans (hg36 4 (by decide))))).trans hr4, fun j h1 h2 => ((hF8.2 36 ⟨by decide, Or.inl (by decide)⟩ j).trans ((hF_σ6.2 36 (by decide) j).trans ((hFh.2 36 (by decide) j).trans (hg36 j h2)))).trans (hr36 j h1 h2), WK.fz hF8 (by decide) hKa, fun _ => ⟨LQ.fz hF8 (by decide) hLSa, hfr8⟩⟩
                · refine tt_ar rfl ?_
                  refine tt_ar rfl ?_
                  have hXa := WX.fz (FZ.of hF_σ6) (by decide) hXh
                  have hKa := WK.fr hF_σ6 (by decide) hKh
                  refine tt_cv2 2 rfl (wo_36 hW_σ6) (c110 σ6 k nm hW_σ6 hXa.1 hXa.2.1 hXa.2.2.1 m (by omega) D ex hXa.2.2.2 hex hKa hTb) ?_
                  intro r0 σ7 hq0
                  obtain ⟨rfl, hF7, hLI, hct, hO42, hO43⟩ := hq0
                  have hW6 := Fr.wd hF7 hW_σ6
                  refine tt_iinc (y := ((m + 1 : Nat) : Int)) rfl (iinc_fit (by omega) (by omega) (by omega)) ?_
                  refine tt_goto ?_
                  refine tt_loc [(0, vR 36), (1, vI (((m + 1 : Nat) : Int)))] rfl rfl ⟨rfl, rfl, trivial⟩ ?_
                  exact ih4 (m + 1) σ7 (by omega) (Fr.tr (Fr.tr Fr.rf hF_σ6 (by decide)) hF7 (by decide)) (by omega) (fun q hq => by by_cases e : q = m; (subst e; exact ⟨hLI, hct⟩); (have z := hL6 q (by omega); exact ⟨fun h hh hp => (hO42 _ (Or.inl (by have := ctN_le (p := (plM 1000000 (nkT k) nm D ex q)) h; omega))).trans (z.1 h hh hp), (hO43 q e).trans z.2⟩))
            refine tt_loc [(0, vR 36), (1, vI (((0 : Nat) : Int)))] rfl rfl ⟨rfl, lv_to rfl (by omega), trivial⟩ ?_
            exact lp4_4 _ (0) σh (Nat.lt_succ_self _) Fr.rf (by omega) (fun q hq => absurd hq (Nat.not_lt_zero q))
          · rw [hg6] at h3_5
            refine tt_ifeqT (by decide) ?_
            refine tt_vret ?_
            exact ⟨rfl, hKNg, FZ.tr (FZ.mono hZr (by decide)) hZg (by decide), (hg36 4 (by decide)).trans hr4, fun j h1 h2 => (hg36 j h2).trans (hr36 j h1 h2), ⟨hg6, hg39, fun e => absurd e h3_5⟩, fun e => absurd e h3_5⟩
        · refine tt_ar rfl ?_
          refine tt_ar rfl ?_
          have hXa := WX.fz (FZ.of hF_σ1) (by decide) hXr
          refine tt_cv2 2 rfl (wo_36 hW_σ1) (c103 σ1 k nm hW_σ1 hXa.1 hXa.2.1 hXa.2.2.1 m (by omega)) ?_
          intro r0 σ2 hq0
          obtain ⟨rfl, hF2, hP2, hO2⟩ := hq0
          have hW7 := Fr.wd hF2 hW_σ1
          refine tt_iinc (y := ((m + 1 : Nat) : Int)) rfl (iinc_fit (by omega) (by omega) (by omega)) ?_
          refine tt_goto ?_
          refine tt_loc [(0, vR 36), (1, vI (((m + 1 : Nat) : Int)))] rfl rfl ⟨rfl, rfl, trivial⟩ ?_
          exact ih2 (m + 1) σ2 (by omega) (Fr.tr (Fr.tr Fr.rf hF_σ1 (by decide)) hF2 (by decide)) (by omega) (fun q hq h hh => by by_cases e : q = m; (subst e; exact (hP2 h hh).trans ((cPr_fr hF_σ1 (by decide)).trans (hexr q h))); exact (hO2 _ (Or.inl (by omega))).trans (hP q (by omega) h hh))
    refine tt_loc [(0, vR 36), (1, vI (((0 : Nat) : Int)))] rfl rfl ⟨rfl, lv_to rfl (by omega), trivial⟩ ?_
    exact lp2_1 _ (0) σr (Nat.lt_succ_self _) Fr.rf (by omega) (fun q hq => absurd hq (Nat.not_lt_zero q))
  · refine tt_vret ?_
    exact ⟨rfl, hKN, FZ.rf, (by rcases hC with e | e; exact absurd e h0_2; exact e.1), fun _ _ _ => rfl, (by rcases hC with e | e; exact absurd e h0_2; exact e.2)⟩

