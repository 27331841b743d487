/-! THE REFERENCE: TALES SET -/
theorem RRb.o39 {k nm ns : Nat} {D : Nat → Nat → Int} {A σ σ' : am_S} (h : RRb k nm ns D A σ) (hF : Fr [76] σ σ') (hK : ∀ j, j ≠ 39 → σ'.1 76 j = σ.1 76 j) : RRb k nm ns D A σ' :=
  h.kp (fun a ha => hF.2 a (by simp only [List.mem_cons, List.not_mem_nil, or_false]; unfold rrC at ha; omega)) (fun j hj => hK j (by unfold rrJ at hj; omega))
theorem c236 (σ : am_S) (i : Nat) (a b : Int) (hW : Wd σ) (hi : i < 5544) (ha : σ.1 99 i = a) (hb : σ.1 100 i = b) (ha0 : 0 ≤ a ∧ a ≤ 100000) (hb0 : 0 ≤ b ∧ b ≤ 100000) : CC 236 [vR 76, vI (((i : Nat) : Int))] σ (fun r σ' => r = some (vI (miN 100000 (a + b))) ∧ σ' = σ) := by
  show TT am_b236 (am_b236.getD 0 []) [(0, vR 76), (1, vI (((i : Nat) : Int)))] [] σ _
  refine tt_ar rfl ?_
  refine tt_getR (wo_76 hW) rfl (wr_76_37 hW) ?_
  refine tt_ar rfl ?_
  refine tt_iald (i) (x := a) (wa_99 hW) rfl (by omega) ha ?_
  refine tt_ar rfl ?_
  refine tt_getR (wo_76 hW) rfl (wr_76_38 hW) ?_
  refine tt_ar rfl ?_
  refine tt_iald (i) (x := b) (wa_100 hW) rfl (by omega) hb ?_
  refine tt_iadd (by omega) (by omega) ?_
  refine tt_ar rfl ?_
  refine tt_ar rfl ?_
  refine tt_ar rfl ?_
  refine tt_icge (fun h0_12 => ?_) (fun h0_12 => ?_)
  · refine tt_ar rfl ?_
    refine tt_nop ?_
    refine tt_iret ?_
    exact ⟨rv (by unfold miN; rw [if_neg (by omega)]), rfl⟩
  · refine tt_ar rfl ?_
    refine tt_goto ?_
    refine tt_iret ?_
    exact ⟨rv (by unfold miN; rw [if_pos (by omega)]), rfl⟩

theorem c235 (A σ : am_S) (k nm ns : Nat) (D : Nat → Nat → Int) (hA : CI k nm ns D A) (hW : Wd σ) (hR : RRb k nm ns D A σ) (ex : Nat → Nat → Int) (hex : exA k A = ex) : CC 235 [vR 76] σ (fun r σ' => r = none ∧ RRb k nm ns D A σ' ∧ σ'.1 76 31 = 1 ∧ Fr [76, 94, 95, 96, 97, 98, 99, 100] σ σ' ∧ TLs k nm D ex σ') := by
  show TT am_b235 (am_b235.getD 0 []) [(0, vR 76)] [] σ _
  have hk5 := hR.aa.1
  have hl27 := hR.aa.2.1
  have hs47 := hR.aa.2.2
  have hk6 := hA.x.1.2.1
  have hm12 := hA.x.2.2.1.2.1
  have hs16 := hA.st.2
  have hDA := hA.x.1
  have hHT := hA.x.2.1
  have hLA := hA.x.2.2.1
  have hHB := HB_of hDA hHT
  have hnb := nkT_bd k
  have hpr := hDA.2.2.2.1
  have hDx : ∀ a b, a < nkT k → b < nkT k → 0 ≤ D a b ∧ D a b ≤ 90 := fun a b ha hb => DI.bd hk6 hpr hA.x.2.2.2 ha hb
  have hD0 : ∀ a b, a < nkT k → b < nkT k → 0 ≤ D a b := fun a b ha hb => (hDx a b ha hb).1
  have hx9 : ∀ m h, ex m h ≤ 9 ∨ ex m h = 1000000 := fun m h => by rw [← hex]; exact (ep_mi hDA).2.1
  have hx0 : ∀ m h, 0 ≤ ex m h := fun m h => by rw [← hex]; exact (ep_mi hDA).2.2
  have hep : ∀ m h, epR A k m h = miN 100000 (ex m h) := fun m h => by rw [← hex]; exact (ep_mi hDA).1
  refine tt_ar rfl ?_
  refine tt_cv1 1 rfl (wo_76 hW) (c229 A σ k nm ns D hA hW hR) ?_
  intro r0 σ2 hq0
  obtain ⟨rfl, hRs, h31s, hF2, hKs⟩ := hq0
  have hW1 := Fr.wd hF2 hW
  refine tt_ar rfl ?_
  refine tt_ar rfl ?_
  refine tt_nop ?_
  have lp1_2 : ∀ (μ : Nat) (m : Nat) (σ1 : am_S), nm - m < μ → Fr [76, 98, 99] σ2 σ1 → (m ≤ nm) → (RRb k nm ns D A σ1) → (σ1.1 76 31 = 1) → (∀ q, q < m → ∀ h, h < nkT k → σ1.1 98 (462 * q + h) = miN 100000 (ex q h) ∧ σ1.1 99 (462 * q + h) = miN 100000 (ahN 1000000 (nkT k) D ex q h)) → TT am_b235 (am_b235.getD 1 []) [(0, vR 76), (1, vI (((m : Nat) : Int)))] [] σ1 (fun r σ' => r = none ∧ RRb k nm ns D A σ' ∧ σ'.1 76 31 = 1 ∧ Fr [76, 94, 95, 96, 97, 98, 99, 100] σ σ' ∧ TLs k nm D ex σ') := by
    intro μ
    induction μ with
    | zero => intro m σ1 hμ; exact absurd hμ (Nat.not_lt_zero _)
    | succ μ ih1 =>
      intro m σ1 hμ hF_σ1 hm hR1 hs1 hT1
      have hW_σ1 := Fr.wd hF_σ1 hW1
      refine tt_ar rfl ?_
      refine tt_ar rfl ?_
      refine tt_getI (x := ((nm : Nat) : Int)) (wo_76 hW_σ1) rfl hR1.ln.1 ?_
      refine tt_icge (fun h1_3 => ?_) (fun h1_3 => ?_)
      · have em : m = nm := by omega
        rw [em] at hT1
        refine tt_ar rfl ?_
        refine tt_getI (x := ((nm : Nat) : Int)) (wo_76 hW_σ1) rfl hR1.ln.1 ?_
        refine tt_ar rfl ?_
        refine tt_isub (by omega) (by omega) ?_
        refine tt_ar rfl ?_
        refine tt_nop ?_
        have lp10_3 : ∀ (μ : Nat) (c : Nat) (σ5 : am_S), c < μ → Fr [100] σ1 σ5 → (c ≤ nm) → (∀ q, c ≤ q → q < nm → ∀ h, h < nkT k → σ5.1 100 (462 * q + h) = miN 100000 (bkN 1000000 (nkT k) nm D ex (nm - 1 - q) h)) → TT am_b235 (am_b235.getD 10 []) [(0, vR 76), (1, vI ((((c : Nat) : Int) - 1)))] [] σ5 (fun r σ' => r = none ∧ RRb k nm ns D A σ' ∧ σ'.1 76 31 = 1 ∧ Fr [76, 94, 95, 96, 97, 98, 99, 100] σ σ' ∧ TLs k nm D ex σ') := by
          intro μ
          induction μ with
          | zero => intro c σ5 hμ; exact absurd hμ (Nat.not_lt_zero _)
          | succ μ ih10 =>
            intro c σ5 hμ hF_σ5 hc hT5
            have hW_σ5 := Fr.wd hF_σ5 hW_σ1
            refine tt_ar rfl ?_
            refine tt_iflt (fun h10_1 => ?_) (fun h10_1 => ?_)
            · have ec : c = 0 := by omega
              subst ec
              refine tt_ar rfl ?_
              refine tt_ar rfl ?_
              refine tt_getI (x := ((nm : Nat) : Int)) (wo_76 hW_σ5) rfl ((hF_σ5.2 76 (by decide) (25)).trans hR1.ln.1) ?_
              refine tt_ifne (fun h21_3 => ?_) (fun h21_3 => ?_)
              · refine tt_ar rfl ?_
                refine tt_nop ?_
                refine tt_putI (wo_76 hW_σ5) rfl ?_
                refine tt_ar rfl ?_
                refine tt_ar rfl ?_
                refine tt_nop ?_
                have lp24_4 : ∀ (μ : Nat) (h : Nat) (σ7 : am_S), nkT k - h < μ → Fr [76] (am_set σ5 76 (39) (100000)) σ7 → (h ≤ nkT k) → (∀ j, j ≠ 39 → σ7.1 76 j = σ5.1 76 j) → (σ7.1 76 39 = if nm = 0 then 0 else mnN 100000 h (fun h => miN 100000 (ctM 1000000 (nkT k) nm D ex 0 h))) → TT am_b235 (am_b235.getD 24 []) [(0, vR 76), (1, vI (((h : Nat) : Int)))] [] σ7 (fun r σ' => r = none ∧ RRb k nm ns D A σ' ∧ σ'.1 76 31 = 1 ∧ Fr [76, 94, 95, 96, 97, 98, 99, 100] σ σ' ∧ TLs k nm D ex σ') := by
                  intro μ
                  induction μ with
                  | zero => intro h σ7 hμ; exact absurd hμ (Nat.not_lt_zero _)
                  | succ μ ih24 =>
                    intro h σ7 hμ hF_σ7 hh7 hK7 h39
                    have hW_σ7 := Fr.wd hF_σ7 hW_σ5
                    refine tt_ar rfl ?_
                    refine tt_ar rfl ?_
                    refine tt_getI (x := ((nkT k : Nat) : Int)) (wo_76 hW_σ7) rfl (((hK7 27 (by decide)).trans (hF_σ5.2 76 (by decide) (27))).trans hR1.hs.1) ?_
                    refine tt_icge (fun h24_3 => ?_) (fun h24_3 => ?_)
                    · refine tt_vret ?_
                      have hR7 := (hR1.fr (W := [100]) hF_σ5 (by decide)).o39 (show Fr [76] σ5 σ7 from Fr.tr (Fr.put Fr.rf (by decide)) hF_σ7 (by decide)) hK7
                      have h39z : σ7.1 76 39 = miN 100000 (bsN 1000000 (nkT k) nm D ex) := by
                        rw [h39]
                        by_cases en : nm = 0
                        · rw [if_pos en]
                          unfold bsN
                          rw [if_pos en]
                          rfl
                        · rw [if_neg en, show h = nkT k by omega]
                          exact lst_end (by omega) hD0 (fun m h _ => hx0 m h) (by omega)
                      refine ⟨rfl, hR7, (hK7 31 (by decide)).trans ((hF_σ5.2 76 (by decide) 31).trans hs1), (Fr.tr (Fr.put (Fr.tr (Fr.tr (Fr.tr Fr.rf hF2 (by decide)) hF_σ1 (by decide)) hF_σ5 (by decide)) (by decide)) hF_σ7 (by decide)), fun q hq h hh => ?_, h39z⟩
                      rw [hF_σ7.2 98 (by decide), am_set_nb (show (98 : Nat) ≠ 76 by decide), hF_σ7.2 99 (by decide), am_set_nb (show (99 : Nat) ≠ 76 by decide), hF_σ7.2 100 (by decide), am_set_nb (show (100 : Nat) ≠ 76 by decide), hF_σ5.2 98 (by decide), hF_σ5.2 99 (by decide)]
                      exact ⟨(hT1 q (by omega) h hh).1, (hT1 q (by omega) h hh).2, hT5 q (by omega) hq h hh⟩
                    · refine tt_ar rfl ?_
                      refine tt_getI (x := ((nm : Nat) : Int)) (wo_76 hW_σ7) rfl (((hK7 25 (by decide)).trans (hF_σ5.2 76 (by decide) (25))).trans hR1.ln.1) ?_
                      refine tt_ifle (fun h24_6 => ?_) (fun h24_6 => ?_)
                      · refine tt_vret ?_
                        have hR7 := (hR1.fr (W := [100]) hF_σ5 (by decide)).o39 (show Fr [76] σ5 σ7 from Fr.tr (Fr.put Fr.rf (by decide)) hF_σ7 (by decide)) hK7
                        have h39z : σ7.1 76 39 = miN 100000 (bsN 1000000 (nkT k) nm D ex) := by
                          rw [h39]
                          by_cases en : nm = 0
                          · rw [if_pos en]
                            unfold bsN
                            rw [if_pos en]
                            rfl
                          · rw [if_neg en, show h = nkT k by omega]
                            exact lst_end (by omega) hD0 (fun m h _ => hx0 m h) (by omega)
                        refine ⟨rfl, hR7, (hK7 31 (by decide)).trans ((hF_σ5.2 76 (by decide) 31).trans hs1), (Fr.tr (Fr.put (Fr.tr (Fr.tr (Fr.tr Fr.rf hF2 (by decide)) hF_σ1 (by decide)) hF_σ5 (by decide)) (by decide)) hF_σ7 (by decide)), fun q hq h hh => ?_, h39z⟩
                        rw [hF_σ7.2 98 (by decide), am_set_nb (show (98 : Nat) ≠ 76 by decide), hF_σ7.2 99 (by decide), am_set_nb (show (99 : Nat) ≠ 76 by decide), hF_σ7.2 100 (by decide), am_set_nb (show (100 : Nat) ≠ 76 by decide), hF_σ5.2 98 (by decide), hF_σ5.2 99 (by decide)]
                        exact ⟨(hT1 q (by omega) h hh).1, (hT1 q (by omega) h hh).2, hT5 q (by omega) hq h hh⟩
                      · refine tt_ar rfl ?_
                        refine tt_ar rfl ?_
                        have hn0 : 0 < nm := by omega
                        have ha9 := ahN_bd (F := 1000000) (N := nkT k) (D := D) (ex := ex) (by omega) (by omega) hD0 (fun m h _ => hx0 m h) 0 (show h < nkT k by omega)
                        have hbk := (bkN_bd (F := 1000000) (N := nkT k) (n := nm) (D := D) (ex := ex) (by omega) hD0 (fun m h _ => hx0 m h) (nm - 1 - 0) (show h < nkT k by omega)).1
                        have hm1 := mi_c (ahN 1000000 (nkT k) D ex 0 h)
                        have hm2 := mi_c (bkN 1000000 (nkT k) nm D ex (nm - 1 - 0) h)
                        have hc236 := c236 σ7 h (miN 100000 (ahN 1000000 (nkT k) D ex 0 h)) (miN 100000 (bkN 1000000 (nkT k) nm D ex (nm - 1 - 0) h)) hW_σ7 (by omega) ((hF_σ7.2 99 (by decide) h).trans ((hF_σ5.2 99 (by decide) h).trans (by have z := (hT1 0 (by omega) h (by omega)).2; rw [show 462 * 0 + h = h by omega] at z; exact z))) ((hF_σ7.2 100 (by decide) h).trans (by have z := hT5 0 (by omega) (by omega) h (by omega); rw [show 462 * 0 + h = h by omega] at z; exact z)) (by omega) (by omega)
                        rw [mi_add ha9.1 hbk] at hc236
                        have hc236 : CC 236 [vR 76, vI ((h : Nat) : Int)] σ7 (fun r σ' => r = some (vI (miN 100000 (ctM 1000000 (nkT k) nm D ex 0 h))) ∧ σ' = σ7) := hc236
                        have hcm := mi_c (ctM 1000000 (nkT k) nm D ex 0 h)
                        refine tt_cv2 2 rfl (wo_76 hW_σ7) hc236 (kp ?_)
                        refine tt_ar rfl ?_
                        refine tt_ar rfl ?_
                        refine tt_ar rfl ?_
                        refine tt_ar rfl ?_
                        refine tt_getI (x := σ7.1 76 (39)) (wo_76 hW_σ7) rfl rfl ?_
                        refine tt_icge (fun h24_15 => ?_) (fun h24_15 => ?_)
                        · refine tt_ar rfl ?_
                          refine tt_getI (x := σ7.1 76 (39)) (wo_76 hW_σ7) rfl rfl ?_
                          refine tt_nop ?_
                          refine tt_putI (wo_76 hW_σ7) rfl ?_
                          refine tt_iinc (y := ((h + 1 : Nat) : Int)) rfl (iinc_fit (by omega) (by omega) (by omega)) ?_
                          refine tt_goto ?_
                          refine tt_loc [(0, vR 76), (1, vI (((h + 1 : Nat) : Int)))] rfl rfl ⟨rfl, rfl, trivial⟩ ?_
                          exact ih24 (h + 1) _ (by omega) (Fr.put (Fr.tr Fr.rf hF_σ7 (by decide)) (by decide)) (by omega) (fun j hj => (am_set_at).trans ((if_neg hj).trans (hK7 j hj))) (by rw [if_neg (by omega)] at h39 ⊢; show _ = (if miN 100000 (ctM 1000000 (nkT k) nm D ex 0 h) < mnN 100000 h (fun h => miN 100000 (ctM 1000000 (nkT k) nm D ex 0 h)) then miN 100000 (ctM 1000000 (nkT k) nm D ex 0 h) else mnN 100000 h (fun h => miN 100000 (ctM 1000000 (nkT k) nm D ex 0 h))); rw [← h39, am_set_rd]; first | exact (if_pos (by omega)).symm | exact (if_neg (by omega)).symm)
                        · refine tt_ar rfl ?_
                          refine tt_goto ?_
                          refine tt_putI (wo_76 hW_σ7) rfl ?_
                          refine tt_iinc (y := ((h + 1 : Nat) : Int)) rfl (iinc_fit (by omega) (by omega) (by omega)) ?_
                          refine tt_goto ?_
                          refine tt_loc [(0, vR 76), (1, vI (((h + 1 : Nat) : Int)))] rfl rfl ⟨rfl, rfl, trivial⟩ ?_
                          exact ih24 (h + 1) _ (by omega) (Fr.put (Fr.tr Fr.rf hF_σ7 (by decide)) (by decide)) (by omega) (fun j hj => (am_set_at).trans ((if_neg hj).trans (hK7 j hj))) (by rw [if_neg (by omega)] at h39 ⊢; show _ = (if miN 100000 (ctM 1000000 (nkT k) nm D ex 0 h) < mnN 100000 h (fun h => miN 100000 (ctM 1000000 (nkT k) nm D ex 0 h)) then miN 100000 (ctM 1000000 (nkT k) nm D ex 0 h) else mnN 100000 h (fun h => miN 100000 (ctM 1000000 (nkT k) nm D ex 0 h))); rw [← h39, am_set_rd]; first | exact (if_pos (by omega)).symm | exact (if_neg (by omega)).symm)
                refine tt_loc [(0, vR 76), (1, vI (((0 : Nat) : Int)))] rfl rfl ⟨rfl, lv_to rfl (by omega), trivial⟩ ?_
                exact lp24_4 _ (0) _ (Nat.lt_succ_self _) Fr.rf (by omega) (fun j hj => (am_set_at).trans (if_neg hj)) (am_set_rd.trans (by first | (rw [if_pos (by omega)]) | (rw [if_neg (by omega)]; rfl)))
              · refine tt_ar rfl ?_
                refine tt_goto ?_
                refine tt_putI (wo_76 hW_σ5) rfl ?_
                refine tt_ar rfl ?_
                refine tt_ar rfl ?_
                refine tt_nop ?_
                have lp24_5 : ∀ (μ : Nat) (h : Nat) (σ7 : am_S), nkT k - h < μ → Fr [76] (am_set σ5 76 (39) (0)) σ7 → (h ≤ nkT k) → (∀ j, j ≠ 39 → σ7.1 76 j = σ5.1 76 j) → (σ7.1 76 39 = if nm = 0 then 0 else mnN 100000 h (fun h => miN 100000 (ctM 1000000 (nkT k) nm D ex 0 h))) → TT am_b235 (am_b235.getD 24 []) [(0, vR 76), (1, vI (((h : Nat) : Int)))] [] σ7 (fun r σ' => r = none ∧ RRb k nm ns D A σ' ∧ σ'.1 76 31 = 1 ∧ Fr [76, 94, 95, 96, 97, 98, 99, 100] σ σ' ∧ TLs k nm D ex σ') := by
                  intro μ
                  induction μ with
                  | zero => intro h σ7 hμ; exact absurd hμ (Nat.not_lt_zero _)
                  | succ μ ih24 =>
                    intro h σ7 hμ hF_σ7 hh7 hK7 h39
                    have hW_σ7 := Fr.wd hF_σ7 hW_σ5
                    refine tt_ar rfl ?_
                    refine tt_ar rfl ?_
                    refine tt_getI (x := ((nkT k : Nat) : Int)) (wo_76 hW_σ7) rfl (((hK7 27 (by decide)).trans (hF_σ5.2 76 (by decide) (27))).trans hR1.hs.1) ?_
                    refine tt_icge (fun h24_3 => ?_) (fun h24_3 => ?_)
                    · refine tt_vret ?_
                      have hR7 := (hR1.fr (W := [100]) hF_σ5 (by decide)).o39 (show Fr [76] σ5 σ7 from Fr.tr (Fr.put Fr.rf (by decide)) hF_σ7 (by decide)) hK7
                      have h39z : σ7.1 76 39 = miN 100000 (bsN 1000000 (nkT k) nm D ex) := by
                        rw [h39]
                        by_cases en : nm = 0
                        · rw [if_pos en]
                          unfold bsN
                          rw [if_pos en]
                          rfl
                        · rw [if_neg en, show h = nkT k by omega]
                          exact lst_end (by omega) hD0 (fun m h _ => hx0 m h) (by omega)
                      refine ⟨rfl, hR7, (hK7 31 (by decide)).trans ((hF_σ5.2 76 (by decide) 31).trans hs1), (Fr.tr (Fr.put (Fr.tr (Fr.tr (Fr.tr Fr.rf hF2 (by decide)) hF_σ1 (by decide)) hF_σ5 (by decide)) (by decide)) hF_σ7 (by decide)), fun q hq h hh => ?_, h39z⟩
                      rw [hF_σ7.2 98 (by decide), am_set_nb (show (98 : Nat) ≠ 76 by decide), hF_σ7.2 99 (by decide), am_set_nb (show (99 : Nat) ≠ 76 by decide), hF_σ7.2 100 (by decide), am_set_nb (show (100 : Nat) ≠ 76 by decide), hF_σ5.2 98 (by decide), hF_σ5.2 99 (by decide)]
                      exact ⟨(hT1 q (by omega) h hh).1, (hT1 q (by omega) h hh).2, hT5 q (by omega) hq h hh⟩
                    · refine tt_ar rfl ?_
                      refine tt_getI (x := ((nm : Nat) : Int)) (wo_76 hW_σ7) rfl (((hK7 25 (by decide)).trans (hF_σ5.2 76 (by decide) (25))).trans hR1.ln.1) ?_
                      refine tt_ifle (fun h24_6 => ?_) (fun h24_6 => ?_)
                      · refine tt_vret ?_
                        have hR7 := (hR1.fr (W := [100]) hF_σ5 (by decide)).o39 (show Fr [76] σ5 σ7 from Fr.tr (Fr.put Fr.rf (by decide)) hF_σ7 (by decide)) hK7
                        have h39z : σ7.1 76 39 = miN 100000 (bsN 1000000 (nkT k) nm D ex) := by
                          rw [h39]
                          by_cases en : nm = 0
                          · rw [if_pos en]
                            unfold bsN
                            rw [if_pos en]
                            rfl
                          · rw [if_neg en, show h = nkT k by omega]
                            exact lst_end (by omega) hD0 (fun m h _ => hx0 m h) (by omega)
                        refine ⟨rfl, hR7, (hK7 31 (by decide)).trans ((hF_σ5.2 76 (by decide) 31).trans hs1), (Fr.tr (Fr.put (Fr.tr (Fr.tr (Fr.tr Fr.rf hF2 (by decide)) hF_σ1 (by decide)) hF_σ5 (by decide)) (by decide)) hF_σ7 (by decide)), fun q hq h hh => ?_, h39z⟩
                        rw [hF_σ7.2 98 (by decide), am_set_nb (show (98 : Nat) ≠ 76 by decide), hF_σ7.2 99 (by decide), am_set_nb (show (99 : Nat) ≠ 76 by decide), hF_σ7.2 100 (by decide), am_set_nb (show (100 : Nat) ≠ 76 by decide), hF_σ5.2 98 (by decide), hF_σ5.2 99 (by decide)]
                        exact ⟨(hT1 q (by omega) h hh).1, (hT1 q (by omega) h hh).2, hT5 q (by omega) hq h hh⟩
                      · refine tt_ar rfl ?_
                        refine tt_ar rfl ?_
                        have hn0 : 0 < nm := by omega
                        have ha9 := ahN_bd (F := 1000000) (N := nkT k) (D := D) (ex := ex) (by omega) (by omega) hD0 (fun m h _ => hx0 m h) 0 (show h < nkT k by omega)
                        have hbk := (bkN_bd (F := 1000000) (N := nkT k) (n := nm) (D := D) (ex := ex) (by omega) hD0 (fun m h _ => hx0 m h) (nm - 1 - 0) (show h < nkT k by omega)).1
                        have hm1 := mi_c (ahN 1000000 (nkT k) D ex 0 h)
                        have hm2 := mi_c (bkN 1000000 (nkT k) nm D ex (nm - 1 - 0) h)
                        have hc236 := c236 σ7 h (miN 100000 (ahN 1000000 (nkT k) D ex 0 h)) (miN 100000 (bkN 1000000 (nkT k) nm D ex (nm - 1 - 0) h)) hW_σ7 (by omega) ((hF_σ7.2 99 (by decide) h).trans ((hF_σ5.2 99 (by decide) h).trans (by have z := (hT1 0 (by omega) h (by omega)).2; rw [show 462 * 0 + h = h by omega] at z; exact z))) ((hF_σ7.2 100 (by decide) h).trans (by have z := hT5 0 (by omega) (by omega) h (by omega); rw [show 462 * 0 + h = h by omega] at z; exact z)) (by omega) (by omega)
                        rw [mi_add ha9.1 hbk] at hc236
                        have hc236 : CC 236 [vR 76, vI ((h : Nat) : Int)] σ7 (fun r σ' => r = some (vI (miN 100000 (ctM 1000000 (nkT k) nm D ex 0 h))) ∧ σ' = σ7) := hc236
                        have hcm := mi_c (ctM 1000000 (nkT k) nm D ex 0 h)
                        refine tt_cv2 2 rfl (wo_76 hW_σ7) hc236 (kp ?_)
                        refine tt_ar rfl ?_
                        refine tt_ar rfl ?_
                        refine tt_ar rfl ?_
                        refine tt_ar rfl ?_
                        refine tt_getI (x := σ7.1 76 (39)) (wo_76 hW_σ7) rfl rfl ?_
                        refine tt_icge (fun h24_15 => ?_) (fun h24_15 => ?_)
                        · refine tt_ar rfl ?_
                          refine tt_getI (x := σ7.1 76 (39)) (wo_76 hW_σ7) rfl rfl ?_
                          refine tt_nop ?_
                          refine tt_putI (wo_76 hW_σ7) rfl ?_
                          refine tt_iinc (y := ((h + 1 : Nat) : Int)) rfl (iinc_fit (by omega) (by omega) (by omega)) ?_
                          refine tt_goto ?_
                          refine tt_loc [(0, vR 76), (1, vI (((h + 1 : Nat) : Int)))] rfl rfl ⟨rfl, rfl, trivial⟩ ?_
                          exact ih24 (h + 1) _ (by omega) (Fr.put (Fr.tr Fr.rf hF_σ7 (by decide)) (by decide)) (by omega) (fun j hj => (am_set_at).trans ((if_neg hj).trans (hK7 j hj))) (by rw [if_neg (by omega)] at h39 ⊢; show _ = (if miN 100000 (ctM 1000000 (nkT k) nm D ex 0 h) < mnN 100000 h (fun h => miN 100000 (ctM 1000000 (nkT k) nm D ex 0 h)) then miN 100000 (ctM 1000000 (nkT k) nm D ex 0 h) else mnN 100000 h (fun h => miN 100000 (ctM 1000000 (nkT k) nm D ex 0 h))); rw [← h39, am_set_rd]; first | exact (if_pos (by omega)).symm | exact (if_neg (by omega)).symm)
                        · refine tt_ar rfl ?_
                          refine tt_goto ?_
                          refine tt_putI (wo_76 hW_σ7) rfl ?_
                          refine tt_iinc (y := ((h + 1 : Nat) : Int)) rfl (iinc_fit (by omega) (by omega) (by omega)) ?_
                          refine tt_goto ?_
                          refine tt_loc [(0, vR 76), (1, vI (((h + 1 : Nat) : Int)))] rfl rfl ⟨rfl, rfl, trivial⟩ ?_
                          exact ih24 (h + 1) _ (by omega) (Fr.put (Fr.tr Fr.rf hF_σ7 (by decide)) (by decide)) (by omega) (fun j hj => (am_set_at).trans ((if_neg hj).trans (hK7 j hj))) (by rw [if_neg (by omega)] at h39 ⊢; show _ = (if miN 100000 (ctM 1000000 (nkT k) nm D ex 0 h) < mnN 100000 h (fun h => miN 100000 (ctM 1000000 (nkT k) nm D ex 0 h)) then miN 100000 (ctM 1000000 (nkT k) nm D ex 0 h) else mnN 100000 h (fun h => miN 100000 (ctM 1000000 (nkT k) nm D ex 0 h))); rw [← h39, am_set_rd]; first | exact (if_pos (by omega)).symm | exact (if_neg (by omega)).symm)
                refine tt_loc [(0, vR 76), (1, vI (((0 : Nat) : Int)))] rfl rfl ⟨rfl, lv_to rfl (by omega), trivial⟩ ?_
                exact lp24_5 _ (0) _ (Nat.lt_succ_self _) Fr.rf (by omega) (fun j hj => (am_set_at).trans (if_neg hj)) (am_set_rd.trans (by first | (rw [if_pos (by omega)]) | (rw [if_neg (by omega)]; rfl)))
            · refine tt_loc [(0, vR 76), (1, vI (((c - 1 : Nat) : Int)))] rfl rfl ⟨rfl, lv_to rfl (by omega), trivial⟩ ?_
              refine tt_ar rfl ?_
              refine tt_ar rfl ?_
              refine tt_nop ?_
              have lp11_6 : ∀ (μ : Nat) (h : Nat) (σ6 : am_S), nkT k - h < μ → Fr [100] σ5 σ6 → (h ≤ nkT k) → (∀ g, g < h → σ6.1 100 (462 * (c - 1) + g) = miN 100000 (bkN 1000000 (nkT k) nm D ex (nm - 1 - (c - 1)) g)) → (∀ y, 462 * c ≤ y → σ6.1 100 y = σ5.1 100 y) → TT am_b235 (am_b235.getD 11 []) [(0, vR 76), (1, vI (((c - 1 : Nat) : Int))), (2, vI (((h : Nat) : Int)))] [] σ6 (fun r σ' => r = none ∧ RRb k nm ns D A σ' ∧ σ'.1 76 31 = 1 ∧ Fr [76, 94, 95, 96, 97, 98, 99, 100] σ σ' ∧ TLs k nm D ex σ') := by
                intro μ
                induction μ with
                | zero => intro h σ6 hμ; exact absurd hμ (Nat.not_lt_zero _)
                | succ μ ih11 =>
                  intro h σ6 hμ hF_σ6 hh6 hT6 hO6
                  have hW_σ6 := Fr.wd hF_σ6 hW_σ5
                  have hR6 := hR1.fr (W := [100]) (Fr.tr hF_σ5 hF_σ6 (by decide)) (by decide)
                  refine tt_ar rfl ?_
                  refine tt_ar rfl ?_
                  refine tt_getI (x := ((nkT k : Nat) : Int)) (wo_76 hW_σ6) rfl (((hF_σ6.2 76 (by decide) (27)).trans (hF_σ5.2 76 (by decide) (27))).trans hR1.hs.1) ?_
                  refine tt_icge (fun h11_3 => ?_) (fun h11_3 => ?_)
                  · refine tt_iinc (y := (((c - 1 : Nat) : Int) - 1)) rfl (iinc_fit (by omega) (by omega) (by omega)) ?_
                    refine tt_goto ?_
                    refine tt_loc [(0, vR 76), (1, vI ((((c - 1 : Nat) : Int) - 1)))] rfl rfl ⟨rfl, rfl, trivial⟩ ?_
                    exact ih10 (c - 1) σ6 (by omega) (Fr.tr (Fr.tr Fr.rf hF_σ5 (by decide)) hF_σ6 (by decide)) (by omega) (fun q h1 h2 h hh => by by_cases e : q = c - 1; (rw [e]; exact hT6 h (by omega)); (rw [hO6 _ (by omega)]; exact hT5 q (by omega) h2 h hh))
                  · refine tt_ar rfl ?_
                    refine tt_ar rfl ?_
                    refine tt_getI (x := ((nm : Nat) : Int)) (wo_76 hW_σ6) rfl (((hF_σ6.2 76 (by decide) (25)).trans (hF_σ5.2 76 (by decide) (25))).trans hR1.ln.1) ?_
                    refine tt_ar rfl ?_
                    refine tt_isub (by omega) (by omega) ?_
                    refine tt_icne (fun h11_9 => ?_) (fun h11_9 => ?_)
                    · refine tt_ar rfl ?_
                      refine tt_nop ?_
                      refine tt_ar rfl ?_
                      refine tt_ar rfl ?_
                      refine tt_ar rfl ?_
                      refine tt_nop ?_
                      have lp14_7 : ∀ (μ : Nat) (g : Nat) (l : Int), nkT k - g < μ → (g ≤ nkT k) → (l = rsR D (fun g => miN 100000 (bkN 1000000 (nkT k) nm D ex (nm - 1 - c) g)) (fun g => miN 100000 (ex c g)) (c = nm) h g) → TT am_b235 (am_b235.getD 14 []) [(0, vR 76), (1, vI (((c - 1 : Nat) : Int))), (2, vI (((h : Nat) : Int))), (3, vI (l)), (4, vI (((g : Nat) : Int)))] [] σ6 (fun r σ' => r = none ∧ RRb k nm ns D A σ' ∧ σ'.1 76 31 = 1 ∧ Fr [76, 94, 95, 96, 97, 98, 99, 100] σ σ' ∧ TLs k nm D ex σ') := by
                        intro μ
                        induction μ with
                        | zero => intro g l hμ; exact absurd hμ (Nat.not_lt_zero _)
                        | succ μ ih14 =>
                          intro g l hμ hg hl
                          refine tt_ar rfl ?_
                          refine tt_ar rfl ?_
                          refine tt_getI (x := ((nkT k : Nat) : Int)) (wo_76 hW_σ6) rfl (((hF_σ6.2 76 (by decide) (27)).trans (hF_σ5.2 76 (by decide) (27))).trans hR1.hs.1) ?_
                          refine tt_icge (fun h14_3 => ?_) (fun h14_3 => ?_)
                          · have hlr : l = miN 100000 (bkN 1000000 (nkT k) nm D ex (nm - 1 - (c - 1)) h) := by
                              have q := rsR_end (n := nm) (m := c - 1) (h := h) hD0 (fun m h _ => hx0 m h) hx9 (by omega) (by omega)
                              rw [show c - 1 + 1 = c by omega] at q
                              rw [← q, hl]
                              unfold rsR
                              by_cases e1 : c = nm
                              · rw [if_pos e1, if_pos e1]
                              · rw [if_neg e1, if_neg e1, show g = nkT k by omega]
                            refine tt_ar rfl ?_
                            refine tt_getR (wo_76 hW_σ6) rfl (wr_76_38 hW_σ6) ?_
                            refine tt_ar rfl ?_
                            refine tt_ar rfl ?_
                            refine tt_imul (by omega) (by omega) ?_
                            refine tt_ar rfl ?_
                            refine tt_iadd (by omega) (by omega) ?_
                            refine tt_ar rfl ?_
                            refine tt_iast (((462 * (c - 1)) + h)) (wa_100 hW_σ6) (by omega) (by omega) (by omega) ?_
                            refine tt_iinc (y := ((h + 1 : Nat) : Int)) rfl (iinc_fit (by omega) (by omega) (by omega)) ?_
                            refine tt_goto ?_
                            refine tt_loc [(0, vR 76), (1, vI (((c - 1 : Nat) : Int))), (2, vI (((h + 1 : Nat) : Int)))] rfl rfl ⟨rfl, rfl, rfl, trivial⟩ ?_
                            exact ih11 (h + 1) _ (by omega) (Fr.put (Fr.tr Fr.rf hF_σ6 (by decide)) (by decide)) (by omega) (fun g hg => by rw [am_set_at]; by_cases e : g = h; (rw [if_pos (by omega), e]; exact hlr); (rw [if_neg (by omega)]; exact hT6 g (by omega))) (fun y hy => by rw [am_set_at, if_neg (by omega)]; exact hO6 y hy)
                          · refine tt_ar rfl ?_
                            refine tt_ar rfl ?_
                            refine tt_getI (x := ((nm : Nat) : Int)) (wo_76 hW_σ6) rfl (((hF_σ6.2 76 (by decide) (25)).trans (hF_σ5.2 76 (by decide) (25))).trans hR1.ln.1) ?_
                            refine tt_ar rfl ?_
                            refine tt_isub (by omega) (by omega) ?_
                            refine tt_icge (fun h14_9 => ?_) (fun h14_9 => ?_)
                            · have hlr : l = miN 100000 (bkN 1000000 (nkT k) nm D ex (nm - 1 - (c - 1)) h) := by
                                have q := rsR_end (n := nm) (m := c - 1) (h := h) hD0 (fun m h _ => hx0 m h) hx9 (by omega) (by omega)
                                rw [show c - 1 + 1 = c by omega] at q
                                rw [← q, hl]
                                unfold rsR
                                by_cases e1 : c = nm
                                · rw [if_pos e1, if_pos e1]
                                · rw [if_neg e1, if_neg e1, show g = nkT k by omega]
                              refine tt_ar rfl ?_
                              refine tt_getR (wo_76 hW_σ6) rfl (wr_76_38 hW_σ6) ?_
                              refine tt_ar rfl ?_
                              refine tt_ar rfl ?_
                              refine tt_imul (by omega) (by omega) ?_
                              refine tt_ar rfl ?_
                              refine tt_iadd (by omega) (by omega) ?_
                              refine tt_ar rfl ?_
                              refine tt_iast (((462 * (c - 1)) + h)) (wa_100 hW_σ6) (by omega) (by omega) (by omega) ?_
                              refine tt_iinc (y := ((h + 1 : Nat) : Int)) rfl (iinc_fit (by omega) (by omega) (by omega)) ?_
                              refine tt_goto ?_
                              refine tt_loc [(0, vR 76), (1, vI (((c - 1 : Nat) : Int))), (2, vI (((h + 1 : Nat) : Int)))] rfl rfl ⟨rfl, rfl, rfl, trivial⟩ ?_
                              exact ih11 (h + 1) _ (by omega) (Fr.put (Fr.tr Fr.rf hF_σ6 (by decide)) (by decide)) (by omega) (fun g hg => by rw [am_set_at]; by_cases e : g = h; (rw [if_pos (by omega), e]; exact hlr); (rw [if_neg (by omega)]; exact hT6 g (by omega))) (fun y hy => by rw [am_set_at, if_neg (by omega)]; exact hO6 y hy)
                            · refine tt_ar rfl ?_
                              refine tt_ar rfl ?_
                              refine tt_ar rfl ?_
                              refine tt_iadd (by omega) (by omega) ?_
                              refine tt_imul (by omega) (by omega) ?_
                              refine tt_ar rfl ?_
                              refine tt_iadd (by omega) (by omega) ?_
                              refine tt_ar rfl ?_
                              refine tt_ar rfl ?_
                              refine tt_getR (wo_76 hW_σ6) rfl (wr_76_36 hW_σ6) ?_
                              refine tt_ar rfl ?_
                              refine tt_iald (462 * c + g) (x := miN 100000 (ex c g)) (wa_98 hW_σ6) (by omega) (by omega) (((hF_σ6.2 98 (by decide) (462 * c + g)).trans (hF_σ5.2 98 (by decide) (462 * c + g))).trans ((hT1 c (by omega) g (by omega)).1)) ?_
                              have hbb := mi_c (ex c g)
                              have hbx := hx0 c g
                              refine tt_ar rfl ?_
                              refine tt_icge (fun h14_23 => ?_) (fun h14_23 => ?_)
                              · refine tt_ar rfl ?_
                                refine tt_nop ?_
                                refine tt_ar rfl ?_
                                refine tt_ar rfl ?_
                                refine tt_ar rfl ?_
                                refine tt_icge (fun h16_3 => ?_) (fun h16_3 => ?_)
                                · refine tt_ar rfl ?_
                                  refine tt_nop ?_
                                  refine tt_ar rfl ?_
                                  refine tt_iinc (y := ((g + 1 : Nat) : Int)) rfl (iinc_fit (by omega) (by omega) (by omega)) ?_
                                  refine tt_goto ?_
                                  refine tt_loc [(0, vR 76), (1, vI (((c - 1 : Nat) : Int))), (2, vI (((h : Nat) : Int))), (3, vI (l)), (4, vI (((g + 1 : Nat) : Int)))] rfl rfl ⟨rfl, rfl, rfl, rfl, rfl, trivial⟩ ?_
                                  exact ih14 (g + 1) (l) (by omega) (by omega) (by unfold rsR at hl ⊢; rw [if_neg (by omega)] at hl ⊢; show _ = (if (if miN 100000 (ex c g) < 100000 then D h g + miN 100000 (ex c g) + miN 100000 (bkN 1000000 (nkT k) nm D ex (nm - 1 - c) g) else 100000) < mnN 100000 g (fun g => (if miN 100000 (ex c g) < 100000 then D h g + miN 100000 (ex c g) + miN 100000 (bkN 1000000 (nkT k) nm D ex (nm - 1 - c) g) else 100000)) then (if miN 100000 (ex c g) < 100000 then D h g + miN 100000 (ex c g) + miN 100000 (bkN 1000000 (nkT k) nm D ex (nm - 1 - c) g) else 100000) else mnN 100000 g (fun g => (if miN 100000 (ex c g) < 100000 then D h g + miN 100000 (ex c g) + miN 100000 (bkN 1000000 (nkT k) nm D ex (nm - 1 - c) g) else 100000))); rw [← hl]; first | (rw [if_pos (show miN 100000 (ex c g) < 100000 by omega)]; first | exact (if_pos (by omega)).symm | exact (if_neg (by omega)).symm) | (rw [if_neg (show ¬ miN 100000 (ex c g) < 100000 by omega)]; first | exact (if_pos (by omega)).symm | exact (if_neg (by omega)).symm))
                                · refine tt_ar rfl ?_
                                  refine tt_goto ?_
                                  refine tt_ar rfl ?_
                                  refine tt_iinc (y := ((g + 1 : Nat) : Int)) rfl (iinc_fit (by omega) (by omega) (by omega)) ?_
                                  refine tt_goto ?_
                                  refine tt_loc [(0, vR 76), (1, vI (((c - 1 : Nat) : Int))), (2, vI (((h : Nat) : Int))), (3, vI (100000)), (4, vI (((g + 1 : Nat) : Int)))] rfl rfl ⟨rfl, rfl, rfl, rfl, rfl, trivial⟩ ?_
                                  exact ih14 (g + 1) (100000) (by omega) (by omega) (by unfold rsR at hl ⊢; rw [if_neg (by omega)] at hl ⊢; show _ = (if (if miN 100000 (ex c g) < 100000 then D h g + miN 100000 (ex c g) + miN 100000 (bkN 1000000 (nkT k) nm D ex (nm - 1 - c) g) else 100000) < mnN 100000 g (fun g => (if miN 100000 (ex c g) < 100000 then D h g + miN 100000 (ex c g) + miN 100000 (bkN 1000000 (nkT k) nm D ex (nm - 1 - c) g) else 100000)) then (if miN 100000 (ex c g) < 100000 then D h g + miN 100000 (ex c g) + miN 100000 (bkN 1000000 (nkT k) nm D ex (nm - 1 - c) g) else 100000) else mnN 100000 g (fun g => (if miN 100000 (ex c g) < 100000 then D h g + miN 100000 (ex c g) + miN 100000 (bkN 1000000 (nkT k) nm D ex (nm - 1 - c) g) else 100000))); rw [← hl]; first | (rw [if_pos (show miN 100000 (ex c g) < 100000 by omega)]; first | exact (if_pos (by omega)).symm | exact (if_neg (by omega)).symm) | (rw [if_neg (show ¬ miN 100000 (ex c g) < 100000 by omega)]; first | exact (if_pos (by omega)).symm | exact (if_neg (by omega)).symm))
                              · refine tt_ar rfl ?_
                                refine tt_ar rfl ?_
                                refine tt_ar rfl ?_
                                have hd9 := hDx h g (by omega) (by omega)
                                refine tt_cv3 3 rfl (wo_76 hW_σ6) (c233 A σ6 k nm ns D hA hW_σ6 hR6 ((hF_σ6.2 76 (by decide) 31).trans ((hF_σ5.2 76 (by decide) 31).trans hs1)) h g (by omega) (by omega)) (kp ?_)
                                refine tt_ar rfl ?_
                                refine tt_getR (wo_76 hW_σ6) rfl (wr_76_36 hW_σ6) ?_
                                refine tt_ar rfl ?_
                                refine tt_iald (462 * c + g) (x := miN 100000 (ex c g)) (wa_98 hW_σ6) (by omega) (by omega) (((hF_σ6.2 98 (by decide) (462 * c + g)).trans (hF_σ5.2 98 (by decide) (462 * c + g))).trans ((hT1 c (by omega) g (by omega)).1)) ?_
                                have hbb := mi_c (ex c g)
                                have hbx := hx0 c g
                                refine tt_iadd (by omega) (by omega) ?_
                                refine tt_ar rfl ?_
                                refine tt_getR (wo_76 hW_σ6) rfl (wr_76_38 hW_σ6) ?_
                                refine tt_ar rfl ?_
                                refine tt_iald (462 * c + g) (x := miN 100000 (bkN 1000000 (nkT k) nm D ex (nm - 1 - c) g)) (wa_100 hW_σ6) (by omega) (by omega) ((hO6 (462 * c + g) (by omega)).trans (hT5 c (by omega) (by omega) g (by omega))) ?_
                                have hbk := (bkN_bd (F := 1000000) (N := nkT k) (n := nm) (D := D) (ex := ex) (by omega) hD0 (fun m h _ => hx0 m h) (nm - 1 - c) (show g < nkT k by omega)).1
                                have hbm := mi_c (bkN 1000000 (nkT k) nm D ex (nm - 1 - c) g)
                                refine tt_iadd (by omega) (by omega) ?_
                                refine tt_goto ?_
                                refine tt_ar rfl ?_
                                refine tt_ar rfl ?_
                                refine tt_ar rfl ?_
                                refine tt_icge (fun h16_3 => ?_) (fun h16_3 => ?_)
                                · refine tt_ar rfl ?_
                                  refine tt_nop ?_
                                  refine tt_ar rfl ?_
                                  refine tt_iinc (y := ((g + 1 : Nat) : Int)) rfl (iinc_fit (by omega) (by omega) (by omega)) ?_
                                  refine tt_goto ?_
                                  refine tt_loc [(0, vR 76), (1, vI (((c - 1 : Nat) : Int))), (2, vI (((h : Nat) : Int))), (3, vI (l)), (4, vI (((g + 1 : Nat) : Int)))] rfl rfl ⟨rfl, rfl, rfl, rfl, rfl, trivial⟩ ?_
                                  exact ih14 (g + 1) (l) (by omega) (by omega) (by unfold rsR at hl ⊢; rw [if_neg (by omega)] at hl ⊢; show _ = (if (if miN 100000 (ex c g) < 100000 then D h g + miN 100000 (ex c g) + miN 100000 (bkN 1000000 (nkT k) nm D ex (nm - 1 - c) g) else 100000) < mnN 100000 g (fun g => (if miN 100000 (ex c g) < 100000 then D h g + miN 100000 (ex c g) + miN 100000 (bkN 1000000 (nkT k) nm D ex (nm - 1 - c) g) else 100000)) then (if miN 100000 (ex c g) < 100000 then D h g + miN 100000 (ex c g) + miN 100000 (bkN 1000000 (nkT k) nm D ex (nm - 1 - c) g) else 100000) else mnN 100000 g (fun g => (if miN 100000 (ex c g) < 100000 then D h g + miN 100000 (ex c g) + miN 100000 (bkN 1000000 (nkT k) nm D ex (nm - 1 - c) g) else 100000))); rw [← hl]; first | (rw [if_pos (show miN 100000 (ex c g) < 100000 by omega)]; first | exact (if_pos (by omega)).symm | exact (if_neg (by omega)).symm) | (rw [if_neg (show ¬ miN 100000 (ex c g) < 100000 by omega)]; first | exact (if_pos (by omega)).symm | exact (if_neg (by omega)).symm))
                                · refine tt_ar rfl ?_
                                  refine tt_goto ?_
                                  refine tt_ar rfl ?_
                                  refine tt_iinc (y := ((g + 1 : Nat) : Int)) rfl (iinc_fit (by omega) (by omega) (by omega)) ?_
                                  refine tt_goto ?_
                                  refine tt_loc [(0, vR 76), (1, vI (((c - 1 : Nat) : Int))), (2, vI (((h : Nat) : Int))), (3, vI (((D h g + miN 100000 (ex c g) + miN 100000 (bkN 1000000 (nkT k) nm D ex (nm - 1 - c) g))))), (4, vI (((g + 1 : Nat) : Int)))] rfl rfl ⟨rfl, rfl, rfl, lv_to rfl (by omega), rfl, trivial⟩ ?_
                                  exact ih14 (g + 1) ((D h g + miN 100000 (ex c g) + miN 100000 (bkN 1000000 (nkT k) nm D ex (nm - 1 - c) g))) (by omega) (by omega) (by unfold rsR at hl ⊢; rw [if_neg (by omega)] at hl ⊢; show _ = (if (if miN 100000 (ex c g) < 100000 then D h g + miN 100000 (ex c g) + miN 100000 (bkN 1000000 (nkT k) nm D ex (nm - 1 - c) g) else 100000) < mnN 100000 g (fun g => (if miN 100000 (ex c g) < 100000 then D h g + miN 100000 (ex c g) + miN 100000 (bkN 1000000 (nkT k) nm D ex (nm - 1 - c) g) else 100000)) then (if miN 100000 (ex c g) < 100000 then D h g + miN 100000 (ex c g) + miN 100000 (bkN 1000000 (nkT k) nm D ex (nm - 1 - c) g) else 100000) else mnN 100000 g (fun g => (if miN 100000 (ex c g) < 100000 then D h g + miN 100000 (ex c g) + miN 100000 (bkN 1000000 (nkT k) nm D ex (nm - 1 - c) g) else 100000))); rw [← hl]; first | (rw [if_pos (show miN 100000 (ex c g) < 100000 by omega)]; first | exact (if_pos (by omega)).symm | exact (if_neg (by omega)).symm) | (rw [if_neg (show ¬ miN 100000 (ex c g) < 100000 by omega)]; first | exact (if_pos (by omega)).symm | exact (if_neg (by omega)).symm))
                      refine tt_loc [(0, vR 76), (1, vI (((c - 1 : Nat) : Int))), (2, vI (((h : Nat) : Int))), (3, vI (100000)), (4, vI (((0 : Nat) : Int)))] rfl rfl ⟨rfl, rfl, rfl, rfl, lv_to rfl (by omega), trivial⟩ ?_
                      exact lp14_7 _ (0) (100000) (Nat.lt_succ_self _) (by omega) (by unfold rsR; first | (rw [if_pos (by omega)]) | (rw [if_neg (by omega)]; rfl))
                    · refine tt_ar rfl ?_
                      refine tt_goto ?_
                      refine tt_ar rfl ?_
                      refine tt_ar rfl ?_
                      refine tt_ar rfl ?_
                      refine tt_nop ?_
                      have lp14_8 : ∀ (μ : Nat) (g : Nat) (l : Int), nkT k - g < μ → (g ≤ nkT k) → (l = rsR D (fun g => miN 100000 (bkN 1000000 (nkT k) nm D ex (nm - 1 - c) g)) (fun g => miN 100000 (ex c g)) (c = nm) h g) → TT am_b235 (am_b235.getD 14 []) [(0, vR 76), (1, vI (((c - 1 : Nat) : Int))), (2, vI (((h : Nat) : Int))), (3, vI (l)), (4, vI (((g : Nat) : Int)))] [] σ6 (fun r σ' => r = none ∧ RRb k nm ns D A σ' ∧ σ'.1 76 31 = 1 ∧ Fr [76, 94, 95, 96, 97, 98, 99, 100] σ σ' ∧ TLs k nm D ex σ') := by
                        intro μ
                        induction μ with
                        | zero => intro g l hμ; exact absurd hμ (Nat.not_lt_zero _)
                        | succ μ ih14 =>
                          intro g l hμ hg hl
                          refine tt_ar rfl ?_
                          refine tt_ar rfl ?_
                          refine tt_getI (x := ((nkT k : Nat) : Int)) (wo_76 hW_σ6) rfl (((hF_σ6.2 76 (by decide) (27)).trans (hF_σ5.2 76 (by decide) (27))).trans hR1.hs.1) ?_
                          refine tt_icge (fun h14_3 => ?_) (fun h14_3 => ?_)
                          · have hlr : l = miN 100000 (bkN 1000000 (nkT k) nm D ex (nm - 1 - (c - 1)) h) := by
                              have q := rsR_end (n := nm) (m := c - 1) (h := h) hD0 (fun m h _ => hx0 m h) hx9 (by omega) (by omega)
                              rw [show c - 1 + 1 = c by omega] at q
                              rw [← q, hl]
                              unfold rsR
                              by_cases e1 : c = nm
                              · rw [if_pos e1, if_pos e1]
                              · rw [if_neg e1, if_neg e1, show g = nkT k by omega]
                            refine tt_ar rfl ?_
                            refine tt_getR (wo_76 hW_σ6) rfl (wr_76_38 hW_σ6) ?_
                            refine tt_ar rfl ?_
                            refine tt_ar rfl ?_
                            refine tt_imul (by omega) (by omega) ?_
                            refine tt_ar rfl ?_
                            refine tt_iadd (by omega) (by omega) ?_
                            refine tt_ar rfl ?_
                            refine tt_iast (((462 * (c - 1)) + h)) (wa_100 hW_σ6) (by omega) (by omega) (by omega) ?_
                            refine tt_iinc (y := ((h + 1 : Nat) : Int)) rfl (iinc_fit (by omega) (by omega) (by omega)) ?_
                            refine tt_goto ?_
                            refine tt_loc [(0, vR 76), (1, vI (((c - 1 : Nat) : Int))), (2, vI (((h + 1 : Nat) : Int)))] rfl rfl ⟨rfl, rfl, rfl, trivial⟩ ?_
                            exact ih11 (h + 1) _ (by omega) (Fr.put (Fr.tr Fr.rf hF_σ6 (by decide)) (by decide)) (by omega) (fun g hg => by rw [am_set_at]; by_cases e : g = h; (rw [if_pos (by omega), e]; exact hlr); (rw [if_neg (by omega)]; exact hT6 g (by omega))) (fun y hy => by rw [am_set_at, if_neg (by omega)]; exact hO6 y hy)
                          · refine tt_ar rfl ?_
                            refine tt_ar rfl ?_
                            refine tt_getI (x := ((nm : Nat) : Int)) (wo_76 hW_σ6) rfl (((hF_σ6.2 76 (by decide) (25)).trans (hF_σ5.2 76 (by decide) (25))).trans hR1.ln.1) ?_
                            refine tt_ar rfl ?_
                            refine tt_isub (by omega) (by omega) ?_
                            refine tt_icge (fun h14_9 => ?_) (fun h14_9 => ?_)
                            · have hlr : l = miN 100000 (bkN 1000000 (nkT k) nm D ex (nm - 1 - (c - 1)) h) := by
                                have q := rsR_end (n := nm) (m := c - 1) (h := h) hD0 (fun m h _ => hx0 m h) hx9 (by omega) (by omega)
                                rw [show c - 1 + 1 = c by omega] at q
                                rw [← q, hl]
                                unfold rsR
                                by_cases e1 : c = nm
                                · rw [if_pos e1, if_pos e1]
                                · rw [if_neg e1, if_neg e1, show g = nkT k by omega]
                              refine tt_ar rfl ?_
                              refine tt_getR (wo_76 hW_σ6) rfl (wr_76_38 hW_σ6) ?_
                              refine tt_ar rfl ?_
                              refine tt_ar rfl ?_
                              refine tt_imul (by omega) (by omega) ?_
                              refine tt_ar rfl ?_
                              refine tt_iadd (by omega) (by omega) ?_
                              refine tt_ar rfl ?_
                              refine tt_iast (((462 * (c - 1)) + h)) (wa_100 hW_σ6) (by omega) (by omega) (by omega) ?_
                              refine tt_iinc (y := ((h + 1 : Nat) : Int)) rfl (iinc_fit (by omega) (by omega) (by omega)) ?_
                              refine tt_goto ?_
                              refine tt_loc [(0, vR 76), (1, vI (((c - 1 : Nat) : Int))), (2, vI (((h + 1 : Nat) : Int)))] rfl rfl ⟨rfl, rfl, rfl, trivial⟩ ?_
                              exact ih11 (h + 1) _ (by omega) (Fr.put (Fr.tr Fr.rf hF_σ6 (by decide)) (by decide)) (by omega) (fun g hg => by rw [am_set_at]; by_cases e : g = h; (rw [if_pos (by omega), e]; exact hlr); (rw [if_neg (by omega)]; exact hT6 g (by omega))) (fun y hy => by rw [am_set_at, if_neg (by omega)]; exact hO6 y hy)
                            · refine tt_ar rfl ?_
                              refine tt_ar rfl ?_
                              refine tt_ar rfl ?_
                              refine tt_iadd (by omega) (by omega) ?_
                              refine tt_imul (by omega) (by omega) ?_
                              refine tt_ar rfl ?_
                              refine tt_iadd (by omega) (by omega) ?_
                              refine tt_ar rfl ?_
                              refine tt_ar rfl ?_
                              refine tt_getR (wo_76 hW_σ6) rfl (wr_76_36 hW_σ6) ?_
                              refine tt_ar rfl ?_
                              refine tt_iald (462 * c + g) (x := miN 100000 (ex c g)) (wa_98 hW_σ6) (by omega) (by omega) (((hF_σ6.2 98 (by decide) (462 * c + g)).trans (hF_σ5.2 98 (by decide) (462 * c + g))).trans ((hT1 c (by omega) g (by omega)).1)) ?_
                              have hbb := mi_c (ex c g)
                              have hbx := hx0 c g
                              refine tt_ar rfl ?_
                              refine tt_icge (fun h14_23 => ?_) (fun h14_23 => ?_)
                              · refine tt_ar rfl ?_
                                refine tt_nop ?_
                                refine tt_ar rfl ?_
                                refine tt_ar rfl ?_
                                refine tt_ar rfl ?_
                                refine tt_icge (fun h16_3 => ?_) (fun h16_3 => ?_)
                                · refine tt_ar rfl ?_
                                  refine tt_nop ?_
                                  refine tt_ar rfl ?_
                                  refine tt_iinc (y := ((g + 1 : Nat) : Int)) rfl (iinc_fit (by omega) (by omega) (by omega)) ?_
                                  refine tt_goto ?_
                                  refine tt_loc [(0, vR 76), (1, vI (((c - 1 : Nat) : Int))), (2, vI (((h : Nat) : Int))), (3, vI (l)), (4, vI (((g + 1 : Nat) : Int)))] rfl rfl ⟨rfl, rfl, rfl, rfl, rfl, trivial⟩ ?_
                                  exact ih14 (g + 1) (l) (by omega) (by omega) (by unfold rsR at hl ⊢; rw [if_neg (by omega)] at hl ⊢; show _ = (if (if miN 100000 (ex c g) < 100000 then D h g + miN 100000 (ex c g) + miN 100000 (bkN 1000000 (nkT k) nm D ex (nm - 1 - c) g) else 100000) < mnN 100000 g (fun g => (if miN 100000 (ex c g) < 100000 then D h g + miN 100000 (ex c g) + miN 100000 (bkN 1000000 (nkT k) nm D ex (nm - 1 - c) g) else 100000)) then (if miN 100000 (ex c g) < 100000 then D h g + miN 100000 (ex c g) + miN 100000 (bkN 1000000 (nkT k) nm D ex (nm - 1 - c) g) else 100000) else mnN 100000 g (fun g => (if miN 100000 (ex c g) < 100000 then D h g + miN 100000 (ex c g) + miN 100000 (bkN 1000000 (nkT k) nm D ex (nm - 1 - c) g) else 100000))); rw [← hl]; first | (rw [if_pos (show miN 100000 (ex c g) < 100000 by omega)]; first | exact (if_pos (by omega)).symm | exact (if_neg (by omega)).symm) | (rw [if_neg (show ¬ miN 100000 (ex c g) < 100000 by omega)]; first | exact (if_pos (by omega)).symm | exact (if_neg (by omega)).symm))
                                · refine tt_ar rfl ?_
                                  refine tt_goto ?_
                                  refine tt_ar rfl ?_
                                  refine tt_iinc (y := ((g + 1 : Nat) : Int)) rfl (iinc_fit (by omega) (by omega) (by omega)) ?_
                                  refine tt_goto ?_
                                  refine tt_loc [(0, vR 76), (1, vI (((c - 1 : Nat) : Int))), (2, vI (((h : Nat) : Int))), (3, vI (100000)), (4, vI (((g + 1 : Nat) : Int)))] rfl rfl ⟨rfl, rfl, rfl, rfl, rfl, trivial⟩ ?_
                                  exact ih14 (g + 1) (100000) (by omega) (by omega) (by unfold rsR at hl ⊢; rw [if_neg (by omega)] at hl ⊢; show _ = (if (if miN 100000 (ex c g) < 100000 then D h g + miN 100000 (ex c g) + miN 100000 (bkN 1000000 (nkT k) nm D ex (nm - 1 - c) g) else 100000) < mnN 100000 g (fun g => (if miN 100000 (ex c g) < 100000 then D h g + miN 100000 (ex c g) + miN 100000 (bkN 1000000 (nkT k) nm D ex (nm - 1 - c) g) else 100000)) then (if miN 100000 (ex c g) < 100000 then D h g + miN 100000 (ex c g) + miN 100000 (bkN 1000000 (nkT k) nm D ex (nm - 1 - c) g) else 100000) else mnN 100000 g (fun g => (if miN 100000 (ex c g) < 100000 then D h g + miN 100000 (ex c g) + miN 100000 (bkN 1000000 (nkT k) nm D ex (nm - 1 - c) g) else 100000))); rw [← hl]; first | (rw [if_pos (show miN 100000 (ex c g) < 100000 by omega)]; first | exact (if_pos (by omega)).symm | exact (if_neg (by omega)).symm) | (rw [if_neg (show ¬ miN 100000 (ex c g) < 100000 by omega)]; first | exact (if_pos (by omega)).symm | exact (if_neg (by omega)).symm))
                              · refine tt_ar rfl ?_
                                refine tt_ar rfl ?_
                                refine tt_ar rfl ?_
                                have hd9 := hDx h g (by omega) (by omega)
                                refine tt_cv3 3 rfl (wo_76 hW_σ6) (c233 A σ6 k nm ns D hA hW_σ6 hR6 ((hF_σ6.2 76 (by decide) 31).trans ((hF_σ5.2 76 (by decide) 31).trans hs1)) h g (by omega) (by omega)) (kp ?_)
                                refine tt_ar rfl ?_
                                refine tt_getR (wo_76 hW_σ6) rfl (wr_76_36 hW_σ6) ?_
                                refine tt_ar rfl ?_
                                refine tt_iald (462 * c + g) (x := miN 100000 (ex c g)) (wa_98 hW_σ6) (by omega) (by omega) (((hF_σ6.2 98 (by decide) (462 * c + g)).trans (hF_σ5.2 98 (by decide) (462 * c + g))).trans ((hT1 c (by omega) g (by omega)).1)) ?_
                                have hbb := mi_c (ex c g)
                                have hbx := hx0 c g
                                refine tt_iadd (by omega) (by omega) ?_
                                refine tt_ar rfl ?_
                                refine tt_getR (wo_76 hW_σ6) rfl (wr_76_38 hW_σ6) ?_
                                refine tt_ar rfl ?_
                                refine tt_iald (462 * c + g) (x := miN 100000 (bkN 1000000 (nkT k) nm D ex (nm - 1 - c) g)) (wa_100 hW_σ6) (by omega) (by omega) ((hO6 (462 * c + g) (by omega)).trans (hT5 c (by omega) (by omega) g (by omega))) ?_
                                have hbk := (bkN_bd (F := 1000000) (N := nkT k) (n := nm) (D := D) (ex := ex) (by omega) hD0 (fun m h _ => hx0 m h) (nm - 1 - c) (show g < nkT k by omega)).1
                                have hbm := mi_c (bkN 1000000 (nkT k) nm D ex (nm - 1 - c) g)
                                refine tt_iadd (by omega) (by omega) ?_
                                refine tt_goto ?_
                                refine tt_ar rfl ?_
                                refine tt_ar rfl ?_
                                refine tt_ar rfl ?_
                                refine tt_icge (fun h16_3 => ?_) (fun h16_3 => ?_)
                                · refine tt_ar rfl ?_
                                  refine tt_nop ?_
                                  refine tt_ar rfl ?_
                                  refine tt_iinc (y := ((g + 1 : Nat) : Int)) rfl (iinc_fit (by omega) (by omega) (by omega)) ?_
                                  refine tt_goto ?_
                                  refine tt_loc [(0, vR 76), (1, vI (((c - 1 : Nat) : Int))), (2, vI (((h : Nat) : Int))), (3, vI (l)), (4, vI (((g + 1 : Nat) : Int)))] rfl rfl ⟨rfl, rfl, rfl, rfl, rfl, trivial⟩ ?_
                                  exact ih14 (g + 1) (l) (by omega) (by omega) (by unfold rsR at hl ⊢; rw [if_neg (by omega)] at hl ⊢; show _ = (if (if miN 100000 (ex c g) < 100000 then D h g + miN 100000 (ex c g) + miN 100000 (bkN 1000000 (nkT k) nm D ex (nm - 1 - c) g) else 100000) < mnN 100000 g (fun g => (if miN 100000 (ex c g) < 100000 then D h g + miN 100000 (ex c g) + miN 100000 (bkN 1000000 (nkT k) nm D ex (nm - 1 - c) g) else 100000)) then (if miN 100000 (ex c g) < 100000 then D h g + miN 100000 (ex c g) + miN 100000 (bkN 1000000 (nkT k) nm D ex (nm - 1 - c) g) else 100000) else mnN 100000 g (fun g => (if miN 100000 (ex c g) < 100000 then D h g + miN 100000 (ex c g) + miN 100000 (bkN 1000000 (nkT k) nm D ex (nm - 1 - c) g) else 100000))); rw [← hl]; first | (rw [if_pos (show miN 100000 (ex c g) < 100000 by omega)]; first | exact (if_pos (by omega)).symm | exact (if_neg (by omega)).symm) | (rw [if_neg (show ¬ miN 100000 (ex c g) < 100000 by omega)]; first | exact (if_pos (by omega)).symm | exact (if_neg (by omega)).symm))
                                · refine tt_ar rfl ?_
                                  refine tt_goto ?_
                                  refine tt_ar rfl ?_
                                  refine tt_iinc (y := ((g + 1 : Nat) : Int)) rfl (iinc_fit (by omega) (by omega) (by omega)) ?_
                                  refine tt_goto ?_
                                  refine tt_loc [(0, vR 76), (1, vI (((c - 1 : Nat) : Int))), (2, vI (((h : Nat) : Int))), (3, vI (((D h g + miN 100000 (ex c g) + miN 100000 (bkN 1000000 (nkT k) nm D ex (nm - 1 - c) g))))), (4, vI (((g + 1 : Nat) : Int)))] rfl rfl ⟨rfl, rfl, rfl, lv_to rfl (by omega), rfl, trivial⟩ ?_
                                  exact ih14 (g + 1) ((D h g + miN 100000 (ex c g) + miN 100000 (bkN 1000000 (nkT k) nm D ex (nm - 1 - c) g))) (by omega) (by omega) (by unfold rsR at hl ⊢; rw [if_neg (by omega)] at hl ⊢; show _ = (if (if miN 100000 (ex c g) < 100000 then D h g + miN 100000 (ex c g) + miN 100000 (bkN 1000000 (nkT k) nm D ex (nm - 1 - c) g) else 100000) < mnN 100000 g (fun g => (if miN 100000 (ex c g) < 100000 then D h g + miN 100000 (ex c g) + miN 100000 (bkN 1000000 (nkT k) nm D ex (nm - 1 - c) g) else 100000)) then (if miN 100000 (ex c g) < 100000 then D h g + miN 100000 (ex c g) + miN 100000 (bkN 1000000 (nkT k) nm D ex (nm - 1 - c) g) else 100000) else mnN 100000 g (fun g => (if miN 100000 (ex c g) < 100000 then D h g + miN 100000 (ex c g) + miN 100000 (bkN 1000000 (nkT k) nm D ex (nm - 1 - c) g) else 100000))); rw [← hl]; first | (rw [if_pos (show miN 100000 (ex c g) < 100000 by omega)]; first | exact (if_pos (by omega)).symm | exact (if_neg (by omega)).symm) | (rw [if_neg (show ¬ miN 100000 (ex c g) < 100000 by omega)]; first | exact (if_pos (by omega)).symm | exact (if_neg (by omega)).symm))
                      refine tt_loc [(0, vR 76), (1, vI (((c - 1 : Nat) : Int))), (2, vI (((h : Nat) : Int))), (3, vI (0)), (4, vI (((0 : Nat) : Int)))] rfl rfl ⟨rfl, rfl, rfl, rfl, lv_to rfl (by omega), trivial⟩ ?_
                      exact lp14_8 _ (0) (0) (Nat.lt_succ_self _) (by omega) (by unfold rsR; first | (rw [if_pos (by omega)]) | (rw [if_neg (by omega)]; rfl))
              refine tt_loc [(0, vR 76), (1, vI (((c - 1 : Nat) : Int))), (2, vI (((0 : Nat) : Int)))] rfl rfl ⟨rfl, rfl, lv_to rfl (by omega), trivial⟩ ?_
              exact lp11_6 _ (0) σ5 (Nat.lt_succ_self _) Fr.rf (by omega) (fun g hg => absurd hg (Nat.not_lt_zero g)) (fun y hy => rfl)
        refine tt_loc [(0, vR 76), (1, vI ((((nm : Nat) : Int) - 1)))] rfl rfl ⟨rfl, rfl, trivial⟩ ?_
        exact lp10_3 _ (nm) σ1 (Nat.lt_succ_self _) Fr.rf (by omega) (fun q h1 h2 => absurd h1 (by omega))
      · refine tt_ar rfl ?_
        refine tt_ar rfl ?_
        refine tt_nop ?_
        have lp2_9 : ∀ (μ : Nat) (h : Nat) (σ3 : am_S), nkT k - h < μ → Fr [76, 98, 99] σ1 σ3 → (h ≤ nkT k) → (RRb k nm ns D A σ3) → (σ3.1 76 31 = 1) → (∀ g, g < h → σ3.1 98 (462 * m + g) = miN 100000 (ex m g) ∧ σ3.1 99 (462 * m + g) = miN 100000 (ahN 1000000 (nkT k) D ex m g)) → (∀ y, y < 462 * m → σ3.1 98 y = σ1.1 98 y ∧ σ3.1 99 y = σ1.1 99 y) → TT am_b235 (am_b235.getD 2 []) [(0, vR 76), (1, vI (((m : Nat) : Int))), (2, vI (((h : Nat) : Int)))] [] σ3 (fun r σ' => r = none ∧ RRb k nm ns D A σ' ∧ σ'.1 76 31 = 1 ∧ Fr [76, 94, 95, 96, 97, 98, 99, 100] σ σ' ∧ TLs k nm D ex σ') := by
          intro μ
          induction μ with
          | zero => intro h σ3 hμ; exact absurd hμ (Nat.not_lt_zero _)
          | succ μ ih2 =>
            intro h σ3 hμ hF_σ3 hh hR3 hs3 hT3 hO3
            have hW_σ3 := Fr.wd hF_σ3 hW_σ1
            refine tt_ar rfl ?_
            refine tt_ar rfl ?_
            refine tt_getI (x := ((nkT k : Nat) : Int)) (wo_76 hW_σ3) rfl hR3.hs.1 ?_
            refine tt_icge (fun h2_3 => ?_) (fun h2_3 => ?_)
            · refine tt_iinc (y := ((m + 1 : Nat) : Int)) rfl (iinc_fit (by omega) (by omega) (by omega)) ?_
              refine tt_goto ?_
              refine tt_loc [(0, vR 76), (1, vI (((m + 1 : Nat) : Int)))] rfl rfl ⟨rfl, rfl, trivial⟩ ?_
              exact ih1 (m + 1) σ3 (by omega) (Fr.tr (Fr.tr Fr.rf hF_σ1 (by decide)) hF_σ3 (by decide)) (by omega) hR3 hs3 (fun q hq h hh => by by_cases e : q = m; (rw [e]; exact hT3 h (by omega)); (have z := hO3 (462 * q + h) (by omega); rw [z.1, z.2]; exact hT1 q (by omega) h hh))
            · refine tt_ar rfl ?_
              refine tt_ar rfl ?_
              refine tt_ar rfl ?_
              have hc219 := c219 A σ3 k nm ns D hA hW_σ3 hR3 m h (by omega) (by omega)
              obtain ⟨b, hb0⟩ : ∃ b : Int, miN 100000 (ex m h) = b := ⟨_, rfl⟩
              rw [hep, hb0] at hc219
              have hbb := mi_c (ex m h)
              have hbx := hx0 m h
              refine tt_cv3 3 rfl (wo_76 hW_σ3) hc219 ?_
              intro r0 σe hq0
              obtain ⟨rfl, hFe, hKe, -⟩ := hq0
              have hW10 := Fr.wd hFe hW_σ3
              have hRe := hR3.o30 hFe hKe
              have hs3e := (hKe 31 (by decide)).trans hs3
              refine tt_ar rfl ?_
              refine tt_ar rfl ?_
              refine tt_getR (wo_76 hW10) rfl (wr_76_36 hW10) ?_
              refine tt_ar rfl ?_
              refine tt_ar rfl ?_
              refine tt_imul (by omega) (by omega) ?_
              refine tt_ar rfl ?_
              refine tt_iadd (by omega) (by omega) ?_
              refine tt_ar rfl ?_
              refine tt_iast (((462 * m) + h)) (wa_98 hW10) (by omega) (by omega) (by omega) ?_
              refine tt_ar rfl ?_
              refine tt_ar rfl ?_
              refine tt_ar rfl ?_
              refine tt_ar rfl ?_
              refine tt_icge (fun h2_22 => ?_) (fun h2_22 => ?_)
              · refine tt_ar rfl ?_
                refine tt_ar rfl ?_
                refine tt_nop ?_
                have lp4_11 : ∀ (μ : Nat) (g : Nat) (l : Int), nkT k - g < μ → (g ≤ nkT k) → (l = ftR (nkT k) D (ahN 1000000 (nkT k) D ex (m - 1)) m h b g) → TT am_b235 (am_b235.getD 4 []) [(0, vR 76), (1, vI (((m : Nat) : Int))), (2, vI (((h : Nat) : Int))), (3, vI (b)), (4, vI (l)), (5, vI (((g : Nat) : Int)))] [] (am_set σe 98 (((462 * m) + h)) (b)) (fun r σ' => r = none ∧ RRb k nm ns D A σ' ∧ σ'.1 76 31 = 1 ∧ Fr [76, 94, 95, 96, 97, 98, 99, 100] σ σ' ∧ TLs k nm D ex σ') := by
                  intro μ
                  induction μ with
                  | zero => intro g l hμ; exact absurd hμ (Nat.not_lt_zero _)
                  | succ μ ih4 =>
                    intro g l hμ hg hl
                    refine tt_ar rfl ?_
                    refine tt_ar rfl ?_
                    refine tt_getI (x := ((nkT k : Nat) : Int)) (wo_76 hW10) rfl ((hKe 27 (by decide)).trans hR3.hs.1) ?_
                    refine tt_icge (fun h4_3 => ?_) (fun h4_3 => ?_)
                    · have hlf : l = miN 100000 (ahN 1000000 (nkT k) D ex m h) := by
                        rw [hl, ← ftR_end (by omega) hDx (fun m h _ => hx0 m h) hx9 (by omega), hb0]
                        unfold ftR
                        by_cases e1 : m = 0
                        · rw [if_pos e1, if_pos e1]
                        · rw [if_neg e1, if_neg e1]
                          by_cases e2 : b < 100000
                          · rw [if_pos e2, if_pos e2, show g = nkT k by omega]
                          · rw [if_neg e2, if_neg e2]
                      refine tt_ar rfl ?_
                      refine tt_getR (wo_76 hW10) rfl (wr_76_37 hW10) ?_
                      refine tt_ar rfl ?_
                      refine tt_ar rfl ?_
                      refine tt_imul (by omega) (by omega) ?_
                      refine tt_ar rfl ?_
                      refine tt_iadd (by omega) (by omega) ?_
                      refine tt_ar rfl ?_
                      refine tt_iast (((462 * m) + h)) (wa_99 hW10) (by omega) (by omega) (by omega) ?_
                      refine tt_iinc (y := ((h + 1 : Nat) : Int)) rfl (iinc_fit (by omega) (by omega) (by omega)) ?_
                      refine tt_goto ?_
                      refine tt_loc [(0, vR 76), (1, vI (((m : Nat) : Int))), (2, vI (((h + 1 : Nat) : Int)))] rfl rfl ⟨rfl, rfl, rfl, trivial⟩ ?_
                      exact ih2 (h + 1) _ (by omega) (Fr.put (Fr.put (Fr.tr (Fr.tr Fr.rf hF_σ3 (by decide)) hFe (by decide)) (by decide)) (by decide)) (by omega) (hRe.fr (W := [98, 99]) (Fr.put (Fr.put Fr.rf (by decide)) (by decide)) (by decide)) ((am_set_nb (by decide)).trans ((am_set_nb (by decide)).trans hs3e)) (fun g hg => by by_cases e : g = h; (rw [e]; exact ⟨(am_set_nb (by decide)).trans (am_set_rd.trans hb0.symm), am_set_rd.trans hlf⟩); (rw [am_set_nb (show (98 : Nat) ≠ 99 by decide), am_set_at, if_neg (by omega), am_set_at, if_neg (by omega), am_set_nb (show (99 : Nat) ≠ 98 by decide), hFe.2 98 (by decide), hFe.2 99 (by decide)]; exact hT3 g (by omega))) (fun y hy => by rw [am_set_nb (show (98 : Nat) ≠ 99 by decide), am_set_at, if_neg (by omega), am_set_at, if_neg (by omega), am_set_nb (show (99 : Nat) ≠ 98 by decide), hFe.2 98 (by decide), hFe.2 99 (by decide)]; exact hO3 y hy)
                    · refine tt_ar rfl ?_
                      refine tt_ifle (fun h4_5 => ?_) (fun h4_5 => ?_)
                      · have hlf : l = miN 100000 (ahN 1000000 (nkT k) D ex m h) := by
                          rw [hl, ← ftR_end (by omega) hDx (fun m h _ => hx0 m h) hx9 (by omega), hb0]
                          unfold ftR
                          by_cases e1 : m = 0
                          · rw [if_pos e1, if_pos e1]
                          · rw [if_neg e1, if_neg e1]
                            by_cases e2 : b < 100000
                            · rw [if_pos e2, if_pos e2, show g = nkT k by omega]
                            · rw [if_neg e2, if_neg e2]
                        refine tt_ar rfl ?_
                        refine tt_getR (wo_76 hW10) rfl (wr_76_37 hW10) ?_
                        refine tt_ar rfl ?_
                        refine tt_ar rfl ?_
                        refine tt_imul (by omega) (by omega) ?_
                        refine tt_ar rfl ?_
                        refine tt_iadd (by omega) (by omega) ?_
                        refine tt_ar rfl ?_
                        refine tt_iast (((462 * m) + h)) (wa_99 hW10) (by omega) (by omega) (by omega) ?_
                        refine tt_iinc (y := ((h + 1 : Nat) : Int)) rfl (iinc_fit (by omega) (by omega) (by omega)) ?_
                        refine tt_goto ?_
                        refine tt_loc [(0, vR 76), (1, vI (((m : Nat) : Int))), (2, vI (((h + 1 : Nat) : Int)))] rfl rfl ⟨rfl, rfl, rfl, trivial⟩ ?_
                        exact ih2 (h + 1) _ (by omega) (Fr.put (Fr.put (Fr.tr (Fr.tr Fr.rf hF_σ3 (by decide)) hFe (by decide)) (by decide)) (by decide)) (by omega) (hRe.fr (W := [98, 99]) (Fr.put (Fr.put Fr.rf (by decide)) (by decide)) (by decide)) ((am_set_nb (by decide)).trans ((am_set_nb (by decide)).trans hs3e)) (fun g hg => by by_cases e : g = h; (rw [e]; exact ⟨(am_set_nb (by decide)).trans (am_set_rd.trans hb0.symm), am_set_rd.trans hlf⟩); (rw [am_set_nb (show (98 : Nat) ≠ 99 by decide), am_set_at, if_neg (by omega), am_set_at, if_neg (by omega), am_set_nb (show (99 : Nat) ≠ 98 by decide), hFe.2 98 (by decide), hFe.2 99 (by decide)]; exact hT3 g (by omega))) (fun y hy => by rw [am_set_nb (show (98 : Nat) ≠ 99 by decide), am_set_at, if_neg (by omega), am_set_at, if_neg (by omega), am_set_nb (show (99 : Nat) ≠ 98 by decide), hFe.2 98 (by decide), hFe.2 99 (by decide)]; exact hO3 y hy)
                      · refine tt_ar rfl ?_
                        refine tt_ar rfl ?_
                        refine tt_icge (fun h4_8 => ?_) (fun h4_8 => ?_)
                        · have hlf : l = miN 100000 (ahN 1000000 (nkT k) D ex m h) := by
                            rw [hl, ← ftR_end (by omega) hDx (fun m h _ => hx0 m h) hx9 (by omega), hb0]
                            unfold ftR
                            by_cases e1 : m = 0
                            · rw [if_pos e1, if_pos e1]
                            · rw [if_neg e1, if_neg e1]
                              by_cases e2 : b < 100000
                              · rw [if_pos e2, if_pos e2, show g = nkT k by omega]
                              · rw [if_neg e2, if_neg e2]
                          refine tt_ar rfl ?_
                          refine tt_getR (wo_76 hW10) rfl (wr_76_37 hW10) ?_
                          refine tt_ar rfl ?_
                          refine tt_ar rfl ?_
                          refine tt_imul (by omega) (by omega) ?_
                          refine tt_ar rfl ?_
                          refine tt_iadd (by omega) (by omega) ?_
                          refine tt_ar rfl ?_
                          refine tt_iast (((462 * m) + h)) (wa_99 hW10) (by omega) (by omega) (by omega) ?_
                          refine tt_iinc (y := ((h + 1 : Nat) : Int)) rfl (iinc_fit (by omega) (by omega) (by omega)) ?_
                          refine tt_goto ?_
                          refine tt_loc [(0, vR 76), (1, vI (((m : Nat) : Int))), (2, vI (((h + 1 : Nat) : Int)))] rfl rfl ⟨rfl, rfl, rfl, trivial⟩ ?_
                          exact ih2 (h + 1) _ (by omega) (Fr.put (Fr.put (Fr.tr (Fr.tr Fr.rf hF_σ3 (by decide)) hFe (by decide)) (by decide)) (by decide)) (by omega) (hRe.fr (W := [98, 99]) (Fr.put (Fr.put Fr.rf (by decide)) (by decide)) (by decide)) ((am_set_nb (by decide)).trans ((am_set_nb (by decide)).trans hs3e)) (fun g hg => by by_cases e : g = h; (rw [e]; exact ⟨(am_set_nb (by decide)).trans (am_set_rd.trans hb0.symm), am_set_rd.trans hlf⟩); (rw [am_set_nb (show (98 : Nat) ≠ 99 by decide), am_set_at, if_neg (by omega), am_set_at, if_neg (by omega), am_set_nb (show (99 : Nat) ≠ 98 by decide), hFe.2 98 (by decide), hFe.2 99 (by decide)]; exact hT3 g (by omega))) (fun y hy => by rw [am_set_nb (show (98 : Nat) ≠ 99 by decide), am_set_at, if_neg (by omega), am_set_at, if_neg (by omega), am_set_nb (show (99 : Nat) ≠ 98 by decide), hFe.2 98 (by decide), hFe.2 99 (by decide)]; exact hO3 y hy)
                        · refine tt_ar rfl ?_
                          refine tt_getR (wo_76 hW10) rfl (wr_76_37 hW10) ?_
                          refine tt_ar rfl ?_
                          refine tt_ar rfl ?_
                          refine tt_ar rfl ?_
                          refine tt_isub (by omega) (by omega) ?_
                          refine tt_imul (by omega) (by omega) ?_
                          refine tt_ar rfl ?_
                          refine tt_iadd (by omega) (by omega) ?_
                          refine tt_iald (462 * (m - 1) + g) (x := miN 100000 (ahN 1000000 (nkT k) D ex (m - 1) g)) (wa_99 hW10) (by omega) (by omega) ((hFe.2 99 (by decide) (462 * (m - 1) + g)).trans (((hO3 (462 * (m - 1) + g) (by omega)).2.trans (hT1 (m - 1) (by omega) g (by omega)).2))) ?_
                          have ha9 := ahN_bd (F := 1000000) (N := nkT k) (D := D) (ex := ex) (by omega) (by omega) hD0 (fun m h _ => hx0 m h) (m - 1) (show g < nkT k by omega)
                          have ham := mi_c (ahN 1000000 (nkT k) D ex (m - 1) g)
                          refine tt_ar rfl ?_
                          refine tt_ar rfl ?_
                          refine tt_ar rfl ?_
                          have hd9 := hDx g h (by omega) (by omega)
                          refine tt_cv3 3 rfl (wo_76 hW10) (c233 A (am_set σe 98 (((462 * m) + h)) (b)) k nm ns D hA hW10 (hRe.fr (W := [98]) (Fr.put Fr.rf (by decide)) (by decide)) ((am_set_nb (by decide)).trans hs3e) g h (by omega) (by omega)) (kp ?_)
                          refine tt_iadd (by omega) (by omega) ?_
                          refine tt_ar rfl ?_
                          refine tt_iadd (by omega) (by omega) ?_
                          refine tt_ar rfl ?_
                          refine tt_ar rfl ?_
                          refine tt_ar rfl ?_
                          refine tt_icge (fun h4_29 => ?_) (fun h4_29 => ?_)
                          · refine tt_ar rfl ?_
                            refine tt_nop ?_
                            refine tt_ar rfl ?_
                            refine tt_iinc (y := ((g + 1 : Nat) : Int)) rfl (iinc_fit (by omega) (by omega) (by omega)) ?_
                            refine tt_goto ?_
                            refine tt_loc [(0, vR 76), (1, vI (((m : Nat) : Int))), (2, vI (((h : Nat) : Int))), (3, vI (b)), (4, vI (l)), (5, vI (((g + 1 : Nat) : Int)))] rfl rfl ⟨rfl, rfl, rfl, rfl, rfl, rfl, trivial⟩ ?_
                            exact ih4 (g + 1) (l) (by omega) (by omega) (by unfold ftR at hl ⊢; rw [if_neg (by omega), if_pos (by omega)] at hl ⊢; show _ = (if miN 100000 (ahN 1000000 (nkT k) D ex (m - 1) g) + D g h + b < mnN 100000 g (fun g => miN 100000 (ahN 1000000 (nkT k) D ex (m - 1) g) + D g h + b) then miN 100000 (ahN 1000000 (nkT k) D ex (m - 1) g) + D g h + b else mnN 100000 g (fun g => miN 100000 (ahN 1000000 (nkT k) D ex (m - 1) g) + D g h + b)); rw [← hl]; first | exact (if_pos (by omega)).symm | exact (if_neg (by omega)).symm)
                          · refine tt_ar rfl ?_
                            refine tt_goto ?_
                            refine tt_ar rfl ?_
                            refine tt_iinc (y := ((g + 1 : Nat) : Int)) rfl (iinc_fit (by omega) (by omega) (by omega)) ?_
                            refine tt_goto ?_
                            refine tt_loc [(0, vR 76), (1, vI (((m : Nat) : Int))), (2, vI (((h : Nat) : Int))), (3, vI (b)), (4, vI (((miN 100000 (ahN 1000000 (nkT k) D ex (m - 1) g) + D g h + b)))), (5, vI (((g + 1 : Nat) : Int)))] rfl rfl ⟨rfl, rfl, rfl, rfl, lv_to rfl (by omega), rfl, trivial⟩ ?_
                            exact ih4 (g + 1) ((miN 100000 (ahN 1000000 (nkT k) D ex (m - 1) g) + D g h + b)) (by omega) (by omega) (by unfold ftR at hl ⊢; rw [if_neg (by omega), if_pos (by omega)] at hl ⊢; show _ = (if miN 100000 (ahN 1000000 (nkT k) D ex (m - 1) g) + D g h + b < mnN 100000 g (fun g => miN 100000 (ahN 1000000 (nkT k) D ex (m - 1) g) + D g h + b) then miN 100000 (ahN 1000000 (nkT k) D ex (m - 1) g) + D g h + b else mnN 100000 g (fun g => miN 100000 (ahN 1000000 (nkT k) D ex (m - 1) g) + D g h + b)); rw [← hl]; first | exact (if_pos (by omega)).symm | exact (if_neg (by omega)).symm)
                refine tt_loc [(0, vR 76), (1, vI (((m : Nat) : Int))), (2, vI (((h : Nat) : Int))), (3, vI (b)), (4, vI (100000)), (5, vI (((0 : Nat) : Int)))] rfl rfl ⟨rfl, rfl, rfl, rfl, rfl, lv_to rfl (by omega), trivial⟩ ?_
                exact lp4_11 _ (0) (100000) (Nat.lt_succ_self _) (by omega) (by unfold ftR; first | (rw [if_neg (by omega), if_pos (by omega)]; rfl) | (rw [if_pos (by omega), if_pos (by omega)]) | (rw [if_neg (by omega), if_neg (by omega)]) | (rw [if_pos (by omega), if_neg (by omega)]) | (split <;> first | rfl | (rw [if_neg (by omega)])))
              · refine tt_ar rfl ?_
                refine tt_ifne (fun h2_24 => ?_) (fun h2_24 => ?_)
                · refine tt_ar rfl ?_
                  refine tt_ar rfl ?_
                  refine tt_nop ?_
                  have lp4_12 : ∀ (μ : Nat) (g : Nat) (l : Int), nkT k - g < μ → (g ≤ nkT k) → (l = ftR (nkT k) D (ahN 1000000 (nkT k) D ex (m - 1)) m h b g) → TT am_b235 (am_b235.getD 4 []) [(0, vR 76), (1, vI (((m : Nat) : Int))), (2, vI (((h : Nat) : Int))), (3, vI (b)), (4, vI (l)), (5, vI (((g : Nat) : Int)))] [] (am_set σe 98 (((462 * m) + h)) (b)) (fun r σ' => r = none ∧ RRb k nm ns D A σ' ∧ σ'.1 76 31 = 1 ∧ Fr [76, 94, 95, 96, 97, 98, 99, 100] σ σ' ∧ TLs k nm D ex σ') := by
                    intro μ
                    induction μ with
                    | zero => intro g l hμ; exact absurd hμ (Nat.not_lt_zero _)
                    | succ μ ih4 =>
                      intro g l hμ hg hl
                      refine tt_ar rfl ?_
                      refine tt_ar rfl ?_
                      refine tt_getI (x := ((nkT k : Nat) : Int)) (wo_76 hW10) rfl ((hKe 27 (by decide)).trans hR3.hs.1) ?_
                      refine tt_icge (fun h4_3 => ?_) (fun h4_3 => ?_)
                      · have hlf : l = miN 100000 (ahN 1000000 (nkT k) D ex m h) := by
                          rw [hl, ← ftR_end (by omega) hDx (fun m h _ => hx0 m h) hx9 (by omega), hb0]
                          unfold ftR
                          by_cases e1 : m = 0
                          · rw [if_pos e1, if_pos e1]
                          · rw [if_neg e1, if_neg e1]
                            by_cases e2 : b < 100000
                            · rw [if_pos e2, if_pos e2, show g = nkT k by omega]
                            · rw [if_neg e2, if_neg e2]
                        refine tt_ar rfl ?_
                        refine tt_getR (wo_76 hW10) rfl (wr_76_37 hW10) ?_
                        refine tt_ar rfl ?_
                        refine tt_ar rfl ?_
                        refine tt_imul (by omega) (by omega) ?_
                        refine tt_ar rfl ?_
                        refine tt_iadd (by omega) (by omega) ?_
                        refine tt_ar rfl ?_
                        refine tt_iast (((462 * m) + h)) (wa_99 hW10) (by omega) (by omega) (by omega) ?_
                        refine tt_iinc (y := ((h + 1 : Nat) : Int)) rfl (iinc_fit (by omega) (by omega) (by omega)) ?_
                        refine tt_goto ?_
                        refine tt_loc [(0, vR 76), (1, vI (((m : Nat) : Int))), (2, vI (((h + 1 : Nat) : Int)))] rfl rfl ⟨rfl, rfl, rfl, trivial⟩ ?_
                        exact ih2 (h + 1) _ (by omega) (Fr.put (Fr.put (Fr.tr (Fr.tr Fr.rf hF_σ3 (by decide)) hFe (by decide)) (by decide)) (by decide)) (by omega) (hRe.fr (W := [98, 99]) (Fr.put (Fr.put Fr.rf (by decide)) (by decide)) (by decide)) ((am_set_nb (by decide)).trans ((am_set_nb (by decide)).trans hs3e)) (fun g hg => by by_cases e : g = h; (rw [e]; exact ⟨(am_set_nb (by decide)).trans (am_set_rd.trans hb0.symm), am_set_rd.trans hlf⟩); (rw [am_set_nb (show (98 : Nat) ≠ 99 by decide), am_set_at, if_neg (by omega), am_set_at, if_neg (by omega), am_set_nb (show (99 : Nat) ≠ 98 by decide), hFe.2 98 (by decide), hFe.2 99 (by decide)]; exact hT3 g (by omega))) (fun y hy => by rw [am_set_nb (show (98 : Nat) ≠ 99 by decide), am_set_at, if_neg (by omega), am_set_at, if_neg (by omega), am_set_nb (show (99 : Nat) ≠ 98 by decide), hFe.2 98 (by decide), hFe.2 99 (by decide)]; exact hO3 y hy)
                      · refine tt_ar rfl ?_
                        refine tt_ifle (fun h4_5 => ?_) (fun h4_5 => ?_)
                        · have hlf : l = miN 100000 (ahN 1000000 (nkT k) D ex m h) := by
                            rw [hl, ← ftR_end (by omega) hDx (fun m h _ => hx0 m h) hx9 (by omega), hb0]
                            unfold ftR
                            by_cases e1 : m = 0
                            · rw [if_pos e1, if_pos e1]
                            · rw [if_neg e1, if_neg e1]
                              by_cases e2 : b < 100000
                              · rw [if_pos e2, if_pos e2, show g = nkT k by omega]
                              · rw [if_neg e2, if_neg e2]
                          refine tt_ar rfl ?_
                          refine tt_getR (wo_76 hW10) rfl (wr_76_37 hW10) ?_
                          refine tt_ar rfl ?_
                          refine tt_ar rfl ?_
                          refine tt_imul (by omega) (by omega) ?_
                          refine tt_ar rfl ?_
                          refine tt_iadd (by omega) (by omega) ?_
                          refine tt_ar rfl ?_
                          refine tt_iast (((462 * m) + h)) (wa_99 hW10) (by omega) (by omega) (by omega) ?_
                          refine tt_iinc (y := ((h + 1 : Nat) : Int)) rfl (iinc_fit (by omega) (by omega) (by omega)) ?_
                          refine tt_goto ?_
                          refine tt_loc [(0, vR 76), (1, vI (((m : Nat) : Int))), (2, vI (((h + 1 : Nat) : Int)))] rfl rfl ⟨rfl, rfl, rfl, trivial⟩ ?_
                          exact ih2 (h + 1) _ (by omega) (Fr.put (Fr.put (Fr.tr (Fr.tr Fr.rf hF_σ3 (by decide)) hFe (by decide)) (by decide)) (by decide)) (by omega) (hRe.fr (W := [98, 99]) (Fr.put (Fr.put Fr.rf (by decide)) (by decide)) (by decide)) ((am_set_nb (by decide)).trans ((am_set_nb (by decide)).trans hs3e)) (fun g hg => by by_cases e : g = h; (rw [e]; exact ⟨(am_set_nb (by decide)).trans (am_set_rd.trans hb0.symm), am_set_rd.trans hlf⟩); (rw [am_set_nb (show (98 : Nat) ≠ 99 by decide), am_set_at, if_neg (by omega), am_set_at, if_neg (by omega), am_set_nb (show (99 : Nat) ≠ 98 by decide), hFe.2 98 (by decide), hFe.2 99 (by decide)]; exact hT3 g (by omega))) (fun y hy => by rw [am_set_nb (show (98 : Nat) ≠ 99 by decide), am_set_at, if_neg (by omega), am_set_at, if_neg (by omega), am_set_nb (show (99 : Nat) ≠ 98 by decide), hFe.2 98 (by decide), hFe.2 99 (by decide)]; exact hO3 y hy)
                        · refine tt_ar rfl ?_
                          refine tt_ar rfl ?_
                          refine tt_icge (fun h4_8 => ?_) (fun h4_8 => ?_)
                          · have hlf : l = miN 100000 (ahN 1000000 (nkT k) D ex m h) := by
                              rw [hl, ← ftR_end (by omega) hDx (fun m h _ => hx0 m h) hx9 (by omega), hb0]
                              unfold ftR
                              by_cases e1 : m = 0
                              · rw [if_pos e1, if_pos e1]
                              · rw [if_neg e1, if_neg e1]
                                by_cases e2 : b < 100000
                                · rw [if_pos e2, if_pos e2, show g = nkT k by omega]
                                · rw [if_neg e2, if_neg e2]
                            refine tt_ar rfl ?_
                            refine tt_getR (wo_76 hW10) rfl (wr_76_37 hW10) ?_
                            refine tt_ar rfl ?_
                            refine tt_ar rfl ?_
                            refine tt_imul (by omega) (by omega) ?_
                            refine tt_ar rfl ?_
                            refine tt_iadd (by omega) (by omega) ?_
                            refine tt_ar rfl ?_
                            refine tt_iast (((462 * m) + h)) (wa_99 hW10) (by omega) (by omega) (by omega) ?_
                            refine tt_iinc (y := ((h + 1 : Nat) : Int)) rfl (iinc_fit (by omega) (by omega) (by omega)) ?_
                            refine tt_goto ?_
                            refine tt_loc [(0, vR 76), (1, vI (((m : Nat) : Int))), (2, vI (((h + 1 : Nat) : Int)))] rfl rfl ⟨rfl, rfl, rfl, trivial⟩ ?_
                            exact ih2 (h + 1) _ (by omega) (Fr.put (Fr.put (Fr.tr (Fr.tr Fr.rf hF_σ3 (by decide)) hFe (by decide)) (by decide)) (by decide)) (by omega) (hRe.fr (W := [98, 99]) (Fr.put (Fr.put Fr.rf (by decide)) (by decide)) (by decide)) ((am_set_nb (by decide)).trans ((am_set_nb (by decide)).trans hs3e)) (fun g hg => by by_cases e : g = h; (rw [e]; exact ⟨(am_set_nb (by decide)).trans (am_set_rd.trans hb0.symm), am_set_rd.trans hlf⟩); (rw [am_set_nb (show (98 : Nat) ≠ 99 by decide), am_set_at, if_neg (by omega), am_set_at, if_neg (by omega), am_set_nb (show (99 : Nat) ≠ 98 by decide), hFe.2 98 (by decide), hFe.2 99 (by decide)]; exact hT3 g (by omega))) (fun y hy => by rw [am_set_nb (show (98 : Nat) ≠ 99 by decide), am_set_at, if_neg (by omega), am_set_at, if_neg (by omega), am_set_nb (show (99 : Nat) ≠ 98 by decide), hFe.2 98 (by decide), hFe.2 99 (by decide)]; exact hO3 y hy)
                          · refine tt_ar rfl ?_
                            refine tt_getR (wo_76 hW10) rfl (wr_76_37 hW10) ?_
                            refine tt_ar rfl ?_
                            refine tt_ar rfl ?_
                            refine tt_ar rfl ?_
                            refine tt_isub (by omega) (by omega) ?_
                            refine tt_imul (by omega) (by omega) ?_
                            refine tt_ar rfl ?_
                            refine tt_iadd (by omega) (by omega) ?_
                            refine tt_iald (462 * (m - 1) + g) (x := miN 100000 (ahN 1000000 (nkT k) D ex (m - 1) g)) (wa_99 hW10) (by omega) (by omega) ((hFe.2 99 (by decide) (462 * (m - 1) + g)).trans (((hO3 (462 * (m - 1) + g) (by omega)).2.trans (hT1 (m - 1) (by omega) g (by omega)).2))) ?_
                            have ha9 := ahN_bd (F := 1000000) (N := nkT k) (D := D) (ex := ex) (by omega) (by omega) hD0 (fun m h _ => hx0 m h) (m - 1) (show g < nkT k by omega)
                            have ham := mi_c (ahN 1000000 (nkT k) D ex (m - 1) g)
                            refine tt_ar rfl ?_
                            refine tt_ar rfl ?_
                            refine tt_ar rfl ?_
                            have hd9 := hDx g h (by omega) (by omega)
                            refine tt_cv3 3 rfl (wo_76 hW10) (c233 A (am_set σe 98 (((462 * m) + h)) (b)) k nm ns D hA hW10 (hRe.fr (W := [98]) (Fr.put Fr.rf (by decide)) (by decide)) ((am_set_nb (by decide)).trans hs3e) g h (by omega) (by omega)) (kp ?_)
                            refine tt_iadd (by omega) (by omega) ?_
                            refine tt_ar rfl ?_
                            refine tt_iadd (by omega) (by omega) ?_
                            refine tt_ar rfl ?_
                            refine tt_ar rfl ?_
                            refine tt_ar rfl ?_
                            refine tt_icge (fun h4_29 => ?_) (fun h4_29 => ?_)
                            · refine tt_ar rfl ?_
                              refine tt_nop ?_
                              refine tt_ar rfl ?_
                              refine tt_iinc (y := ((g + 1 : Nat) : Int)) rfl (iinc_fit (by omega) (by omega) (by omega)) ?_
                              refine tt_goto ?_
                              refine tt_loc [(0, vR 76), (1, vI (((m : Nat) : Int))), (2, vI (((h : Nat) : Int))), (3, vI (b)), (4, vI (l)), (5, vI (((g + 1 : Nat) : Int)))] rfl rfl ⟨rfl, rfl, rfl, rfl, rfl, rfl, trivial⟩ ?_
                              exact ih4 (g + 1) (l) (by omega) (by omega) (by unfold ftR at hl ⊢; rw [if_neg (by omega), if_pos (by omega)] at hl ⊢; show _ = (if miN 100000 (ahN 1000000 (nkT k) D ex (m - 1) g) + D g h + b < mnN 100000 g (fun g => miN 100000 (ahN 1000000 (nkT k) D ex (m - 1) g) + D g h + b) then miN 100000 (ahN 1000000 (nkT k) D ex (m - 1) g) + D g h + b else mnN 100000 g (fun g => miN 100000 (ahN 1000000 (nkT k) D ex (m - 1) g) + D g h + b)); rw [← hl]; first | exact (if_pos (by omega)).symm | exact (if_neg (by omega)).symm)
                            · refine tt_ar rfl ?_
                              refine tt_goto ?_
                              refine tt_ar rfl ?_
                              refine tt_iinc (y := ((g + 1 : Nat) : Int)) rfl (iinc_fit (by omega) (by omega) (by omega)) ?_
                              refine tt_goto ?_
                              refine tt_loc [(0, vR 76), (1, vI (((m : Nat) : Int))), (2, vI (((h : Nat) : Int))), (3, vI (b)), (4, vI (((miN 100000 (ahN 1000000 (nkT k) D ex (m - 1) g) + D g h + b)))), (5, vI (((g + 1 : Nat) : Int)))] rfl rfl ⟨rfl, rfl, rfl, rfl, lv_to rfl (by omega), rfl, trivial⟩ ?_
                              exact ih4 (g + 1) ((miN 100000 (ahN 1000000 (nkT k) D ex (m - 1) g) + D g h + b)) (by omega) (by omega) (by unfold ftR at hl ⊢; rw [if_neg (by omega), if_pos (by omega)] at hl ⊢; show _ = (if miN 100000 (ahN 1000000 (nkT k) D ex (m - 1) g) + D g h + b < mnN 100000 g (fun g => miN 100000 (ahN 1000000 (nkT k) D ex (m - 1) g) + D g h + b) then miN 100000 (ahN 1000000 (nkT k) D ex (m - 1) g) + D g h + b else mnN 100000 g (fun g => miN 100000 (ahN 1000000 (nkT k) D ex (m - 1) g) + D g h + b)); rw [← hl]; first | exact (if_pos (by omega)).symm | exact (if_neg (by omega)).symm)
                  refine tt_loc [(0, vR 76), (1, vI (((m : Nat) : Int))), (2, vI (((h : Nat) : Int))), (3, vI (b)), (4, vI (100000)), (5, vI (((0 : Nat) : Int)))] rfl rfl ⟨rfl, rfl, rfl, rfl, rfl, lv_to rfl (by omega), trivial⟩ ?_
                  exact lp4_12 _ (0) (100000) (Nat.lt_succ_self _) (by omega) (by unfold ftR; first | (rw [if_neg (by omega), if_pos (by omega)]; rfl) | (rw [if_pos (by omega), if_pos (by omega)]) | (rw [if_neg (by omega), if_neg (by omega)]) | (rw [if_pos (by omega), if_neg (by omega)]) | (split <;> first | rfl | (rw [if_neg (by omega)])))
                · refine tt_ar rfl ?_
                  refine tt_ar rfl ?_
                  refine tt_ar rfl ?_
                  have hd9 := hDx 0 h (by omega) (by omega)
                  refine tt_cv3 3 rfl (wo_76 hW10) (c233 A (am_set σe 98 (((462 * m) + h)) (b)) k nm ns D hA hW10 (hRe.fr (W := [98]) (Fr.put Fr.rf (by decide)) (by decide)) ((am_set_nb (by decide)).trans hs3e) 0 h (by omega) (by omega)) (kp ?_)
                  refine tt_ar rfl ?_
                  refine tt_iadd (by omega) (by omega) ?_
                  refine tt_ar rfl ?_
                  refine tt_nop ?_
                  refine tt_ar rfl ?_
                  refine tt_ar rfl ?_
                  refine tt_nop ?_
                  have lp4_13 : ∀ (μ : Nat) (g : Nat) (l : Int), nkT k - g < μ → (g ≤ nkT k) → (l = ftR (nkT k) D (ahN 1000000 (nkT k) D ex (m - 1)) m h b g) → TT am_b235 (am_b235.getD 4 []) [(0, vR 76), (1, vI (((m : Nat) : Int))), (2, vI (((h : Nat) : Int))), (3, vI (b)), (4, vI (l)), (5, vI (((g : Nat) : Int)))] [] (am_set σe 98 (((462 * m) + h)) (b)) (fun r σ' => r = none ∧ RRb k nm ns D A σ' ∧ σ'.1 76 31 = 1 ∧ Fr [76, 94, 95, 96, 97, 98, 99, 100] σ σ' ∧ TLs k nm D ex σ') := by
                    intro μ
                    induction μ with
                    | zero => intro g l hμ; exact absurd hμ (Nat.not_lt_zero _)
                    | succ μ ih4 =>
                      intro g l hμ hg hl
                      refine tt_ar rfl ?_
                      refine tt_ar rfl ?_
                      refine tt_getI (x := ((nkT k : Nat) : Int)) (wo_76 hW10) rfl ((hKe 27 (by decide)).trans hR3.hs.1) ?_
                      refine tt_icge (fun h4_3 => ?_) (fun h4_3 => ?_)
                      · have hlf : l = miN 100000 (ahN 1000000 (nkT k) D ex m h) := by
                          rw [hl, ← ftR_end (by omega) hDx (fun m h _ => hx0 m h) hx9 (by omega), hb0]
                          unfold ftR
                          by_cases e1 : m = 0
                          · rw [if_pos e1, if_pos e1]
                          · rw [if_neg e1, if_neg e1]
                            by_cases e2 : b < 100000
                            · rw [if_pos e2, if_pos e2, show g = nkT k by omega]
                            · rw [if_neg e2, if_neg e2]
                        refine tt_ar rfl ?_
                        refine tt_getR (wo_76 hW10) rfl (wr_76_37 hW10) ?_
                        refine tt_ar rfl ?_
                        refine tt_ar rfl ?_
                        refine tt_imul (by omega) (by omega) ?_
                        refine tt_ar rfl ?_
                        refine tt_iadd (by omega) (by omega) ?_
                        refine tt_ar rfl ?_
                        refine tt_iast (((462 * m) + h)) (wa_99 hW10) (by omega) (by omega) (by omega) ?_
                        refine tt_iinc (y := ((h + 1 : Nat) : Int)) rfl (iinc_fit (by omega) (by omega) (by omega)) ?_
                        refine tt_goto ?_
                        refine tt_loc [(0, vR 76), (1, vI (((m : Nat) : Int))), (2, vI (((h + 1 : Nat) : Int)))] rfl rfl ⟨rfl, rfl, rfl, trivial⟩ ?_
                        exact ih2 (h + 1) _ (by omega) (Fr.put (Fr.put (Fr.tr (Fr.tr Fr.rf hF_σ3 (by decide)) hFe (by decide)) (by decide)) (by decide)) (by omega) (hRe.fr (W := [98, 99]) (Fr.put (Fr.put Fr.rf (by decide)) (by decide)) (by decide)) ((am_set_nb (by decide)).trans ((am_set_nb (by decide)).trans hs3e)) (fun g hg => by by_cases e : g = h; (rw [e]; exact ⟨(am_set_nb (by decide)).trans (am_set_rd.trans hb0.symm), am_set_rd.trans hlf⟩); (rw [am_set_nb (show (98 : Nat) ≠ 99 by decide), am_set_at, if_neg (by omega), am_set_at, if_neg (by omega), am_set_nb (show (99 : Nat) ≠ 98 by decide), hFe.2 98 (by decide), hFe.2 99 (by decide)]; exact hT3 g (by omega))) (fun y hy => by rw [am_set_nb (show (98 : Nat) ≠ 99 by decide), am_set_at, if_neg (by omega), am_set_at, if_neg (by omega), am_set_nb (show (99 : Nat) ≠ 98 by decide), hFe.2 98 (by decide), hFe.2 99 (by decide)]; exact hO3 y hy)
                      · refine tt_ar rfl ?_
                        refine tt_ifle (fun h4_5 => ?_) (fun h4_5 => ?_)
                        · have hlf : l = miN 100000 (ahN 1000000 (nkT k) D ex m h) := by
                            rw [hl, ← ftR_end (by omega) hDx (fun m h _ => hx0 m h) hx9 (by omega), hb0]
                            unfold ftR
                            by_cases e1 : m = 0
                            · rw [if_pos e1, if_pos e1]
                            · rw [if_neg e1, if_neg e1]
                              by_cases e2 : b < 100000
                              · rw [if_pos e2, if_pos e2, show g = nkT k by omega]
                              · rw [if_neg e2, if_neg e2]
                          refine tt_ar rfl ?_
                          refine tt_getR (wo_76 hW10) rfl (wr_76_37 hW10) ?_
                          refine tt_ar rfl ?_
                          refine tt_ar rfl ?_
                          refine tt_imul (by omega) (by omega) ?_
                          refine tt_ar rfl ?_
                          refine tt_iadd (by omega) (by omega) ?_
                          refine tt_ar rfl ?_
                          refine tt_iast (((462 * m) + h)) (wa_99 hW10) (by omega) (by omega) (by omega) ?_
                          refine tt_iinc (y := ((h + 1 : Nat) : Int)) rfl (iinc_fit (by omega) (by omega) (by omega)) ?_
                          refine tt_goto ?_
                          refine tt_loc [(0, vR 76), (1, vI (((m : Nat) : Int))), (2, vI (((h + 1 : Nat) : Int)))] rfl rfl ⟨rfl, rfl, rfl, trivial⟩ ?_
                          exact ih2 (h + 1) _ (by omega) (Fr.put (Fr.put (Fr.tr (Fr.tr Fr.rf hF_σ3 (by decide)) hFe (by decide)) (by decide)) (by decide)) (by omega) (hRe.fr (W := [98, 99]) (Fr.put (Fr.put Fr.rf (by decide)) (by decide)) (by decide)) ((am_set_nb (by decide)).trans ((am_set_nb (by decide)).trans hs3e)) (fun g hg => by by_cases e : g = h; (rw [e]; exact ⟨(am_set_nb (by decide)).trans (am_set_rd.trans hb0.symm), am_set_rd.trans hlf⟩); (rw [am_set_nb (show (98 : Nat) ≠ 99 by decide), am_set_at, if_neg (by omega), am_set_at, if_neg (by omega), am_set_nb (show (99 : Nat) ≠ 98 by decide), hFe.2 98 (by decide), hFe.2 99 (by decide)]; exact hT3 g (by omega))) (fun y hy => by rw [am_set_nb (show (98 : Nat) ≠ 99 by decide), am_set_at, if_neg (by omega), am_set_at, if_neg (by omega), am_set_nb (show (99 : Nat) ≠ 98 by decide), hFe.2 98 (by decide), hFe.2 99 (by decide)]; exact hO3 y hy)
                        · refine tt_ar rfl ?_
                          refine tt_ar rfl ?_
                          refine tt_icge (fun h4_8 => ?_) (fun h4_8 => ?_)
                          · have hlf : l = miN 100000 (ahN 1000000 (nkT k) D ex m h) := by
                              rw [hl, ← ftR_end (by omega) hDx (fun m h _ => hx0 m h) hx9 (by omega), hb0]
                              unfold ftR
                              by_cases e1 : m = 0
                              · rw [if_pos e1, if_pos e1]
                              · rw [if_neg e1, if_neg e1]
                                by_cases e2 : b < 100000
                                · rw [if_pos e2, if_pos e2, show g = nkT k by omega]
                                · rw [if_neg e2, if_neg e2]
                            refine tt_ar rfl ?_
                            refine tt_getR (wo_76 hW10) rfl (wr_76_37 hW10) ?_
                            refine tt_ar rfl ?_
                            refine tt_ar rfl ?_
                            refine tt_imul (by omega) (by omega) ?_
                            refine tt_ar rfl ?_
                            refine tt_iadd (by omega) (by omega) ?_
                            refine tt_ar rfl ?_
                            refine tt_iast (((462 * m) + h)) (wa_99 hW10) (by omega) (by omega) (by omega) ?_
                            refine tt_iinc (y := ((h + 1 : Nat) : Int)) rfl (iinc_fit (by omega) (by omega) (by omega)) ?_
                            refine tt_goto ?_
                            refine tt_loc [(0, vR 76), (1, vI (((m : Nat) : Int))), (2, vI (((h + 1 : Nat) : Int)))] rfl rfl ⟨rfl, rfl, rfl, trivial⟩ ?_
                            exact ih2 (h + 1) _ (by omega) (Fr.put (Fr.put (Fr.tr (Fr.tr Fr.rf hF_σ3 (by decide)) hFe (by decide)) (by decide)) (by decide)) (by omega) (hRe.fr (W := [98, 99]) (Fr.put (Fr.put Fr.rf (by decide)) (by decide)) (by decide)) ((am_set_nb (by decide)).trans ((am_set_nb (by decide)).trans hs3e)) (fun g hg => by by_cases e : g = h; (rw [e]; exact ⟨(am_set_nb (by decide)).trans (am_set_rd.trans hb0.symm), am_set_rd.trans hlf⟩); (rw [am_set_nb (show (98 : Nat) ≠ 99 by decide), am_set_at, if_neg (by omega), am_set_at, if_neg (by omega), am_set_nb (show (99 : Nat) ≠ 98 by decide), hFe.2 98 (by decide), hFe.2 99 (by decide)]; exact hT3 g (by omega))) (fun y hy => by rw [am_set_nb (show (98 : Nat) ≠ 99 by decide), am_set_at, if_neg (by omega), am_set_at, if_neg (by omega), am_set_nb (show (99 : Nat) ≠ 98 by decide), hFe.2 98 (by decide), hFe.2 99 (by decide)]; exact hO3 y hy)
                          · refine tt_ar rfl ?_
                            refine tt_getR (wo_76 hW10) rfl (wr_76_37 hW10) ?_
                            refine tt_ar rfl ?_
                            refine tt_ar rfl ?_
                            refine tt_ar rfl ?_
                            refine tt_isub (by omega) (by omega) ?_
                            refine tt_imul (by omega) (by omega) ?_
                            refine tt_ar rfl ?_
                            refine tt_iadd (by omega) (by omega) ?_
                            refine tt_iald (462 * (m - 1) + g) (x := miN 100000 (ahN 1000000 (nkT k) D ex (m - 1) g)) (wa_99 hW10) (by omega) (by omega) ((hFe.2 99 (by decide) (462 * (m - 1) + g)).trans (((hO3 (462 * (m - 1) + g) (by omega)).2.trans (hT1 (m - 1) (by omega) g (by omega)).2))) ?_
                            have ha9 := ahN_bd (F := 1000000) (N := nkT k) (D := D) (ex := ex) (by omega) (by omega) hD0 (fun m h _ => hx0 m h) (m - 1) (show g < nkT k by omega)
                            have ham := mi_c (ahN 1000000 (nkT k) D ex (m - 1) g)
                            refine tt_ar rfl ?_
                            refine tt_ar rfl ?_
                            refine tt_ar rfl ?_
                            have hd9 := hDx g h (by omega) (by omega)
                            refine tt_cv3 3 rfl (wo_76 hW10) (c233 A (am_set σe 98 (((462 * m) + h)) (b)) k nm ns D hA hW10 (hRe.fr (W := [98]) (Fr.put Fr.rf (by decide)) (by decide)) ((am_set_nb (by decide)).trans hs3e) g h (by omega) (by omega)) (kp ?_)
                            refine tt_iadd (by omega) (by omega) ?_
                            refine tt_ar rfl ?_
                            refine tt_iadd (by omega) (by omega) ?_
                            refine tt_ar rfl ?_
                            refine tt_ar rfl ?_
                            refine tt_ar rfl ?_
                            refine tt_icge (fun h4_29 => ?_) (fun h4_29 => ?_)
                            · refine tt_ar rfl ?_
                              refine tt_nop ?_
                              refine tt_ar rfl ?_
                              refine tt_iinc (y := ((g + 1 : Nat) : Int)) rfl (iinc_fit (by omega) (by omega) (by omega)) ?_
                              refine tt_goto ?_
                              refine tt_loc [(0, vR 76), (1, vI (((m : Nat) : Int))), (2, vI (((h : Nat) : Int))), (3, vI (b)), (4, vI (l)), (5, vI (((g + 1 : Nat) : Int)))] rfl rfl ⟨rfl, rfl, rfl, rfl, rfl, rfl, trivial⟩ ?_
                              exact ih4 (g + 1) (l) (by omega) (by omega) (by unfold ftR at hl ⊢; rw [if_neg (by omega), if_pos (by omega)] at hl ⊢; show _ = (if miN 100000 (ahN 1000000 (nkT k) D ex (m - 1) g) + D g h + b < mnN 100000 g (fun g => miN 100000 (ahN 1000000 (nkT k) D ex (m - 1) g) + D g h + b) then miN 100000 (ahN 1000000 (nkT k) D ex (m - 1) g) + D g h + b else mnN 100000 g (fun g => miN 100000 (ahN 1000000 (nkT k) D ex (m - 1) g) + D g h + b)); rw [← hl]; first | exact (if_pos (by omega)).symm | exact (if_neg (by omega)).symm)
                            · refine tt_ar rfl ?_
                              refine tt_goto ?_
                              refine tt_ar rfl ?_
                              refine tt_iinc (y := ((g + 1 : Nat) : Int)) rfl (iinc_fit (by omega) (by omega) (by omega)) ?_
                              refine tt_goto ?_
                              refine tt_loc [(0, vR 76), (1, vI (((m : Nat) : Int))), (2, vI (((h : Nat) : Int))), (3, vI (b)), (4, vI (((miN 100000 (ahN 1000000 (nkT k) D ex (m - 1) g) + D g h + b)))), (5, vI (((g + 1 : Nat) : Int)))] rfl rfl ⟨rfl, rfl, rfl, rfl, lv_to rfl (by omega), rfl, trivial⟩ ?_
                              exact ih4 (g + 1) ((miN 100000 (ahN 1000000 (nkT k) D ex (m - 1) g) + D g h + b)) (by omega) (by omega) (by unfold ftR at hl ⊢; rw [if_neg (by omega), if_pos (by omega)] at hl ⊢; show _ = (if miN 100000 (ahN 1000000 (nkT k) D ex (m - 1) g) + D g h + b < mnN 100000 g (fun g => miN 100000 (ahN 1000000 (nkT k) D ex (m - 1) g) + D g h + b) then miN 100000 (ahN 1000000 (nkT k) D ex (m - 1) g) + D g h + b else mnN 100000 g (fun g => miN 100000 (ahN 1000000 (nkT k) D ex (m - 1) g) + D g h + b)); rw [← hl]; first | exact (if_pos (by omega)).symm | exact (if_neg (by omega)).symm)
                  refine tt_loc [(0, vR 76), (1, vI (((m : Nat) : Int))), (2, vI (((h : Nat) : Int))), (3, vI (b)), (4, vI (((D 0 h + b)))), (5, vI (((0 : Nat) : Int)))] rfl rfl ⟨rfl, rfl, rfl, rfl, lv_to rfl (by omega), lv_to rfl (by omega), trivial⟩ ?_
                  exact lp4_13 _ (0) ((D 0 h + b)) (Nat.lt_succ_self _) (by omega) (by unfold ftR; first | (rw [if_neg (by omega), if_pos (by omega)]; rfl) | (rw [if_pos (by omega), if_pos (by omega)]) | (rw [if_neg (by omega), if_neg (by omega)]) | (rw [if_pos (by omega), if_neg (by omega)]) | (split <;> first | rfl | (rw [if_neg (by omega)])))
        refine tt_loc [(0, vR 76), (1, vI (((m : Nat) : Int))), (2, vI (((0 : Nat) : Int)))] rfl rfl ⟨rfl, rfl, lv_to rfl (by omega), trivial⟩ ?_
        exact lp2_9 _ (0) σ1 (Nat.lt_succ_self _) Fr.rf (by omega) hR1 hs1 (fun g hg => absurd hg (Nat.not_lt_zero g)) (fun y hy => ⟨rfl, rfl⟩)
  refine tt_loc [(0, vR 76), (1, vI (((0 : Nat) : Int)))] rfl rfl ⟨rfl, lv_to rfl (by omega), trivial⟩ ?_
  exact lp1_2 _ (0) σ2 (Nat.lt_succ_self _) Fr.rf (by omega) hRs h31s (fun q hq => absurd hq (Nat.not_lt_zero q))

