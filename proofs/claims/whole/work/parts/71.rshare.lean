/-! THE REFERENCE'S CALLS: WAYS, SHARE -/
theorem RRb.o3 {k nm ns : Nat} {D : Nat → Nat → Int} {A σ : am_S} {x : Int} (h : RRb k nm ns D A σ) : RRb k nm ns D (am_set A 2 13 x) (am_set σ 76 3 x) := by
  obtain ⟨b1, b2, b3, b4, b5⟩ := h.sc
  exact h.sm (fun a h1 h2 => am_set_c h1) (fun a h1 h2 => am_set_c h1) (fun j hj => (am_set_at).trans (if_neg (by omega))) ⟨b1, b2, rfl, b4, b5⟩ h.fs
theorem RRb.o45 {k nm ns : Nat} {D : Nat → Nat → Int} {A σ : am_S} {x y : Int} (h : RRb k nm ns D A σ) : RRb k nm ns D (am_set (am_set A 2 14 x) 2 15 y) (am_set (am_set σ 76 4 x) 76 5 y) := by
  obtain ⟨b1, b2, b3, b4, b5⟩ := h.sc
  exact h.sm (fun a h1 h2 => (am_set_c h1).trans (am_set_c h1)) (fun a h1 h2 => (am_set_c h1).trans (am_set_c h1)) (fun j hj => (am_set_at).trans ((if_neg (by omega)).trans ((am_set_at).trans (if_neg (by omega))))) ⟨b1, b2, b3, rfl, rfl⟩ h.fs
def onW (k nm : Nat) (D ex : Nat → Nat → Int) (m h g : Nat) : Int := if m + 1 = nm then (if plM 1000000 (nkT k) nm D ex m h = true then 1 else 0) else if plM 1000000 (nkT k) nm D ex m h = true then sumN g (fun g => if foM 1000000 (nkT k) D ex m h g = true then onM 1000000 (nkT k) nm D ex (nm - 1 - (m + 1)) g else 0) else 0
theorem onW_end {k nm m h : Nat} {D ex : Nat → Nat → Int} (hm : m < nm) : onW k nm D ex m h (nkT k) = onM 1000000 (nkT k) nm D ex (nm - 1 - m) h := by
  unfold onW
  by_cases e : m + 1 = nm
  · rw [if_pos e, show nm - 1 - m = 0 by omega]
    show _ = if plM 1000000 (nkT k) nm D ex (nm - 1) h = true then 1 else 0
    rw [show nm - 1 = m by omega]
  · rw [if_neg e, show nm - 1 - m = (nm - 1 - (m + 1)) + 1 by omega]
    show _ = if plM 1000000 (nkT k) nm D ex (nm - 1 - (nm - 1 - (m + 1) + 1)) h = true then sumN (nkT k) (fun g => if foM 1000000 (nkT k) D ex (nm - 1 - (nm - 1 - (m + 1) + 1)) h g = true then onM 1000000 (nkT k) nm D ex (nm - 1 - (m + 1)) g else 0) else 0
    rw [show nm - 1 - (nm - 1 - (m + 1) + 1) = m by omega]
theorem on_zc {k nm c g : Nat} {D ex : Nat → Nat → Int} (hc : 0 < nm ∧ c < nm ∧ ¬ plM 1000000 (nkT k) nm D ex c g = true) : onM 1000000 (nkT k) nm D ex (nm - 1 - c) g = 0 := on_zz hc.2.1 (by
  cases h : plM 1000000 (nkT k) nm D ex c g with
  | false => rfl
  | true => exact absurd h hc.2.2)
theorem c240 (A σ : am_S) (k nm ns : Nat) (D : Nat → Nat → Int) (hA : CI k nm ns D A) (hW : Wd σ) (hR : RRb k nm ns D A σ) : CC 240 [vR 76] σ (fun r σ' => PMd A σ (x_ways k nm D A ) r σ') := by
  show TT am_b240 (am_b240.getD 0 []) [(0, vR 76)] [] σ _
  have hk5 := hR.aa.1
  have hl27 := hR.aa.2.1
  have hs47 := hR.aa.2.2
  have hk6 := hA.x.1.2.1
  have hm12 := hA.x.2.2.1.2.1
  have hs16 := hA.st.2
  have hDA := hA.x.1
  have hHT := hA.x.2.1
  have hLA := hA.x.2.2.1
  have hHB := HB_of hDA hHT
  have hnb := nkT_bd k
  obtain ⟨ex, hxA⟩ : ∃ ex : Nat → Nat → Int, exA k A = ex := ⟨_, rfl⟩
  have hRH := RH_of hA hxA
  refine tt_ar rfl ?_
  refine tt_cv1 1 rfl (wo_76 hW) (c235 A σ k nm ns D hA hW hR ex hxA) ?_
  intro r0 σt hq0
  obtain ⟨rfl, hRt, hst, hFt, hT⟩ := hq0
  have hW1 := Fr.wd hFt hW
  have hbsd := bs_dc (n := nm) hRH
  have hbm := mi_c (bsN 1000000 (nkT k) nm D ex)
  refine tt_ar rfl ?_
  refine tt_getI (x := miN 100000 (bsN 1000000 (nkT k) nm D ex)) (wo_76 hW1) rfl hT.2 ?_
  refine tt_ar rfl ?_
  refine tt_icne (fun h0_5 => ?_) (fun h0_5 => ?_)
  · refine tt_ar rfl ?_
    have htold : bsN 1000000 (nkT k) nm D ex < 1000000 := by omega
    have hwp := wy_pos (hRH.th htold)
    refine tt_cv1 1 rfl (wo_76 hW1) (c241 A σt k nm ns D hA hW1 hRt ex hxA hst hT htold) ?_
    intro r0 σw hq0
    obtain ⟨rfl, hFw, hto⟩ := hq0
    have hW2 := Fr.wd hFw hW1
    have htl : tlA k nm D A = cpM 1000000000000001 (wyM 1000000 (nkT k) nm D ex) := by unfold tlA; rw [hxA, if_pos htold]
    refine tt_ar rfl ?_
    refine tt_ar rfl ?_
    refine tt_ar rfl ?_
    refine tt_lcmp (fun h3 => ?_) (fun h4 => ?_) (fun h5 => ?_)
    ·
      refine tt_ifleT (by decide) ?_
      refine tt_ar rfl ?_
      refine tt_ar rfl ?_
      refine tt_putL (wo_76 hW2) rfl ?_
      refine tt_ar rfl ?_
      refine tt_iret ?_
      have hcp : 1 ≤ cpM 1000000000000001 (wyM 1000000 (nkT k) nm D ex) := by unfold cpM; split <;> omega
      exact pm_any ((hRt.fr hFw (by decide)).o3) (show x_ways k nm D A = (vI 1, am_set A 2 13 (cpM 1000000000000001 (wyM 1000000 (nkT k) nm D ex))) by unfold x_ways; rw [htl, if_neg (by omega), if_pos (by omega)]) ⟨(QR.of (Fr.tr (Fr.mono hFt (by decide) : Fr [76, 94, 95, 96, 97, 98, 99, 100, 102] σ σt) hFw (by decide)) (by decide)).1, fun a ha j => (am_set_nb (by omega)).trans ((QR.of (Fr.tr (Fr.mono hFt (by decide) : Fr [76, 94, 95, 96, 97, 98, 99, 100, 102] σ σt) hFw (by decide)) (by decide)).2 a ha j)⟩
    ·
      refine tt_ifleT (by decide) ?_
      refine tt_ar rfl ?_
      refine tt_ar rfl ?_
      refine tt_putL (wo_76 hW2) rfl ?_
      refine tt_ar rfl ?_
      refine tt_iret ?_
      have hcp : 1 ≤ cpM 1000000000000001 (wyM 1000000 (nkT k) nm D ex) := by unfold cpM; split <;> omega
      exact pm_any ((hRt.fr hFw (by decide)).o3) (show x_ways k nm D A = (vI 1, am_set A 2 13 (cpM 1000000000000001 (wyM 1000000 (nkT k) nm D ex))) by unfold x_ways; rw [htl, if_neg (by omega), if_pos (by omega)]) ⟨(QR.of (Fr.tr (Fr.mono hFt (by decide) : Fr [76, 94, 95, 96, 97, 98, 99, 100, 102] σ σt) hFw (by decide)) (by decide)).1, fun a ha j => (am_set_nb (by omega)).trans ((QR.of (Fr.tr (Fr.mono hFt (by decide) : Fr [76, 94, 95, 96, 97, 98, 99, 100, 102] σ σt) hFw (by decide)) (by decide)).2 a ha j)⟩
    ·
      refine tt_ifleF (by decide) ?_
      refine tt_ar rfl ?_
      refine tt_iret ?_
      exact pm_same (hRt.fr hFw (by decide)) (show x_ways k nm D A = (vI (-6), A) by unfold x_ways; rw [htl, if_pos (by omega)]) (QR.of (Fr.tr (Fr.mono hFt (by decide) : Fr [76, 94, 95, 96, 97, 98, 99, 100, 102] σ σt) hFw (by decide)) (by decide))
  · refine tt_ar rfl ?_
    refine tt_ar rfl ?_
    refine tt_putL (wo_76 hW1) rfl ?_
    refine tt_ar rfl ?_
    refine tt_iret ?_
    have htl : tlA k nm D A = 0 := by unfold tlA; rw [hxA, if_neg (by omega)]
    exact pm_any (hRt.o3 (x := 0)) (show x_ways k nm D A = (vI 0, am_set A 2 13 0) by unfold x_ways; rw [htl, if_neg (by omega), if_neg (by omega)]) ⟨(QR.of hFt (by decide)).1, fun a ha j => (am_set_nb (by omega)).trans ((QR.of hFt (by decide)).2 a ha j)⟩

theorem c242 (A σ : am_S) (k nm ns : Nat) (D : Nat → Nat → Int) (hA : CI k nm ns D A) (hW : Wd σ) (hR : RRb k nm ns D A σ) : CC 242 [vR 76] σ (fun r σ' => PMd A σ (x_tales A ) r σ') := by
  show TT am_b242 (am_b242.getD 0 []) [(0, vR 76)] [] σ _
  refine tt_ar rfl ?_
  refine tt_getL (x := A.1 2 13) (wo_76 hW) rfl hR.sc.2.2.1 ?_
  refine tt_lret ?_
  exact pm_any (M := A) hR (show x_tales A  = (vL (A.1 2 13), A) by rfl) QR.rf

theorem c245 (A σ : am_S) (k nm ns : Nat) (D : Nat → Nat → Int) (hA : CI k nm ns D A) (hW : Wd σ) (hR : RRb k nm ns D A σ) (ex : Nat → Nat → Int) (hex : exA k A = ex) (hs : σ.1 76 31 = 1) (hT : TLs k nm D ex σ) (ht : bsN 1000000 (nkT k) nm D ex < 1000000) (hwy : wyM 1000000 (nkT k) nm D ex ≤ 1000000000000000) : CC 245 [vR 76] σ (fun r σ' => r = none ∧ Fr [103] σ σ' ∧ ∀ q, q < nm → ∀ h, h < nkT k → σ'.1 103 (462 * q + h) = onM 1000000 (nkT k) nm D ex (nm - 1 - q) h) := by
  show TT am_b245 (am_b245.getD 0 []) [(0, vR 76)] [] σ _
  have hk5 := hR.aa.1
  have hl27 := hR.aa.2.1
  have hs47 := hR.aa.2.2
  have hk6 := hA.x.1.2.1
  have hm12 := hA.x.2.2.1.2.1
  have hs16 := hA.st.2
  have hDA := hA.x.1
  have hHT := hA.x.2.1
  have hLA := hA.x.2.2.1
  have hHB := HB_of hDA hHT
  have hnb := nkT_bd k
  have hpr := hDA.2.2.2.1
  have hDx : ∀ a b, a < nkT k → b < nkT k → 0 ≤ D a b ∧ D a b ≤ 90 := fun a b ha hb => DI.bd hk6 hpr hA.x.2.2.2 ha hb
  have hD0 : ∀ a b, a < nkT k → b < nkT k → 0 ≤ D a b := fun a b ha hb => (hDx a b ha hb).1
  have hx9 : ∀ m h, ex m h ≤ 9 ∨ ex m h = 1000000 := fun m h => by rw [← hex]; exact (ep_mi hDA).2.1
  have hx0 : ∀ m h, 0 ≤ ex m h := fun m h => by rw [← hex]; exact (ep_mi hDA).2.2
  have hep : ∀ m h, epR A k m h = miN 100000 (ex m h) := fun m h => by rw [← hex]; exact (ep_mi hDA).1
  have hRH := RH_of hA hex
  refine tt_ar rfl ?_
  refine tt_getI (x := ((nm : Nat) : Int)) (wo_76 hW) rfl hR.ln.1 ?_
  refine tt_ar rfl ?_
  refine tt_isub (by omega) (by omega) ?_
  refine tt_ar rfl ?_
  refine tt_nop ?_
  have lp1_1 : ∀ (μ : Nat) (c : Nat) (σ1 : am_S), c < μ → Fr [103] σ σ1 → (c ≤ nm) → (∀ q, c ≤ q → q < nm → ∀ h, h < nkT k → σ1.1 103 (462 * q + h) = onM 1000000 (nkT k) nm D ex (nm - 1 - q) h) → TT am_b245 (am_b245.getD 1 []) [(0, vR 76), (1, vI ((((c : Nat) : Int) - 1)))] [] σ1 (fun r σ' => r = none ∧ Fr [103] σ σ' ∧ ∀ q, q < nm → ∀ h, h < nkT k → σ'.1 103 (462 * q + h) = onM 1000000 (nkT k) nm D ex (nm - 1 - q) h) := by
    intro μ
    induction μ with
    | zero => intro c σ1 hμ; exact absurd hμ (Nat.not_lt_zero _)
    | succ μ ih1 =>
      intro c σ1 hμ hF_σ1 hc hOn
      have hW_σ1 := Fr.wd hF_σ1 hW
      refine tt_ar rfl ?_
      refine tt_iflt (fun h1_1 => ?_) (fun h1_1 => ?_)
      · refine tt_vret ?_
        have ec : c = 0 := by omega
        subst ec
        exact ⟨rfl, hF_σ1, fun q hq h hh => hOn q (Nat.zero_le q) hq h hh⟩
      · refine tt_loc [(0, vR 76), (1, vI (((c - 1 : Nat) : Int)))] rfl rfl ⟨rfl, lv_to rfl (by omega), trivial⟩ ?_
        refine tt_ar rfl ?_
        refine tt_ar rfl ?_
        refine tt_nop ?_
        have lp2_2 : ∀ (μ : Nat) (h : Nat) (σ2 : am_S), nkT k - h < μ → Fr [103] σ1 σ2 → (h ≤ nkT k) → (∀ g, g < h → σ2.1 103 (462 * (c - 1) + g) = onM 1000000 (nkT k) nm D ex (nm - 1 - (c - 1)) g) → (∀ y, 462 * c ≤ y → σ2.1 103 y = σ1.1 103 y) → TT am_b245 (am_b245.getD 2 []) [(0, vR 76), (1, vI (((c - 1 : Nat) : Int))), (2, vI (((h : Nat) : Int)))] [] σ2 (fun r σ' => r = none ∧ Fr [103] σ σ' ∧ ∀ q, q < nm → ∀ h, h < nkT k → σ'.1 103 (462 * q + h) = onM 1000000 (nkT k) nm D ex (nm - 1 - q) h) := by
          intro μ
          induction μ with
          | zero => intro h σ2 hμ; exact absurd hμ (Nat.not_lt_zero _)
          | succ μ ih2 =>
            intro h σ2 hμ hF_σ2 hh hOh hO2
            have hW_σ2 := Fr.wd hF_σ2 hW_σ1
            have hTt := hT.fr (W := [103]) (Fr.tr hF_σ1 hF_σ2 (by decide)) (by decide)
            have hRx := hR.fr (W := [103]) (Fr.tr hF_σ1 hF_σ2 (by decide)) (by decide)
            have hsx := (hF_σ2.2 76 (by decide) 31).trans ((hF_σ1.2 76 (by decide) 31).trans hs)
            refine tt_ar rfl ?_
            refine tt_ar rfl ?_
            refine tt_getI (x := ((nkT k : Nat) : Int)) (wo_76 hW_σ2) rfl (((hF_σ2.2 76 (by decide) (27)).trans (hF_σ1.2 76 (by decide) (27))).trans hR.hs.1) ?_
            refine tt_icge (fun h2_3 => ?_) (fun h2_3 => ?_)
            · refine tt_iinc (y := (((c - 1 : Nat) : Int) - 1)) rfl (iinc_fit (by omega) (by omega) (by omega)) ?_
              refine tt_goto ?_
              refine tt_loc [(0, vR 76), (1, vI ((((c - 1 : Nat) : Int) - 1)))] rfl rfl ⟨rfl, rfl, trivial⟩ ?_
              exact ih1 (c - 1) σ2 (by omega) (Fr.tr (Fr.tr Fr.rf hF_σ1 (by decide)) hF_σ2 (by decide)) (by omega) (fun q h1 h2 x hx => by by_cases e : q = c - 1; (rw [e]; exact hOh x (by omega)); (rw [hO2 _ (by omega)]; exact hOn q (by omega) h2 x hx))
            · refine tt_ar rfl ?_
              refine tt_ar rfl ?_
              refine tt_imul (by omega) (by omega) ?_
              refine tt_ar rfl ?_
              refine tt_iadd (by omega) (by omega) ?_
              refine tt_ar rfl ?_
              refine tt_ar rfl ?_
              refine tt_ar rfl ?_
              refine tt_getI (x := ((nm : Nat) : Int)) (wo_76 hW_σ2) rfl (((hF_σ2.2 76 (by decide) (25)).trans (hF_σ1.2 76 (by decide) (25))).trans hR.ln.1) ?_
              refine tt_ar rfl ?_
              refine tt_isub (by omega) (by omega) ?_
              refine tt_icne (fun h2_15 => ?_) (fun h2_15 => ?_)
              · refine tt_ar rfl ?_
                refine tt_nop ?_
                refine tt_ar rfl ?_
                refine tt_ar rfl ?_
                refine tt_ar rfl ?_
                refine tt_nop ?_
                have lp5_3 : ∀ (μ : Nat) (g : Nat) (l : Int), nkT k - g < μ → (g ≤ nkT k) → (l = onW k nm D ex (c - 1) h g) → (0 ≤ l ∧ l ≤ 1000000000000000 * ((g : Nat) : Int) + 1) → TT am_b245 (am_b245.getD 5 []) [(0, vR 76), (1, vI (((c - 1 : Nat) : Int))), (2, vI (((h : Nat) : Int))), (3, vI (((462 * ((c - 1 : Nat) : Int)) + ((h : Nat) : Int)))), (4, vL (l)), (6, vI (((g : Nat) : Int)))] [] σ2 (fun r σ' => r = none ∧ Fr [103] σ σ' ∧ ∀ q, q < nm → ∀ h, h < nkT k → σ'.1 103 (462 * q + h) = onM 1000000 (nkT k) nm D ex (nm - 1 - q) h) := by
                  intro μ
                  induction μ with
                  | zero => intro g l hμ; exact absurd hμ (Nat.not_lt_zero _)
                  | succ μ ih5 =>
                    intro g l hμ hg hl hlb
                    refine tt_ar rfl ?_
                    refine tt_ar rfl ?_
                    refine tt_getI (x := ((nkT k : Nat) : Int)) (wo_76 hW_σ2) rfl (((hF_σ2.2 76 (by decide) (27)).trans (hF_σ1.2 76 (by decide) (27))).trans hR.hs.1) ?_
                    refine tt_icge (fun h5_3 => ?_) (fun h5_3 => ?_)
                    · have hlf : l = onM 1000000 (nkT k) nm D ex (nm - 1 - (c - 1)) h := by
                        rw [hl, ← onW_end (by omega)]
                        unfold onW
                        by_cases e1 : c - 1 + 1 = nm
                        · rw [if_pos e1, if_pos e1]
                        · rw [if_neg e1, if_neg e1]
                          by_cases e2 : plM 1000000 (nkT k) nm D ex (c - 1) h = true
                          · first | (rw [if_pos e2, if_pos e2, show g = nkT k by omega]) | exact absurd e2 h5_13
                          · rw [if_neg e2, if_neg e2]
                      refine tt_ar rfl ?_
                      refine tt_getR (wo_76 hW_σ2) rfl (wr_76_42 hW_σ2) ?_
                      refine tt_ar rfl ?_
                      refine tt_ar rfl ?_
                      refine tt_last ((462 * (c - 1)) + h) (wa_103 hW_σ2) (by omega) (by omega) (by omega) ?_
                      refine tt_iinc (y := ((h + 1 : Nat) : Int)) rfl (iinc_fit (by omega) (by omega) (by omega)) ?_
                      refine tt_goto ?_
                      refine tt_loc [(0, vR 76), (1, vI (((c - 1 : Nat) : Int))), (2, vI (((h + 1 : Nat) : Int)))] rfl rfl ⟨rfl, rfl, rfl, trivial⟩ ?_
                      exact ih2 (h + 1) _ (by omega) (Fr.put (Fr.tr Fr.rf hF_σ2 (by decide)) (by decide)) (by omega) (fun g hg => by rw [am_set_at]; by_cases e : g = h; (rw [if_pos (by omega), e]; exact hlf); (rw [if_neg (by omega)]; exact hOh g (by omega))) (fun y hy => by rw [am_set_at, if_neg (by omega)]; exact hO2 y hy)
                    · refine tt_ar rfl ?_
                      refine tt_ar rfl ?_
                      refine tt_getI (x := ((nm : Nat) : Int)) (wo_76 hW_σ2) rfl (((hF_σ2.2 76 (by decide) (25)).trans (hF_σ1.2 76 (by decide) (25))).trans hR.ln.1) ?_
                      refine tt_ar rfl ?_
                      refine tt_isub (by omega) (by omega) ?_
                      refine tt_icge (fun h5_9 => ?_) (fun h5_9 => ?_)
                      · have hlf : l = onM 1000000 (nkT k) nm D ex (nm - 1 - (c - 1)) h := by
                          rw [hl, ← onW_end (by omega)]
                          unfold onW
                          by_cases e1 : c - 1 + 1 = nm
                          · rw [if_pos e1, if_pos e1]
                          · rw [if_neg e1, if_neg e1]
                            by_cases e2 : plM 1000000 (nkT k) nm D ex (c - 1) h = true
                            · first | (rw [if_pos e2, if_pos e2, show g = nkT k by omega]) | exact absurd e2 h5_13
                            · rw [if_neg e2, if_neg e2]
                        refine tt_ar rfl ?_
                        refine tt_getR (wo_76 hW_σ2) rfl (wr_76_42 hW_σ2) ?_
                        refine tt_ar rfl ?_
                        refine tt_ar rfl ?_
                        refine tt_last ((462 * (c - 1)) + h) (wa_103 hW_σ2) (by omega) (by omega) (by omega) ?_
                        refine tt_iinc (y := ((h + 1 : Nat) : Int)) rfl (iinc_fit (by omega) (by omega) (by omega)) ?_
                        refine tt_goto ?_
                        refine tt_loc [(0, vR 76), (1, vI (((c - 1 : Nat) : Int))), (2, vI (((h + 1 : Nat) : Int)))] rfl rfl ⟨rfl, rfl, rfl, trivial⟩ ?_
                        exact ih2 (h + 1) _ (by omega) (Fr.put (Fr.tr Fr.rf hF_σ2 (by decide)) (by decide)) (by omega) (fun g hg => by rw [am_set_at]; by_cases e : g = h; (rw [if_pos (by omega), e]; exact hlf); (rw [if_neg (by omega)]; exact hOh g (by omega))) (fun y hy => by rw [am_set_at, if_neg (by omega)]; exact hO2 y hy)
                      · refine tt_ar rfl ?_
                        refine tt_ar rfl ?_
                        refine tt_ar rfl ?_
                        refine tt_cv3 3 rfl (wo_76 hW_σ2) (c239 A σ2 k nm ns D hA hW_σ2 hRx ex hex hsx hTt (c - 1) h (by omega) (by omega) ht) (kb (fun h5_13 => ?_) (fun h5_13 => ?_))
                        · refine tt_ifeqF (by decide) ?_
                          have hplain : plM 1000000 (nkT k) nm D ex (c - 1) h = true := h5_13
                          have honb := on_le (hRH.th ht) (m := c) (h := g) (by omega) (by omega)
                          have honn : 0 ≤ onM 1000000 (nkT k) nm D ex (nm - 1 - c) g := on_nn _
                          refine tt_ar rfl ?_
                          refine tt_ar rfl ?_
                          refine tt_ar rfl ?_
                          refine tt_iadd (by omega) (by omega) ?_
                          refine tt_imul (by omega) (by omega) ?_
                          refine tt_ar rfl ?_
                          refine tt_iadd (by omega) (by omega) ?_
                          refine tt_ar rfl ?_
                          refine tt_ar rfl ?_
                          refine tt_ar rfl ?_
                          refine tt_ar rfl ?_
                          refine tt_ar rfl ?_
                          refine tt_iadd (by omega) (by omega) ?_
                          refine tt_ar rfl ?_
                          have hc239 := c239 A σ2 k nm ns D hA hW_σ2 hRx ex hex hsx hTt c g (by omega) (by omega) ht
                          rw [show ((c : Nat) : Int) = ((c - 1 : Nat) : Int) + 1 by omega] at hc239
                          refine tt_cv3 3 rfl (wo_76 hW_σ2) hc239 (kb (fun h5_29 => ?_) (fun h5_29 => ?_))
                          · refine tt_ifeqF (by decide) ?_
                            have hfm := fo_mi (n := nm) (m := c - 1) (g := h) (h := g) hRH (by omega) (by omega) (by omega) (by omega) ht (by rw [show c - 1 + 1 = c by omega]; exact h5_29)
                            rw [show c - 1 + 1 = c by omega] at hfm
                            have hb1 := ahN_bd (F := 1000000) (N := nkT k) (D := D) (ex := ex) (by omega) (by omega) hD0 (fun m h _ => hx0 m h) (c - 1) (show h < nkT k by omega)
                            have hmc1 := mi_c (ahN 1000000 (nkT k) D ex (c - 1) h)
                            have hbe := mi_c (ex c g)
                            have hbe0 := hx0 c g
                            refine tt_ar rfl ?_
                            refine tt_getR (wo_76 hW_σ2) rfl (wr_76_37 hW_σ2) ?_
                            refine tt_ar rfl ?_
                            refine tt_iald ((462 * (c - 1)) + h) (x := miN 100000 (ahN 1000000 (nkT k) D ex (c - 1) h)) (wa_99 hW_σ2) (by omega) (by omega) (((hF_σ2.2 99 (by decide) ((462 * (c - 1)) + h)).trans (hF_σ1.2 99 (by decide) ((462 * (c - 1)) + h))).trans ((hT.1 (c - 1) (by omega) h (by omega)).2.1)) ?_
                            refine tt_ar rfl ?_
                            refine tt_ar rfl ?_
                            refine tt_ar rfl ?_
                            have hd9 := hDx h g (by omega) (by omega)
                            refine tt_cv3 3 rfl (wo_76 hW_σ2) (c233 A σ2 k nm ns D hA hW_σ2 hRx hsx h g (by omega) (by omega)) (kp ?_)
                            refine tt_iadd (by omega) (by omega) ?_
                            refine tt_ar rfl ?_
                            refine tt_getR (wo_76 hW_σ2) rfl (wr_76_36 hW_σ2) ?_
                            refine tt_ar rfl ?_
                            refine tt_iald (462 * c + g) (x := miN 100000 (ex c g)) (wa_98 hW_σ2) (by omega) (by omega) (((hF_σ2.2 98 (by decide) (462 * c + g)).trans (hF_σ1.2 98 (by decide) (462 * c + g))).trans ((hT.1 c (by omega) g (by omega)).1)) ?_
                            refine tt_iadd (by omega) (by omega) ?_
                            refine tt_ar rfl ?_
                            refine tt_getR (wo_76 hW_σ2) rfl (wr_76_37 hW_σ2) ?_
                            refine tt_ar rfl ?_
                            refine tt_iald (462 * c + g) (x := miN 100000 (ahN 1000000 (nkT k) D ex c g)) (wa_99 hW_σ2) (by omega) (by omega) (((hF_σ2.2 99 (by decide) (462 * c + g)).trans (hF_σ1.2 99 (by decide) (462 * c + g))).trans ((hT.1 c (by omega) g (by omega)).2.1)) ?_
                            refine tt_icne (fun h5_49 => ?_) (fun h5_49 => ?_)
                            · refine tt_ar rfl ?_
                              refine tt_nop ?_
                              refine tt_bL (g := (fun a b => w64 (a + b))) (z := l) rfl (w64_fit (by omega) (by omega) (by omega)) ?_
                              refine tt_ar rfl ?_
                              refine tt_iinc (y := ((g + 1 : Nat) : Int)) rfl (iinc_fit (by omega) (by omega) (by omega)) ?_
                              refine tt_goto ?_
                              refine tt_loc [(0, vR 76), (1, vI (((c - 1 : Nat) : Int))), (2, vI (((h : Nat) : Int))), (3, vI (((462 * ((c - 1 : Nat) : Int)) + ((h : Nat) : Int)))), (4, vL (l)), (6, vI (((g + 1 : Nat) : Int)))] rfl rfl ⟨rfl, rfl, rfl, rfl, rfl, rfl, trivial⟩ ?_
                              exact ih5 (g + 1) (l) (by omega) (by omega) (by unfold onW at hl ⊢; rw [if_neg (by omega), if_pos hplain] at hl ⊢; rw [show c - 1 + 1 = c by omega] at hl ⊢; show _ = sumN g (fun g => if foM 1000000 (nkT k) D ex (c - 1) h g = true then onM 1000000 (nkT k) nm D ex (nm - 1 - c) g else 0) + (if foM 1000000 (nkT k) D ex (c - 1) h g = true then onM 1000000 (nkT k) nm D ex (nm - 1 - c) g else 0); rw [← hl]; first | (rw [if_neg (fun q => h5_49 (hfm.mpr q))]; omega) | (rw [if_pos (hfm.mp h5_49)]) | (rw [on_zc hpno]; split <;> omega)) (by omega)
                            · refine tt_ar rfl ?_
                              refine tt_getR (wo_76 hW_σ2) rfl (wr_76_42 hW_σ2) ?_
                              refine tt_ar rfl ?_
                              refine tt_lald (462 * c + g) (x := onM 1000000 (nkT k) nm D ex (nm - 1 - c) g) (wa_103 hW_σ2) (by omega) (by omega) ((hO2 (462 * c + g) (by omega)).trans (hOn c (by omega) (by omega) g (by omega))) ?_
                              refine tt_goto ?_
                              refine tt_bL (g := (fun a b => w64 (a + b))) (z := (l + onM 1000000 (nkT k) nm D ex (nm - 1 - c) g)) rfl (w64_i (by omega) (by omega)) ?_
                              refine tt_ar rfl ?_
                              refine tt_iinc (y := ((g + 1 : Nat) : Int)) rfl (iinc_fit (by omega) (by omega) (by omega)) ?_
                              refine tt_goto ?_
                              refine tt_loc [(0, vR 76), (1, vI (((c - 1 : Nat) : Int))), (2, vI (((h : Nat) : Int))), (3, vI (((462 * ((c - 1 : Nat) : Int)) + ((h : Nat) : Int)))), (4, vL (((l + onM 1000000 (nkT k) nm D ex (nm - 1 - c) g)))), (6, vI (((g + 1 : Nat) : Int)))] rfl rfl ⟨rfl, rfl, rfl, rfl, lv_toL rfl (by omega), rfl, trivial⟩ ?_
                              exact ih5 (g + 1) ((l + onM 1000000 (nkT k) nm D ex (nm - 1 - c) g)) (by omega) (by omega) (by unfold onW at hl ⊢; rw [if_neg (by omega), if_pos hplain] at hl ⊢; rw [show c - 1 + 1 = c by omega] at hl ⊢; show _ = sumN g (fun g => if foM 1000000 (nkT k) D ex (c - 1) h g = true then onM 1000000 (nkT k) nm D ex (nm - 1 - c) g else 0) + (if foM 1000000 (nkT k) D ex (c - 1) h g = true then onM 1000000 (nkT k) nm D ex (nm - 1 - c) g else 0); rw [← hl]; first | (rw [if_neg (fun q => h5_49 (hfm.mpr q))]; omega) | (rw [if_pos (hfm.mp h5_49)]) | (rw [on_zc hpno]; split <;> omega)) (by omega)
                          · refine tt_ifeqT (by decide) ?_
                            have hpno : 0 < nm ∧ c < nm ∧ ¬ plM 1000000 (nkT k) nm D ex c g = true := ⟨by omega, by omega, h5_29⟩
                            refine tt_ar rfl ?_
                            refine tt_nop ?_
                            refine tt_bL (g := (fun a b => w64 (a + b))) (z := l) rfl (w64_fit (by omega) (by omega) (by omega)) ?_
                            refine tt_ar rfl ?_
                            refine tt_iinc (y := ((g + 1 : Nat) : Int)) rfl (iinc_fit (by omega) (by omega) (by omega)) ?_
                            refine tt_goto ?_
                            refine tt_loc [(0, vR 76), (1, vI (((c - 1 : Nat) : Int))), (2, vI (((h : Nat) : Int))), (3, vI (((462 * ((c - 1 : Nat) : Int)) + ((h : Nat) : Int)))), (4, vL (l)), (6, vI (((g + 1 : Nat) : Int)))] rfl rfl ⟨rfl, rfl, rfl, rfl, rfl, rfl, trivial⟩ ?_
                            exact ih5 (g + 1) (l) (by omega) (by omega) (by unfold onW at hl ⊢; rw [if_neg (by omega), if_pos hplain] at hl ⊢; rw [show c - 1 + 1 = c by omega] at hl ⊢; show _ = sumN g (fun g => if foM 1000000 (nkT k) D ex (c - 1) h g = true then onM 1000000 (nkT k) nm D ex (nm - 1 - c) g else 0) + (if foM 1000000 (nkT k) D ex (c - 1) h g = true then onM 1000000 (nkT k) nm D ex (nm - 1 - c) g else 0); rw [← hl]; first | (rw [if_neg (fun q => h5_49 (hfm.mpr q))]; omega) | (rw [if_pos (hfm.mp h5_49)]) | (rw [on_zc hpno]; split <;> omega)) (by omega)
                        · refine tt_ifeqT (by decide) ?_
                          have hlf : l = onM 1000000 (nkT k) nm D ex (nm - 1 - (c - 1)) h := by
                            rw [hl, ← onW_end (by omega)]
                            unfold onW
                            by_cases e1 : c - 1 + 1 = nm
                            · rw [if_pos e1, if_pos e1]
                            · rw [if_neg e1, if_neg e1]
                              by_cases e2 : plM 1000000 (nkT k) nm D ex (c - 1) h = true
                              · first | (rw [if_pos e2, if_pos e2, show g = nkT k by omega]) | exact absurd e2 h5_13
                              · rw [if_neg e2, if_neg e2]
                          refine tt_ar rfl ?_
                          refine tt_getR (wo_76 hW_σ2) rfl (wr_76_42 hW_σ2) ?_
                          refine tt_ar rfl ?_
                          refine tt_ar rfl ?_
                          refine tt_last ((462 * (c - 1)) + h) (wa_103 hW_σ2) (by omega) (by omega) (by omega) ?_
                          refine tt_iinc (y := ((h + 1 : Nat) : Int)) rfl (iinc_fit (by omega) (by omega) (by omega)) ?_
                          refine tt_goto ?_
                          refine tt_loc [(0, vR 76), (1, vI (((c - 1 : Nat) : Int))), (2, vI (((h + 1 : Nat) : Int)))] rfl rfl ⟨rfl, rfl, rfl, trivial⟩ ?_
                          exact ih2 (h + 1) _ (by omega) (Fr.put (Fr.tr Fr.rf hF_σ2 (by decide)) (by decide)) (by omega) (fun g hg => by rw [am_set_at]; by_cases e : g = h; (rw [if_pos (by omega), e]; exact hlf); (rw [if_neg (by omega)]; exact hOh g (by omega))) (fun y hy => by rw [am_set_at, if_neg (by omega)]; exact hO2 y hy)
                refine tt_loc [(0, vR 76), (1, vI (((c - 1 : Nat) : Int))), (2, vI (((h : Nat) : Int))), (3, vI (((462 * ((c - 1 : Nat) : Int)) + ((h : Nat) : Int)))), (4, vL (0)), (6, vI (((0 : Nat) : Int)))] rfl rfl ⟨rfl, rfl, rfl, rfl, rfl, lv_to rfl (by omega), trivial⟩ ?_
                exact lp5_3 _ (0) (0) (Nat.lt_succ_self _) (by omega) (by unfold onW; first | (rw [if_pos (by omega), if_pos h2_19]) | (rw [if_pos (by omega), if_neg h2_19]) | (rw [if_neg (by omega)]; split <;> rfl)) (by omega)
              · refine tt_ar rfl ?_
                refine tt_ar rfl ?_
                refine tt_ar rfl ?_
                refine tt_cv3 3 rfl (wo_76 hW_σ2) (c239 A σ2 k nm ns D hA hW_σ2 hRx ex hex hsx hTt (c - 1) h (by omega) (by omega) ht) (kb (fun h2_19 => ?_) (fun h2_19 => ?_))
                · refine tt_ifeqF (by decide) ?_
                  refine tt_ar rfl ?_
                  refine tt_goto ?_
                  refine tt_ar rfl ?_
                  refine tt_ar rfl ?_
                  refine tt_ar rfl ?_
                  refine tt_nop ?_
                  have lp5_4 : ∀ (μ : Nat) (g : Nat) (l : Int), nkT k - g < μ → (g ≤ nkT k) → (l = onW k nm D ex (c - 1) h g) → (0 ≤ l ∧ l ≤ 1000000000000000 * ((g : Nat) : Int) + 1) → TT am_b245 (am_b245.getD 5 []) [(0, vR 76), (1, vI (((c - 1 : Nat) : Int))), (2, vI (((h : Nat) : Int))), (3, vI (((462 * ((c - 1 : Nat) : Int)) + ((h : Nat) : Int)))), (4, vL (l)), (6, vI (((g : Nat) : Int)))] [] σ2 (fun r σ' => r = none ∧ Fr [103] σ σ' ∧ ∀ q, q < nm → ∀ h, h < nkT k → σ'.1 103 (462 * q + h) = onM 1000000 (nkT k) nm D ex (nm - 1 - q) h) := by
                    intro μ
                    induction μ with
                    | zero => intro g l hμ; exact absurd hμ (Nat.not_lt_zero _)
                    | succ μ ih5 =>
                      intro g l hμ hg hl hlb
                      refine tt_ar rfl ?_
                      refine tt_ar rfl ?_
                      refine tt_getI (x := ((nkT k : Nat) : Int)) (wo_76 hW_σ2) rfl (((hF_σ2.2 76 (by decide) (27)).trans (hF_σ1.2 76 (by decide) (27))).trans hR.hs.1) ?_
                      refine tt_icge (fun h5_3 => ?_) (fun h5_3 => ?_)
                      · have hlf : l = onM 1000000 (nkT k) nm D ex (nm - 1 - (c - 1)) h := by
                          rw [hl, ← onW_end (by omega)]
                          unfold onW
                          by_cases e1 : c - 1 + 1 = nm
                          · rw [if_pos e1, if_pos e1]
                          · rw [if_neg e1, if_neg e1]
                            by_cases e2 : plM 1000000 (nkT k) nm D ex (c - 1) h = true
                            · first | (rw [if_pos e2, if_pos e2, show g = nkT k by omega]) | exact absurd e2 h5_13
                            · rw [if_neg e2, if_neg e2]
                        refine tt_ar rfl ?_
                        refine tt_getR (wo_76 hW_σ2) rfl (wr_76_42 hW_σ2) ?_
                        refine tt_ar rfl ?_
                        refine tt_ar rfl ?_
                        refine tt_last ((462 * (c - 1)) + h) (wa_103 hW_σ2) (by omega) (by omega) (by omega) ?_
                        refine tt_iinc (y := ((h + 1 : Nat) : Int)) rfl (iinc_fit (by omega) (by omega) (by omega)) ?_
                        refine tt_goto ?_
                        refine tt_loc [(0, vR 76), (1, vI (((c - 1 : Nat) : Int))), (2, vI (((h + 1 : Nat) : Int)))] rfl rfl ⟨rfl, rfl, rfl, trivial⟩ ?_
                        exact ih2 (h + 1) _ (by omega) (Fr.put (Fr.tr Fr.rf hF_σ2 (by decide)) (by decide)) (by omega) (fun g hg => by rw [am_set_at]; by_cases e : g = h; (rw [if_pos (by omega), e]; exact hlf); (rw [if_neg (by omega)]; exact hOh g (by omega))) (fun y hy => by rw [am_set_at, if_neg (by omega)]; exact hO2 y hy)
                      · refine tt_ar rfl ?_
                        refine tt_ar rfl ?_
                        refine tt_getI (x := ((nm : Nat) : Int)) (wo_76 hW_σ2) rfl (((hF_σ2.2 76 (by decide) (25)).trans (hF_σ1.2 76 (by decide) (25))).trans hR.ln.1) ?_
                        refine tt_ar rfl ?_
                        refine tt_isub (by omega) (by omega) ?_
                        refine tt_icge (fun h5_9 => ?_) (fun h5_9 => ?_)
                        · have hlf : l = onM 1000000 (nkT k) nm D ex (nm - 1 - (c - 1)) h := by
                            rw [hl, ← onW_end (by omega)]
                            unfold onW
                            by_cases e1 : c - 1 + 1 = nm
                            · rw [if_pos e1, if_pos e1]
                            · rw [if_neg e1, if_neg e1]
                              by_cases e2 : plM 1000000 (nkT k) nm D ex (c - 1) h = true
                              · first | (rw [if_pos e2, if_pos e2, show g = nkT k by omega]) | exact absurd e2 h5_13
                              · rw [if_neg e2, if_neg e2]
                          refine tt_ar rfl ?_
                          refine tt_getR (wo_76 hW_σ2) rfl (wr_76_42 hW_σ2) ?_
                          refine tt_ar rfl ?_
                          refine tt_ar rfl ?_
                          refine tt_last ((462 * (c - 1)) + h) (wa_103 hW_σ2) (by omega) (by omega) (by omega) ?_
                          refine tt_iinc (y := ((h + 1 : Nat) : Int)) rfl (iinc_fit (by omega) (by omega) (by omega)) ?_
                          refine tt_goto ?_
                          refine tt_loc [(0, vR 76), (1, vI (((c - 1 : Nat) : Int))), (2, vI (((h + 1 : Nat) : Int)))] rfl rfl ⟨rfl, rfl, rfl, trivial⟩ ?_
                          exact ih2 (h + 1) _ (by omega) (Fr.put (Fr.tr Fr.rf hF_σ2 (by decide)) (by decide)) (by omega) (fun g hg => by rw [am_set_at]; by_cases e : g = h; (rw [if_pos (by omega), e]; exact hlf); (rw [if_neg (by omega)]; exact hOh g (by omega))) (fun y hy => by rw [am_set_at, if_neg (by omega)]; exact hO2 y hy)
                        · refine tt_ar rfl ?_
                          refine tt_ar rfl ?_
                          refine tt_ar rfl ?_
                          refine tt_cv3 3 rfl (wo_76 hW_σ2) (c239 A σ2 k nm ns D hA hW_σ2 hRx ex hex hsx hTt (c - 1) h (by omega) (by omega) ht) (kb (fun h5_13 => ?_) (fun h5_13 => ?_))
                          · refine tt_ifeqF (by decide) ?_
                            have hplain : plM 1000000 (nkT k) nm D ex (c - 1) h = true := h5_13
                            have honb := on_le (hRH.th ht) (m := c) (h := g) (by omega) (by omega)
                            have honn : 0 ≤ onM 1000000 (nkT k) nm D ex (nm - 1 - c) g := on_nn _
                            refine tt_ar rfl ?_
                            refine tt_ar rfl ?_
                            refine tt_ar rfl ?_
                            refine tt_iadd (by omega) (by omega) ?_
                            refine tt_imul (by omega) (by omega) ?_
                            refine tt_ar rfl ?_
                            refine tt_iadd (by omega) (by omega) ?_
                            refine tt_ar rfl ?_
                            refine tt_ar rfl ?_
                            refine tt_ar rfl ?_
                            refine tt_ar rfl ?_
                            refine tt_ar rfl ?_
                            refine tt_iadd (by omega) (by omega) ?_
                            refine tt_ar rfl ?_
                            have hc239 := c239 A σ2 k nm ns D hA hW_σ2 hRx ex hex hsx hTt c g (by omega) (by omega) ht
                            rw [show ((c : Nat) : Int) = ((c - 1 : Nat) : Int) + 1 by omega] at hc239
                            refine tt_cv3 3 rfl (wo_76 hW_σ2) hc239 (kb (fun h5_29 => ?_) (fun h5_29 => ?_))
                            · refine tt_ifeqF (by decide) ?_
                              have hfm := fo_mi (n := nm) (m := c - 1) (g := h) (h := g) hRH (by omega) (by omega) (by omega) (by omega) ht (by rw [show c - 1 + 1 = c by omega]; exact h5_29)
                              rw [show c - 1 + 1 = c by omega] at hfm
                              have hb1 := ahN_bd (F := 1000000) (N := nkT k) (D := D) (ex := ex) (by omega) (by omega) hD0 (fun m h _ => hx0 m h) (c - 1) (show h < nkT k by omega)
                              have hmc1 := mi_c (ahN 1000000 (nkT k) D ex (c - 1) h)
                              have hbe := mi_c (ex c g)
                              have hbe0 := hx0 c g
                              refine tt_ar rfl ?_
                              refine tt_getR (wo_76 hW_σ2) rfl (wr_76_37 hW_σ2) ?_
                              refine tt_ar rfl ?_
                              refine tt_iald ((462 * (c - 1)) + h) (x := miN 100000 (ahN 1000000 (nkT k) D ex (c - 1) h)) (wa_99 hW_σ2) (by omega) (by omega) (((hF_σ2.2 99 (by decide) ((462 * (c - 1)) + h)).trans (hF_σ1.2 99 (by decide) ((462 * (c - 1)) + h))).trans ((hT.1 (c - 1) (by omega) h (by omega)).2.1)) ?_
                              refine tt_ar rfl ?_
                              refine tt_ar rfl ?_
                              refine tt_ar rfl ?_
                              have hd9 := hDx h g (by omega) (by omega)
                              refine tt_cv3 3 rfl (wo_76 hW_σ2) (c233 A σ2 k nm ns D hA hW_σ2 hRx hsx h g (by omega) (by omega)) (kp ?_)
                              refine tt_iadd (by omega) (by omega) ?_
                              refine tt_ar rfl ?_
                              refine tt_getR (wo_76 hW_σ2) rfl (wr_76_36 hW_σ2) ?_
                              refine tt_ar rfl ?_
                              refine tt_iald (462 * c + g) (x := miN 100000 (ex c g)) (wa_98 hW_σ2) (by omega) (by omega) (((hF_σ2.2 98 (by decide) (462 * c + g)).trans (hF_σ1.2 98 (by decide) (462 * c + g))).trans ((hT.1 c (by omega) g (by omega)).1)) ?_
                              refine tt_iadd (by omega) (by omega) ?_
                              refine tt_ar rfl ?_
                              refine tt_getR (wo_76 hW_σ2) rfl (wr_76_37 hW_σ2) ?_
                              refine tt_ar rfl ?_
                              refine tt_iald (462 * c + g) (x := miN 100000 (ahN 1000000 (nkT k) D ex c g)) (wa_99 hW_σ2) (by omega) (by omega) (((hF_σ2.2 99 (by decide) (462 * c + g)).trans (hF_σ1.2 99 (by decide) (462 * c + g))).trans ((hT.1 c (by omega) g (by omega)).2.1)) ?_
                              refine tt_icne (fun h5_49 => ?_) (fun h5_49 => ?_)
                              · refine tt_ar rfl ?_
                                refine tt_nop ?_
                                refine tt_bL (g := (fun a b => w64 (a + b))) (z := l) rfl (w64_fit (by omega) (by omega) (by omega)) ?_
                                refine tt_ar rfl ?_
                                refine tt_iinc (y := ((g + 1 : Nat) : Int)) rfl (iinc_fit (by omega) (by omega) (by omega)) ?_
                                refine tt_goto ?_
                                refine tt_loc [(0, vR 76), (1, vI (((c - 1 : Nat) : Int))), (2, vI (((h : Nat) : Int))), (3, vI (((462 * ((c - 1 : Nat) : Int)) + ((h : Nat) : Int)))), (4, vL (l)), (6, vI (((g + 1 : Nat) : Int)))] rfl rfl ⟨rfl, rfl, rfl, rfl, rfl, rfl, trivial⟩ ?_
                                exact ih5 (g + 1) (l) (by omega) (by omega) (by unfold onW at hl ⊢; rw [if_neg (by omega), if_pos hplain] at hl ⊢; rw [show c - 1 + 1 = c by omega] at hl ⊢; show _ = sumN g (fun g => if foM 1000000 (nkT k) D ex (c - 1) h g = true then onM 1000000 (nkT k) nm D ex (nm - 1 - c) g else 0) + (if foM 1000000 (nkT k) D ex (c - 1) h g = true then onM 1000000 (nkT k) nm D ex (nm - 1 - c) g else 0); rw [← hl]; first | (rw [if_neg (fun q => h5_49 (hfm.mpr q))]; omega) | (rw [if_pos (hfm.mp h5_49)]) | (rw [on_zc hpno]; split <;> omega)) (by omega)
                              · refine tt_ar rfl ?_
                                refine tt_getR (wo_76 hW_σ2) rfl (wr_76_42 hW_σ2) ?_
                                refine tt_ar rfl ?_
                                refine tt_lald (462 * c + g) (x := onM 1000000 (nkT k) nm D ex (nm - 1 - c) g) (wa_103 hW_σ2) (by omega) (by omega) ((hO2 (462 * c + g) (by omega)).trans (hOn c (by omega) (by omega) g (by omega))) ?_
                                refine tt_goto ?_
                                refine tt_bL (g := (fun a b => w64 (a + b))) (z := (l + onM 1000000 (nkT k) nm D ex (nm - 1 - c) g)) rfl (w64_i (by omega) (by omega)) ?_
                                refine tt_ar rfl ?_
                                refine tt_iinc (y := ((g + 1 : Nat) : Int)) rfl (iinc_fit (by omega) (by omega) (by omega)) ?_
                                refine tt_goto ?_
                                refine tt_loc [(0, vR 76), (1, vI (((c - 1 : Nat) : Int))), (2, vI (((h : Nat) : Int))), (3, vI (((462 * ((c - 1 : Nat) : Int)) + ((h : Nat) : Int)))), (4, vL (((l + onM 1000000 (nkT k) nm D ex (nm - 1 - c) g)))), (6, vI (((g + 1 : Nat) : Int)))] rfl rfl ⟨rfl, rfl, rfl, rfl, lv_toL rfl (by omega), rfl, trivial⟩ ?_
                                exact ih5 (g + 1) ((l + onM 1000000 (nkT k) nm D ex (nm - 1 - c) g)) (by omega) (by omega) (by unfold onW at hl ⊢; rw [if_neg (by omega), if_pos hplain] at hl ⊢; rw [show c - 1 + 1 = c by omega] at hl ⊢; show _ = sumN g (fun g => if foM 1000000 (nkT k) D ex (c - 1) h g = true then onM 1000000 (nkT k) nm D ex (nm - 1 - c) g else 0) + (if foM 1000000 (nkT k) D ex (c - 1) h g = true then onM 1000000 (nkT k) nm D ex (nm - 1 - c) g else 0); rw [← hl]; first | (rw [if_neg (fun q => h5_49 (hfm.mpr q))]; omega) | (rw [if_pos (hfm.mp h5_49)]) | (rw [on_zc hpno]; split <;> omega)) (by omega)
                            · refine tt_ifeqT (by decide) ?_
                              have hpno : 0 < nm ∧ c < nm ∧ ¬ plM 1000000 (nkT k) nm D ex c g = true := ⟨by omega, by omega, h5_29⟩
                              refine tt_ar rfl ?_
                              refine tt_nop ?_
                              refine tt_bL (g := (fun a b => w64 (a + b))) (z := l) rfl (w64_fit (by omega) (by omega) (by omega)) ?_
                              refine tt_ar rfl ?_
                              refine tt_iinc (y := ((g + 1 : Nat) : Int)) rfl (iinc_fit (by omega) (by omega) (by omega)) ?_
                              refine tt_goto ?_
                              refine tt_loc [(0, vR 76), (1, vI (((c - 1 : Nat) : Int))), (2, vI (((h : Nat) : Int))), (3, vI (((462 * ((c - 1 : Nat) : Int)) + ((h : Nat) : Int)))), (4, vL (l)), (6, vI (((g + 1 : Nat) : Int)))] rfl rfl ⟨rfl, rfl, rfl, rfl, rfl, rfl, trivial⟩ ?_
                              exact ih5 (g + 1) (l) (by omega) (by omega) (by unfold onW at hl ⊢; rw [if_neg (by omega), if_pos hplain] at hl ⊢; rw [show c - 1 + 1 = c by omega] at hl ⊢; show _ = sumN g (fun g => if foM 1000000 (nkT k) D ex (c - 1) h g = true then onM 1000000 (nkT k) nm D ex (nm - 1 - c) g else 0) + (if foM 1000000 (nkT k) D ex (c - 1) h g = true then onM 1000000 (nkT k) nm D ex (nm - 1 - c) g else 0); rw [← hl]; first | (rw [if_neg (fun q => h5_49 (hfm.mpr q))]; omega) | (rw [if_pos (hfm.mp h5_49)]) | (rw [on_zc hpno]; split <;> omega)) (by omega)
                          · refine tt_ifeqT (by decide) ?_
                            have hlf : l = onM 1000000 (nkT k) nm D ex (nm - 1 - (c - 1)) h := by
                              rw [hl, ← onW_end (by omega)]
                              unfold onW
                              by_cases e1 : c - 1 + 1 = nm
                              · rw [if_pos e1, if_pos e1]
                              · rw [if_neg e1, if_neg e1]
                                by_cases e2 : plM 1000000 (nkT k) nm D ex (c - 1) h = true
                                · first | (rw [if_pos e2, if_pos e2, show g = nkT k by omega]) | exact absurd e2 h5_13
                                · rw [if_neg e2, if_neg e2]
                            refine tt_ar rfl ?_
                            refine tt_getR (wo_76 hW_σ2) rfl (wr_76_42 hW_σ2) ?_
                            refine tt_ar rfl ?_
                            refine tt_ar rfl ?_
                            refine tt_last ((462 * (c - 1)) + h) (wa_103 hW_σ2) (by omega) (by omega) (by omega) ?_
                            refine tt_iinc (y := ((h + 1 : Nat) : Int)) rfl (iinc_fit (by omega) (by omega) (by omega)) ?_
                            refine tt_goto ?_
                            refine tt_loc [(0, vR 76), (1, vI (((c - 1 : Nat) : Int))), (2, vI (((h + 1 : Nat) : Int)))] rfl rfl ⟨rfl, rfl, rfl, trivial⟩ ?_
                            exact ih2 (h + 1) _ (by omega) (Fr.put (Fr.tr Fr.rf hF_σ2 (by decide)) (by decide)) (by omega) (fun g hg => by rw [am_set_at]; by_cases e : g = h; (rw [if_pos (by omega), e]; exact hlf); (rw [if_neg (by omega)]; exact hOh g (by omega))) (fun y hy => by rw [am_set_at, if_neg (by omega)]; exact hO2 y hy)
                  refine tt_loc [(0, vR 76), (1, vI (((c - 1 : Nat) : Int))), (2, vI (((h : Nat) : Int))), (3, vI (((462 * ((c - 1 : Nat) : Int)) + ((h : Nat) : Int)))), (4, vL (1)), (6, vI (((0 : Nat) : Int)))] rfl rfl ⟨rfl, rfl, rfl, rfl, rfl, lv_to rfl (by omega), trivial⟩ ?_
                  exact lp5_4 _ (0) (1) (Nat.lt_succ_self _) (by omega) (by unfold onW; first | (rw [if_pos (by omega), if_pos h2_19]) | (rw [if_pos (by omega), if_neg h2_19]) | (rw [if_neg (by omega)]; split <;> rfl)) (by omega)
                · refine tt_ifeqT (by decide) ?_
                  refine tt_ar rfl ?_
                  refine tt_nop ?_
                  refine tt_ar rfl ?_
                  refine tt_ar rfl ?_
                  refine tt_ar rfl ?_
                  refine tt_nop ?_
                  have lp5_5 : ∀ (μ : Nat) (g : Nat) (l : Int), nkT k - g < μ → (g ≤ nkT k) → (l = onW k nm D ex (c - 1) h g) → (0 ≤ l ∧ l ≤ 1000000000000000 * ((g : Nat) : Int) + 1) → TT am_b245 (am_b245.getD 5 []) [(0, vR 76), (1, vI (((c - 1 : Nat) : Int))), (2, vI (((h : Nat) : Int))), (3, vI (((462 * ((c - 1 : Nat) : Int)) + ((h : Nat) : Int)))), (4, vL (l)), (6, vI (((g : Nat) : Int)))] [] σ2 (fun r σ' => r = none ∧ Fr [103] σ σ' ∧ ∀ q, q < nm → ∀ h, h < nkT k → σ'.1 103 (462 * q + h) = onM 1000000 (nkT k) nm D ex (nm - 1 - q) h) := by
                    intro μ
                    induction μ with
                    | zero => intro g l hμ; exact absurd hμ (Nat.not_lt_zero _)
                    | succ μ ih5 =>
                      intro g l hμ hg hl hlb
                      refine tt_ar rfl ?_
                      refine tt_ar rfl ?_
                      refine tt_getI (x := ((nkT k : Nat) : Int)) (wo_76 hW_σ2) rfl (((hF_σ2.2 76 (by decide) (27)).trans (hF_σ1.2 76 (by decide) (27))).trans hR.hs.1) ?_
                      refine tt_icge (fun h5_3 => ?_) (fun h5_3 => ?_)
                      · have hlf : l = onM 1000000 (nkT k) nm D ex (nm - 1 - (c - 1)) h := by
                          rw [hl, ← onW_end (by omega)]
                          unfold onW
                          by_cases e1 : c - 1 + 1 = nm
                          · rw [if_pos e1, if_pos e1]
                          · rw [if_neg e1, if_neg e1]
                            by_cases e2 : plM 1000000 (nkT k) nm D ex (c - 1) h = true
                            · first | (rw [if_pos e2, if_pos e2, show g = nkT k by omega]) | exact absurd e2 h5_13
                            · rw [if_neg e2, if_neg e2]
                        refine tt_ar rfl ?_
                        refine tt_getR (wo_76 hW_σ2) rfl (wr_76_42 hW_σ2) ?_
                        refine tt_ar rfl ?_
                        refine tt_ar rfl ?_
                        refine tt_last ((462 * (c - 1)) + h) (wa_103 hW_σ2) (by omega) (by omega) (by omega) ?_
                        refine tt_iinc (y := ((h + 1 : Nat) : Int)) rfl (iinc_fit (by omega) (by omega) (by omega)) ?_
                        refine tt_goto ?_
                        refine tt_loc [(0, vR 76), (1, vI (((c - 1 : Nat) : Int))), (2, vI (((h + 1 : Nat) : Int)))] rfl rfl ⟨rfl, rfl, rfl, trivial⟩ ?_
                        exact ih2 (h + 1) _ (by omega) (Fr.put (Fr.tr Fr.rf hF_σ2 (by decide)) (by decide)) (by omega) (fun g hg => by rw [am_set_at]; by_cases e : g = h; (rw [if_pos (by omega), e]; exact hlf); (rw [if_neg (by omega)]; exact hOh g (by omega))) (fun y hy => by rw [am_set_at, if_neg (by omega)]; exact hO2 y hy)
                      · refine tt_ar rfl ?_
                        refine tt_ar rfl ?_
                        refine tt_getI (x := ((nm : Nat) : Int)) (wo_76 hW_σ2) rfl (((hF_σ2.2 76 (by decide) (25)).trans (hF_σ1.2 76 (by decide) (25))).trans hR.ln.1) ?_
                        refine tt_ar rfl ?_
                        refine tt_isub (by omega) (by omega) ?_
                        refine tt_icge (fun h5_9 => ?_) (fun h5_9 => ?_)
                        · have hlf : l = onM 1000000 (nkT k) nm D ex (nm - 1 - (c - 1)) h := by
                            rw [hl, ← onW_end (by omega)]
                            unfold onW
                            by_cases e1 : c - 1 + 1 = nm
                            · rw [if_pos e1, if_pos e1]
                            · rw [if_neg e1, if_neg e1]
                              by_cases e2 : plM 1000000 (nkT k) nm D ex (c - 1) h = true
                              · first | (rw [if_pos e2, if_pos e2, show g = nkT k by omega]) | exact absurd e2 h5_13
                              · rw [if_neg e2, if_neg e2]
                          refine tt_ar rfl ?_
                          refine tt_getR (wo_76 hW_σ2) rfl (wr_76_42 hW_σ2) ?_
                          refine tt_ar rfl ?_
                          refine tt_ar rfl ?_
                          refine tt_last ((462 * (c - 1)) + h) (wa_103 hW_σ2) (by omega) (by omega) (by omega) ?_
                          refine tt_iinc (y := ((h + 1 : Nat) : Int)) rfl (iinc_fit (by omega) (by omega) (by omega)) ?_
                          refine tt_goto ?_
                          refine tt_loc [(0, vR 76), (1, vI (((c - 1 : Nat) : Int))), (2, vI (((h + 1 : Nat) : Int)))] rfl rfl ⟨rfl, rfl, rfl, trivial⟩ ?_
                          exact ih2 (h + 1) _ (by omega) (Fr.put (Fr.tr Fr.rf hF_σ2 (by decide)) (by decide)) (by omega) (fun g hg => by rw [am_set_at]; by_cases e : g = h; (rw [if_pos (by omega), e]; exact hlf); (rw [if_neg (by omega)]; exact hOh g (by omega))) (fun y hy => by rw [am_set_at, if_neg (by omega)]; exact hO2 y hy)
                        · refine tt_ar rfl ?_
                          refine tt_ar rfl ?_
                          refine tt_ar rfl ?_
                          refine tt_cv3 3 rfl (wo_76 hW_σ2) (c239 A σ2 k nm ns D hA hW_σ2 hRx ex hex hsx hTt (c - 1) h (by omega) (by omega) ht) (kb (fun h5_13 => ?_) (fun h5_13 => ?_))
                          · refine tt_ifeqF (by decide) ?_
                            have hplain : plM 1000000 (nkT k) nm D ex (c - 1) h = true := h5_13
                            have honb := on_le (hRH.th ht) (m := c) (h := g) (by omega) (by omega)
                            have honn : 0 ≤ onM 1000000 (nkT k) nm D ex (nm - 1 - c) g := on_nn _
                            refine tt_ar rfl ?_
                            refine tt_ar rfl ?_
                            refine tt_ar rfl ?_
                            refine tt_iadd (by omega) (by omega) ?_
                            refine tt_imul (by omega) (by omega) ?_
                            refine tt_ar rfl ?_
                            refine tt_iadd (by omega) (by omega) ?_
                            refine tt_ar rfl ?_
                            refine tt_ar rfl ?_
                            refine tt_ar rfl ?_
                            refine tt_ar rfl ?_
                            refine tt_ar rfl ?_
                            refine tt_iadd (by omega) (by omega) ?_
                            refine tt_ar rfl ?_
                            have hc239 := c239 A σ2 k nm ns D hA hW_σ2 hRx ex hex hsx hTt c g (by omega) (by omega) ht
                            rw [show ((c : Nat) : Int) = ((c - 1 : Nat) : Int) + 1 by omega] at hc239
                            refine tt_cv3 3 rfl (wo_76 hW_σ2) hc239 (kb (fun h5_29 => ?_) (fun h5_29 => ?_))
                            · refine tt_ifeqF (by decide) ?_
                              have hfm := fo_mi (n := nm) (m := c - 1) (g := h) (h := g) hRH (by omega) (by omega) (by omega) (by omega) ht (by rw [show c - 1 + 1 = c by omega]; exact h5_29)
                              rw [show c - 1 + 1 = c by omega] at hfm
                              have hb1 := ahN_bd (F := 1000000) (N := nkT k) (D := D) (ex := ex) (by omega) (by omega) hD0 (fun m h _ => hx0 m h) (c - 1) (show h < nkT k by omega)
                              have hmc1 := mi_c (ahN 1000000 (nkT k) D ex (c - 1) h)
                              have hbe := mi_c (ex c g)
                              have hbe0 := hx0 c g
                              refine tt_ar rfl ?_
                              refine tt_getR (wo_76 hW_σ2) rfl (wr_76_37 hW_σ2) ?_
                              refine tt_ar rfl ?_
                              refine tt_iald ((462 * (c - 1)) + h) (x := miN 100000 (ahN 1000000 (nkT k) D ex (c - 1) h)) (wa_99 hW_σ2) (by omega) (by omega) (((hF_σ2.2 99 (by decide) ((462 * (c - 1)) + h)).trans (hF_σ1.2 99 (by decide) ((462 * (c - 1)) + h))).trans ((hT.1 (c - 1) (by omega) h (by omega)).2.1)) ?_
                              refine tt_ar rfl ?_
                              refine tt_ar rfl ?_
                              refine tt_ar rfl ?_
                              have hd9 := hDx h g (by omega) (by omega)
                              refine tt_cv3 3 rfl (wo_76 hW_σ2) (c233 A σ2 k nm ns D hA hW_σ2 hRx hsx h g (by omega) (by omega)) (kp ?_)
                              refine tt_iadd (by omega) (by omega) ?_
                              refine tt_ar rfl ?_
                              refine tt_getR (wo_76 hW_σ2) rfl (wr_76_36 hW_σ2) ?_
                              refine tt_ar rfl ?_
                              refine tt_iald (462 * c + g) (x := miN 100000 (ex c g)) (wa_98 hW_σ2) (by omega) (by omega) (((hF_σ2.2 98 (by decide) (462 * c + g)).trans (hF_σ1.2 98 (by decide) (462 * c + g))).trans ((hT.1 c (by omega) g (by omega)).1)) ?_
                              refine tt_iadd (by omega) (by omega) ?_
                              refine tt_ar rfl ?_
                              refine tt_getR (wo_76 hW_σ2) rfl (wr_76_37 hW_σ2) ?_
                              refine tt_ar rfl ?_
                              refine tt_iald (462 * c + g) (x := miN 100000 (ahN 1000000 (nkT k) D ex c g)) (wa_99 hW_σ2) (by omega) (by omega) (((hF_σ2.2 99 (by decide) (462 * c + g)).trans (hF_σ1.2 99 (by decide) (462 * c + g))).trans ((hT.1 c (by omega) g (by omega)).2.1)) ?_
                              refine tt_icne (fun h5_49 => ?_) (fun h5_49 => ?_)
                              · refine tt_ar rfl ?_
                                refine tt_nop ?_
                                refine tt_bL (g := (fun a b => w64 (a + b))) (z := l) rfl (w64_fit (by omega) (by omega) (by omega)) ?_
                                refine tt_ar rfl ?_
                                refine tt_iinc (y := ((g + 1 : Nat) : Int)) rfl (iinc_fit (by omega) (by omega) (by omega)) ?_
                                refine tt_goto ?_
                                refine tt_loc [(0, vR 76), (1, vI (((c - 1 : Nat) : Int))), (2, vI (((h : Nat) : Int))), (3, vI (((462 * ((c - 1 : Nat) : Int)) + ((h : Nat) : Int)))), (4, vL (l)), (6, vI (((g + 1 : Nat) : Int)))] rfl rfl ⟨rfl, rfl, rfl, rfl, rfl, rfl, trivial⟩ ?_
                                exact ih5 (g + 1) (l) (by omega) (by omega) (by unfold onW at hl ⊢; rw [if_neg (by omega), if_pos hplain] at hl ⊢; rw [show c - 1 + 1 = c by omega] at hl ⊢; show _ = sumN g (fun g => if foM 1000000 (nkT k) D ex (c - 1) h g = true then onM 1000000 (nkT k) nm D ex (nm - 1 - c) g else 0) + (if foM 1000000 (nkT k) D ex (c - 1) h g = true then onM 1000000 (nkT k) nm D ex (nm - 1 - c) g else 0); rw [← hl]; first | (rw [if_neg (fun q => h5_49 (hfm.mpr q))]; omega) | (rw [if_pos (hfm.mp h5_49)]) | (rw [on_zc hpno]; split <;> omega)) (by omega)
                              · refine tt_ar rfl ?_
                                refine tt_getR (wo_76 hW_σ2) rfl (wr_76_42 hW_σ2) ?_
                                refine tt_ar rfl ?_
                                refine tt_lald (462 * c + g) (x := onM 1000000 (nkT k) nm D ex (nm - 1 - c) g) (wa_103 hW_σ2) (by omega) (by omega) ((hO2 (462 * c + g) (by omega)).trans (hOn c (by omega) (by omega) g (by omega))) ?_
                                refine tt_goto ?_
                                refine tt_bL (g := (fun a b => w64 (a + b))) (z := (l + onM 1000000 (nkT k) nm D ex (nm - 1 - c) g)) rfl (w64_i (by omega) (by omega)) ?_
                                refine tt_ar rfl ?_
                                refine tt_iinc (y := ((g + 1 : Nat) : Int)) rfl (iinc_fit (by omega) (by omega) (by omega)) ?_
                                refine tt_goto ?_
                                refine tt_loc [(0, vR 76), (1, vI (((c - 1 : Nat) : Int))), (2, vI (((h : Nat) : Int))), (3, vI (((462 * ((c - 1 : Nat) : Int)) + ((h : Nat) : Int)))), (4, vL (((l + onM 1000000 (nkT k) nm D ex (nm - 1 - c) g)))), (6, vI (((g + 1 : Nat) : Int)))] rfl rfl ⟨rfl, rfl, rfl, rfl, lv_toL rfl (by omega), rfl, trivial⟩ ?_
                                exact ih5 (g + 1) ((l + onM 1000000 (nkT k) nm D ex (nm - 1 - c) g)) (by omega) (by omega) (by unfold onW at hl ⊢; rw [if_neg (by omega), if_pos hplain] at hl ⊢; rw [show c - 1 + 1 = c by omega] at hl ⊢; show _ = sumN g (fun g => if foM 1000000 (nkT k) D ex (c - 1) h g = true then onM 1000000 (nkT k) nm D ex (nm - 1 - c) g else 0) + (if foM 1000000 (nkT k) D ex (c - 1) h g = true then onM 1000000 (nkT k) nm D ex (nm - 1 - c) g else 0); rw [← hl]; first | (rw [if_neg (fun q => h5_49 (hfm.mpr q))]; omega) | (rw [if_pos (hfm.mp h5_49)]) | (rw [on_zc hpno]; split <;> omega)) (by omega)
                            · refine tt_ifeqT (by decide) ?_
                              have hpno : 0 < nm ∧ c < nm ∧ ¬ plM 1000000 (nkT k) nm D ex c g = true := ⟨by omega, by omega, h5_29⟩
                              refine tt_ar rfl ?_
                              refine tt_nop ?_
                              refine tt_bL (g := (fun a b => w64 (a + b))) (z := l) rfl (w64_fit (by omega) (by omega) (by omega)) ?_
                              refine tt_ar rfl ?_
                              refine tt_iinc (y := ((g + 1 : Nat) : Int)) rfl (iinc_fit (by omega) (by omega) (by omega)) ?_
                              refine tt_goto ?_
                              refine tt_loc [(0, vR 76), (1, vI (((c - 1 : Nat) : Int))), (2, vI (((h : Nat) : Int))), (3, vI (((462 * ((c - 1 : Nat) : Int)) + ((h : Nat) : Int)))), (4, vL (l)), (6, vI (((g + 1 : Nat) : Int)))] rfl rfl ⟨rfl, rfl, rfl, rfl, rfl, rfl, trivial⟩ ?_
                              exact ih5 (g + 1) (l) (by omega) (by omega) (by unfold onW at hl ⊢; rw [if_neg (by omega), if_pos hplain] at hl ⊢; rw [show c - 1 + 1 = c by omega] at hl ⊢; show _ = sumN g (fun g => if foM 1000000 (nkT k) D ex (c - 1) h g = true then onM 1000000 (nkT k) nm D ex (nm - 1 - c) g else 0) + (if foM 1000000 (nkT k) D ex (c - 1) h g = true then onM 1000000 (nkT k) nm D ex (nm - 1 - c) g else 0); rw [← hl]; first | (rw [if_neg (fun q => h5_49 (hfm.mpr q))]; omega) | (rw [if_pos (hfm.mp h5_49)]) | (rw [on_zc hpno]; split <;> omega)) (by omega)
                          · refine tt_ifeqT (by decide) ?_
                            have hlf : l = onM 1000000 (nkT k) nm D ex (nm - 1 - (c - 1)) h := by
                              rw [hl, ← onW_end (by omega)]
                              unfold onW
                              by_cases e1 : c - 1 + 1 = nm
                              · rw [if_pos e1, if_pos e1]
                              · rw [if_neg e1, if_neg e1]
                                by_cases e2 : plM 1000000 (nkT k) nm D ex (c - 1) h = true
                                · first | (rw [if_pos e2, if_pos e2, show g = nkT k by omega]) | exact absurd e2 h5_13
                                · rw [if_neg e2, if_neg e2]
                            refine tt_ar rfl ?_
                            refine tt_getR (wo_76 hW_σ2) rfl (wr_76_42 hW_σ2) ?_
                            refine tt_ar rfl ?_
                            refine tt_ar rfl ?_
                            refine tt_last ((462 * (c - 1)) + h) (wa_103 hW_σ2) (by omega) (by omega) (by omega) ?_
                            refine tt_iinc (y := ((h + 1 : Nat) : Int)) rfl (iinc_fit (by omega) (by omega) (by omega)) ?_
                            refine tt_goto ?_
                            refine tt_loc [(0, vR 76), (1, vI (((c - 1 : Nat) : Int))), (2, vI (((h + 1 : Nat) : Int)))] rfl rfl ⟨rfl, rfl, rfl, trivial⟩ ?_
                            exact ih2 (h + 1) _ (by omega) (Fr.put (Fr.tr Fr.rf hF_σ2 (by decide)) (by decide)) (by omega) (fun g hg => by rw [am_set_at]; by_cases e : g = h; (rw [if_pos (by omega), e]; exact hlf); (rw [if_neg (by omega)]; exact hOh g (by omega))) (fun y hy => by rw [am_set_at, if_neg (by omega)]; exact hO2 y hy)
                  refine tt_loc [(0, vR 76), (1, vI (((c - 1 : Nat) : Int))), (2, vI (((h : Nat) : Int))), (3, vI (((462 * ((c - 1 : Nat) : Int)) + ((h : Nat) : Int)))), (4, vL (0)), (6, vI (((0 : Nat) : Int)))] rfl rfl ⟨rfl, rfl, rfl, rfl, rfl, lv_to rfl (by omega), trivial⟩ ?_
                  exact lp5_5 _ (0) (0) (Nat.lt_succ_self _) (by omega) (by unfold onW; first | (rw [if_pos (by omega), if_pos h2_19]) | (rw [if_pos (by omega), if_neg h2_19]) | (rw [if_neg (by omega)]; split <;> rfl)) (by omega)
        refine tt_loc [(0, vR 76), (1, vI (((c - 1 : Nat) : Int))), (2, vI (((0 : Nat) : Int)))] rfl rfl ⟨rfl, rfl, lv_to rfl (by omega), trivial⟩ ?_
        exact lp2_2 _ (0) σ1 (Nat.lt_succ_self _) Fr.rf (by omega) (fun g hg => absurd hg (Nat.not_lt_zero g)) (fun y hy => rfl)
  refine tt_loc [(0, vR 76), (1, vI ((((nm : Nat) : Int) - 1)))] rfl rfl ⟨rfl, rfl, trivial⟩ ?_
  exact lp1_1 _ (nm) σ (Nat.lt_succ_self _) Fr.rf (by omega) (fun q h1 h2 => absurd h1 (by omega))

theorem c246 (σ : am_S) (a b : Nat) (z : Int) (hW : Wd σ) (ha : a ≤ 1000000000000000) (hb : b ≤ 1000000000000000) (hb1 : 0 < b) : CC 246 [vR 76, vL (((a : Nat) : Int)), vL (((b : Nat) : Int)), vI (z)] σ (fun r σ' => σ' = am_set (am_set σ 76 4 ((a / Nat.gcd a b : Nat) : Int)) 76 5 ((b / Nat.gcd a b : Nat) : Int) ∧ r = some (vI z)) := by
  show TT am_b246 (am_b246.getD 0 []) [(0, vR 76), (1, vL (((a : Nat) : Int))), (3, vL (((b : Nat) : Int))), (5, vI (z))] [] σ _
  have hgp : 0 < Nat.gcd a b := Nat.gcd_pos_of_pos_right a hb1
  refine tt_ar rfl ?_
  refine tt_ar rfl ?_
  refine tt_ar rfl ?_
  refine tt_ar rfl ?_
  refine tt_nop ?_
  have lp1_1 : ∀ (μ : Nat) (x : Nat) (y : Nat), y < μ → (x ≤ 1000000000000000) → (y ≤ 1000000000000000) → (Nat.gcd y x = Nat.gcd a b) → TT am_b246 (am_b246.getD 1 []) [(0, vR 76), (1, vL (((a : Nat) : Int))), (3, vL (((b : Nat) : Int))), (5, vI (z)), (6, vL (((x : Nat) : Int))), (8, vL (((y : Nat) : Int)))] [] σ (fun r σ' => σ' = am_set (am_set σ 76 4 ((a / Nat.gcd a b : Nat) : Int)) 76 5 ((b / Nat.gcd a b : Nat) : Int) ∧ r = some (vI z)) := by
    intro μ
    induction μ with
    | zero => intro x y hμ; exact absurd hμ (Nat.not_lt_zero _)
    | succ μ ih1 =>
      intro x y hμ hx hy hgc
      refine tt_ar rfl ?_
      refine tt_ar rfl ?_
      refine tt_lcmp (fun h2 => ?_) (fun h3 => ?_) (fun h4 => ?_)
      ·
        refine tt_ifeqF (by decide) ?_
        refine tt_ar rfl ?_
        refine tt_ar rfl ?_
        refine tt_dL (g := (fun a b => Int.tmod a b)) (z := ((x % y : Nat) : Int)) rfl (by omega) rfl ?_
        refine tt_ar rfl ?_
        refine tt_ar rfl ?_
        refine tt_ar rfl ?_
        refine tt_ar rfl ?_
        refine tt_ar rfl ?_
        refine tt_goto ?_
        refine tt_loc [(0, vR 76), (1, vL (((a : Nat) : Int))), (3, vL (((b : Nat) : Int))), (5, vI (z)), (6, vL (((y : Nat) : Int))), (8, vL (((x % y : Nat) : Int)))] rfl rfl ⟨rfl, rfl, rfl, rfl, rfl, rfl, trivial⟩ ?_
        exact ih1 (y) (x % y) (by have := Nat.mod_lt x (show 0 < y by omega); omega) (by omega) (Nat.le_trans (Nat.mod_le x y) hx) ((Nat.gcd_rec y x).symm.trans hgc)
      ·
        refine tt_ifeqT (by decide) ?_
        have ey : y = 0 := by omega
        have hxg : x = Nat.gcd a b := by rw [← hgc, ey, Nat.gcd_zero_left]
        refine tt_ar rfl ?_
        refine tt_ar rfl ?_
        refine tt_ar rfl ?_
        refine tt_dL (g := (fun a b => w64 (Int.tdiv a b))) (z := ((a / Nat.gcd a b : Nat) : Int)) rfl (by omega) (by rw [hxg]; exact show w64 (((a / Nat.gcd a b : Nat)) : Int) = _ from w64_i (Int.le_trans (by decide) (Int.natCast_nonneg _)) (Int.le_trans (Int.ofNat_le.mpr (Nat.div_le_self a (Nat.gcd a b))) (by omega))) ?_
        refine tt_putL (wo_76 hW) rfl ?_
        refine tt_ar rfl ?_
        refine tt_ar rfl ?_
        refine tt_ar rfl ?_
        refine tt_dL (g := (fun a b => w64 (Int.tdiv a b))) (z := ((b / Nat.gcd a b : Nat) : Int)) rfl (by omega) (by rw [hxg]; exact show w64 (((b / Nat.gcd a b : Nat)) : Int) = _ from w64_i (Int.le_trans (by decide) (Int.natCast_nonneg _)) (Int.le_trans (Int.ofNat_le.mpr (Nat.div_le_self b (Nat.gcd a b))) (by omega))) ?_
        refine tt_putL (wo_76 hW) rfl ?_
        refine tt_ar rfl ?_
        refine tt_iret ?_
        exact ⟨rfl, rfl⟩
      ·
        refine tt_ifeqF (by decide) ?_
        refine tt_ar rfl ?_
        refine tt_ar rfl ?_
        refine tt_dL (g := (fun a b => Int.tmod a b)) (z := ((x % y : Nat) : Int)) rfl (by omega) rfl ?_
        refine tt_ar rfl ?_
        refine tt_ar rfl ?_
        refine tt_ar rfl ?_
        refine tt_ar rfl ?_
        refine tt_ar rfl ?_
        refine tt_goto ?_
        refine tt_loc [(0, vR 76), (1, vL (((a : Nat) : Int))), (3, vL (((b : Nat) : Int))), (5, vI (z)), (6, vL (((y : Nat) : Int))), (8, vL (((x % y : Nat) : Int)))] rfl rfl ⟨rfl, rfl, rfl, rfl, rfl, rfl, trivial⟩ ?_
        exact ih1 (y) (x % y) (by have := Nat.mod_lt x (show 0 < y by omega); omega) (by omega) (Nat.le_trans (Nat.mod_le x y) hx) ((Nat.gcd_rec y x).symm.trans hgc)
  refine tt_loc [(0, vR 76), (1, vL (((a : Nat) : Int))), (3, vL (((b : Nat) : Int))), (5, vI (z)), (6, vL (((a : Nat) : Int))), (8, vL (((b : Nat) : Int)))] rfl rfl ⟨rfl, rfl, rfl, rfl, rfl, rfl, trivial⟩ ?_
  exact lp1_1 _ (a) (b) (Nat.lt_succ_self _) (by omega) (by omega) (Nat.gcd_comm b a)

theorem c244 (A σ : am_S) (k nm ns : Nat) (D : Nat → Nat → Int) (hA : CI k nm ns D A) (hW : Wd σ) (hR : RRb k nm ns D A σ) (u s w : Int) : CC 244 [vR 76, vI (u), vI (s), vI (w)] σ (fun r σ' => PMd A σ (x_share k nm D A u s w) r σ') := by
  show TT am_b244 (am_b244.getD 0 []) [(0, vR 76), (1, vI (u)), (2, vI (s)), (3, vI (w))] [] σ _
  have hk5 := hR.aa.1
  have hl27 := hR.aa.2.1
  have hs47 := hR.aa.2.2
  have hk6 := hA.x.1.2.1
  have hm12 := hA.x.2.2.1.2.1
  have hs16 := hA.st.2
  have hDA := hA.x.1
  have hHT := hA.x.2.1
  have hLA := hA.x.2.2.1
  have hHB := HB_of hDA hHT
  have hnb := nkT_bd k
  obtain ⟨ex, hxA⟩ : ∃ ex : Nat → Nat → Int, exA k A = ex := ⟨_, rfl⟩
  have hRH := RH_of hA hxA
  refine tt_ar rfl ?_
  refine tt_ar rfl ?_
  refine tt_cv2 2 rfl (wo_76 hW) (c209 A σ k nm ns D hA hW hR _) (kb (fun h0_2 => ?_) (fun h0_2 => ?_))
  · refine tt_ifeqF (by decide) ?_
    refine tt_ar rfl ?_
    refine tt_ar rfl ?_
    refine tt_cv2 2 rfl (wo_76 hW) (c202 A σ k nm ns D hA hW hR _) (kb (fun h0_6 => ?_) (fun h0_6 => ?_))
    · refine tt_ifeqF (by decide) ?_
      refine tt_ar rfl ?_
      refine tt_ar rfl ?_
      refine tt_ar rfl ?_
      refine tt_cs3 3 rfl (c175 _ _ _ _) (kb (fun h0_11 => ?_) (fun h0_11 => ?_))
      · refine tt_ifneT (by decide) ?_
        obtain ⟨un, rfl⟩ : ∃ un : Nat, u = (un : Int) := ⟨u.toNat, by omega⟩
        obtain ⟨sn, rfl⟩ : ∃ sn : Nat, s = (sn : Int) := ⟨s.toNat, by omega⟩
        refine tt_ar rfl ?_
        refine tt_cv1 1 rfl (wo_76 hW) (c235 A σ k nm ns D hA hW hR ex hxA) ?_
        intro r0 σt hq0
        obtain ⟨rfl, hRt, hst, hFt, hT⟩ := hq0
        have hW1 := Fr.wd hFt hW
        have hbsd := bs_dc (n := nm) hRH
        have hbm := mi_c (bsN 1000000 (nkT k) nm D ex)
        refine tt_ar rfl ?_
        refine tt_getI (x := miN 100000 (bsN 1000000 (nkT k) nm D ex)) (wo_76 hW1) rfl hT.2 ?_
        refine tt_ar rfl ?_
        refine tt_icne (fun h2_5 => ?_) (fun h2_5 => ?_)
        · refine tt_ar rfl ?_
          have htold : bsN 1000000 (nkT k) nm D ex < 1000000 := by omega
          have hwp := wy_pos (hRH.th htold)
          refine tt_cv1 1 rfl (wo_76 hW1) (c241 A σt k nm ns D hA hW1 hRt ex hxA hst hT htold) ?_
          intro r0 σw hq0
          obtain ⟨rfl, hFw, hto⟩ := hq0
          have hW2 := Fr.wd hFw hW1
          have htl : tlA k nm D A = cpM 1000000000000001 (wyM 1000000 (nkT k) nm D ex) := by unfold tlA; rw [hxA, if_pos htold]
          refine tt_ar rfl ?_
          refine tt_ar rfl ?_
          refine tt_ar rfl ?_
          refine tt_lcmp (fun h3 => ?_) (fun h4 => ?_) (fun h5 => ?_)
          ·
            refine tt_ifleT (by decide) ?_
            refine tt_ar rfl ?_
            have hwq : cpM 1000000000000001 (wyM 1000000 (nkT k) nm D ex) = wyM 1000000 (nkT k) nm D ex := by unfold cpM at *; split; (rename_i q; rw [if_pos q] at *; omega); rfl
            have hw1 : wyM 1000000 (nkT k) nm D ex ≤ 1000000000000000 := by omega
            refine tt_cv1 1 rfl (wo_76 hW2) (c245 A σw k nm ns D hA hW2 (hRt.fr hFw (by decide)) ex hxA ((hFw.2 76 (by decide) 31).trans hst) (hT.fr hFw (by decide)) htold hw1) ?_
            intro r0 σo hq0
            obtain ⟨rfl, hFo, hon⟩ := hq0
            have hW6 := Fr.wd hFo hW2
            refine tt_ar rfl ?_
            refine tt_ar rfl ?_
            refine tt_ar rfl ?_
            refine tt_ar rfl ?_
            refine tt_nop ?_
            have lp5_7 : ∀ (μ : Nat) (h : Nat), nkT k - h < μ → (h ≤ nkT k) → TT am_b244 (am_b244.getD 5 []) [(0, vR 76), (1, vI (((un : Nat) : Int))), (2, vI (((sn : Nat) : Int))), (3, vI (w)), (4, vL (cpM 1000000000000001 (wyM 1000000 (nkT k) nm D ex))), (6, vL (sumN h (fun h => if ((dg (tb k h) sn : Nat) : Int) = w then toM 1000000 (nkT k) nm D ex un h * onM 1000000 (nkT k) nm D ex (nm - 1 - un) h else 0))), (8, vI (((h : Nat) : Int)))] [] σo (fun r σ' => PMd A σ (x_share k nm D A (un : Int) (sn : Int) w) r σ') := by
              intro μ
              induction μ with
              | zero => intro h hμ; exact absurd hμ (Nat.not_lt_zero _)
              | succ μ ih5 =>
                intro h hμ hh
                have hvb := sumN_up (g := fun h => if ((dg (tb k h) sn : Nat) : Int) = w then toM 1000000 (nkT k) nm D ex un h * onM 1000000 (nkT k) nm D ex (nm - 1 - un) h else 0) (n := h) (fun i => by split; exact pr_nn; exact Int.le_refl _) (nkT k - h)
                rw [show h + (nkT k - h) = nkT k by omega] at hvb
                have hvt := hv_le (k := k) (nm := nm) (m := un) (s := sn) (D := D) (ex := ex) (w := w) (by omega)
                unfold hvM at hvt
                have hv0 : 0 ≤ sumN h (fun h => if ((dg (tb k h) sn : Nat) : Int) = w then toM 1000000 (nkT k) nm D ex un h * onM 1000000 (nkT k) nm D ex (nm - 1 - un) h else 0) := sumN_nn (fun i _ => by split; exact pr_nn; exact Int.le_refl _)
                refine tt_ar rfl ?_
                refine tt_ar rfl ?_
                refine tt_getI (x := ((nkT k : Nat) : Int)) (wo_76 hW6) rfl (((hFo.2 76 (by decide) (27)).trans (hFw.2 76 (by decide) (27))).trans hRt.hs.1) ?_
                refine tt_icge (fun h5_3 => ?_) (fun h5_3 => ?_)
                · refine tt_ar rfl ?_
                  refine tt_ar rfl ?_
                  refine tt_ar rfl ?_
                  refine tt_ar rfl ?_
                  have eh : h = nkT k := by omega
                  obtain ⟨ga, hga⟩ : ∃ a : Nat, hvM k nm un sn D ex w = (a : Int) := ⟨_, (Int.toNat_of_nonneg (by have q := hv0; rw [eh] at q; exact q)).symm⟩
                  obtain ⟨gb, hgb⟩ : ∃ b : Nat, cpM 1000000000000001 (wyM 1000000 (nkT k) nm D ex) = (b : Int) := ⟨_, (Int.toNat_of_nonneg (by omega)).symm⟩
                  have hgh : sumN h (fun h => if ((dg (tb k h) sn : Nat) : Int) = w then toM 1000000 (nkT k) nm D ex un h * onM 1000000 (nkT k) nm D ex (nm - 1 - un) h else 0) = (ga : Int) := by rw [eh]; exact hga
                  have hgt : hvM k nm un sn D ex w ≤ wyM 1000000 (nkT k) nm D ex := hv_le (by omega)
                  have hc246 := c246 σo ga gb 1 hW6 (by omega) (by omega) (by omega)
                  rw [← hgh, ← hgb] at hc246
                  refine tt_cv4 6 rfl (wo_76 hW6) hc246 (ks ?_)
                  refine tt_iret ?_
                  have hwb : wyM 1000000 (nkT k) nm D ex = (gb : Int) := hwq.symm.trans hgb
                  exact pm_any (((hRt.fr hFw (by decide)).fr hFo (by decide)).o45) (show x_share k nm D A un sn w = (vI 1, upG ga gb A) by unfold x_share; simp only [Int.toNat_natCast, hl27, hk5]; rw [hxA, if_pos (by omega), if_pos htold, htl, if_neg (by omega), hga, hwb]) ⟨(QR.of (Fr.tr (Fr.tr (Fr.mono hFt (by decide) : Fr [76, 94, 95, 96, 97, 98, 99, 100, 102, 103] σ σt) hFw (by decide)) hFo (by decide)) (by decide)).1, fun a ha j => (am_set_nb (by omega)).trans ((am_set_nb (by omega)).trans ((QR.of (Fr.tr (Fr.tr (Fr.mono hFt (by decide) : Fr [76, 94, 95, 96, 97, 98, 99, 100, 102, 103] σ σt) hFw (by decide)) hFo (by decide)) (by decide)).2 a ha j))⟩
                · refine tt_ar rfl ?_
                  refine tt_ar rfl ?_
                  refine tt_getR (wo_76 hW6) rfl (wr_76_29 hW6) ?_
                  refine tt_ar rfl ?_
                  refine tt_ar rfl ?_
                  refine tt_imul (by omega) (by omega) ?_
                  refine tt_ar rfl ?_
                  refine tt_iadd (by omega) (by omega) ?_
                  refine tt_iald (((6 * h) + sn)) (x := ((dg (tb k h) sn : Nat) : Int)) (wa_93 hW6) (by omega) (by omega) (((hFo.2 93 (by decide) (((6 * h) + sn))).trans ((hFw.2 93 (by decide) (((6 * h) + sn))).trans (hFt.2 93 (by decide) (((6 * h) + sn))))).trans ((hR.hs.2 h (by omega)).2 sn (by omega))) ?_
                  have hd9 := dg_lt (tb k h) sn
                  refine tt_ar rfl ?_
                  refine tt_icne (fun h5_14 => ?_) (fun h5_14 => ?_)
                  · refine tt_ar rfl ?_
                    refine tt_nop ?_
                    refine tt_bL (g := (fun a b => w64 (a + b))) (z := sumN h (fun h => if ((dg (tb k h) sn : Nat) : Int) = w then toM 1000000 (nkT k) nm D ex un h * onM 1000000 (nkT k) nm D ex (nm - 1 - un) h else 0)) rfl (w64_fit (by omega) (by omega) (by omega)) ?_
                    refine tt_ar rfl ?_
                    refine tt_iinc (y := ((h + 1 : Nat) : Int)) rfl (iinc_fit (by omega) (by omega) (by omega)) ?_
                    refine tt_goto ?_
                    refine tt_loc [(0, vR 76), (1, vI (((un : Nat) : Int))), (2, vI (((sn : Nat) : Int))), (3, vI (w)), (4, vL (cpM 1000000000000001 (wyM 1000000 (nkT k) nm D ex))), (6, vL (sumN (h + 1) (fun h => if ((dg (tb k h) sn : Nat) : Int) = w then toM 1000000 (nkT k) nm D ex un h * onM 1000000 (nkT k) nm D ex (nm - 1 - un) h else 0))), (8, vI (((h + 1 : Nat) : Int)))] rfl rfl ⟨rfl, rfl, rfl, rfl, rfl, lv_toL rfl (by rw [show sumN (h + 1) (fun h => if ((dg (tb k h) sn : Nat) : Int) = w then toM 1000000 (nkT k) nm D ex un h * onM 1000000 (nkT k) nm D ex (nm - 1 - un) h else 0) = sumN h (fun h => if ((dg (tb k h) sn : Nat) : Int) = w then toM 1000000 (nkT k) nm D ex un h * onM 1000000 (nkT k) nm D ex (nm - 1 - un) h else 0) + (if ((dg (tb k h) sn : Nat) : Int) = w then toM 1000000 (nkT k) nm D ex un h * onM 1000000 (nkT k) nm D ex (nm - 1 - un) h else 0) from rfl]; first | (rw [if_pos h5_14]) | (rw [if_neg h5_14]; omega)), rfl, trivial⟩ ?_
                    exact ih5 (h + 1) (by omega) (by omega)
                  · refine tt_ar rfl ?_
                    refine tt_getR (wo_76 hW6) rfl (wr_76_41 hW6) ?_
                    refine tt_ar rfl ?_
                    refine tt_ar rfl ?_
                    refine tt_imul (by omega) (by omega) ?_
                    refine tt_ar rfl ?_
                    refine tt_iadd (by omega) (by omega) ?_
                    refine tt_lald (((462 * un) + h)) (x := toM 1000000 (nkT k) nm D ex un h) (wa_102 hW6) (by omega) (by omega) ((hFo.2 102 (by decide) (((462 * un) + h))).trans (hto hw1 un (by omega) h (by omega))) ?_
                    refine tt_ar rfl ?_
                    refine tt_getR (wo_76 hW6) rfl (wr_76_42 hW6) ?_
                    refine tt_ar rfl ?_
                    refine tt_ar rfl ?_
                    refine tt_imul (by omega) (by omega) ?_
                    refine tt_ar rfl ?_
                    refine tt_iadd (by omega) (by omega) ?_
                    refine tt_lald (((462 * un) + h)) (x := onM 1000000 (nkT k) nm D ex (nm - 1 - un) h) (wa_103 hW6) (by omega) (by omega) (hon un (by omega) h (by omega)) ?_
                    refine tt_bL (g := (fun a b => w64 (a * b))) (z := (toM 1000000 (nkT k) nm D ex un h * onM 1000000 (nkT k) nm D ex (nm - 1 - un) h)) rfl (w64_i (by have := pr_nn (F := 1000000) (N := nkT k) (n := nm) (D := D) (ex := ex) (m := un) (h := h); omega) (by have := pr_le (F := 1000000) (N := nkT k) (n := nm) (D := D) (ex := ex) (m := un) (h := h) (by omega) (by omega); omega)) ?_
                    refine tt_goto ?_
                    refine tt_bL (g := (fun a b => w64 (a + b))) (z := (sumN h (fun h => if ((dg (tb k h) sn : Nat) : Int) = w then toM 1000000 (nkT k) nm D ex un h * onM 1000000 (nkT k) nm D ex (nm - 1 - un) h else 0) + (toM 1000000 (nkT k) nm D ex un h * onM 1000000 (nkT k) nm D ex (nm - 1 - un) h))) rfl (w64_i (by have := pr_nn (F := 1000000) (N := nkT k) (n := nm) (D := D) (ex := ex) (m := un) (h := h); omega) (by have := pr_le (F := 1000000) (N := nkT k) (n := nm) (D := D) (ex := ex) (m := un) (h := h) (by omega) (by omega); omega)) ?_
                    refine tt_ar rfl ?_
                    refine tt_iinc (y := ((h + 1 : Nat) : Int)) rfl (iinc_fit (by omega) (by omega) (by omega)) ?_
                    refine tt_goto ?_
                    refine tt_loc [(0, vR 76), (1, vI (((un : Nat) : Int))), (2, vI (((sn : Nat) : Int))), (3, vI (w)), (4, vL (cpM 1000000000000001 (wyM 1000000 (nkT k) nm D ex))), (6, vL (sumN (h + 1) (fun h => if ((dg (tb k h) sn : Nat) : Int) = w then toM 1000000 (nkT k) nm D ex un h * onM 1000000 (nkT k) nm D ex (nm - 1 - un) h else 0))), (8, vI (((h + 1 : Nat) : Int)))] rfl rfl ⟨rfl, rfl, rfl, rfl, rfl, lv_toL rfl (by rw [show sumN (h + 1) (fun h => if ((dg (tb k h) sn : Nat) : Int) = w then toM 1000000 (nkT k) nm D ex un h * onM 1000000 (nkT k) nm D ex (nm - 1 - un) h else 0) = sumN h (fun h => if ((dg (tb k h) sn : Nat) : Int) = w then toM 1000000 (nkT k) nm D ex un h * onM 1000000 (nkT k) nm D ex (nm - 1 - un) h else 0) + (if ((dg (tb k h) sn : Nat) : Int) = w then toM 1000000 (nkT k) nm D ex un h * onM 1000000 (nkT k) nm D ex (nm - 1 - un) h else 0) from rfl]; first | (rw [if_pos h5_14]) | (rw [if_neg h5_14]; omega)), rfl, trivial⟩ ?_
                    exact ih5 (h + 1) (by omega) (by omega)
            refine tt_loc [(0, vR 76), (1, vI (((un : Nat) : Int))), (2, vI (((sn : Nat) : Int))), (3, vI (w)), (4, vL (cpM 1000000000000001 (wyM 1000000 (nkT k) nm D ex))), (6, vL (sumN 0 (fun h => if ((dg (tb k h) sn : Nat) : Int) = w then toM 1000000 (nkT k) nm D ex un h * onM 1000000 (nkT k) nm D ex (nm - 1 - un) h else 0))), (8, vI (((0 : Nat) : Int)))] rfl rfl ⟨rfl, rfl, rfl, rfl, rfl, lv_toL rfl rfl, lv_to rfl (by omega), trivial⟩ ?_
            exact lp5_7 _ (0) (Nat.lt_succ_self _) (by omega)
          ·
            refine tt_ifleT (by decide) ?_
            refine tt_ar rfl ?_
            have hwq : cpM 1000000000000001 (wyM 1000000 (nkT k) nm D ex) = wyM 1000000 (nkT k) nm D ex := by unfold cpM at *; split; (rename_i q; rw [if_pos q] at *; omega); rfl
            have hw1 : wyM 1000000 (nkT k) nm D ex ≤ 1000000000000000 := by omega
            refine tt_cv1 1 rfl (wo_76 hW2) (c245 A σw k nm ns D hA hW2 (hRt.fr hFw (by decide)) ex hxA ((hFw.2 76 (by decide) 31).trans hst) (hT.fr hFw (by decide)) htold hw1) ?_
            intro r0 σo hq0
            obtain ⟨rfl, hFo, hon⟩ := hq0
            have hW8 := Fr.wd hFo hW2
            refine tt_ar rfl ?_
            refine tt_ar rfl ?_
            refine tt_ar rfl ?_
            refine tt_ar rfl ?_
            refine tt_nop ?_
            have lp5_9 : ∀ (μ : Nat) (h : Nat), nkT k - h < μ → (h ≤ nkT k) → TT am_b244 (am_b244.getD 5 []) [(0, vR 76), (1, vI (((un : Nat) : Int))), (2, vI (((sn : Nat) : Int))), (3, vI (w)), (4, vL (cpM 1000000000000001 (wyM 1000000 (nkT k) nm D ex))), (6, vL (sumN h (fun h => if ((dg (tb k h) sn : Nat) : Int) = w then toM 1000000 (nkT k) nm D ex un h * onM 1000000 (nkT k) nm D ex (nm - 1 - un) h else 0))), (8, vI (((h : Nat) : Int)))] [] σo (fun r σ' => PMd A σ (x_share k nm D A (un : Int) (sn : Int) w) r σ') := by
              intro μ
              induction μ with
              | zero => intro h hμ; exact absurd hμ (Nat.not_lt_zero _)
              | succ μ ih5 =>
                intro h hμ hh
                have hvb := sumN_up (g := fun h => if ((dg (tb k h) sn : Nat) : Int) = w then toM 1000000 (nkT k) nm D ex un h * onM 1000000 (nkT k) nm D ex (nm - 1 - un) h else 0) (n := h) (fun i => by split; exact pr_nn; exact Int.le_refl _) (nkT k - h)
                rw [show h + (nkT k - h) = nkT k by omega] at hvb
                have hvt := hv_le (k := k) (nm := nm) (m := un) (s := sn) (D := D) (ex := ex) (w := w) (by omega)
                unfold hvM at hvt
                have hv0 : 0 ≤ sumN h (fun h => if ((dg (tb k h) sn : Nat) : Int) = w then toM 1000000 (nkT k) nm D ex un h * onM 1000000 (nkT k) nm D ex (nm - 1 - un) h else 0) := sumN_nn (fun i _ => by split; exact pr_nn; exact Int.le_refl _)
                refine tt_ar rfl ?_
                refine tt_ar rfl ?_
                refine tt_getI (x := ((nkT k : Nat) : Int)) (wo_76 hW8) rfl (((hFo.2 76 (by decide) (27)).trans (hFw.2 76 (by decide) (27))).trans hRt.hs.1) ?_
                refine tt_icge (fun h5_3 => ?_) (fun h5_3 => ?_)
                · refine tt_ar rfl ?_
                  refine tt_ar rfl ?_
                  refine tt_ar rfl ?_
                  refine tt_ar rfl ?_
                  have eh : h = nkT k := by omega
                  obtain ⟨ga, hga⟩ : ∃ a : Nat, hvM k nm un sn D ex w = (a : Int) := ⟨_, (Int.toNat_of_nonneg (by have q := hv0; rw [eh] at q; exact q)).symm⟩
                  obtain ⟨gb, hgb⟩ : ∃ b : Nat, cpM 1000000000000001 (wyM 1000000 (nkT k) nm D ex) = (b : Int) := ⟨_, (Int.toNat_of_nonneg (by omega)).symm⟩
                  have hgh : sumN h (fun h => if ((dg (tb k h) sn : Nat) : Int) = w then toM 1000000 (nkT k) nm D ex un h * onM 1000000 (nkT k) nm D ex (nm - 1 - un) h else 0) = (ga : Int) := by rw [eh]; exact hga
                  have hgt : hvM k nm un sn D ex w ≤ wyM 1000000 (nkT k) nm D ex := hv_le (by omega)
                  have hc246 := c246 σo ga gb 1 hW8 (by omega) (by omega) (by omega)
                  rw [← hgh, ← hgb] at hc246
                  refine tt_cv4 6 rfl (wo_76 hW8) hc246 (ks ?_)
                  refine tt_iret ?_
                  have hwb : wyM 1000000 (nkT k) nm D ex = (gb : Int) := hwq.symm.trans hgb
                  exact pm_any (((hRt.fr hFw (by decide)).fr hFo (by decide)).o45) (show x_share k nm D A un sn w = (vI 1, upG ga gb A) by unfold x_share; simp only [Int.toNat_natCast, hl27, hk5]; rw [hxA, if_pos (by omega), if_pos htold, htl, if_neg (by omega), hga, hwb]) ⟨(QR.of (Fr.tr (Fr.tr (Fr.mono hFt (by decide) : Fr [76, 94, 95, 96, 97, 98, 99, 100, 102, 103] σ σt) hFw (by decide)) hFo (by decide)) (by decide)).1, fun a ha j => (am_set_nb (by omega)).trans ((am_set_nb (by omega)).trans ((QR.of (Fr.tr (Fr.tr (Fr.mono hFt (by decide) : Fr [76, 94, 95, 96, 97, 98, 99, 100, 102, 103] σ σt) hFw (by decide)) hFo (by decide)) (by decide)).2 a ha j))⟩
                · refine tt_ar rfl ?_
                  refine tt_ar rfl ?_
                  refine tt_getR (wo_76 hW8) rfl (wr_76_29 hW8) ?_
                  refine tt_ar rfl ?_
                  refine tt_ar rfl ?_
                  refine tt_imul (by omega) (by omega) ?_
                  refine tt_ar rfl ?_
                  refine tt_iadd (by omega) (by omega) ?_
                  refine tt_iald (((6 * h) + sn)) (x := ((dg (tb k h) sn : Nat) : Int)) (wa_93 hW8) (by omega) (by omega) (((hFo.2 93 (by decide) (((6 * h) + sn))).trans ((hFw.2 93 (by decide) (((6 * h) + sn))).trans (hFt.2 93 (by decide) (((6 * h) + sn))))).trans ((hR.hs.2 h (by omega)).2 sn (by omega))) ?_
                  have hd9 := dg_lt (tb k h) sn
                  refine tt_ar rfl ?_
                  refine tt_icne (fun h5_14 => ?_) (fun h5_14 => ?_)
                  · refine tt_ar rfl ?_
                    refine tt_nop ?_
                    refine tt_bL (g := (fun a b => w64 (a + b))) (z := sumN h (fun h => if ((dg (tb k h) sn : Nat) : Int) = w then toM 1000000 (nkT k) nm D ex un h * onM 1000000 (nkT k) nm D ex (nm - 1 - un) h else 0)) rfl (w64_fit (by omega) (by omega) (by omega)) ?_
                    refine tt_ar rfl ?_
                    refine tt_iinc (y := ((h + 1 : Nat) : Int)) rfl (iinc_fit (by omega) (by omega) (by omega)) ?_
                    refine tt_goto ?_
                    refine tt_loc [(0, vR 76), (1, vI (((un : Nat) : Int))), (2, vI (((sn : Nat) : Int))), (3, vI (w)), (4, vL (cpM 1000000000000001 (wyM 1000000 (nkT k) nm D ex))), (6, vL (sumN (h + 1) (fun h => if ((dg (tb k h) sn : Nat) : Int) = w then toM 1000000 (nkT k) nm D ex un h * onM 1000000 (nkT k) nm D ex (nm - 1 - un) h else 0))), (8, vI (((h + 1 : Nat) : Int)))] rfl rfl ⟨rfl, rfl, rfl, rfl, rfl, lv_toL rfl (by rw [show sumN (h + 1) (fun h => if ((dg (tb k h) sn : Nat) : Int) = w then toM 1000000 (nkT k) nm D ex un h * onM 1000000 (nkT k) nm D ex (nm - 1 - un) h else 0) = sumN h (fun h => if ((dg (tb k h) sn : Nat) : Int) = w then toM 1000000 (nkT k) nm D ex un h * onM 1000000 (nkT k) nm D ex (nm - 1 - un) h else 0) + (if ((dg (tb k h) sn : Nat) : Int) = w then toM 1000000 (nkT k) nm D ex un h * onM 1000000 (nkT k) nm D ex (nm - 1 - un) h else 0) from rfl]; first | (rw [if_pos h5_14]) | (rw [if_neg h5_14]; omega)), rfl, trivial⟩ ?_
                    exact ih5 (h + 1) (by omega) (by omega)
                  · refine tt_ar rfl ?_
                    refine tt_getR (wo_76 hW8) rfl (wr_76_41 hW8) ?_
                    refine tt_ar rfl ?_
                    refine tt_ar rfl ?_
                    refine tt_imul (by omega) (by omega) ?_
                    refine tt_ar rfl ?_
                    refine tt_iadd (by omega) (by omega) ?_
                    refine tt_lald (((462 * un) + h)) (x := toM 1000000 (nkT k) nm D ex un h) (wa_102 hW8) (by omega) (by omega) ((hFo.2 102 (by decide) (((462 * un) + h))).trans (hto hw1 un (by omega) h (by omega))) ?_
                    refine tt_ar rfl ?_
                    refine tt_getR (wo_76 hW8) rfl (wr_76_42 hW8) ?_
                    refine tt_ar rfl ?_
                    refine tt_ar rfl ?_
                    refine tt_imul (by omega) (by omega) ?_
                    refine tt_ar rfl ?_
                    refine tt_iadd (by omega) (by omega) ?_
                    refine tt_lald (((462 * un) + h)) (x := onM 1000000 (nkT k) nm D ex (nm - 1 - un) h) (wa_103 hW8) (by omega) (by omega) (hon un (by omega) h (by omega)) ?_
                    refine tt_bL (g := (fun a b => w64 (a * b))) (z := (toM 1000000 (nkT k) nm D ex un h * onM 1000000 (nkT k) nm D ex (nm - 1 - un) h)) rfl (w64_i (by have := pr_nn (F := 1000000) (N := nkT k) (n := nm) (D := D) (ex := ex) (m := un) (h := h); omega) (by have := pr_le (F := 1000000) (N := nkT k) (n := nm) (D := D) (ex := ex) (m := un) (h := h) (by omega) (by omega); omega)) ?_
                    refine tt_goto ?_
                    refine tt_bL (g := (fun a b => w64 (a + b))) (z := (sumN h (fun h => if ((dg (tb k h) sn : Nat) : Int) = w then toM 1000000 (nkT k) nm D ex un h * onM 1000000 (nkT k) nm D ex (nm - 1 - un) h else 0) + (toM 1000000 (nkT k) nm D ex un h * onM 1000000 (nkT k) nm D ex (nm - 1 - un) h))) rfl (w64_i (by have := pr_nn (F := 1000000) (N := nkT k) (n := nm) (D := D) (ex := ex) (m := un) (h := h); omega) (by have := pr_le (F := 1000000) (N := nkT k) (n := nm) (D := D) (ex := ex) (m := un) (h := h) (by omega) (by omega); omega)) ?_
                    refine tt_ar rfl ?_
                    refine tt_iinc (y := ((h + 1 : Nat) : Int)) rfl (iinc_fit (by omega) (by omega) (by omega)) ?_
                    refine tt_goto ?_
                    refine tt_loc [(0, vR 76), (1, vI (((un : Nat) : Int))), (2, vI (((sn : Nat) : Int))), (3, vI (w)), (4, vL (cpM 1000000000000001 (wyM 1000000 (nkT k) nm D ex))), (6, vL (sumN (h + 1) (fun h => if ((dg (tb k h) sn : Nat) : Int) = w then toM 1000000 (nkT k) nm D ex un h * onM 1000000 (nkT k) nm D ex (nm - 1 - un) h else 0))), (8, vI (((h + 1 : Nat) : Int)))] rfl rfl ⟨rfl, rfl, rfl, rfl, rfl, lv_toL rfl (by rw [show sumN (h + 1) (fun h => if ((dg (tb k h) sn : Nat) : Int) = w then toM 1000000 (nkT k) nm D ex un h * onM 1000000 (nkT k) nm D ex (nm - 1 - un) h else 0) = sumN h (fun h => if ((dg (tb k h) sn : Nat) : Int) = w then toM 1000000 (nkT k) nm D ex un h * onM 1000000 (nkT k) nm D ex (nm - 1 - un) h else 0) + (if ((dg (tb k h) sn : Nat) : Int) = w then toM 1000000 (nkT k) nm D ex un h * onM 1000000 (nkT k) nm D ex (nm - 1 - un) h else 0) from rfl]; first | (rw [if_pos h5_14]) | (rw [if_neg h5_14]; omega)), rfl, trivial⟩ ?_
                    exact ih5 (h + 1) (by omega) (by omega)
            refine tt_loc [(0, vR 76), (1, vI (((un : Nat) : Int))), (2, vI (((sn : Nat) : Int))), (3, vI (w)), (4, vL (cpM 1000000000000001 (wyM 1000000 (nkT k) nm D ex))), (6, vL (sumN 0 (fun h => if ((dg (tb k h) sn : Nat) : Int) = w then toM 1000000 (nkT k) nm D ex un h * onM 1000000 (nkT k) nm D ex (nm - 1 - un) h else 0))), (8, vI (((0 : Nat) : Int)))] rfl rfl ⟨rfl, rfl, rfl, rfl, rfl, lv_toL rfl rfl, lv_to rfl (by omega), trivial⟩ ?_
            exact lp5_9 _ (0) (Nat.lt_succ_self _) (by omega)
          ·
            refine tt_ifleF (by decide) ?_
            refine tt_ar rfl ?_
            refine tt_iret ?_
            exact pm_same (hRt.fr hFw (by decide)) (show x_share k nm D A un sn w = (vI (-6), A) by unfold x_share; simp only [Int.toNat_natCast, hl27, hk5]; rw [hxA, if_pos (by omega), if_pos htold, htl, if_pos (by omega)]) (QR.of (Fr.tr (Fr.mono hFt (by decide) : Fr [76, 94, 95, 96, 97, 98, 99, 100, 102] σ σt) hFw (by decide)) (by decide))
        · refine tt_ar rfl ?_
          refine tt_ar rfl ?_
          refine tt_cv2 2 rfl (wo_76 hW1) (c179 σt 4 hW1 (by omega)) (ks ?_)
          refine tt_iret ?_
          exact pm_mt (f := 4) hRt (by decide) (show x_share k nm D A un sn w = (vI (-3), upF 4 A) by unfold x_share; (try simp only [Int.toNat_natCast, hl27, hk5]); (try rw [hxA]); (repeat (first | rw [if_pos (by omega)] | rw [if_neg (by omega)])); (first | done | rfl)) (QR.of hFt (by decide))
      · refine tt_ifneF (by decide) ?_
        refine tt_nop ?_
        refine tt_ar rfl ?_
        refine tt_iret ?_
        exact pm_any (M := A) hR (show x_share k nm D A u s w = (vI (-1), A) by unfold x_share; (try simp only [Int.toNat_natCast, hl27, hk5]); (try rw [hxA]); (repeat (first | rw [if_pos (by omega)] | rw [if_neg (by omega)])); (first | done | rfl)) QR.rf
    · refine tt_ifeqT (by decide) ?_
      refine tt_ar rfl ?_
      refine tt_iret ?_
      exact pm_any (M := A) hR (show x_share k nm D A u s w = (vI (-1), A) by unfold x_share; (try simp only [Int.toNat_natCast, hl27, hk5]); (try rw [hxA]); (repeat (first | rw [if_pos (by omega)] | rw [if_neg (by omega)])); (first | done | rfl)) QR.rf
  · refine tt_ifeqT (by decide) ?_
    refine tt_ar rfl ?_
    refine tt_iret ?_
    exact pm_any (M := A) hR (show x_share k nm D A u s w = (vI (-1), A) by unfold x_share; (try simp only [Int.toNat_natCast, hl27, hk5]); (try rw [hxA]); (repeat (first | rw [if_pos (by omega)] | rw [if_neg (by omega)])); (first | done | rfl)) QR.rf

