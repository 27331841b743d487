/-! THE REFERENCE'S CALLS: WAYS, TALES -/
theorem w64_fit {x n y : Int} (h : x + n = y) (h0 : -9223372036854775808 ≤ y) (h1 : y ≤ 9223372036854775807) : w64 (x + n) = y := by
  rw [h]
  exact w64_i h0 h1
theorem sumN_up {g : Nat → Int} {n : Nat} (h : ∀ i, 0 ≤ g i) : ∀ d, sumN n g ≤ sumN (n + d) g
  | 0 => Int.le_refl _
  | d + 1 => by
    have := sumN_up (n := n) h d
    have := h (n + d)
    show _ ≤ sumN (n + d) g + g (n + d)
    omega
def toW (k nm : Nat) (D ex : Nat → Nat → Int) (m h g : Nat) : Int := if m = 0 then (if plM 1000000 (nkT k) nm D ex 0 h = true then 1 else 0) else if plM 1000000 (nkT k) nm D ex m h = true then sumN g (fun g => if foM 1000000 (nkT k) D ex (m - 1) g h = true then toM 1000000 (nkT k) nm D ex (m - 1) g else 0) else 0
theorem toW_end {k nm m h : Nat} {D ex : Nat → Nat → Int} : toW k nm D ex m h (nkT k) = toM 1000000 (nkT k) nm D ex m h := by
  unfold toW
  cases m with
  | zero =>
    rw [if_pos rfl]
    rfl
  | succ m =>
    rw [if_neg (by omega), Nat.add_sub_cancel]
    rfl
theorem c241 (A σ : am_S) (k nm ns : Nat) (D : Nat → Nat → Int) (hA : CI k nm ns D A) (hW : Wd σ) (hR : RRb k nm ns D A σ) (ex : Nat → Nat → Int) (hex : exA k A = ex) (hs : σ.1 76 31 = 1) (hT : TLs k nm D ex σ) (ht : bsN 1000000 (nkT k) nm D ex < 1000000) : CC 241 [vR 76] σ (fun r σ' => r = some (vL (cpM 1000000000000001 (wyM 1000000 (nkT k) nm D ex))) ∧ Fr [102] σ σ' ∧ (wyM 1000000 (nkT k) nm D ex ≤ 1000000000000000 → ∀ q, q < nm → ∀ h, h < nkT k → σ'.1 102 (462 * q + h) = toM 1000000 (nkT k) nm D ex q h)) := by
  show TT am_b241 (am_b241.getD 0 []) [(0, vR 76)] [] σ _
  have hk5 := hR.aa.1
  have hl27 := hR.aa.2.1
  have hs47 := hR.aa.2.2
  have hk6 := hA.x.1.2.1
  have hm12 := hA.x.2.2.1.2.1
  have hs16 := hA.st.2
  have hDA := hA.x.1
  have hHT := hA.x.2.1
  have hLA := hA.x.2.2.1
  have hHB := HB_of hDA hHT
  have hnb := nkT_bd k
  have hpr := hDA.2.2.2.1
  have hDx : ∀ a b, a < nkT k → b < nkT k → 0 ≤ D a b ∧ D a b ≤ 90 := fun a b ha hb => DI.bd hk6 hpr hA.x.2.2.2 ha hb
  have hD0 : ∀ a b, a < nkT k → b < nkT k → 0 ≤ D a b := fun a b ha hb => (hDx a b ha hb).1
  have hx9 : ∀ m h, ex m h ≤ 9 ∨ ex m h = 1000000 := fun m h => by rw [← hex]; exact (ep_mi hDA).2.1
  have hx0 : ∀ m h, 0 ≤ ex m h := fun m h => by rw [← hex]; exact (ep_mi hDA).2.2
  have hep : ∀ m h, epR A k m h = miN 100000 (ex m h) := fun m h => by rw [← hex]; exact (ep_mi hDA).1
  have hRH := RH_of hA hex
  refine tt_ar rfl ?_
  refine tt_getI (x := ((nm : Nat) : Int)) (wo_76 hW) rfl hR.ln.1 ?_
  refine tt_ifne (fun h0_2 => ?_) (fun h0_2 => ?_)
  · refine tt_ar rfl ?_
    refine tt_nop ?_
    refine tt_ar rfl ?_
    refine tt_ar rfl ?_
    refine tt_ar rfl ?_
    refine tt_nop ?_
    have lp3_1 : ∀ (μ : Nat) (m : Nat) (S : Int) (σ1 : am_S), nm - m < μ → Fr [102] σ σ1 → (m ≤ nm) → (S = if nm = 0 then 1 else if m = 0 then 0 else sumN (nkT k) (fun h => toM 1000000 (nkT k) nm D ex (m - 1) h)) → (0 ≤ S ∧ S ≤ 1000000000000000) → (∀ q, q < m → ∀ h, h < nkT k → σ1.1 102 (462 * q + h) = toM 1000000 (nkT k) nm D ex q h ∧ toM 1000000 (nkT k) nm D ex q h ≤ 1000000000000000) → TT am_b241 (am_b241.getD 3 []) [(0, vR 76), (1, vL (S)), (3, vI (((m : Nat) : Int)))] [] σ1 (fun r σ' => r = some (vL (cpM 1000000000000001 (wyM 1000000 (nkT k) nm D ex))) ∧ Fr [102] σ σ' ∧ (wyM 1000000 (nkT k) nm D ex ≤ 1000000000000000 → ∀ q, q < nm → ∀ h, h < nkT k → σ'.1 102 (462 * q + h) = toM 1000000 (nkT k) nm D ex q h)) := by
      intro μ
      induction μ with
      | zero => intro m S σ1 hμ; exact absurd hμ (Nat.not_lt_zero _)
      | succ μ ih3 =>
        intro m S σ1 hμ hF_σ1 hm hS hSb hTo
        have hW_σ1 := Fr.wd hF_σ1 hW
        refine tt_ar rfl ?_
        refine tt_ar rfl ?_
        refine tt_getI (x := ((nm : Nat) : Int)) (wo_76 hW_σ1) rfl ((hF_σ1.2 76 (by decide) (25)).trans hR.ln.1) ?_
        refine tt_icge (fun h3_3 => ?_) (fun h3_3 => ?_)
        · refine tt_ar rfl ?_
          refine tt_lret ?_
          have em : m = nm := by omega
          have hwy : S = wyM 1000000 (nkT k) nm D ex := by
            rw [hS]
            by_cases e : nm = 0
            · rw [if_pos e]
              unfold wyM
              rw [if_pos e]
            · rw [if_neg e, if_neg (by omega), em]
              exact to_last (by omega)
          rw [em] at hTo
          exact ⟨rvL (by rw [← hwy]; unfold cpM; rw [if_neg (by omega)]), hF_σ1, fun _ q hq h hh => (hTo q hq h hh).1⟩
        · refine tt_ar rfl ?_
          refine tt_ar rfl ?_
          refine tt_ar rfl ?_
          refine tt_ar rfl ?_
          refine tt_nop ?_
          have lp4_2 : ∀ (μ : Nat) (h : Nat) (S2 : Int) (σ2 : am_S), nkT k - h < μ → Fr [102] σ1 σ2 → (h ≤ nkT k) → (S2 = sumN h (fun h => toM 1000000 (nkT k) nm D ex m h)) → (0 ≤ S2 ∧ S2 ≤ 1000000000000000) → (∀ g, g < h → σ2.1 102 (462 * m + g) = toM 1000000 (nkT k) nm D ex m g ∧ toM 1000000 (nkT k) nm D ex m g ≤ 1000000000000000) → (∀ y, y < 462 * m → σ2.1 102 y = σ1.1 102 y) → TT am_b241 (am_b241.getD 4 []) [(0, vR 76), (1, vL (S2)), (3, vI (((m : Nat) : Int))), (4, vI (((h : Nat) : Int)))] [] σ2 (fun r σ' => r = some (vL (cpM 1000000000000001 (wyM 1000000 (nkT k) nm D ex))) ∧ Fr [102] σ σ' ∧ (wyM 1000000 (nkT k) nm D ex ≤ 1000000000000000 → ∀ q, q < nm → ∀ h, h < nkT k → σ'.1 102 (462 * q + h) = toM 1000000 (nkT k) nm D ex q h)) := by
            intro μ
            induction μ with
            | zero => intro h S2 σ2 hμ; exact absurd hμ (Nat.not_lt_zero _)
            | succ μ ih4 =>
              intro h S2 σ2 hμ hF_σ2 hh hS2 hSb2 hTh hO
              have hW_σ2 := Fr.wd hF_σ2 hW_σ1
              have hTt := hT.fr (W := [102]) (Fr.tr hF_σ1 hF_σ2 (by decide)) (by decide)
              have hRx := hR.fr (W := [102]) (Fr.tr hF_σ1 hF_σ2 (by decide)) (by decide)
              have hsx := (hF_σ2.2 76 (by decide) 31).trans ((hF_σ1.2 76 (by decide) 31).trans hs)
              refine tt_ar rfl ?_
              refine tt_ar rfl ?_
              refine tt_getI (x := ((nkT k : Nat) : Int)) (wo_76 hW_σ2) rfl (((hF_σ2.2 76 (by decide) (27)).trans (hF_σ1.2 76 (by decide) (27))).trans hR.hs.1) ?_
              refine tt_icge (fun h4_3 => ?_) (fun h4_3 => ?_)
              · refine tt_iinc (y := ((m + 1 : Nat) : Int)) rfl (iinc_fit (by omega) (by omega) (by omega)) ?_
                refine tt_goto ?_
                refine tt_loc [(0, vR 76), (1, vL (S2)), (3, vI (((m + 1 : Nat) : Int)))] rfl rfl ⟨rfl, rfl, rfl, trivial⟩ ?_
                exact ih3 (m + 1) (S2) σ2 (by omega) (Fr.tr (Fr.tr Fr.rf hF_σ1 (by decide)) hF_σ2 (by decide)) (by omega) (by rw [if_neg (by omega), if_neg (by omega), Nat.add_sub_cancel, hS2, show h = nkT k by omega]) (by omega) (fun q hq x hx => by by_cases e : q = m; (rw [e]; exact hTh x (by omega)); (rw [hO _ (by omega)]; exact hTo q (by omega) x hx))
              · refine tt_ar rfl ?_
                refine tt_ar rfl ?_
                refine tt_imul (by omega) (by omega) ?_
                refine tt_ar rfl ?_
                refine tt_iadd (by omega) (by omega) ?_
                refine tt_ar rfl ?_
                refine tt_ar rfl ?_
                refine tt_ifne (fun h4_11 => ?_) (fun h4_11 => ?_)
                · refine tt_ar rfl ?_
                  refine tt_nop ?_
                  refine tt_ar rfl ?_
                  refine tt_ar rfl ?_
                  refine tt_ar rfl ?_
                  refine tt_nop ?_
                  have lp7_3 : ∀ (μ : Nat) (g : Nat) (l : Int), nkT k - g < μ → (g ≤ nkT k) → (l = toW k nm D ex m h g) → (0 ≤ l ∧ l ≤ 1000000000000000 * ((g : Nat) : Int) + 1) → TT am_b241 (am_b241.getD 7 []) [(0, vR 76), (1, vL (S2)), (3, vI (((m : Nat) : Int))), (4, vI (((h : Nat) : Int))), (5, vI (((462 * ((m : Nat) : Int)) + ((h : Nat) : Int)))), (6, vL (l)), (8, vI (((g : Nat) : Int)))] [] σ2 (fun r σ' => r = some (vL (cpM 1000000000000001 (wyM 1000000 (nkT k) nm D ex))) ∧ Fr [102] σ σ' ∧ (wyM 1000000 (nkT k) nm D ex ≤ 1000000000000000 → ∀ q, q < nm → ∀ h, h < nkT k → σ'.1 102 (462 * q + h) = toM 1000000 (nkT k) nm D ex q h)) := by
                    intro μ
                    induction μ with
                    | zero => intro g l hμ; exact absurd hμ (Nat.not_lt_zero _)
                    | succ μ ih7 =>
                      intro g l hμ hg hl hlb
                      refine tt_ar rfl ?_
                      refine tt_ar rfl ?_
                      refine tt_getI (x := ((nkT k : Nat) : Int)) (wo_76 hW_σ2) rfl (((hF_σ2.2 76 (by decide) (27)).trans (hF_σ1.2 76 (by decide) (27))).trans hR.hs.1) ?_
                      refine tt_icge (fun h7_3 => ?_) (fun h7_3 => ?_)
                      · have hlf : l = toM 1000000 (nkT k) nm D ex m h := by
                          rw [hl, ← toW_end]
                          unfold toW
                          by_cases e1 : m = 0
                          · rw [if_pos e1, if_pos e1]
                          · rw [if_neg e1, if_neg e1]
                            by_cases e2 : plM 1000000 (nkT k) nm D ex m h = true
                            · first | (rw [if_pos e2, if_pos e2, show g = nkT k by omega]) | exact absurd e2 h7_9
                            · rw [if_neg e2, if_neg e2]
                        refine tt_ar rfl ?_
                        refine tt_getR (wo_76 hW_σ2) rfl (wr_76_41 hW_σ2) ?_
                        refine tt_ar rfl ?_
                        refine tt_ar rfl ?_
                        refine tt_last ((462 * m) + h) (wa_102 hW_σ2) (by omega) (by omega) (by omega) ?_
                        refine tt_ar rfl ?_
                        refine tt_ar rfl ?_
                        refine tt_bL (g := (fun a b => w64 (a + b))) (z := (S2 + l)) rfl (w64_i (by omega) (by omega)) ?_
                        refine tt_ar rfl ?_
                        refine tt_ar rfl ?_
                        refine tt_ar rfl ?_
                        refine tt_lcmp (fun h4 => ?_) (fun h5 => ?_) (fun h6 => ?_)
                        ·
                          refine tt_ifgtF (by decide) ?_
                          refine tt_ar rfl ?_
                          refine tt_ar rfl ?_
                          refine tt_lcmp (fun h7 => ?_) (fun h8 => ?_) (fun h9 => ?_)
                          ·
                            refine tt_ifleT (by decide) ?_
                            refine tt_iinc (y := ((h + 1 : Nat) : Int)) rfl (iinc_fit (by omega) (by omega) (by omega)) ?_
                            refine tt_goto ?_
                            refine tt_loc [(0, vR 76), (1, vL (((S2 + l)))), (3, vI (((m : Nat) : Int))), (4, vI (((h + 1 : Nat) : Int)))] rfl rfl ⟨rfl, lv_toL rfl (by omega), rfl, rfl, trivial⟩ ?_
                            exact ih4 (h + 1) ((S2 + l)) _ (by omega) (Fr.put (Fr.tr Fr.rf hF_σ2 (by decide)) (by decide)) (by omega) (by rw [hS2, hlf]; rfl) (by omega) (fun g hg => by rw [am_set_at]; by_cases e : g = h; (rw [if_pos (by omega), e, hlf]; exact ⟨rfl, by omega⟩); (rw [if_neg (by omega)]; exact hTh g (by omega))) (fun y hy => by rw [am_set_at, if_neg (by omega)]; exact hO y hy)
                          ·
                            refine tt_ifleT (by decide) ?_
                            refine tt_iinc (y := ((h + 1 : Nat) : Int)) rfl (iinc_fit (by omega) (by omega) (by omega)) ?_
                            refine tt_goto ?_
                            refine tt_loc [(0, vR 76), (1, vL (((S2 + l)))), (3, vI (((m : Nat) : Int))), (4, vI (((h + 1 : Nat) : Int)))] rfl rfl ⟨rfl, lv_toL rfl (by omega), rfl, rfl, trivial⟩ ?_
                            exact ih4 (h + 1) ((S2 + l)) _ (by omega) (Fr.put (Fr.tr Fr.rf hF_σ2 (by decide)) (by decide)) (by omega) (by rw [hS2, hlf]; rfl) (by omega) (fun g hg => by rw [am_set_at]; by_cases e : g = h; (rw [if_pos (by omega), e, hlf]; exact ⟨rfl, by omega⟩); (rw [if_neg (by omega)]; exact hTh g (by omega))) (fun y hy => by rw [am_set_at, if_neg (by omega)]; exact hO y hy)
                          ·
                            refine tt_ifleF (by decide) ?_
                            refine tt_nop ?_
                            refine tt_ar rfl ?_
                            refine tt_lret ?_
                            have hwy : 1000000000000000 < wyM 1000000 (nkT k) nm D ex := by
                              have t1 := to_le (hRH.th ht) (m := m) (h := h) (by omega) (by omega)
                              have t2 := to_sum (hRH.th ht) (m := m) (by omega)
                              have t3 := sumN_up (g := fun h => toM 1000000 (nkT k) nm D ex m h) (n := h + 1) (fun i => to_nn _) (nkT k - (h + 1))
                              rw [show h + 1 + (nkT k - (h + 1)) = nkT k by omega] at t3
                              have t4 : sumN (h + 1) (fun h => toM 1000000 (nkT k) nm D ex m h) = S2 + l := by rw [hS2, hlf]; rfl
                              rw [← hlf] at t1
                              omega
                            exact ⟨rvL (by unfold cpM; split <;> omega), (Fr.put (Fr.tr (Fr.tr Fr.rf hF_σ1 (by decide)) hF_σ2 (by decide)) (by decide)), fun q => by omega⟩
                        ·
                          refine tt_ifgtF (by decide) ?_
                          refine tt_ar rfl ?_
                          refine tt_ar rfl ?_
                          refine tt_lcmp (fun h10 => ?_) (fun h11 => ?_) (fun h12 => ?_)
                          ·
                            refine tt_ifleT (by decide) ?_
                            refine tt_iinc (y := ((h + 1 : Nat) : Int)) rfl (iinc_fit (by omega) (by omega) (by omega)) ?_
                            refine tt_goto ?_
                            refine tt_loc [(0, vR 76), (1, vL (((S2 + l)))), (3, vI (((m : Nat) : Int))), (4, vI (((h + 1 : Nat) : Int)))] rfl rfl ⟨rfl, lv_toL rfl (by omega), rfl, rfl, trivial⟩ ?_
                            exact ih4 (h + 1) ((S2 + l)) _ (by omega) (Fr.put (Fr.tr Fr.rf hF_σ2 (by decide)) (by decide)) (by omega) (by rw [hS2, hlf]; rfl) (by omega) (fun g hg => by rw [am_set_at]; by_cases e : g = h; (rw [if_pos (by omega), e, hlf]; exact ⟨rfl, by omega⟩); (rw [if_neg (by omega)]; exact hTh g (by omega))) (fun y hy => by rw [am_set_at, if_neg (by omega)]; exact hO y hy)
                          ·
                            refine tt_ifleT (by decide) ?_
                            refine tt_iinc (y := ((h + 1 : Nat) : Int)) rfl (iinc_fit (by omega) (by omega) (by omega)) ?_
                            refine tt_goto ?_
                            refine tt_loc [(0, vR 76), (1, vL (((S2 + l)))), (3, vI (((m : Nat) : Int))), (4, vI (((h + 1 : Nat) : Int)))] rfl rfl ⟨rfl, lv_toL rfl (by omega), rfl, rfl, trivial⟩ ?_
                            exact ih4 (h + 1) ((S2 + l)) _ (by omega) (Fr.put (Fr.tr Fr.rf hF_σ2 (by decide)) (by decide)) (by omega) (by rw [hS2, hlf]; rfl) (by omega) (fun g hg => by rw [am_set_at]; by_cases e : g = h; (rw [if_pos (by omega), e, hlf]; exact ⟨rfl, by omega⟩); (rw [if_neg (by omega)]; exact hTh g (by omega))) (fun y hy => by rw [am_set_at, if_neg (by omega)]; exact hO y hy)
                          ·
                            refine tt_ifleF (by decide) ?_
                            refine tt_nop ?_
                            refine tt_ar rfl ?_
                            refine tt_lret ?_
                            have hwy : 1000000000000000 < wyM 1000000 (nkT k) nm D ex := by
                              have t1 := to_le (hRH.th ht) (m := m) (h := h) (by omega) (by omega)
                              have t2 := to_sum (hRH.th ht) (m := m) (by omega)
                              have t3 := sumN_up (g := fun h => toM 1000000 (nkT k) nm D ex m h) (n := h + 1) (fun i => to_nn _) (nkT k - (h + 1))
                              rw [show h + 1 + (nkT k - (h + 1)) = nkT k by omega] at t3
                              have t4 : sumN (h + 1) (fun h => toM 1000000 (nkT k) nm D ex m h) = S2 + l := by rw [hS2, hlf]; rfl
                              rw [← hlf] at t1
                              omega
                            exact ⟨rvL (by unfold cpM; split <;> omega), (Fr.put (Fr.tr (Fr.tr Fr.rf hF_σ1 (by decide)) hF_σ2 (by decide)) (by decide)), fun q => by omega⟩
                        ·
                          refine tt_ifgtT (by decide) ?_
                          refine tt_ar rfl ?_
                          refine tt_lret ?_
                          have hwy : 1000000000000000 < wyM 1000000 (nkT k) nm D ex := by
                            have t1 := to_le (hRH.th ht) (m := m) (h := h) (by omega) (by omega)
                            have t2 := to_sum (hRH.th ht) (m := m) (by omega)
                            have t3 := sumN_up (g := fun h => toM 1000000 (nkT k) nm D ex m h) (n := h + 1) (fun i => to_nn _) (nkT k - (h + 1))
                            rw [show h + 1 + (nkT k - (h + 1)) = nkT k by omega] at t3
                            have t4 : sumN (h + 1) (fun h => toM 1000000 (nkT k) nm D ex m h) = S2 + l := by rw [hS2, hlf]; rfl
                            rw [← hlf] at t1
                            omega
                          exact ⟨rvL (by unfold cpM; split <;> omega), (Fr.put (Fr.tr (Fr.tr Fr.rf hF_σ1 (by decide)) hF_σ2 (by decide)) (by decide)), fun q => by omega⟩
                      · refine tt_ar rfl ?_
                        refine tt_ifle (fun h7_5 => ?_) (fun h7_5 => ?_)
                        · have hlf : l = toM 1000000 (nkT k) nm D ex m h := by
                            rw [hl, ← toW_end]
                            unfold toW
                            by_cases e1 : m = 0
                            · rw [if_pos e1, if_pos e1]
                            · rw [if_neg e1, if_neg e1]
                              by_cases e2 : plM 1000000 (nkT k) nm D ex m h = true
                              · first | (rw [if_pos e2, if_pos e2, show g = nkT k by omega]) | exact absurd e2 h7_9
                              · rw [if_neg e2, if_neg e2]
                          refine tt_ar rfl ?_
                          refine tt_getR (wo_76 hW_σ2) rfl (wr_76_41 hW_σ2) ?_
                          refine tt_ar rfl ?_
                          refine tt_ar rfl ?_
                          refine tt_last ((462 * m) + h) (wa_102 hW_σ2) (by omega) (by omega) (by omega) ?_
                          refine tt_ar rfl ?_
                          refine tt_ar rfl ?_
                          refine tt_bL (g := (fun a b => w64 (a + b))) (z := (S2 + l)) rfl (w64_i (by omega) (by omega)) ?_
                          refine tt_ar rfl ?_
                          refine tt_ar rfl ?_
                          refine tt_ar rfl ?_
                          refine tt_lcmp (fun h13 => ?_) (fun h14 => ?_) (fun h15 => ?_)
                          ·
                            refine tt_ifgtF (by decide) ?_
                            refine tt_ar rfl ?_
                            refine tt_ar rfl ?_
                            refine tt_lcmp (fun h16 => ?_) (fun h17 => ?_) (fun h18 => ?_)
                            ·
                              refine tt_ifleT (by decide) ?_
                              refine tt_iinc (y := ((h + 1 : Nat) : Int)) rfl (iinc_fit (by omega) (by omega) (by omega)) ?_
                              refine tt_goto ?_
                              refine tt_loc [(0, vR 76), (1, vL (((S2 + l)))), (3, vI (((m : Nat) : Int))), (4, vI (((h + 1 : Nat) : Int)))] rfl rfl ⟨rfl, lv_toL rfl (by omega), rfl, rfl, trivial⟩ ?_
                              exact ih4 (h + 1) ((S2 + l)) _ (by omega) (Fr.put (Fr.tr Fr.rf hF_σ2 (by decide)) (by decide)) (by omega) (by rw [hS2, hlf]; rfl) (by omega) (fun g hg => by rw [am_set_at]; by_cases e : g = h; (rw [if_pos (by omega), e, hlf]; exact ⟨rfl, by omega⟩); (rw [if_neg (by omega)]; exact hTh g (by omega))) (fun y hy => by rw [am_set_at, if_neg (by omega)]; exact hO y hy)
                            ·
                              refine tt_ifleT (by decide) ?_
                              refine tt_iinc (y := ((h + 1 : Nat) : Int)) rfl (iinc_fit (by omega) (by omega) (by omega)) ?_
                              refine tt_goto ?_
                              refine tt_loc [(0, vR 76), (1, vL (((S2 + l)))), (3, vI (((m : Nat) : Int))), (4, vI (((h + 1 : Nat) : Int)))] rfl rfl ⟨rfl, lv_toL rfl (by omega), rfl, rfl, trivial⟩ ?_
                              exact ih4 (h + 1) ((S2 + l)) _ (by omega) (Fr.put (Fr.tr Fr.rf hF_σ2 (by decide)) (by decide)) (by omega) (by rw [hS2, hlf]; rfl) (by omega) (fun g hg => by rw [am_set_at]; by_cases e : g = h; (rw [if_pos (by omega), e, hlf]; exact ⟨rfl, by omega⟩); (rw [if_neg (by omega)]; exact hTh g (by omega))) (fun y hy => by rw [am_set_at, if_neg (by omega)]; exact hO y hy)
                            ·
                              refine tt_ifleF (by decide) ?_
                              refine tt_nop ?_
                              refine tt_ar rfl ?_
                              refine tt_lret ?_
                              have hwy : 1000000000000000 < wyM 1000000 (nkT k) nm D ex := by
                                have t1 := to_le (hRH.th ht) (m := m) (h := h) (by omega) (by omega)
                                have t2 := to_sum (hRH.th ht) (m := m) (by omega)
                                have t3 := sumN_up (g := fun h => toM 1000000 (nkT k) nm D ex m h) (n := h + 1) (fun i => to_nn _) (nkT k - (h + 1))
                                rw [show h + 1 + (nkT k - (h + 1)) = nkT k by omega] at t3
                                have t4 : sumN (h + 1) (fun h => toM 1000000 (nkT k) nm D ex m h) = S2 + l := by rw [hS2, hlf]; rfl
                                rw [← hlf] at t1
                                omega
                              exact ⟨rvL (by unfold cpM; split <;> omega), (Fr.put (Fr.tr (Fr.tr Fr.rf hF_σ1 (by decide)) hF_σ2 (by decide)) (by decide)), fun q => by omega⟩
                          ·
                            refine tt_ifgtF (by decide) ?_
                            refine tt_ar rfl ?_
                            refine tt_ar rfl ?_
                            refine tt_lcmp (fun h19 => ?_) (fun h20 => ?_) (fun h21 => ?_)
                            ·
                              refine tt_ifleT (by decide) ?_
                              refine tt_iinc (y := ((h + 1 : Nat) : Int)) rfl (iinc_fit (by omega) (by omega) (by omega)) ?_
                              refine tt_goto ?_
                              refine tt_loc [(0, vR 76), (1, vL (((S2 + l)))), (3, vI (((m : Nat) : Int))), (4, vI (((h + 1 : Nat) : Int)))] rfl rfl ⟨rfl, lv_toL rfl (by omega), rfl, rfl, trivial⟩ ?_
                              exact ih4 (h + 1) ((S2 + l)) _ (by omega) (Fr.put (Fr.tr Fr.rf hF_σ2 (by decide)) (by decide)) (by omega) (by rw [hS2, hlf]; rfl) (by omega) (fun g hg => by rw [am_set_at]; by_cases e : g = h; (rw [if_pos (by omega), e, hlf]; exact ⟨rfl, by omega⟩); (rw [if_neg (by omega)]; exact hTh g (by omega))) (fun y hy => by rw [am_set_at, if_neg (by omega)]; exact hO y hy)
                            ·
                              refine tt_ifleT (by decide) ?_
                              refine tt_iinc (y := ((h + 1 : Nat) : Int)) rfl (iinc_fit (by omega) (by omega) (by omega)) ?_
                              refine tt_goto ?_
                              refine tt_loc [(0, vR 76), (1, vL (((S2 + l)))), (3, vI (((m : Nat) : Int))), (4, vI (((h + 1 : Nat) : Int)))] rfl rfl ⟨rfl, lv_toL rfl (by omega), rfl, rfl, trivial⟩ ?_
                              exact ih4 (h + 1) ((S2 + l)) _ (by omega) (Fr.put (Fr.tr Fr.rf hF_σ2 (by decide)) (by decide)) (by omega) (by rw [hS2, hlf]; rfl) (by omega) (fun g hg => by rw [am_set_at]; by_cases e : g = h; (rw [if_pos (by omega), e, hlf]; exact ⟨rfl, by omega⟩); (rw [if_neg (by omega)]; exact hTh g (by omega))) (fun y hy => by rw [am_set_at, if_neg (by omega)]; exact hO y hy)
                            ·
                              refine tt_ifleF (by decide) ?_
                              refine tt_nop ?_
                              refine tt_ar rfl ?_
                              refine tt_lret ?_
                              have hwy : 1000000000000000 < wyM 1000000 (nkT k) nm D ex := by
                                have t1 := to_le (hRH.th ht) (m := m) (h := h) (by omega) (by omega)
                                have t2 := to_sum (hRH.th ht) (m := m) (by omega)
                                have t3 := sumN_up (g := fun h => toM 1000000 (nkT k) nm D ex m h) (n := h + 1) (fun i => to_nn _) (nkT k - (h + 1))
                                rw [show h + 1 + (nkT k - (h + 1)) = nkT k by omega] at t3
                                have t4 : sumN (h + 1) (fun h => toM 1000000 (nkT k) nm D ex m h) = S2 + l := by rw [hS2, hlf]; rfl
                                rw [← hlf] at t1
                                omega
                              exact ⟨rvL (by unfold cpM; split <;> omega), (Fr.put (Fr.tr (Fr.tr Fr.rf hF_σ1 (by decide)) hF_σ2 (by decide)) (by decide)), fun q => by omega⟩
                          ·
                            refine tt_ifgtT (by decide) ?_
                            refine tt_ar rfl ?_
                            refine tt_lret ?_
                            have hwy : 1000000000000000 < wyM 1000000 (nkT k) nm D ex := by
                              have t1 := to_le (hRH.th ht) (m := m) (h := h) (by omega) (by omega)
                              have t2 := to_sum (hRH.th ht) (m := m) (by omega)
                              have t3 := sumN_up (g := fun h => toM 1000000 (nkT k) nm D ex m h) (n := h + 1) (fun i => to_nn _) (nkT k - (h + 1))
                              rw [show h + 1 + (nkT k - (h + 1)) = nkT k by omega] at t3
                              have t4 : sumN (h + 1) (fun h => toM 1000000 (nkT k) nm D ex m h) = S2 + l := by rw [hS2, hlf]; rfl
                              rw [← hlf] at t1
                              omega
                            exact ⟨rvL (by unfold cpM; split <;> omega), (Fr.put (Fr.tr (Fr.tr Fr.rf hF_σ1 (by decide)) hF_σ2 (by decide)) (by decide)), fun q => by omega⟩
                        · refine tt_ar rfl ?_
                          refine tt_ar rfl ?_
                          refine tt_ar rfl ?_
                          refine tt_cv3 3 rfl (wo_76 hW_σ2) (c239 A σ2 k nm ns D hA hW_σ2 hRx ex hex hsx hTt m h (by omega) (by omega) ht) (kb (fun h7_9 => ?_) (fun h7_9 => ?_))
                          · refine tt_ifeqF (by decide) ?_
                            obtain ⟨m1, hm1⟩ : ∃ m1, m = m1 + 1 := ⟨m - 1, by omega⟩
                            have hfm := fo_mi (n := nm) hRH (by omega) (show m1 + 1 < nm by omega) (show g < nkT k by omega) (show h < nkT k by omega) ht (by rw [← hm1]; exact h7_9)
                            rw [← hm1, show m1 = m - 1 by omega] at hfm
                            have hb1 := ahN_bd (F := 1000000) (N := nkT k) (D := D) (ex := ex) (by omega) (by omega) hD0 (fun m h _ => hx0 m h) (m - 1) (show g < nkT k by omega)
                            have hmc1 := mi_c (ahN 1000000 (nkT k) D ex (m - 1) g)
                            have hbe := mi_c (ex m h)
                            have hbe0 := hx0 m h
                            have htb := (hTo (m - 1) (by omega) g (by omega)).2
                            have htn : 0 ≤ toM 1000000 (nkT k) nm D ex (m - 1) g := to_nn _
                            refine tt_ar rfl ?_
                            refine tt_ar rfl ?_
                            refine tt_ar rfl ?_
                            refine tt_isub (by omega) (by omega) ?_
                            refine tt_imul (by omega) (by omega) ?_
                            refine tt_ar rfl ?_
                            refine tt_iadd (by omega) (by omega) ?_
                            refine tt_ar rfl ?_
                            refine tt_ar rfl ?_
                            refine tt_ar rfl ?_
                            refine tt_getR (wo_76 hW_σ2) rfl (wr_76_41 hW_σ2) ?_
                            refine tt_ar rfl ?_
                            refine tt_lald (462 * (m - 1) + g) (x := toM 1000000 (nkT k) nm D ex (m - 1) g) (wa_102 hW_σ2) (by omega) (by omega) ((hO (462 * (m - 1) + g) (by omega)).trans (hTo (m - 1) (by omega) g (by omega)).1) ?_
                            refine tt_ar rfl ?_
                            refine tt_lcmp (fun h22 => ?_) (fun h23 => ?_) (fun h24 => ?_)
                            ·
                              refine tt_ifleT (by decide) ?_
                              refine tt_ar rfl ?_
                              refine tt_nop ?_
                              refine tt_bL (g := (fun a b => w64 (a + b))) (z := l) rfl (w64_fit (by omega) (by omega) (by omega)) ?_
                              refine tt_ar rfl ?_
                              refine tt_iinc (y := ((g + 1 : Nat) : Int)) rfl (iinc_fit (by omega) (by omega) (by omega)) ?_
                              refine tt_goto ?_
                              refine tt_loc [(0, vR 76), (1, vL (S2)), (3, vI (((m : Nat) : Int))), (4, vI (((h : Nat) : Int))), (5, vI (((462 * ((m : Nat) : Int)) + ((h : Nat) : Int)))), (6, vL (l)), (8, vI (((g + 1 : Nat) : Int)))] rfl rfl ⟨rfl, rfl, rfl, rfl, rfl, rfl, rfl, trivial⟩ ?_
                              exact ih7 (g + 1) (l) (by omega) (by omega) (by unfold toW at hl ⊢; rw [if_neg (by omega), if_pos h7_9] at hl ⊢; show _ = sumN g (fun g => if foM 1000000 (nkT k) D ex (m - 1) g h = true then toM 1000000 (nkT k) nm D ex (m - 1) g else 0) + (if foM 1000000 (nkT k) D ex (m - 1) g h = true then toM 1000000 (nkT k) nm D ex (m - 1) g else 0); rw [← hl]; first | (split <;> omega) | (rw [if_pos (hfm.mp (by omega))]) | (rw [if_neg (fun q => by have := hfm.mpr q; omega)]; omega)) (by omega)
                            ·
                              refine tt_ifleT (by decide) ?_
                              refine tt_ar rfl ?_
                              refine tt_nop ?_
                              refine tt_bL (g := (fun a b => w64 (a + b))) (z := l) rfl (w64_fit (by omega) (by omega) (by omega)) ?_
                              refine tt_ar rfl ?_
                              refine tt_iinc (y := ((g + 1 : Nat) : Int)) rfl (iinc_fit (by omega) (by omega) (by omega)) ?_
                              refine tt_goto ?_
                              refine tt_loc [(0, vR 76), (1, vL (S2)), (3, vI (((m : Nat) : Int))), (4, vI (((h : Nat) : Int))), (5, vI (((462 * ((m : Nat) : Int)) + ((h : Nat) : Int)))), (6, vL (l)), (8, vI (((g + 1 : Nat) : Int)))] rfl rfl ⟨rfl, rfl, rfl, rfl, rfl, rfl, rfl, trivial⟩ ?_
                              exact ih7 (g + 1) (l) (by omega) (by omega) (by unfold toW at hl ⊢; rw [if_neg (by omega), if_pos h7_9] at hl ⊢; show _ = sumN g (fun g => if foM 1000000 (nkT k) D ex (m - 1) g h = true then toM 1000000 (nkT k) nm D ex (m - 1) g else 0) + (if foM 1000000 (nkT k) D ex (m - 1) g h = true then toM 1000000 (nkT k) nm D ex (m - 1) g else 0); rw [← hl]; first | (split <;> omega) | (rw [if_pos (hfm.mp (by omega))]) | (rw [if_neg (fun q => by have := hfm.mpr q; omega)]; omega)) (by omega)
                            ·
                              refine tt_ifleF (by decide) ?_
                              refine tt_ar rfl ?_
                              refine tt_getR (wo_76 hW_σ2) rfl (wr_76_37 hW_σ2) ?_
                              refine tt_ar rfl ?_
                              refine tt_iald (462 * (m - 1) + g) (x := miN 100000 (ahN 1000000 (nkT k) D ex (m - 1) g)) (wa_99 hW_σ2) (by omega) (by omega) (((hF_σ2.2 99 (by decide) (462 * (m - 1) + g)).trans (hF_σ1.2 99 (by decide) (462 * (m - 1) + g))).trans ((hT.1 (m - 1) (by omega) g (by omega)).2.1)) ?_
                              refine tt_ar rfl ?_
                              refine tt_ar rfl ?_
                              refine tt_ar rfl ?_
                              have hd9 := hDx g h (by omega) (by omega)
                              refine tt_cv3 3 rfl (wo_76 hW_σ2) (c233 A σ2 k nm ns D hA hW_σ2 hRx hsx g h (by omega) (by omega)) (kp ?_)
                              refine tt_iadd (by omega) (by omega) ?_
                              refine tt_ar rfl ?_
                              refine tt_getR (wo_76 hW_σ2) rfl (wr_76_36 hW_σ2) ?_
                              refine tt_ar rfl ?_
                              refine tt_iald ((462 * m) + h) (x := miN 100000 (ex m h)) (wa_98 hW_σ2) (by omega) (by omega) (((hF_σ2.2 98 (by decide) ((462 * m) + h)).trans (hF_σ1.2 98 (by decide) ((462 * m) + h))).trans ((hT.1 m (by omega) h (by omega)).1)) ?_
                              refine tt_iadd (by omega) (by omega) ?_
                              refine tt_ar rfl ?_
                              refine tt_getR (wo_76 hW_σ2) rfl (wr_76_37 hW_σ2) ?_
                              refine tt_ar rfl ?_
                              refine tt_iald ((462 * m) + h) (x := miN 100000 (ahN 1000000 (nkT k) D ex m h)) (wa_99 hW_σ2) (by omega) (by omega) (((hF_σ2.2 99 (by decide) ((462 * m) + h)).trans (hF_σ1.2 99 (by decide) ((462 * m) + h))).trans ((hT.1 m (by omega) h (by omega)).2.1)) ?_
                              refine tt_icne (fun h7_45 => ?_) (fun h7_45 => ?_)
                              · refine tt_ar rfl ?_
                                refine tt_nop ?_
                                refine tt_bL (g := (fun a b => w64 (a + b))) (z := l) rfl (w64_fit (by omega) (by omega) (by omega)) ?_
                                refine tt_ar rfl ?_
                                refine tt_iinc (y := ((g + 1 : Nat) : Int)) rfl (iinc_fit (by omega) (by omega) (by omega)) ?_
                                refine tt_goto ?_
                                refine tt_loc [(0, vR 76), (1, vL (S2)), (3, vI (((m : Nat) : Int))), (4, vI (((h : Nat) : Int))), (5, vI (((462 * ((m : Nat) : Int)) + ((h : Nat) : Int)))), (6, vL (l)), (8, vI (((g + 1 : Nat) : Int)))] rfl rfl ⟨rfl, rfl, rfl, rfl, rfl, rfl, rfl, trivial⟩ ?_
                                exact ih7 (g + 1) (l) (by omega) (by omega) (by unfold toW at hl ⊢; rw [if_neg (by omega), if_pos h7_9] at hl ⊢; show _ = sumN g (fun g => if foM 1000000 (nkT k) D ex (m - 1) g h = true then toM 1000000 (nkT k) nm D ex (m - 1) g else 0) + (if foM 1000000 (nkT k) D ex (m - 1) g h = true then toM 1000000 (nkT k) nm D ex (m - 1) g else 0); rw [← hl]; first | (split <;> omega) | (rw [if_pos (hfm.mp (by omega))]) | (rw [if_neg (fun q => by have := hfm.mpr q; omega)]; omega)) (by omega)
                              · refine tt_ar rfl ?_
                                refine tt_getR (wo_76 hW_σ2) rfl (wr_76_41 hW_σ2) ?_
                                refine tt_ar rfl ?_
                                refine tt_lald (462 * (m - 1) + g) (x := toM 1000000 (nkT k) nm D ex (m - 1) g) (wa_102 hW_σ2) (by omega) (by omega) ((hO (462 * (m - 1) + g) (by omega)).trans (hTo (m - 1) (by omega) g (by omega)).1) ?_
                                refine tt_goto ?_
                                refine tt_bL (g := (fun a b => w64 (a + b))) (z := (l + toM 1000000 (nkT k) nm D ex (m - 1) g)) rfl (w64_i (by omega) (by omega)) ?_
                                refine tt_ar rfl ?_
                                refine tt_iinc (y := ((g + 1 : Nat) : Int)) rfl (iinc_fit (by omega) (by omega) (by omega)) ?_
                                refine tt_goto ?_
                                refine tt_loc [(0, vR 76), (1, vL (S2)), (3, vI (((m : Nat) : Int))), (4, vI (((h : Nat) : Int))), (5, vI (((462 * ((m : Nat) : Int)) + ((h : Nat) : Int)))), (6, vL (((l + toM 1000000 (nkT k) nm D ex (m - 1) g)))), (8, vI (((g + 1 : Nat) : Int)))] rfl rfl ⟨rfl, rfl, rfl, rfl, rfl, lv_toL rfl (by omega), rfl, trivial⟩ ?_
                                exact ih7 (g + 1) ((l + toM 1000000 (nkT k) nm D ex (m - 1) g)) (by omega) (by omega) (by unfold toW at hl ⊢; rw [if_neg (by omega), if_pos h7_9] at hl ⊢; show _ = sumN g (fun g => if foM 1000000 (nkT k) D ex (m - 1) g h = true then toM 1000000 (nkT k) nm D ex (m - 1) g else 0) + (if foM 1000000 (nkT k) D ex (m - 1) g h = true then toM 1000000 (nkT k) nm D ex (m - 1) g else 0); rw [← hl]; first | (split <;> omega) | (rw [if_pos (hfm.mp (by omega))]) | (rw [if_neg (fun q => by have := hfm.mpr q; omega)]; omega)) (by omega)
                          · refine tt_ifeqT (by decide) ?_
                            have hlf : l = toM 1000000 (nkT k) nm D ex m h := by
                              rw [hl, ← toW_end]
                              unfold toW
                              by_cases e1 : m = 0
                              · rw [if_pos e1, if_pos e1]
                              · rw [if_neg e1, if_neg e1]
                                by_cases e2 : plM 1000000 (nkT k) nm D ex m h = true
                                · first | (rw [if_pos e2, if_pos e2, show g = nkT k by omega]) | exact absurd e2 h7_9
                                · rw [if_neg e2, if_neg e2]
                            refine tt_ar rfl ?_
                            refine tt_getR (wo_76 hW_σ2) rfl (wr_76_41 hW_σ2) ?_
                            refine tt_ar rfl ?_
                            refine tt_ar rfl ?_
                            refine tt_last ((462 * m) + h) (wa_102 hW_σ2) (by omega) (by omega) (by omega) ?_
                            refine tt_ar rfl ?_
                            refine tt_ar rfl ?_
                            refine tt_bL (g := (fun a b => w64 (a + b))) (z := (S2 + l)) rfl (w64_i (by omega) (by omega)) ?_
                            refine tt_ar rfl ?_
                            refine tt_ar rfl ?_
                            refine tt_ar rfl ?_
                            refine tt_lcmp (fun h25 => ?_) (fun h26 => ?_) (fun h27 => ?_)
                            ·
                              refine tt_ifgtF (by decide) ?_
                              refine tt_ar rfl ?_
                              refine tt_ar rfl ?_
                              refine tt_lcmp (fun h28 => ?_) (fun h29 => ?_) (fun h30 => ?_)
                              ·
                                refine tt_ifleT (by decide) ?_
                                refine tt_iinc (y := ((h + 1 : Nat) : Int)) rfl (iinc_fit (by omega) (by omega) (by omega)) ?_
                                refine tt_goto ?_
                                refine tt_loc [(0, vR 76), (1, vL (((S2 + l)))), (3, vI (((m : Nat) : Int))), (4, vI (((h + 1 : Nat) : Int)))] rfl rfl ⟨rfl, lv_toL rfl (by omega), rfl, rfl, trivial⟩ ?_
                                exact ih4 (h + 1) ((S2 + l)) _ (by omega) (Fr.put (Fr.tr Fr.rf hF_σ2 (by decide)) (by decide)) (by omega) (by rw [hS2, hlf]; rfl) (by omega) (fun g hg => by rw [am_set_at]; by_cases e : g = h; (rw [if_pos (by omega), e, hlf]; exact ⟨rfl, by omega⟩); (rw [if_neg (by omega)]; exact hTh g (by omega))) (fun y hy => by rw [am_set_at, if_neg (by omega)]; exact hO y hy)
                              ·
                                refine tt_ifleT (by decide) ?_
                                refine tt_iinc (y := ((h + 1 : Nat) : Int)) rfl (iinc_fit (by omega) (by omega) (by omega)) ?_
                                refine tt_goto ?_
                                refine tt_loc [(0, vR 76), (1, vL (((S2 + l)))), (3, vI (((m : Nat) : Int))), (4, vI (((h + 1 : Nat) : Int)))] rfl rfl ⟨rfl, lv_toL rfl (by omega), rfl, rfl, trivial⟩ ?_
                                exact ih4 (h + 1) ((S2 + l)) _ (by omega) (Fr.put (Fr.tr Fr.rf hF_σ2 (by decide)) (by decide)) (by omega) (by rw [hS2, hlf]; rfl) (by omega) (fun g hg => by rw [am_set_at]; by_cases e : g = h; (rw [if_pos (by omega), e, hlf]; exact ⟨rfl, by omega⟩); (rw [if_neg (by omega)]; exact hTh g (by omega))) (fun y hy => by rw [am_set_at, if_neg (by omega)]; exact hO y hy)
                              ·
                                refine tt_ifleF (by decide) ?_
                                refine tt_nop ?_
                                refine tt_ar rfl ?_
                                refine tt_lret ?_
                                have hwy : 1000000000000000 < wyM 1000000 (nkT k) nm D ex := by
                                  have t1 := to_le (hRH.th ht) (m := m) (h := h) (by omega) (by omega)
                                  have t2 := to_sum (hRH.th ht) (m := m) (by omega)
                                  have t3 := sumN_up (g := fun h => toM 1000000 (nkT k) nm D ex m h) (n := h + 1) (fun i => to_nn _) (nkT k - (h + 1))
                                  rw [show h + 1 + (nkT k - (h + 1)) = nkT k by omega] at t3
                                  have t4 : sumN (h + 1) (fun h => toM 1000000 (nkT k) nm D ex m h) = S2 + l := by rw [hS2, hlf]; rfl
                                  rw [← hlf] at t1
                                  omega
                                exact ⟨rvL (by unfold cpM; split <;> omega), (Fr.put (Fr.tr (Fr.tr Fr.rf hF_σ1 (by decide)) hF_σ2 (by decide)) (by decide)), fun q => by omega⟩
                            ·
                              refine tt_ifgtF (by decide) ?_
                              refine tt_ar rfl ?_
                              refine tt_ar rfl ?_
                              refine tt_lcmp (fun h31 => ?_) (fun h32 => ?_) (fun h33 => ?_)
                              ·
                                refine tt_ifleT (by decide) ?_
                                refine tt_iinc (y := ((h + 1 : Nat) : Int)) rfl (iinc_fit (by omega) (by omega) (by omega)) ?_
                                refine tt_goto ?_
                                refine tt_loc [(0, vR 76), (1, vL (((S2 + l)))), (3, vI (((m : Nat) : Int))), (4, vI (((h + 1 : Nat) : Int)))] rfl rfl ⟨rfl, lv_toL rfl (by omega), rfl, rfl, trivial⟩ ?_
                                exact ih4 (h + 1) ((S2 + l)) _ (by omega) (Fr.put (Fr.tr Fr.rf hF_σ2 (by decide)) (by decide)) (by omega) (by rw [hS2, hlf]; rfl) (by omega) (fun g hg => by rw [am_set_at]; by_cases e : g = h; (rw [if_pos (by omega), e, hlf]; exact ⟨rfl, by omega⟩); (rw [if_neg (by omega)]; exact hTh g (by omega))) (fun y hy => by rw [am_set_at, if_neg (by omega)]; exact hO y hy)
                              ·
                                refine tt_ifleT (by decide) ?_
                                refine tt_iinc (y := ((h + 1 : Nat) : Int)) rfl (iinc_fit (by omega) (by omega) (by omega)) ?_
                                refine tt_goto ?_
                                refine tt_loc [(0, vR 76), (1, vL (((S2 + l)))), (3, vI (((m : Nat) : Int))), (4, vI (((h + 1 : Nat) : Int)))] rfl rfl ⟨rfl, lv_toL rfl (by omega), rfl, rfl, trivial⟩ ?_
                                exact ih4 (h + 1) ((S2 + l)) _ (by omega) (Fr.put (Fr.tr Fr.rf hF_σ2 (by decide)) (by decide)) (by omega) (by rw [hS2, hlf]; rfl) (by omega) (fun g hg => by rw [am_set_at]; by_cases e : g = h; (rw [if_pos (by omega), e, hlf]; exact ⟨rfl, by omega⟩); (rw [if_neg (by omega)]; exact hTh g (by omega))) (fun y hy => by rw [am_set_at, if_neg (by omega)]; exact hO y hy)
                              ·
                                refine tt_ifleF (by decide) ?_
                                refine tt_nop ?_
                                refine tt_ar rfl ?_
                                refine tt_lret ?_
                                have hwy : 1000000000000000 < wyM 1000000 (nkT k) nm D ex := by
                                  have t1 := to_le (hRH.th ht) (m := m) (h := h) (by omega) (by omega)
                                  have t2 := to_sum (hRH.th ht) (m := m) (by omega)
                                  have t3 := sumN_up (g := fun h => toM 1000000 (nkT k) nm D ex m h) (n := h + 1) (fun i => to_nn _) (nkT k - (h + 1))
                                  rw [show h + 1 + (nkT k - (h + 1)) = nkT k by omega] at t3
                                  have t4 : sumN (h + 1) (fun h => toM 1000000 (nkT k) nm D ex m h) = S2 + l := by rw [hS2, hlf]; rfl
                                  rw [← hlf] at t1
                                  omega
                                exact ⟨rvL (by unfold cpM; split <;> omega), (Fr.put (Fr.tr (Fr.tr Fr.rf hF_σ1 (by decide)) hF_σ2 (by decide)) (by decide)), fun q => by omega⟩
                            ·
                              refine tt_ifgtT (by decide) ?_
                              refine tt_ar rfl ?_
                              refine tt_lret ?_
                              have hwy : 1000000000000000 < wyM 1000000 (nkT k) nm D ex := by
                                have t1 := to_le (hRH.th ht) (m := m) (h := h) (by omega) (by omega)
                                have t2 := to_sum (hRH.th ht) (m := m) (by omega)
                                have t3 := sumN_up (g := fun h => toM 1000000 (nkT k) nm D ex m h) (n := h + 1) (fun i => to_nn _) (nkT k - (h + 1))
                                rw [show h + 1 + (nkT k - (h + 1)) = nkT k by omega] at t3
                                have t4 : sumN (h + 1) (fun h => toM 1000000 (nkT k) nm D ex m h) = S2 + l := by rw [hS2, hlf]; rfl
                                rw [← hlf] at t1
                                omega
                              exact ⟨rvL (by unfold cpM; split <;> omega), (Fr.put (Fr.tr (Fr.tr Fr.rf hF_σ1 (by decide)) hF_σ2 (by decide)) (by decide)), fun q => by omega⟩
                  refine tt_loc [(0, vR 76), (1, vL (S2)), (3, vI (((m : Nat) : Int))), (4, vI (((h : Nat) : Int))), (5, vI (((462 * ((m : Nat) : Int)) + ((h : Nat) : Int)))), (6, vL (0)), (8, vI (((0 : Nat) : Int)))] rfl rfl ⟨rfl, rfl, rfl, rfl, rfl, rfl, lv_to rfl (by omega), trivial⟩ ?_
                  exact lp7_3 _ (0) (0) (Nat.lt_succ_self _) (by omega) (by unfold toW; first | (rw [if_pos (by omega), if_pos h4_15]) | (rw [if_pos (by omega), if_neg h4_15]) | (rw [if_neg (by omega)]; split <;> rfl)) (by omega)
                · refine tt_ar rfl ?_
                  refine tt_ar rfl ?_
                  refine tt_ar rfl ?_
                  refine tt_cv3 3 rfl (wo_76 hW_σ2) (c239 A σ2 k nm ns D hA hW_σ2 hRx ex hex hsx hTt 0 h (by omega) (by omega) ht) (kb (fun h4_15 => ?_) (fun h4_15 => ?_))
                  · refine tt_ifeqF (by decide) ?_
                    refine tt_ar rfl ?_
                    refine tt_goto ?_
                    refine tt_ar rfl ?_
                    refine tt_ar rfl ?_
                    refine tt_ar rfl ?_
                    refine tt_nop ?_
                    have lp7_34 : ∀ (μ : Nat) (g : Nat) (l : Int), nkT k - g < μ → (g ≤ nkT k) → (l = toW k nm D ex m h g) → (0 ≤ l ∧ l ≤ 1000000000000000 * ((g : Nat) : Int) + 1) → TT am_b241 (am_b241.getD 7 []) [(0, vR 76), (1, vL (S2)), (3, vI (((m : Nat) : Int))), (4, vI (((h : Nat) : Int))), (5, vI (((462 * ((m : Nat) : Int)) + ((h : Nat) : Int)))), (6, vL (l)), (8, vI (((g : Nat) : Int)))] [] σ2 (fun r σ' => r = some (vL (cpM 1000000000000001 (wyM 1000000 (nkT k) nm D ex))) ∧ Fr [102] σ σ' ∧ (wyM 1000000 (nkT k) nm D ex ≤ 1000000000000000 → ∀ q, q < nm → ∀ h, h < nkT k → σ'.1 102 (462 * q + h) = toM 1000000 (nkT k) nm D ex q h)) := by
                      intro μ
                      induction μ with
                      | zero => intro g l hμ; exact absurd hμ (Nat.not_lt_zero _)
                      | succ μ ih7 =>
                        intro g l hμ hg hl hlb
                        refine tt_ar rfl ?_
                        refine tt_ar rfl ?_
                        refine tt_getI (x := ((nkT k : Nat) : Int)) (wo_76 hW_σ2) rfl (((hF_σ2.2 76 (by decide) (27)).trans (hF_σ1.2 76 (by decide) (27))).trans hR.hs.1) ?_
                        refine tt_icge (fun h7_3 => ?_) (fun h7_3 => ?_)
                        · have hlf : l = toM 1000000 (nkT k) nm D ex m h := by
                            rw [hl, ← toW_end]
                            unfold toW
                            by_cases e1 : m = 0
                            · rw [if_pos e1, if_pos e1]
                            · rw [if_neg e1, if_neg e1]
                              by_cases e2 : plM 1000000 (nkT k) nm D ex m h = true
                              · first | (rw [if_pos e2, if_pos e2, show g = nkT k by omega]) | exact absurd e2 h7_9
                              · rw [if_neg e2, if_neg e2]
                          refine tt_ar rfl ?_
                          refine tt_getR (wo_76 hW_σ2) rfl (wr_76_41 hW_σ2) ?_
                          refine tt_ar rfl ?_
                          refine tt_ar rfl ?_
                          refine tt_last ((462 * m) + h) (wa_102 hW_σ2) (by omega) (by omega) (by omega) ?_
                          refine tt_ar rfl ?_
                          refine tt_ar rfl ?_
                          refine tt_bL (g := (fun a b => w64 (a + b))) (z := (S2 + l)) rfl (w64_i (by omega) (by omega)) ?_
                          refine tt_ar rfl ?_
                          refine tt_ar rfl ?_
                          refine tt_ar rfl ?_
                          refine tt_lcmp (fun h35 => ?_) (fun h36 => ?_) (fun h37 => ?_)
                          ·
                            refine tt_ifgtF (by decide) ?_
                            refine tt_ar rfl ?_
                            refine tt_ar rfl ?_
                            refine tt_lcmp (fun h38 => ?_) (fun h39 => ?_) (fun h40 => ?_)
                            ·
                              refine tt_ifleT (by decide) ?_
                              refine tt_iinc (y := ((h + 1 : Nat) : Int)) rfl (iinc_fit (by omega) (by omega) (by omega)) ?_
                              refine tt_goto ?_
                              refine tt_loc [(0, vR 76), (1, vL (((S2 + l)))), (3, vI (((m : Nat) : Int))), (4, vI (((h + 1 : Nat) : Int)))] rfl rfl ⟨rfl, lv_toL rfl (by omega), rfl, rfl, trivial⟩ ?_
                              exact ih4 (h + 1) ((S2 + l)) _ (by omega) (Fr.put (Fr.tr Fr.rf hF_σ2 (by decide)) (by decide)) (by omega) (by rw [hS2, hlf]; rfl) (by omega) (fun g hg => by rw [am_set_at]; by_cases e : g = h; (rw [if_pos (by omega), e, hlf]; exact ⟨rfl, by omega⟩); (rw [if_neg (by omega)]; exact hTh g (by omega))) (fun y hy => by rw [am_set_at, if_neg (by omega)]; exact hO y hy)
                            ·
                              refine tt_ifleT (by decide) ?_
                              refine tt_iinc (y := ((h + 1 : Nat) : Int)) rfl (iinc_fit (by omega) (by omega) (by omega)) ?_
                              refine tt_goto ?_
                              refine tt_loc [(0, vR 76), (1, vL (((S2 + l)))), (3, vI (((m : Nat) : Int))), (4, vI (((h + 1 : Nat) : Int)))] rfl rfl ⟨rfl, lv_toL rfl (by omega), rfl, rfl, trivial⟩ ?_
                              exact ih4 (h + 1) ((S2 + l)) _ (by omega) (Fr.put (Fr.tr Fr.rf hF_σ2 (by decide)) (by decide)) (by omega) (by rw [hS2, hlf]; rfl) (by omega) (fun g hg => by rw [am_set_at]; by_cases e : g = h; (rw [if_pos (by omega), e, hlf]; exact ⟨rfl, by omega⟩); (rw [if_neg (by omega)]; exact hTh g (by omega))) (fun y hy => by rw [am_set_at, if_neg (by omega)]; exact hO y hy)
                            ·
                              refine tt_ifleF (by decide) ?_
                              refine tt_nop ?_
                              refine tt_ar rfl ?_
                              refine tt_lret ?_
                              have hwy : 1000000000000000 < wyM 1000000 (nkT k) nm D ex := by
                                have t1 := to_le (hRH.th ht) (m := m) (h := h) (by omega) (by omega)
                                have t2 := to_sum (hRH.th ht) (m := m) (by omega)
                                have t3 := sumN_up (g := fun h => toM 1000000 (nkT k) nm D ex m h) (n := h + 1) (fun i => to_nn _) (nkT k - (h + 1))
                                rw [show h + 1 + (nkT k - (h + 1)) = nkT k by omega] at t3
                                have t4 : sumN (h + 1) (fun h => toM 1000000 (nkT k) nm D ex m h) = S2 + l := by rw [hS2, hlf]; rfl
                                rw [← hlf] at t1
                                omega
                              exact ⟨rvL (by unfold cpM; split <;> omega), (Fr.put (Fr.tr (Fr.tr Fr.rf hF_σ1 (by decide)) hF_σ2 (by decide)) (by decide)), fun q => by omega⟩
                          ·
                            refine tt_ifgtF (by decide) ?_
                            refine tt_ar rfl ?_
                            refine tt_ar rfl ?_
                            refine tt_lcmp (fun h41 => ?_) (fun h42 => ?_) (fun h43 => ?_)
                            ·
                              refine tt_ifleT (by decide) ?_
                              refine tt_iinc (y := ((h + 1 : Nat) : Int)) rfl (iinc_fit (by omega) (by omega) (by omega)) ?_
                              refine tt_goto ?_
                              refine tt_loc [(0, vR 76), (1, vL (((S2 + l)))), (3, vI (((m : Nat) : Int))), (4, vI (((h + 1 : Nat) : Int)))] rfl rfl ⟨rfl, lv_toL rfl (by omega), rfl, rfl, trivial⟩ ?_
                              exact ih4 (h + 1) ((S2 + l)) _ (by omega) (Fr.put (Fr.tr Fr.rf hF_σ2 (by decide)) (by decide)) (by omega) (by rw [hS2, hlf]; rfl) (by omega) (fun g hg => by rw [am_set_at]; by_cases e : g = h; (rw [if_pos (by omega), e, hlf]; exact ⟨rfl, by omega⟩); (rw [if_neg (by omega)]; exact hTh g (by omega))) (fun y hy => by rw [am_set_at, if_neg (by omega)]; exact hO y hy)
                            ·
                              refine tt_ifleT (by decide) ?_
                              refine tt_iinc (y := ((h + 1 : Nat) : Int)) rfl (iinc_fit (by omega) (by omega) (by omega)) ?_
                              refine tt_goto ?_
                              refine tt_loc [(0, vR 76), (1, vL (((S2 + l)))), (3, vI (((m : Nat) : Int))), (4, vI (((h + 1 : Nat) : Int)))] rfl rfl ⟨rfl, lv_toL rfl (by omega), rfl, rfl, trivial⟩ ?_
                              exact ih4 (h + 1) ((S2 + l)) _ (by omega) (Fr.put (Fr.tr Fr.rf hF_σ2 (by decide)) (by decide)) (by omega) (by rw [hS2, hlf]; rfl) (by omega) (fun g hg => by rw [am_set_at]; by_cases e : g = h; (rw [if_pos (by omega), e, hlf]; exact ⟨rfl, by omega⟩); (rw [if_neg (by omega)]; exact hTh g (by omega))) (fun y hy => by rw [am_set_at, if_neg (by omega)]; exact hO y hy)
                            ·
                              refine tt_ifleF (by decide) ?_
                              refine tt_nop ?_
                              refine tt_ar rfl ?_
                              refine tt_lret ?_
                              have hwy : 1000000000000000 < wyM 1000000 (nkT k) nm D ex := by
                                have t1 := to_le (hRH.th ht) (m := m) (h := h) (by omega) (by omega)
                                have t2 := to_sum (hRH.th ht) (m := m) (by omega)
                                have t3 := sumN_up (g := fun h => toM 1000000 (nkT k) nm D ex m h) (n := h + 1) (fun i => to_nn _) (nkT k - (h + 1))
                                rw [show h + 1 + (nkT k - (h + 1)) = nkT k by omega] at t3
                                have t4 : sumN (h + 1) (fun h => toM 1000000 (nkT k) nm D ex m h) = S2 + l := by rw [hS2, hlf]; rfl
                                rw [← hlf] at t1
                                omega
                              exact ⟨rvL (by unfold cpM; split <;> omega), (Fr.put (Fr.tr (Fr.tr Fr.rf hF_σ1 (by decide)) hF_σ2 (by decide)) (by decide)), fun q => by omega⟩
                          ·
                            refine tt_ifgtT (by decide) ?_
                            refine tt_ar rfl ?_
                            refine tt_lret ?_
                            have hwy : 1000000000000000 < wyM 1000000 (nkT k) nm D ex := by
                              have t1 := to_le (hRH.th ht) (m := m) (h := h) (by omega) (by omega)
                              have t2 := to_sum (hRH.th ht) (m := m) (by omega)
                              have t3 := sumN_up (g := fun h => toM 1000000 (nkT k) nm D ex m h) (n := h + 1) (fun i => to_nn _) (nkT k - (h + 1))
                              rw [show h + 1 + (nkT k - (h + 1)) = nkT k by omega] at t3
                              have t4 : sumN (h + 1) (fun h => toM 1000000 (nkT k) nm D ex m h) = S2 + l := by rw [hS2, hlf]; rfl
                              rw [← hlf] at t1
                              omega
                            exact ⟨rvL (by unfold cpM; split <;> omega), (Fr.put (Fr.tr (Fr.tr Fr.rf hF_σ1 (by decide)) hF_σ2 (by decide)) (by decide)), fun q => by omega⟩
                        · refine tt_ar rfl ?_
                          refine tt_ifle (fun h7_5 => ?_) (fun h7_5 => ?_)
                          · have hlf : l = toM 1000000 (nkT k) nm D ex m h := by
                              rw [hl, ← toW_end]
                              unfold toW
                              by_cases e1 : m = 0
                              · rw [if_pos e1, if_pos e1]
                              · rw [if_neg e1, if_neg e1]
                                by_cases e2 : plM 1000000 (nkT k) nm D ex m h = true
                                · first | (rw [if_pos e2, if_pos e2, show g = nkT k by omega]) | exact absurd e2 h7_9
                                · rw [if_neg e2, if_neg e2]
                            refine tt_ar rfl ?_
                            refine tt_getR (wo_76 hW_σ2) rfl (wr_76_41 hW_σ2) ?_
                            refine tt_ar rfl ?_
                            refine tt_ar rfl ?_
                            refine tt_last ((462 * m) + h) (wa_102 hW_σ2) (by omega) (by omega) (by omega) ?_
                            refine tt_ar rfl ?_
                            refine tt_ar rfl ?_
                            refine tt_bL (g := (fun a b => w64 (a + b))) (z := (S2 + l)) rfl (w64_i (by omega) (by omega)) ?_
                            refine tt_ar rfl ?_
                            refine tt_ar rfl ?_
                            refine tt_ar rfl ?_
                            refine tt_lcmp (fun h44 => ?_) (fun h45 => ?_) (fun h46 => ?_)
                            ·
                              refine tt_ifgtF (by decide) ?_
                              refine tt_ar rfl ?_
                              refine tt_ar rfl ?_
                              refine tt_lcmp (fun h47 => ?_) (fun h48 => ?_) (fun h49 => ?_)
                              ·
                                refine tt_ifleT (by decide) ?_
                                refine tt_iinc (y := ((h + 1 : Nat) : Int)) rfl (iinc_fit (by omega) (by omega) (by omega)) ?_
                                refine tt_goto ?_
                                refine tt_loc [(0, vR 76), (1, vL (((S2 + l)))), (3, vI (((m : Nat) : Int))), (4, vI (((h + 1 : Nat) : Int)))] rfl rfl ⟨rfl, lv_toL rfl (by omega), rfl, rfl, trivial⟩ ?_
                                exact ih4 (h + 1) ((S2 + l)) _ (by omega) (Fr.put (Fr.tr Fr.rf hF_σ2 (by decide)) (by decide)) (by omega) (by rw [hS2, hlf]; rfl) (by omega) (fun g hg => by rw [am_set_at]; by_cases e : g = h; (rw [if_pos (by omega), e, hlf]; exact ⟨rfl, by omega⟩); (rw [if_neg (by omega)]; exact hTh g (by omega))) (fun y hy => by rw [am_set_at, if_neg (by omega)]; exact hO y hy)
                              ·
                                refine tt_ifleT (by decide) ?_
                                refine tt_iinc (y := ((h + 1 : Nat) : Int)) rfl (iinc_fit (by omega) (by omega) (by omega)) ?_
                                refine tt_goto ?_
                                refine tt_loc [(0, vR 76), (1, vL (((S2 + l)))), (3, vI (((m : Nat) : Int))), (4, vI (((h + 1 : Nat) : Int)))] rfl rfl ⟨rfl, lv_toL rfl (by omega), rfl, rfl, trivial⟩ ?_
                                exact ih4 (h + 1) ((S2 + l)) _ (by omega) (Fr.put (Fr.tr Fr.rf hF_σ2 (by decide)) (by decide)) (by omega) (by rw [hS2, hlf]; rfl) (by omega) (fun g hg => by rw [am_set_at]; by_cases e : g = h; (rw [if_pos (by omega), e, hlf]; exact ⟨rfl, by omega⟩); (rw [if_neg (by omega)]; exact hTh g (by omega))) (fun y hy => by rw [am_set_at, if_neg (by omega)]; exact hO y hy)
                              ·
                                refine tt_ifleF (by decide) ?_
                                refine tt_nop ?_
                                refine tt_ar rfl ?_
                                refine tt_lret ?_
                                have hwy : 1000000000000000 < wyM 1000000 (nkT k) nm D ex := by
                                  have t1 := to_le (hRH.th ht) (m := m) (h := h) (by omega) (by omega)
                                  have t2 := to_sum (hRH.th ht) (m := m) (by omega)
                                  have t3 := sumN_up (g := fun h => toM 1000000 (nkT k) nm D ex m h) (n := h + 1) (fun i => to_nn _) (nkT k - (h + 1))
                                  rw [show h + 1 + (nkT k - (h + 1)) = nkT k by omega] at t3
                                  have t4 : sumN (h + 1) (fun h => toM 1000000 (nkT k) nm D ex m h) = S2 + l := by rw [hS2, hlf]; rfl
                                  rw [← hlf] at t1
                                  omega
                                exact ⟨rvL (by unfold cpM; split <;> omega), (Fr.put (Fr.tr (Fr.tr Fr.rf hF_σ1 (by decide)) hF_σ2 (by decide)) (by decide)), fun q => by omega⟩
                            ·
                              refine tt_ifgtF (by decide) ?_
                              refine tt_ar rfl ?_
                              refine tt_ar rfl ?_
                              refine tt_lcmp (fun h50 => ?_) (fun h51 => ?_) (fun h52 => ?_)
                              ·
                                refine tt_ifleT (by decide) ?_
                                refine tt_iinc (y := ((h + 1 : Nat) : Int)) rfl (iinc_fit (by omega) (by omega) (by omega)) ?_
                                refine tt_goto ?_
                                refine tt_loc [(0, vR 76), (1, vL (((S2 + l)))), (3, vI (((m : Nat) : Int))), (4, vI (((h + 1 : Nat) : Int)))] rfl rfl ⟨rfl, lv_toL rfl (by omega), rfl, rfl, trivial⟩ ?_
                                exact ih4 (h + 1) ((S2 + l)) _ (by omega) (Fr.put (Fr.tr Fr.rf hF_σ2 (by decide)) (by decide)) (by omega) (by rw [hS2, hlf]; rfl) (by omega) (fun g hg => by rw [am_set_at]; by_cases e : g = h; (rw [if_pos (by omega), e, hlf]; exact ⟨rfl, by omega⟩); (rw [if_neg (by omega)]; exact hTh g (by omega))) (fun y hy => by rw [am_set_at, if_neg (by omega)]; exact hO y hy)
                              ·
                                refine tt_ifleT (by decide) ?_
                                refine tt_iinc (y := ((h + 1 : Nat) : Int)) rfl (iinc_fit (by omega) (by omega) (by omega)) ?_
                                refine tt_goto ?_
                                refine tt_loc [(0, vR 76), (1, vL (((S2 + l)))), (3, vI (((m : Nat) : Int))), (4, vI (((h + 1 : Nat) : Int)))] rfl rfl ⟨rfl, lv_toL rfl (by omega), rfl, rfl, trivial⟩ ?_
                                exact ih4 (h + 1) ((S2 + l)) _ (by omega) (Fr.put (Fr.tr Fr.rf hF_σ2 (by decide)) (by decide)) (by omega) (by rw [hS2, hlf]; rfl) (by omega) (fun g hg => by rw [am_set_at]; by_cases e : g = h; (rw [if_pos (by omega), e, hlf]; exact ⟨rfl, by omega⟩); (rw [if_neg (by omega)]; exact hTh g (by omega))) (fun y hy => by rw [am_set_at, if_neg (by omega)]; exact hO y hy)
                              ·
                                refine tt_ifleF (by decide) ?_
                                refine tt_nop ?_
                                refine tt_ar rfl ?_
                                refine tt_lret ?_
                                have hwy : 1000000000000000 < wyM 1000000 (nkT k) nm D ex := by
                                  have t1 := to_le (hRH.th ht) (m := m) (h := h) (by omega) (by omega)
                                  have t2 := to_sum (hRH.th ht) (m := m) (by omega)
                                  have t3 := sumN_up (g := fun h => toM 1000000 (nkT k) nm D ex m h) (n := h + 1) (fun i => to_nn _) (nkT k - (h + 1))
                                  rw [show h + 1 + (nkT k - (h + 1)) = nkT k by omega] at t3
                                  have t4 : sumN (h + 1) (fun h => toM 1000000 (nkT k) nm D ex m h) = S2 + l := by rw [hS2, hlf]; rfl
                                  rw [← hlf] at t1
                                  omega
                                exact ⟨rvL (by unfold cpM; split <;> omega), (Fr.put (Fr.tr (Fr.tr Fr.rf hF_σ1 (by decide)) hF_σ2 (by decide)) (by decide)), fun q => by omega⟩
                            ·
                              refine tt_ifgtT (by decide) ?_
                              refine tt_ar rfl ?_
                              refine tt_lret ?_
                              have hwy : 1000000000000000 < wyM 1000000 (nkT k) nm D ex := by
                                have t1 := to_le (hRH.th ht) (m := m) (h := h) (by omega) (by omega)
                                have t2 := to_sum (hRH.th ht) (m := m) (by omega)
                                have t3 := sumN_up (g := fun h => toM 1000000 (nkT k) nm D ex m h) (n := h + 1) (fun i => to_nn _) (nkT k - (h + 1))
                                rw [show h + 1 + (nkT k - (h + 1)) = nkT k by omega] at t3
                                have t4 : sumN (h + 1) (fun h => toM 1000000 (nkT k) nm D ex m h) = S2 + l := by rw [hS2, hlf]; rfl
                                rw [← hlf] at t1
                                omega
                              exact ⟨rvL (by unfold cpM; split <;> omega), (Fr.put (Fr.tr (Fr.tr Fr.rf hF_σ1 (by decide)) hF_σ2 (by decide)) (by decide)), fun q => by omega⟩
                          · refine tt_ar rfl ?_
                            refine tt_ar rfl ?_
                            refine tt_ar rfl ?_
                            refine tt_cv3 3 rfl (wo_76 hW_σ2) (c239 A σ2 k nm ns D hA hW_σ2 hRx ex hex hsx hTt m h (by omega) (by omega) ht) (kb (fun h7_9 => ?_) (fun h7_9 => ?_))
                            · refine tt_ifeqF (by decide) ?_
                              obtain ⟨m1, hm1⟩ : ∃ m1, m = m1 + 1 := ⟨m - 1, by omega⟩
                              have hfm := fo_mi (n := nm) hRH (by omega) (show m1 + 1 < nm by omega) (show g < nkT k by omega) (show h < nkT k by omega) ht (by rw [← hm1]; exact h7_9)
                              rw [← hm1, show m1 = m - 1 by omega] at hfm
                              have hb1 := ahN_bd (F := 1000000) (N := nkT k) (D := D) (ex := ex) (by omega) (by omega) hD0 (fun m h _ => hx0 m h) (m - 1) (show g < nkT k by omega)
                              have hmc1 := mi_c (ahN 1000000 (nkT k) D ex (m - 1) g)
                              have hbe := mi_c (ex m h)
                              have hbe0 := hx0 m h
                              have htb := (hTo (m - 1) (by omega) g (by omega)).2
                              have htn : 0 ≤ toM 1000000 (nkT k) nm D ex (m - 1) g := to_nn _
                              refine tt_ar rfl ?_
                              refine tt_ar rfl ?_
                              refine tt_ar rfl ?_
                              refine tt_isub (by omega) (by omega) ?_
                              refine tt_imul (by omega) (by omega) ?_
                              refine tt_ar rfl ?_
                              refine tt_iadd (by omega) (by omega) ?_
                              refine tt_ar rfl ?_
                              refine tt_ar rfl ?_
                              refine tt_ar rfl ?_
                              refine tt_getR (wo_76 hW_σ2) rfl (wr_76_41 hW_σ2) ?_
                              refine tt_ar rfl ?_
                              refine tt_lald (462 * (m - 1) + g) (x := toM 1000000 (nkT k) nm D ex (m - 1) g) (wa_102 hW_σ2) (by omega) (by omega) ((hO (462 * (m - 1) + g) (by omega)).trans (hTo (m - 1) (by omega) g (by omega)).1) ?_
                              refine tt_ar rfl ?_
                              refine tt_lcmp (fun h53 => ?_) (fun h54 => ?_) (fun h55 => ?_)
                              ·
                                refine tt_ifleT (by decide) ?_
                                refine tt_ar rfl ?_
                                refine tt_nop ?_
                                refine tt_bL (g := (fun a b => w64 (a + b))) (z := l) rfl (w64_fit (by omega) (by omega) (by omega)) ?_
                                refine tt_ar rfl ?_
                                refine tt_iinc (y := ((g + 1 : Nat) : Int)) rfl (iinc_fit (by omega) (by omega) (by omega)) ?_
                                refine tt_goto ?_
                                refine tt_loc [(0, vR 76), (1, vL (S2)), (3, vI (((m : Nat) : Int))), (4, vI (((h : Nat) : Int))), (5, vI (((462 * ((m : Nat) : Int)) + ((h : Nat) : Int)))), (6, vL (l)), (8, vI (((g + 1 : Nat) : Int)))] rfl rfl ⟨rfl, rfl, rfl, rfl, rfl, rfl, rfl, trivial⟩ ?_
                                exact ih7 (g + 1) (l) (by omega) (by omega) (by unfold toW at hl ⊢; rw [if_neg (by omega), if_pos h7_9] at hl ⊢; show _ = sumN g (fun g => if foM 1000000 (nkT k) D ex (m - 1) g h = true then toM 1000000 (nkT k) nm D ex (m - 1) g else 0) + (if foM 1000000 (nkT k) D ex (m - 1) g h = true then toM 1000000 (nkT k) nm D ex (m - 1) g else 0); rw [← hl]; first | (split <;> omega) | (rw [if_pos (hfm.mp (by omega))]) | (rw [if_neg (fun q => by have := hfm.mpr q; omega)]; omega)) (by omega)
                              ·
                                refine tt_ifleT (by decide) ?_
                                refine tt_ar rfl ?_
                                refine tt_nop ?_
                                refine tt_bL (g := (fun a b => w64 (a + b))) (z := l) rfl (w64_fit (by omega) (by omega) (by omega)) ?_
                                refine tt_ar rfl ?_
                                refine tt_iinc (y := ((g + 1 : Nat) : Int)) rfl (iinc_fit (by omega) (by omega) (by omega)) ?_
                                refine tt_goto ?_
                                refine tt_loc [(0, vR 76), (1, vL (S2)), (3, vI (((m : Nat) : Int))), (4, vI (((h : Nat) : Int))), (5, vI (((462 * ((m : Nat) : Int)) + ((h : Nat) : Int)))), (6, vL (l)), (8, vI (((g + 1 : Nat) : Int)))] rfl rfl ⟨rfl, rfl, rfl, rfl, rfl, rfl, rfl, trivial⟩ ?_
                                exact ih7 (g + 1) (l) (by omega) (by omega) (by unfold toW at hl ⊢; rw [if_neg (by omega), if_pos h7_9] at hl ⊢; show _ = sumN g (fun g => if foM 1000000 (nkT k) D ex (m - 1) g h = true then toM 1000000 (nkT k) nm D ex (m - 1) g else 0) + (if foM 1000000 (nkT k) D ex (m - 1) g h = true then toM 1000000 (nkT k) nm D ex (m - 1) g else 0); rw [← hl]; first | (split <;> omega) | (rw [if_pos (hfm.mp (by omega))]) | (rw [if_neg (fun q => by have := hfm.mpr q; omega)]; omega)) (by omega)
                              ·
                                refine tt_ifleF (by decide) ?_
                                refine tt_ar rfl ?_
                                refine tt_getR (wo_76 hW_σ2) rfl (wr_76_37 hW_σ2) ?_
                                refine tt_ar rfl ?_
                                refine tt_iald (462 * (m - 1) + g) (x := miN 100000 (ahN 1000000 (nkT k) D ex (m - 1) g)) (wa_99 hW_σ2) (by omega) (by omega) (((hF_σ2.2 99 (by decide) (462 * (m - 1) + g)).trans (hF_σ1.2 99 (by decide) (462 * (m - 1) + g))).trans ((hT.1 (m - 1) (by omega) g (by omega)).2.1)) ?_
                                refine tt_ar rfl ?_
                                refine tt_ar rfl ?_
                                refine tt_ar rfl ?_
                                have hd9 := hDx g h (by omega) (by omega)
                                refine tt_cv3 3 rfl (wo_76 hW_σ2) (c233 A σ2 k nm ns D hA hW_σ2 hRx hsx g h (by omega) (by omega)) (kp ?_)
                                refine tt_iadd (by omega) (by omega) ?_
                                refine tt_ar rfl ?_
                                refine tt_getR (wo_76 hW_σ2) rfl (wr_76_36 hW_σ2) ?_
                                refine tt_ar rfl ?_
                                refine tt_iald ((462 * m) + h) (x := miN 100000 (ex m h)) (wa_98 hW_σ2) (by omega) (by omega) (((hF_σ2.2 98 (by decide) ((462 * m) + h)).trans (hF_σ1.2 98 (by decide) ((462 * m) + h))).trans ((hT.1 m (by omega) h (by omega)).1)) ?_
                                refine tt_iadd (by omega) (by omega) ?_
                                refine tt_ar rfl ?_
                                refine tt_getR (wo_76 hW_σ2) rfl (wr_76_37 hW_σ2) ?_
                                refine tt_ar rfl ?_
                                refine tt_iald ((462 * m) + h) (x := miN 100000 (ahN 1000000 (nkT k) D ex m h)) (wa_99 hW_σ2) (by omega) (by omega) (((hF_σ2.2 99 (by decide) ((462 * m) + h)).trans (hF_σ1.2 99 (by decide) ((462 * m) + h))).trans ((hT.1 m (by omega) h (by omega)).2.1)) ?_
                                refine tt_icne (fun h7_45 => ?_) (fun h7_45 => ?_)
                                · refine tt_ar rfl ?_
                                  refine tt_nop ?_
                                  refine tt_bL (g := (fun a b => w64 (a + b))) (z := l) rfl (w64_fit (by omega) (by omega) (by omega)) ?_
                                  refine tt_ar rfl ?_
                                  refine tt_iinc (y := ((g + 1 : Nat) : Int)) rfl (iinc_fit (by omega) (by omega) (by omega)) ?_
                                  refine tt_goto ?_
                                  refine tt_loc [(0, vR 76), (1, vL (S2)), (3, vI (((m : Nat) : Int))), (4, vI (((h : Nat) : Int))), (5, vI (((462 * ((m : Nat) : Int)) + ((h : Nat) : Int)))), (6, vL (l)), (8, vI (((g + 1 : Nat) : Int)))] rfl rfl ⟨rfl, rfl, rfl, rfl, rfl, rfl, rfl, trivial⟩ ?_
                                  exact ih7 (g + 1) (l) (by omega) (by omega) (by unfold toW at hl ⊢; rw [if_neg (by omega), if_pos h7_9] at hl ⊢; show _ = sumN g (fun g => if foM 1000000 (nkT k) D ex (m - 1) g h = true then toM 1000000 (nkT k) nm D ex (m - 1) g else 0) + (if foM 1000000 (nkT k) D ex (m - 1) g h = true then toM 1000000 (nkT k) nm D ex (m - 1) g else 0); rw [← hl]; first | (split <;> omega) | (rw [if_pos (hfm.mp (by omega))]) | (rw [if_neg (fun q => by have := hfm.mpr q; omega)]; omega)) (by omega)
                                · refine tt_ar rfl ?_
                                  refine tt_getR (wo_76 hW_σ2) rfl (wr_76_41 hW_σ2) ?_
                                  refine tt_ar rfl ?_
                                  refine tt_lald (462 * (m - 1) + g) (x := toM 1000000 (nkT k) nm D ex (m - 1) g) (wa_102 hW_σ2) (by omega) (by omega) ((hO (462 * (m - 1) + g) (by omega)).trans (hTo (m - 1) (by omega) g (by omega)).1) ?_
                                  refine tt_goto ?_
                                  refine tt_bL (g := (fun a b => w64 (a + b))) (z := (l + toM 1000000 (nkT k) nm D ex (m - 1) g)) rfl (w64_i (by omega) (by omega)) ?_
                                  refine tt_ar rfl ?_
                                  refine tt_iinc (y := ((g + 1 : Nat) : Int)) rfl (iinc_fit (by omega) (by omega) (by omega)) ?_
                                  refine tt_goto ?_
                                  refine tt_loc [(0, vR 76), (1, vL (S2)), (3, vI (((m : Nat) : Int))), (4, vI (((h : Nat) : Int))), (5, vI (((462 * ((m : Nat) : Int)) + ((h : Nat) : Int)))), (6, vL (((l + toM 1000000 (nkT k) nm D ex (m - 1) g)))), (8, vI (((g + 1 : Nat) : Int)))] rfl rfl ⟨rfl, rfl, rfl, rfl, rfl, lv_toL rfl (by omega), rfl, trivial⟩ ?_
                                  exact ih7 (g + 1) ((l + toM 1000000 (nkT k) nm D ex (m - 1) g)) (by omega) (by omega) (by unfold toW at hl ⊢; rw [if_neg (by omega), if_pos h7_9] at hl ⊢; show _ = sumN g (fun g => if foM 1000000 (nkT k) D ex (m - 1) g h = true then toM 1000000 (nkT k) nm D ex (m - 1) g else 0) + (if foM 1000000 (nkT k) D ex (m - 1) g h = true then toM 1000000 (nkT k) nm D ex (m - 1) g else 0); rw [← hl]; first | (split <;> omega) | (rw [if_pos (hfm.mp (by omega))]) | (rw [if_neg (fun q => by have := hfm.mpr q; omega)]; omega)) (by omega)
                            · refine tt_ifeqT (by decide) ?_
                              have hlf : l = toM 1000000 (nkT k) nm D ex m h := by
                                rw [hl, ← toW_end]
                                unfold toW
                                by_cases e1 : m = 0
                                · rw [if_pos e1, if_pos e1]
                                · rw [if_neg e1, if_neg e1]
                                  by_cases e2 : plM 1000000 (nkT k) nm D ex m h = true
                                  · first | (rw [if_pos e2, if_pos e2, show g = nkT k by omega]) | exact absurd e2 h7_9
                                  · rw [if_neg e2, if_neg e2]
                              refine tt_ar rfl ?_
                              refine tt_getR (wo_76 hW_σ2) rfl (wr_76_41 hW_σ2) ?_
                              refine tt_ar rfl ?_
                              refine tt_ar rfl ?_
                              refine tt_last ((462 * m) + h) (wa_102 hW_σ2) (by omega) (by omega) (by omega) ?_
                              refine tt_ar rfl ?_
                              refine tt_ar rfl ?_
                              refine tt_bL (g := (fun a b => w64 (a + b))) (z := (S2 + l)) rfl (w64_i (by omega) (by omega)) ?_
                              refine tt_ar rfl ?_
                              refine tt_ar rfl ?_
                              refine tt_ar rfl ?_
                              refine tt_lcmp (fun h56 => ?_) (fun h57 => ?_) (fun h58 => ?_)
                              ·
                                refine tt_ifgtF (by decide) ?_
                                refine tt_ar rfl ?_
                                refine tt_ar rfl ?_
                                refine tt_lcmp (fun h59 => ?_) (fun h60 => ?_) (fun h61 => ?_)
                                ·
                                  refine tt_ifleT (by decide) ?_
                                  refine tt_iinc (y := ((h + 1 : Nat) : Int)) rfl (iinc_fit (by omega) (by omega) (by omega)) ?_
                                  refine tt_goto ?_
                                  refine tt_loc [(0, vR 76), (1, vL (((S2 + l)))), (3, vI (((m : Nat) : Int))), (4, vI (((h + 1 : Nat) : Int)))] rfl rfl ⟨rfl, lv_toL rfl (by omega), rfl, rfl, trivial⟩ ?_
                                  exact ih4 (h + 1) ((S2 + l)) _ (by omega) (Fr.put (Fr.tr Fr.rf hF_σ2 (by decide)) (by decide)) (by omega) (by rw [hS2, hlf]; rfl) (by omega) (fun g hg => by rw [am_set_at]; by_cases e : g = h; (rw [if_pos (by omega), e, hlf]; exact ⟨rfl, by omega⟩); (rw [if_neg (by omega)]; exact hTh g (by omega))) (fun y hy => by rw [am_set_at, if_neg (by omega)]; exact hO y hy)
                                ·
                                  refine tt_ifleT (by decide) ?_
                                  refine tt_iinc (y := ((h + 1 : Nat) : Int)) rfl (iinc_fit (by omega) (by omega) (by omega)) ?_
                                  refine tt_goto ?_
                                  refine tt_loc [(0, vR 76), (1, vL (((S2 + l)))), (3, vI (((m : Nat) : Int))), (4, vI (((h + 1 : Nat) : Int)))] rfl rfl ⟨rfl, lv_toL rfl (by omega), rfl, rfl, trivial⟩ ?_
                                  exact ih4 (h + 1) ((S2 + l)) _ (by omega) (Fr.put (Fr.tr Fr.rf hF_σ2 (by decide)) (by decide)) (by omega) (by rw [hS2, hlf]; rfl) (by omega) (fun g hg => by rw [am_set_at]; by_cases e : g = h; (rw [if_pos (by omega), e, hlf]; exact ⟨rfl, by omega⟩); (rw [if_neg (by omega)]; exact hTh g (by omega))) (fun y hy => by rw [am_set_at, if_neg (by omega)]; exact hO y hy)
                                ·
                                  refine tt_ifleF (by decide) ?_
                                  refine tt_nop ?_
                                  refine tt_ar rfl ?_
                                  refine tt_lret ?_
                                  have hwy : 1000000000000000 < wyM 1000000 (nkT k) nm D ex := by
                                    have t1 := to_le (hRH.th ht) (m := m) (h := h) (by omega) (by omega)
                                    have t2 := to_sum (hRH.th ht) (m := m) (by omega)
                                    have t3 := sumN_up (g := fun h => toM 1000000 (nkT k) nm D ex m h) (n := h + 1) (fun i => to_nn _) (nkT k - (h + 1))
                                    rw [show h + 1 + (nkT k - (h + 1)) = nkT k by omega] at t3
                                    have t4 : sumN (h + 1) (fun h => toM 1000000 (nkT k) nm D ex m h) = S2 + l := by rw [hS2, hlf]; rfl
                                    rw [← hlf] at t1
                                    omega
                                  exact ⟨rvL (by unfold cpM; split <;> omega), (Fr.put (Fr.tr (Fr.tr Fr.rf hF_σ1 (by decide)) hF_σ2 (by decide)) (by decide)), fun q => by omega⟩
                              ·
                                refine tt_ifgtF (by decide) ?_
                                refine tt_ar rfl ?_
                                refine tt_ar rfl ?_
                                refine tt_lcmp (fun h62 => ?_) (fun h63 => ?_) (fun h64 => ?_)
                                ·
                                  refine tt_ifleT (by decide) ?_
                                  refine tt_iinc (y := ((h + 1 : Nat) : Int)) rfl (iinc_fit (by omega) (by omega) (by omega)) ?_
                                  refine tt_goto ?_
                                  refine tt_loc [(0, vR 76), (1, vL (((S2 + l)))), (3, vI (((m : Nat) : Int))), (4, vI (((h + 1 : Nat) : Int)))] rfl rfl ⟨rfl, lv_toL rfl (by omega), rfl, rfl, trivial⟩ ?_
                                  exact ih4 (h + 1) ((S2 + l)) _ (by omega) (Fr.put (Fr.tr Fr.rf hF_σ2 (by decide)) (by decide)) (by omega) (by rw [hS2, hlf]; rfl) (by omega) (fun g hg => by rw [am_set_at]; by_cases e : g = h; (rw [if_pos (by omega), e, hlf]; exact ⟨rfl, by omega⟩); (rw [if_neg (by omega)]; exact hTh g (by omega))) (fun y hy => by rw [am_set_at, if_neg (by omega)]; exact hO y hy)
                                ·
                                  refine tt_ifleT (by decide) ?_
                                  refine tt_iinc (y := ((h + 1 : Nat) : Int)) rfl (iinc_fit (by omega) (by omega) (by omega)) ?_
                                  refine tt_goto ?_
                                  refine tt_loc [(0, vR 76), (1, vL (((S2 + l)))), (3, vI (((m : Nat) : Int))), (4, vI (((h + 1 : Nat) : Int)))] rfl rfl ⟨rfl, lv_toL rfl (by omega), rfl, rfl, trivial⟩ ?_
                                  exact ih4 (h + 1) ((S2 + l)) _ (by omega) (Fr.put (Fr.tr Fr.rf hF_σ2 (by decide)) (by decide)) (by omega) (by rw [hS2, hlf]; rfl) (by omega) (fun g hg => by rw [am_set_at]; by_cases e : g = h; (rw [if_pos (by omega), e, hlf]; exact ⟨rfl, by omega⟩); (rw [if_neg (by omega)]; exact hTh g (by omega))) (fun y hy => by rw [am_set_at, if_neg (by omega)]; exact hO y hy)
                                ·
                                  refine tt_ifleF (by decide) ?_
                                  refine tt_nop ?_
                                  refine tt_ar rfl ?_
                                  refine tt_lret ?_
                                  have hwy : 1000000000000000 < wyM 1000000 (nkT k) nm D ex := by
                                    have t1 := to_le (hRH.th ht) (m := m) (h := h) (by omega) (by omega)
                                    have t2 := to_sum (hRH.th ht) (m := m) (by omega)
                                    have t3 := sumN_up (g := fun h => toM 1000000 (nkT k) nm D ex m h) (n := h + 1) (fun i => to_nn _) (nkT k - (h + 1))
                                    rw [show h + 1 + (nkT k - (h + 1)) = nkT k by omega] at t3
                                    have t4 : sumN (h + 1) (fun h => toM 1000000 (nkT k) nm D ex m h) = S2 + l := by rw [hS2, hlf]; rfl
                                    rw [← hlf] at t1
                                    omega
                                  exact ⟨rvL (by unfold cpM; split <;> omega), (Fr.put (Fr.tr (Fr.tr Fr.rf hF_σ1 (by decide)) hF_σ2 (by decide)) (by decide)), fun q => by omega⟩
                              ·
                                refine tt_ifgtT (by decide) ?_
                                refine tt_ar rfl ?_
                                refine tt_lret ?_
                                have hwy : 1000000000000000 < wyM 1000000 (nkT k) nm D ex := by
                                  have t1 := to_le (hRH.th ht) (m := m) (h := h) (by omega) (by omega)
                                  have t2 := to_sum (hRH.th ht) (m := m) (by omega)
                                  have t3 := sumN_up (g := fun h => toM 1000000 (nkT k) nm D ex m h) (n := h + 1) (fun i => to_nn _) (nkT k - (h + 1))
                                  rw [show h + 1 + (nkT k - (h + 1)) = nkT k by omega] at t3
                                  have t4 : sumN (h + 1) (fun h => toM 1000000 (nkT k) nm D ex m h) = S2 + l := by rw [hS2, hlf]; rfl
                                  rw [← hlf] at t1
                                  omega
                                exact ⟨rvL (by unfold cpM; split <;> omega), (Fr.put (Fr.tr (Fr.tr Fr.rf hF_σ1 (by decide)) hF_σ2 (by decide)) (by decide)), fun q => by omega⟩
                    refine tt_loc [(0, vR 76), (1, vL (S2)), (3, vI (((m : Nat) : Int))), (4, vI (((h : Nat) : Int))), (5, vI (((462 * ((m : Nat) : Int)) + ((h : Nat) : Int)))), (6, vL (1)), (8, vI (((0 : Nat) : Int)))] rfl rfl ⟨rfl, rfl, rfl, rfl, rfl, rfl, lv_to rfl (by omega), trivial⟩ ?_
                    exact lp7_34 _ (0) (1) (Nat.lt_succ_self _) (by omega) (by unfold toW; first | (rw [if_pos (by omega), if_pos h4_15]) | (rw [if_pos (by omega), if_neg h4_15]) | (rw [if_neg (by omega)]; split <;> rfl)) (by omega)
                  · refine tt_ifeqT (by decide) ?_
                    refine tt_ar rfl ?_
                    refine tt_nop ?_
                    refine tt_ar rfl ?_
                    refine tt_ar rfl ?_
                    refine tt_ar rfl ?_
                    refine tt_nop ?_
                    have lp7_65 : ∀ (μ : Nat) (g : Nat) (l : Int), nkT k - g < μ → (g ≤ nkT k) → (l = toW k nm D ex m h g) → (0 ≤ l ∧ l ≤ 1000000000000000 * ((g : Nat) : Int) + 1) → TT am_b241 (am_b241.getD 7 []) [(0, vR 76), (1, vL (S2)), (3, vI (((m : Nat) : Int))), (4, vI (((h : Nat) : Int))), (5, vI (((462 * ((m : Nat) : Int)) + ((h : Nat) : Int)))), (6, vL (l)), (8, vI (((g : Nat) : Int)))] [] σ2 (fun r σ' => r = some (vL (cpM 1000000000000001 (wyM 1000000 (nkT k) nm D ex))) ∧ Fr [102] σ σ' ∧ (wyM 1000000 (nkT k) nm D ex ≤ 1000000000000000 → ∀ q, q < nm → ∀ h, h < nkT k → σ'.1 102 (462 * q + h) = toM 1000000 (nkT k) nm D ex q h)) := by
                      intro μ
                      induction μ with
                      | zero => intro g l hμ; exact absurd hμ (Nat.not_lt_zero _)
                      | succ μ ih7 =>
                        intro g l hμ hg hl hlb
                        refine tt_ar rfl ?_
                        refine tt_ar rfl ?_
                        refine tt_getI (x := ((nkT k : Nat) : Int)) (wo_76 hW_σ2) rfl (((hF_σ2.2 76 (by decide) (27)).trans (hF_σ1.2 76 (by decide) (27))).trans hR.hs.1) ?_
                        refine tt_icge (fun h7_3 => ?_) (fun h7_3 => ?_)
                        · have hlf : l = toM 1000000 (nkT k) nm D ex m h := by
                            rw [hl, ← toW_end]
                            unfold toW
                            by_cases e1 : m = 0
                            · rw [if_pos e1, if_pos e1]
                            · rw [if_neg e1, if_neg e1]
                              by_cases e2 : plM 1000000 (nkT k) nm D ex m h = true
                              · first | (rw [if_pos e2, if_pos e2, show g = nkT k by omega]) | exact absurd e2 h7_9
                              · rw [if_neg e2, if_neg e2]
                          refine tt_ar rfl ?_
                          refine tt_getR (wo_76 hW_σ2) rfl (wr_76_41 hW_σ2) ?_
                          refine tt_ar rfl ?_
                          refine tt_ar rfl ?_
                          refine tt_last ((462 * m) + h) (wa_102 hW_σ2) (by omega) (by omega) (by omega) ?_
                          refine tt_ar rfl ?_
                          refine tt_ar rfl ?_
                          refine tt_bL (g := (fun a b => w64 (a + b))) (z := (S2 + l)) rfl (w64_i (by omega) (by omega)) ?_
                          refine tt_ar rfl ?_
                          refine tt_ar rfl ?_
                          refine tt_ar rfl ?_
                          refine tt_lcmp (fun h66 => ?_) (fun h67 => ?_) (fun h68 => ?_)
                          ·
                            refine tt_ifgtF (by decide) ?_
                            refine tt_ar rfl ?_
                            refine tt_ar rfl ?_
                            refine tt_lcmp (fun h69 => ?_) (fun h70 => ?_) (fun h71 => ?_)
                            ·
                              refine tt_ifleT (by decide) ?_
                              refine tt_iinc (y := ((h + 1 : Nat) : Int)) rfl (iinc_fit (by omega) (by omega) (by omega)) ?_
                              refine tt_goto ?_
                              refine tt_loc [(0, vR 76), (1, vL (((S2 + l)))), (3, vI (((m : Nat) : Int))), (4, vI (((h + 1 : Nat) : Int)))] rfl rfl ⟨rfl, lv_toL rfl (by omega), rfl, rfl, trivial⟩ ?_
                              exact ih4 (h + 1) ((S2 + l)) _ (by omega) (Fr.put (Fr.tr Fr.rf hF_σ2 (by decide)) (by decide)) (by omega) (by rw [hS2, hlf]; rfl) (by omega) (fun g hg => by rw [am_set_at]; by_cases e : g = h; (rw [if_pos (by omega), e, hlf]; exact ⟨rfl, by omega⟩); (rw [if_neg (by omega)]; exact hTh g (by omega))) (fun y hy => by rw [am_set_at, if_neg (by omega)]; exact hO y hy)
                            ·
                              refine tt_ifleT (by decide) ?_
                              refine tt_iinc (y := ((h + 1 : Nat) : Int)) rfl (iinc_fit (by omega) (by omega) (by omega)) ?_
                              refine tt_goto ?_
                              refine tt_loc [(0, vR 76), (1, vL (((S2 + l)))), (3, vI (((m : Nat) : Int))), (4, vI (((h + 1 : Nat) : Int)))] rfl rfl ⟨rfl, lv_toL rfl (by omega), rfl, rfl, trivial⟩ ?_
                              exact ih4 (h + 1) ((S2 + l)) _ (by omega) (Fr.put (Fr.tr Fr.rf hF_σ2 (by decide)) (by decide)) (by omega) (by rw [hS2, hlf]; rfl) (by omega) (fun g hg => by rw [am_set_at]; by_cases e : g = h; (rw [if_pos (by omega), e, hlf]; exact ⟨rfl, by omega⟩); (rw [if_neg (by omega)]; exact hTh g (by omega))) (fun y hy => by rw [am_set_at, if_neg (by omega)]; exact hO y hy)
                            ·
                              refine tt_ifleF (by decide) ?_
                              refine tt_nop ?_
                              refine tt_ar rfl ?_
                              refine tt_lret ?_
                              have hwy : 1000000000000000 < wyM 1000000 (nkT k) nm D ex := by
                                have t1 := to_le (hRH.th ht) (m := m) (h := h) (by omega) (by omega)
                                have t2 := to_sum (hRH.th ht) (m := m) (by omega)
                                have t3 := sumN_up (g := fun h => toM 1000000 (nkT k) nm D ex m h) (n := h + 1) (fun i => to_nn _) (nkT k - (h + 1))
                                rw [show h + 1 + (nkT k - (h + 1)) = nkT k by omega] at t3
                                have t4 : sumN (h + 1) (fun h => toM 1000000 (nkT k) nm D ex m h) = S2 + l := by rw [hS2, hlf]; rfl
                                rw [← hlf] at t1
                                omega
                              exact ⟨rvL (by unfold cpM; split <;> omega), (Fr.put (Fr.tr (Fr.tr Fr.rf hF_σ1 (by decide)) hF_σ2 (by decide)) (by decide)), fun q => by omega⟩
                          ·
                            refine tt_ifgtF (by decide) ?_
                            refine tt_ar rfl ?_
                            refine tt_ar rfl ?_
                            refine tt_lcmp (fun h72 => ?_) (fun h73 => ?_) (fun h74 => ?_)
                            ·
                              refine tt_ifleT (by decide) ?_
                              refine tt_iinc (y := ((h + 1 : Nat) : Int)) rfl (iinc_fit (by omega) (by omega) (by omega)) ?_
                              refine tt_goto ?_
                              refine tt_loc [(0, vR 76), (1, vL (((S2 + l)))), (3, vI (((m : Nat) : Int))), (4, vI (((h + 1 : Nat) : Int)))] rfl rfl ⟨rfl, lv_toL rfl (by omega), rfl, rfl, trivial⟩ ?_
                              exact ih4 (h + 1) ((S2 + l)) _ (by omega) (Fr.put (Fr.tr Fr.rf hF_σ2 (by decide)) (by decide)) (by omega) (by rw [hS2, hlf]; rfl) (by omega) (fun g hg => by rw [am_set_at]; by_cases e : g = h; (rw [if_pos (by omega), e, hlf]; exact ⟨rfl, by omega⟩); (rw [if_neg (by omega)]; exact hTh g (by omega))) (fun y hy => by rw [am_set_at, if_neg (by omega)]; exact hO y hy)
                            ·
                              refine tt_ifleT (by decide) ?_
                              refine tt_iinc (y := ((h + 1 : Nat) : Int)) rfl (iinc_fit (by omega) (by omega) (by omega)) ?_
                              refine tt_goto ?_
                              refine tt_loc [(0, vR 76), (1, vL (((S2 + l)))), (3, vI (((m : Nat) : Int))), (4, vI (((h + 1 : Nat) : Int)))] rfl rfl ⟨rfl, lv_toL rfl (by omega), rfl, rfl, trivial⟩ ?_
                              exact ih4 (h + 1) ((S2 + l)) _ (by omega) (Fr.put (Fr.tr Fr.rf hF_σ2 (by decide)) (by decide)) (by omega) (by rw [hS2, hlf]; rfl) (by omega) (fun g hg => by rw [am_set_at]; by_cases e : g = h; (rw [if_pos (by omega), e, hlf]; exact ⟨rfl, by omega⟩); (rw [if_neg (by omega)]; exact hTh g (by omega))) (fun y hy => by rw [am_set_at, if_neg (by omega)]; exact hO y hy)
                            ·
                              refine tt_ifleF (by decide) ?_
                              refine tt_nop ?_
                              refine tt_ar rfl ?_
                              refine tt_lret ?_
                              have hwy : 1000000000000000 < wyM 1000000 (nkT k) nm D ex := by
                                have t1 := to_le (hRH.th ht) (m := m) (h := h) (by omega) (by omega)
                                have t2 := to_sum (hRH.th ht) (m := m) (by omega)
                                have t3 := sumN_up (g := fun h => toM 1000000 (nkT k) nm D ex m h) (n := h + 1) (fun i => to_nn _) (nkT k - (h + 1))
                                rw [show h + 1 + (nkT k - (h + 1)) = nkT k by omega] at t3
                                have t4 : sumN (h + 1) (fun h => toM 1000000 (nkT k) nm D ex m h) = S2 + l := by rw [hS2, hlf]; rfl
                                rw [← hlf] at t1
                                omega
                              exact ⟨rvL (by unfold cpM; split <;> omega), (Fr.put (Fr.tr (Fr.tr Fr.rf hF_σ1 (by decide)) hF_σ2 (by decide)) (by decide)), fun q => by omega⟩
                          ·
                            refine tt_ifgtT (by decide) ?_
                            refine tt_ar rfl ?_
                            refine tt_lret ?_
                            have hwy : 1000000000000000 < wyM 1000000 (nkT k) nm D ex := by
                              have t1 := to_le (hRH.th ht) (m := m) (h := h) (by omega) (by omega)
                              have t2 := to_sum (hRH.th ht) (m := m) (by omega)
                              have t3 := sumN_up (g := fun h => toM 1000000 (nkT k) nm D ex m h) (n := h + 1) (fun i => to_nn _) (nkT k - (h + 1))
                              rw [show h + 1 + (nkT k - (h + 1)) = nkT k by omega] at t3
                              have t4 : sumN (h + 1) (fun h => toM 1000000 (nkT k) nm D ex m h) = S2 + l := by rw [hS2, hlf]; rfl
                              rw [← hlf] at t1
                              omega
                            exact ⟨rvL (by unfold cpM; split <;> omega), (Fr.put (Fr.tr (Fr.tr Fr.rf hF_σ1 (by decide)) hF_σ2 (by decide)) (by decide)), fun q => by omega⟩
                        · refine tt_ar rfl ?_
                          refine tt_ifle (fun h7_5 => ?_) (fun h7_5 => ?_)
                          · have hlf : l = toM 1000000 (nkT k) nm D ex m h := by
                              rw [hl, ← toW_end]
                              unfold toW
                              by_cases e1 : m = 0
                              · rw [if_pos e1, if_pos e1]
                              · rw [if_neg e1, if_neg e1]
                                by_cases e2 : plM 1000000 (nkT k) nm D ex m h = true
                                · first | (rw [if_pos e2, if_pos e2, show g = nkT k by omega]) | exact absurd e2 h7_9
                                · rw [if_neg e2, if_neg e2]
                            refine tt_ar rfl ?_
                            refine tt_getR (wo_76 hW_σ2) rfl (wr_76_41 hW_σ2) ?_
                            refine tt_ar rfl ?_
                            refine tt_ar rfl ?_
                            refine tt_last ((462 * m) + h) (wa_102 hW_σ2) (by omega) (by omega) (by omega) ?_
                            refine tt_ar rfl ?_
                            refine tt_ar rfl ?_
                            refine tt_bL (g := (fun a b => w64 (a + b))) (z := (S2 + l)) rfl (w64_i (by omega) (by omega)) ?_
                            refine tt_ar rfl ?_
                            refine tt_ar rfl ?_
                            refine tt_ar rfl ?_
                            refine tt_lcmp (fun h75 => ?_) (fun h76 => ?_) (fun h77 => ?_)
                            ·
                              refine tt_ifgtF (by decide) ?_
                              refine tt_ar rfl ?_
                              refine tt_ar rfl ?_
                              refine tt_lcmp (fun h78 => ?_) (fun h79 => ?_) (fun h80 => ?_)
                              ·
                                refine tt_ifleT (by decide) ?_
                                refine tt_iinc (y := ((h + 1 : Nat) : Int)) rfl (iinc_fit (by omega) (by omega) (by omega)) ?_
                                refine tt_goto ?_
                                refine tt_loc [(0, vR 76), (1, vL (((S2 + l)))), (3, vI (((m : Nat) : Int))), (4, vI (((h + 1 : Nat) : Int)))] rfl rfl ⟨rfl, lv_toL rfl (by omega), rfl, rfl, trivial⟩ ?_
                                exact ih4 (h + 1) ((S2 + l)) _ (by omega) (Fr.put (Fr.tr Fr.rf hF_σ2 (by decide)) (by decide)) (by omega) (by rw [hS2, hlf]; rfl) (by omega) (fun g hg => by rw [am_set_at]; by_cases e : g = h; (rw [if_pos (by omega), e, hlf]; exact ⟨rfl, by omega⟩); (rw [if_neg (by omega)]; exact hTh g (by omega))) (fun y hy => by rw [am_set_at, if_neg (by omega)]; exact hO y hy)
                              ·
                                refine tt_ifleT (by decide) ?_
                                refine tt_iinc (y := ((h + 1 : Nat) : Int)) rfl (iinc_fit (by omega) (by omega) (by omega)) ?_
                                refine tt_goto ?_
                                refine tt_loc [(0, vR 76), (1, vL (((S2 + l)))), (3, vI (((m : Nat) : Int))), (4, vI (((h + 1 : Nat) : Int)))] rfl rfl ⟨rfl, lv_toL rfl (by omega), rfl, rfl, trivial⟩ ?_
                                exact ih4 (h + 1) ((S2 + l)) _ (by omega) (Fr.put (Fr.tr Fr.rf hF_σ2 (by decide)) (by decide)) (by omega) (by rw [hS2, hlf]; rfl) (by omega) (fun g hg => by rw [am_set_at]; by_cases e : g = h; (rw [if_pos (by omega), e, hlf]; exact ⟨rfl, by omega⟩); (rw [if_neg (by omega)]; exact hTh g (by omega))) (fun y hy => by rw [am_set_at, if_neg (by omega)]; exact hO y hy)
                              ·
                                refine tt_ifleF (by decide) ?_
                                refine tt_nop ?_
                                refine tt_ar rfl ?_
                                refine tt_lret ?_
                                have hwy : 1000000000000000 < wyM 1000000 (nkT k) nm D ex := by
                                  have t1 := to_le (hRH.th ht) (m := m) (h := h) (by omega) (by omega)
                                  have t2 := to_sum (hRH.th ht) (m := m) (by omega)
                                  have t3 := sumN_up (g := fun h => toM 1000000 (nkT k) nm D ex m h) (n := h + 1) (fun i => to_nn _) (nkT k - (h + 1))
                                  rw [show h + 1 + (nkT k - (h + 1)) = nkT k by omega] at t3
                                  have t4 : sumN (h + 1) (fun h => toM 1000000 (nkT k) nm D ex m h) = S2 + l := by rw [hS2, hlf]; rfl
                                  rw [← hlf] at t1
                                  omega
                                exact ⟨rvL (by unfold cpM; split <;> omega), (Fr.put (Fr.tr (Fr.tr Fr.rf hF_σ1 (by decide)) hF_σ2 (by decide)) (by decide)), fun q => by omega⟩
                            ·
                              refine tt_ifgtF (by decide) ?_
                              refine tt_ar rfl ?_
                              refine tt_ar rfl ?_
                              refine tt_lcmp (fun h81 => ?_) (fun h82 => ?_) (fun h83 => ?_)
                              ·
                                refine tt_ifleT (by decide) ?_
                                refine tt_iinc (y := ((h + 1 : Nat) : Int)) rfl (iinc_fit (by omega) (by omega) (by omega)) ?_
                                refine tt_goto ?_
                                refine tt_loc [(0, vR 76), (1, vL (((S2 + l)))), (3, vI (((m : Nat) : Int))), (4, vI (((h + 1 : Nat) : Int)))] rfl rfl ⟨rfl, lv_toL rfl (by omega), rfl, rfl, trivial⟩ ?_
                                exact ih4 (h + 1) ((S2 + l)) _ (by omega) (Fr.put (Fr.tr Fr.rf hF_σ2 (by decide)) (by decide)) (by omega) (by rw [hS2, hlf]; rfl) (by omega) (fun g hg => by rw [am_set_at]; by_cases e : g = h; (rw [if_pos (by omega), e, hlf]; exact ⟨rfl, by omega⟩); (rw [if_neg (by omega)]; exact hTh g (by omega))) (fun y hy => by rw [am_set_at, if_neg (by omega)]; exact hO y hy)
                              ·
                                refine tt_ifleT (by decide) ?_
                                refine tt_iinc (y := ((h + 1 : Nat) : Int)) rfl (iinc_fit (by omega) (by omega) (by omega)) ?_
                                refine tt_goto ?_
                                refine tt_loc [(0, vR 76), (1, vL (((S2 + l)))), (3, vI (((m : Nat) : Int))), (4, vI (((h + 1 : Nat) : Int)))] rfl rfl ⟨rfl, lv_toL rfl (by omega), rfl, rfl, trivial⟩ ?_
                                exact ih4 (h + 1) ((S2 + l)) _ (by omega) (Fr.put (Fr.tr Fr.rf hF_σ2 (by decide)) (by decide)) (by omega) (by rw [hS2, hlf]; rfl) (by omega) (fun g hg => by rw [am_set_at]; by_cases e : g = h; (rw [if_pos (by omega), e, hlf]; exact ⟨rfl, by omega⟩); (rw [if_neg (by omega)]; exact hTh g (by omega))) (fun y hy => by rw [am_set_at, if_neg (by omega)]; exact hO y hy)
                              ·
                                refine tt_ifleF (by decide) ?_
                                refine tt_nop ?_
                                refine tt_ar rfl ?_
                                refine tt_lret ?_
                                have hwy : 1000000000000000 < wyM 1000000 (nkT k) nm D ex := by
                                  have t1 := to_le (hRH.th ht) (m := m) (h := h) (by omega) (by omega)
                                  have t2 := to_sum (hRH.th ht) (m := m) (by omega)
                                  have t3 := sumN_up (g := fun h => toM 1000000 (nkT k) nm D ex m h) (n := h + 1) (fun i => to_nn _) (nkT k - (h + 1))
                                  rw [show h + 1 + (nkT k - (h + 1)) = nkT k by omega] at t3
                                  have t4 : sumN (h + 1) (fun h => toM 1000000 (nkT k) nm D ex m h) = S2 + l := by rw [hS2, hlf]; rfl
                                  rw [← hlf] at t1
                                  omega
                                exact ⟨rvL (by unfold cpM; split <;> omega), (Fr.put (Fr.tr (Fr.tr Fr.rf hF_σ1 (by decide)) hF_σ2 (by decide)) (by decide)), fun q => by omega⟩
                            ·
                              refine tt_ifgtT (by decide) ?_
                              refine tt_ar rfl ?_
                              refine tt_lret ?_
                              have hwy : 1000000000000000 < wyM 1000000 (nkT k) nm D ex := by
                                have t1 := to_le (hRH.th ht) (m := m) (h := h) (by omega) (by omega)
                                have t2 := to_sum (hRH.th ht) (m := m) (by omega)
                                have t3 := sumN_up (g := fun h => toM 1000000 (nkT k) nm D ex m h) (n := h + 1) (fun i => to_nn _) (nkT k - (h + 1))
                                rw [show h + 1 + (nkT k - (h + 1)) = nkT k by omega] at t3
                                have t4 : sumN (h + 1) (fun h => toM 1000000 (nkT k) nm D ex m h) = S2 + l := by rw [hS2, hlf]; rfl
                                rw [← hlf] at t1
                                omega
                              exact ⟨rvL (by unfold cpM; split <;> omega), (Fr.put (Fr.tr (Fr.tr Fr.rf hF_σ1 (by decide)) hF_σ2 (by decide)) (by decide)), fun q => by omega⟩
                          · refine tt_ar rfl ?_
                            refine tt_ar rfl ?_
                            refine tt_ar rfl ?_
                            refine tt_cv3 3 rfl (wo_76 hW_σ2) (c239 A σ2 k nm ns D hA hW_σ2 hRx ex hex hsx hTt m h (by omega) (by omega) ht) (kb (fun h7_9 => ?_) (fun h7_9 => ?_))
                            · refine tt_ifeqF (by decide) ?_
                              obtain ⟨m1, hm1⟩ : ∃ m1, m = m1 + 1 := ⟨m - 1, by omega⟩
                              have hfm := fo_mi (n := nm) hRH (by omega) (show m1 + 1 < nm by omega) (show g < nkT k by omega) (show h < nkT k by omega) ht (by rw [← hm1]; exact h7_9)
                              rw [← hm1, show m1 = m - 1 by omega] at hfm
                              have hb1 := ahN_bd (F := 1000000) (N := nkT k) (D := D) (ex := ex) (by omega) (by omega) hD0 (fun m h _ => hx0 m h) (m - 1) (show g < nkT k by omega)
                              have hmc1 := mi_c (ahN 1000000 (nkT k) D ex (m - 1) g)
                              have hbe := mi_c (ex m h)
                              have hbe0 := hx0 m h
                              have htb := (hTo (m - 1) (by omega) g (by omega)).2
                              have htn : 0 ≤ toM 1000000 (nkT k) nm D ex (m - 1) g := to_nn _
                              refine tt_ar rfl ?_
                              refine tt_ar rfl ?_
                              refine tt_ar rfl ?_
                              refine tt_isub (by omega) (by omega) ?_
                              refine tt_imul (by omega) (by omega) ?_
                              refine tt_ar rfl ?_
                              refine tt_iadd (by omega) (by omega) ?_
                              refine tt_ar rfl ?_
                              refine tt_ar rfl ?_
                              refine tt_ar rfl ?_
                              refine tt_getR (wo_76 hW_σ2) rfl (wr_76_41 hW_σ2) ?_
                              refine tt_ar rfl ?_
                              refine tt_lald (462 * (m - 1) + g) (x := toM 1000000 (nkT k) nm D ex (m - 1) g) (wa_102 hW_σ2) (by omega) (by omega) ((hO (462 * (m - 1) + g) (by omega)).trans (hTo (m - 1) (by omega) g (by omega)).1) ?_
                              refine tt_ar rfl ?_
                              refine tt_lcmp (fun h84 => ?_) (fun h85 => ?_) (fun h86 => ?_)
                              ·
                                refine tt_ifleT (by decide) ?_
                                refine tt_ar rfl ?_
                                refine tt_nop ?_
                                refine tt_bL (g := (fun a b => w64 (a + b))) (z := l) rfl (w64_fit (by omega) (by omega) (by omega)) ?_
                                refine tt_ar rfl ?_
                                refine tt_iinc (y := ((g + 1 : Nat) : Int)) rfl (iinc_fit (by omega) (by omega) (by omega)) ?_
                                refine tt_goto ?_
                                refine tt_loc [(0, vR 76), (1, vL (S2)), (3, vI (((m : Nat) : Int))), (4, vI (((h : Nat) : Int))), (5, vI (((462 * ((m : Nat) : Int)) + ((h : Nat) : Int)))), (6, vL (l)), (8, vI (((g + 1 : Nat) : Int)))] rfl rfl ⟨rfl, rfl, rfl, rfl, rfl, rfl, rfl, trivial⟩ ?_
                                exact ih7 (g + 1) (l) (by omega) (by omega) (by unfold toW at hl ⊢; rw [if_neg (by omega), if_pos h7_9] at hl ⊢; show _ = sumN g (fun g => if foM 1000000 (nkT k) D ex (m - 1) g h = true then toM 1000000 (nkT k) nm D ex (m - 1) g else 0) + (if foM 1000000 (nkT k) D ex (m - 1) g h = true then toM 1000000 (nkT k) nm D ex (m - 1) g else 0); rw [← hl]; first | (split <;> omega) | (rw [if_pos (hfm.mp (by omega))]) | (rw [if_neg (fun q => by have := hfm.mpr q; omega)]; omega)) (by omega)
                              ·
                                refine tt_ifleT (by decide) ?_
                                refine tt_ar rfl ?_
                                refine tt_nop ?_
                                refine tt_bL (g := (fun a b => w64 (a + b))) (z := l) rfl (w64_fit (by omega) (by omega) (by omega)) ?_
                                refine tt_ar rfl ?_
                                refine tt_iinc (y := ((g + 1 : Nat) : Int)) rfl (iinc_fit (by omega) (by omega) (by omega)) ?_
                                refine tt_goto ?_
                                refine tt_loc [(0, vR 76), (1, vL (S2)), (3, vI (((m : Nat) : Int))), (4, vI (((h : Nat) : Int))), (5, vI (((462 * ((m : Nat) : Int)) + ((h : Nat) : Int)))), (6, vL (l)), (8, vI (((g + 1 : Nat) : Int)))] rfl rfl ⟨rfl, rfl, rfl, rfl, rfl, rfl, rfl, trivial⟩ ?_
                                exact ih7 (g + 1) (l) (by omega) (by omega) (by unfold toW at hl ⊢; rw [if_neg (by omega), if_pos h7_9] at hl ⊢; show _ = sumN g (fun g => if foM 1000000 (nkT k) D ex (m - 1) g h = true then toM 1000000 (nkT k) nm D ex (m - 1) g else 0) + (if foM 1000000 (nkT k) D ex (m - 1) g h = true then toM 1000000 (nkT k) nm D ex (m - 1) g else 0); rw [← hl]; first | (split <;> omega) | (rw [if_pos (hfm.mp (by omega))]) | (rw [if_neg (fun q => by have := hfm.mpr q; omega)]; omega)) (by omega)
                              ·
                                refine tt_ifleF (by decide) ?_
                                refine tt_ar rfl ?_
                                refine tt_getR (wo_76 hW_σ2) rfl (wr_76_37 hW_σ2) ?_
                                refine tt_ar rfl ?_
                                refine tt_iald (462 * (m - 1) + g) (x := miN 100000 (ahN 1000000 (nkT k) D ex (m - 1) g)) (wa_99 hW_σ2) (by omega) (by omega) (((hF_σ2.2 99 (by decide) (462 * (m - 1) + g)).trans (hF_σ1.2 99 (by decide) (462 * (m - 1) + g))).trans ((hT.1 (m - 1) (by omega) g (by omega)).2.1)) ?_
                                refine tt_ar rfl ?_
                                refine tt_ar rfl ?_
                                refine tt_ar rfl ?_
                                have hd9 := hDx g h (by omega) (by omega)
                                refine tt_cv3 3 rfl (wo_76 hW_σ2) (c233 A σ2 k nm ns D hA hW_σ2 hRx hsx g h (by omega) (by omega)) (kp ?_)
                                refine tt_iadd (by omega) (by omega) ?_
                                refine tt_ar rfl ?_
                                refine tt_getR (wo_76 hW_σ2) rfl (wr_76_36 hW_σ2) ?_
                                refine tt_ar rfl ?_
                                refine tt_iald ((462 * m) + h) (x := miN 100000 (ex m h)) (wa_98 hW_σ2) (by omega) (by omega) (((hF_σ2.2 98 (by decide) ((462 * m) + h)).trans (hF_σ1.2 98 (by decide) ((462 * m) + h))).trans ((hT.1 m (by omega) h (by omega)).1)) ?_
                                refine tt_iadd (by omega) (by omega) ?_
                                refine tt_ar rfl ?_
                                refine tt_getR (wo_76 hW_σ2) rfl (wr_76_37 hW_σ2) ?_
                                refine tt_ar rfl ?_
                                refine tt_iald ((462 * m) + h) (x := miN 100000 (ahN 1000000 (nkT k) D ex m h)) (wa_99 hW_σ2) (by omega) (by omega) (((hF_σ2.2 99 (by decide) ((462 * m) + h)).trans (hF_σ1.2 99 (by decide) ((462 * m) + h))).trans ((hT.1 m (by omega) h (by omega)).2.1)) ?_
                                refine tt_icne (fun h7_45 => ?_) (fun h7_45 => ?_)
                                · refine tt_ar rfl ?_
                                  refine tt_nop ?_
                                  refine tt_bL (g := (fun a b => w64 (a + b))) (z := l) rfl (w64_fit (by omega) (by omega) (by omega)) ?_
                                  refine tt_ar rfl ?_
                                  refine tt_iinc (y := ((g + 1 : Nat) : Int)) rfl (iinc_fit (by omega) (by omega) (by omega)) ?_
                                  refine tt_goto ?_
                                  refine tt_loc [(0, vR 76), (1, vL (S2)), (3, vI (((m : Nat) : Int))), (4, vI (((h : Nat) : Int))), (5, vI (((462 * ((m : Nat) : Int)) + ((h : Nat) : Int)))), (6, vL (l)), (8, vI (((g + 1 : Nat) : Int)))] rfl rfl ⟨rfl, rfl, rfl, rfl, rfl, rfl, rfl, trivial⟩ ?_
                                  exact ih7 (g + 1) (l) (by omega) (by omega) (by unfold toW at hl ⊢; rw [if_neg (by omega), if_pos h7_9] at hl ⊢; show _ = sumN g (fun g => if foM 1000000 (nkT k) D ex (m - 1) g h = true then toM 1000000 (nkT k) nm D ex (m - 1) g else 0) + (if foM 1000000 (nkT k) D ex (m - 1) g h = true then toM 1000000 (nkT k) nm D ex (m - 1) g else 0); rw [← hl]; first | (split <;> omega) | (rw [if_pos (hfm.mp (by omega))]) | (rw [if_neg (fun q => by have := hfm.mpr q; omega)]; omega)) (by omega)
                                · refine tt_ar rfl ?_
                                  refine tt_getR (wo_76 hW_σ2) rfl (wr_76_41 hW_σ2) ?_
                                  refine tt_ar rfl ?_
                                  refine tt_lald (462 * (m - 1) + g) (x := toM 1000000 (nkT k) nm D ex (m - 1) g) (wa_102 hW_σ2) (by omega) (by omega) ((hO (462 * (m - 1) + g) (by omega)).trans (hTo (m - 1) (by omega) g (by omega)).1) ?_
                                  refine tt_goto ?_
                                  refine tt_bL (g := (fun a b => w64 (a + b))) (z := (l + toM 1000000 (nkT k) nm D ex (m - 1) g)) rfl (w64_i (by omega) (by omega)) ?_
                                  refine tt_ar rfl ?_
                                  refine tt_iinc (y := ((g + 1 : Nat) : Int)) rfl (iinc_fit (by omega) (by omega) (by omega)) ?_
                                  refine tt_goto ?_
                                  refine tt_loc [(0, vR 76), (1, vL (S2)), (3, vI (((m : Nat) : Int))), (4, vI (((h : Nat) : Int))), (5, vI (((462 * ((m : Nat) : Int)) + ((h : Nat) : Int)))), (6, vL (((l + toM 1000000 (nkT k) nm D ex (m - 1) g)))), (8, vI (((g + 1 : Nat) : Int)))] rfl rfl ⟨rfl, rfl, rfl, rfl, rfl, lv_toL rfl (by omega), rfl, trivial⟩ ?_
                                  exact ih7 (g + 1) ((l + toM 1000000 (nkT k) nm D ex (m - 1) g)) (by omega) (by omega) (by unfold toW at hl ⊢; rw [if_neg (by omega), if_pos h7_9] at hl ⊢; show _ = sumN g (fun g => if foM 1000000 (nkT k) D ex (m - 1) g h = true then toM 1000000 (nkT k) nm D ex (m - 1) g else 0) + (if foM 1000000 (nkT k) D ex (m - 1) g h = true then toM 1000000 (nkT k) nm D ex (m - 1) g else 0); rw [← hl]; first | (split <;> omega) | (rw [if_pos (hfm.mp (by omega))]) | (rw [if_neg (fun q => by have := hfm.mpr q; omega)]; omega)) (by omega)
                            · refine tt_ifeqT (by decide) ?_
                              have hlf : l = toM 1000000 (nkT k) nm D ex m h := by
                                rw [hl, ← toW_end]
                                unfold toW
                                by_cases e1 : m = 0
                                · rw [if_pos e1, if_pos e1]
                                · rw [if_neg e1, if_neg e1]
                                  by_cases e2 : plM 1000000 (nkT k) nm D ex m h = true
                                  · first | (rw [if_pos e2, if_pos e2, show g = nkT k by omega]) | exact absurd e2 h7_9
                                  · rw [if_neg e2, if_neg e2]
                              refine tt_ar rfl ?_
                              refine tt_getR (wo_76 hW_σ2) rfl (wr_76_41 hW_σ2) ?_
                              refine tt_ar rfl ?_
                              refine tt_ar rfl ?_
                              refine tt_last ((462 * m) + h) (wa_102 hW_σ2) (by omega) (by omega) (by omega) ?_
                              refine tt_ar rfl ?_
                              refine tt_ar rfl ?_
                              refine tt_bL (g := (fun a b => w64 (a + b))) (z := (S2 + l)) rfl (w64_i (by omega) (by omega)) ?_
                              refine tt_ar rfl ?_
                              refine tt_ar rfl ?_
                              refine tt_ar rfl ?_
                              refine tt_lcmp (fun h87 => ?_) (fun h88 => ?_) (fun h89 => ?_)
                              ·
                                refine tt_ifgtF (by decide) ?_
                                refine tt_ar rfl ?_
                                refine tt_ar rfl ?_
                                refine tt_lcmp (fun h90 => ?_) (fun h91 => ?_) (fun h92 => ?_)
                                ·
                                  refine tt_ifleT (by decide) ?_
                                  refine tt_iinc (y := ((h + 1 : Nat) : Int)) rfl (iinc_fit (by omega) (by omega) (by omega)) ?_
                                  refine tt_goto ?_
                                  refine tt_loc [(0, vR 76), (1, vL (((S2 + l)))), (3, vI (((m : Nat) : Int))), (4, vI (((h + 1 : Nat) : Int)))] rfl rfl ⟨rfl, lv_toL rfl (by omega), rfl, rfl, trivial⟩ ?_
                                  exact ih4 (h + 1) ((S2 + l)) _ (by omega) (Fr.put (Fr.tr Fr.rf hF_σ2 (by decide)) (by decide)) (by omega) (by rw [hS2, hlf]; rfl) (by omega) (fun g hg => by rw [am_set_at]; by_cases e : g = h; (rw [if_pos (by omega), e, hlf]; exact ⟨rfl, by omega⟩); (rw [if_neg (by omega)]; exact hTh g (by omega))) (fun y hy => by rw [am_set_at, if_neg (by omega)]; exact hO y hy)
                                ·
                                  refine tt_ifleT (by decide) ?_
                                  refine tt_iinc (y := ((h + 1 : Nat) : Int)) rfl (iinc_fit (by omega) (by omega) (by omega)) ?_
                                  refine tt_goto ?_
                                  refine tt_loc [(0, vR 76), (1, vL (((S2 + l)))), (3, vI (((m : Nat) : Int))), (4, vI (((h + 1 : Nat) : Int)))] rfl rfl ⟨rfl, lv_toL rfl (by omega), rfl, rfl, trivial⟩ ?_
                                  exact ih4 (h + 1) ((S2 + l)) _ (by omega) (Fr.put (Fr.tr Fr.rf hF_σ2 (by decide)) (by decide)) (by omega) (by rw [hS2, hlf]; rfl) (by omega) (fun g hg => by rw [am_set_at]; by_cases e : g = h; (rw [if_pos (by omega), e, hlf]; exact ⟨rfl, by omega⟩); (rw [if_neg (by omega)]; exact hTh g (by omega))) (fun y hy => by rw [am_set_at, if_neg (by omega)]; exact hO y hy)
                                ·
                                  refine tt_ifleF (by decide) ?_
                                  refine tt_nop ?_
                                  refine tt_ar rfl ?_
                                  refine tt_lret ?_
                                  have hwy : 1000000000000000 < wyM 1000000 (nkT k) nm D ex := by
                                    have t1 := to_le (hRH.th ht) (m := m) (h := h) (by omega) (by omega)
                                    have t2 := to_sum (hRH.th ht) (m := m) (by omega)
                                    have t3 := sumN_up (g := fun h => toM 1000000 (nkT k) nm D ex m h) (n := h + 1) (fun i => to_nn _) (nkT k - (h + 1))
                                    rw [show h + 1 + (nkT k - (h + 1)) = nkT k by omega] at t3
                                    have t4 : sumN (h + 1) (fun h => toM 1000000 (nkT k) nm D ex m h) = S2 + l := by rw [hS2, hlf]; rfl
                                    rw [← hlf] at t1
                                    omega
                                  exact ⟨rvL (by unfold cpM; split <;> omega), (Fr.put (Fr.tr (Fr.tr Fr.rf hF_σ1 (by decide)) hF_σ2 (by decide)) (by decide)), fun q => by omega⟩
                              ·
                                refine tt_ifgtF (by decide) ?_
                                refine tt_ar rfl ?_
                                refine tt_ar rfl ?_
                                refine tt_lcmp (fun h93 => ?_) (fun h94 => ?_) (fun h95 => ?_)
                                ·
                                  refine tt_ifleT (by decide) ?_
                                  refine tt_iinc (y := ((h + 1 : Nat) : Int)) rfl (iinc_fit (by omega) (by omega) (by omega)) ?_
                                  refine tt_goto ?_
                                  refine tt_loc [(0, vR 76), (1, vL (((S2 + l)))), (3, vI (((m : Nat) : Int))), (4, vI (((h + 1 : Nat) : Int)))] rfl rfl ⟨rfl, lv_toL rfl (by omega), rfl, rfl, trivial⟩ ?_
                                  exact ih4 (h + 1) ((S2 + l)) _ (by omega) (Fr.put (Fr.tr Fr.rf hF_σ2 (by decide)) (by decide)) (by omega) (by rw [hS2, hlf]; rfl) (by omega) (fun g hg => by rw [am_set_at]; by_cases e : g = h; (rw [if_pos (by omega), e, hlf]; exact ⟨rfl, by omega⟩); (rw [if_neg (by omega)]; exact hTh g (by omega))) (fun y hy => by rw [am_set_at, if_neg (by omega)]; exact hO y hy)
                                ·
                                  refine tt_ifleT (by decide) ?_
                                  refine tt_iinc (y := ((h + 1 : Nat) : Int)) rfl (iinc_fit (by omega) (by omega) (by omega)) ?_
                                  refine tt_goto ?_
                                  refine tt_loc [(0, vR 76), (1, vL (((S2 + l)))), (3, vI (((m : Nat) : Int))), (4, vI (((h + 1 : Nat) : Int)))] rfl rfl ⟨rfl, lv_toL rfl (by omega), rfl, rfl, trivial⟩ ?_
                                  exact ih4 (h + 1) ((S2 + l)) _ (by omega) (Fr.put (Fr.tr Fr.rf hF_σ2 (by decide)) (by decide)) (by omega) (by rw [hS2, hlf]; rfl) (by omega) (fun g hg => by rw [am_set_at]; by_cases e : g = h; (rw [if_pos (by omega), e, hlf]; exact ⟨rfl, by omega⟩); (rw [if_neg (by omega)]; exact hTh g (by omega))) (fun y hy => by rw [am_set_at, if_neg (by omega)]; exact hO y hy)
                                ·
                                  refine tt_ifleF (by decide) ?_
                                  refine tt_nop ?_
                                  refine tt_ar rfl ?_
                                  refine tt_lret ?_
                                  have hwy : 1000000000000000 < wyM 1000000 (nkT k) nm D ex := by
                                    have t1 := to_le (hRH.th ht) (m := m) (h := h) (by omega) (by omega)
                                    have t2 := to_sum (hRH.th ht) (m := m) (by omega)
                                    have t3 := sumN_up (g := fun h => toM 1000000 (nkT k) nm D ex m h) (n := h + 1) (fun i => to_nn _) (nkT k - (h + 1))
                                    rw [show h + 1 + (nkT k - (h + 1)) = nkT k by omega] at t3
                                    have t4 : sumN (h + 1) (fun h => toM 1000000 (nkT k) nm D ex m h) = S2 + l := by rw [hS2, hlf]; rfl
                                    rw [← hlf] at t1
                                    omega
                                  exact ⟨rvL (by unfold cpM; split <;> omega), (Fr.put (Fr.tr (Fr.tr Fr.rf hF_σ1 (by decide)) hF_σ2 (by decide)) (by decide)), fun q => by omega⟩
                              ·
                                refine tt_ifgtT (by decide) ?_
                                refine tt_ar rfl ?_
                                refine tt_lret ?_
                                have hwy : 1000000000000000 < wyM 1000000 (nkT k) nm D ex := by
                                  have t1 := to_le (hRH.th ht) (m := m) (h := h) (by omega) (by omega)
                                  have t2 := to_sum (hRH.th ht) (m := m) (by omega)
                                  have t3 := sumN_up (g := fun h => toM 1000000 (nkT k) nm D ex m h) (n := h + 1) (fun i => to_nn _) (nkT k - (h + 1))
                                  rw [show h + 1 + (nkT k - (h + 1)) = nkT k by omega] at t3
                                  have t4 : sumN (h + 1) (fun h => toM 1000000 (nkT k) nm D ex m h) = S2 + l := by rw [hS2, hlf]; rfl
                                  rw [← hlf] at t1
                                  omega
                                exact ⟨rvL (by unfold cpM; split <;> omega), (Fr.put (Fr.tr (Fr.tr Fr.rf hF_σ1 (by decide)) hF_σ2 (by decide)) (by decide)), fun q => by omega⟩
                    refine tt_loc [(0, vR 76), (1, vL (S2)), (3, vI (((m : Nat) : Int))), (4, vI (((h : Nat) : Int))), (5, vI (((462 * ((m : Nat) : Int)) + ((h : Nat) : Int)))), (6, vL (0)), (8, vI (((0 : Nat) : Int)))] rfl rfl ⟨rfl, rfl, rfl, rfl, rfl, rfl, lv_to rfl (by omega), trivial⟩ ?_
                    exact lp7_65 _ (0) (0) (Nat.lt_succ_self _) (by omega) (by unfold toW; first | (rw [if_pos (by omega), if_pos h4_15]) | (rw [if_pos (by omega), if_neg h4_15]) | (rw [if_neg (by omega)]; split <;> rfl)) (by omega)
          refine tt_loc [(0, vR 76), (1, vL (0)), (3, vI (((m : Nat) : Int))), (4, vI (((0 : Nat) : Int)))] rfl rfl ⟨rfl, rfl, rfl, lv_to rfl (by omega), trivial⟩ ?_
          exact lp4_2 _ (0) (0) σ1 (Nat.lt_succ_self _) Fr.rf (by omega) rfl (by omega) (fun g hg => absurd hg (Nat.not_lt_zero g)) (fun y hy => rfl)
    refine tt_loc [(0, vR 76), (1, vL (0)), (3, vI (((0 : Nat) : Int)))] rfl rfl ⟨rfl, rfl, lv_to rfl (by omega), trivial⟩ ?_
    exact lp3_1 _ (0) (0) σ (Nat.lt_succ_self _) Fr.rf (by omega) (by first | (rw [if_pos (by omega)]) | (rw [if_neg (by omega), if_pos rfl])) (by omega) (fun q hq => absurd hq (Nat.not_lt_zero q))
  · refine tt_ar rfl ?_
    refine tt_goto ?_
    refine tt_ar rfl ?_
    refine tt_ar rfl ?_
    refine tt_ar rfl ?_
    refine tt_nop ?_
    have lp3_96 : ∀ (μ : Nat) (m : Nat) (S : Int) (σ1 : am_S), nm - m < μ → Fr [102] σ σ1 → (m ≤ nm) → (S = if nm = 0 then 1 else if m = 0 then 0 else sumN (nkT k) (fun h => toM 1000000 (nkT k) nm D ex (m - 1) h)) → (0 ≤ S ∧ S ≤ 1000000000000000) → (∀ q, q < m → ∀ h, h < nkT k → σ1.1 102 (462 * q + h) = toM 1000000 (nkT k) nm D ex q h ∧ toM 1000000 (nkT k) nm D ex q h ≤ 1000000000000000) → TT am_b241 (am_b241.getD 3 []) [(0, vR 76), (1, vL (S)), (3, vI (((m : Nat) : Int)))] [] σ1 (fun r σ' => r = some (vL (cpM 1000000000000001 (wyM 1000000 (nkT k) nm D ex))) ∧ Fr [102] σ σ' ∧ (wyM 1000000 (nkT k) nm D ex ≤ 1000000000000000 → ∀ q, q < nm → ∀ h, h < nkT k → σ'.1 102 (462 * q + h) = toM 1000000 (nkT k) nm D ex q h)) := by
      intro μ
      induction μ with
      | zero => intro m S σ1 hμ; exact absurd hμ (Nat.not_lt_zero _)
      | succ μ ih3 =>
        intro m S σ1 hμ hF_σ1 hm hS hSb hTo
        have hW_σ1 := Fr.wd hF_σ1 hW
        refine tt_ar rfl ?_
        refine tt_ar rfl ?_
        refine tt_getI (x := ((nm : Nat) : Int)) (wo_76 hW_σ1) rfl ((hF_σ1.2 76 (by decide) (25)).trans hR.ln.1) ?_
        refine tt_icge (fun h3_3 => ?_) (fun h3_3 => ?_)
        · refine tt_ar rfl ?_
          refine tt_lret ?_
          have em : m = nm := by omega
          have hwy : S = wyM 1000000 (nkT k) nm D ex := by
            rw [hS]
            by_cases e : nm = 0
            · rw [if_pos e]
              unfold wyM
              rw [if_pos e]
            · rw [if_neg e, if_neg (by omega), em]
              exact to_last (by omega)
          rw [em] at hTo
          exact ⟨rvL (by rw [← hwy]; unfold cpM; rw [if_neg (by omega)]), hF_σ1, fun _ q hq h hh => (hTo q hq h hh).1⟩
        · refine tt_ar rfl ?_
          refine tt_ar rfl ?_
          refine tt_ar rfl ?_
          refine tt_ar rfl ?_
          refine tt_nop ?_
          have lp4_97 : ∀ (μ : Nat) (h : Nat) (S2 : Int) (σ2 : am_S), nkT k - h < μ → Fr [102] σ1 σ2 → (h ≤ nkT k) → (S2 = sumN h (fun h => toM 1000000 (nkT k) nm D ex m h)) → (0 ≤ S2 ∧ S2 ≤ 1000000000000000) → (∀ g, g < h → σ2.1 102 (462 * m + g) = toM 1000000 (nkT k) nm D ex m g ∧ toM 1000000 (nkT k) nm D ex m g ≤ 1000000000000000) → (∀ y, y < 462 * m → σ2.1 102 y = σ1.1 102 y) → TT am_b241 (am_b241.getD 4 []) [(0, vR 76), (1, vL (S2)), (3, vI (((m : Nat) : Int))), (4, vI (((h : Nat) : Int)))] [] σ2 (fun r σ' => r = some (vL (cpM 1000000000000001 (wyM 1000000 (nkT k) nm D ex))) ∧ Fr [102] σ σ' ∧ (wyM 1000000 (nkT k) nm D ex ≤ 1000000000000000 → ∀ q, q < nm → ∀ h, h < nkT k → σ'.1 102 (462 * q + h) = toM 1000000 (nkT k) nm D ex q h)) := by
            intro μ
            induction μ with
            | zero => intro h S2 σ2 hμ; exact absurd hμ (Nat.not_lt_zero _)
            | succ μ ih4 =>
              intro h S2 σ2 hμ hF_σ2 hh hS2 hSb2 hTh hO
              have hW_σ2 := Fr.wd hF_σ2 hW_σ1
              have hTt := hT.fr (W := [102]) (Fr.tr hF_σ1 hF_σ2 (by decide)) (by decide)
              have hRx := hR.fr (W := [102]) (Fr.tr hF_σ1 hF_σ2 (by decide)) (by decide)
              have hsx := (hF_σ2.2 76 (by decide) 31).trans ((hF_σ1.2 76 (by decide) 31).trans hs)
              refine tt_ar rfl ?_
              refine tt_ar rfl ?_
              refine tt_getI (x := ((nkT k : Nat) : Int)) (wo_76 hW_σ2) rfl (((hF_σ2.2 76 (by decide) (27)).trans (hF_σ1.2 76 (by decide) (27))).trans hR.hs.1) ?_
              refine tt_icge (fun h4_3 => ?_) (fun h4_3 => ?_)
              · refine tt_iinc (y := ((m + 1 : Nat) : Int)) rfl (iinc_fit (by omega) (by omega) (by omega)) ?_
                refine tt_goto ?_
                refine tt_loc [(0, vR 76), (1, vL (S2)), (3, vI (((m + 1 : Nat) : Int)))] rfl rfl ⟨rfl, rfl, rfl, trivial⟩ ?_
                exact ih3 (m + 1) (S2) σ2 (by omega) (Fr.tr (Fr.tr Fr.rf hF_σ1 (by decide)) hF_σ2 (by decide)) (by omega) (by rw [if_neg (by omega), if_neg (by omega), Nat.add_sub_cancel, hS2, show h = nkT k by omega]) (by omega) (fun q hq x hx => by by_cases e : q = m; (rw [e]; exact hTh x (by omega)); (rw [hO _ (by omega)]; exact hTo q (by omega) x hx))
              · refine tt_ar rfl ?_
                refine tt_ar rfl ?_
                refine tt_imul (by omega) (by omega) ?_
                refine tt_ar rfl ?_
                refine tt_iadd (by omega) (by omega) ?_
                refine tt_ar rfl ?_
                refine tt_ar rfl ?_
                refine tt_ifne (fun h4_11 => ?_) (fun h4_11 => ?_)
                · refine tt_ar rfl ?_
                  refine tt_nop ?_
                  refine tt_ar rfl ?_
                  refine tt_ar rfl ?_
                  refine tt_ar rfl ?_
                  refine tt_nop ?_
                  have lp7_98 : ∀ (μ : Nat) (g : Nat) (l : Int), nkT k - g < μ → (g ≤ nkT k) → (l = toW k nm D ex m h g) → (0 ≤ l ∧ l ≤ 1000000000000000 * ((g : Nat) : Int) + 1) → TT am_b241 (am_b241.getD 7 []) [(0, vR 76), (1, vL (S2)), (3, vI (((m : Nat) : Int))), (4, vI (((h : Nat) : Int))), (5, vI (((462 * ((m : Nat) : Int)) + ((h : Nat) : Int)))), (6, vL (l)), (8, vI (((g : Nat) : Int)))] [] σ2 (fun r σ' => r = some (vL (cpM 1000000000000001 (wyM 1000000 (nkT k) nm D ex))) ∧ Fr [102] σ σ' ∧ (wyM 1000000 (nkT k) nm D ex ≤ 1000000000000000 → ∀ q, q < nm → ∀ h, h < nkT k → σ'.1 102 (462 * q + h) = toM 1000000 (nkT k) nm D ex q h)) := by
                    intro μ
                    induction μ with
                    | zero => intro g l hμ; exact absurd hμ (Nat.not_lt_zero _)
                    | succ μ ih7 =>
                      intro g l hμ hg hl hlb
                      refine tt_ar rfl ?_
                      refine tt_ar rfl ?_
                      refine tt_getI (x := ((nkT k : Nat) : Int)) (wo_76 hW_σ2) rfl (((hF_σ2.2 76 (by decide) (27)).trans (hF_σ1.2 76 (by decide) (27))).trans hR.hs.1) ?_
                      refine tt_icge (fun h7_3 => ?_) (fun h7_3 => ?_)
                      · have hlf : l = toM 1000000 (nkT k) nm D ex m h := by
                          rw [hl, ← toW_end]
                          unfold toW
                          by_cases e1 : m = 0
                          · rw [if_pos e1, if_pos e1]
                          · rw [if_neg e1, if_neg e1]
                            by_cases e2 : plM 1000000 (nkT k) nm D ex m h = true
                            · first | (rw [if_pos e2, if_pos e2, show g = nkT k by omega]) | exact absurd e2 h7_9
                            · rw [if_neg e2, if_neg e2]
                        refine tt_ar rfl ?_
                        refine tt_getR (wo_76 hW_σ2) rfl (wr_76_41 hW_σ2) ?_
                        refine tt_ar rfl ?_
                        refine tt_ar rfl ?_
                        refine tt_last ((462 * m) + h) (wa_102 hW_σ2) (by omega) (by omega) (by omega) ?_
                        refine tt_ar rfl ?_
                        refine tt_ar rfl ?_
                        refine tt_bL (g := (fun a b => w64 (a + b))) (z := (S2 + l)) rfl (w64_i (by omega) (by omega)) ?_
                        refine tt_ar rfl ?_
                        refine tt_ar rfl ?_
                        refine tt_ar rfl ?_
                        refine tt_lcmp (fun h99 => ?_) (fun h100 => ?_) (fun h101 => ?_)
                        ·
                          refine tt_ifgtF (by decide) ?_
                          refine tt_ar rfl ?_
                          refine tt_ar rfl ?_
                          refine tt_lcmp (fun h102 => ?_) (fun h103 => ?_) (fun h104 => ?_)
                          ·
                            refine tt_ifleT (by decide) ?_
                            refine tt_iinc (y := ((h + 1 : Nat) : Int)) rfl (iinc_fit (by omega) (by omega) (by omega)) ?_
                            refine tt_goto ?_
                            refine tt_loc [(0, vR 76), (1, vL (((S2 + l)))), (3, vI (((m : Nat) : Int))), (4, vI (((h + 1 : Nat) : Int)))] rfl rfl ⟨rfl, lv_toL rfl (by omega), rfl, rfl, trivial⟩ ?_
                            exact ih4 (h + 1) ((S2 + l)) _ (by omega) (Fr.put (Fr.tr Fr.rf hF_σ2 (by decide)) (by decide)) (by omega) (by rw [hS2, hlf]; rfl) (by omega) (fun g hg => by rw [am_set_at]; by_cases e : g = h; (rw [if_pos (by omega), e, hlf]; exact ⟨rfl, by omega⟩); (rw [if_neg (by omega)]; exact hTh g (by omega))) (fun y hy => by rw [am_set_at, if_neg (by omega)]; exact hO y hy)
                          ·
                            refine tt_ifleT (by decide) ?_
                            refine tt_iinc (y := ((h + 1 : Nat) : Int)) rfl (iinc_fit (by omega) (by omega) (by omega)) ?_
                            refine tt_goto ?_
                            refine tt_loc [(0, vR 76), (1, vL (((S2 + l)))), (3, vI (((m : Nat) : Int))), (4, vI (((h + 1 : Nat) : Int)))] rfl rfl ⟨rfl, lv_toL rfl (by omega), rfl, rfl, trivial⟩ ?_
                            exact ih4 (h + 1) ((S2 + l)) _ (by omega) (Fr.put (Fr.tr Fr.rf hF_σ2 (by decide)) (by decide)) (by omega) (by rw [hS2, hlf]; rfl) (by omega) (fun g hg => by rw [am_set_at]; by_cases e : g = h; (rw [if_pos (by omega), e, hlf]; exact ⟨rfl, by omega⟩); (rw [if_neg (by omega)]; exact hTh g (by omega))) (fun y hy => by rw [am_set_at, if_neg (by omega)]; exact hO y hy)
                          ·
                            refine tt_ifleF (by decide) ?_
                            refine tt_nop ?_
                            refine tt_ar rfl ?_
                            refine tt_lret ?_
                            have hwy : 1000000000000000 < wyM 1000000 (nkT k) nm D ex := by
                              have t1 := to_le (hRH.th ht) (m := m) (h := h) (by omega) (by omega)
                              have t2 := to_sum (hRH.th ht) (m := m) (by omega)
                              have t3 := sumN_up (g := fun h => toM 1000000 (nkT k) nm D ex m h) (n := h + 1) (fun i => to_nn _) (nkT k - (h + 1))
                              rw [show h + 1 + (nkT k - (h + 1)) = nkT k by omega] at t3
                              have t4 : sumN (h + 1) (fun h => toM 1000000 (nkT k) nm D ex m h) = S2 + l := by rw [hS2, hlf]; rfl
                              rw [← hlf] at t1
                              omega
                            exact ⟨rvL (by unfold cpM; split <;> omega), (Fr.put (Fr.tr (Fr.tr Fr.rf hF_σ1 (by decide)) hF_σ2 (by decide)) (by decide)), fun q => by omega⟩
                        ·
                          refine tt_ifgtF (by decide) ?_
                          refine tt_ar rfl ?_
                          refine tt_ar rfl ?_
                          refine tt_lcmp (fun h105 => ?_) (fun h106 => ?_) (fun h107 => ?_)
                          ·
                            refine tt_ifleT (by decide) ?_
                            refine tt_iinc (y := ((h + 1 : Nat) : Int)) rfl (iinc_fit (by omega) (by omega) (by omega)) ?_
                            refine tt_goto ?_
                            refine tt_loc [(0, vR 76), (1, vL (((S2 + l)))), (3, vI (((m : Nat) : Int))), (4, vI (((h + 1 : Nat) : Int)))] rfl rfl ⟨rfl, lv_toL rfl (by omega), rfl, rfl, trivial⟩ ?_
                            exact ih4 (h + 1) ((S2 + l)) _ (by omega) (Fr.put (Fr.tr Fr.rf hF_σ2 (by decide)) (by decide)) (by omega) (by rw [hS2, hlf]; rfl) (by omega) (fun g hg => by rw [am_set_at]; by_cases e : g = h; (rw [if_pos (by omega), e, hlf]; exact ⟨rfl, by omega⟩); (rw [if_neg (by omega)]; exact hTh g (by omega))) (fun y hy => by rw [am_set_at, if_neg (by omega)]; exact hO y hy)
                          ·
                            refine tt_ifleT (by decide) ?_
                            refine tt_iinc (y := ((h + 1 : Nat) : Int)) rfl (iinc_fit (by omega) (by omega) (by omega)) ?_
                            refine tt_goto ?_
                            refine tt_loc [(0, vR 76), (1, vL (((S2 + l)))), (3, vI (((m : Nat) : Int))), (4, vI (((h + 1 : Nat) : Int)))] rfl rfl ⟨rfl, lv_toL rfl (by omega), rfl, rfl, trivial⟩ ?_
                            exact ih4 (h + 1) ((S2 + l)) _ (by omega) (Fr.put (Fr.tr Fr.rf hF_σ2 (by decide)) (by decide)) (by omega) (by rw [hS2, hlf]; rfl) (by omega) (fun g hg => by rw [am_set_at]; by_cases e : g = h; (rw [if_pos (by omega), e, hlf]; exact ⟨rfl, by omega⟩); (rw [if_neg (by omega)]; exact hTh g (by omega))) (fun y hy => by rw [am_set_at, if_neg (by omega)]; exact hO y hy)
                          ·
                            refine tt_ifleF (by decide) ?_
                            refine tt_nop ?_
                            refine tt_ar rfl ?_
                            refine tt_lret ?_
                            have hwy : 1000000000000000 < wyM 1000000 (nkT k) nm D ex := by
                              have t1 := to_le (hRH.th ht) (m := m) (h := h) (by omega) (by omega)
                              have t2 := to_sum (hRH.th ht) (m := m) (by omega)
                              have t3 := sumN_up (g := fun h => toM 1000000 (nkT k) nm D ex m h) (n := h + 1) (fun i => to_nn _) (nkT k - (h + 1))
                              rw [show h + 1 + (nkT k - (h + 1)) = nkT k by omega] at t3
                              have t4 : sumN (h + 1) (fun h => toM 1000000 (nkT k) nm D ex m h) = S2 + l := by rw [hS2, hlf]; rfl
                              rw [← hlf] at t1
                              omega
                            exact ⟨rvL (by unfold cpM; split <;> omega), (Fr.put (Fr.tr (Fr.tr Fr.rf hF_σ1 (by decide)) hF_σ2 (by decide)) (by decide)), fun q => by omega⟩
                        ·
                          refine tt_ifgtT (by decide) ?_
                          refine tt_ar rfl ?_
                          refine tt_lret ?_
                          have hwy : 1000000000000000 < wyM 1000000 (nkT k) nm D ex := by
                            have t1 := to_le (hRH.th ht) (m := m) (h := h) (by omega) (by omega)
                            have t2 := to_sum (hRH.th ht) (m := m) (by omega)
                            have t3 := sumN_up (g := fun h => toM 1000000 (nkT k) nm D ex m h) (n := h + 1) (fun i => to_nn _) (nkT k - (h + 1))
                            rw [show h + 1 + (nkT k - (h + 1)) = nkT k by omega] at t3
                            have t4 : sumN (h + 1) (fun h => toM 1000000 (nkT k) nm D ex m h) = S2 + l := by rw [hS2, hlf]; rfl
                            rw [← hlf] at t1
                            omega
                          exact ⟨rvL (by unfold cpM; split <;> omega), (Fr.put (Fr.tr (Fr.tr Fr.rf hF_σ1 (by decide)) hF_σ2 (by decide)) (by decide)), fun q => by omega⟩
                      · refine tt_ar rfl ?_
                        refine tt_ifle (fun h7_5 => ?_) (fun h7_5 => ?_)
                        · have hlf : l = toM 1000000 (nkT k) nm D ex m h := by
                            rw [hl, ← toW_end]
                            unfold toW
                            by_cases e1 : m = 0
                            · rw [if_pos e1, if_pos e1]
                            · rw [if_neg e1, if_neg e1]
                              by_cases e2 : plM 1000000 (nkT k) nm D ex m h = true
                              · first | (rw [if_pos e2, if_pos e2, show g = nkT k by omega]) | exact absurd e2 h7_9
                              · rw [if_neg e2, if_neg e2]
                          refine tt_ar rfl ?_
                          refine tt_getR (wo_76 hW_σ2) rfl (wr_76_41 hW_σ2) ?_
                          refine tt_ar rfl ?_
                          refine tt_ar rfl ?_
                          refine tt_last ((462 * m) + h) (wa_102 hW_σ2) (by omega) (by omega) (by omega) ?_
                          refine tt_ar rfl ?_
                          refine tt_ar rfl ?_
                          refine tt_bL (g := (fun a b => w64 (a + b))) (z := (S2 + l)) rfl (w64_i (by omega) (by omega)) ?_
                          refine tt_ar rfl ?_
                          refine tt_ar rfl ?_
                          refine tt_ar rfl ?_
                          refine tt_lcmp (fun h108 => ?_) (fun h109 => ?_) (fun h110 => ?_)
                          ·
                            refine tt_ifgtF (by decide) ?_
                            refine tt_ar rfl ?_
                            refine tt_ar rfl ?_
                            refine tt_lcmp (fun h111 => ?_) (fun h112 => ?_) (fun h113 => ?_)
                            ·
                              refine tt_ifleT (by decide) ?_
                              refine tt_iinc (y := ((h + 1 : Nat) : Int)) rfl (iinc_fit (by omega) (by omega) (by omega)) ?_
                              refine tt_goto ?_
                              refine tt_loc [(0, vR 76), (1, vL (((S2 + l)))), (3, vI (((m : Nat) : Int))), (4, vI (((h + 1 : Nat) : Int)))] rfl rfl ⟨rfl, lv_toL rfl (by omega), rfl, rfl, trivial⟩ ?_
                              exact ih4 (h + 1) ((S2 + l)) _ (by omega) (Fr.put (Fr.tr Fr.rf hF_σ2 (by decide)) (by decide)) (by omega) (by rw [hS2, hlf]; rfl) (by omega) (fun g hg => by rw [am_set_at]; by_cases e : g = h; (rw [if_pos (by omega), e, hlf]; exact ⟨rfl, by omega⟩); (rw [if_neg (by omega)]; exact hTh g (by omega))) (fun y hy => by rw [am_set_at, if_neg (by omega)]; exact hO y hy)
                            ·
                              refine tt_ifleT (by decide) ?_
                              refine tt_iinc (y := ((h + 1 : Nat) : Int)) rfl (iinc_fit (by omega) (by omega) (by omega)) ?_
                              refine tt_goto ?_
                              refine tt_loc [(0, vR 76), (1, vL (((S2 + l)))), (3, vI (((m : Nat) : Int))), (4, vI (((h + 1 : Nat) : Int)))] rfl rfl ⟨rfl, lv_toL rfl (by omega), rfl, rfl, trivial⟩ ?_
                              exact ih4 (h + 1) ((S2 + l)) _ (by omega) (Fr.put (Fr.tr Fr.rf hF_σ2 (by decide)) (by decide)) (by omega) (by rw [hS2, hlf]; rfl) (by omega) (fun g hg => by rw [am_set_at]; by_cases e : g = h; (rw [if_pos (by omega), e, hlf]; exact ⟨rfl, by omega⟩); (rw [if_neg (by omega)]; exact hTh g (by omega))) (fun y hy => by rw [am_set_at, if_neg (by omega)]; exact hO y hy)
                            ·
                              refine tt_ifleF (by decide) ?_
                              refine tt_nop ?_
                              refine tt_ar rfl ?_
                              refine tt_lret ?_
                              have hwy : 1000000000000000 < wyM 1000000 (nkT k) nm D ex := by
                                have t1 := to_le (hRH.th ht) (m := m) (h := h) (by omega) (by omega)
                                have t2 := to_sum (hRH.th ht) (m := m) (by omega)
                                have t3 := sumN_up (g := fun h => toM 1000000 (nkT k) nm D ex m h) (n := h + 1) (fun i => to_nn _) (nkT k - (h + 1))
                                rw [show h + 1 + (nkT k - (h + 1)) = nkT k by omega] at t3
                                have t4 : sumN (h + 1) (fun h => toM 1000000 (nkT k) nm D ex m h) = S2 + l := by rw [hS2, hlf]; rfl
                                rw [← hlf] at t1
                                omega
                              exact ⟨rvL (by unfold cpM; split <;> omega), (Fr.put (Fr.tr (Fr.tr Fr.rf hF_σ1 (by decide)) hF_σ2 (by decide)) (by decide)), fun q => by omega⟩
                          ·
                            refine tt_ifgtF (by decide) ?_
                            refine tt_ar rfl ?_
                            refine tt_ar rfl ?_
                            refine tt_lcmp (fun h114 => ?_) (fun h115 => ?_) (fun h116 => ?_)
                            ·
                              refine tt_ifleT (by decide) ?_
                              refine tt_iinc (y := ((h + 1 : Nat) : Int)) rfl (iinc_fit (by omega) (by omega) (by omega)) ?_
                              refine tt_goto ?_
                              refine tt_loc [(0, vR 76), (1, vL (((S2 + l)))), (3, vI (((m : Nat) : Int))), (4, vI (((h + 1 : Nat) : Int)))] rfl rfl ⟨rfl, lv_toL rfl (by omega), rfl, rfl, trivial⟩ ?_
                              exact ih4 (h + 1) ((S2 + l)) _ (by omega) (Fr.put (Fr.tr Fr.rf hF_σ2 (by decide)) (by decide)) (by omega) (by rw [hS2, hlf]; rfl) (by omega) (fun g hg => by rw [am_set_at]; by_cases e : g = h; (rw [if_pos (by omega), e, hlf]; exact ⟨rfl, by omega⟩); (rw [if_neg (by omega)]; exact hTh g (by omega))) (fun y hy => by rw [am_set_at, if_neg (by omega)]; exact hO y hy)
                            ·
                              refine tt_ifleT (by decide) ?_
                              refine tt_iinc (y := ((h + 1 : Nat) : Int)) rfl (iinc_fit (by omega) (by omega) (by omega)) ?_
                              refine tt_goto ?_
                              refine tt_loc [(0, vR 76), (1, vL (((S2 + l)))), (3, vI (((m : Nat) : Int))), (4, vI (((h + 1 : Nat) : Int)))] rfl rfl ⟨rfl, lv_toL rfl (by omega), rfl, rfl, trivial⟩ ?_
                              exact ih4 (h + 1) ((S2 + l)) _ (by omega) (Fr.put (Fr.tr Fr.rf hF_σ2 (by decide)) (by decide)) (by omega) (by rw [hS2, hlf]; rfl) (by omega) (fun g hg => by rw [am_set_at]; by_cases e : g = h; (rw [if_pos (by omega), e, hlf]; exact ⟨rfl, by omega⟩); (rw [if_neg (by omega)]; exact hTh g (by omega))) (fun y hy => by rw [am_set_at, if_neg (by omega)]; exact hO y hy)
                            ·
                              refine tt_ifleF (by decide) ?_
                              refine tt_nop ?_
                              refine tt_ar rfl ?_
                              refine tt_lret ?_
                              have hwy : 1000000000000000 < wyM 1000000 (nkT k) nm D ex := by
                                have t1 := to_le (hRH.th ht) (m := m) (h := h) (by omega) (by omega)
                                have t2 := to_sum (hRH.th ht) (m := m) (by omega)
                                have t3 := sumN_up (g := fun h => toM 1000000 (nkT k) nm D ex m h) (n := h + 1) (fun i => to_nn _) (nkT k - (h + 1))
                                rw [show h + 1 + (nkT k - (h + 1)) = nkT k by omega] at t3
                                have t4 : sumN (h + 1) (fun h => toM 1000000 (nkT k) nm D ex m h) = S2 + l := by rw [hS2, hlf]; rfl
                                rw [← hlf] at t1
                                omega
                              exact ⟨rvL (by unfold cpM; split <;> omega), (Fr.put (Fr.tr (Fr.tr Fr.rf hF_σ1 (by decide)) hF_σ2 (by decide)) (by decide)), fun q => by omega⟩
                          ·
                            refine tt_ifgtT (by decide) ?_
                            refine tt_ar rfl ?_
                            refine tt_lret ?_
                            have hwy : 1000000000000000 < wyM 1000000 (nkT k) nm D ex := by
                              have t1 := to_le (hRH.th ht) (m := m) (h := h) (by omega) (by omega)
                              have t2 := to_sum (hRH.th ht) (m := m) (by omega)
                              have t3 := sumN_up (g := fun h => toM 1000000 (nkT k) nm D ex m h) (n := h + 1) (fun i => to_nn _) (nkT k - (h + 1))
                              rw [show h + 1 + (nkT k - (h + 1)) = nkT k by omega] at t3
                              have t4 : sumN (h + 1) (fun h => toM 1000000 (nkT k) nm D ex m h) = S2 + l := by rw [hS2, hlf]; rfl
                              rw [← hlf] at t1
                              omega
                            exact ⟨rvL (by unfold cpM; split <;> omega), (Fr.put (Fr.tr (Fr.tr Fr.rf hF_σ1 (by decide)) hF_σ2 (by decide)) (by decide)), fun q => by omega⟩
                        · refine tt_ar rfl ?_
                          refine tt_ar rfl ?_
                          refine tt_ar rfl ?_
                          refine tt_cv3 3 rfl (wo_76 hW_σ2) (c239 A σ2 k nm ns D hA hW_σ2 hRx ex hex hsx hTt m h (by omega) (by omega) ht) (kb (fun h7_9 => ?_) (fun h7_9 => ?_))
                          · refine tt_ifeqF (by decide) ?_
                            obtain ⟨m1, hm1⟩ : ∃ m1, m = m1 + 1 := ⟨m - 1, by omega⟩
                            have hfm := fo_mi (n := nm) hRH (by omega) (show m1 + 1 < nm by omega) (show g < nkT k by omega) (show h < nkT k by omega) ht (by rw [← hm1]; exact h7_9)
                            rw [← hm1, show m1 = m - 1 by omega] at hfm
                            have hb1 := ahN_bd (F := 1000000) (N := nkT k) (D := D) (ex := ex) (by omega) (by omega) hD0 (fun m h _ => hx0 m h) (m - 1) (show g < nkT k by omega)
                            have hmc1 := mi_c (ahN 1000000 (nkT k) D ex (m - 1) g)
                            have hbe := mi_c (ex m h)
                            have hbe0 := hx0 m h
                            have htb := (hTo (m - 1) (by omega) g (by omega)).2
                            have htn : 0 ≤ toM 1000000 (nkT k) nm D ex (m - 1) g := to_nn _
                            refine tt_ar rfl ?_
                            refine tt_ar rfl ?_
                            refine tt_ar rfl ?_
                            refine tt_isub (by omega) (by omega) ?_
                            refine tt_imul (by omega) (by omega) ?_
                            refine tt_ar rfl ?_
                            refine tt_iadd (by omega) (by omega) ?_
                            refine tt_ar rfl ?_
                            refine tt_ar rfl ?_
                            refine tt_ar rfl ?_
                            refine tt_getR (wo_76 hW_σ2) rfl (wr_76_41 hW_σ2) ?_
                            refine tt_ar rfl ?_
                            refine tt_lald (462 * (m - 1) + g) (x := toM 1000000 (nkT k) nm D ex (m - 1) g) (wa_102 hW_σ2) (by omega) (by omega) ((hO (462 * (m - 1) + g) (by omega)).trans (hTo (m - 1) (by omega) g (by omega)).1) ?_
                            refine tt_ar rfl ?_
                            refine tt_lcmp (fun h117 => ?_) (fun h118 => ?_) (fun h119 => ?_)
                            ·
                              refine tt_ifleT (by decide) ?_
                              refine tt_ar rfl ?_
                              refine tt_nop ?_
                              refine tt_bL (g := (fun a b => w64 (a + b))) (z := l) rfl (w64_fit (by omega) (by omega) (by omega)) ?_
                              refine tt_ar rfl ?_
                              refine tt_iinc (y := ((g + 1 : Nat) : Int)) rfl (iinc_fit (by omega) (by omega) (by omega)) ?_
                              refine tt_goto ?_
                              refine tt_loc [(0, vR 76), (1, vL (S2)), (3, vI (((m : Nat) : Int))), (4, vI (((h : Nat) : Int))), (5, vI (((462 * ((m : Nat) : Int)) + ((h : Nat) : Int)))), (6, vL (l)), (8, vI (((g + 1 : Nat) : Int)))] rfl rfl ⟨rfl, rfl, rfl, rfl, rfl, rfl, rfl, trivial⟩ ?_
                              exact ih7 (g + 1) (l) (by omega) (by omega) (by unfold toW at hl ⊢; rw [if_neg (by omega), if_pos h7_9] at hl ⊢; show _ = sumN g (fun g => if foM 1000000 (nkT k) D ex (m - 1) g h = true then toM 1000000 (nkT k) nm D ex (m - 1) g else 0) + (if foM 1000000 (nkT k) D ex (m - 1) g h = true then toM 1000000 (nkT k) nm D ex (m - 1) g else 0); rw [← hl]; first | (split <;> omega) | (rw [if_pos (hfm.mp (by omega))]) | (rw [if_neg (fun q => by have := hfm.mpr q; omega)]; omega)) (by omega)
                            ·
                              refine tt_ifleT (by decide) ?_
                              refine tt_ar rfl ?_
                              refine tt_nop ?_
                              refine tt_bL (g := (fun a b => w64 (a + b))) (z := l) rfl (w64_fit (by omega) (by omega) (by omega)) ?_
                              refine tt_ar rfl ?_
                              refine tt_iinc (y := ((g + 1 : Nat) : Int)) rfl (iinc_fit (by omega) (by omega) (by omega)) ?_
                              refine tt_goto ?_
                              refine tt_loc [(0, vR 76), (1, vL (S2)), (3, vI (((m : Nat) : Int))), (4, vI (((h : Nat) : Int))), (5, vI (((462 * ((m : Nat) : Int)) + ((h : Nat) : Int)))), (6, vL (l)), (8, vI (((g + 1 : Nat) : Int)))] rfl rfl ⟨rfl, rfl, rfl, rfl, rfl, rfl, rfl, trivial⟩ ?_
                              exact ih7 (g + 1) (l) (by omega) (by omega) (by unfold toW at hl ⊢; rw [if_neg (by omega), if_pos h7_9] at hl ⊢; show _ = sumN g (fun g => if foM 1000000 (nkT k) D ex (m - 1) g h = true then toM 1000000 (nkT k) nm D ex (m - 1) g else 0) + (if foM 1000000 (nkT k) D ex (m - 1) g h = true then toM 1000000 (nkT k) nm D ex (m - 1) g else 0); rw [← hl]; first | (split <;> omega) | (rw [if_pos (hfm.mp (by omega))]) | (rw [if_neg (fun q => by have := hfm.mpr q; omega)]; omega)) (by omega)
                            ·
                              refine tt_ifleF (by decide) ?_
                              refine tt_ar rfl ?_
                              refine tt_getR (wo_76 hW_σ2) rfl (wr_76_37 hW_σ2) ?_
                              refine tt_ar rfl ?_
                              refine tt_iald (462 * (m - 1) + g) (x := miN 100000 (ahN 1000000 (nkT k) D ex (m - 1) g)) (wa_99 hW_σ2) (by omega) (by omega) (((hF_σ2.2 99 (by decide) (462 * (m - 1) + g)).trans (hF_σ1.2 99 (by decide) (462 * (m - 1) + g))).trans ((hT.1 (m - 1) (by omega) g (by omega)).2.1)) ?_
                              refine tt_ar rfl ?_
                              refine tt_ar rfl ?_
                              refine tt_ar rfl ?_
                              have hd9 := hDx g h (by omega) (by omega)
                              refine tt_cv3 3 rfl (wo_76 hW_σ2) (c233 A σ2 k nm ns D hA hW_σ2 hRx hsx g h (by omega) (by omega)) (kp ?_)
                              refine tt_iadd (by omega) (by omega) ?_
                              refine tt_ar rfl ?_
                              refine tt_getR (wo_76 hW_σ2) rfl (wr_76_36 hW_σ2) ?_
                              refine tt_ar rfl ?_
                              refine tt_iald ((462 * m) + h) (x := miN 100000 (ex m h)) (wa_98 hW_σ2) (by omega) (by omega) (((hF_σ2.2 98 (by decide) ((462 * m) + h)).trans (hF_σ1.2 98 (by decide) ((462 * m) + h))).trans ((hT.1 m (by omega) h (by omega)).1)) ?_
                              refine tt_iadd (by omega) (by omega) ?_
                              refine tt_ar rfl ?_
                              refine tt_getR (wo_76 hW_σ2) rfl (wr_76_37 hW_σ2) ?_
                              refine tt_ar rfl ?_
                              refine tt_iald ((462 * m) + h) (x := miN 100000 (ahN 1000000 (nkT k) D ex m h)) (wa_99 hW_σ2) (by omega) (by omega) (((hF_σ2.2 99 (by decide) ((462 * m) + h)).trans (hF_σ1.2 99 (by decide) ((462 * m) + h))).trans ((hT.1 m (by omega) h (by omega)).2.1)) ?_
                              refine tt_icne (fun h7_45 => ?_) (fun h7_45 => ?_)
                              · refine tt_ar rfl ?_
                                refine tt_nop ?_
                                refine tt_bL (g := (fun a b => w64 (a + b))) (z := l) rfl (w64_fit (by omega) (by omega) (by omega)) ?_
                                refine tt_ar rfl ?_
                                refine tt_iinc (y := ((g + 1 : Nat) : Int)) rfl (iinc_fit (by omega) (by omega) (by omega)) ?_
                                refine tt_goto ?_
                                refine tt_loc [(0, vR 76), (1, vL (S2)), (3, vI (((m : Nat) : Int))), (4, vI (((h : Nat) : Int))), (5, vI (((462 * ((m : Nat) : Int)) + ((h : Nat) : Int)))), (6, vL (l)), (8, vI (((g + 1 : Nat) : Int)))] rfl rfl ⟨rfl, rfl, rfl, rfl, rfl, rfl, rfl, trivial⟩ ?_
                                exact ih7 (g + 1) (l) (by omega) (by omega) (by unfold toW at hl ⊢; rw [if_neg (by omega), if_pos h7_9] at hl ⊢; show _ = sumN g (fun g => if foM 1000000 (nkT k) D ex (m - 1) g h = true then toM 1000000 (nkT k) nm D ex (m - 1) g else 0) + (if foM 1000000 (nkT k) D ex (m - 1) g h = true then toM 1000000 (nkT k) nm D ex (m - 1) g else 0); rw [← hl]; first | (split <;> omega) | (rw [if_pos (hfm.mp (by omega))]) | (rw [if_neg (fun q => by have := hfm.mpr q; omega)]; omega)) (by omega)
                              · refine tt_ar rfl ?_
                                refine tt_getR (wo_76 hW_σ2) rfl (wr_76_41 hW_σ2) ?_
                                refine tt_ar rfl ?_
                                refine tt_lald (462 * (m - 1) + g) (x := toM 1000000 (nkT k) nm D ex (m - 1) g) (wa_102 hW_σ2) (by omega) (by omega) ((hO (462 * (m - 1) + g) (by omega)).trans (hTo (m - 1) (by omega) g (by omega)).1) ?_
                                refine tt_goto ?_
                                refine tt_bL (g := (fun a b => w64 (a + b))) (z := (l + toM 1000000 (nkT k) nm D ex (m - 1) g)) rfl (w64_i (by omega) (by omega)) ?_
                                refine tt_ar rfl ?_
                                refine tt_iinc (y := ((g + 1 : Nat) : Int)) rfl (iinc_fit (by omega) (by omega) (by omega)) ?_
                                refine tt_goto ?_
                                refine tt_loc [(0, vR 76), (1, vL (S2)), (3, vI (((m : Nat) : Int))), (4, vI (((h : Nat) : Int))), (5, vI (((462 * ((m : Nat) : Int)) + ((h : Nat) : Int)))), (6, vL (((l + toM 1000000 (nkT k) nm D ex (m - 1) g)))), (8, vI (((g + 1 : Nat) : Int)))] rfl rfl ⟨rfl, rfl, rfl, rfl, rfl, lv_toL rfl (by omega), rfl, trivial⟩ ?_
                                exact ih7 (g + 1) ((l + toM 1000000 (nkT k) nm D ex (m - 1) g)) (by omega) (by omega) (by unfold toW at hl ⊢; rw [if_neg (by omega), if_pos h7_9] at hl ⊢; show _ = sumN g (fun g => if foM 1000000 (nkT k) D ex (m - 1) g h = true then toM 1000000 (nkT k) nm D ex (m - 1) g else 0) + (if foM 1000000 (nkT k) D ex (m - 1) g h = true then toM 1000000 (nkT k) nm D ex (m - 1) g else 0); rw [← hl]; first | (split <;> omega) | (rw [if_pos (hfm.mp (by omega))]) | (rw [if_neg (fun q => by have := hfm.mpr q; omega)]; omega)) (by omega)
                          · refine tt_ifeqT (by decide) ?_
                            have hlf : l = toM 1000000 (nkT k) nm D ex m h := by
                              rw [hl, ← toW_end]
                              unfold toW
                              by_cases e1 : m = 0
                              · rw [if_pos e1, if_pos e1]
                              · rw [if_neg e1, if_neg e1]
                                by_cases e2 : plM 1000000 (nkT k) nm D ex m h = true
                                · first | (rw [if_pos e2, if_pos e2, show g = nkT k by omega]) | exact absurd e2 h7_9
                                · rw [if_neg e2, if_neg e2]
                            refine tt_ar rfl ?_
                            refine tt_getR (wo_76 hW_σ2) rfl (wr_76_41 hW_σ2) ?_
                            refine tt_ar rfl ?_
                            refine tt_ar rfl ?_
                            refine tt_last ((462 * m) + h) (wa_102 hW_σ2) (by omega) (by omega) (by omega) ?_
                            refine tt_ar rfl ?_
                            refine tt_ar rfl ?_
                            refine tt_bL (g := (fun a b => w64 (a + b))) (z := (S2 + l)) rfl (w64_i (by omega) (by omega)) ?_
                            refine tt_ar rfl ?_
                            refine tt_ar rfl ?_
                            refine tt_ar rfl ?_
                            refine tt_lcmp (fun h120 => ?_) (fun h121 => ?_) (fun h122 => ?_)
                            ·
                              refine tt_ifgtF (by decide) ?_
                              refine tt_ar rfl ?_
                              refine tt_ar rfl ?_
                              refine tt_lcmp (fun h123 => ?_) (fun h124 => ?_) (fun h125 => ?_)
                              ·
                                refine tt_ifleT (by decide) ?_
                                refine tt_iinc (y := ((h + 1 : Nat) : Int)) rfl (iinc_fit (by omega) (by omega) (by omega)) ?_
                                refine tt_goto ?_
                                refine tt_loc [(0, vR 76), (1, vL (((S2 + l)))), (3, vI (((m : Nat) : Int))), (4, vI (((h + 1 : Nat) : Int)))] rfl rfl ⟨rfl, lv_toL rfl (by omega), rfl, rfl, trivial⟩ ?_
                                exact ih4 (h + 1) ((S2 + l)) _ (by omega) (Fr.put (Fr.tr Fr.rf hF_σ2 (by decide)) (by decide)) (by omega) (by rw [hS2, hlf]; rfl) (by omega) (fun g hg => by rw [am_set_at]; by_cases e : g = h; (rw [if_pos (by omega), e, hlf]; exact ⟨rfl, by omega⟩); (rw [if_neg (by omega)]; exact hTh g (by omega))) (fun y hy => by rw [am_set_at, if_neg (by omega)]; exact hO y hy)
                              ·
                                refine tt_ifleT (by decide) ?_
                                refine tt_iinc (y := ((h + 1 : Nat) : Int)) rfl (iinc_fit (by omega) (by omega) (by omega)) ?_
                                refine tt_goto ?_
                                refine tt_loc [(0, vR 76), (1, vL (((S2 + l)))), (3, vI (((m : Nat) : Int))), (4, vI (((h + 1 : Nat) : Int)))] rfl rfl ⟨rfl, lv_toL rfl (by omega), rfl, rfl, trivial⟩ ?_
                                exact ih4 (h + 1) ((S2 + l)) _ (by omega) (Fr.put (Fr.tr Fr.rf hF_σ2 (by decide)) (by decide)) (by omega) (by rw [hS2, hlf]; rfl) (by omega) (fun g hg => by rw [am_set_at]; by_cases e : g = h; (rw [if_pos (by omega), e, hlf]; exact ⟨rfl, by omega⟩); (rw [if_neg (by omega)]; exact hTh g (by omega))) (fun y hy => by rw [am_set_at, if_neg (by omega)]; exact hO y hy)
                              ·
                                refine tt_ifleF (by decide) ?_
                                refine tt_nop ?_
                                refine tt_ar rfl ?_
                                refine tt_lret ?_
                                have hwy : 1000000000000000 < wyM 1000000 (nkT k) nm D ex := by
                                  have t1 := to_le (hRH.th ht) (m := m) (h := h) (by omega) (by omega)
                                  have t2 := to_sum (hRH.th ht) (m := m) (by omega)
                                  have t3 := sumN_up (g := fun h => toM 1000000 (nkT k) nm D ex m h) (n := h + 1) (fun i => to_nn _) (nkT k - (h + 1))
                                  rw [show h + 1 + (nkT k - (h + 1)) = nkT k by omega] at t3
                                  have t4 : sumN (h + 1) (fun h => toM 1000000 (nkT k) nm D ex m h) = S2 + l := by rw [hS2, hlf]; rfl
                                  rw [← hlf] at t1
                                  omega
                                exact ⟨rvL (by unfold cpM; split <;> omega), (Fr.put (Fr.tr (Fr.tr Fr.rf hF_σ1 (by decide)) hF_σ2 (by decide)) (by decide)), fun q => by omega⟩
                            ·
                              refine tt_ifgtF (by decide) ?_
                              refine tt_ar rfl ?_
                              refine tt_ar rfl ?_
                              refine tt_lcmp (fun h126 => ?_) (fun h127 => ?_) (fun h128 => ?_)
                              ·
                                refine tt_ifleT (by decide) ?_
                                refine tt_iinc (y := ((h + 1 : Nat) : Int)) rfl (iinc_fit (by omega) (by omega) (by omega)) ?_
                                refine tt_goto ?_
                                refine tt_loc [(0, vR 76), (1, vL (((S2 + l)))), (3, vI (((m : Nat) : Int))), (4, vI (((h + 1 : Nat) : Int)))] rfl rfl ⟨rfl, lv_toL rfl (by omega), rfl, rfl, trivial⟩ ?_
                                exact ih4 (h + 1) ((S2 + l)) _ (by omega) (Fr.put (Fr.tr Fr.rf hF_σ2 (by decide)) (by decide)) (by omega) (by rw [hS2, hlf]; rfl) (by omega) (fun g hg => by rw [am_set_at]; by_cases e : g = h; (rw [if_pos (by omega), e, hlf]; exact ⟨rfl, by omega⟩); (rw [if_neg (by omega)]; exact hTh g (by omega))) (fun y hy => by rw [am_set_at, if_neg (by omega)]; exact hO y hy)
                              ·
                                refine tt_ifleT (by decide) ?_
                                refine tt_iinc (y := ((h + 1 : Nat) : Int)) rfl (iinc_fit (by omega) (by omega) (by omega)) ?_
                                refine tt_goto ?_
                                refine tt_loc [(0, vR 76), (1, vL (((S2 + l)))), (3, vI (((m : Nat) : Int))), (4, vI (((h + 1 : Nat) : Int)))] rfl rfl ⟨rfl, lv_toL rfl (by omega), rfl, rfl, trivial⟩ ?_
                                exact ih4 (h + 1) ((S2 + l)) _ (by omega) (Fr.put (Fr.tr Fr.rf hF_σ2 (by decide)) (by decide)) (by omega) (by rw [hS2, hlf]; rfl) (by omega) (fun g hg => by rw [am_set_at]; by_cases e : g = h; (rw [if_pos (by omega), e, hlf]; exact ⟨rfl, by omega⟩); (rw [if_neg (by omega)]; exact hTh g (by omega))) (fun y hy => by rw [am_set_at, if_neg (by omega)]; exact hO y hy)
                              ·
                                refine tt_ifleF (by decide) ?_
                                refine tt_nop ?_
                                refine tt_ar rfl ?_
                                refine tt_lret ?_
                                have hwy : 1000000000000000 < wyM 1000000 (nkT k) nm D ex := by
                                  have t1 := to_le (hRH.th ht) (m := m) (h := h) (by omega) (by omega)
                                  have t2 := to_sum (hRH.th ht) (m := m) (by omega)
                                  have t3 := sumN_up (g := fun h => toM 1000000 (nkT k) nm D ex m h) (n := h + 1) (fun i => to_nn _) (nkT k - (h + 1))
                                  rw [show h + 1 + (nkT k - (h + 1)) = nkT k by omega] at t3
                                  have t4 : sumN (h + 1) (fun h => toM 1000000 (nkT k) nm D ex m h) = S2 + l := by rw [hS2, hlf]; rfl
                                  rw [← hlf] at t1
                                  omega
                                exact ⟨rvL (by unfold cpM; split <;> omega), (Fr.put (Fr.tr (Fr.tr Fr.rf hF_σ1 (by decide)) hF_σ2 (by decide)) (by decide)), fun q => by omega⟩
                            ·
                              refine tt_ifgtT (by decide) ?_
                              refine tt_ar rfl ?_
                              refine tt_lret ?_
                              have hwy : 1000000000000000 < wyM 1000000 (nkT k) nm D ex := by
                                have t1 := to_le (hRH.th ht) (m := m) (h := h) (by omega) (by omega)
                                have t2 := to_sum (hRH.th ht) (m := m) (by omega)
                                have t3 := sumN_up (g := fun h => toM 1000000 (nkT k) nm D ex m h) (n := h + 1) (fun i => to_nn _) (nkT k - (h + 1))
                                rw [show h + 1 + (nkT k - (h + 1)) = nkT k by omega] at t3
                                have t4 : sumN (h + 1) (fun h => toM 1000000 (nkT k) nm D ex m h) = S2 + l := by rw [hS2, hlf]; rfl
                                rw [← hlf] at t1
                                omega
                              exact ⟨rvL (by unfold cpM; split <;> omega), (Fr.put (Fr.tr (Fr.tr Fr.rf hF_σ1 (by decide)) hF_σ2 (by decide)) (by decide)), fun q => by omega⟩
                  refine tt_loc [(0, vR 76), (1, vL (S2)), (3, vI (((m : Nat) : Int))), (4, vI (((h : Nat) : Int))), (5, vI (((462 * ((m : Nat) : Int)) + ((h : Nat) : Int)))), (6, vL (0)), (8, vI (((0 : Nat) : Int)))] rfl rfl ⟨rfl, rfl, rfl, rfl, rfl, rfl, lv_to rfl (by omega), trivial⟩ ?_
                  exact lp7_98 _ (0) (0) (Nat.lt_succ_self _) (by omega) (by unfold toW; first | (rw [if_pos (by omega), if_pos h4_15]) | (rw [if_pos (by omega), if_neg h4_15]) | (rw [if_neg (by omega)]; split <;> rfl)) (by omega)
                · refine tt_ar rfl ?_
                  refine tt_ar rfl ?_
                  refine tt_ar rfl ?_
                  refine tt_cv3 3 rfl (wo_76 hW_σ2) (c239 A σ2 k nm ns D hA hW_σ2 hRx ex hex hsx hTt 0 h (by omega) (by omega) ht) (kb (fun h4_15 => ?_) (fun h4_15 => ?_))
                  · refine tt_ifeqF (by decide) ?_
                    refine tt_ar rfl ?_
                    refine tt_goto ?_
                    refine tt_ar rfl ?_
                    refine tt_ar rfl ?_
                    refine tt_ar rfl ?_
                    refine tt_nop ?_
                    have lp7_129 : ∀ (μ : Nat) (g : Nat) (l : Int), nkT k - g < μ → (g ≤ nkT k) → (l = toW k nm D ex m h g) → (0 ≤ l ∧ l ≤ 1000000000000000 * ((g : Nat) : Int) + 1) → TT am_b241 (am_b241.getD 7 []) [(0, vR 76), (1, vL (S2)), (3, vI (((m : Nat) : Int))), (4, vI (((h : Nat) : Int))), (5, vI (((462 * ((m : Nat) : Int)) + ((h : Nat) : Int)))), (6, vL (l)), (8, vI (((g : Nat) : Int)))] [] σ2 (fun r σ' => r = some (vL (cpM 1000000000000001 (wyM 1000000 (nkT k) nm D ex))) ∧ Fr [102] σ σ' ∧ (wyM 1000000 (nkT k) nm D ex ≤ 1000000000000000 → ∀ q, q < nm → ∀ h, h < nkT k → σ'.1 102 (462 * q + h) = toM 1000000 (nkT k) nm D ex q h)) := by
                      intro μ
                      induction μ with
                      | zero => intro g l hμ; exact absurd hμ (Nat.not_lt_zero _)
                      | succ μ ih7 =>
                        intro g l hμ hg hl hlb
                        refine tt_ar rfl ?_
                        refine tt_ar rfl ?_
                        refine tt_getI (x := ((nkT k : Nat) : Int)) (wo_76 hW_σ2) rfl (((hF_σ2.2 76 (by decide) (27)).trans (hF_σ1.2 76 (by decide) (27))).trans hR.hs.1) ?_
                        refine tt_icge (fun h7_3 => ?_) (fun h7_3 => ?_)
                        · have hlf : l = toM 1000000 (nkT k) nm D ex m h := by
                            rw [hl, ← toW_end]
                            unfold toW
                            by_cases e1 : m = 0
                            · rw [if_pos e1, if_pos e1]
                            · rw [if_neg e1, if_neg e1]
                              by_cases e2 : plM 1000000 (nkT k) nm D ex m h = true
                              · first | (rw [if_pos e2, if_pos e2, show g = nkT k by omega]) | exact absurd e2 h7_9
                              · rw [if_neg e2, if_neg e2]
                          refine tt_ar rfl ?_
                          refine tt_getR (wo_76 hW_σ2) rfl (wr_76_41 hW_σ2) ?_
                          refine tt_ar rfl ?_
                          refine tt_ar rfl ?_
                          refine tt_last ((462 * m) + h) (wa_102 hW_σ2) (by omega) (by omega) (by omega) ?_
                          refine tt_ar rfl ?_
                          refine tt_ar rfl ?_
                          refine tt_bL (g := (fun a b => w64 (a + b))) (z := (S2 + l)) rfl (w64_i (by omega) (by omega)) ?_
                          refine tt_ar rfl ?_
                          refine tt_ar rfl ?_
                          refine tt_ar rfl ?_
                          refine tt_lcmp (fun h130 => ?_) (fun h131 => ?_) (fun h132 => ?_)
                          ·
                            refine tt_ifgtF (by decide) ?_
                            refine tt_ar rfl ?_
                            refine tt_ar rfl ?_
                            refine tt_lcmp (fun h133 => ?_) (fun h134 => ?_) (fun h135 => ?_)
                            ·
                              refine tt_ifleT (by decide) ?_
                              refine tt_iinc (y := ((h + 1 : Nat) : Int)) rfl (iinc_fit (by omega) (by omega) (by omega)) ?_
                              refine tt_goto ?_
                              refine tt_loc [(0, vR 76), (1, vL (((S2 + l)))), (3, vI (((m : Nat) : Int))), (4, vI (((h + 1 : Nat) : Int)))] rfl rfl ⟨rfl, lv_toL rfl (by omega), rfl, rfl, trivial⟩ ?_
                              exact ih4 (h + 1) ((S2 + l)) _ (by omega) (Fr.put (Fr.tr Fr.rf hF_σ2 (by decide)) (by decide)) (by omega) (by rw [hS2, hlf]; rfl) (by omega) (fun g hg => by rw [am_set_at]; by_cases e : g = h; (rw [if_pos (by omega), e, hlf]; exact ⟨rfl, by omega⟩); (rw [if_neg (by omega)]; exact hTh g (by omega))) (fun y hy => by rw [am_set_at, if_neg (by omega)]; exact hO y hy)
                            ·
                              refine tt_ifleT (by decide) ?_
                              refine tt_iinc (y := ((h + 1 : Nat) : Int)) rfl (iinc_fit (by omega) (by omega) (by omega)) ?_
                              refine tt_goto ?_
                              refine tt_loc [(0, vR 76), (1, vL (((S2 + l)))), (3, vI (((m : Nat) : Int))), (4, vI (((h + 1 : Nat) : Int)))] rfl rfl ⟨rfl, lv_toL rfl (by omega), rfl, rfl, trivial⟩ ?_
                              exact ih4 (h + 1) ((S2 + l)) _ (by omega) (Fr.put (Fr.tr Fr.rf hF_σ2 (by decide)) (by decide)) (by omega) (by rw [hS2, hlf]; rfl) (by omega) (fun g hg => by rw [am_set_at]; by_cases e : g = h; (rw [if_pos (by omega), e, hlf]; exact ⟨rfl, by omega⟩); (rw [if_neg (by omega)]; exact hTh g (by omega))) (fun y hy => by rw [am_set_at, if_neg (by omega)]; exact hO y hy)
                            ·
                              refine tt_ifleF (by decide) ?_
                              refine tt_nop ?_
                              refine tt_ar rfl ?_
                              refine tt_lret ?_
                              have hwy : 1000000000000000 < wyM 1000000 (nkT k) nm D ex := by
                                have t1 := to_le (hRH.th ht) (m := m) (h := h) (by omega) (by omega)
                                have t2 := to_sum (hRH.th ht) (m := m) (by omega)
                                have t3 := sumN_up (g := fun h => toM 1000000 (nkT k) nm D ex m h) (n := h + 1) (fun i => to_nn _) (nkT k - (h + 1))
                                rw [show h + 1 + (nkT k - (h + 1)) = nkT k by omega] at t3
                                have t4 : sumN (h + 1) (fun h => toM 1000000 (nkT k) nm D ex m h) = S2 + l := by rw [hS2, hlf]; rfl
                                rw [← hlf] at t1
                                omega
                              exact ⟨rvL (by unfold cpM; split <;> omega), (Fr.put (Fr.tr (Fr.tr Fr.rf hF_σ1 (by decide)) hF_σ2 (by decide)) (by decide)), fun q => by omega⟩
                          ·
                            refine tt_ifgtF (by decide) ?_
                            refine tt_ar rfl ?_
                            refine tt_ar rfl ?_
                            refine tt_lcmp (fun h136 => ?_) (fun h137 => ?_) (fun h138 => ?_)
                            ·
                              refine tt_ifleT (by decide) ?_
                              refine tt_iinc (y := ((h + 1 : Nat) : Int)) rfl (iinc_fit (by omega) (by omega) (by omega)) ?_
                              refine tt_goto ?_
                              refine tt_loc [(0, vR 76), (1, vL (((S2 + l)))), (3, vI (((m : Nat) : Int))), (4, vI (((h + 1 : Nat) : Int)))] rfl rfl ⟨rfl, lv_toL rfl (by omega), rfl, rfl, trivial⟩ ?_
                              exact ih4 (h + 1) ((S2 + l)) _ (by omega) (Fr.put (Fr.tr Fr.rf hF_σ2 (by decide)) (by decide)) (by omega) (by rw [hS2, hlf]; rfl) (by omega) (fun g hg => by rw [am_set_at]; by_cases e : g = h; (rw [if_pos (by omega), e, hlf]; exact ⟨rfl, by omega⟩); (rw [if_neg (by omega)]; exact hTh g (by omega))) (fun y hy => by rw [am_set_at, if_neg (by omega)]; exact hO y hy)
                            ·
                              refine tt_ifleT (by decide) ?_
                              refine tt_iinc (y := ((h + 1 : Nat) : Int)) rfl (iinc_fit (by omega) (by omega) (by omega)) ?_
                              refine tt_goto ?_
                              refine tt_loc [(0, vR 76), (1, vL (((S2 + l)))), (3, vI (((m : Nat) : Int))), (4, vI (((h + 1 : Nat) : Int)))] rfl rfl ⟨rfl, lv_toL rfl (by omega), rfl, rfl, trivial⟩ ?_
                              exact ih4 (h + 1) ((S2 + l)) _ (by omega) (Fr.put (Fr.tr Fr.rf hF_σ2 (by decide)) (by decide)) (by omega) (by rw [hS2, hlf]; rfl) (by omega) (fun g hg => by rw [am_set_at]; by_cases e : g = h; (rw [if_pos (by omega), e, hlf]; exact ⟨rfl, by omega⟩); (rw [if_neg (by omega)]; exact hTh g (by omega))) (fun y hy => by rw [am_set_at, if_neg (by omega)]; exact hO y hy)
                            ·
                              refine tt_ifleF (by decide) ?_
                              refine tt_nop ?_
                              refine tt_ar rfl ?_
                              refine tt_lret ?_
                              have hwy : 1000000000000000 < wyM 1000000 (nkT k) nm D ex := by
                                have t1 := to_le (hRH.th ht) (m := m) (h := h) (by omega) (by omega)
                                have t2 := to_sum (hRH.th ht) (m := m) (by omega)
                                have t3 := sumN_up (g := fun h => toM 1000000 (nkT k) nm D ex m h) (n := h + 1) (fun i => to_nn _) (nkT k - (h + 1))
                                rw [show h + 1 + (nkT k - (h + 1)) = nkT k by omega] at t3
                                have t4 : sumN (h + 1) (fun h => toM 1000000 (nkT k) nm D ex m h) = S2 + l := by rw [hS2, hlf]; rfl
                                rw [← hlf] at t1
                                omega
                              exact ⟨rvL (by unfold cpM; split <;> omega), (Fr.put (Fr.tr (Fr.tr Fr.rf hF_σ1 (by decide)) hF_σ2 (by decide)) (by decide)), fun q => by omega⟩
                          ·
                            refine tt_ifgtT (by decide) ?_
                            refine tt_ar rfl ?_
                            refine tt_lret ?_
                            have hwy : 1000000000000000 < wyM 1000000 (nkT k) nm D ex := by
                              have t1 := to_le (hRH.th ht) (m := m) (h := h) (by omega) (by omega)
                              have t2 := to_sum (hRH.th ht) (m := m) (by omega)
                              have t3 := sumN_up (g := fun h => toM 1000000 (nkT k) nm D ex m h) (n := h + 1) (fun i => to_nn _) (nkT k - (h + 1))
                              rw [show h + 1 + (nkT k - (h + 1)) = nkT k by omega] at t3
                              have t4 : sumN (h + 1) (fun h => toM 1000000 (nkT k) nm D ex m h) = S2 + l := by rw [hS2, hlf]; rfl
                              rw [← hlf] at t1
                              omega
                            exact ⟨rvL (by unfold cpM; split <;> omega), (Fr.put (Fr.tr (Fr.tr Fr.rf hF_σ1 (by decide)) hF_σ2 (by decide)) (by decide)), fun q => by omega⟩
                        · refine tt_ar rfl ?_
                          refine tt_ifle (fun h7_5 => ?_) (fun h7_5 => ?_)
                          · have hlf : l = toM 1000000 (nkT k) nm D ex m h := by
                              rw [hl, ← toW_end]
                              unfold toW
                              by_cases e1 : m = 0
                              · rw [if_pos e1, if_pos e1]
                              · rw [if_neg e1, if_neg e1]
                                by_cases e2 : plM 1000000 (nkT k) nm D ex m h = true
                                · first | (rw [if_pos e2, if_pos e2, show g = nkT k by omega]) | exact absurd e2 h7_9
                                · rw [if_neg e2, if_neg e2]
                            refine tt_ar rfl ?_
                            refine tt_getR (wo_76 hW_σ2) rfl (wr_76_41 hW_σ2) ?_
                            refine tt_ar rfl ?_
                            refine tt_ar rfl ?_
                            refine tt_last ((462 * m) + h) (wa_102 hW_σ2) (by omega) (by omega) (by omega) ?_
                            refine tt_ar rfl ?_
                            refine tt_ar rfl ?_
                            refine tt_bL (g := (fun a b => w64 (a + b))) (z := (S2 + l)) rfl (w64_i (by omega) (by omega)) ?_
                            refine tt_ar rfl ?_
                            refine tt_ar rfl ?_
                            refine tt_ar rfl ?_
                            refine tt_lcmp (fun h139 => ?_) (fun h140 => ?_) (fun h141 => ?_)
                            ·
                              refine tt_ifgtF (by decide) ?_
                              refine tt_ar rfl ?_
                              refine tt_ar rfl ?_
                              refine tt_lcmp (fun h142 => ?_) (fun h143 => ?_) (fun h144 => ?_)
                              ·
                                refine tt_ifleT (by decide) ?_
                                refine tt_iinc (y := ((h + 1 : Nat) : Int)) rfl (iinc_fit (by omega) (by omega) (by omega)) ?_
                                refine tt_goto ?_
                                refine tt_loc [(0, vR 76), (1, vL (((S2 + l)))), (3, vI (((m : Nat) : Int))), (4, vI (((h + 1 : Nat) : Int)))] rfl rfl ⟨rfl, lv_toL rfl (by omega), rfl, rfl, trivial⟩ ?_
                                exact ih4 (h + 1) ((S2 + l)) _ (by omega) (Fr.put (Fr.tr Fr.rf hF_σ2 (by decide)) (by decide)) (by omega) (by rw [hS2, hlf]; rfl) (by omega) (fun g hg => by rw [am_set_at]; by_cases e : g = h; (rw [if_pos (by omega), e, hlf]; exact ⟨rfl, by omega⟩); (rw [if_neg (by omega)]; exact hTh g (by omega))) (fun y hy => by rw [am_set_at, if_neg (by omega)]; exact hO y hy)
                              ·
                                refine tt_ifleT (by decide) ?_
                                refine tt_iinc (y := ((h + 1 : Nat) : Int)) rfl (iinc_fit (by omega) (by omega) (by omega)) ?_
                                refine tt_goto ?_
                                refine tt_loc [(0, vR 76), (1, vL (((S2 + l)))), (3, vI (((m : Nat) : Int))), (4, vI (((h + 1 : Nat) : Int)))] rfl rfl ⟨rfl, lv_toL rfl (by omega), rfl, rfl, trivial⟩ ?_
                                exact ih4 (h + 1) ((S2 + l)) _ (by omega) (Fr.put (Fr.tr Fr.rf hF_σ2 (by decide)) (by decide)) (by omega) (by rw [hS2, hlf]; rfl) (by omega) (fun g hg => by rw [am_set_at]; by_cases e : g = h; (rw [if_pos (by omega), e, hlf]; exact ⟨rfl, by omega⟩); (rw [if_neg (by omega)]; exact hTh g (by omega))) (fun y hy => by rw [am_set_at, if_neg (by omega)]; exact hO y hy)
                              ·
                                refine tt_ifleF (by decide) ?_
                                refine tt_nop ?_
                                refine tt_ar rfl ?_
                                refine tt_lret ?_
                                have hwy : 1000000000000000 < wyM 1000000 (nkT k) nm D ex := by
                                  have t1 := to_le (hRH.th ht) (m := m) (h := h) (by omega) (by omega)
                                  have t2 := to_sum (hRH.th ht) (m := m) (by omega)
                                  have t3 := sumN_up (g := fun h => toM 1000000 (nkT k) nm D ex m h) (n := h + 1) (fun i => to_nn _) (nkT k - (h + 1))
                                  rw [show h + 1 + (nkT k - (h + 1)) = nkT k by omega] at t3
                                  have t4 : sumN (h + 1) (fun h => toM 1000000 (nkT k) nm D ex m h) = S2 + l := by rw [hS2, hlf]; rfl
                                  rw [← hlf] at t1
                                  omega
                                exact ⟨rvL (by unfold cpM; split <;> omega), (Fr.put (Fr.tr (Fr.tr Fr.rf hF_σ1 (by decide)) hF_σ2 (by decide)) (by decide)), fun q => by omega⟩
                            ·
                              refine tt_ifgtF (by decide) ?_
                              refine tt_ar rfl ?_
                              refine tt_ar rfl ?_
                              refine tt_lcmp (fun h145 => ?_) (fun h146 => ?_) (fun h147 => ?_)
                              ·
                                refine tt_ifleT (by decide) ?_
                                refine tt_iinc (y := ((h + 1 : Nat) : Int)) rfl (iinc_fit (by omega) (by omega) (by omega)) ?_
                                refine tt_goto ?_
                                refine tt_loc [(0, vR 76), (1, vL (((S2 + l)))), (3, vI (((m : Nat) : Int))), (4, vI (((h + 1 : Nat) : Int)))] rfl rfl ⟨rfl, lv_toL rfl (by omega), rfl, rfl, trivial⟩ ?_
                                exact ih4 (h + 1) ((S2 + l)) _ (by omega) (Fr.put (Fr.tr Fr.rf hF_σ2 (by decide)) (by decide)) (by omega) (by rw [hS2, hlf]; rfl) (by omega) (fun g hg => by rw [am_set_at]; by_cases e : g = h; (rw [if_pos (by omega), e, hlf]; exact ⟨rfl, by omega⟩); (rw [if_neg (by omega)]; exact hTh g (by omega))) (fun y hy => by rw [am_set_at, if_neg (by omega)]; exact hO y hy)
                              ·
                                refine tt_ifleT (by decide) ?_
                                refine tt_iinc (y := ((h + 1 : Nat) : Int)) rfl (iinc_fit (by omega) (by omega) (by omega)) ?_
                                refine tt_goto ?_
                                refine tt_loc [(0, vR 76), (1, vL (((S2 + l)))), (3, vI (((m : Nat) : Int))), (4, vI (((h + 1 : Nat) : Int)))] rfl rfl ⟨rfl, lv_toL rfl (by omega), rfl, rfl, trivial⟩ ?_
                                exact ih4 (h + 1) ((S2 + l)) _ (by omega) (Fr.put (Fr.tr Fr.rf hF_σ2 (by decide)) (by decide)) (by omega) (by rw [hS2, hlf]; rfl) (by omega) (fun g hg => by rw [am_set_at]; by_cases e : g = h; (rw [if_pos (by omega), e, hlf]; exact ⟨rfl, by omega⟩); (rw [if_neg (by omega)]; exact hTh g (by omega))) (fun y hy => by rw [am_set_at, if_neg (by omega)]; exact hO y hy)
                              ·
                                refine tt_ifleF (by decide) ?_
                                refine tt_nop ?_
                                refine tt_ar rfl ?_
                                refine tt_lret ?_
                                have hwy : 1000000000000000 < wyM 1000000 (nkT k) nm D ex := by
                                  have t1 := to_le (hRH.th ht) (m := m) (h := h) (by omega) (by omega)
                                  have t2 := to_sum (hRH.th ht) (m := m) (by omega)
                                  have t3 := sumN_up (g := fun h => toM 1000000 (nkT k) nm D ex m h) (n := h + 1) (fun i => to_nn _) (nkT k - (h + 1))
                                  rw [show h + 1 + (nkT k - (h + 1)) = nkT k by omega] at t3
                                  have t4 : sumN (h + 1) (fun h => toM 1000000 (nkT k) nm D ex m h) = S2 + l := by rw [hS2, hlf]; rfl
                                  rw [← hlf] at t1
                                  omega
                                exact ⟨rvL (by unfold cpM; split <;> omega), (Fr.put (Fr.tr (Fr.tr Fr.rf hF_σ1 (by decide)) hF_σ2 (by decide)) (by decide)), fun q => by omega⟩
                            ·
                              refine tt_ifgtT (by decide) ?_
                              refine tt_ar rfl ?_
                              refine tt_lret ?_
                              have hwy : 1000000000000000 < wyM 1000000 (nkT k) nm D ex := by
                                have t1 := to_le (hRH.th ht) (m := m) (h := h) (by omega) (by omega)
                                have t2 := to_sum (hRH.th ht) (m := m) (by omega)
                                have t3 := sumN_up (g := fun h => toM 1000000 (nkT k) nm D ex m h) (n := h + 1) (fun i => to_nn _) (nkT k - (h + 1))
                                rw [show h + 1 + (nkT k - (h + 1)) = nkT k by omega] at t3
                                have t4 : sumN (h + 1) (fun h => toM 1000000 (nkT k) nm D ex m h) = S2 + l := by rw [hS2, hlf]; rfl
                                rw [← hlf] at t1
                                omega
                              exact ⟨rvL (by unfold cpM; split <;> omega), (Fr.put (Fr.tr (Fr.tr Fr.rf hF_σ1 (by decide)) hF_σ2 (by decide)) (by decide)), fun q => by omega⟩
                          · refine tt_ar rfl ?_
                            refine tt_ar rfl ?_
                            refine tt_ar rfl ?_
                            refine tt_cv3 3 rfl (wo_76 hW_σ2) (c239 A σ2 k nm ns D hA hW_σ2 hRx ex hex hsx hTt m h (by omega) (by omega) ht) (kb (fun h7_9 => ?_) (fun h7_9 => ?_))
                            · refine tt_ifeqF (by decide) ?_
                              obtain ⟨m1, hm1⟩ : ∃ m1, m = m1 + 1 := ⟨m - 1, by omega⟩
                              have hfm := fo_mi (n := nm) hRH (by omega) (show m1 + 1 < nm by omega) (show g < nkT k by omega) (show h < nkT k by omega) ht (by rw [← hm1]; exact h7_9)
                              rw [← hm1, show m1 = m - 1 by omega] at hfm
                              have hb1 := ahN_bd (F := 1000000) (N := nkT k) (D := D) (ex := ex) (by omega) (by omega) hD0 (fun m h _ => hx0 m h) (m - 1) (show g < nkT k by omega)
                              have hmc1 := mi_c (ahN 1000000 (nkT k) D ex (m - 1) g)
                              have hbe := mi_c (ex m h)
                              have hbe0 := hx0 m h
                              have htb := (hTo (m - 1) (by omega) g (by omega)).2
                              have htn : 0 ≤ toM 1000000 (nkT k) nm D ex (m - 1) g := to_nn _
                              refine tt_ar rfl ?_
                              refine tt_ar rfl ?_
                              refine tt_ar rfl ?_
                              refine tt_isub (by omega) (by omega) ?_
                              refine tt_imul (by omega) (by omega) ?_
                              refine tt_ar rfl ?_
                              refine tt_iadd (by omega) (by omega) ?_
                              refine tt_ar rfl ?_
                              refine tt_ar rfl ?_
                              refine tt_ar rfl ?_
                              refine tt_getR (wo_76 hW_σ2) rfl (wr_76_41 hW_σ2) ?_
                              refine tt_ar rfl ?_
                              refine tt_lald (462 * (m - 1) + g) (x := toM 1000000 (nkT k) nm D ex (m - 1) g) (wa_102 hW_σ2) (by omega) (by omega) ((hO (462 * (m - 1) + g) (by omega)).trans (hTo (m - 1) (by omega) g (by omega)).1) ?_
                              refine tt_ar rfl ?_
                              refine tt_lcmp (fun h148 => ?_) (fun h149 => ?_) (fun h150 => ?_)
                              ·
                                refine tt_ifleT (by decide) ?_
                                refine tt_ar rfl ?_
                                refine tt_nop ?_
                                refine tt_bL (g := (fun a b => w64 (a + b))) (z := l) rfl (w64_fit (by omega) (by omega) (by omega)) ?_
                                refine tt_ar rfl ?_
                                refine tt_iinc (y := ((g + 1 : Nat) : Int)) rfl (iinc_fit (by omega) (by omega) (by omega)) ?_
                                refine tt_goto ?_
                                refine tt_loc [(0, vR 76), (1, vL (S2)), (3, vI (((m : Nat) : Int))), (4, vI (((h : Nat) : Int))), (5, vI (((462 * ((m : Nat) : Int)) + ((h : Nat) : Int)))), (6, vL (l)), (8, vI (((g + 1 : Nat) : Int)))] rfl rfl ⟨rfl, rfl, rfl, rfl, rfl, rfl, rfl, trivial⟩ ?_
                                exact ih7 (g + 1) (l) (by omega) (by omega) (by unfold toW at hl ⊢; rw [if_neg (by omega), if_pos h7_9] at hl ⊢; show _ = sumN g (fun g => if foM 1000000 (nkT k) D ex (m - 1) g h = true then toM 1000000 (nkT k) nm D ex (m - 1) g else 0) + (if foM 1000000 (nkT k) D ex (m - 1) g h = true then toM 1000000 (nkT k) nm D ex (m - 1) g else 0); rw [← hl]; first | (split <;> omega) | (rw [if_pos (hfm.mp (by omega))]) | (rw [if_neg (fun q => by have := hfm.mpr q; omega)]; omega)) (by omega)
                              ·
                                refine tt_ifleT (by decide) ?_
                                refine tt_ar rfl ?_
                                refine tt_nop ?_
                                refine tt_bL (g := (fun a b => w64 (a + b))) (z := l) rfl (w64_fit (by omega) (by omega) (by omega)) ?_
                                refine tt_ar rfl ?_
                                refine tt_iinc (y := ((g + 1 : Nat) : Int)) rfl (iinc_fit (by omega) (by omega) (by omega)) ?_
                                refine tt_goto ?_
                                refine tt_loc [(0, vR 76), (1, vL (S2)), (3, vI (((m : Nat) : Int))), (4, vI (((h : Nat) : Int))), (5, vI (((462 * ((m : Nat) : Int)) + ((h : Nat) : Int)))), (6, vL (l)), (8, vI (((g + 1 : Nat) : Int)))] rfl rfl ⟨rfl, rfl, rfl, rfl, rfl, rfl, rfl, trivial⟩ ?_
                                exact ih7 (g + 1) (l) (by omega) (by omega) (by unfold toW at hl ⊢; rw [if_neg (by omega), if_pos h7_9] at hl ⊢; show _ = sumN g (fun g => if foM 1000000 (nkT k) D ex (m - 1) g h = true then toM 1000000 (nkT k) nm D ex (m - 1) g else 0) + (if foM 1000000 (nkT k) D ex (m - 1) g h = true then toM 1000000 (nkT k) nm D ex (m - 1) g else 0); rw [← hl]; first | (split <;> omega) | (rw [if_pos (hfm.mp (by omega))]) | (rw [if_neg (fun q => by have := hfm.mpr q; omega)]; omega)) (by omega)
                              ·
                                refine tt_ifleF (by decide) ?_
                                refine tt_ar rfl ?_
                                refine tt_getR (wo_76 hW_σ2) rfl (wr_76_37 hW_σ2) ?_
                                refine tt_ar rfl ?_
                                refine tt_iald (462 * (m - 1) + g) (x := miN 100000 (ahN 1000000 (nkT k) D ex (m - 1) g)) (wa_99 hW_σ2) (by omega) (by omega) (((hF_σ2.2 99 (by decide) (462 * (m - 1) + g)).trans (hF_σ1.2 99 (by decide) (462 * (m - 1) + g))).trans ((hT.1 (m - 1) (by omega) g (by omega)).2.1)) ?_
                                refine tt_ar rfl ?_
                                refine tt_ar rfl ?_
                                refine tt_ar rfl ?_
                                have hd9 := hDx g h (by omega) (by omega)
                                refine tt_cv3 3 rfl (wo_76 hW_σ2) (c233 A σ2 k nm ns D hA hW_σ2 hRx hsx g h (by omega) (by omega)) (kp ?_)
                                refine tt_iadd (by omega) (by omega) ?_
                                refine tt_ar rfl ?_
                                refine tt_getR (wo_76 hW_σ2) rfl (wr_76_36 hW_σ2) ?_
                                refine tt_ar rfl ?_
                                refine tt_iald ((462 * m) + h) (x := miN 100000 (ex m h)) (wa_98 hW_σ2) (by omega) (by omega) (((hF_σ2.2 98 (by decide) ((462 * m) + h)).trans (hF_σ1.2 98 (by decide) ((462 * m) + h))).trans ((hT.1 m (by omega) h (by omega)).1)) ?_
                                refine tt_iadd (by omega) (by omega) ?_
                                refine tt_ar rfl ?_
                                refine tt_getR (wo_76 hW_σ2) rfl (wr_76_37 hW_σ2) ?_
                                refine tt_ar rfl ?_
                                refine tt_iald ((462 * m) + h) (x := miN 100000 (ahN 1000000 (nkT k) D ex m h)) (wa_99 hW_σ2) (by omega) (by omega) (((hF_σ2.2 99 (by decide) ((462 * m) + h)).trans (hF_σ1.2 99 (by decide) ((462 * m) + h))).trans ((hT.1 m (by omega) h (by omega)).2.1)) ?_
                                refine tt_icne (fun h7_45 => ?_) (fun h7_45 => ?_)
                                · refine tt_ar rfl ?_
                                  refine tt_nop ?_
                                  refine tt_bL (g := (fun a b => w64 (a + b))) (z := l) rfl (w64_fit (by omega) (by omega) (by omega)) ?_
                                  refine tt_ar rfl ?_
                                  refine tt_iinc (y := ((g + 1 : Nat) : Int)) rfl (iinc_fit (by omega) (by omega) (by omega)) ?_
                                  refine tt_goto ?_
                                  refine tt_loc [(0, vR 76), (1, vL (S2)), (3, vI (((m : Nat) : Int))), (4, vI (((h : Nat) : Int))), (5, vI (((462 * ((m : Nat) : Int)) + ((h : Nat) : Int)))), (6, vL (l)), (8, vI (((g + 1 : Nat) : Int)))] rfl rfl ⟨rfl, rfl, rfl, rfl, rfl, rfl, rfl, trivial⟩ ?_
                                  exact ih7 (g + 1) (l) (by omega) (by omega) (by unfold toW at hl ⊢; rw [if_neg (by omega), if_pos h7_9] at hl ⊢; show _ = sumN g (fun g => if foM 1000000 (nkT k) D ex (m - 1) g h = true then toM 1000000 (nkT k) nm D ex (m - 1) g else 0) + (if foM 1000000 (nkT k) D ex (m - 1) g h = true then toM 1000000 (nkT k) nm D ex (m - 1) g else 0); rw [← hl]; first | (split <;> omega) | (rw [if_pos (hfm.mp (by omega))]) | (rw [if_neg (fun q => by have := hfm.mpr q; omega)]; omega)) (by omega)
                                · refine tt_ar rfl ?_
                                  refine tt_getR (wo_76 hW_σ2) rfl (wr_76_41 hW_σ2) ?_
                                  refine tt_ar rfl ?_
                                  refine tt_lald (462 * (m - 1) + g) (x := toM 1000000 (nkT k) nm D ex (m - 1) g) (wa_102 hW_σ2) (by omega) (by omega) ((hO (462 * (m - 1) + g) (by omega)).trans (hTo (m - 1) (by omega) g (by omega)).1) ?_
                                  refine tt_goto ?_
                                  refine tt_bL (g := (fun a b => w64 (a + b))) (z := (l + toM 1000000 (nkT k) nm D ex (m - 1) g)) rfl (w64_i (by omega) (by omega)) ?_
                                  refine tt_ar rfl ?_
                                  refine tt_iinc (y := ((g + 1 : Nat) : Int)) rfl (iinc_fit (by omega) (by omega) (by omega)) ?_
                                  refine tt_goto ?_
                                  refine tt_loc [(0, vR 76), (1, vL (S2)), (3, vI (((m : Nat) : Int))), (4, vI (((h : Nat) : Int))), (5, vI (((462 * ((m : Nat) : Int)) + ((h : Nat) : Int)))), (6, vL (((l + toM 1000000 (nkT k) nm D ex (m - 1) g)))), (8, vI (((g + 1 : Nat) : Int)))] rfl rfl ⟨rfl, rfl, rfl, rfl, rfl, lv_toL rfl (by omega), rfl, trivial⟩ ?_
                                  exact ih7 (g + 1) ((l + toM 1000000 (nkT k) nm D ex (m - 1) g)) (by omega) (by omega) (by unfold toW at hl ⊢; rw [if_neg (by omega), if_pos h7_9] at hl ⊢; show _ = sumN g (fun g => if foM 1000000 (nkT k) D ex (m - 1) g h = true then toM 1000000 (nkT k) nm D ex (m - 1) g else 0) + (if foM 1000000 (nkT k) D ex (m - 1) g h = true then toM 1000000 (nkT k) nm D ex (m - 1) g else 0); rw [← hl]; first | (split <;> omega) | (rw [if_pos (hfm.mp (by omega))]) | (rw [if_neg (fun q => by have := hfm.mpr q; omega)]; omega)) (by omega)
                            · refine tt_ifeqT (by decide) ?_
                              have hlf : l = toM 1000000 (nkT k) nm D ex m h := by
                                rw [hl, ← toW_end]
                                unfold toW
                                by_cases e1 : m = 0
                                · rw [if_pos e1, if_pos e1]
                                · rw [if_neg e1, if_neg e1]
                                  by_cases e2 : plM 1000000 (nkT k) nm D ex m h = true
                                  · first | (rw [if_pos e2, if_pos e2, show g = nkT k by omega]) | exact absurd e2 h7_9
                                  · rw [if_neg e2, if_neg e2]
                              refine tt_ar rfl ?_
                              refine tt_getR (wo_76 hW_σ2) rfl (wr_76_41 hW_σ2) ?_
                              refine tt_ar rfl ?_
                              refine tt_ar rfl ?_
                              refine tt_last ((462 * m) + h) (wa_102 hW_σ2) (by omega) (by omega) (by omega) ?_
                              refine tt_ar rfl ?_
                              refine tt_ar rfl ?_
                              refine tt_bL (g := (fun a b => w64 (a + b))) (z := (S2 + l)) rfl (w64_i (by omega) (by omega)) ?_
                              refine tt_ar rfl ?_
                              refine tt_ar rfl ?_
                              refine tt_ar rfl ?_
                              refine tt_lcmp (fun h151 => ?_) (fun h152 => ?_) (fun h153 => ?_)
                              ·
                                refine tt_ifgtF (by decide) ?_
                                refine tt_ar rfl ?_
                                refine tt_ar rfl ?_
                                refine tt_lcmp (fun h154 => ?_) (fun h155 => ?_) (fun h156 => ?_)
                                ·
                                  refine tt_ifleT (by decide) ?_
                                  refine tt_iinc (y := ((h + 1 : Nat) : Int)) rfl (iinc_fit (by omega) (by omega) (by omega)) ?_
                                  refine tt_goto ?_
                                  refine tt_loc [(0, vR 76), (1, vL (((S2 + l)))), (3, vI (((m : Nat) : Int))), (4, vI (((h + 1 : Nat) : Int)))] rfl rfl ⟨rfl, lv_toL rfl (by omega), rfl, rfl, trivial⟩ ?_
                                  exact ih4 (h + 1) ((S2 + l)) _ (by omega) (Fr.put (Fr.tr Fr.rf hF_σ2 (by decide)) (by decide)) (by omega) (by rw [hS2, hlf]; rfl) (by omega) (fun g hg => by rw [am_set_at]; by_cases e : g = h; (rw [if_pos (by omega), e, hlf]; exact ⟨rfl, by omega⟩); (rw [if_neg (by omega)]; exact hTh g (by omega))) (fun y hy => by rw [am_set_at, if_neg (by omega)]; exact hO y hy)
                                ·
                                  refine tt_ifleT (by decide) ?_
                                  refine tt_iinc (y := ((h + 1 : Nat) : Int)) rfl (iinc_fit (by omega) (by omega) (by omega)) ?_
                                  refine tt_goto ?_
                                  refine tt_loc [(0, vR 76), (1, vL (((S2 + l)))), (3, vI (((m : Nat) : Int))), (4, vI (((h + 1 : Nat) : Int)))] rfl rfl ⟨rfl, lv_toL rfl (by omega), rfl, rfl, trivial⟩ ?_
                                  exact ih4 (h + 1) ((S2 + l)) _ (by omega) (Fr.put (Fr.tr Fr.rf hF_σ2 (by decide)) (by decide)) (by omega) (by rw [hS2, hlf]; rfl) (by omega) (fun g hg => by rw [am_set_at]; by_cases e : g = h; (rw [if_pos (by omega), e, hlf]; exact ⟨rfl, by omega⟩); (rw [if_neg (by omega)]; exact hTh g (by omega))) (fun y hy => by rw [am_set_at, if_neg (by omega)]; exact hO y hy)
                                ·
                                  refine tt_ifleF (by decide) ?_
                                  refine tt_nop ?_
                                  refine tt_ar rfl ?_
                                  refine tt_lret ?_
                                  have hwy : 1000000000000000 < wyM 1000000 (nkT k) nm D ex := by
                                    have t1 := to_le (hRH.th ht) (m := m) (h := h) (by omega) (by omega)
                                    have t2 := to_sum (hRH.th ht) (m := m) (by omega)
                                    have t3 := sumN_up (g := fun h => toM 1000000 (nkT k) nm D ex m h) (n := h + 1) (fun i => to_nn _) (nkT k - (h + 1))
                                    rw [show h + 1 + (nkT k - (h + 1)) = nkT k by omega] at t3
                                    have t4 : sumN (h + 1) (fun h => toM 1000000 (nkT k) nm D ex m h) = S2 + l := by rw [hS2, hlf]; rfl
                                    rw [← hlf] at t1
                                    omega
                                  exact ⟨rvL (by unfold cpM; split <;> omega), (Fr.put (Fr.tr (Fr.tr Fr.rf hF_σ1 (by decide)) hF_σ2 (by decide)) (by decide)), fun q => by omega⟩
                              ·
                                refine tt_ifgtF (by decide) ?_
                                refine tt_ar rfl ?_
                                refine tt_ar rfl ?_
                                refine tt_lcmp (fun h157 => ?_) (fun h158 => ?_) (fun h159 => ?_)
                                ·
                                  refine tt_ifleT (by decide) ?_
                                  refine tt_iinc (y := ((h + 1 : Nat) : Int)) rfl (iinc_fit (by omega) (by omega) (by omega)) ?_
                                  refine tt_goto ?_
                                  refine tt_loc [(0, vR 76), (1, vL (((S2 + l)))), (3, vI (((m : Nat) : Int))), (4, vI (((h + 1 : Nat) : Int)))] rfl rfl ⟨rfl, lv_toL rfl (by omega), rfl, rfl, trivial⟩ ?_
                                  exact ih4 (h + 1) ((S2 + l)) _ (by omega) (Fr.put (Fr.tr Fr.rf hF_σ2 (by decide)) (by decide)) (by omega) (by rw [hS2, hlf]; rfl) (by omega) (fun g hg => by rw [am_set_at]; by_cases e : g = h; (rw [if_pos (by omega), e, hlf]; exact ⟨rfl, by omega⟩); (rw [if_neg (by omega)]; exact hTh g (by omega))) (fun y hy => by rw [am_set_at, if_neg (by omega)]; exact hO y hy)
                                ·
                                  refine tt_ifleT (by decide) ?_
                                  refine tt_iinc (y := ((h + 1 : Nat) : Int)) rfl (iinc_fit (by omega) (by omega) (by omega)) ?_
                                  refine tt_goto ?_
                                  refine tt_loc [(0, vR 76), (1, vL (((S2 + l)))), (3, vI (((m : Nat) : Int))), (4, vI (((h + 1 : Nat) : Int)))] rfl rfl ⟨rfl, lv_toL rfl (by omega), rfl, rfl, trivial⟩ ?_
                                  exact ih4 (h + 1) ((S2 + l)) _ (by omega) (Fr.put (Fr.tr Fr.rf hF_σ2 (by decide)) (by decide)) (by omega) (by rw [hS2, hlf]; rfl) (by omega) (fun g hg => by rw [am_set_at]; by_cases e : g = h; (rw [if_pos (by omega), e, hlf]; exact ⟨rfl, by omega⟩); (rw [if_neg (by omega)]; exact hTh g (by omega))) (fun y hy => by rw [am_set_at, if_neg (by omega)]; exact hO y hy)
                                ·
                                  refine tt_ifleF (by decide) ?_
                                  refine tt_nop ?_
                                  refine tt_ar rfl ?_
                                  refine tt_lret ?_
                                  have hwy : 1000000000000000 < wyM 1000000 (nkT k) nm D ex := by
                                    have t1 := to_le (hRH.th ht) (m := m) (h := h) (by omega) (by omega)
                                    have t2 := to_sum (hRH.th ht) (m := m) (by omega)
                                    have t3 := sumN_up (g := fun h => toM 1000000 (nkT k) nm D ex m h) (n := h + 1) (fun i => to_nn _) (nkT k - (h + 1))
                                    rw [show h + 1 + (nkT k - (h + 1)) = nkT k by omega] at t3
                                    have t4 : sumN (h + 1) (fun h => toM 1000000 (nkT k) nm D ex m h) = S2 + l := by rw [hS2, hlf]; rfl
                                    rw [← hlf] at t1
                                    omega
                                  exact ⟨rvL (by unfold cpM; split <;> omega), (Fr.put (Fr.tr (Fr.tr Fr.rf hF_σ1 (by decide)) hF_σ2 (by decide)) (by decide)), fun q => by omega⟩
                              ·
                                refine tt_ifgtT (by decide) ?_
                                refine tt_ar rfl ?_
                                refine tt_lret ?_
                                have hwy : 1000000000000000 < wyM 1000000 (nkT k) nm D ex := by
                                  have t1 := to_le (hRH.th ht) (m := m) (h := h) (by omega) (by omega)
                                  have t2 := to_sum (hRH.th ht) (m := m) (by omega)
                                  have t3 := sumN_up (g := fun h => toM 1000000 (nkT k) nm D ex m h) (n := h + 1) (fun i => to_nn _) (nkT k - (h + 1))
                                  rw [show h + 1 + (nkT k - (h + 1)) = nkT k by omega] at t3
                                  have t4 : sumN (h + 1) (fun h => toM 1000000 (nkT k) nm D ex m h) = S2 + l := by rw [hS2, hlf]; rfl
                                  rw [← hlf] at t1
                                  omega
                                exact ⟨rvL (by unfold cpM; split <;> omega), (Fr.put (Fr.tr (Fr.tr Fr.rf hF_σ1 (by decide)) hF_σ2 (by decide)) (by decide)), fun q => by omega⟩
                    refine tt_loc [(0, vR 76), (1, vL (S2)), (3, vI (((m : Nat) : Int))), (4, vI (((h : Nat) : Int))), (5, vI (((462 * ((m : Nat) : Int)) + ((h : Nat) : Int)))), (6, vL (1)), (8, vI (((0 : Nat) : Int)))] rfl rfl ⟨rfl, rfl, rfl, rfl, rfl, rfl, lv_to rfl (by omega), trivial⟩ ?_
                    exact lp7_129 _ (0) (1) (Nat.lt_succ_self _) (by omega) (by unfold toW; first | (rw [if_pos (by omega), if_pos h4_15]) | (rw [if_pos (by omega), if_neg h4_15]) | (rw [if_neg (by omega)]; split <;> rfl)) (by omega)
                  · refine tt_ifeqT (by decide) ?_
                    refine tt_ar rfl ?_
                    refine tt_nop ?_
                    refine tt_ar rfl ?_
                    refine tt_ar rfl ?_
                    refine tt_ar rfl ?_
                    refine tt_nop ?_
                    have lp7_160 : ∀ (μ : Nat) (g : Nat) (l : Int), nkT k - g < μ → (g ≤ nkT k) → (l = toW k nm D ex m h g) → (0 ≤ l ∧ l ≤ 1000000000000000 * ((g : Nat) : Int) + 1) → TT am_b241 (am_b241.getD 7 []) [(0, vR 76), (1, vL (S2)), (3, vI (((m : Nat) : Int))), (4, vI (((h : Nat) : Int))), (5, vI (((462 * ((m : Nat) : Int)) + ((h : Nat) : Int)))), (6, vL (l)), (8, vI (((g : Nat) : Int)))] [] σ2 (fun r σ' => r = some (vL (cpM 1000000000000001 (wyM 1000000 (nkT k) nm D ex))) ∧ Fr [102] σ σ' ∧ (wyM 1000000 (nkT k) nm D ex ≤ 1000000000000000 → ∀ q, q < nm → ∀ h, h < nkT k → σ'.1 102 (462 * q + h) = toM 1000000 (nkT k) nm D ex q h)) := by
                      intro μ
                      induction μ with
                      | zero => intro g l hμ; exact absurd hμ (Nat.not_lt_zero _)
                      | succ μ ih7 =>
                        intro g l hμ hg hl hlb
                        refine tt_ar rfl ?_
                        refine tt_ar rfl ?_
                        refine tt_getI (x := ((nkT k : Nat) : Int)) (wo_76 hW_σ2) rfl (((hF_σ2.2 76 (by decide) (27)).trans (hF_σ1.2 76 (by decide) (27))).trans hR.hs.1) ?_
                        refine tt_icge (fun h7_3 => ?_) (fun h7_3 => ?_)
                        · have hlf : l = toM 1000000 (nkT k) nm D ex m h := by
                            rw [hl, ← toW_end]
                            unfold toW
                            by_cases e1 : m = 0
                            · rw [if_pos e1, if_pos e1]
                            · rw [if_neg e1, if_neg e1]
                              by_cases e2 : plM 1000000 (nkT k) nm D ex m h = true
                              · first | (rw [if_pos e2, if_pos e2, show g = nkT k by omega]) | exact absurd e2 h7_9
                              · rw [if_neg e2, if_neg e2]
                          refine tt_ar rfl ?_
                          refine tt_getR (wo_76 hW_σ2) rfl (wr_76_41 hW_σ2) ?_
                          refine tt_ar rfl ?_
                          refine tt_ar rfl ?_
                          refine tt_last ((462 * m) + h) (wa_102 hW_σ2) (by omega) (by omega) (by omega) ?_
                          refine tt_ar rfl ?_
                          refine tt_ar rfl ?_
                          refine tt_bL (g := (fun a b => w64 (a + b))) (z := (S2 + l)) rfl (w64_i (by omega) (by omega)) ?_
                          refine tt_ar rfl ?_
                          refine tt_ar rfl ?_
                          refine tt_ar rfl ?_
                          refine tt_lcmp (fun h161 => ?_) (fun h162 => ?_) (fun h163 => ?_)
                          ·
                            refine tt_ifgtF (by decide) ?_
                            refine tt_ar rfl ?_
                            refine tt_ar rfl ?_
                            refine tt_lcmp (fun h164 => ?_) (fun h165 => ?_) (fun h166 => ?_)
                            ·
                              refine tt_ifleT (by decide) ?_
                              refine tt_iinc (y := ((h + 1 : Nat) : Int)) rfl (iinc_fit (by omega) (by omega) (by omega)) ?_
                              refine tt_goto ?_
                              refine tt_loc [(0, vR 76), (1, vL (((S2 + l)))), (3, vI (((m : Nat) : Int))), (4, vI (((h + 1 : Nat) : Int)))] rfl rfl ⟨rfl, lv_toL rfl (by omega), rfl, rfl, trivial⟩ ?_
                              exact ih4 (h + 1) ((S2 + l)) _ (by omega) (Fr.put (Fr.tr Fr.rf hF_σ2 (by decide)) (by decide)) (by omega) (by rw [hS2, hlf]; rfl) (by omega) (fun g hg => by rw [am_set_at]; by_cases e : g = h; (rw [if_pos (by omega), e, hlf]; exact ⟨rfl, by omega⟩); (rw [if_neg (by omega)]; exact hTh g (by omega))) (fun y hy => by rw [am_set_at, if_neg (by omega)]; exact hO y hy)
                            ·
                              refine tt_ifleT (by decide) ?_
                              refine tt_iinc (y := ((h + 1 : Nat) : Int)) rfl (iinc_fit (by omega) (by omega) (by omega)) ?_
                              refine tt_goto ?_
                              refine tt_loc [(0, vR 76), (1, vL (((S2 + l)))), (3, vI (((m : Nat) : Int))), (4, vI (((h + 1 : Nat) : Int)))] rfl rfl ⟨rfl, lv_toL rfl (by omega), rfl, rfl, trivial⟩ ?_
                              exact ih4 (h + 1) ((S2 + l)) _ (by omega) (Fr.put (Fr.tr Fr.rf hF_σ2 (by decide)) (by decide)) (by omega) (by rw [hS2, hlf]; rfl) (by omega) (fun g hg => by rw [am_set_at]; by_cases e : g = h; (rw [if_pos (by omega), e, hlf]; exact ⟨rfl, by omega⟩); (rw [if_neg (by omega)]; exact hTh g (by omega))) (fun y hy => by rw [am_set_at, if_neg (by omega)]; exact hO y hy)
                            ·
                              refine tt_ifleF (by decide) ?_
                              refine tt_nop ?_
                              refine tt_ar rfl ?_
                              refine tt_lret ?_
                              have hwy : 1000000000000000 < wyM 1000000 (nkT k) nm D ex := by
                                have t1 := to_le (hRH.th ht) (m := m) (h := h) (by omega) (by omega)
                                have t2 := to_sum (hRH.th ht) (m := m) (by omega)
                                have t3 := sumN_up (g := fun h => toM 1000000 (nkT k) nm D ex m h) (n := h + 1) (fun i => to_nn _) (nkT k - (h + 1))
                                rw [show h + 1 + (nkT k - (h + 1)) = nkT k by omega] at t3
                                have t4 : sumN (h + 1) (fun h => toM 1000000 (nkT k) nm D ex m h) = S2 + l := by rw [hS2, hlf]; rfl
                                rw [← hlf] at t1
                                omega
                              exact ⟨rvL (by unfold cpM; split <;> omega), (Fr.put (Fr.tr (Fr.tr Fr.rf hF_σ1 (by decide)) hF_σ2 (by decide)) (by decide)), fun q => by omega⟩
                          ·
                            refine tt_ifgtF (by decide) ?_
                            refine tt_ar rfl ?_
                            refine tt_ar rfl ?_
                            refine tt_lcmp (fun h167 => ?_) (fun h168 => ?_) (fun h169 => ?_)
                            ·
                              refine tt_ifleT (by decide) ?_
                              refine tt_iinc (y := ((h + 1 : Nat) : Int)) rfl (iinc_fit (by omega) (by omega) (by omega)) ?_
                              refine tt_goto ?_
                              refine tt_loc [(0, vR 76), (1, vL (((S2 + l)))), (3, vI (((m : Nat) : Int))), (4, vI (((h + 1 : Nat) : Int)))] rfl rfl ⟨rfl, lv_toL rfl (by omega), rfl, rfl, trivial⟩ ?_
                              exact ih4 (h + 1) ((S2 + l)) _ (by omega) (Fr.put (Fr.tr Fr.rf hF_σ2 (by decide)) (by decide)) (by omega) (by rw [hS2, hlf]; rfl) (by omega) (fun g hg => by rw [am_set_at]; by_cases e : g = h; (rw [if_pos (by omega), e, hlf]; exact ⟨rfl, by omega⟩); (rw [if_neg (by omega)]; exact hTh g (by omega))) (fun y hy => by rw [am_set_at, if_neg (by omega)]; exact hO y hy)
                            ·
                              refine tt_ifleT (by decide) ?_
                              refine tt_iinc (y := ((h + 1 : Nat) : Int)) rfl (iinc_fit (by omega) (by omega) (by omega)) ?_
                              refine tt_goto ?_
                              refine tt_loc [(0, vR 76), (1, vL (((S2 + l)))), (3, vI (((m : Nat) : Int))), (4, vI (((h + 1 : Nat) : Int)))] rfl rfl ⟨rfl, lv_toL rfl (by omega), rfl, rfl, trivial⟩ ?_
                              exact ih4 (h + 1) ((S2 + l)) _ (by omega) (Fr.put (Fr.tr Fr.rf hF_σ2 (by decide)) (by decide)) (by omega) (by rw [hS2, hlf]; rfl) (by omega) (fun g hg => by rw [am_set_at]; by_cases e : g = h; (rw [if_pos (by omega), e, hlf]; exact ⟨rfl, by omega⟩); (rw [if_neg (by omega)]; exact hTh g (by omega))) (fun y hy => by rw [am_set_at, if_neg (by omega)]; exact hO y hy)
                            ·
                              refine tt_ifleF (by decide) ?_
                              refine tt_nop ?_
                              refine tt_ar rfl ?_
                              refine tt_lret ?_
                              have hwy : 1000000000000000 < wyM 1000000 (nkT k) nm D ex := by
                                have t1 := to_le (hRH.th ht) (m := m) (h := h) (by omega) (by omega)
                                have t2 := to_sum (hRH.th ht) (m := m) (by omega)
                                have t3 := sumN_up (g := fun h => toM 1000000 (nkT k) nm D ex m h) (n := h + 1) (fun i => to_nn _) (nkT k - (h + 1))
                                rw [show h + 1 + (nkT k - (h + 1)) = nkT k by omega] at t3
                                have t4 : sumN (h + 1) (fun h => toM 1000000 (nkT k) nm D ex m h) = S2 + l := by rw [hS2, hlf]; rfl
                                rw [← hlf] at t1
                                omega
                              exact ⟨rvL (by unfold cpM; split <;> omega), (Fr.put (Fr.tr (Fr.tr Fr.rf hF_σ1 (by decide)) hF_σ2 (by decide)) (by decide)), fun q => by omega⟩
                          ·
                            refine tt_ifgtT (by decide) ?_
                            refine tt_ar rfl ?_
                            refine tt_lret ?_
                            have hwy : 1000000000000000 < wyM 1000000 (nkT k) nm D ex := by
                              have t1 := to_le (hRH.th ht) (m := m) (h := h) (by omega) (by omega)
                              have t2 := to_sum (hRH.th ht) (m := m) (by omega)
                              have t3 := sumN_up (g := fun h => toM 1000000 (nkT k) nm D ex m h) (n := h + 1) (fun i => to_nn _) (nkT k - (h + 1))
                              rw [show h + 1 + (nkT k - (h + 1)) = nkT k by omega] at t3
                              have t4 : sumN (h + 1) (fun h => toM 1000000 (nkT k) nm D ex m h) = S2 + l := by rw [hS2, hlf]; rfl
                              rw [← hlf] at t1
                              omega
                            exact ⟨rvL (by unfold cpM; split <;> omega), (Fr.put (Fr.tr (Fr.tr Fr.rf hF_σ1 (by decide)) hF_σ2 (by decide)) (by decide)), fun q => by omega⟩
                        · refine tt_ar rfl ?_
                          refine tt_ifle (fun h7_5 => ?_) (fun h7_5 => ?_)
                          · have hlf : l = toM 1000000 (nkT k) nm D ex m h := by
                              rw [hl, ← toW_end]
                              unfold toW
                              by_cases e1 : m = 0
                              · rw [if_pos e1, if_pos e1]
                              · rw [if_neg e1, if_neg e1]
                                by_cases e2 : plM 1000000 (nkT k) nm D ex m h = true
                                · first | (rw [if_pos e2, if_pos e2, show g = nkT k by omega]) | exact absurd e2 h7_9
                                · rw [if_neg e2, if_neg e2]
                            refine tt_ar rfl ?_
                            refine tt_getR (wo_76 hW_σ2) rfl (wr_76_41 hW_σ2) ?_
                            refine tt_ar rfl ?_
                            refine tt_ar rfl ?_
                            refine tt_last ((462 * m) + h) (wa_102 hW_σ2) (by omega) (by omega) (by omega) ?_
                            refine tt_ar rfl ?_
                            refine tt_ar rfl ?_
                            refine tt_bL (g := (fun a b => w64 (a + b))) (z := (S2 + l)) rfl (w64_i (by omega) (by omega)) ?_
                            refine tt_ar rfl ?_
                            refine tt_ar rfl ?_
                            refine tt_ar rfl ?_
                            refine tt_lcmp (fun h170 => ?_) (fun h171 => ?_) (fun h172 => ?_)
                            ·
                              refine tt_ifgtF (by decide) ?_
                              refine tt_ar rfl ?_
                              refine tt_ar rfl ?_
                              refine tt_lcmp (fun h173 => ?_) (fun h174 => ?_) (fun h175 => ?_)
                              ·
                                refine tt_ifleT (by decide) ?_
                                refine tt_iinc (y := ((h + 1 : Nat) : Int)) rfl (iinc_fit (by omega) (by omega) (by omega)) ?_
                                refine tt_goto ?_
                                refine tt_loc [(0, vR 76), (1, vL (((S2 + l)))), (3, vI (((m : Nat) : Int))), (4, vI (((h + 1 : Nat) : Int)))] rfl rfl ⟨rfl, lv_toL rfl (by omega), rfl, rfl, trivial⟩ ?_
                                exact ih4 (h + 1) ((S2 + l)) _ (by omega) (Fr.put (Fr.tr Fr.rf hF_σ2 (by decide)) (by decide)) (by omega) (by rw [hS2, hlf]; rfl) (by omega) (fun g hg => by rw [am_set_at]; by_cases e : g = h; (rw [if_pos (by omega), e, hlf]; exact ⟨rfl, by omega⟩); (rw [if_neg (by omega)]; exact hTh g (by omega))) (fun y hy => by rw [am_set_at, if_neg (by omega)]; exact hO y hy)
                              ·
                                refine tt_ifleT (by decide) ?_
                                refine tt_iinc (y := ((h + 1 : Nat) : Int)) rfl (iinc_fit (by omega) (by omega) (by omega)) ?_
                                refine tt_goto ?_
                                refine tt_loc [(0, vR 76), (1, vL (((S2 + l)))), (3, vI (((m : Nat) : Int))), (4, vI (((h + 1 : Nat) : Int)))] rfl rfl ⟨rfl, lv_toL rfl (by omega), rfl, rfl, trivial⟩ ?_
                                exact ih4 (h + 1) ((S2 + l)) _ (by omega) (Fr.put (Fr.tr Fr.rf hF_σ2 (by decide)) (by decide)) (by omega) (by rw [hS2, hlf]; rfl) (by omega) (fun g hg => by rw [am_set_at]; by_cases e : g = h; (rw [if_pos (by omega), e, hlf]; exact ⟨rfl, by omega⟩); (rw [if_neg (by omega)]; exact hTh g (by omega))) (fun y hy => by rw [am_set_at, if_neg (by omega)]; exact hO y hy)
                              ·
                                refine tt_ifleF (by decide) ?_
                                refine tt_nop ?_
                                refine tt_ar rfl ?_
                                refine tt_lret ?_
                                have hwy : 1000000000000000 < wyM 1000000 (nkT k) nm D ex := by
                                  have t1 := to_le (hRH.th ht) (m := m) (h := h) (by omega) (by omega)
                                  have t2 := to_sum (hRH.th ht) (m := m) (by omega)
                                  have t3 := sumN_up (g := fun h => toM 1000000 (nkT k) nm D ex m h) (n := h + 1) (fun i => to_nn _) (nkT k - (h + 1))
                                  rw [show h + 1 + (nkT k - (h + 1)) = nkT k by omega] at t3
                                  have t4 : sumN (h + 1) (fun h => toM 1000000 (nkT k) nm D ex m h) = S2 + l := by rw [hS2, hlf]; rfl
                                  rw [← hlf] at t1
                                  omega
                                exact ⟨rvL (by unfold cpM; split <;> omega), (Fr.put (Fr.tr (Fr.tr Fr.rf hF_σ1 (by decide)) hF_σ2 (by decide)) (by decide)), fun q => by omega⟩
                            ·
                              refine tt_ifgtF (by decide) ?_
                              refine tt_ar rfl ?_
                              refine tt_ar rfl ?_
                              refine tt_lcmp (fun h176 => ?_) (fun h177 => ?_) (fun h178 => ?_)
                              ·
                                refine tt_ifleT (by decide) ?_
                                refine tt_iinc (y := ((h + 1 : Nat) : Int)) rfl (iinc_fit (by omega) (by omega) (by omega)) ?_
                                refine tt_goto ?_
                                refine tt_loc [(0, vR 76), (1, vL (((S2 + l)))), (3, vI (((m : Nat) : Int))), (4, vI (((h + 1 : Nat) : Int)))] rfl rfl ⟨rfl, lv_toL rfl (by omega), rfl, rfl, trivial⟩ ?_
                                exact ih4 (h + 1) ((S2 + l)) _ (by omega) (Fr.put (Fr.tr Fr.rf hF_σ2 (by decide)) (by decide)) (by omega) (by rw [hS2, hlf]; rfl) (by omega) (fun g hg => by rw [am_set_at]; by_cases e : g = h; (rw [if_pos (by omega), e, hlf]; exact ⟨rfl, by omega⟩); (rw [if_neg (by omega)]; exact hTh g (by omega))) (fun y hy => by rw [am_set_at, if_neg (by omega)]; exact hO y hy)
                              ·
                                refine tt_ifleT (by decide) ?_
                                refine tt_iinc (y := ((h + 1 : Nat) : Int)) rfl (iinc_fit (by omega) (by omega) (by omega)) ?_
                                refine tt_goto ?_
                                refine tt_loc [(0, vR 76), (1, vL (((S2 + l)))), (3, vI (((m : Nat) : Int))), (4, vI (((h + 1 : Nat) : Int)))] rfl rfl ⟨rfl, lv_toL rfl (by omega), rfl, rfl, trivial⟩ ?_
                                exact ih4 (h + 1) ((S2 + l)) _ (by omega) (Fr.put (Fr.tr Fr.rf hF_σ2 (by decide)) (by decide)) (by omega) (by rw [hS2, hlf]; rfl) (by omega) (fun g hg => by rw [am_set_at]; by_cases e : g = h; (rw [if_pos (by omega), e, hlf]; exact ⟨rfl, by omega⟩); (rw [if_neg (by omega)]; exact hTh g (by omega))) (fun y hy => by rw [am_set_at, if_neg (by omega)]; exact hO y hy)
                              ·
                                refine tt_ifleF (by decide) ?_
                                refine tt_nop ?_
                                refine tt_ar rfl ?_
                                refine tt_lret ?_
                                have hwy : 1000000000000000 < wyM 1000000 (nkT k) nm D ex := by
                                  have t1 := to_le (hRH.th ht) (m := m) (h := h) (by omega) (by omega)
                                  have t2 := to_sum (hRH.th ht) (m := m) (by omega)
                                  have t3 := sumN_up (g := fun h => toM 1000000 (nkT k) nm D ex m h) (n := h + 1) (fun i => to_nn _) (nkT k - (h + 1))
                                  rw [show h + 1 + (nkT k - (h + 1)) = nkT k by omega] at t3
                                  have t4 : sumN (h + 1) (fun h => toM 1000000 (nkT k) nm D ex m h) = S2 + l := by rw [hS2, hlf]; rfl
                                  rw [← hlf] at t1
                                  omega
                                exact ⟨rvL (by unfold cpM; split <;> omega), (Fr.put (Fr.tr (Fr.tr Fr.rf hF_σ1 (by decide)) hF_σ2 (by decide)) (by decide)), fun q => by omega⟩
                            ·
                              refine tt_ifgtT (by decide) ?_
                              refine tt_ar rfl ?_
                              refine tt_lret ?_
                              have hwy : 1000000000000000 < wyM 1000000 (nkT k) nm D ex := by
                                have t1 := to_le (hRH.th ht) (m := m) (h := h) (by omega) (by omega)
                                have t2 := to_sum (hRH.th ht) (m := m) (by omega)
                                have t3 := sumN_up (g := fun h => toM 1000000 (nkT k) nm D ex m h) (n := h + 1) (fun i => to_nn _) (nkT k - (h + 1))
                                rw [show h + 1 + (nkT k - (h + 1)) = nkT k by omega] at t3
                                have t4 : sumN (h + 1) (fun h => toM 1000000 (nkT k) nm D ex m h) = S2 + l := by rw [hS2, hlf]; rfl
                                rw [← hlf] at t1
                                omega
                              exact ⟨rvL (by unfold cpM; split <;> omega), (Fr.put (Fr.tr (Fr.tr Fr.rf hF_σ1 (by decide)) hF_σ2 (by decide)) (by decide)), fun q => by omega⟩
                          · refine tt_ar rfl ?_
                            refine tt_ar rfl ?_
                            refine tt_ar rfl ?_
                            refine tt_cv3 3 rfl (wo_76 hW_σ2) (c239 A σ2 k nm ns D hA hW_σ2 hRx ex hex hsx hTt m h (by omega) (by omega) ht) (kb (fun h7_9 => ?_) (fun h7_9 => ?_))
                            · refine tt_ifeqF (by decide) ?_
                              obtain ⟨m1, hm1⟩ : ∃ m1, m = m1 + 1 := ⟨m - 1, by omega⟩
                              have hfm := fo_mi (n := nm) hRH (by omega) (show m1 + 1 < nm by omega) (show g < nkT k by omega) (show h < nkT k by omega) ht (by rw [← hm1]; exact h7_9)
                              rw [← hm1, show m1 = m - 1 by omega] at hfm
                              have hb1 := ahN_bd (F := 1000000) (N := nkT k) (D := D) (ex := ex) (by omega) (by omega) hD0 (fun m h _ => hx0 m h) (m - 1) (show g < nkT k by omega)
                              have hmc1 := mi_c (ahN 1000000 (nkT k) D ex (m - 1) g)
                              have hbe := mi_c (ex m h)
                              have hbe0 := hx0 m h
                              have htb := (hTo (m - 1) (by omega) g (by omega)).2
                              have htn : 0 ≤ toM 1000000 (nkT k) nm D ex (m - 1) g := to_nn _
                              refine tt_ar rfl ?_
                              refine tt_ar rfl ?_
                              refine tt_ar rfl ?_
                              refine tt_isub (by omega) (by omega) ?_
                              refine tt_imul (by omega) (by omega) ?_
                              refine tt_ar rfl ?_
                              refine tt_iadd (by omega) (by omega) ?_
                              refine tt_ar rfl ?_
                              refine tt_ar rfl ?_
                              refine tt_ar rfl ?_
                              refine tt_getR (wo_76 hW_σ2) rfl (wr_76_41 hW_σ2) ?_
                              refine tt_ar rfl ?_
                              refine tt_lald (462 * (m - 1) + g) (x := toM 1000000 (nkT k) nm D ex (m - 1) g) (wa_102 hW_σ2) (by omega) (by omega) ((hO (462 * (m - 1) + g) (by omega)).trans (hTo (m - 1) (by omega) g (by omega)).1) ?_
                              refine tt_ar rfl ?_
                              refine tt_lcmp (fun h179 => ?_) (fun h180 => ?_) (fun h181 => ?_)
                              ·
                                refine tt_ifleT (by decide) ?_
                                refine tt_ar rfl ?_
                                refine tt_nop ?_
                                refine tt_bL (g := (fun a b => w64 (a + b))) (z := l) rfl (w64_fit (by omega) (by omega) (by omega)) ?_
                                refine tt_ar rfl ?_
                                refine tt_iinc (y := ((g + 1 : Nat) : Int)) rfl (iinc_fit (by omega) (by omega) (by omega)) ?_
                                refine tt_goto ?_
                                refine tt_loc [(0, vR 76), (1, vL (S2)), (3, vI (((m : Nat) : Int))), (4, vI (((h : Nat) : Int))), (5, vI (((462 * ((m : Nat) : Int)) + ((h : Nat) : Int)))), (6, vL (l)), (8, vI (((g + 1 : Nat) : Int)))] rfl rfl ⟨rfl, rfl, rfl, rfl, rfl, rfl, rfl, trivial⟩ ?_
                                exact ih7 (g + 1) (l) (by omega) (by omega) (by unfold toW at hl ⊢; rw [if_neg (by omega), if_pos h7_9] at hl ⊢; show _ = sumN g (fun g => if foM 1000000 (nkT k) D ex (m - 1) g h = true then toM 1000000 (nkT k) nm D ex (m - 1) g else 0) + (if foM 1000000 (nkT k) D ex (m - 1) g h = true then toM 1000000 (nkT k) nm D ex (m - 1) g else 0); rw [← hl]; first | (split <;> omega) | (rw [if_pos (hfm.mp (by omega))]) | (rw [if_neg (fun q => by have := hfm.mpr q; omega)]; omega)) (by omega)
                              ·
                                refine tt_ifleT (by decide) ?_
                                refine tt_ar rfl ?_
                                refine tt_nop ?_
                                refine tt_bL (g := (fun a b => w64 (a + b))) (z := l) rfl (w64_fit (by omega) (by omega) (by omega)) ?_
                                refine tt_ar rfl ?_
                                refine tt_iinc (y := ((g + 1 : Nat) : Int)) rfl (iinc_fit (by omega) (by omega) (by omega)) ?_
                                refine tt_goto ?_
                                refine tt_loc [(0, vR 76), (1, vL (S2)), (3, vI (((m : Nat) : Int))), (4, vI (((h : Nat) : Int))), (5, vI (((462 * ((m : Nat) : Int)) + ((h : Nat) : Int)))), (6, vL (l)), (8, vI (((g + 1 : Nat) : Int)))] rfl rfl ⟨rfl, rfl, rfl, rfl, rfl, rfl, rfl, trivial⟩ ?_
                                exact ih7 (g + 1) (l) (by omega) (by omega) (by unfold toW at hl ⊢; rw [if_neg (by omega), if_pos h7_9] at hl ⊢; show _ = sumN g (fun g => if foM 1000000 (nkT k) D ex (m - 1) g h = true then toM 1000000 (nkT k) nm D ex (m - 1) g else 0) + (if foM 1000000 (nkT k) D ex (m - 1) g h = true then toM 1000000 (nkT k) nm D ex (m - 1) g else 0); rw [← hl]; first | (split <;> omega) | (rw [if_pos (hfm.mp (by omega))]) | (rw [if_neg (fun q => by have := hfm.mpr q; omega)]; omega)) (by omega)
                              ·
                                refine tt_ifleF (by decide) ?_
                                refine tt_ar rfl ?_
                                refine tt_getR (wo_76 hW_σ2) rfl (wr_76_37 hW_σ2) ?_
                                refine tt_ar rfl ?_
                                refine tt_iald (462 * (m - 1) + g) (x := miN 100000 (ahN 1000000 (nkT k) D ex (m - 1) g)) (wa_99 hW_σ2) (by omega) (by omega) (((hF_σ2.2 99 (by decide) (462 * (m - 1) + g)).trans (hF_σ1.2 99 (by decide) (462 * (m - 1) + g))).trans ((hT.1 (m - 1) (by omega) g (by omega)).2.1)) ?_
                                refine tt_ar rfl ?_
                                refine tt_ar rfl ?_
                                refine tt_ar rfl ?_
                                have hd9 := hDx g h (by omega) (by omega)
                                refine tt_cv3 3 rfl (wo_76 hW_σ2) (c233 A σ2 k nm ns D hA hW_σ2 hRx hsx g h (by omega) (by omega)) (kp ?_)
                                refine tt_iadd (by omega) (by omega) ?_
                                refine tt_ar rfl ?_
                                refine tt_getR (wo_76 hW_σ2) rfl (wr_76_36 hW_σ2) ?_
                                refine tt_ar rfl ?_
                                refine tt_iald ((462 * m) + h) (x := miN 100000 (ex m h)) (wa_98 hW_σ2) (by omega) (by omega) (((hF_σ2.2 98 (by decide) ((462 * m) + h)).trans (hF_σ1.2 98 (by decide) ((462 * m) + h))).trans ((hT.1 m (by omega) h (by omega)).1)) ?_
                                refine tt_iadd (by omega) (by omega) ?_
                                refine tt_ar rfl ?_
                                refine tt_getR (wo_76 hW_σ2) rfl (wr_76_37 hW_σ2) ?_
                                refine tt_ar rfl ?_
                                refine tt_iald ((462 * m) + h) (x := miN 100000 (ahN 1000000 (nkT k) D ex m h)) (wa_99 hW_σ2) (by omega) (by omega) (((hF_σ2.2 99 (by decide) ((462 * m) + h)).trans (hF_σ1.2 99 (by decide) ((462 * m) + h))).trans ((hT.1 m (by omega) h (by omega)).2.1)) ?_
                                refine tt_icne (fun h7_45 => ?_) (fun h7_45 => ?_)
                                · refine tt_ar rfl ?_
                                  refine tt_nop ?_
                                  refine tt_bL (g := (fun a b => w64 (a + b))) (z := l) rfl (w64_fit (by omega) (by omega) (by omega)) ?_
                                  refine tt_ar rfl ?_
                                  refine tt_iinc (y := ((g + 1 : Nat) : Int)) rfl (iinc_fit (by omega) (by omega) (by omega)) ?_
                                  refine tt_goto ?_
                                  refine tt_loc [(0, vR 76), (1, vL (S2)), (3, vI (((m : Nat) : Int))), (4, vI (((h : Nat) : Int))), (5, vI (((462 * ((m : Nat) : Int)) + ((h : Nat) : Int)))), (6, vL (l)), (8, vI (((g + 1 : Nat) : Int)))] rfl rfl ⟨rfl, rfl, rfl, rfl, rfl, rfl, rfl, trivial⟩ ?_
                                  exact ih7 (g + 1) (l) (by omega) (by omega) (by unfold toW at hl ⊢; rw [if_neg (by omega), if_pos h7_9] at hl ⊢; show _ = sumN g (fun g => if foM 1000000 (nkT k) D ex (m - 1) g h = true then toM 1000000 (nkT k) nm D ex (m - 1) g else 0) + (if foM 1000000 (nkT k) D ex (m - 1) g h = true then toM 1000000 (nkT k) nm D ex (m - 1) g else 0); rw [← hl]; first | (split <;> omega) | (rw [if_pos (hfm.mp (by omega))]) | (rw [if_neg (fun q => by have := hfm.mpr q; omega)]; omega)) (by omega)
                                · refine tt_ar rfl ?_
                                  refine tt_getR (wo_76 hW_σ2) rfl (wr_76_41 hW_σ2) ?_
                                  refine tt_ar rfl ?_
                                  refine tt_lald (462 * (m - 1) + g) (x := toM 1000000 (nkT k) nm D ex (m - 1) g) (wa_102 hW_σ2) (by omega) (by omega) ((hO (462 * (m - 1) + g) (by omega)).trans (hTo (m - 1) (by omega) g (by omega)).1) ?_
                                  refine tt_goto ?_
                                  refine tt_bL (g := (fun a b => w64 (a + b))) (z := (l + toM 1000000 (nkT k) nm D ex (m - 1) g)) rfl (w64_i (by omega) (by omega)) ?_
                                  refine tt_ar rfl ?_
                                  refine tt_iinc (y := ((g + 1 : Nat) : Int)) rfl (iinc_fit (by omega) (by omega) (by omega)) ?_
                                  refine tt_goto ?_
                                  refine tt_loc [(0, vR 76), (1, vL (S2)), (3, vI (((m : Nat) : Int))), (4, vI (((h : Nat) : Int))), (5, vI (((462 * ((m : Nat) : Int)) + ((h : Nat) : Int)))), (6, vL (((l + toM 1000000 (nkT k) nm D ex (m - 1) g)))), (8, vI (((g + 1 : Nat) : Int)))] rfl rfl ⟨rfl, rfl, rfl, rfl, rfl, lv_toL rfl (by omega), rfl, trivial⟩ ?_
                                  exact ih7 (g + 1) ((l + toM 1000000 (nkT k) nm D ex (m - 1) g)) (by omega) (by omega) (by unfold toW at hl ⊢; rw [if_neg (by omega), if_pos h7_9] at hl ⊢; show _ = sumN g (fun g => if foM 1000000 (nkT k) D ex (m - 1) g h = true then toM 1000000 (nkT k) nm D ex (m - 1) g else 0) + (if foM 1000000 (nkT k) D ex (m - 1) g h = true then toM 1000000 (nkT k) nm D ex (m - 1) g else 0); rw [← hl]; first | (split <;> omega) | (rw [if_pos (hfm.mp (by omega))]) | (rw [if_neg (fun q => by have := hfm.mpr q; omega)]; omega)) (by omega)
                            · refine tt_ifeqT (by decide) ?_
                              have hlf : l = toM 1000000 (nkT k) nm D ex m h := by
                                rw [hl, ← toW_end]
                                unfold toW
                                by_cases e1 : m = 0
                                · rw [if_pos e1, if_pos e1]
                                · rw [if_neg e1, if_neg e1]
                                  by_cases e2 : plM 1000000 (nkT k) nm D ex m h = true
                                  · first | (rw [if_pos e2, if_pos e2, show g = nkT k by omega]) | exact absurd e2 h7_9
                                  · rw [if_neg e2, if_neg e2]
                              refine tt_ar rfl ?_
                              refine tt_getR (wo_76 hW_σ2) rfl (wr_76_41 hW_σ2) ?_
                              refine tt_ar rfl ?_
                              refine tt_ar rfl ?_
                              refine tt_last ((462 * m) + h) (wa_102 hW_σ2) (by omega) (by omega) (by omega) ?_
                              refine tt_ar rfl ?_
                              refine tt_ar rfl ?_
                              refine tt_bL (g := (fun a b => w64 (a + b))) (z := (S2 + l)) rfl (w64_i (by omega) (by omega)) ?_
                              refine tt_ar rfl ?_
                              refine tt_ar rfl ?_
                              refine tt_ar rfl ?_
                              refine tt_lcmp (fun h182 => ?_) (fun h183 => ?_) (fun h184 => ?_)
                              ·
                                refine tt_ifgtF (by decide) ?_
                                refine tt_ar rfl ?_
                                refine tt_ar rfl ?_
                                refine tt_lcmp (fun h185 => ?_) (fun h186 => ?_) (fun h187 => ?_)
                                ·
                                  refine tt_ifleT (by decide) ?_
                                  refine tt_iinc (y := ((h + 1 : Nat) : Int)) rfl (iinc_fit (by omega) (by omega) (by omega)) ?_
                                  refine tt_goto ?_
                                  refine tt_loc [(0, vR 76), (1, vL (((S2 + l)))), (3, vI (((m : Nat) : Int))), (4, vI (((h + 1 : Nat) : Int)))] rfl rfl ⟨rfl, lv_toL rfl (by omega), rfl, rfl, trivial⟩ ?_
                                  exact ih4 (h + 1) ((S2 + l)) _ (by omega) (Fr.put (Fr.tr Fr.rf hF_σ2 (by decide)) (by decide)) (by omega) (by rw [hS2, hlf]; rfl) (by omega) (fun g hg => by rw [am_set_at]; by_cases e : g = h; (rw [if_pos (by omega), e, hlf]; exact ⟨rfl, by omega⟩); (rw [if_neg (by omega)]; exact hTh g (by omega))) (fun y hy => by rw [am_set_at, if_neg (by omega)]; exact hO y hy)
                                ·
                                  refine tt_ifleT (by decide) ?_
                                  refine tt_iinc (y := ((h + 1 : Nat) : Int)) rfl (iinc_fit (by omega) (by omega) (by omega)) ?_
                                  refine tt_goto ?_
                                  refine tt_loc [(0, vR 76), (1, vL (((S2 + l)))), (3, vI (((m : Nat) : Int))), (4, vI (((h + 1 : Nat) : Int)))] rfl rfl ⟨rfl, lv_toL rfl (by omega), rfl, rfl, trivial⟩ ?_
                                  exact ih4 (h + 1) ((S2 + l)) _ (by omega) (Fr.put (Fr.tr Fr.rf hF_σ2 (by decide)) (by decide)) (by omega) (by rw [hS2, hlf]; rfl) (by omega) (fun g hg => by rw [am_set_at]; by_cases e : g = h; (rw [if_pos (by omega), e, hlf]; exact ⟨rfl, by omega⟩); (rw [if_neg (by omega)]; exact hTh g (by omega))) (fun y hy => by rw [am_set_at, if_neg (by omega)]; exact hO y hy)
                                ·
                                  refine tt_ifleF (by decide) ?_
                                  refine tt_nop ?_
                                  refine tt_ar rfl ?_
                                  refine tt_lret ?_
                                  have hwy : 1000000000000000 < wyM 1000000 (nkT k) nm D ex := by
                                    have t1 := to_le (hRH.th ht) (m := m) (h := h) (by omega) (by omega)
                                    have t2 := to_sum (hRH.th ht) (m := m) (by omega)
                                    have t3 := sumN_up (g := fun h => toM 1000000 (nkT k) nm D ex m h) (n := h + 1) (fun i => to_nn _) (nkT k - (h + 1))
                                    rw [show h + 1 + (nkT k - (h + 1)) = nkT k by omega] at t3
                                    have t4 : sumN (h + 1) (fun h => toM 1000000 (nkT k) nm D ex m h) = S2 + l := by rw [hS2, hlf]; rfl
                                    rw [← hlf] at t1
                                    omega
                                  exact ⟨rvL (by unfold cpM; split <;> omega), (Fr.put (Fr.tr (Fr.tr Fr.rf hF_σ1 (by decide)) hF_σ2 (by decide)) (by decide)), fun q => by omega⟩
                              ·
                                refine tt_ifgtF (by decide) ?_
                                refine tt_ar rfl ?_
                                refine tt_ar rfl ?_
                                refine tt_lcmp (fun h188 => ?_) (fun h189 => ?_) (fun h190 => ?_)
                                ·
                                  refine tt_ifleT (by decide) ?_
                                  refine tt_iinc (y := ((h + 1 : Nat) : Int)) rfl (iinc_fit (by omega) (by omega) (by omega)) ?_
                                  refine tt_goto ?_
                                  refine tt_loc [(0, vR 76), (1, vL (((S2 + l)))), (3, vI (((m : Nat) : Int))), (4, vI (((h + 1 : Nat) : Int)))] rfl rfl ⟨rfl, lv_toL rfl (by omega), rfl, rfl, trivial⟩ ?_
                                  exact ih4 (h + 1) ((S2 + l)) _ (by omega) (Fr.put (Fr.tr Fr.rf hF_σ2 (by decide)) (by decide)) (by omega) (by rw [hS2, hlf]; rfl) (by omega) (fun g hg => by rw [am_set_at]; by_cases e : g = h; (rw [if_pos (by omega), e, hlf]; exact ⟨rfl, by omega⟩); (rw [if_neg (by omega)]; exact hTh g (by omega))) (fun y hy => by rw [am_set_at, if_neg (by omega)]; exact hO y hy)
                                ·
                                  refine tt_ifleT (by decide) ?_
                                  refine tt_iinc (y := ((h + 1 : Nat) : Int)) rfl (iinc_fit (by omega) (by omega) (by omega)) ?_
                                  refine tt_goto ?_
                                  refine tt_loc [(0, vR 76), (1, vL (((S2 + l)))), (3, vI (((m : Nat) : Int))), (4, vI (((h + 1 : Nat) : Int)))] rfl rfl ⟨rfl, lv_toL rfl (by omega), rfl, rfl, trivial⟩ ?_
                                  exact ih4 (h + 1) ((S2 + l)) _ (by omega) (Fr.put (Fr.tr Fr.rf hF_σ2 (by decide)) (by decide)) (by omega) (by rw [hS2, hlf]; rfl) (by omega) (fun g hg => by rw [am_set_at]; by_cases e : g = h; (rw [if_pos (by omega), e, hlf]; exact ⟨rfl, by omega⟩); (rw [if_neg (by omega)]; exact hTh g (by omega))) (fun y hy => by rw [am_set_at, if_neg (by omega)]; exact hO y hy)
                                ·
                                  refine tt_ifleF (by decide) ?_
                                  refine tt_nop ?_
                                  refine tt_ar rfl ?_
                                  refine tt_lret ?_
                                  have hwy : 1000000000000000 < wyM 1000000 (nkT k) nm D ex := by
                                    have t1 := to_le (hRH.th ht) (m := m) (h := h) (by omega) (by omega)
                                    have t2 := to_sum (hRH.th ht) (m := m) (by omega)
                                    have t3 := sumN_up (g := fun h => toM 1000000 (nkT k) nm D ex m h) (n := h + 1) (fun i => to_nn _) (nkT k - (h + 1))
                                    rw [show h + 1 + (nkT k - (h + 1)) = nkT k by omega] at t3
                                    have t4 : sumN (h + 1) (fun h => toM 1000000 (nkT k) nm D ex m h) = S2 + l := by rw [hS2, hlf]; rfl
                                    rw [← hlf] at t1
                                    omega
                                  exact ⟨rvL (by unfold cpM; split <;> omega), (Fr.put (Fr.tr (Fr.tr Fr.rf hF_σ1 (by decide)) hF_σ2 (by decide)) (by decide)), fun q => by omega⟩
                              ·
                                refine tt_ifgtT (by decide) ?_
                                refine tt_ar rfl ?_
                                refine tt_lret ?_
                                have hwy : 1000000000000000 < wyM 1000000 (nkT k) nm D ex := by
                                  have t1 := to_le (hRH.th ht) (m := m) (h := h) (by omega) (by omega)
                                  have t2 := to_sum (hRH.th ht) (m := m) (by omega)
                                  have t3 := sumN_up (g := fun h => toM 1000000 (nkT k) nm D ex m h) (n := h + 1) (fun i => to_nn _) (nkT k - (h + 1))
                                  rw [show h + 1 + (nkT k - (h + 1)) = nkT k by omega] at t3
                                  have t4 : sumN (h + 1) (fun h => toM 1000000 (nkT k) nm D ex m h) = S2 + l := by rw [hS2, hlf]; rfl
                                  rw [← hlf] at t1
                                  omega
                                exact ⟨rvL (by unfold cpM; split <;> omega), (Fr.put (Fr.tr (Fr.tr Fr.rf hF_σ1 (by decide)) hF_σ2 (by decide)) (by decide)), fun q => by omega⟩
                    refine tt_loc [(0, vR 76), (1, vL (S2)), (3, vI (((m : Nat) : Int))), (4, vI (((h : Nat) : Int))), (5, vI (((462 * ((m : Nat) : Int)) + ((h : Nat) : Int)))), (6, vL (0)), (8, vI (((0 : Nat) : Int)))] rfl rfl ⟨rfl, rfl, rfl, rfl, rfl, rfl, lv_to rfl (by omega), trivial⟩ ?_
                    exact lp7_160 _ (0) (0) (Nat.lt_succ_self _) (by omega) (by unfold toW; first | (rw [if_pos (by omega), if_pos h4_15]) | (rw [if_pos (by omega), if_neg h4_15]) | (rw [if_neg (by omega)]; split <;> rfl)) (by omega)
          refine tt_loc [(0, vR 76), (1, vL (0)), (3, vI (((m : Nat) : Int))), (4, vI (((0 : Nat) : Int)))] rfl rfl ⟨rfl, rfl, rfl, lv_to rfl (by omega), trivial⟩ ?_
          exact lp4_97 _ (0) (0) σ1 (Nat.lt_succ_self _) Fr.rf (by omega) rfl (by omega) (fun g hg => absurd hg (Nat.not_lt_zero g)) (fun y hy => rfl)
    refine tt_loc [(0, vR 76), (1, vL (1)), (3, vI (((0 : Nat) : Int)))] rfl rfl ⟨rfl, rfl, lv_to rfl (by omega), trivial⟩ ?_
    exact lp3_96 _ (0) (1) σ (Nat.lt_succ_self _) Fr.rf (by omega) (by first | (rw [if_pos (by omega)]) | (rw [if_neg (by omega), if_pos rfl])) (by omega) (fun q hq => absurd hq (Nat.not_lt_zero q))

