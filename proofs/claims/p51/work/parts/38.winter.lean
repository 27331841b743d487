/-! WINTER ON THE MACHINE -/
theorem prOf_bd {pr : Nat → Int} {how : Int} (h : ∀ i, i < 5 → 0 ≤ pr i ∧ pr i ≤ 9) : 0 ≤ prOf pr how ∧ prOf pr how ≤ 9 := by
  have h3 := h 3 (by omega)
  have h4 := h 4 (by omega)
  unfold prOf
  split
  · omega
  · split <;> omega
theorem cPr_bd {σ : am_S} {k m h : Nat} (hD : LD k σ) : 0 ≤ cPr σ k m h ∧ cPr σ k m h ≤ 1000000 := by
  have := prOf_bd (how := cEx σ k m h) hD.2.2.2.1
  unfold cPr
  split <;> omega
theorem cEx_eq {σ σ' : am_S} {k m h : Nat} (e5 : σ'.1 5 = σ.1 5) (e7 : σ'.1 7 = σ.1 7) (e8 : σ'.1 8 = σ.1 8) (e21 : σ'.1 21 = σ.1 21) (e25 : σ'.1 25 = σ.1 25) (e26 : σ'.1 26 = σ.1 26) (e28 : σ'.1 28 = σ.1 28) (e29 : σ'.1 29 = σ.1 29) (e30 : σ'.1 30 = σ.1 30) : cEx σ' k m h = cEx σ k m h := by
  have hA : ∀ lo hi s, cAg σ' m h lo hi s ↔ cAg σ m h lo hi s := by
    intro lo hi s
    show (∀ x, x < 8 → _) ↔ (∀ x, x < 8 → _)
    rw [e5, e7, e8, e25, e26, e28, e29, e30]
  have a1 : cIll σ' m h = cIll σ m h := funext (fun s => by
    unfold cIll
    rw [decide_eq_decide, hA, e21])
  have a2 : cGst σ' m h = cGst σ m h := funext (fun s => by
    unfold cGst
    rw [decide_eq_decide, hA])
  unfold cEx
  rw [a1, a2, decide_eq_decide.mpr (hA 0 0 0)]
theorem cEx_fr {W : List Nat} {σ σ' : am_S} {k m h : Nat} (hF : Fr W σ σ') (hw : ∀ a ∈ W, 30 < a) : cEx σ' k m h = cEx σ k m h := by
  have q : ∀ a, a ≤ 30 → σ'.1 a = σ.1 a := fun a ha => funext (hF.2 a (fun e => by have := hw a e; omega))
  exact cEx_eq (q 5 (by omega)) (q 7 (by omega)) (q 8 (by omega)) (q 21 (by omega)) (q 25 (by omega)) (q 26 (by omega)) (q 28 (by omega)) (q 29 (by omega)) (q 30 (by omega))
theorem cPr_fr {W : List Nat} {σ σ' : am_S} {k m h : Nat} (hF : Fr W σ σ') (hw : ∀ a ∈ W, 30 < a) : cPr σ' k m h = cPr σ k m h := by
  have e9 : σ'.1 9 = σ.1 9 := funext (hF.2 9 (fun e => by have := hw 9 e; omega))
  unfold cPr
  rw [cEx_fr hF hw, e9]
theorem c103 (σ : am_S) (k nm : Nat) (hW : Wd σ) (hD : LD k σ) (hH : HT k σ) (hL : LN nm σ) (m : Nat) (hm : m < 12) : CC 103 [vR 36, vI (((m : Nat) : Int))] σ (fun r σ' => r = none ∧ Fr [39] σ σ' ∧ (∀ h, h < nkT k → σ'.1 39 (m * 462 + h) = cPr σ k m h) ∧ ∀ j, (j < m * 462 ∨ m * 462 + 462 ≤ j) → σ'.1 39 j = σ.1 39 j) := by
  show TT am_b103 (am_b103.getD 0 []) [(0, vR 36), (1, vI (((m : Nat) : Int)))] [] σ _
  have hk6 := hD.2.1
  have hnb := nkT_bd k
  have hnm := hL.2.1
  have hHB := HB_of hD hH
  refine tt_ar rfl ?_
  refine tt_ar rfl ?_
  refine tt_nop ?_
  have lp1_1 : ∀ (μ : Nat) (h : Nat) (σ1 : am_S), nkT k - h < μ → Fr [39] σ σ1 → (h ≤ nkT k) → (∀ g, g < h → σ1.1 39 (m * 462 + g) = cPr σ k m g) → (∀ j, (j < m * 462 ∨ m * 462 + 462 ≤ j) → σ1.1 39 j = σ.1 39 j) → TT am_b103 (am_b103.getD 1 []) [(0, vR 36), (1, vI (((m : Nat) : Int))), (2, vI (((h : Nat) : Int)))] [] σ1 (fun r σ' => r = none ∧ Fr [39] σ σ' ∧ (∀ h, h < nkT k → σ'.1 39 (m * 462 + h) = cPr σ k m h) ∧ ∀ j, (j < m * 462 ∨ m * 462 + 462 ≤ j) → σ'.1 39 j = σ.1 39 j) := by
    intro μ
    induction μ with
    | zero => intro h σ1 hμ; exact absurd hμ (Nat.not_lt_zero _)
    | succ μ ih1 =>
      intro h σ1 hμ hF_σ1 hh hA hO
      have hW_σ1 := Fr.wd hF_σ1 hW
      refine tt_ar rfl ?_
      refine tt_ar rfl ?_
      refine tt_getR (wo_36 hW_σ1) rfl (wr_36_0 hW_σ1) ?_
      refine tt_getI (x := ((nkT k : Nat) : Int)) (wo_18 hW_σ1) rfl ((hF_σ1.2 18 (by decide) (1)).trans hH.1) ?_
      refine tt_icge (fun h1_4 => ?_) (fun h1_4 => ?_)
      · refine tt_vret ?_
        have e : nkT k = h := by omega
        exact ⟨rfl, hF_σ1, fun g hg => hA g (by omega), hO⟩
      · refine tt_ar rfl ?_
        refine tt_getR (wo_36 hW_σ1) rfl (wr_36_2 hW_σ1) ?_
        refine tt_ar rfl ?_
        refine tt_ar rfl ?_
        have hFc : Fr [39] σ σ1 := (Fr.tr Fr.rf hF_σ1 (by decide))
        refine tt_cv3 3 rfl (wo_31 hW_σ1) (cEx_fr hFc (by decide) ▸ c74 σ1 k (nkT k) nm hW_σ1 (LD.fr hFc (by decide) hD) (LN.fr hFc (by decide) hL) (HB.fr hFc (by decide) hHB) m h (by omega) (by omega)) (kp ?_)
        refine tt_ar rfl ?_
        refine tt_ar rfl ?_
        refine tt_getR (wo_36 hW_σ1) rfl (wr_36_10 hW_σ1) ?_
        refine tt_ar rfl ?_
        refine tt_ar rfl ?_
        refine tt_imul (by omega) (by omega) ?_
        refine tt_ar rfl ?_
        refine tt_iadd (by omega) (by omega) ?_
        refine tt_ar rfl ?_
        refine tt_ar rfl ?_
        refine tt_icne (fun h1_20 => ?_) (fun h1_20 => ?_)
        · refine tt_ar rfl ?_
          refine tt_getR (wo_36 hW_σ1) rfl (wr_36_2 hW_σ1) ?_
          refine tt_ar rfl ?_
          refine tt_cv2 2 rfl (wo_31 hW_σ1) (c81 σ1 k (nkT k) nm hW_σ1 (LD.fr hFc (by decide) hD) (LN.fr hFc (by decide) hL) (HB.fr hFc (by decide) hHB) _) (kp ?_)
          refine tt_nop ?_
          refine tt_iast (((m * 462) + h)) (wa_39 hW_σ1) (by omega) (by omega) (by omega) ?_
          refine tt_iinc (y := ((h + 1 : Nat) : Int)) rfl (iinc_fit (by omega) (by omega) (by omega)) ?_
          refine tt_goto ?_
          refine tt_loc [(0, vR 36), (1, vI (((m : Nat) : Int))), (2, vI (((h + 1 : Nat) : Int)))] rfl rfl ⟨rfl, rfl, rfl, trivial⟩ ?_
          exact ih1 (h + 1) _ (by omega) (Fr.put (Fr.tr Fr.rf hF_σ1 (by decide)) (by decide)) (by omega) (fun g hg => by rw [am_set_at]; by_cases e : g = h; (subst e; rw [if_pos rfl]; unfold cPr; first | (rw [if_pos (by assumption)]) | (rw [if_neg (by assumption), show σ1.1 9 = σ.1 9 from funext (hF_σ1.2 9 (by decide))])); (rw [if_neg (by omega)]; exact hA g (by omega))) (fun j hj => by rw [am_set_at, if_neg (by omega)]; exact hO j hj)
        · refine tt_ar rfl ?_
          refine tt_goto ?_
          refine tt_iast (((m * 462) + h)) (wa_39 hW_σ1) (by omega) (by omega) (by omega) ?_
          refine tt_iinc (y := ((h + 1 : Nat) : Int)) rfl (iinc_fit (by omega) (by omega) (by omega)) ?_
          refine tt_goto ?_
          refine tt_loc [(0, vR 36), (1, vI (((m : Nat) : Int))), (2, vI (((h + 1 : Nat) : Int)))] rfl rfl ⟨rfl, rfl, rfl, trivial⟩ ?_
          exact ih1 (h + 1) _ (by omega) (Fr.put (Fr.tr Fr.rf hF_σ1 (by decide)) (by decide)) (by omega) (fun g hg => by rw [am_set_at]; by_cases e : g = h; (subst e; rw [if_pos rfl]; unfold cPr; first | (rw [if_pos (by assumption)]) | (rw [if_neg (by assumption), show σ1.1 9 = σ.1 9 from funext (hF_σ1.2 9 (by decide))])); (rw [if_neg (by omega)]; exact hA g (by omega))) (fun j hj => by rw [am_set_at, if_neg (by omega)]; exact hO j hj)
  refine tt_loc [(0, vR 36), (1, vI (((m : Nat) : Int))), (2, vI (((0 : Nat) : Int)))] rfl rfl ⟨rfl, rfl, lv_to rfl (by omega), trivial⟩ ?_
  exact lp1_1 _ (0) σ (Nat.lt_succ_self _) Fr.rf (by omega) (fun g hg => absurd hg (Nat.not_lt_zero g)) (fun j _ => rfl)

theorem c104 (σ : am_S) (k nm : Nat) (hW : Wd σ) (hD : LD k σ) (hH : HT k σ) (hL : LN nm σ) (D ex : Nat → Nat → Int) (hDI : DI k (σ.1 6) (σ.1 9) D) (hex : ∀ m h, h < nkT k → 0 ≤ ex m h ∧ ex m h ≤ 1000000) (h39 : ∀ m, m < nm → ∀ h, h < nkT k → σ.1 39 (m * 462 + h) = ex m h) : CC 104 [vR 36] σ (fun r σ' => r = some (vI (bsN 1000000 (nkT k) nm D ex)) ∧ Fr [38, 40] σ σ' ∧ ∀ q, q < nm → ∀ h, h < nkT k → σ'.1 40 (q * 462 + h) = ahN 1000000 (nkT k) D ex q h) := by
  show TT am_b104 (am_b104.getD 0 []) [(0, vR 36)] [] σ _
  have hk6 := hD.2.1
  have hnb := nkT_bd k
  have hnm := hL.2.1
  have hpr := hD.2.2.2.1
  have hDb : ∀ a b, a < nkT k → b < nkT k → 0 ≤ D a b := fun a b ha hb => (DI.bd hk6 hpr hDI ha hb).1
  have hab : ∀ m h, h < nkT k → 0 ≤ ahN 1000000 (nkT k) D ex m h ∧ ahN 1000000 (nkT k) D ex m h ≤ 1000000 := fun m h hh => ahN_bd (by omega) (by omega) hDb (fun m h hh => (hex m h hh).1) m hh
  refine tt_ar rfl ?_
  refine tt_getR (wo_36 hW) rfl (wr_36_9 hW) ?_
  refine tt_ar rfl ?_
  refine tt_cs2 2 rfl (c4 σ 38 462 1000000 (wa_38 hW) (by decide) (by rfl)) ?_
  intro r0 σ0 hq0
  obtain ⟨rfl, hF0, hC0⟩ := hq0
  have hW1 := Fr.wd hF0 hW
  refine tt_ar rfl ?_
  refine tt_getR (wo_36 hW1) rfl (wr_36_9 hW1) ?_
  refine tt_ar rfl ?_
  refine tt_ar rfl ?_
  refine tt_iast (0) (wa_38 hW1) (by omega) rfl (by omega) ?_
  refine tt_ar rfl ?_
  refine tt_ar rfl ?_
  refine tt_nop ?_
  have lp1_2 : ∀ (μ : Nat) (m : Nat) (σ1 : am_S), nm - m < μ → Fr [38, 40] σ σ1 → (m ≤ nm) → (∀ g, g < nkT k → σ1.1 38 g = if m = 0 then dlN 0 g else ahN 1000000 (nkT k) D ex (m - 1) g) → (∀ q, q < m → ∀ h, h < nkT k → σ1.1 40 (q * 462 + h) = ahN 1000000 (nkT k) D ex q h) → TT am_b104 (am_b104.getD 1 []) [(0, vR 36), (1, vI (((m : Nat) : Int)))] [] σ1 (fun r σ' => r = some (vI (bsN 1000000 (nkT k) nm D ex)) ∧ Fr [38, 40] σ σ' ∧ ∀ q, q < nm → ∀ h, h < nkT k → σ'.1 40 (q * 462 + h) = ahN 1000000 (nkT k) D ex q h) := by
    intro μ
    induction μ with
    | zero => intro m σ1 hμ; exact absurd hμ (Nat.not_lt_zero _)
    | succ μ ih1 =>
      intro m σ1 hμ hF_σ1 hm hw hA
      have hW_σ1 := Fr.wd hF_σ1 hW
      refine tt_ar rfl ?_
      refine tt_ar rfl ?_
      refine tt_getR (wo_36 hW_σ1) rfl (wr_36_1 hW_σ1) ?_
      refine tt_getI (x := ((nm : Nat) : Int)) (wo_27 hW_σ1) rfl ((hF_σ1.2 27 (by decide) (0)).trans hL.1) ?_
      refine tt_icge (fun h1_4 => ?_) (fun h1_4 => ?_)
      · refine tt_ar rfl ?_
        refine tt_ar rfl ?_
        refine tt_ar rfl ?_
        refine tt_ar rfl ?_
        refine tt_nop ?_
        have lp3_3 : ∀ (μ : Nat) (h : Nat), nkT k - h < μ → (h ≤ nkT k) → TT am_b104 (am_b104.getD 3 []) [(0, vR 36), (1, vI (mnN 1000000 h (σ1.1 38))), (2, vI (((h : Nat) : Int)))] [] σ1 (fun r σ' => r = some (vI (bsN 1000000 (nkT k) nm D ex)) ∧ Fr [38, 40] σ σ' ∧ ∀ q, q < nm → ∀ h, h < nkT k → σ'.1 40 (q * 462 + h) = ahN 1000000 (nkT k) D ex q h) := by
          intro μ
          induction μ with
          | zero => intro h hμ; exact absurd hμ (Nat.not_lt_zero _)
          | succ μ ih3 =>
            intro h hμ hh
            refine tt_ar rfl ?_
            refine tt_ar rfl ?_
            refine tt_getR (wo_36 hW_σ1) rfl (wr_36_0 hW_σ1) ?_
            refine tt_getI (x := ((nkT k : Nat) : Int)) (wo_18 hW_σ1) rfl ((hF_σ1.2 18 (by decide) (1)).trans hH.1) ?_
            refine tt_icge (fun h3_4 => ?_) (fun h3_4 => ?_)
            · refine tt_ar rfl ?_
              refine tt_iret ?_
              have e1 : m = nm := by omega
              subst e1
              have e2 : nkT k = h := by omega
              refine ⟨rv ?_, hF_σ1, hA⟩
              rw [← e2]
              unfold bsN
              by_cases e0 : m = 0
              · rw [if_pos e0, mnN_congr (g := dlN 0) (fun g hg => by rw [hw g hg, if_pos e0])]
                have q1 : mnN 1000000 (nkT k) (dlN 0) ≤ dlN 0 0 := mnN_lt (by omega)
                have q2 := (mnN_bd (F := 1000000) (f := dlN 0) (n := nkT k) (by omega) (fun i hi => by unfold dlN; split <;> omega)).1
                have q3 : dlN 0 0 = 0 := rfl
                omega
              · rw [if_neg e0]
                exact mnN_congr (fun g hg => by rw [hw g hg, if_neg e0])
            · refine tt_ar rfl ?_
              refine tt_ar rfl ?_
              refine tt_getR (wo_36 hW_σ1) rfl (wr_36_9 hW_σ1) ?_
              refine tt_ar rfl ?_
              refine tt_iald (h) (x := σ1.1 38 (h)) (wa_38 hW_σ1) rfl (by omega) rfl ?_
              refine tt_min (z := (if σ1.1 38 (h) < mnN 1000000 h (σ1.1 38) then σ1.1 38 (h) else mnN 1000000 h (σ1.1 38))) rfl rfl ?_
              refine tt_ar rfl ?_
              refine tt_iinc (y := ((h + 1 : Nat) : Int)) rfl (iinc_fit (by omega) (by omega) (by omega)) ?_
              refine tt_goto ?_
              refine tt_loc [(0, vR 36), (1, vI (mnN 1000000 (h + 1) (σ1.1 38))), (2, vI (((h + 1 : Nat) : Int)))] rfl rfl ⟨rfl, lv_to rfl rfl, rfl, trivial⟩ ?_
              exact ih3 (h + 1) (by omega) (by omega)
        refine tt_loc [(0, vR 36), (1, vI (mnN 1000000 0 (σ1.1 38))), (2, vI (((0 : Nat) : Int)))] rfl rfl ⟨rfl, lv_to rfl rfl, lv_to rfl (by omega), trivial⟩ ?_
        exact lp3_3 _ (0) (Nat.lt_succ_self _) (by omega)
      · refine tt_ar rfl ?_
        refine tt_getR (wo_36 hW_σ1) rfl (wr_36_3 hW_σ1) ?_
        refine tt_ar rfl ?_
        refine tt_getR (wo_36 hW_σ1) rfl (wr_36_9 hW_σ1) ?_
        have hbw : bnN (nkT k) (σ1.1 38) := fun g hg => by rw [hw g hg]; split; (unfold dlN; split <;> omega); exact hab _ _ hg
        refine tt_cv2 2 rfl (wo_32 hW_σ1) (c94_38 σ1 k hW_σ1 (LD.fr hF_σ1 (by decide) hD) (HT.fr hF_σ1 (by decide) hH) hbw) ?_
        intro r0 σ2 hq0
        obtain ⟨rfl, hF2, hbn2, hSP⟩ := hq0
        have hW4 := Fr.wd hF2 hW_σ1
        rw [show σ1.1 6 = σ.1 6 from funext (hF_σ1.2 6 (by decide)), show σ1.1 9 = σ.1 9 from funext (hF_σ1.2 9 (by decide))] at hSP
        have hw2 : ∀ h, h < nkT k → miN 1000000 (σ2.1 38 h + ex m h) = ahN 1000000 (nkT k) D ex m h := by
          intro h hh
          cases m with
          | zero =>
            have := SP_eq (SP_c0 hSP (fun g hg => (hw g hg).trans (if_pos rfl))) (hDI 0 (by omega)) hh
            rw [this]; rfl
          | succ m =>
            have q := spread_min hDI hbw hSP hh
            rw [q, mnN_congr (g := fun g => ahN 1000000 (nkT k) D ex m g + D g h) (fun g hg => by rw [hw g hg, if_neg (by omega)]; rfl)]
            rfl
        have hF12 : Fr [38, 40] σ σ2 := Fr.tr hF_σ1 hF2 (by decide)
        refine tt_ar rfl ?_
        refine tt_ar rfl ?_
        refine tt_cv2 2 rfl (wo_36 hW4) (c105 σ2 k nm hW4 (LD.fr hF12 (by decide) hD) (HT.fr hF12 (by decide) hH) (LN.fr hF12 (by decide) hL) m (by omega) hbn2 (fun h hh => by rw [hF12.2 39 (by decide), h39 m (by omega) h hh]; exact hex m h hh)) ?_
        intro r0 σ3 hq0
        obtain ⟨rfl, hF3, hx3⟩ := hq0
        have hW5 := Fr.wd hF3 hW4
        have hw3 : ∀ h, h < nkT k → σ3.1 38 h = ahN 1000000 (nkT k) D ex m h := fun h hh => by rw [hx3 h hh, hF12.2 39 (by decide), h39 m (by omega) h hh]; exact hw2 h hh
        refine tt_ar rfl ?_
        refine tt_getR (wo_36 hW5) rfl (wr_36_9 hW5) ?_
        refine tt_ar rfl ?_
        refine tt_ar rfl ?_
        refine tt_getR (wo_36 hW5) rfl (wr_36_11 hW5) ?_
        refine tt_ar rfl ?_
        refine tt_ar rfl ?_
        refine tt_imul (by omega) (by omega) ?_
        refine tt_ar rfl ?_
        refine tt_acopy (sp := 0) (dp := (m * 462)) (n := 462) (wa_38 hW5) (wa_40 hW5) rfl (by omega) rfl (by omega) (by omega) (by omega) (by omega) rfl ?_
        obtain ⟨σc6, hFc7, hCc8, hg9⟩ := cpy_ex σ3 38 (0) 40 ((m * 462)) (462)
        rw [hg9]
        have hW10 := Fr.wd hFc7 hW5
        refine tt_iinc (y := ((m + 1 : Nat) : Int)) rfl (iinc_fit (by omega) (by omega) (by omega)) ?_
        refine tt_goto ?_
        refine tt_loc [(0, vR 36), (1, vI (((m + 1 : Nat) : Int)))] rfl rfl ⟨rfl, rfl, trivial⟩ ?_
        exact ih1 (m + 1) σc6 (by omega) (Fr.tr (Fr.tr (Fr.tr (Fr.tr Fr.rf hF_σ1 (by decide)) hF2 (by decide)) hF3 (by decide)) hFc7 (by decide)) (by omega) (fun g hg => by rw [if_neg (by omega), hFc7.2 38 (by decide)]; exact hw3 g hg) (fun q hq h hh => by rw [hCc8]; by_cases e : q = m; (subst e; rw [if_pos (by omega), show 0 + (q * 462 + h - q * 462) = h by omega]; exact hw3 h hh); (rw [if_neg (by omega), hF3.2 40 (by decide), hF2.2 40 (by decide)]; exact hA q (by omega) h hh))
  refine tt_loc [(0, vR 36), (1, vI (((0 : Nat) : Int)))] rfl rfl ⟨rfl, lv_to rfl (by omega), trivial⟩ ?_
  exact lp1_2 _ (0) _ (Nat.lt_succ_self _) (Fr.put (Fr.tr Fr.rf hF0 (by decide)) (by decide)) (by omega) (fun g hg => by rw [am_set_up, if_pos rfl]; unfold upI dlN; split; rfl; (rw [hC0 g, if_pos (by omega)])) (fun q hq => absurd hq (Nat.not_lt_zero q))

