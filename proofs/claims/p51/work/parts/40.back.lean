/-! WINTER ON THE MACHINE, backwards; lists of plain ones -/
theorem c107 (σ : am_S) (k nm : Nat) (hW : Wd σ) (hD : LD k σ) (hH : HT k σ) (hL : LN nm σ) (D ex : Nat → Nat → Int) (hDI : DI k (σ.1 6) (σ.1 9) D) (hex : ∀ m h, h < nkT k → 0 ≤ ex m h ∧ ex m h ≤ 1000000) (h39 : ∀ m, m < nm → ∀ h, h < nkT k → σ.1 39 (m * 462 + h) = ex m h) : CC 107 [vR 36] σ (fun r σ' => r = none ∧ Fr [38, 41] σ σ' ∧ ∀ q, q < nm → ∀ h, h < nkT k → σ'.1 41 (q * 462 + h) = bkN 1000000 (nkT k) nm D ex (nm - 1 - q) h) := by
  show TT am_b107 (am_b107.getD 0 []) [(0, vR 36)] [] σ _
  have hk6 := hD.2.1
  have hnb := nkT_bd k
  have hnm := hL.2.1
  have hpr := hD.2.2.2.1
  have hDb : ∀ a b, a < nkT k → b < nkT k → 0 ≤ D a b := fun a b ha hb => (DI.bd hk6 hpr hDI ha hb).1
  have hab : ∀ m h, h < nkT k → 0 ≤ ahN 1000000 (nkT k) D ex m h ∧ ahN 1000000 (nkT k) D ex m h ≤ 1000000 := fun m h hh => ahN_bd (by omega) (by omega) hDb (fun m h hh => (hex m h hh).1) m hh
  have hbb : ∀ j h, h < nkT k → 0 ≤ bkN 1000000 (nkT k) nm D ex j h ∧ bkN 1000000 (nkT k) nm D ex j h ≤ 1000000 := fun j h hh => bkN_bd (by omega) hDb (fun m h hh => (hex m h hh).1) j hh
  refine tt_ar rfl ?_
  refine tt_getR (wo_36 hW) rfl (wr_36_9 hW) ?_
  refine tt_ar rfl ?_
  refine tt_cs2 2 rfl (c4 σ 38 462 0 (wa_38 hW) (by decide) (by rfl)) ?_
  intro r0 σ0 hq0
  obtain ⟨rfl, hF0, hC0⟩ := hq0
  have hW1 := Fr.wd hF0 hW
  refine tt_ar rfl ?_
  refine tt_getR (wo_36 hW1) rfl (wr_36_1 hW1) ?_
  refine tt_getI (x := ((nm : Nat) : Int)) (wo_27 hW1) rfl ((hF0.2 27 (by decide) (0)).trans hL.1) ?_
  refine tt_ar rfl ?_
  refine tt_isub (by omega) (by omega) ?_
  refine tt_ar rfl ?_
  refine tt_nop ?_
  have lp1_2 : ∀ (μ : Nat) (j : Nat) (σ1 : am_S), j < μ → Fr [38, 41] σ σ1 → (j ≤ nm) → (∀ g, g < nkT k → σ1.1 38 g = bkN 1000000 (nkT k) nm D ex (nm - j) g) → (∀ q, j ≤ q → q < nm → ∀ h, h < nkT k → σ1.1 41 (q * 462 + h) = bkN 1000000 (nkT k) nm D ex (nm - 1 - q) h) → TT am_b107 (am_b107.getD 1 []) [(0, vR 36), (1, vI ((((j : Nat) : Int) - 1)))] [] σ1 (fun r σ' => r = none ∧ Fr [38, 41] σ σ' ∧ ∀ q, q < nm → ∀ h, h < nkT k → σ'.1 41 (q * 462 + h) = bkN 1000000 (nkT k) nm D ex (nm - 1 - q) h) := by
    intro μ
    induction μ with
    | zero => intro j σ1 hμ; exact absurd hμ (Nat.not_lt_zero _)
    | succ μ ih1 =>
      intro j σ1 hμ hF_σ1 hj hw hA
      have hW_σ1 := Fr.wd hF_σ1 hW
      refine tt_ar rfl ?_
      refine tt_iflt (fun h1_1 => ?_) (fun h1_1 => ?_)
      · refine tt_vret ?_
        have e1 : j = 0 := by omega
        subst e1
        exact ⟨rfl, hF_σ1, fun q hq h hh => hA q (Nat.zero_le _) hq h hh⟩
      · refine tt_loc [(0, vR 36), (1, vI (((j - 1 : Nat) : Int)))] rfl rfl ⟨rfl, lv_to rfl (by omega), trivial⟩ ?_
        refine tt_ar rfl ?_
        refine tt_getR (wo_36 hW_σ1) rfl (wr_36_9 hW_σ1) ?_
        refine tt_ar rfl ?_
        refine tt_ar rfl ?_
        refine tt_getR (wo_36 hW_σ1) rfl (wr_36_12 hW_σ1) ?_
        refine tt_ar rfl ?_
        refine tt_ar rfl ?_
        refine tt_imul (by omega) (by omega) ?_
        refine tt_ar rfl ?_
        refine tt_acopy (sp := 0) (dp := ((j - 1) * 462)) (n := 462) (wa_38 hW_σ1) (wa_41 hW_σ1) rfl (by omega) rfl (by omega) (by omega) (by omega) (by omega) rfl ?_
        obtain ⟨σc3, hFc4, hCc5, hg6⟩ := cpy_ex σ1 38 (0) 41 (((j - 1) * 462)) (462)
        rw [hg6]
        have hW7 := Fr.wd hFc4 hW_σ1
        refine tt_ar rfl ?_
        refine tt_ar rfl ?_
        have hF1c : Fr [38, 41] σ σc3 := Fr.tr hF_σ1 hFc4 (by decide)
        refine tt_cv2 2 rfl (wo_36 hW7) (c105 σc3 k nm hW7 (LD.fr hF1c (by decide) hD) (HT.fr hF1c (by decide) hH) (LN.fr hF1c (by decide) hL) (j - 1) (by omega) (fun g hg => by rw [hFc4.2 38 (by decide), hw g hg]; exact hbb _ g hg) (fun h hh => by rw [hF1c.2 39 (by decide), h39 (j - 1) (by omega) h hh]; exact hex _ h hh)) ?_
        intro r0 σ3 hq0
        obtain ⟨rfl, hF3, hx3⟩ := hq0
        have hW8 := Fr.wd hF3 hW7
        have hw3 : ∀ h, h < nkT k → σ3.1 38 h = miN 1000000 (bkN 1000000 (nkT k) nm D ex (nm - j) h + ex (j - 1) h) := fun h hh => by rw [hx3 h hh, hF1c.2 39 (by decide), h39 (j - 1) (by omega) h hh, hFc4.2 38 (by decide), hw h hh]
        have hF13 : Fr [38, 41] σ σ3 := Fr.tr hF1c hF3 (by decide)
        refine tt_ar rfl ?_
        refine tt_getR (wo_36 hW8) rfl (wr_36_3 hW8) ?_
        refine tt_ar rfl ?_
        refine tt_getR (wo_36 hW8) rfl (wr_36_9 hW8) ?_
        have hbw : bnN (nkT k) (σ3.1 38) := fun g hg => by rw [hw3 g hg]; exact miN_bd (by omega) (by have := hbb (nm - j) g hg; have := hex (j - 1) g hg; omega)
        refine tt_cv2 2 rfl (wo_32 hW8) (c108_38 σ3 k hW8 (LD.fr hF13 (by decide) hD) (HT.fr hF13 (by decide) hH) hbw) ?_
        intro r0 σ4 hq0
        obtain ⟨rfl, hF4, hbn4, hSP⟩ := hq0
        have hW9 := Fr.wd hF4 hW8
        rw [show σ3.1 6 = σ.1 6 from funext (hF13.2 6 (by decide)), show σ3.1 9 = σ.1 9 from funext (hF13.2 9 (by decide))] at hSP
        have hw4 : ∀ h, h < nkT k → σ4.1 38 h = bkN 1000000 (nkT k) nm D ex (nm - (j - 1)) h := fun h hh => by
          rw [gather_min hDI hbw hpr hSP hh, show nm - (j - 1) = (nm - j) + 1 by omega]
          exact mnN_congr (fun g hg => by rw [hw3 g hg, show nm - 1 - (nm - j) = j - 1 by omega])
        refine tt_iinc (y := (((j - 1 : Nat) : Int) - 1)) rfl (iinc_fit (by omega) (by omega) (by omega)) ?_
        refine tt_goto ?_
        refine tt_loc [(0, vR 36), (1, vI ((((j - 1 : Nat) : Int) - 1)))] rfl rfl ⟨rfl, rfl, trivial⟩ ?_
        exact ih1 (j - 1) σ4 (by omega) (Fr.tr (Fr.tr (Fr.tr (Fr.tr Fr.rf hF_σ1 (by decide)) hFc4 (by decide)) hF3 (by decide)) hF4 (by decide)) (by omega) hw4 (fun q h1 h2 h hh => by rw [hF4.2 41 (by decide), hF3.2 41 (by decide), hCc5]; by_cases e : q = j - 1; (subst e; rw [if_pos (by omega), show 0 + ((j - 1) * 462 + h - (j - 1) * 462) = h by omega, hw h hh, show nm - 1 - (j - 1) = nm - j by omega]); (rw [if_neg (by omega)]; exact hA q (by omega) h2 h hh))
  refine tt_loc [(0, vR 36), (1, vI ((((nm : Nat) : Int) - 1)))] rfl rfl ⟨rfl, rfl, trivial⟩ ?_
  exact lp1_2 _ (nm) σ0 (Nat.lt_succ_self _) (Fr.tr Fr.rf hF0 (by decide)) (by omega) (fun g hg => by rw [hC0 g, if_pos (by omega), show nm - nm = 0 by omega]; rfl) (fun q h1 h2 => absurd h1 (by omega))

/-- what winter knows when it is weighed -/
def WK (k nm : Nat) (D ex : Nat → Nat → Int) (σ : am_S) : Prop := σ.1 36 6 = bsN 1000000 (nkT k) nm D ex ∧ (∀ m, m < nm → ∀ h, h < nkT k → σ.1 39 (m * 462 + h) = ex m h ∧ σ.1 40 (m * 462 + h) = ahN 1000000 (nkT k) D ex m h) ∧ (bsN 1000000 (nkT k) nm D ex < 1000000 → ∀ m, m < nm → ∀ h, h < nkT k → σ.1 41 (m * 462 + h) = bkN 1000000 (nkT k) nm D ex (nm - 1 - m) h)
theorem c111 (σ : am_S) (k nm : Nat) (hW : Wd σ) (hD : LD k σ) (hH : HT k σ) (hL : LN nm σ) (m h : Nat) (hm : m < nm) (hh : h < nkT k) (D ex : Nat → Nat → Int) (hDI : DI k (σ.1 6) (σ.1 9) D) (hex : ∀ m h, h < nkT k → 0 ≤ ex m h ∧ ex m h ≤ 1000000) (hK : WK k nm D ex σ) : CC 111 [vR 36, vI (((m : Nat) : Int)), vI (((h : Nat) : Int))] σ (fun r σ' => r = some (vI (if bsN 1000000 (nkT k) nm D ex < 1000000 then ctM 1000000 (nkT k) nm D ex m h else 1000000)) ∧ σ' = σ) := by
  show TT am_b111 (am_b111.getD 0 []) [(0, vR 36), (1, vI (((m : Nat) : Int))), (2, vI (((h : Nat) : Int)))] [] σ _
  have hk6 := hD.2.1
  have hnb := nkT_bd k
  have hnm := hL.2.1
  have hpr := hD.2.2.2.1
  have hDb : ∀ a b, a < nkT k → b < nkT k → 0 ≤ D a b := fun a b ha hb => (DI.bd hk6 hpr hDI ha hb).1
  have hab : ∀ m h, h < nkT k → 0 ≤ ahN 1000000 (nkT k) D ex m h ∧ ahN 1000000 (nkT k) D ex m h ≤ 1000000 := fun m h hh => ahN_bd (by omega) (by omega) hDb (fun m h hh => (hex m h hh).1) m hh
  have hbb : ∀ j h, h < nkT k → 0 ≤ bkN 1000000 (nkT k) nm D ex j h ∧ bkN 1000000 (nkT k) nm D ex j h ≤ 1000000 := fun j h hh => bkN_bd (by omega) hDb (fun m h hh => (hex m h hh).1) j hh
  refine tt_ar rfl ?_
  refine tt_cv1 1 rfl (wo_36 hW) (c106 σ hW) (kb (fun h0_1 => ?_) (fun h0_1 => ?_))
  · refine tt_ifeqF (by decide) ?_
    refine tt_ar rfl ?_
    refine tt_getR (wo_36 hW) rfl (wr_36_11 hW) ?_
    refine tt_ar rfl ?_
    refine tt_ar rfl ?_
    refine tt_imul (by omega) (by omega) ?_
    refine tt_ar rfl ?_
    refine tt_iadd (by omega) (by omega) ?_
    refine tt_iald (((m * 462) + h)) (x := ahN 1000000 (nkT k) D ex m h) (wa_40 hW) (by omega) (by omega) (hK.2.1 m hm h hh).2 ?_
    have q1 := hab m h hh
    refine tt_ar rfl ?_
    refine tt_getR (wo_36 hW) rfl (wr_36_12 hW) ?_
    refine tt_ar rfl ?_
    refine tt_ar rfl ?_
    refine tt_imul (by omega) (by omega) ?_
    refine tt_ar rfl ?_
    refine tt_iadd (by omega) (by omega) ?_
    refine tt_iald (((m * 462) + h)) (x := bkN 1000000 (nkT k) nm D ex (nm - 1 - m) h) (wa_41 hW) (by omega) (by omega) (hK.2.2 (by have := hK.1; omega) m hm h hh) ?_
    have q2 := hbb (nm - 1 - m) h hh
    refine tt_iadd (by omega) (by omega) ?_
    refine tt_goto ?_
    refine tt_iret ?_
    have hb0 := hK.1
    exact ⟨rv (by rw [if_pos (by omega)]; rfl), rfl⟩
  · refine tt_ifeqT (by decide) ?_
    refine tt_ar rfl ?_
    refine tt_nop ?_
    refine tt_iret ?_
    have hb0 := hK.1
    exact ⟨rv (by rw [if_neg (by omega)]), rfl⟩

theorem WK.fr {W : List Nat} {k nm : Nat} {D ex : Nat → Nat → Int} {σ σ' : am_S} (h : Fr W σ σ') (hw : ∀ a ∈ W, a < 36 ∨ (36 < a ∧ a < 39) ∨ 41 < a) (R : WK k nm D ex σ) : WK k nm D ex σ' := by
  have q : ∀ a, (a = 36 ∨ a = 39 ∨ a = 40 ∨ a = 41) → ∀ j, σ'.1 a j = σ.1 a j := fun a h1 j => h.2 a (fun e => by have := hw a e; omega) j
  obtain ⟨h1, h2, h3⟩ := R
  exact ⟨by rw [q 36 (by omega)]; exact h1, fun m hm x hx => by rw [q 39 (by omega), q 40 (by omega)]; exact h2 m hm x hx, fun ht m hm x hx => by rw [q 41 (by omega)]; exact h3 ht m hm x hx⟩
theorem list_a {σ1 : am_S} {p : Nat → Bool} {m h : Nat} (hA : ∀ g, g < h → p g = true → σ1.1 42 (m * 462 + ctN p g) = (g : Int)) (hp : p h = true) : ∀ g, g < h + 1 → p g = true → (am_set σ1 42 (m * 462 + ctN p h) (h : Int)).1 42 (m * 462 + ctN p g) = (g : Int) := by
  intro g hg hpg
  rw [am_set_at]
  by_cases e : g = h
  · subst e
    rw [if_pos rfl]
  · have := ctN_lt hpg (show g < h by omega)
    rw [if_neg (by omega)]
    exact hA g (by omega) hpg
theorem list_b {σ1 : am_S} {p : Nat → Bool} {m h : Nat} (hA : ∀ g, g < h → p g = true → σ1.1 42 (m * 462 + ctN p g) = (g : Int)) (hp : p h = false) : ∀ g, g < h + 1 → p g = true → σ1.1 42 (m * 462 + ctN p g) = (g : Int) := by
  intro g hg hpg
  by_cases e : g = h
  · subst e
    rw [hp] at hpg
    cases hpg
  · exact hA g (by omega) hpg
theorem c110 (σ : am_S) (k nm : Nat) (hW : Wd σ) (hD : LD k σ) (hH : HT k σ) (hL : LN nm σ) (m : Nat) (hm : m < nm) (D ex : Nat → Nat → Int) (hDI : DI k (σ.1 6) (σ.1 9) D) (hex : ∀ m h, h < nkT k → 0 ≤ ex m h ∧ ex m h ≤ 1000000) (hK : WK k nm D ex σ) (ht : bsN 1000000 (nkT k) nm D ex < 1000000) : CC 110 [vR 36, vI (((m : Nat) : Int))] σ (fun r σ' => r = none ∧ Fr [42, 43] σ σ' ∧ LI (plM 1000000 (nkT k) nm D ex m) (nkT k) (fun i => σ'.1 42 (m * 462 + i)) ∧ σ'.1 43 m = ((ctN (plM 1000000 (nkT k) nm D ex m) (nkT k) : Nat) : Int) ∧ (∀ j, (j < m * 462 ∨ m * 462 + 462 ≤ j) → σ'.1 42 j = σ.1 42 j) ∧ ∀ j, j ≠ m → σ'.1 43 j = σ.1 43 j) := by
  show TT am_b110 (am_b110.getD 0 []) [(0, vR 36), (1, vI (((m : Nat) : Int)))] [] σ _
  have hk6 := hD.2.1
  have hnb := nkT_bd k
  have hnm := hL.2.1
  have hpr := hD.2.2.2.1
  have hDb : ∀ a b, a < nkT k → b < nkT k → 0 ≤ D a b := fun a b ha hb => (DI.bd hk6 hpr hDI ha hb).1
  have hab : ∀ m h, h < nkT k → 0 ≤ ahN 1000000 (nkT k) D ex m h ∧ ahN 1000000 (nkT k) D ex m h ≤ 1000000 := fun m h hh => ahN_bd (by omega) (by omega) hDb (fun m h hh => (hex m h hh).1) m hh
  have hbb : ∀ j h, h < nkT k → 0 ≤ bkN 1000000 (nkT k) nm D ex j h ∧ bkN 1000000 (nkT k) nm D ex j h ≤ 1000000 := fun j h hh => bkN_bd (by omega) hDb (fun m h hh => (hex m h hh).1) j hh
  refine tt_ar rfl ?_
  refine tt_ar rfl ?_
  refine tt_ar rfl ?_
  refine tt_ar rfl ?_
  refine tt_nop ?_
  have lp1_1 : ∀ (μ : Nat) (h : Nat) (σ1 : am_S), nkT k - h < μ → Fr [42] σ σ1 → (h ≤ nkT k) → (∀ g, g < h → plM 1000000 (nkT k) nm D ex m g = true → σ1.1 42 (m * 462 + ctN (plM 1000000 (nkT k) nm D ex m) g) = (g : Int)) → (∀ j, (j < m * 462 ∨ m * 462 + 462 ≤ j) → σ1.1 42 j = σ.1 42 j) → TT am_b110 (am_b110.getD 1 []) [(0, vR 36), (1, vI (((m : Nat) : Int))), (2, vI (((ctN (plM 1000000 (nkT k) nm D ex m) h : Nat) : Int))), (3, vI (((h : Nat) : Int)))] [] σ1 (fun r σ' => r = none ∧ Fr [42, 43] σ σ' ∧ LI (plM 1000000 (nkT k) nm D ex m) (nkT k) (fun i => σ'.1 42 (m * 462 + i)) ∧ σ'.1 43 m = ((ctN (plM 1000000 (nkT k) nm D ex m) (nkT k) : Nat) : Int) ∧ (∀ j, (j < m * 462 ∨ m * 462 + 462 ≤ j) → σ'.1 42 j = σ.1 42 j) ∧ ∀ j, j ≠ m → σ'.1 43 j = σ.1 43 j) := by
    intro μ
    induction μ with
    | zero => intro h σ1 hμ; exact absurd hμ (Nat.not_lt_zero _)
    | succ μ ih1 =>
      intro h σ1 hμ hF_σ1 hh hA hO
      have hW_σ1 := Fr.wd hF_σ1 hW
      have hcl := ctN_le (p := plM 1000000 (nkT k) nm D ex m) h
      refine tt_ar rfl ?_
      refine tt_ar rfl ?_
      refine tt_getR (wo_36 hW_σ1) rfl (wr_36_0 hW_σ1) ?_
      refine tt_getI (x := ((nkT k : Nat) : Int)) (wo_18 hW_σ1) rfl ((hF_σ1.2 18 (by decide) (1)).trans hH.1) ?_
      refine tt_icge (fun h1_4 => ?_) (fun h1_4 => ?_)
      · refine tt_ar rfl ?_
        refine tt_getR (wo_36 hW_σ1) rfl (wr_36_14 hW_σ1) ?_
        refine tt_ar rfl ?_
        refine tt_ar rfl ?_
        refine tt_iast (m) (wa_43 hW_σ1) (by omega) rfl (by omega) ?_
        refine tt_vret ?_
        have e1 : nkT k = h := by omega
        refine ⟨rfl, (Fr.put (Fr.tr Fr.rf hF_σ1 (by decide)) (by decide)), fun g hg hp => hA g (by omega) hp, ?_, fun j hj => hO j hj, fun j hj => by rw [am_set_at, if_neg hj]; exact hF_σ1.2 43 (by decide) j⟩
        rw [am_set_at, if_pos rfl, e1]
      · refine tt_ar rfl ?_
        refine tt_ar rfl ?_
        refine tt_ar rfl ?_
        have hFl : Fr [42] σ σ1 := (Fr.tr Fr.rf hF_σ1 (by decide))
        have hDI1 : DI k (σ1.1 6) (σ1.1 9) D := by rw [show σ1.1 6 = σ.1 6 from funext (hFl.2 6 (by decide)), show σ1.1 9 = σ.1 9 from funext (hFl.2 9 (by decide))]; exact hDI
        have hK1 : WK k nm D ex σ1 := WK.fr hFl (by decide) hK
        refine tt_cv3 3 rfl (wo_36 hW_σ1) (c111 σ1 k nm hW_σ1 (LD.fr hFl (by decide) hD) (HT.fr hFl (by decide) hH) (LN.fr hFl (by decide) hL) m h hm (by omega) D ex hDI1 hex hK1) (kp ?_)
        refine tt_ar rfl ?_
        refine tt_getI (x := bsN 1000000 (nkT k) nm D ex) (wo_36 hW_σ1) rfl ((hF_σ1.2 36 (by decide) (6)).trans hK.1) ?_
        refine tt_icne (fun h1_11 => ?_) (fun h1_11 => ?_)
        · have hpn : ¬ ctM 1000000 (nkT k) nm D ex m h = bsN 1000000 (nkT k) nm D ex := by have := h1_11; rw [if_pos ht] at this; exact this
          refine tt_iinc (y := ((h + 1 : Nat) : Int)) rfl (iinc_fit (by omega) (by omega) (by omega)) ?_
          refine tt_goto ?_
          refine tt_loc [(0, vR 36), (1, vI (((m : Nat) : Int))), (2, vI (((ctN (plM 1000000 (nkT k) nm D ex m) (h + 1) : Nat) : Int))), (3, vI (((h + 1 : Nat) : Int)))] rfl rfl ⟨rfl, rfl, lv_to rfl (by rw [ctN_s]; first | (rw [if_pos (show plM 1000000 (nkT k) nm D ex m h = true from decide_eq_true hpp)]; first | done | omega) | (rw [if_neg (fun e : plM 1000000 (nkT k) nm D ex m h = true => hpn (of_decide_eq_true e))])), rfl, trivial⟩ ?_
          exact ih1 (h + 1) σ1 (by omega) (Fr.tr Fr.rf hF_σ1 (by decide)) (by omega) (by first | exact list_a hA (decide_eq_true hpp) | exact list_b hA (decide_eq_false hpn)) (by first | exact hO | exact (fun j hj => by rw [am_set_at, if_neg (by omega)]; exact hO j hj))
        · refine tt_ar rfl ?_
          refine tt_getR (wo_36 hW_σ1) rfl (wr_36_13 hW_σ1) ?_
          refine tt_ar rfl ?_
          refine tt_ar rfl ?_
          refine tt_imul (by omega) (by omega) ?_
          refine tt_ar rfl ?_
          refine tt_iadd (by omega) (by omega) ?_
          refine tt_ar rfl ?_
          refine tt_iast (((m * 462) + (ctN (plM 1000000 (nkT k) nm D ex m) h))) (wa_42 hW_σ1) (by omega) (by omega) (by omega) ?_
          refine tt_iinc (y := (((ctN (plM 1000000 (nkT k) nm D ex m) h) + 1 : Nat) : Int)) rfl (iinc_fit (by omega) (by omega) (by omega)) ?_
          refine tt_nop ?_
          have hpp : ctM 1000000 (nkT k) nm D ex m h = bsN 1000000 (nkT k) nm D ex := by have := h1_11; rw [if_pos ht] at this; exact this
          refine tt_iinc (y := ((h + 1 : Nat) : Int)) rfl (iinc_fit (by omega) (by omega) (by omega)) ?_
          refine tt_goto ?_
          refine tt_loc [(0, vR 36), (1, vI (((m : Nat) : Int))), (2, vI (((ctN (plM 1000000 (nkT k) nm D ex m) (h + 1) : Nat) : Int))), (3, vI (((h + 1 : Nat) : Int)))] rfl rfl ⟨rfl, rfl, lv_to rfl (by rw [ctN_s]; first | (rw [if_pos (show plM 1000000 (nkT k) nm D ex m h = true from decide_eq_true hpp)]; first | done | omega) | (rw [if_neg (fun e : plM 1000000 (nkT k) nm D ex m h = true => hpn (of_decide_eq_true e))])), rfl, trivial⟩ ?_
          exact ih1 (h + 1) _ (by omega) (Fr.put (Fr.tr Fr.rf hF_σ1 (by decide)) (by decide)) (by omega) (by first | exact list_a hA (decide_eq_true hpp) | exact list_b hA (decide_eq_false hpn)) (by first | exact hO | exact (fun j hj => by rw [am_set_at, if_neg (by omega)]; exact hO j hj))
  refine tt_loc [(0, vR 36), (1, vI (((m : Nat) : Int))), (2, vI (((ctN (plM 1000000 (nkT k) nm D ex m) 0 : Nat) : Int))), (3, vI (((0 : Nat) : Int)))] rfl rfl ⟨rfl, rfl, lv_to rfl rfl, lv_to rfl (by omega), trivial⟩ ?_
  exact lp1_1 _ (0) σ (Nat.lt_succ_self _) Fr.rf (by omega) (fun g hg => absurd hg (Nat.not_lt_zero g)) (fun j _ => rfl)

