/-! THE CLASS'S WORLD, LINE AND STORY: small -/
abbrev isIn (ins w x : Int) : Prop := w = 1 ∧ a_and (a_shr ins x) 1 = 1
/-- the class's world -/
def LW (W : Nat → Nat → Int) (σ : am_S) : Prop := σ.1 5 0 = W 6 0 ∧ σ.1 5 4 = W 6 1 ∧ (∀ j, j < 6 → σ.1 6 j = W 7 j) ∧ (∀ j, j < 48 → σ.1 7 j = W 8 j) ∧ (∀ j, j < 48 → σ.1 8 j = W 9 j) ∧ (∀ j, j < 5 → σ.1 9 j = W 10 j)
/-- the class's world, as numbers -/
def LD (k : Nat) (σ : am_S) : Prop := σ.1 5 0 = (k : Int) ∧ k ≤ 6 ∧ (∀ i, i < 48 → 0 ≤ σ.1 7 i ∧ σ.1 7 i ≤ σ.1 8 i ∧ σ.1 8 i ≤ 9) ∧ (∀ i, i < 5 → 0 ≤ σ.1 9 i ∧ σ.1 9 i ≤ 9) ∧ (∀ s, s < 6 → σ.1 6 s = -9 ∨ (0 ≤ σ.1 6 s ∧ σ.1 6 s < (k : Int)))
/-- the class's line -/
def LN (n : Nat) (σ : am_S) : Prop := σ.1 27 0 = (n : Int) ∧ n ≤ 12 ∧ (∀ m, m < 12 → 0 ≤ σ.1 28 m ∧ σ.1 28 m ≤ 1 ∧ 0 ≤ σ.1 29 m ∧ σ.1 29 m ≤ 9) ∧ (∀ i, i < 96 → 0 ≤ σ.1 30 i ∧ σ.1 30 i ≤ 40)
/-- the class's story -/
def ST (n : Nat) (σ : am_S) : Prop := σ.1 47 2 = (n : Int) ∧ n ≤ 16
theorem LD.fr {L : List Nat} {k : Nat} {σ σ' : am_S} (h : Fr L σ σ') (hw : ∀ a ∈ L, a < 5 ∨ 9 < a) (R : LD k σ) : LD k σ' := by
  have q : ∀ a, 5 ≤ a → a ≤ 9 → ∀ j, σ'.1 a j = σ.1 a j := fun a h1 h2 j => h.2 a (fun e => by have := hw a e; omega) j
  obtain ⟨h1, h2, h3, h4, h5⟩ := R
  exact ⟨by rw [q 5 (by omega) (by omega)]; exact h1, h2, fun i hi => by rw [q 7 (by omega) (by omega), q 8 (by omega) (by omega)]; exact h3 i hi, fun i hi => by rw [q 9 (by omega) (by omega)]; exact h4 i hi, fun i hi => by rw [q 6 (by omega) (by omega)]; exact h5 i hi⟩
theorem LN.fr {L : List Nat} {n : Nat} {σ σ' : am_S} (h : Fr L σ σ') (hw : ∀ a ∈ L, a < 27 ∨ 30 < a) (R : LN n σ) : LN n σ' := by
  have q : ∀ a, 27 ≤ a → a ≤ 30 → ∀ j, σ'.1 a j = σ.1 a j := fun a h1 h2 j => h.2 a (fun e => by have := hw a e; omega) j
  obtain ⟨h1, h2, h3, h4⟩ := R
  exact ⟨by rw [q 27 (by omega) (by omega)]; exact h1, h2, fun i hi => by rw [q 28 (by omega) (by omega), q 29 (by omega) (by omega)]; exact h3 i hi, fun i hi => by rw [q 30 (by omega) (by omega)]; exact h4 i hi⟩
theorem ST.fr {L : List Nat} {n : Nat} {σ σ' : am_S} (h : Fr L σ σ') (hw : ∀ a ∈ L, a ≠ 47) (R : ST n σ) : ST n σ' := ⟨by rw [h.2 47 (fun e => hw 47 e rfl)]; exact R.1, R.2⟩
def lnD (σ : am_S) (m what : Nat) : Int := if what = 0 then σ.1 28 m else if what = 1 then σ.1 29 m else σ.1 30 (m * 8 + what - 2)
def stD (σ : am_S) (e what : Nat) : Int := if what = 0 then σ.1 48 e else if what = 1 then σ.1 49 e else if what = 2 then σ.1 50 e else σ.1 51 e
def wdD (into lst mst : Nat → Int) (j : Nat) : Int := if j % 17 = 0 then into (j / 17) else if (j % 17) % 2 = 1 then lst (8 * (j / 17) + (j % 17) / 2) else mst (8 * (j / 17) + (j % 17) / 2 - 1)
theorem dgN_add {f : Nat → Int} {h : Int} (a : Nat) : ∀ b, dgN (a + b) h f = dgN b (dgN a h f) (fun j => f (a + j))
  | 0 => rfl
  | b + 1 => by
    show w64 (w64 (31 * dgN (a + b) h f) + f (a + b)) = _
    rw [dgN_add a b]
    rfl
theorem dgN_s {n : Nat} {h : Int} {f : Nat → Int} : dgN (n + 1) h f = w64 (w64 (31 * dgN n h f) + f n) := rfl
theorem wdD_0 {a b c : Nat → Int} {m : Nat} : wdD a b c (17 * m) = a m := by
  unfold wdD
  rw [if_pos (by omega), show 17 * m / 17 = m by omega]
theorem wdD_l {a b c : Nat → Int} {m w : Nat} (h : w < 8) : wdD a b c (17 * m + 1 + 2 * w) = b (8 * m + w) := by
  unfold wdD
  rw [if_neg (by omega), if_pos (by omega)]
  congr 1
  omega
theorem wdD_m {a b c : Nat → Int} {m w : Nat} (h : w < 8) : wdD a b c (17 * m + 1 + 2 * w + 1) = c (8 * m + w) := by
  unfold wdD
  rw [if_neg (by omega), if_neg (by omega)]
  congr 1
  omega
theorem c52 (W : Nat → Nat → Int) (σ : am_S) (hW : Wd σ) (hP : PR W σ) : CC 52 [vR 5, vR 13] σ (fun r σ' => r = none ∧ Fr [5, 6, 7, 8, 9] σ σ' ∧ LW W σ') := by
  show TT am_b52 (am_b52.getD 0 []) [(0, vR 5), (1, vR 13)] [] σ _
  refine tt_ar rfl ?_
  refine tt_ar rfl ?_
  refine tt_getI (x := σ.1 13 (0)) (wo_13 hW) rfl rfl ?_
  refine tt_putI (wo_5 hW) rfl ?_
  refine tt_ar rfl ?_
  refine tt_ar rfl ?_
  refine tt_getI (x := σ.1 13 (4)) (wo_13 hW) rfl rfl ?_
  refine tt_putI (wo_5 hW) rfl ?_
  refine tt_ar rfl ?_
  refine tt_getR (wo_13 hW) rfl (wr_13_1 hW) ?_
  refine tt_ar rfl ?_
  refine tt_ar rfl ?_
  refine tt_getR (wo_5 hW) rfl (wr_5_1 hW) ?_
  refine tt_ar rfl ?_
  refine tt_ar rfl ?_
  refine tt_acopy (sp := 0) (dp := 0) (n := 6) (wa_14 hW) (wa_6 hW) rfl rfl rfl (by omega) (by omega) (by omega) (by omega) rfl ?_
  obtain ⟨σc1, hFc2, hCc3, hg4⟩ := cpy_ex (am_set (am_set σ 5 (0) (σ.1 13 (0))) 5 (4) (σ.1 13 (4))) 14 (0) 6 (0) (6)
  rw [hg4]
  have hW5 := Fr.wd hFc2 hW
  refine tt_ar rfl ?_
  refine tt_getR (wo_13 hW5) rfl (wr_13_2 hW5) ?_
  refine tt_ar rfl ?_
  refine tt_ar rfl ?_
  refine tt_getR (wo_5 hW5) rfl (wr_5_2 hW5) ?_
  refine tt_ar rfl ?_
  refine tt_ar rfl ?_
  refine tt_acopy (sp := 0) (dp := 0) (n := 48) (wa_15 hW5) (wa_7 hW5) rfl rfl rfl (by omega) (by omega) (by omega) (by omega) rfl ?_
  obtain ⟨σc6, hFc7, hCc8, hg9⟩ := cpy_ex σc1 15 (0) 7 (0) (48)
  rw [hg9]
  have hW10 := Fr.wd hFc7 hW5
  refine tt_ar rfl ?_
  refine tt_getR (wo_13 hW10) rfl (wr_13_3 hW10) ?_
  refine tt_ar rfl ?_
  refine tt_ar rfl ?_
  refine tt_getR (wo_5 hW10) rfl (wr_5_3 hW10) ?_
  refine tt_ar rfl ?_
  refine tt_ar rfl ?_
  refine tt_acopy (sp := 0) (dp := 0) (n := 48) (wa_16 hW10) (wa_8 hW10) rfl rfl rfl (by omega) (by omega) (by omega) (by omega) rfl ?_
  obtain ⟨σc11, hFc12, hCc13, hg14⟩ := cpy_ex σc6 16 (0) 8 (0) (48)
  rw [hg14]
  have hW15 := Fr.wd hFc12 hW10
  refine tt_ar rfl ?_
  refine tt_getR (wo_13 hW15) rfl (wr_13_5 hW15) ?_
  refine tt_ar rfl ?_
  refine tt_ar rfl ?_
  refine tt_getR (wo_5 hW15) rfl (wr_5_5 hW15) ?_
  refine tt_ar rfl ?_
  refine tt_ar rfl ?_
  refine tt_acopy (sp := 0) (dp := 0) (n := 5) (wa_17 hW15) (wa_9 hW15) rfl rfl rfl (by omega) (by omega) (by omega) (by omega) rfl ?_
  obtain ⟨σc16, hFc17, hCc18, hg19⟩ := cpy_ex σc11 17 (0) 9 (0) (5)
  rw [hg19]
  have hW20 := Fr.wd hFc17 hW15
  refine tt_vret ?_
  obtain ⟨g1, g2, g3, g4, g5, g6⟩ := hP
  refine ⟨rfl, (Fr.tr (Fr.tr (Fr.tr (Fr.tr (Fr.put (Fr.put Fr.rf (by decide)) (by decide)) hFc2 (by decide)) hFc7 (by decide)) hFc12 (by decide)) hFc17 (by decide)), ?_, ?_, ?_, ?_, ?_, ?_⟩
  · exact ((hFc17.2 5 (by decide) (0)).trans ((hFc12.2 5 (by decide) (0)).trans ((hFc7.2 5 (by decide) (0)).trans ((hFc2.2 5 (by decide) (0)).trans (@am_set_rd σ 5 (0) (σ.1 13 (0))))))).trans g1
  · exact ((hFc17.2 5 (by decide) (4)).trans ((hFc12.2 5 (by decide) (4)).trans ((hFc7.2 5 (by decide) (4)).trans ((hFc2.2 5 (by decide) (4)).trans (@am_set_rd (am_set σ 5 (0) (σ.1 13 (0))) 5 (4) (σ.1 13 (4))))))).trans g2
  · intro j hj
    refine (((hFc17.2 6 (by decide) (j)).trans ((hFc12.2 6 (by decide) (j)).trans (hFc7.2 6 (by decide) (j))))).trans ((hCc3 j).trans ((if_pos (by omega)).trans ?_))
    rw [show 0 + (j - 0) = j by omega]
    exact g3 j hj
  · intro j hj
    refine (((hFc17.2 7 (by decide) (j)).trans (hFc12.2 7 (by decide) (j)))).trans ((hCc8 j).trans ((if_pos (by omega)).trans ?_))
    rw [show 0 + (j - 0) = j by omega]
    exact (hFc2.2 15 (by decide) (j)).trans (g4 j hj)
  · intro j hj
    refine ((hFc17.2 8 (by decide) (j))).trans ((hCc13 j).trans ((if_pos (by omega)).trans ?_))
    rw [show 0 + (j - 0) = j by omega]
    exact ((hFc7.2 16 (by decide) (j)).trans (hFc2.2 16 (by decide) (j))).trans (g5 j hj)
  · intro j hj
    refine (hCc18 j).trans ((if_pos (by omega)).trans ?_)
    rw [show 0 + (j - 0) = j by omega]
    exact ((hFc12.2 17 (by decide) (j)).trans ((hFc7.2 17 (by decide) (j)).trans (hFc2.2 17 (by decide) (j)))).trans (g6 j hj)

theorem c53 (σ : am_S) (hW : Wd σ) : CC 53 [vR 32] σ (fun r σ' => r = none ∧ Fr [35] σ σ' ∧ ∀ j, j < 462 → σ'.1 35 j = 0) := by
  show TT am_b53 (am_b53.getD 0 []) [(0, vR 32)] [] σ _
  refine tt_ar rfl ?_
  refine tt_ar rfl ?_
  refine tt_nop ?_
  have lp1_1 : ∀ (μ : Nat) (i : Nat) (σ1 : am_S), 462 - i < μ → Fr [35] σ σ1 → (i ≤ 462) → (∀ j, j < i → σ1.1 35 j = 0) → TT am_b53 (am_b53.getD 1 []) [(0, vR 32), (1, vI (((i : Nat) : Int)))] [] σ1 (fun r σ' => r = none ∧ Fr [35] σ σ' ∧ ∀ j, j < 462 → σ'.1 35 j = 0) := by
    intro μ
    induction μ with
    | zero => intro i σ1 hμ; exact absurd hμ (Nat.not_lt_zero _)
    | succ μ ih1 =>
      intro i σ1 hμ hF_σ1 hi hC
      have hW_σ1 := Fr.wd hF_σ1 hW
      refine tt_ar rfl ?_
      refine tt_ar rfl ?_
      refine tt_icge (fun h1_2 => ?_) (fun h1_2 => ?_)
      · refine tt_vret ?_
        have e : i = 462 := by omega
        subst e
        exact ⟨rfl, hF_σ1, hC⟩
      · refine tt_ar rfl ?_
        refine tt_getR (wo_32 hW_σ1) rfl (wr_32_4 hW_σ1) ?_
        refine tt_ar rfl ?_
        refine tt_ar rfl ?_
        refine tt_bastZ (i) (wa_35 hW_σ1) (by omega) rfl (by omega) ?_
        refine tt_iinc (y := ((i + 1 : Nat) : Int)) rfl (iinc_fit (by omega) (by omega) (by omega)) ?_
        refine tt_goto ?_
        refine tt_loc [(0, vR 32), (1, vI (((i + 1 : Nat) : Int)))] rfl rfl ⟨rfl, rfl, trivial⟩ ?_
        exact ih1 (i + 1) _ (by omega) (Fr.put (Fr.tr Fr.rf hF_σ1 (by decide)) (by decide)) (by omega) (fun j hj => by rw [am_set_at]; split; rfl; exact hC j (by omega))
  refine tt_loc [(0, vR 32), (1, vI (((0 : Nat) : Int)))] rfl rfl ⟨rfl, lv_to rfl (by omega), trivial⟩ ?_
  exact lp1_1 _ (0) σ (Nat.lt_succ_self _) Fr.rf (by omega) (fun j hj => absurd hj (Nat.not_lt_zero j))

theorem c54 (σ : am_S) (hW : Wd σ) : CC 54 [vR 36] σ (fun r σ' => σ' = am_set (am_set σ 36 4 0) 36 5 0 ∧ r = none) := by
  show TT am_b54 (am_b54.getD 0 []) [(0, vR 36)] [] σ _
  refine tt_ar rfl ?_
  refine tt_ar rfl ?_
  refine tt_putZ (wo_36 hW) rfl (by omega) ?_
  refine tt_ar rfl ?_
  refine tt_ar rfl ?_
  refine tt_putZ (wo_36 hW) rfl (by omega) ?_
  refine tt_vret ?_
  exact ⟨rfl, rfl⟩

theorem c72 (σ : am_S) (w x : Int) (hW : Wd σ) : CC 72 [vR 5, vI (w), vI (x)] σ (fun r σ' => σ' = σ ∧ ((isIn (σ.1 5 4) w x) ∧ r = some (vI 1) ∨ ¬(isIn (σ.1 5 4) w x) ∧ r = some (vI 0))) := by
  show TT am_b72 (am_b72.getD 0 []) [(0, vR 5), (1, vI (w)), (2, vI (x))] [] σ _
  refine tt_ar rfl ?_
  refine tt_ar rfl ?_
  refine tt_icne (fun h0_2 => ?_) (fun h0_2 => ?_)
  · refine tt_ar rfl ?_
    refine tt_nop ?_
    refine tt_zret (by omega) ?_
    exact ⟨rfl, Or.inr ⟨by omega, rfl⟩⟩
  · refine tt_ar rfl ?_
    refine tt_getI (x := σ.1 5 (4)) (wo_5 hW) rfl rfl ?_
    refine tt_ar rfl ?_
    refine tt_bI (g := a_shr) (z := a_shr (σ.1 5 (4)) (x)) rfl rfl ?_
    refine tt_ar rfl ?_
    refine tt_bI (g := a_and) (z := a_and (a_shr (σ.1 5 (4)) (x)) (1)) rfl rfl ?_
    refine tt_ar rfl ?_
    refine tt_icne (fun h0_10 => ?_) (fun h0_10 => ?_)
    · refine tt_ar rfl ?_
      refine tt_nop ?_
      refine tt_zret (by omega) ?_
      exact ⟨rfl, Or.inr ⟨by omega, rfl⟩⟩
    · refine tt_ar rfl ?_
      refine tt_goto ?_
      refine tt_zret (by omega) ?_
      exact ⟨rfl, Or.inl ⟨by omega, rfl⟩⟩

theorem c71 (σ : am_S) (h x : Nat) (w : Int) (hW : Wd σ) (hh : h < 462) (hx : x < 8) : CC 71 [vR 18, vI (((h : Nat) : Int)), vI (w), vI (((x : Nat) : Int))] σ (fun r σ' => r = some (vI (if isIn (σ.1 5 4) w (x : Int) then 0 else σ.1 25 (h * 8 + x))) ∧ σ' = σ) := by
  show TT am_b71 (am_b71.getD 0 []) [(0, vR 18), (1, vI (((h : Nat) : Int))), (2, vI (w)), (3, vI (((x : Nat) : Int)))] [] σ _
  refine tt_ar rfl ?_
  refine tt_getR (wo_18 hW) rfl (wr_18_0 hW) ?_
  refine tt_ar rfl ?_
  refine tt_ar rfl ?_
  refine tt_cv3 3 rfl (wo_5 hW) (c72 σ _ _ hW) (kb (fun h0_4 => ?_) (fun h0_4 => ?_))
  · refine tt_ifeqF (by decide) ?_
    refine tt_ar rfl ?_
    refine tt_goto ?_
    refine tt_iret ?_
    exact ⟨rv (by rw [if_pos h0_4]), rfl⟩
  · refine tt_ifeqT (by decide) ?_
    refine tt_ar rfl ?_
    refine tt_getR (wo_18 hW) rfl (wr_18_8 hW) ?_
    refine tt_ar rfl ?_
    refine tt_ar rfl ?_
    refine tt_imul (by omega) (by omega) ?_
    refine tt_ar rfl ?_
    refine tt_iadd (by omega) (by omega) ?_
    refine tt_iald (((h * 8) + x)) (x := σ.1 25 (((h * 8) + x))) (wa_25 hW) (by omega) (by omega) rfl ?_
    refine tt_nop ?_
    refine tt_iret ?_
    exact ⟨rv (by rw [if_neg h0_4]), rfl⟩

theorem c77 (σ : am_S) (n m x : Nat) (v : Int) (hW : Wd σ) (hL : LN n σ) (hm : m < 12) (hx : x < 8) : CC 77 [vR 27, vI (((m : Nat) : Int)), vI (((x : Nat) : Int)), vI (v)] σ (fun r σ' => σ' = σ ∧ ((σ.1 30 (m * 8 + x) - σ.1 29 m > v) ∧ r = some (vI 1) ∨ ¬(σ.1 30 (m * 8 + x) - σ.1 29 m > v) ∧ r = some (vI 0))) := by
  show TT am_b77 (am_b77.getD 0 []) [(0, vR 27), (1, vI (((m : Nat) : Int))), (2, vI (((x : Nat) : Int))), (3, vI (v))] [] σ _
  refine tt_ar rfl ?_
  refine tt_getR (wo_27 hW) rfl (wr_27_3 hW) ?_
  refine tt_ar rfl ?_
  refine tt_ar rfl ?_
  refine tt_imul (by omega) (by omega) ?_
  refine tt_ar rfl ?_
  refine tt_iadd (by omega) (by omega) ?_
  refine tt_iald (((m * 8) + x)) (x := σ.1 30 (((m * 8) + x))) (wa_30 hW) (by omega) (by omega) rfl ?_
  have hb1 := hL.2.2.2 (((m * 8) + x)) (by omega)
  refine tt_ar rfl ?_
  refine tt_getR (wo_27 hW) rfl (wr_27_2 hW) ?_
  refine tt_ar rfl ?_
  refine tt_iald (m) (x := σ.1 29 (m)) (wa_29 hW) rfl (by omega) rfl ?_
  have hb2 := hL.2.2.1 (m) (by omega)
  refine tt_isub (by omega) (by omega) ?_
  refine tt_ar rfl ?_
  refine tt_icle (fun h0_14 => ?_) (fun h0_14 => ?_)
  · refine tt_ar rfl ?_
    refine tt_nop ?_
    refine tt_zret (by omega) ?_
    exact ⟨rfl, Or.inr ⟨by omega, rfl⟩⟩
  · refine tt_ar rfl ?_
    refine tt_goto ?_
    refine tt_zret (by omega) ?_
    exact ⟨rfl, Or.inl ⟨by omega, rfl⟩⟩

theorem c78 (σ : am_S) (n m x : Nat) (v : Int) (hW : Wd σ) (hL : LN n σ) (hm : m < 12) (hx : x < 8) : CC 78 [vR 27, vI (((m : Nat) : Int)), vI (((x : Nat) : Int)), vI (v)] σ (fun r σ' => σ' = σ ∧ ((σ.1 30 (m * 8 + x) + σ.1 29 m < v) ∧ r = some (vI 1) ∨ ¬(σ.1 30 (m * 8 + x) + σ.1 29 m < v) ∧ r = some (vI 0))) := by
  show TT am_b78 (am_b78.getD 0 []) [(0, vR 27), (1, vI (((m : Nat) : Int))), (2, vI (((x : Nat) : Int))), (3, vI (v))] [] σ _
  refine tt_ar rfl ?_
  refine tt_getR (wo_27 hW) rfl (wr_27_3 hW) ?_
  refine tt_ar rfl ?_
  refine tt_ar rfl ?_
  refine tt_imul (by omega) (by omega) ?_
  refine tt_ar rfl ?_
  refine tt_iadd (by omega) (by omega) ?_
  refine tt_iald (((m * 8) + x)) (x := σ.1 30 (((m * 8) + x))) (wa_30 hW) (by omega) (by omega) rfl ?_
  have hb1 := hL.2.2.2 (((m * 8) + x)) (by omega)
  refine tt_ar rfl ?_
  refine tt_getR (wo_27 hW) rfl (wr_27_2 hW) ?_
  refine tt_ar rfl ?_
  refine tt_iald (m) (x := σ.1 29 (m)) (wa_29 hW) rfl (by omega) rfl ?_
  have hb2 := hL.2.2.1 (m) (by omega)
  refine tt_iadd (by omega) (by omega) ?_
  refine tt_ar rfl ?_
  refine tt_icge (fun h0_14 => ?_) (fun h0_14 => ?_)
  · refine tt_ar rfl ?_
    refine tt_nop ?_
    refine tt_zret (by omega) ?_
    exact ⟨rfl, Or.inr ⟨by omega, rfl⟩⟩
  · refine tt_ar rfl ?_
    refine tt_goto ?_
    refine tt_zret (by omega) ?_
    exact ⟨rfl, Or.inl ⟨by omega, rfl⟩⟩

def cmN (σ : am_S) (n : Nat) : Int := sumN n (fun e => if σ.1 48 e = 1 ∨ σ.1 48 e = 5 then 1 else 0)
theorem cmN_bd (σ : am_S) (n : Nat) : 0 ≤ cmN σ n ∧ cmN σ n ≤ (n : Int) := by
  have := sumN_bd (f := fun e => if σ.1 48 e = 1 ∨ σ.1 48 e = 5 then 1 else 0) (a := 0) (b := 1) (n := n) (fun i _ => by split <;> omega)
  unfold cmN
  omega
theorem c131 (σ : am_S) (n : Nat) (m kind a b : Int) (hW : Wd σ) (hL : σ.1 47 2 = (n : Int)) (hn : n < 16) : CC 131 [vR 47, vI (m), vI (kind), vI (a), vI (b)] σ (fun r σ' => r = some (vI (n : Int)) ∧ Fr [47, 48, 49, 50, 51] σ σ' ∧ σ'.1 47 2 = ((n + 1 : Nat) : Int) ∧ (∀ j, σ'.1 48 j = if j = n then kind else σ.1 48 j) ∧ (∀ j, σ'.1 49 j = if j = n then m else σ.1 49 j) ∧ (∀ j, σ'.1 50 j = if j = n then a else σ.1 50 j) ∧ (∀ j, σ'.1 51 j = if j = n then b else σ.1 51 j)) := by
  show TT am_b131 (am_b131.getD 0 []) [(0, vR 47), (1, vI (m)), (2, vI (kind)), (3, vI (a)), (4, vI (b))] [] σ _
  refine tt_ar rfl ?_
  refine tt_getR (wo_47 hW) rfl (wr_47_3 hW) ?_
  refine tt_ar rfl ?_
  refine tt_getI (x := ((n : Nat) : Int)) (wo_47 hW) rfl hL ?_
  refine tt_ar rfl ?_
  refine tt_iast (n) (wa_48 hW) (by omega) rfl (by omega) ?_
  refine tt_ar rfl ?_
  refine tt_getR (wo_47 hW) rfl (wr_47_4 hW) ?_
  refine tt_ar rfl ?_
  refine tt_getI (x := ((n : Nat) : Int)) (wo_47 hW) rfl hL ?_
  refine tt_ar rfl ?_
  refine tt_iast (n) (wa_49 hW) (by omega) rfl (by omega) ?_
  refine tt_ar rfl ?_
  refine tt_getR (wo_47 hW) rfl (wr_47_5 hW) ?_
  refine tt_ar rfl ?_
  refine tt_getI (x := ((n : Nat) : Int)) (wo_47 hW) rfl hL ?_
  refine tt_ar rfl ?_
  refine tt_iast (n) (wa_50 hW) (by omega) rfl (by omega) ?_
  refine tt_ar rfl ?_
  refine tt_getR (wo_47 hW) rfl (wr_47_6 hW) ?_
  refine tt_ar rfl ?_
  refine tt_getI (x := ((n : Nat) : Int)) (wo_47 hW) rfl hL ?_
  refine tt_ar rfl ?_
  refine tt_iast (n) (wa_51 hW) (by omega) rfl (by omega) ?_
  refine tt_ar rfl ?_
  refine tt_ar rfl ?_
  refine tt_getI (x := ((n : Nat) : Int)) (wo_47 hW) rfl hL ?_
  refine tt_ar rfl ?_
  refine tt_iadd (by omega) (by omega) ?_
  refine tt_putI (wo_47 hW) rfl ?_
  refine tt_ar rfl ?_
  refine tt_getI (x := (((n : Nat) : Int) + 1)) (wo_47 hW) rfl (@am_set_rd (am_set (am_set (am_set (am_set σ 48 (n) (kind)) 49 (n) (m)) 50 (n) (a)) 51 (n) (b)) 47 (2) ((((n : Nat) : Int) + 1))) ?_
  refine tt_ar rfl ?_
  refine tt_isub (by omega) (by omega) ?_
  refine tt_iret ?_
  refine ⟨rv (by omega), (Fr.put (Fr.put (Fr.put (Fr.put (Fr.put Fr.rf (by decide)) (by decide)) (by decide)) (by decide)) (by decide)), (@am_set_rd (am_set (am_set (am_set (am_set σ 48 (n) (kind)) 49 (n) (m)) 50 (n) (a)) 51 (n) (b)) 47 (2) ((((n : Nat) : Int) + 1))).trans (by omega), ?_, ?_, ?_, ?_⟩
  · intro j; simp [am_set]
  · intro j; simp [am_set]
  · intro j; simp [am_set]
  · intro j; simp [am_set]

theorem c64 (σ : am_S) (n p : Nat) (rain unsure : Int) (hW : Wd σ) (hL : σ.1 27 0 = (n : Int)) (hn : n < 12) (hA : σ.2.2.1[p]? = some (.inl .int, 40)) (hp : 30 < p) : CC 64 [vR 27, vI (rain), vR p, vI (unsure)] σ (fun r σ' => r = some (vI (n : Int)) ∧ Fr [27, 28, 29, 30] σ σ' ∧ σ'.1 27 0 = ((n + 1 : Nat) : Int) ∧ (∀ j, σ'.1 28 j = if j = n then rain else σ.1 28 j) ∧ (∀ j, σ'.1 29 j = if j = n then unsure else σ.1 29 j) ∧ (∀ j, σ'.1 30 j = if n * 8 ≤ j ∧ j < n * 8 + 8 then σ.1 p (j - n * 8) else σ.1 30 j)) := by
  show TT am_b64 (am_b64.getD 0 []) [(0, vR 27), (1, vI (rain)), (2, vR p), (3, vI (unsure))] [] σ _
  refine tt_ar rfl ?_
  refine tt_getR (wo_27 hW) rfl (wr_27_1 hW) ?_
  refine tt_ar rfl ?_
  refine tt_getI (x := ((n : Nat) : Int)) (wo_27 hW) rfl hL ?_
  refine tt_ar rfl ?_
  refine tt_iast (n) (wa_28 hW) (by omega) rfl (by omega) ?_
  refine tt_ar rfl ?_
  refine tt_getR (wo_27 hW) rfl (wr_27_2 hW) ?_
  refine tt_ar rfl ?_
  refine tt_getI (x := ((n : Nat) : Int)) (wo_27 hW) rfl hL ?_
  refine tt_ar rfl ?_
  refine tt_iast (n) (wa_29 hW) (by omega) rfl (by omega) ?_
  refine tt_ar rfl ?_
  refine tt_ar rfl ?_
  refine tt_ar rfl ?_
  refine tt_getR (wo_27 hW) rfl (wr_27_3 hW) ?_
  refine tt_ar rfl ?_
  refine tt_getI (x := ((n : Nat) : Int)) (wo_27 hW) rfl hL ?_
  refine tt_ar rfl ?_
  refine tt_imul (by omega) (by omega) ?_
  refine tt_ar rfl ?_
  refine tt_acopy (sp := 0) (dp := (n * 8)) (n := 8) hA (wa_30 hW) rfl (by omega) rfl (by omega) (by omega) (by omega) (by omega) rfl ?_
  obtain ⟨σc1, hFc2, hCc3, hg4⟩ := cpy_ex (am_set (am_set σ 28 (n) (rain)) 29 (n) (unsure)) p (0) 30 ((n * 8)) (8)
  rw [hg4]
  have hW5 := Fr.wd hFc2 hW
  refine tt_ar rfl ?_
  refine tt_ar rfl ?_
  refine tt_getI (x := ((n : Nat) : Int)) (wo_27 hW5) rfl ((hFc2.2 27 (by decide) (0)).trans hL) ?_
  refine tt_ar rfl ?_
  refine tt_iadd (by omega) (by omega) ?_
  refine tt_putI (wo_27 hW5) rfl ?_
  refine tt_ar rfl ?_
  refine tt_getI (x := (((n : Nat) : Int) + 1)) (wo_27 hW5) rfl (@am_set_rd σc1 27 (0) ((((n : Nat) : Int) + 1))) ?_
  refine tt_ar rfl ?_
  refine tt_isub (by omega) (by omega) ?_
  refine tt_iret ?_
  refine ⟨rv (by omega), (Fr.put (Fr.tr (Fr.put (Fr.put Fr.rf (by decide)) (by decide)) hFc2 (by decide)) (by decide)), (@am_set_rd σc1 27 (0) ((((n : Nat) : Int) + 1))).trans (by omega), ?_, ?_, ?_⟩
  · intro j
    have hj1 : σc1.1 28 j = _ := hFc2.2 28 (by decide) j
    show σc1.1 28 j = _
    rw [hj1]; simp [am_set]
  · intro j
    have hj1 : σc1.1 29 j = _ := hFc2.2 29 (by decide) j
    show σc1.1 29 j = _
    rw [hj1]; simp [am_set]
  · intro j
    show σc1.1 30 j = _
    rw [hCc3 j]
    by_cases e : n * 8 ≤ j ∧ j < n * 8 + 8
    · rw [if_pos e, if_pos e, Nat.zero_add]
      simp [am_set, show p ≠ 28 by omega, show p ≠ 29 by omega]
    · rw [if_neg e, if_neg e]
      simp [am_set]

