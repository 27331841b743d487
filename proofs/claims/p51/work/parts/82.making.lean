/-! WHILE THE CELLS ARE MADE -/
def WpA (σ : am_S) : Prop := (∀ a q, a ∈ ([5, 6, 7, 8, 9] : List Nat) → wd_ly[a]? = some q → σ.2.2.1[a]? = some q) ∧ ∀ p ∈ wd_rf, p.1 ∈ ([5, 6, 7, 8, 9] : List Nat) → σ.2.1 p.1 p.2.1 = some p.2.2
theorem Fr.wpA {W : List Nat} {σ σ' : am_S} (h : Fr W σ σ') (hW : WpA σ) : WpA σ' := by
  unfold WpA
  rw [h.1]
  exact hW
section PA
variable {σ : am_S}
theorem poA_5 (h : WpA σ) : am_isO σ 5 8 = true := am_isO_of (h.1 5 _ (by decide) rfl) (by decide)
theorem paA_6 (h : WpA σ) : σ.2.2.1[6]? = some (.inl .int, 6) := h.1 6 _ (by decide) rfl
theorem paA_7 (h : WpA σ) : σ.2.2.1[7]? = some (.inl .int, 48) := h.1 7 _ (by decide) rfl
theorem paA_8 (h : WpA σ) : σ.2.2.1[8]? = some (.inl .int, 48) := h.1 8 _ (by decide) rfl
theorem paA_9 (h : WpA σ) : σ.2.2.1[9]? = some (.inl .int, 5) := h.1 9 _ (by decide) rfl
theorem prA_5_1 (h : WpA σ) : σ.2.1 5 1 = some 6 := h.2 (5, 1, 6) (by decide) (by decide)
theorem prA_5_2 (h : WpA σ) : σ.2.1 5 2 = some 7 := h.2 (5, 2, 7) (by decide) (by decide)
theorem prA_5_3 (h : WpA σ) : σ.2.1 5 3 = some 8 := h.2 (5, 3, 8) (by decide) (by decide)
theorem prA_5_5 (h : WpA σ) : σ.2.1 5 5 = some 9 := h.2 (5, 5, 9) (by decide) (by decide)
end PA
def WpB (σ : am_S) : Prop := (∀ a q, a ∈ ([13, 14, 15, 16, 17] : List Nat) → wd_ly[a]? = some q → σ.2.2.1[a]? = some q) ∧ ∀ p ∈ wd_rf, p.1 ∈ ([13, 14, 15, 16, 17] : List Nat) → σ.2.1 p.1 p.2.1 = some p.2.2
theorem Fr.wpB {W : List Nat} {σ σ' : am_S} (h : Fr W σ σ') (hW : WpB σ) : WpB σ' := by
  unfold WpB
  rw [h.1]
  exact hW
section PB
variable {σ : am_S}
theorem poB_13 (h : WpB σ) : am_isO σ 13 8 = true := am_isO_of (h.1 13 _ (by decide) rfl) (by decide)
theorem paB_14 (h : WpB σ) : σ.2.2.1[14]? = some (.inl .int, 6) := h.1 14 _ (by decide) rfl
theorem paB_15 (h : WpB σ) : σ.2.2.1[15]? = some (.inl .int, 48) := h.1 15 _ (by decide) rfl
theorem paB_16 (h : WpB σ) : σ.2.2.1[16]? = some (.inl .int, 48) := h.1 16 _ (by decide) rfl
theorem paB_17 (h : WpB σ) : σ.2.2.1[17]? = some (.inl .int, 5) := h.1 17 _ (by decide) rfl
theorem prB_13_1 (h : WpB σ) : σ.2.1 13 1 = some 14 := h.2 (13, 1, 14) (by decide) (by decide)
theorem prB_13_2 (h : WpB σ) : σ.2.1 13 2 = some 15 := h.2 (13, 2, 15) (by decide) (by decide)
theorem prB_13_3 (h : WpB σ) : σ.2.1 13 3 = some 16 := h.2 (13, 3, 16) (by decide) (by decide)
theorem prB_13_5 (h : WpB σ) : σ.2.1 13 5 = some 17 := h.2 (13, 5, 17) (by decide) (by decide)
end PB
def WpC (σ : am_S) : Prop := (∀ a q, a ∈ ([0, 5, 6, 7, 8, 9, 18, 19, 20, 21, 22, 23, 24, 25, 26] : List Nat) → wd_ly[a]? = some q → σ.2.2.1[a]? = some q) ∧ ∀ p ∈ wd_rf, p.1 ∈ ([0, 5, 6, 7, 8, 9, 18, 19, 20, 21, 22, 23, 24, 25, 26] : List Nat) → σ.2.1 p.1 p.2.1 = some p.2.2
theorem Fr.wpC {W : List Nat} {σ σ' : am_S} (h : Fr W σ σ') (hW : WpC σ) : WpC σ' := by
  unfold WpC
  rw [h.1]
  exact hW
section PC
variable {σ : am_S}
theorem paC_0 (h : WpC σ) : σ.2.2.1[0]? = some (.inl .int, 6) := h.1 0 _ (by decide) rfl
theorem poC_5 (h : WpC σ) : am_isO σ 5 8 = true := am_isO_of (h.1 5 _ (by decide) rfl) (by decide)
theorem paC_6 (h : WpC σ) : σ.2.2.1[6]? = some (.inl .int, 6) := h.1 6 _ (by decide) rfl
theorem paC_7 (h : WpC σ) : σ.2.2.1[7]? = some (.inl .int, 48) := h.1 7 _ (by decide) rfl
theorem paC_8 (h : WpC σ) : σ.2.2.1[8]? = some (.inl .int, 48) := h.1 8 _ (by decide) rfl
theorem paC_9 (h : WpC σ) : σ.2.2.1[9]? = some (.inl .int, 5) := h.1 9 _ (by decide) rfl
theorem poC_18 (h : WpC σ) : am_isO σ 18 0 = true := am_isO_of (h.1 18 _ (by decide) rfl) (by decide)
theorem paC_19 (h : WpC σ) : σ.2.2.1[19]? = some (.inl .int, 462) := h.1 19 _ (by decide) rfl
theorem paC_20 (h : WpC σ) : σ.2.2.1[20]? = some (.inl .int, 462) := h.1 20 _ (by decide) rfl
theorem paC_21 (h : WpC σ) : σ.2.2.1[21]? = some (.inl .int, 2772) := h.1 21 _ (by decide) rfl
theorem paC_22 (h : WpC σ) : σ.2.2.1[22]? = some (.inl .int, 2772) := h.1 22 _ (by decide) rfl
theorem paC_23 (h : WpC σ) : σ.2.2.1[23]? = some (.inl .int, 2772) := h.1 23 _ (by decide) rfl
theorem paC_24 (h : WpC σ) : σ.2.2.1[24]? = some (.inl .int, 2772) := h.1 24 _ (by decide) rfl
theorem paC_25 (h : WpC σ) : σ.2.2.1[25]? = some (.inl .int, 3696) := h.1 25 _ (by decide) rfl
theorem paC_26 (h : WpC σ) : σ.2.2.1[26]? = some (.inl .int, 3696) := h.1 26 _ (by decide) rfl
theorem prC_5_1 (h : WpC σ) : σ.2.1 5 1 = some 6 := h.2 (5, 1, 6) (by decide) (by decide)
theorem prC_5_2 (h : WpC σ) : σ.2.1 5 2 = some 7 := h.2 (5, 2, 7) (by decide) (by decide)
theorem prC_5_3 (h : WpC σ) : σ.2.1 5 3 = some 8 := h.2 (5, 3, 8) (by decide) (by decide)
theorem prC_5_5 (h : WpC σ) : σ.2.1 5 5 = some 9 := h.2 (5, 5, 9) (by decide) (by decide)
theorem prC_18_0 (h : WpC σ) : σ.2.1 18 0 = some 5 := h.2 (18, 0, 5) (by decide) (by decide)
theorem prC_18_2 (h : WpC σ) : σ.2.1 18 2 = some 19 := h.2 (18, 2, 19) (by decide) (by decide)
theorem prC_18_3 (h : WpC σ) : σ.2.1 18 3 = some 20 := h.2 (18, 3, 20) (by decide) (by decide)
theorem prC_18_4 (h : WpC σ) : σ.2.1 18 4 = some 21 := h.2 (18, 4, 21) (by decide) (by decide)
theorem prC_18_5 (h : WpC σ) : σ.2.1 18 5 = some 22 := h.2 (18, 5, 22) (by decide) (by decide)
theorem prC_18_6 (h : WpC σ) : σ.2.1 18 6 = some 23 := h.2 (18, 6, 23) (by decide) (by decide)
theorem prC_18_7 (h : WpC σ) : σ.2.1 18 7 = some 24 := h.2 (18, 7, 24) (by decide) (by decide)
theorem prC_18_8 (h : WpC σ) : σ.2.1 18 8 = some 25 := h.2 (18, 8, 25) (by decide) (by decide)
theorem prC_18_9 (h : WpC σ) : σ.2.1 18 9 = some 26 := h.2 (18, 9, 26) (by decide) (by decide)
end PC
theorem z3_5 (σ : am_S) (hW : WpA σ) : CC 3 [vR 5] σ (fun r σ' => r = none ∧ Fr [5, 6, 7, 8, 9] σ σ' ∧ σ'.1 5 0 = 0 ∧ σ'.1 5 4 = 0 ∧ (∀ j, j < 6 → σ'.1 6 j = -9) ∧ (∀ j, j < 48 → σ'.1 7 j = 0) ∧ (∀ j, j < 48 → σ'.1 8 j = 0) ∧ (∀ j, j < 5 → σ'.1 9 j = p_W0 10 j)) := by
  show TT am_b3 (am_b3.getD 0 []) [(0, vR 5)] [] σ _
  refine tt_ar rfl ?_
  refine tt_ar rfl ?_
  refine tt_putI (poA_5 hW) rfl ?_
  refine tt_ar rfl ?_
  refine tt_ar rfl ?_
  refine tt_putI (poA_5 hW) rfl ?_
  refine tt_ar rfl ?_
  refine tt_getR (poA_5 hW) rfl (prA_5_1 hW) ?_
  refine tt_ar rfl ?_
  refine tt_cs2 2 rfl (c4 _ _ 6 _ (paA_6 hW) (by omega) (by rfl)) ?_
  intro r0 σf1 hq0
  obtain ⟨rfl, hFf2, hCf3⟩ := hq0
  have hW4 := Fr.wpA hFf2 hW
  refine tt_ar rfl ?_
  refine tt_getR (poA_5 hW4) rfl (prA_5_2 hW4) ?_
  refine tt_ar rfl ?_
  refine tt_cs2 2 rfl (c4 _ _ 48 _ (paA_7 hW4) (by omega) (by rfl)) ?_
  intro r0 σf5 hq0
  obtain ⟨rfl, hFf6, hCf7⟩ := hq0
  have hW8 := Fr.wpA hFf6 hW4
  refine tt_ar rfl ?_
  refine tt_getR (poA_5 hW8) rfl (prA_5_3 hW8) ?_
  refine tt_ar rfl ?_
  refine tt_cs2 2 rfl (c4 _ _ 48 _ (paA_8 hW8) (by omega) (by rfl)) ?_
  intro r0 σf9 hq0
  obtain ⟨rfl, hFf10, hCf11⟩ := hq0
  have hW12 := Fr.wpA hFf10 hW8
  refine tt_ar rfl ?_
  refine tt_getR (poA_5 hW12) rfl (prA_5_5 hW12) ?_
  refine tt_ar rfl ?_
  refine tt_ar rfl ?_
  refine tt_iast (0) (paA_9 hW12) (by omega) rfl (by omega) ?_
  refine tt_ar rfl ?_
  refine tt_getR (poA_5 hW12) rfl (prA_5_5 hW12) ?_
  refine tt_ar rfl ?_
  refine tt_ar rfl ?_
  refine tt_iast (1) (paA_9 hW12) (by omega) rfl (by omega) ?_
  refine tt_ar rfl ?_
  refine tt_getR (poA_5 hW12) rfl (prA_5_5 hW12) ?_
  refine tt_ar rfl ?_
  refine tt_ar rfl ?_
  refine tt_iast (2) (paA_9 hW12) (by omega) rfl (by omega) ?_
  refine tt_ar rfl ?_
  refine tt_getR (poA_5 hW12) rfl (prA_5_5 hW12) ?_
  refine tt_ar rfl ?_
  refine tt_ar rfl ?_
  refine tt_iast (3) (paA_9 hW12) (by omega) rfl (by omega) ?_
  refine tt_ar rfl ?_
  refine tt_getR (poA_5 hW12) rfl (prA_5_5 hW12) ?_
  refine tt_ar rfl ?_
  refine tt_ar rfl ?_
  refine tt_iast (4) (paA_9 hW12) (by omega) rfl (by omega) ?_
  refine tt_vret ?_
  refine ⟨rfl, (Fr.put (Fr.put (Fr.put (Fr.put (Fr.put (Fr.tr (Fr.tr (Fr.tr (Fr.put (Fr.put Fr.rf (by decide)) (by decide)) hFf2 (by decide)) hFf6 (by decide)) hFf10 (by decide)) (by decide)) (by decide)) (by decide)) (by decide)) (by decide)), ?_, ?_, ?_, ?_, ?_, ?_⟩
  · exact ((hFf10.2 5 (by decide) (0)).trans ((hFf6.2 5 (by decide) (0)).trans ((hFf2.2 5 (by decide) (0)).trans (@am_set_rd σ 5 (0) (0)))))
  · exact ((hFf10.2 5 (by decide) (4)).trans ((hFf6.2 5 (by decide) (4)).trans ((hFf2.2 5 (by decide) (4)).trans (@am_set_rd (am_set σ 5 (0) (0)) 5 (4) (0)))))
  · intro j hj
    exact (((hFf10.2 6 (by decide) (j)).trans (hFf6.2 6 (by decide) (j)))).trans ((hCf3 j).trans (if_pos hj))
  · intro j hj
    exact ((hFf10.2 7 (by decide) (j))).trans ((hCf7 j).trans (if_pos hj))
  · intro j hj
    exact ((hCf11 j).trans (if_pos hj))
  · intro j hj
    match j, hj with
    | 0, _ => exact (@am_set_rd σf9 9 (0) (3))
    | 1, _ => exact (@am_set_rd (am_set σf9 9 (0) (3)) 9 (1) (3))
    | 2, _ => exact (@am_set_rd (am_set (am_set σf9 9 (0) (3)) 9 (1) (3)) 9 (2) (1))
    | 3, _ => exact (@am_set_rd (am_set (am_set (am_set σf9 9 (0) (3)) 9 (1) (3)) 9 (2) (1)) 9 (3) (2))
    | 4, _ => exact (@am_set_rd (am_set (am_set (am_set (am_set σf9 9 (0) (3)) 9 (1) (3)) 9 (2) (1)) 9 (3) (2)) 9 (4) (2))
    | j + 5, h => exact absurd h (by omega)
theorem z3_13 (σ : am_S) (hW : WpB σ) : CC 3 [vR 13] σ (fun r σ' => r = none ∧ Fr [13, 14, 15, 16, 17] σ σ' ∧ σ'.1 13 0 = 0 ∧ σ'.1 13 4 = 0 ∧ (∀ j, j < 6 → σ'.1 14 j = -9) ∧ (∀ j, j < 48 → σ'.1 15 j = 0) ∧ (∀ j, j < 48 → σ'.1 16 j = 0) ∧ (∀ j, j < 5 → σ'.1 17 j = p_W0 10 j)) := by
  show TT am_b3 (am_b3.getD 0 []) [(0, vR 13)] [] σ _
  refine tt_ar rfl ?_
  refine tt_ar rfl ?_
  refine tt_putI (poB_13 hW) rfl ?_
  refine tt_ar rfl ?_
  refine tt_ar rfl ?_
  refine tt_putI (poB_13 hW) rfl ?_
  refine tt_ar rfl ?_
  refine tt_getR (poB_13 hW) rfl (prB_13_1 hW) ?_
  refine tt_ar rfl ?_
  refine tt_cs2 2 rfl (c4 _ _ 6 _ (paB_14 hW) (by omega) (by rfl)) ?_
  intro r0 σf1 hq0
  obtain ⟨rfl, hFf2, hCf3⟩ := hq0
  have hW4 := Fr.wpB hFf2 hW
  refine tt_ar rfl ?_
  refine tt_getR (poB_13 hW4) rfl (prB_13_2 hW4) ?_
  refine tt_ar rfl ?_
  refine tt_cs2 2 rfl (c4 _ _ 48 _ (paB_15 hW4) (by omega) (by rfl)) ?_
  intro r0 σf5 hq0
  obtain ⟨rfl, hFf6, hCf7⟩ := hq0
  have hW8 := Fr.wpB hFf6 hW4
  refine tt_ar rfl ?_
  refine tt_getR (poB_13 hW8) rfl (prB_13_3 hW8) ?_
  refine tt_ar rfl ?_
  refine tt_cs2 2 rfl (c4 _ _ 48 _ (paB_16 hW8) (by omega) (by rfl)) ?_
  intro r0 σf9 hq0
  obtain ⟨rfl, hFf10, hCf11⟩ := hq0
  have hW12 := Fr.wpB hFf10 hW8
  refine tt_ar rfl ?_
  refine tt_getR (poB_13 hW12) rfl (prB_13_5 hW12) ?_
  refine tt_ar rfl ?_
  refine tt_ar rfl ?_
  refine tt_iast (0) (paB_17 hW12) (by omega) rfl (by omega) ?_
  refine tt_ar rfl ?_
  refine tt_getR (poB_13 hW12) rfl (prB_13_5 hW12) ?_
  refine tt_ar rfl ?_
  refine tt_ar rfl ?_
  refine tt_iast (1) (paB_17 hW12) (by omega) rfl (by omega) ?_
  refine tt_ar rfl ?_
  refine tt_getR (poB_13 hW12) rfl (prB_13_5 hW12) ?_
  refine tt_ar rfl ?_
  refine tt_ar rfl ?_
  refine tt_iast (2) (paB_17 hW12) (by omega) rfl (by omega) ?_
  refine tt_ar rfl ?_
  refine tt_getR (poB_13 hW12) rfl (prB_13_5 hW12) ?_
  refine tt_ar rfl ?_
  refine tt_ar rfl ?_
  refine tt_iast (3) (paB_17 hW12) (by omega) rfl (by omega) ?_
  refine tt_ar rfl ?_
  refine tt_getR (poB_13 hW12) rfl (prB_13_5 hW12) ?_
  refine tt_ar rfl ?_
  refine tt_ar rfl ?_
  refine tt_iast (4) (paB_17 hW12) (by omega) rfl (by omega) ?_
  refine tt_vret ?_
  refine ⟨rfl, (Fr.put (Fr.put (Fr.put (Fr.put (Fr.put (Fr.tr (Fr.tr (Fr.tr (Fr.put (Fr.put Fr.rf (by decide)) (by decide)) hFf2 (by decide)) hFf6 (by decide)) hFf10 (by decide)) (by decide)) (by decide)) (by decide)) (by decide)) (by decide)), ?_, ?_, ?_, ?_, ?_, ?_⟩
  · exact ((hFf10.2 13 (by decide) (0)).trans ((hFf6.2 13 (by decide) (0)).trans ((hFf2.2 13 (by decide) (0)).trans (@am_set_rd σ 13 (0) (0)))))
  · exact ((hFf10.2 13 (by decide) (4)).trans ((hFf6.2 13 (by decide) (4)).trans ((hFf2.2 13 (by decide) (4)).trans (@am_set_rd (am_set σ 13 (0) (0)) 13 (4) (0)))))
  · intro j hj
    exact (((hFf10.2 14 (by decide) (j)).trans (hFf6.2 14 (by decide) (j)))).trans ((hCf3 j).trans (if_pos hj))
  · intro j hj
    exact ((hFf10.2 15 (by decide) (j))).trans ((hCf7 j).trans (if_pos hj))
  · intro j hj
    exact ((hCf11 j).trans (if_pos hj))
  · intro j hj
    match j, hj with
    | 0, _ => exact (@am_set_rd σf9 17 (0) (3))
    | 1, _ => exact (@am_set_rd (am_set σf9 17 (0) (3)) 17 (1) (3))
    | 2, _ => exact (@am_set_rd (am_set (am_set σf9 17 (0) (3)) 17 (1) (3)) 17 (2) (1))
    | 3, _ => exact (@am_set_rd (am_set (am_set (am_set σf9 17 (0) (3)) 17 (1) (3)) 17 (2) (1)) 17 (3) (2))
    | 4, _ => exact (@am_set_rd (am_set (am_set (am_set (am_set σf9 17 (0) (3)) 17 (1) (3)) 17 (2) (1)) 17 (3) (2)) 17 (4) (2))
    | j + 5, h => exact absurd h (by omega)
theorem z13 (σ : am_S) (k : Nat) (hW : WpC σ) (hk : k ≤ 6) (hz : σ.1 18 1 = (nkT k : Int)) (hnum : ∀ h, h < nkT k → σ.1 19 h = (tb k h : Int)) (w : Int) : CC 13 [vR 18, vI (w)] σ (fun r σ' => r = some (vI (ix k w)) ∧ σ' = σ) := by
  show TT am_b13 (am_b13.getD 0 []) [(0, vR 18), (1, vI (w))] [] σ _
  have hnb := nkT_bd k
  refine tt_ar rfl ?_
  refine tt_ar rfl ?_
  refine tt_ar rfl ?_
  refine tt_getI (x := ((nkT k : Nat) : Int)) (poC_18 hW) rfl hz ?_
  refine tt_ar rfl ?_
  refine tt_isub (by omega) (by omega) ?_
  refine tt_ar rfl ?_
  refine tt_nop ?_
  have lp1_1 : ∀ (μ : Nat) (lo : Nat) (hn : Nat), hn + 1 - lo < μ → (lo ≤ nkT k) → (hn ≤ nkT k) → (∀ t, t < lo → (tb k t : Int) < w) → (∀ t, t < nkT k → hn ≤ t → w < (tb k t : Int)) → TT am_b13 (am_b13.getD 1 []) [(0, vR 18), (1, vI (w)), (2, vI (((lo : Nat) : Int))), (3, vI ((((hn : Nat) : Int) - 1)))] [] σ (fun r σ' => r = some (vI (ix k w)) ∧ σ' = σ) := by
    intro μ
    induction μ with
    | zero => intro lo hn hμ; exact absurd hμ (Nat.not_lt_zero _)
    | succ μ ih1 =>
      intro lo hn hμ hlo hhn hA hB
      refine tt_ar rfl ?_
      refine tt_ar rfl ?_
      refine tt_icgt (fun h1_2 => ?_) (fun h1_2 => ?_)
      · refine tt_ar rfl ?_
        refine tt_iret ?_
        exact ⟨rv (ix_no (fun t ht e => by by_cases e1 : t < lo; (have := hA t e1; omega); (have := hB t ht (by omega); omega))).symm, rfl⟩
      · refine tt_ar rfl ?_
        refine tt_ar rfl ?_
        refine tt_iadd (by omega) (by omega) ?_
        refine tt_ar rfl ?_
        refine tt_dI (g := (fun a b => w32 (Int.tdiv a b))) (z := (((lo + hn - 1) / 2 : Nat) : Int)) rfl (by omega) (tdiv2 (by omega) (by omega)) ?_
        refine tt_ar rfl ?_
        refine tt_ar rfl ?_
        refine tt_getR (poC_18 hW) rfl (prC_18_2 hW) ?_
        refine tt_ar rfl ?_
        refine tt_iald (((lo + hn - 1) / 2)) (x := ((tb k (((lo + hn - 1) / 2)) : Nat) : Int)) (paC_19 hW) (by omega) (by omega) (hnum (((lo + hn - 1) / 2)) (by omega)) ?_
        refine tt_ar rfl ?_
        refine tt_icne (fun h1_14 => ?_) (fun h1_14 => ?_)
        · refine tt_ar rfl ?_
          refine tt_getR (poC_18 hW) rfl (prC_18_2 hW) ?_
          refine tt_ar rfl ?_
          refine tt_iald (((lo + hn - 1) / 2)) (x := ((tb k (((lo + hn - 1) / 2)) : Nat) : Int)) (paC_19 hW) (by omega) (by omega) (hnum (((lo + hn - 1) / 2)) (by omega)) ?_
          refine tt_ar rfl ?_
          refine tt_icge (fun h2_5 => ?_) (fun h2_5 => ?_)
          · refine tt_ar rfl ?_
            refine tt_ar rfl ?_
            refine tt_isub (by omega) (by omega) ?_
            refine tt_ar rfl ?_
            refine tt_nop ?_
            refine tt_goto ?_
            refine tt_loc [(0, vR 18), (1, vI (w)), (2, vI (((lo : Nat) : Int))), (3, vI (((((lo + hn - 1) / 2 : Nat) : Int) - 1)))] rfl rfl ⟨rfl, rfl, rfl, rfl, trivial⟩ ?_
            exact ih1 (lo) ((lo + hn - 1) / 2) (by omega) (by omega) (by omega) (by first | exact hA | exact fun t ht => by have := tb_lt hk (a := t) (b := (lo + hn - 1) / 2) (by omega); have e : t = (lo + hn - 1) / 2 ∨ t < (lo + hn - 1) / 2 := (by omega); (rcases e with e | e; (subst e; omega); (have := this e; omega))) (by first | exact hB | exact fun t h1 h2 => by have e : t = (lo + hn - 1) / 2 ∨ (lo + hn - 1) / 2 < t := (by omega); (rcases e with e | e; (subst e; omega); (have := tb_lt hk h1 e; omega)))
          · refine tt_ar rfl ?_
            refine tt_ar rfl ?_
            refine tt_iadd (by omega) (by omega) ?_
            refine tt_ar rfl ?_
            refine tt_goto ?_
            refine tt_goto ?_
            refine tt_loc [(0, vR 18), (1, vI (w)), (2, vI ((((lo + hn - 1) / 2 + 1 : Nat) : Int))), (3, vI ((((hn : Nat) : Int) - 1)))] rfl rfl ⟨rfl, rfl, lv_to rfl (by omega), rfl, trivial⟩ ?_
            exact ih1 ((lo + hn - 1) / 2 + 1) (hn) (by omega) (by omega) (by omega) (by first | exact hA | exact fun t ht => by have := tb_lt hk (a := t) (b := (lo + hn - 1) / 2) (by omega); have e : t = (lo + hn - 1) / 2 ∨ t < (lo + hn - 1) / 2 := (by omega); (rcases e with e | e; (subst e; omega); (have := this e; omega))) (by first | exact hB | exact fun t h1 h2 => by have e : t = (lo + hn - 1) / 2 ∨ (lo + hn - 1) / 2 < t := (by omega); (rcases e with e | e; (subst e; omega); (have := tb_lt hk h1 e; omega)))
        · refine tt_ar rfl ?_
          refine tt_iret ?_
          exact ⟨rv (ix_of hk (by omega) (by omega)).symm, rfl⟩
  refine tt_loc [(0, vR 18), (1, vI (w)), (2, vI (((0 : Nat) : Int))), (3, vI ((((nkT k : Nat) : Int) - 1)))] rfl rfl ⟨rfl, rfl, lv_to rfl (by omega), rfl, trivial⟩ ?_
  exact lp1_1 _ (0) (nkT k) (Nat.lt_succ_self _) (by omega) (by omega) (fun t ht => absurd ht (Nat.not_lt_zero t)) (fun t h1 h2 => absurd h1 (by omega))
theorem z12 (σ : am_S) (k last : Nat) (hW : WpC σ) (hk : k ≤ 6) (hk5 : σ.1 5 0 = (k : Int)) (hw : WR σ) (hN : HN k (last + 1) σ) (hlast : last < nkT k) (h462 : last + 1 < 462) : CC 12 [vR 18, vI (((last : Nat) : Int)), vI (((last + 1 : Nat) : Int))] σ (fun r σ' => (last + 1 < nkT k ∧ r = some (vI 1) ∧ Fr [19, 20, 21] σ σ' ∧ HN k (last + 2) σ') ∨ (last + 1 = nkT k ∧ σ' = σ ∧ r = some (vI 0))) := by
  show TT am_b12 (am_b12.getD 0 []) [(0, vR 18), (1, vI (((last : Nat) : Int))), (2, vI (((last + 1 : Nat) : Int)))] [] σ _
  have hsm := tb_small hk hlast
  have hen := en_at hk hlast
  have hds := hen.2.1
  refine tt_ar rfl ?_
  refine tt_getR (poC_18 hW) rfl (prC_18_3 hW) ?_
  refine tt_ar rfl ?_
  refine tt_iald (last) (x := ((dsN 6 (tb k last) : Nat) : Int)) (paC_20 hW) rfl (by omega) (hN last (by omega)).2.1 ?_
  refine tt_ar rfl ?_
  refine tt_ar rfl ?_
  refine tt_getR (poC_18 hW) rfl (prC_18_2 hW) ?_
  refine tt_ar rfl ?_
  refine tt_iald (last) (x := ((tb k last : Nat) : Int)) (paC_19 hW) rfl (by omega) (hN last (by omega)).1 ?_
  refine tt_ar rfl ?_
  refine tt_ar rfl ?_
  refine tt_ar rfl ?_
  refine tt_nop ?_
  have lp1_1 : ∀ (μ : Nat) (s : Nat), k - s < μ → (s ≤ k) → (∀ t, t < s → ¬ dsN 6 (tb k last) - dsN t (tb k last) < 5) → TT am_b12 (am_b12.getD 1 []) [(0, vR 18), (1, vI (((last : Nat) : Int))), (2, vI (((last + 1 : Nat) : Int))), (3, vI ((((dsN 6 (tb k last) : Nat) : Int) - ((dsN s (tb k last) : Nat) : Int)))), (4, vI ((((tb k last : Nat) : Int) - ((lwN s (tb k last) : Nat) : Int)))), (5, vI (((s : Nat) : Int)))] [] σ (fun r σ' => (last + 1 < nkT k ∧ r = some (vI 1) ∧ Fr [19, 20, 21] σ σ' ∧ HN k (last + 2) σ') ∨ (last + 1 = nkT k ∧ σ' = σ ∧ r = some (vI 0))) := by
    intro μ
    induction μ with
    | zero => intro s hμ; exact absurd hμ (Nat.not_lt_zero _)
    | succ μ ih1 =>
      intro s hμ hs hC
      refine tt_ar rfl ?_
      refine tt_ar rfl ?_
      refine tt_getR (poC_18 hW) rfl (prC_18_0 hW) ?_
      refine tt_getI (x := ((k : Nat) : Int)) (poC_5 hW) rfl hk5 ?_
      refine tt_icge (fun h1_4 => ?_) (fun h1_4 => ?_)
      · refine tt_ar rfl ?_
        refine tt_zret (by omega) ?_
        have hf : ¬ fwS k (tb k last) < k := by
          have : fwS k (tb k last) = k := fstN_none (fun t ht => decide_eq_false (hC t (by omega)))
          omega
        exact Or.inr ⟨(nx_at hk hlast).2 hf, rfl, rfl⟩
      · have hds1 := dsN_le (num := tb k last) (s := s + 1) (by omega)
        have hds0 : dsN (s + 1) (tb k last) = dsN s (tb k last) + dg (tb k last) s := rfl
        have hlw1 := lwN_le (s := s + 1) hk hlast (by omega)
        have hlw0 : lwN (s + 1) (tb k last) = lwN s (tb k last) + dg (tb k last) s * 10 ^ s := rfl
        have hmu : ((dg (tb k last) s : Nat) : Int) * ((10 ^ s : Nat) : Int) = ((dg (tb k last) s * 10 ^ s : Nat) : Int) := (Int.natCast_mul _ _).symm
        have hps : 10 ^ s ≤ 100000 := Nat.pow_le_pow_right (by decide) (show s ≤ 5 by omega)
        have hps0 : (0 : Int) ≤ ((10 ^ s : Nat) : Int) := Int.natCast_nonneg _
        have hdl := dg_lt (tb k last) s
        refine tt_ar rfl ?_
        refine tt_ar rfl ?_
        refine tt_icge (fun h1_7 => ?_) (fun h1_7 => ?_)
        · refine tt_ar rfl ?_
          refine tt_ar rfl ?_
          refine tt_getR (poC_18 hW) rfl (prC_18_4 hW) ?_
          refine tt_ar rfl ?_
          refine tt_ar rfl ?_
          refine tt_imul (by omega) (by omega) ?_
          refine tt_ar rfl ?_
          refine tt_iadd (by omega) (by omega) ?_
          refine tt_iald (((last * 6) + s)) (x := ((dg (tb k last) s : Nat) : Int)) (paC_21 hW) (by omega) (by omega) ((hN last (by omega)).2.2 s (by omega)) ?_
          refine tt_isub (by omega) (by omega) ?_
          refine tt_ar rfl ?_
          refine tt_ar rfl ?_
          refine tt_ar rfl ?_
          refine tt_getR (poC_18 hW) rfl (prC_18_4 hW) ?_
          refine tt_ar rfl ?_
          refine tt_ar rfl ?_
          refine tt_imul (by omega) (by omega) ?_
          refine tt_ar rfl ?_
          refine tt_iadd (by omega) (by omega) ?_
          refine tt_iald (((last * 6) + s)) (x := ((dg (tb k last) s : Nat) : Int)) (paC_21 hW) (by omega) (by omega) ((hN last (by omega)).2.2 s (by omega)) ?_
          refine tt_gets ?_
          refine tt_ar rfl ?_
          refine tt_iald (s) (x := ((10 ^ s : Nat) : Int)) (paC_0 hW) rfl (by omega) (hw s (by omega)) ?_
          refine tt_imul (by omega) (by omega) ?_
          refine tt_isub (by omega) (by omega) ?_
          refine tt_ar rfl ?_
          refine tt_iinc (y := ((s + 1 : Nat) : Int)) rfl (iinc_fit (by omega) (by omega) (by omega)) ?_
          refine tt_goto ?_
          refine tt_loc [(0, vR 18), (1, vI (((last : Nat) : Int))), (2, vI (((last + 1 : Nat) : Int))), (3, vI ((((dsN 6 (tb k last) : Nat) : Int) - ((dsN (s + 1) (tb k last) : Nat) : Int)))), (4, vI ((((tb k last : Nat) : Int) - ((lwN (s + 1) (tb k last) : Nat) : Int)))), (5, vI (((s + 1 : Nat) : Int)))] rfl rfl ⟨rfl, rfl, rfl, lv_to rfl (by rw [show dsN (s + 1) (tb k last) = dsN s (tb k last) + dg (tb k last) s from rfl]; omega), lv_to rfl (by rw [show lwN (s + 1) (tb k last) = lwN s (tb k last) + dg (tb k last) s * 10 ^ s from rfl]; omega), rfl, trivial⟩ ?_
          exact ih1 (s + 1) (by omega) (by omega) (fun t ht => by by_cases e : t = s; (subst e; omega); exact hC t (by omega))
        · refine tt_ar rfl ?_
          refine tt_getR (poC_18 hW) rfl (prC_18_4 hW) ?_
          refine tt_ar rfl ?_
          refine tt_ar rfl ?_
          refine tt_imul (by omega) (by omega) ?_
          refine tt_ar rfl ?_
          refine tt_getR (poC_18 hW) rfl (prC_18_4 hW) ?_
          refine tt_ar rfl ?_
          refine tt_ar rfl ?_
          refine tt_imul (by omega) (by omega) ?_
          refine tt_ar rfl ?_
          refine tt_acopy (sp := (last * 6)) (dp := ((last + 1) * 6)) (n := 6) (paC_21 hW) (paC_21 hW) (by omega) (by omega) rfl (by omega) (by omega) (by omega) (by omega) rfl ?_
          obtain ⟨σc2, hFc3, hCc4, hg5⟩ := cpy_ex σ 21 ((last * 6)) 21 (((last + 1) * 6)) (6)
          rw [hg5]
          have hW6 := Fr.wpC hFc3 hW
          refine tt_ar rfl ?_
          refine tt_getR (poC_18 hW6) rfl (prC_18_4 hW6) ?_
          refine tt_ar rfl ?_
          refine tt_ar rfl ?_
          refine tt_imul (by omega) (by omega) ?_
          refine tt_ar rfl ?_
          refine tt_ar rfl ?_
          refine tt_imul (by omega) (by omega) ?_
          refine tt_ar rfl ?_
          refine tt_iadd (by omega) (by omega) ?_
          refine tt_ar rfl ?_
          refine tt_cs4 4 rfl (c10 σc2 21 2772 ((last + 1) * 6) ((last + 1) * 6 + s) 0 (paC_21 hW6) (by decide) (by rfl) (by omega) (by omega)) ?_
          intro r0 σf hq0
          obtain ⟨rfl, hFf, hCf⟩ := hq0
          have hW7 := Fr.wpC hFf hW6
          refine tt_ar rfl ?_
          refine tt_getR (poC_18 hW7) rfl (prC_18_4 hW7) ?_
          refine tt_ar rfl ?_
          refine tt_ar rfl ?_
          refine tt_imul (by omega) (by omega) ?_
          refine tt_ar rfl ?_
          refine tt_iadd (by omega) (by omega) ?_
          refine tt_ar rfl ?_
          refine tt_iald ((((last + 1) * 6) + s)) (x := ((dg (tb k last) s : Nat) : Int)) (paC_21 hW7) (by omega) (by omega) ((hCf ((last + 1) * 6 + s)).trans ((if_neg (by omega)).trans ((hCc4 ((last + 1) * 6 + s)).trans ((if_pos (by omega)).trans (by rw [show last * 6 + ((last + 1) * 6 + s - (last + 1) * 6) = last * 6 + s by omega]; exact (hN last (by omega)).2.2 s (by omega)))))) ?_
          refine tt_ar rfl ?_
          refine tt_iadd (by omega) (by omega) ?_
          refine tt_iast ((((last + 1) * 6) + s)) (paC_21 hW7) (by omega) (by omega) (by omega) ?_
          refine tt_ar rfl ?_
          refine tt_getR (poC_18 hW7) rfl (prC_18_3 hW7) ?_
          refine tt_ar rfl ?_
          refine tt_ar rfl ?_
          refine tt_ar rfl ?_
          refine tt_iadd (by omega) (by omega) ?_
          refine tt_iast (last + 1) (paC_20 hW7) (by omega) rfl (by omega) ?_
          refine tt_ar rfl ?_
          refine tt_getR (poC_18 hW7) rfl (prC_18_2 hW7) ?_
          refine tt_ar rfl ?_
          refine tt_ar rfl ?_
          refine tt_gets ?_
          refine tt_ar rfl ?_
          refine tt_iald (s) (x := ((10 ^ s : Nat) : Int)) (paC_0 hW7) rfl (by omega) (((hFf.2 0 (by decide) (s)).trans (hFc3.2 0 (by decide) (s))).trans (hw s (by omega))) ?_
          refine tt_iadd (by omega) (by omega) ?_
          refine tt_iast (last + 1) (paC_19 hW7) (by omega) rfl (by omega) ?_
          refine tt_ar rfl ?_
          refine tt_zret (by omega) ?_
          have hf : fwS k (tb k last) = s := fstN_eq (decide_eq_true (by omega)) (fun t ht => decide_eq_false (hC t ht)) (by omega)
          have hn := (nx_at hk hlast).1 (by rw [hf]; omega)
          rw [hf] at hn
          obtain ⟨n1, n2, n3, n4, n5⟩ := hn
          refine Or.inl ⟨n1, rfl, (Fr.put (Fr.put (Fr.put (Fr.tr (Fr.tr Fr.rf hFc3 (by decide)) hFf (by decide)) (by decide)) (by decide)) (by decide)), fun h hh => ?_⟩
          have q19 : ∀ j, (am_set (am_set (am_set σf 21 ((((last + 1) * 6) + s)) ((((dg (tb k last) s : Nat) : Int) + 1))) 20 (last + 1) (((((dsN 6 (tb k last) : Nat) : Int) - ((dsN s (tb k last) : Nat) : Int)) + 1))) 19 (last + 1) (((((tb k last : Nat) : Int) - ((lwN s (tb k last) : Nat) : Int)) + ((10 ^ s : Nat) : Int)))).1 19 j = if j = last + 1 then ((((tb k last : Nat) : Int) - ((lwN s (tb k last) : Nat) : Int)) + ((10 ^ s : Nat) : Int)) else σ.1 19 j := fun j => by
            show (am_set (am_set (am_set σf 21 ((((last + 1) * 6) + s)) ((((dg (tb k last) s : Nat) : Int) + 1))) 20 (last + 1) (((((dsN 6 (tb k last) : Nat) : Int) - ((dsN s (tb k last) : Nat) : Int)) + 1))) 19 (last + 1) _).1 19 j = _
            rw [am_set_at]
            congr 1
            exact ((hFf.2 19 (by decide) (j)).trans (hFc3.2 19 (by decide) (j)))
          have q20 : ∀ j, (am_set (am_set (am_set σf 21 ((((last + 1) * 6) + s)) ((((dg (tb k last) s : Nat) : Int) + 1))) 20 (last + 1) (((((dsN 6 (tb k last) : Nat) : Int) - ((dsN s (tb k last) : Nat) : Int)) + 1))) 19 (last + 1) (((((tb k last : Nat) : Int) - ((lwN s (tb k last) : Nat) : Int)) + ((10 ^ s : Nat) : Int)))).1 20 j = if j = last + 1 then ((((dsN 6 (tb k last) : Nat) : Int) - ((dsN s (tb k last) : Nat) : Int)) + 1) else σ.1 20 j := fun j => by
            show (am_set (am_set σf 21 ((((last + 1) * 6) + s)) ((((dg (tb k last) s : Nat) : Int) + 1))) 20 (last + 1) _).1 20 j = _
            rw [am_set_at]
            congr 1
            exact ((hFf.2 20 (by decide) (j)).trans (hFc3.2 20 (by decide) (j)))
          have q21 : ∀ j, (am_set (am_set (am_set σf 21 ((((last + 1) * 6) + s)) ((((dg (tb k last) s : Nat) : Int) + 1))) 20 (last + 1) (((((dsN 6 (tb k last) : Nat) : Int) - ((dsN s (tb k last) : Nat) : Int)) + 1))) 19 (last + 1) (((((tb k last : Nat) : Int) - ((lwN s (tb k last) : Nat) : Int)) + ((10 ^ s : Nat) : Int)))).1 21 j = if j = (last + 1) * 6 + s then (((dg (tb k last) s : Nat) : Int) + 1) else if (last + 1) * 6 ≤ j ∧ j < (last + 1) * 6 + s then 0 else if (last + 1) * 6 ≤ j ∧ j < (last + 1) * 6 + 6 then σ.1 21 (last * 6 + (j - (last + 1) * 6)) else σ.1 21 j := fun j => by
            show (am_set σf 21 ((last + 1) * 6 + s) _).1 21 j = _
            rw [am_set_at, hCf j]
            rw [show σc2.1 21 j = _ from hCc4 j]
          have ha := tb_small hk n1
          have ho := hN h
          by_cases e : h = last + 1
          · subst e
            refine ⟨?_, ?_, fun i hi => ?_⟩
            · rw [q19, if_pos rfl, n3]; omega
            · rw [q20, if_pos rfl, n4]; omega
            · rw [q21, n5 i hi]
              by_cases e1 : i = s
              · subst e1
                rw [if_pos rfl, if_neg (Nat.lt_irrefl _), if_pos rfl]; omega
              · rw [if_neg (by omega)]
                by_cases e2 : i < s
                · rw [if_pos (by omega), if_pos e2]; rfl
                · rw [if_neg (by omega), if_pos (by omega), if_neg e2, if_neg e1, show last * 6 + ((last + 1) * 6 + i - (last + 1) * 6) = last * 6 + i by omega]
                  exact (hN last (by omega)).2.2 i hi
          · obtain ⟨o1, o2, o3⟩ := ho (by omega)
            refine ⟨by rw [q19, if_neg e]; exact o1, by rw [q20, if_neg e]; exact o2, fun i hi => ?_⟩
            rw [q21, if_neg (by omega), if_neg (by omega), if_neg (by omega)]
            exact o3 i hi
  refine tt_loc [(0, vR 18), (1, vI (((last : Nat) : Int))), (2, vI (((last + 1 : Nat) : Int))), (3, vI ((((dsN 6 (tb k last) : Nat) : Int) - ((dsN 0 (tb k last) : Nat) : Int)))), (4, vI ((((tb k last : Nat) : Int) - ((lwN 0 (tb k last) : Nat) : Int)))), (5, vI (((0 : Nat) : Int)))] rfl rfl ⟨rfl, rfl, rfl, lv_to rfl (by show _ = _ - ((0 : Nat) : Int); omega), lv_to rfl (by show _ = _ - ((0 : Nat) : Int); omega), lv_to rfl (by omega), trivial⟩ ?_
  exact lp1_1 _ (0) (Nat.lt_succ_self _) (by omega) (fun t ht => absurd ht (Nat.not_lt_zero t))
theorem z9 (σ : am_S) (k : Nat) (hW : WpC σ) (hk : k ≤ 6) (hk5 : σ.1 5 0 = (k : Int)) (hw : WR σ) : CC 9 [vR 18] σ (fun r σ' => r = none ∧ Fr [18, 19, 20, 21] σ σ' ∧ σ'.1 18 1 = (nkT k : Int) ∧ HN k (nkT k) σ') := by
  show TT am_b9 (am_b9.getD 0 []) [(0, vR 18)] [] σ _
  have hnb := nkT_bd k
  refine tt_ar rfl ?_
  refine tt_ar rfl ?_
  refine tt_putI (poC_18 hW) rfl ?_
  refine tt_ar rfl ?_
  refine tt_getR (poC_18 hW) rfl (prC_18_2 hW) ?_
  refine tt_ar rfl ?_
  refine tt_ar rfl ?_
  refine tt_iast (0) (paC_19 hW) (by omega) rfl (by omega) ?_
  refine tt_ar rfl ?_
  refine tt_getR (poC_18 hW) rfl (prC_18_3 hW) ?_
  refine tt_ar rfl ?_
  refine tt_ar rfl ?_
  refine tt_iast (0) (paC_20 hW) (by omega) rfl (by omega) ?_
  refine tt_ar rfl ?_
  refine tt_getR (poC_18 hW) rfl (prC_18_4 hW) ?_
  refine tt_ar rfl ?_
  refine tt_ar rfl ?_
  refine tt_ar rfl ?_
  refine tt_cs4 4 rfl (c10 (am_set (am_set (am_set σ 18 (1) (1)) 19 (0) (0)) 20 (0) (0)) 21 2772 0 6 0 (paC_21 hW) (by decide) (by rfl) (by omega) (by omega)) ?_
  intro r0 σf hq0
  obtain ⟨rfl, hFf, hCf⟩ := hq0
  have hW1 := Fr.wpC hFf hW
  refine tt_nop ?_
  have lp1_2 : ∀ (μ : Nat) (n : Nat) (σ1 : am_S), 463 - n < μ → Fr [18, 19, 20, 21] σ σ1 → (1 ≤ n) → (n ≤ nkT k) → (σ1.1 18 1 = ((n : Nat) : Int)) → (HN k n σ1) → TT am_b9 (am_b9.getD 1 []) [(0, vR 18)] [] σ1 (fun r σ' => r = none ∧ Fr [18, 19, 20, 21] σ σ' ∧ σ'.1 18 1 = (nkT k : Int) ∧ HN k (nkT k) σ') := by
    intro μ
    induction μ with
    | zero => intro n σ1 hμ; exact absurd hμ (Nat.not_lt_zero _)
    | succ μ ih1 =>
      intro n σ1 hμ hF_σ1 hn1 hn hz hN
      have hW_σ1 := Fr.wpC hF_σ1 hW
      refine tt_ar rfl ?_
      refine tt_getI (x := ((n : Nat) : Int)) (poC_18 hW_σ1) rfl hz ?_
      refine tt_ar rfl ?_
      refine tt_icge (fun h1_3 => ?_) (fun h1_3 => ?_)
      · refine tt_vret ?_
        have e1 : nkT k = n := by omega
        rw [e1]
        exact ⟨rfl, hF_σ1, hz, hN⟩
      · refine tt_ar rfl ?_
        refine tt_ar rfl ?_
        refine tt_getI (x := ((n : Nat) : Int)) (poC_18 hW_σ1) rfl hz ?_
        refine tt_ar rfl ?_
        refine tt_isub (by omega) (by omega) ?_
        refine tt_ar rfl ?_
        refine tt_getI (x := ((n : Nat) : Int)) (poC_18 hW_σ1) rfl hz ?_
        have hc12 := ((show CC 12 [vR 18, vI (((n - 1 : Nat)) : Int), vI (((n - 1 + 1 : Nat)) : Int)] σ1 _ from z12 σ1 k (n - 1) hW_σ1 hk ((hF_σ1.2 5 (by decide) 0).trans hk5) (fun j hj => (hF_σ1.2 0 (by decide) j).trans (hw j hj)) (by rw [show n - 1 + 1 = n by omega]; exact hN) (by omega) (by omega)))
        rw [show ((n - 1 : Nat) : Int) = ((n : Nat) : Int) - 1 by omega, show ((n - 1 + 1 : Nat) : Int) = ((n : Nat) : Int) by omega] at hc12
        refine tt_cv3 3 rfl (poC_18 hW_σ1) hc12 (kor (kand fun hlt => ?_) (kand fun heq => ks ?_))
        · intro r0 σ2 hq0
          obtain ⟨rfl, hF2, hN2⟩ := hq0
          have hW2 := Fr.wpC hF2 hW_σ1
          refine tt_ifeqF (by decide) ?_
          refine tt_ar rfl ?_
          refine tt_ar rfl ?_
          refine tt_getI (x := ((n : Nat) : Int)) (poC_18 hW2) rfl ((hF2.2 18 (by decide) (1)).trans hz) ?_
          refine tt_ar rfl ?_
          refine tt_iadd (by omega) (by omega) ?_
          refine tt_putI (poC_18 hW2) rfl ?_
          refine tt_goto ?_
          refine tt_loc [(0, vR 18)] rfl rfl ⟨rfl, trivial⟩ ?_
          exact ih1 (n + 1) _ (by omega) (Fr.put (Fr.tr (Fr.tr Fr.rf hF_σ1 (by decide)) hF2 (by decide)) (by decide)) (by omega) (by omega) ((@am_set_rd σ2 18 1 (((n : Nat) : Int) + 1)).trans (by omega)) (HN.fr (L := [18]) (Fr.put Fr.rf (by decide)) (by decide) (by rw [show n + 1 = n - 1 + 2 by omega]; exact hN2))
        · refine tt_ifeqT (by decide) ?_
          refine tt_vret ?_
          have e1 : nkT k = n := by omega
          rw [e1]
          exact ⟨rfl, hF_σ1, hz, hN⟩
  refine tt_loc [(0, vR 18)] rfl rfl ⟨rfl, trivial⟩ ?_
  exact lp1_2 _ (1) σf (Nat.lt_succ_self _) (Fr.tr (Fr.put (Fr.put (Fr.put Fr.rf (by decide)) (by decide)) (by decide)) hFf (by decide)) (by omega) (by omega) ((hFf.2 18 (by decide) 1).trans rfl) (hn_0 hk ((hFf.2 19 (by decide) 0).trans rfl) ((hFf.2 20 (by decide) 0).trans rfl) (fun j hj => (hCf j).trans (if_pos (by omega))))
theorem z14 (σ : am_S) (k h : Nat) (hW : WpC σ) (hD : LD k σ) (hh : h < nkT k) (hN : HN k (nkT k) σ) : CC 14 [vR 18, vI (((h : Nat) : Int))] σ (fun r σ' => r = none ∧ Fr [25, 26] σ σ' ∧ (∀ x, x < 8 → σ'.1 25 (h * 8 + x) = hgS k (tb k h) (σ.1 7) x ∧ σ'.1 26 (h * 8 + x) = hgS k (tb k h) (σ.1 8) x) ∧ ∀ j, (j < h * 8 ∨ h * 8 + 8 ≤ j) → σ'.1 25 j = σ.1 25 j ∧ σ'.1 26 j = σ.1 26 j) := by
  show TT am_b14 (am_b14.getD 0 []) [(0, vR 18), (1, vI (((h : Nat) : Int)))] [] σ _
  have hk6 := hD.2.1
  have hnb := nkT_bd k
  have hen := en_at hk6 hh
  refine tt_ar rfl ?_
  refine tt_ar rfl ?_
  refine tt_nop ?_
  have lp1_1 : ∀ (μ : Nat) (x : Nat) (σ1 : am_S), 8 - x < μ → Fr [25, 26] σ σ1 → (x ≤ 8) → (∀ y, y < x → σ1.1 25 (h * 8 + y) = hgS k (tb k h) (σ.1 7) y ∧ σ1.1 26 (h * 8 + y) = hgS k (tb k h) (σ.1 8) y) → (∀ j, (j < h * 8 ∨ h * 8 + 8 ≤ j) → σ1.1 25 j = σ.1 25 j ∧ σ1.1 26 j = σ.1 26 j) → TT am_b14 (am_b14.getD 1 []) [(0, vR 18), (1, vI (((h : Nat) : Int))), (2, vI (((x : Nat) : Int)))] [] σ1 (fun r σ' => r = none ∧ Fr [25, 26] σ σ' ∧ (∀ x, x < 8 → σ'.1 25 (h * 8 + x) = hgS k (tb k h) (σ.1 7) x ∧ σ'.1 26 (h * 8 + x) = hgS k (tb k h) (σ.1 8) x) ∧ ∀ j, (j < h * 8 ∨ h * 8 + 8 ≤ j) → σ'.1 25 j = σ.1 25 j ∧ σ'.1 26 j = σ.1 26 j) := by
    intro μ
    induction μ with
    | zero => intro x σ1 hμ; exact absurd hμ (Nat.not_lt_zero _)
    | succ μ ih1 =>
      intro x σ1 hμ hF_σ1 hx hA hO
      have hW_σ1 := Fr.wpC hF_σ1 hW
      refine tt_ar rfl ?_
      refine tt_ar rfl ?_
      refine tt_icge (fun h1_2 => ?_) (fun h1_2 => ?_)
      · refine tt_vret ?_
        have e1 : 8 = x := by omega
        subst e1
        exact ⟨rfl, hF_σ1, hA, hO⟩
      · refine tt_ar rfl ?_
        refine tt_ar rfl ?_
        refine tt_ar rfl ?_
        refine tt_ar rfl ?_
        refine tt_ar rfl ?_
        refine tt_ar rfl ?_
        refine tt_nop ?_
        have lp2_2 : ∀ (μ : Nat) (s : Nat), k - s < μ → (s ≤ k) → TT am_b14 (am_b14.getD 2 []) [(0, vR 18), (1, vI (((h : Nat) : Int))), (2, vI (((x : Nat) : Int))), (3, vI (hgS s (tb k h) (σ.1 7) x)), (4, vI (hgS s (tb k h) (σ.1 8) x)), (5, vI (((s : Nat) : Int)))] [] σ1 (fun r σ' => r = none ∧ Fr [25, 26] σ σ' ∧ (∀ x, x < 8 → σ'.1 25 (h * 8 + x) = hgS k (tb k h) (σ.1 7) x ∧ σ'.1 26 (h * 8 + x) = hgS k (tb k h) (σ.1 8) x) ∧ ∀ j, (j < h * 8 ∨ h * 8 + 8 ≤ j) → σ'.1 25 j = σ.1 25 j ∧ σ'.1 26 j = σ.1 26 j) := by
          intro μ
          induction μ with
          | zero => intro s hμ; exact absurd hμ (Nat.not_lt_zero _)
          | succ μ ih2 =>
            intro s hμ hs
            have hl := hgS_bd (k := k) (num := tb k h) (w := σ.1 7) (x := x) (s := s) (fun i hi => by have := hD.2.2.1 i hi; omega) (by omega) (by omega) hen.2.1
            have hm := hgS_bd (k := k) (num := tb k h) (w := σ.1 8) (x := x) (s := s) (fun i hi => by have := hD.2.2.1 i hi; omega) (by omega) (by omega) hen.2.1
            refine tt_ar rfl ?_
            refine tt_ar rfl ?_
            refine tt_getR (poC_18 hW_σ1) rfl (prC_18_0 hW_σ1) ?_
            refine tt_getI (x := ((k : Nat) : Int)) (poC_5 hW_σ1) rfl ((hF_σ1.2 5 (by decide) (0)).trans hD.1) ?_
            refine tt_icge (fun h2_4 => ?_) (fun h2_4 => ?_)
            · refine tt_ar rfl ?_
              refine tt_getR (poC_18 hW_σ1) rfl (prC_18_8 hW_σ1) ?_
              refine tt_ar rfl ?_
              refine tt_ar rfl ?_
              refine tt_imul (by omega) (by omega) ?_
              refine tt_ar rfl ?_
              refine tt_iadd (by omega) (by omega) ?_
              refine tt_ar rfl ?_
              refine tt_iast (((h * 8) + x)) (paC_25 hW_σ1) (by omega) (by omega) (by omega) ?_
              refine tt_ar rfl ?_
              refine tt_getR (poC_18 hW_σ1) rfl (prC_18_9 hW_σ1) ?_
              refine tt_ar rfl ?_
              refine tt_ar rfl ?_
              refine tt_imul (by omega) (by omega) ?_
              refine tt_ar rfl ?_
              refine tt_iadd (by omega) (by omega) ?_
              refine tt_ar rfl ?_
              refine tt_iast (((h * 8) + x)) (paC_26 hW_σ1) (by omega) (by omega) (by omega) ?_
              refine tt_iinc (y := ((x + 1 : Nat) : Int)) rfl (iinc_fit (by omega) (by omega) (by omega)) ?_
              refine tt_goto ?_
              refine tt_loc [(0, vR 18), (1, vI (((h : Nat) : Int))), (2, vI (((x + 1 : Nat) : Int)))] rfl rfl ⟨rfl, rfl, rfl, trivial⟩ ?_
              exact ih1 (x + 1) _ (by omega) (Fr.put (Fr.put (Fr.tr Fr.rf hF_σ1 (by decide)) (by decide)) (by decide)) (by omega) (hg_step hA (by rw [show k = s by omega]) (by rw [show k = s by omega])) (hg_out hO (by omega))
            · refine tt_ar rfl ?_
              refine tt_ar rfl ?_
              refine tt_getR (poC_18 hW_σ1) rfl (prC_18_4 hW_σ1) ?_
              refine tt_ar rfl ?_
              refine tt_ar rfl ?_
              refine tt_imul (by omega) (by omega) ?_
              refine tt_ar rfl ?_
              refine tt_iadd (by omega) (by omega) ?_
              refine tt_iald (((h * 6) + s)) (x := ((dg (tb k h) s : Nat) : Int)) (paC_21 hW_σ1) (by omega) (by omega) ((hF_σ1.2 21 (by decide) (((h * 6) + s))).trans ((hN h hh).2.2 s (by omega))) ?_
              refine tt_ar rfl ?_
              refine tt_getR (poC_18 hW_σ1) rfl (prC_18_0 hW_σ1) ?_
              refine tt_getR (poC_5 hW_σ1) rfl (prC_5_2 hW_σ1) ?_
              refine tt_ar rfl ?_
              refine tt_ar rfl ?_
              refine tt_imul (by omega) (by omega) ?_
              refine tt_ar rfl ?_
              refine tt_iadd (by omega) (by omega) ?_
              refine tt_iald (((s * 8) + x)) (x := σ.1 7 (((s * 8) + x))) (paC_7 hW_σ1) (by omega) (by omega) (hF_σ1.2 7 (by decide) (((s * 8) + x))) ?_
              have hb7 := hD.2.2.1 (((s * 8) + x)) (by omega)
              have hp7 := mul_bd (a := ((dg (tb k h) s : Nat) : Int)) (b := σ.1 7 (((s * 8) + x))) (A := 9) (B := 9) (Int.natCast_nonneg _) (by have := dg_lt (tb k h) s; omega) (by omega) (by omega)
              refine tt_imul (by omega) (by omega) ?_
              refine tt_iadd (by omega) (by omega) ?_
              refine tt_ar rfl ?_
              refine tt_ar rfl ?_
              refine tt_ar rfl ?_
              refine tt_getR (poC_18 hW_σ1) rfl (prC_18_4 hW_σ1) ?_
              refine tt_ar rfl ?_
              refine tt_ar rfl ?_
              refine tt_imul (by omega) (by omega) ?_
              refine tt_ar rfl ?_
              refine tt_iadd (by omega) (by omega) ?_
              refine tt_iald (((h * 6) + s)) (x := ((dg (tb k h) s : Nat) : Int)) (paC_21 hW_σ1) (by omega) (by omega) ((hF_σ1.2 21 (by decide) (((h * 6) + s))).trans ((hN h hh).2.2 s (by omega))) ?_
              refine tt_ar rfl ?_
              refine tt_getR (poC_18 hW_σ1) rfl (prC_18_0 hW_σ1) ?_
              refine tt_getR (poC_5 hW_σ1) rfl (prC_5_3 hW_σ1) ?_
              refine tt_ar rfl ?_
              refine tt_ar rfl ?_
              refine tt_imul (by omega) (by omega) ?_
              refine tt_ar rfl ?_
              refine tt_iadd (by omega) (by omega) ?_
              refine tt_iald (((s * 8) + x)) (x := σ.1 8 (((s * 8) + x))) (paC_8 hW_σ1) (by omega) (by omega) (hF_σ1.2 8 (by decide) (((s * 8) + x))) ?_
              have hb8 := hD.2.2.1 (((s * 8) + x)) (by omega)
              have hp8 := mul_bd (a := ((dg (tb k h) s : Nat) : Int)) (b := σ.1 8 (((s * 8) + x))) (A := 9) (B := 9) (Int.natCast_nonneg _) (by have := dg_lt (tb k h) s; omega) (by omega) (by omega)
              refine tt_imul (by omega) (by omega) ?_
              refine tt_iadd (by omega) (by omega) ?_
              refine tt_ar rfl ?_
              refine tt_iinc (y := ((s + 1 : Nat) : Int)) rfl (iinc_fit (by omega) (by omega) (by omega)) ?_
              refine tt_goto ?_
              refine tt_loc [(0, vR 18), (1, vI (((h : Nat) : Int))), (2, vI (((x : Nat) : Int))), (3, vI (hgS (s + 1) (tb k h) (σ.1 7) x)), (4, vI (hgS (s + 1) (tb k h) (σ.1 8) x)), (5, vI (((s + 1 : Nat) : Int)))] rfl rfl ⟨rfl, rfl, rfl, lv_to rfl rfl, lv_to rfl rfl, rfl, trivial⟩ ?_
              exact ih2 (s + 1) (by omega) (by omega)
        refine tt_loc [(0, vR 18), (1, vI (((h : Nat) : Int))), (2, vI (((x : Nat) : Int))), (3, vI (hgS 0 (tb k h) (σ.1 7) x)), (4, vI (hgS 0 (tb k h) (σ.1 8) x)), (5, vI (((0 : Nat) : Int)))] rfl rfl ⟨rfl, rfl, rfl, lv_to rfl rfl, lv_to rfl rfl, lv_to rfl (by omega), trivial⟩ ?_
        exact lp2_2 _ (0) (Nat.lt_succ_self _) (by omega)
  refine tt_loc [(0, vR 18), (1, vI (((h : Nat) : Int))), (2, vI (((0 : Nat) : Int)))] rfl rfl ⟨rfl, rfl, lv_to rfl (by omega), trivial⟩ ?_
  exact lp1_1 _ (0) σ (Nat.lt_succ_self _) Fr.rf (by omega) (fun y hy => absurd hy (Nat.not_lt_zero y)) (fun j _ => ⟨rfl, rfl⟩)
theorem z15 (σ : am_S) (k h s : Nat) (hW : WpC σ) (hD : LD k σ) (hh : h < nkT k) (hs : s < 6) (hM : ∀ h, h < nkT k → ∀ s, s < 6 → σ.1 22 (h * 6 + s) = moV k (tb k h) s ∧ σ.1 23 (h * 6 + s) = leV k (tb k h) s) : CC 15 [vR 18, vI (((h : Nat) : Int)), vI (((s : Nat) : Int))] σ (fun r σ' => r = some (vI (olV k (σ.1 6) (tb k h) s)) ∧ σ' = σ) := by
  show TT am_b15 (am_b15.getD 0 []) [(0, vR 18), (1, vI (((h : Nat) : Int))), (2, vI (((s : Nat) : Int)))] [] σ _
  have hk6 := hD.2.1
  have hnb := nkT_bd k
  have hlb := leV_bd (num := tb k h) (s := s) hk6
  have hin := hD.2.2.2.2 s hs
  refine tt_ar rfl ?_
  refine tt_getR (poC_18 hW) rfl (prC_18_6 hW) ?_
  refine tt_ar rfl ?_
  refine tt_ar rfl ?_
  refine tt_imul (by omega) (by omega) ?_
  refine tt_ar rfl ?_
  refine tt_iadd (by omega) (by omega) ?_
  refine tt_iald (((h * 6) + s)) (x := leV k (tb k h) s) (paC_23 hW) (by omega) (by omega) (hM h hh s hs).2 ?_
  refine tt_ar rfl ?_
  refine tt_ar rfl ?_
  refine tt_iflt (fun h0_10 => ?_) (fun h0_10 => ?_)
  · refine tt_ar rfl ?_
    refine tt_goto ?_
    refine tt_iret ?_
    exact ⟨rv (by unfold olV; rw [if_pos (by omega)]), rfl⟩
  · refine tt_ar rfl ?_
    refine tt_getR (poC_18 hW) rfl (prC_18_0 hW) ?_
    refine tt_getR (poC_5 hW) rfl (prC_5_1 hW) ?_
    refine tt_ar rfl ?_
    refine tt_iald (s) (x := σ.1 6 (s)) (paC_6 hW) rfl (by omega) rfl ?_
    refine tt_ifge (fun h0_16 => ?_) (fun h0_16 => ?_)
    · refine tt_ar rfl ?_
      refine tt_getR (poC_18 hW) rfl (prC_18_5 hW) ?_
      refine tt_ar rfl ?_
      refine tt_ar rfl ?_
      refine tt_imul (by omega) (by omega) ?_
      refine tt_ar rfl ?_
      refine tt_getR (poC_18 hW) rfl (prC_18_0 hW) ?_
      refine tt_getR (poC_5 hW) rfl (prC_5_1 hW) ?_
      refine tt_ar rfl ?_
      refine tt_iald (s) (x := σ.1 6 (s)) (paC_6 hW) rfl (by omega) rfl ?_
      refine tt_iadd (by omega) (by omega) ?_
      refine tt_iald ((leV k (tb k h) s).toNat * 6 + (σ.1 6 s).toNat) (x := moV k (tb k (leV k (tb k h) s).toNat) (σ.1 6 s).toNat) (paC_22 hW) (by omega) (by omega) (hM _ (by omega) _ (by omega)).1 ?_
      refine tt_nop ?_
      refine tt_iret ?_
      exact ⟨rv (by unfold olV; rw [if_neg (by omega)]), rfl⟩
    · refine tt_nop ?_
      refine tt_ar rfl ?_
      refine tt_goto ?_
      refine tt_iret ?_
      exact ⟨rv (by unfold olV; rw [if_pos (by omega)]), rfl⟩
theorem z8 (σ : am_S) (k : Nat) (hW : WpC σ) (hD : LD k σ) (hw : WR σ) : CC 8 [vR 18] σ (fun r σ' => r = none ∧ Fr [18, 19, 20, 21, 22, 23, 24, 25, 26] σ σ' ∧ HT k σ') := by
  show TT am_b8 (am_b8.getD 0 []) [(0, vR 18)] [] σ _
  refine tt_ar rfl ?_
  refine tt_cv1 1 rfl (poC_18 hW) (z9 σ k hW hD.2.1 hD.1 hw) ?_
  intro r0 σ0 hq0
  obtain ⟨rfl, hF0, hz0, hN0⟩ := hq0
  have hW1 := Fr.wpC hF0 hW
  have hk6 := hD.2.1
  have hnb := nkT_bd k
  refine tt_ar rfl ?_
  refine tt_ar rfl ?_
  refine tt_nop ?_
  have lp1_2 : ∀ (μ : Nat) (h : Nat) (σ1 : am_S), nkT k - h < μ → Fr [18, 19, 20, 21, 22, 23, 24, 25, 26] σ σ1 → (h ≤ nkT k) → (σ1.1 18 1 = (nkT k : Int)) → (HN k (nkT k) σ1) → (∀ t, t < h → ∀ s, s < 6 → σ1.1 22 (t * 6 + s) = moV k (tb k t) s ∧ σ1.1 23 (t * 6 + s) = leV k (tb k t) s) → (∀ t, t < h → ∀ x, x < 8 → σ1.1 25 (t * 8 + x) = hgS k (tb k t) (σ.1 7) x ∧ σ1.1 26 (t * 8 + x) = hgS k (tb k t) (σ.1 8) x) → TT am_b8 (am_b8.getD 1 []) [(0, vR 18), (1, vI (((h : Nat) : Int)))] [] σ1 (fun r σ' => r = none ∧ Fr [18, 19, 20, 21, 22, 23, 24, 25, 26] σ σ' ∧ HT k σ') := by
    intro μ
    induction μ with
    | zero => intro h σ1 hμ; exact absurd hμ (Nat.not_lt_zero _)
    | succ μ ih1 =>
      intro h σ1 hμ hF_σ1 hh hz hN hM hX
      have hW_σ1 := Fr.wpC hF_σ1 hW
      refine tt_ar rfl ?_
      refine tt_ar rfl ?_
      refine tt_getI (x := ((nkT k : Nat) : Int)) (poC_18 hW_σ1) rfl hz ?_
      refine tt_icge (fun h1_3 => ?_) (fun h1_3 => ?_)
      · refine tt_ar rfl ?_
        refine tt_ar rfl ?_
        refine tt_nop ?_
        have lp9_3 : ∀ (μ : Nat) (h : Nat) (σ9 : am_S), nkT k - h < μ → Fr [18, 19, 20, 21, 22, 23, 24, 25, 26] σ σ9 → (h ≤ nkT k) → (σ9.1 18 1 = (nkT k : Int)) → (HN k (nkT k) σ9) → (∀ t, t < nkT k → ∀ s, s < 6 → σ9.1 22 (t * 6 + s) = moV k (tb k t) s ∧ σ9.1 23 (t * 6 + s) = leV k (tb k t) s) → (∀ t, t < nkT k → ∀ x, x < 8 → σ9.1 25 (t * 8 + x) = hgS k (tb k t) (σ.1 7) x ∧ σ9.1 26 (t * 8 + x) = hgS k (tb k t) (σ.1 8) x) → (∀ t, t < h → ∀ s, s < 6 → σ9.1 24 (t * 6 + s) = olV k (σ.1 6) (tb k t) s) → TT am_b8 (am_b8.getD 9 []) [(0, vR 18), (1, vI (((h : Nat) : Int)))] [] σ9 (fun r σ' => r = none ∧ Fr [18, 19, 20, 21, 22, 23, 24, 25, 26] σ σ' ∧ HT k σ') := by
          intro μ
          induction μ with
          | zero => intro h σ9 hμ; exact absurd hμ (Nat.not_lt_zero _)
          | succ μ ih9 =>
            intro h σ9 hμ hF_σ9 hh9 hz9 hN9 hM9 hX9 hG9
            have hW_σ9 := Fr.wpC hF_σ9 hW
            refine tt_ar rfl ?_
            refine tt_ar rfl ?_
            refine tt_getI (x := ((nkT k : Nat) : Int)) (poC_18 hW_σ9) rfl hz9 ?_
            refine tt_icge (fun h9_3 => ?_) (fun h9_3 => ?_)
            · refine tt_vret ?_
              have e1 : h = nkT k := by omega
              subst e1
              have e6 : σ9.1 6 = σ.1 6 := funext (hF_σ9.2 6 (by decide))
              have e7 : σ9.1 7 = σ.1 7 := funext (hF_σ9.2 7 (by decide))
              have e8 : σ9.1 8 = σ.1 8 := funext (hF_σ9.2 8 (by decide))
              exact ⟨rfl, hF_σ9, hz9, hN9, hM9, by rw [e6]; exact hG9, by rw [e7, e8]; exact hX9⟩
            · refine tt_ar rfl ?_
              refine tt_ar rfl ?_
              refine tt_nop ?_
              have lp10_4 : ∀ (μ : Nat) (s : Nat) (σ10 : am_S), 6 - s < μ → Fr [24] σ9 σ10 → (s ≤ 6) → (∀ t, t < s → σ10.1 24 (h * 6 + t) = olV k (σ.1 6) (tb k h) t) → (∀ j, (j < h * 6 ∨ h * 6 + 6 ≤ j) → σ10.1 24 j = σ9.1 24 j) → TT am_b8 (am_b8.getD 10 []) [(0, vR 18), (1, vI (((h : Nat) : Int))), (2, vI (((s : Nat) : Int)))] [] σ10 (fun r σ' => r = none ∧ Fr [18, 19, 20, 21, 22, 23, 24, 25, 26] σ σ' ∧ HT k σ') := by
                intro μ
                induction μ with
                | zero => intro s σ10 hμ; exact absurd hμ (Nat.not_lt_zero _)
                | succ μ ih10 =>
                  intro s σ10 hμ hF_σ10 hs hG10 hO10
                  have hW_σ10 := Fr.wpC hF_σ10 hW_σ9
                  have hM10 : ∀ t, t < nkT k → ∀ s, s < 6 → σ10.1 22 (t * 6 + s) = moV k (tb k t) s ∧ σ10.1 23 (t * 6 + s) = leV k (tb k t) s := fun t ht s hs => by rw [hF_σ10.2 22 (by decide), hF_σ10.2 23 (by decide)]; exact hM9 t ht s hs
                  have e6 : σ10.1 6 = σ.1 6 := funext (fun j => (hF_σ10.2 6 (by decide) j).trans (hF_σ9.2 6 (by decide) j))
                  refine tt_ar rfl ?_
                  refine tt_ar rfl ?_
                  refine tt_icge (fun h10_2 => ?_) (fun h10_2 => ?_)
                  · refine tt_iinc (y := ((h + 1 : Nat) : Int)) rfl (iinc_fit (by omega) (by omega) (by omega)) ?_
                    refine tt_goto ?_
                    refine tt_loc [(0, vR 18), (1, vI (((h + 1 : Nat) : Int)))] rfl rfl ⟨rfl, rfl, trivial⟩ ?_
                    exact ih9 (h + 1) σ10 (by omega) (Fr.tr (Fr.tr Fr.rf hF_σ9 (by decide)) hF_σ10 (by decide)) (by omega) ((hF_σ10.2 18 (by decide) 1).trans hz9) (HN.fr (L := [24]) hF_σ10 (by decide) hN9) hM10 (fun t ht x hx => by rw [hF_σ10.2 25 (by decide), hF_σ10.2 26 (by decide)]; exact hX9 t ht x hx) (fun t ht s hs => by by_cases e : t = h; (subst e; exact hG10 s (by omega)); (rw [hO10 (t * 6 + s) (by omega)]; exact hG9 t (by omega) s hs))
                  · refine tt_ar rfl ?_
                    refine tt_getR (poC_18 hW_σ10) rfl (prC_18_7 hW_σ10) ?_
                    refine tt_ar rfl ?_
                    refine tt_ar rfl ?_
                    refine tt_imul (by omega) (by omega) ?_
                    refine tt_ar rfl ?_
                    refine tt_iadd (by omega) (by omega) ?_
                    refine tt_ar rfl ?_
                    refine tt_ar rfl ?_
                    refine tt_ar rfl ?_
                    refine tt_cv3 3 rfl (poC_18 hW_σ10) (e6 ▸ z15 σ10 k h s hW_σ10 (LD.fr (L := [18, 19, 20, 21, 22, 23, 24, 25, 26]) (Fr.tr (Fr.tr Fr.rf hF_σ9 (by decide)) hF_σ10 (by decide)) (by decide) hD) (by omega) (by omega) hM10) (kp ?_)
                    refine tt_iast (((h * 6) + s)) (paC_24 hW_σ10) (by omega) (by omega) (by omega) ?_
                    refine tt_iinc (y := ((s + 1 : Nat) : Int)) rfl (iinc_fit (by omega) (by omega) (by omega)) ?_
                    refine tt_goto ?_
                    refine tt_loc [(0, vR 18), (1, vI (((h : Nat) : Int))), (2, vI (((s + 1 : Nat) : Int)))] rfl rfl ⟨rfl, rfl, rfl, trivial⟩ ?_
                    exact ih10 (s + 1) _ (by omega) (Fr.put (Fr.tr Fr.rf hF_σ10 (by decide)) (by decide)) (by omega) (fun t ht => by rw [am_set_at]; by_cases e : t = s; (subst e; rw [if_pos rfl]); (rw [if_neg (by omega)]; exact hG10 t (by omega))) (fun j hj => by rw [am_set_at, if_neg (by omega)]; exact hO10 j hj)
              refine tt_loc [(0, vR 18), (1, vI (((h : Nat) : Int))), (2, vI (((0 : Nat) : Int)))] rfl rfl ⟨rfl, rfl, lv_to rfl (by omega), trivial⟩ ?_
              exact lp10_4 _ (0) σ9 (Nat.lt_succ_self _) Fr.rf (by omega) (fun t ht => absurd ht (Nat.not_lt_zero t)) (fun j _ => rfl)
        refine tt_loc [(0, vR 18), (1, vI (((0 : Nat) : Int)))] rfl rfl ⟨rfl, lv_to rfl (by omega), trivial⟩ ?_
        exact lp9_3 _ (0) σ1 (Nat.lt_succ_self _) (Fr.tr Fr.rf hF_σ1 (by decide)) (by omega) hz hN (fun t ht => hM t (by omega)) (fun t ht => hX t (by omega)) (fun t ht => absurd ht (Nat.not_lt_zero t))
      · refine tt_ar rfl ?_
        refine tt_ar rfl ?_
        refine tt_nop ?_
        have lp2_5 : ∀ (μ : Nat) (s : Nat) (σ2 : am_S), 6 - s < μ → Fr [22, 23] σ1 σ2 → (s ≤ 6) → (∀ t, t < s → σ2.1 22 (h * 6 + t) = moV k (tb k h) t ∧ σ2.1 23 (h * 6 + t) = leV k (tb k h) t) → (∀ j, (j < h * 6 ∨ h * 6 + 6 ≤ j) → σ2.1 22 j = σ1.1 22 j ∧ σ2.1 23 j = σ1.1 23 j) → TT am_b8 (am_b8.getD 2 []) [(0, vR 18), (1, vI (((h : Nat) : Int))), (2, vI (((s : Nat) : Int)))] [] σ2 (fun r σ' => r = none ∧ Fr [18, 19, 20, 21, 22, 23, 24, 25, 26] σ σ' ∧ HT k σ') := by
          intro μ
          induction μ with
          | zero => intro s σ2 hμ; exact absurd hμ (Nat.not_lt_zero _)
          | succ μ ih2 =>
            intro s σ2 hμ hF_σ2 hs hM2 hO2
            have hW_σ2 := Fr.wpC hF_σ2 hW_σ1
            have hz2 := (hF_σ2.2 18 (by decide) 1).trans hz
            have hN2 := HN.fr (L := [22, 23]) hF_σ2 (by decide) hN
            have hsm := tb_small hk6 (show h < nkT k by omega)
            have hk5 : σ2.1 5 0 = (k : Int) := (hF_σ2.2 5 (by decide) 0).trans ((hF_σ1.2 5 (by decide) 0).trans hD.1)
            refine tt_ar rfl ?_
            refine tt_ar rfl ?_
            refine tt_icge (fun h2_2 => ?_) (fun h2_2 => ?_)
            · refine tt_ar rfl ?_
              refine tt_ar rfl ?_
              refine tt_cv2 2 rfl (poC_18 hW_σ2) (z14 σ2 k h hW_σ2 (LD.fr (L := [18, 19, 20, 21, 22, 23, 24, 25, 26]) (Fr.tr (Fr.tr Fr.rf hF_σ1 (by decide)) hF_σ2 (by decide)) (by decide) hD) (by omega) hN2) ?_
              intro r0 σ3 hq0
              obtain ⟨rfl, hF3, hX3, hO3⟩ := hq0
              have hW6 := Fr.wpC hF3 hW_σ2
              rw [show σ2.1 7 = σ.1 7 from funext (fun j => (hF_σ2.2 7 (by decide) j).trans (hF_σ1.2 7 (by decide) j)), show σ2.1 8 = σ.1 8 from funext (fun j => (hF_σ2.2 8 (by decide) j).trans (hF_σ1.2 8 (by decide) j))] at hX3
              refine tt_iinc (y := ((h + 1 : Nat) : Int)) rfl (iinc_fit (by omega) (by omega) (by omega)) ?_
              refine tt_goto ?_
              refine tt_loc [(0, vR 18), (1, vI (((h + 1 : Nat) : Int)))] rfl rfl ⟨rfl, rfl, trivial⟩ ?_
              exact ih1 (h + 1) σ3 (by omega) (Fr.tr (Fr.tr (Fr.tr Fr.rf hF_σ1 (by decide)) hF_σ2 (by decide)) hF3 (by decide)) (by omega) ((hF3.2 18 (by decide) 1).trans ((hF_σ2.2 18 (by decide) 1).trans hz)) (HN.fr (L := [25, 26]) hF3 (by decide) hN2) (fun t ht s hs => by rw [hF3.2 22 (by decide), hF3.2 23 (by decide)]; by_cases e : t = h; (subst e; exact hM2 s (by omega)); (rw [(hO2 (t * 6 + s) (by omega)).1, (hO2 (t * 6 + s) (by omega)).2]; exact hM t (by omega) s hs)) (fun t ht x hx => by by_cases e : t = h; (subst e; exact hX3 x hx); (rw [(hO3 (t * 8 + x) (by omega)).1, (hO3 (t * 8 + x) (by omega)).2, hF_σ2.2 25 (by decide), hF_σ2.2 26 (by decide)]; exact hX t (by omega) x hx))
            · have hps : 10 ^ s ≤ 100000 := Nat.pow_le_pow_right (by decide) (show s ≤ 5 by omega)
              have hps0 : (0 : Int) ≤ ((10 ^ s : Nat) : Int) := Int.natCast_nonneg _
              refine tt_ar rfl ?_
              refine tt_getR (poC_18 hW_σ2) rfl (prC_18_5 hW_σ2) ?_
              refine tt_ar rfl ?_
              refine tt_ar rfl ?_
              refine tt_imul (by omega) (by omega) ?_
              refine tt_ar rfl ?_
              refine tt_iadd (by omega) (by omega) ?_
              refine tt_ar rfl ?_
              refine tt_ar rfl ?_
              refine tt_getR (poC_18 hW_σ2) rfl (prC_18_0 hW_σ2) ?_
              refine tt_getI (x := ((k : Nat) : Int)) (poC_5 hW_σ2) rfl (((hF_σ2.2 5 (by decide) (0)).trans (hF_σ1.2 5 (by decide) (0))).trans hD.1) ?_
              refine tt_icge (fun h2_14 => ?_) (fun h2_14 => ?_)
              · refine tt_ar rfl ?_
                refine tt_nop ?_
                refine tt_iast (((h * 6) + s)) (paC_22 hW_σ2) (by omega) (by omega) (by omega) ?_
                refine tt_ar rfl ?_
                refine tt_getR (poC_18 hW_σ2) rfl (prC_18_6 hW_σ2) ?_
                refine tt_ar rfl ?_
                refine tt_ar rfl ?_
                refine tt_imul (by omega) (by omega) ?_
                refine tt_ar rfl ?_
                refine tt_iadd (by omega) (by omega) ?_
                refine tt_ar rfl ?_
                refine tt_getR (poC_18 hW_σ2) rfl (prC_18_4 hW_σ2) ?_
                refine tt_ar rfl ?_
                refine tt_ar rfl ?_
                refine tt_imul (by omega) (by omega) ?_
                refine tt_ar rfl ?_
                refine tt_iadd (by omega) (by omega) ?_
                refine tt_iald (((h * 6) + s)) (x := ((dg (tb k h) s : Nat) : Int)) (paC_21 hW_σ2) (by omega) (by omega) ((hF_σ2.2 21 (by decide) (((h * 6) + s))).trans ((hN h (by omega)).2.2 s (by omega))) ?_
                refine tt_ifle (fun h4_16 => ?_) (fun h4_16 => ?_)
                · refine tt_ar rfl ?_
                  refine tt_nop ?_
                  refine tt_iast (((h * 6) + s)) (paC_23 hW_σ2) (by omega) (by omega) (by omega) ?_
                  refine tt_iinc (y := ((s + 1 : Nat) : Int)) rfl (iinc_fit (by omega) (by omega) (by omega)) ?_
                  refine tt_goto ?_
                  refine tt_loc [(0, vR 18), (1, vI (((h : Nat) : Int))), (2, vI (((s + 1 : Nat) : Int)))] rfl rfl ⟨rfl, rfl, rfl, trivial⟩ ?_
                  exact ih2 (s + 1) _ (by omega) (Fr.put (Fr.put (Fr.tr Fr.rf hF_σ2 (by decide)) (by decide)) (by decide)) (by omega) (ml_step (σ1 := σ1) hM2 (by unfold moV; first | (rw [if_pos (by omega)]) | (rw [if_neg (by omega)])) (by unfold leV; first | (rw [if_pos (by omega)]) | (rw [if_neg (by omega)]))) (ml_out hO2 (by omega))
                · refine tt_ar rfl ?_
                  refine tt_ar rfl ?_
                  refine tt_getR (poC_18 hW_σ2) rfl (prC_18_2 hW_σ2) ?_
                  refine tt_ar rfl ?_
                  refine tt_iald (h) (x := ((tb k h : Nat) : Int)) (paC_19 hW_σ2) rfl (by omega) ((hF_σ2.2 19 (by decide) (h)).trans ((hN h (by omega)).1)) ?_
                  refine tt_gets ?_
                  refine tt_ar rfl ?_
                  refine tt_iald (s) (x := ((10 ^ s : Nat) : Int)) (paC_0 hW_σ2) rfl (by omega) (((hF_σ2.2 0 (by decide) (s)).trans (hF_σ1.2 0 (by decide) (s))).trans (hw s (by omega))) ?_
                  refine tt_isub (by omega) (by omega) ?_
                  refine tt_cv2 2 rfl (poC_18 hW_σ2) (z13 (am_set σ2 22 (((h * 6) + s)) ((-1))) k hW_σ2 hk6 hz2 (fun h hh => (hN2 h hh).1) _) (kp ?_)
                  refine tt_goto ?_
                  refine tt_iast (((h * 6) + s)) (paC_23 hW_σ2) (by omega) (by omega) (by omega) ?_
                  refine tt_iinc (y := ((s + 1 : Nat) : Int)) rfl (iinc_fit (by omega) (by omega) (by omega)) ?_
                  refine tt_goto ?_
                  refine tt_loc [(0, vR 18), (1, vI (((h : Nat) : Int))), (2, vI (((s + 1 : Nat) : Int)))] rfl rfl ⟨rfl, rfl, rfl, trivial⟩ ?_
                  exact ih2 (s + 1) _ (by omega) (Fr.put (Fr.put (Fr.tr Fr.rf hF_σ2 (by decide)) (by decide)) (by decide)) (by omega) (ml_step (σ1 := σ1) hM2 (by unfold moV; first | (rw [if_pos (by omega)]) | (rw [if_neg (by omega)])) (by unfold leV; first | (rw [if_pos (by omega)]) | (rw [if_neg (by omega)]))) (ml_out hO2 (by omega))
              · refine tt_ar rfl ?_
                refine tt_ar rfl ?_
                refine tt_getR (poC_18 hW_σ2) rfl (prC_18_2 hW_σ2) ?_
                refine tt_ar rfl ?_
                refine tt_iald (h) (x := ((tb k h : Nat) : Int)) (paC_19 hW_σ2) rfl (by omega) ((hF_σ2.2 19 (by decide) (h)).trans ((hN h (by omega)).1)) ?_
                refine tt_gets ?_
                refine tt_ar rfl ?_
                refine tt_iald (s) (x := ((10 ^ s : Nat) : Int)) (paC_0 hW_σ2) rfl (by omega) (((hF_σ2.2 0 (by decide) (s)).trans (hF_σ1.2 0 (by decide) (s))).trans (hw s (by omega))) ?_
                refine tt_iadd (by omega) (by omega) ?_
                refine tt_cv2 2 rfl (poC_18 hW_σ2) (z13 σ2 k hW_σ2 hk6 hz2 (fun h hh => (hN2 h hh).1) _) (kp ?_)
                refine tt_goto ?_
                refine tt_iast (((h * 6) + s)) (paC_22 hW_σ2) (by omega) (by omega) (by omega) ?_
                refine tt_ar rfl ?_
                refine tt_getR (poC_18 hW_σ2) rfl (prC_18_6 hW_σ2) ?_
                refine tt_ar rfl ?_
                refine tt_ar rfl ?_
                refine tt_imul (by omega) (by omega) ?_
                refine tt_ar rfl ?_
                refine tt_iadd (by omega) (by omega) ?_
                refine tt_ar rfl ?_
                refine tt_getR (poC_18 hW_σ2) rfl (prC_18_4 hW_σ2) ?_
                refine tt_ar rfl ?_
                refine tt_ar rfl ?_
                refine tt_imul (by omega) (by omega) ?_
                refine tt_ar rfl ?_
                refine tt_iadd (by omega) (by omega) ?_
                refine tt_iald (((h * 6) + s)) (x := ((dg (tb k h) s : Nat) : Int)) (paC_21 hW_σ2) (by omega) (by omega) ((hF_σ2.2 21 (by decide) (((h * 6) + s))).trans ((hN h (by omega)).2.2 s (by omega))) ?_
                refine tt_ifle (fun h4_16 => ?_) (fun h4_16 => ?_)
                · refine tt_ar rfl ?_
                  refine tt_nop ?_
                  refine tt_iast (((h * 6) + s)) (paC_23 hW_σ2) (by omega) (by omega) (by omega) ?_
                  refine tt_iinc (y := ((s + 1 : Nat) : Int)) rfl (iinc_fit (by omega) (by omega) (by omega)) ?_
                  refine tt_goto ?_
                  refine tt_loc [(0, vR 18), (1, vI (((h : Nat) : Int))), (2, vI (((s + 1 : Nat) : Int)))] rfl rfl ⟨rfl, rfl, rfl, trivial⟩ ?_
                  exact ih2 (s + 1) _ (by omega) (Fr.put (Fr.put (Fr.tr Fr.rf hF_σ2 (by decide)) (by decide)) (by decide)) (by omega) (ml_step (σ1 := σ1) hM2 (by unfold moV; first | (rw [if_pos (by omega)]) | (rw [if_neg (by omega)])) (by unfold leV; first | (rw [if_pos (by omega)]) | (rw [if_neg (by omega)]))) (ml_out hO2 (by omega))
                · refine tt_ar rfl ?_
                  refine tt_ar rfl ?_
                  refine tt_getR (poC_18 hW_σ2) rfl (prC_18_2 hW_σ2) ?_
                  refine tt_ar rfl ?_
                  refine tt_iald (h) (x := ((tb k h : Nat) : Int)) (paC_19 hW_σ2) rfl (by omega) ((hF_σ2.2 19 (by decide) (h)).trans ((hN h (by omega)).1)) ?_
                  refine tt_gets ?_
                  refine tt_ar rfl ?_
                  refine tt_iald (s) (x := ((10 ^ s : Nat) : Int)) (paC_0 hW_σ2) rfl (by omega) (((hF_σ2.2 0 (by decide) (s)).trans (hF_σ1.2 0 (by decide) (s))).trans (hw s (by omega))) ?_
                  refine tt_isub (by omega) (by omega) ?_
                  refine tt_cv2 2 rfl (poC_18 hW_σ2) (z13 (am_set σ2 22 (((h * 6) + s)) (ix k ((((tb k h : Nat) : Int) + ((10 ^ s : Nat) : Int))))) k hW_σ2 hk6 hz2 (fun h hh => (hN2 h hh).1) _) (kp ?_)
                  refine tt_goto ?_
                  refine tt_iast (((h * 6) + s)) (paC_23 hW_σ2) (by omega) (by omega) (by omega) ?_
                  refine tt_iinc (y := ((s + 1 : Nat) : Int)) rfl (iinc_fit (by omega) (by omega) (by omega)) ?_
                  refine tt_goto ?_
                  refine tt_loc [(0, vR 18), (1, vI (((h : Nat) : Int))), (2, vI (((s + 1 : Nat) : Int)))] rfl rfl ⟨rfl, rfl, rfl, trivial⟩ ?_
                  exact ih2 (s + 1) _ (by omega) (Fr.put (Fr.put (Fr.tr Fr.rf hF_σ2 (by decide)) (by decide)) (by decide)) (by omega) (ml_step (σ1 := σ1) hM2 (by unfold moV; first | (rw [if_pos (by omega)]) | (rw [if_neg (by omega)])) (by unfold leV; first | (rw [if_pos (by omega)]) | (rw [if_neg (by omega)]))) (ml_out hO2 (by omega))
        refine tt_loc [(0, vR 18), (1, vI (((h : Nat) : Int))), (2, vI (((0 : Nat) : Int)))] rfl rfl ⟨rfl, rfl, lv_to rfl (by omega), trivial⟩ ?_
        exact lp2_5 _ (0) σ1 (Nat.lt_succ_self _) Fr.rf (by omega) (fun t ht => absurd ht (Nat.not_lt_zero t)) (fun j _ => ⟨rfl, rfl⟩)
  refine tt_loc [(0, vR 18), (1, vI (((0 : Nat) : Int)))] rfl rfl ⟨rfl, lv_to rfl (by omega), trivial⟩ ?_
  exact lp1_2 _ (0) σ0 (Nat.lt_succ_self _) (Fr.tr Fr.rf hF0 (by decide)) (by omega) hz0 hN0 (fun t ht => absurd ht (Nat.not_lt_zero t)) (fun t ht => absurd ht (Nat.not_lt_zero t))
