/-! THE READER, WHOLE -/
def WOK (W : Nat → Nat → Int) : Prop := (0 ≤ W 6 0 ∧ W 6 0 ≤ 6) ∧ (∀ s, s < 6 → -9 ≤ W 7 s ∧ W 7 s ≤ 5 ∧ (W 7 s = -9 ∨ 0 ≤ W 7 s)) ∧ (∀ i, i < 48 → 0 ≤ W 8 i ∧ W 8 i ≤ W 9 i ∧ W 9 i ≤ 9) ∧ (∀ i, i < 5 → 0 ≤ W 10 i ∧ W 10 i ≤ 9)
theorem WOK.sort {W : Nat → Nat → Int} {v : Int} (h : WOK W) (hs : W 6 0 < 6) (hv : v = -9 ∨ (0 ≤ v ∧ v ≤ 5)) : WOK (aset (aset W 7 (W 6 0).toNat v) 6 0 (W 6 0 + 1)) := by
  obtain ⟨h1, h2, h3, h4⟩ := h
  refine ⟨?_, ?_, ?_, ?_⟩
  · simp only [aset]; simp; omega
  · intro s hs'
    have := h2 s hs'
    simp only [aset]; simp
    split
    · omega
    · exact this
  · intro i hi
    simp only [aset]; simp
    exact h3 i hi
  · intro i hi
    simp only [aset]; simp
    exact h4 i hi
theorem p_sort_ok {f : Nat → Int} {n pos q : Nat} {W W' : Nat → Nat → Int} (h : p_sort f n pos W = (q, some W')) (hW : WOK W) : WOK W' ∧ pos < q ∧ q ≤ n := by
  unfold p_sort at h
  split at h
  · cases h
  · rename_i h0
    split at h
    · rename_i h1
      cases h
      exact ⟨hW.sort (by omega) (Or.inl rfl), by omega, by omega⟩
    · split at h
      · cases h
      · rename_i v hv
        cases h
        have := p_fig_some (by omega) hv
        exact ⟨hW.sort (by omega) (Or.inr (by omega)), by omega, by omega⟩
theorem p_sort_no {f : Nat → Int} {n pos q : Nat} {W : Nat → Nat → Int} (h : p_sort f n pos W = (q, none)) (hp : pos < n) : pos ≤ q ∧ q ≤ n := by
  unfold p_sort at h
  split at h
  · cases h
    omega
  · split at h
    · cases h
    · split at h
      · cases h
        omega
      · cases h
theorem p_wash_ok {f : Nat → Int} {n pos q : Nat} {W W' : Nat → Nat → Int} (h : p_wash f n pos W = (q, some W')) (hW : WOK W) : WOK W' ∧ pos < q ∧ q ≤ n := by
  unfold p_wash at h
  split at h
  · cases h
  · rename_i s hs
    split at h
    · cases h
    · split at h
      · cases h
      · rename_i x hx
        split at h
        · cases h
        · split at h
          · cases h
          · rename_i a ha
            split at h
            · cases h
            · split at h
              · cases h
              · rename_i b hb
                cases h
                have e1 := p_fig_some (by omega) hs
                have e2 := p_fig_some (by omega) hx
                have e3 := p_fig_some (by omega) ha
                have e4 := p_fig_some (by omega) hb
                refine ⟨?_, by omega, by omega⟩
                obtain ⟨h1, h2, h3, h4⟩ := hW
                refine ⟨?_, ?_, ?_, ?_⟩
                · simp only [aset]; simp; exact h1
                · intro s hs'; simp only [aset]; simp; exact h2 s hs'
                · intro i hi
                  have := h3 i hi
                  simp only [aset]; simp
                  split
                  · omega
                  · exact this
                · intro i hi; simp only [aset]; simp; exact h4 i hi
theorem p_wash_no {f : Nat → Int} {n pos q : Nat} {W : Nat → Nat → Int} (h : p_wash f n pos W = (q, none)) (hp : pos < n) : pos ≤ q ∧ q ≤ n := by
  unfold p_wash at h
  split at h
  · cases h; omega
  · rename_i s hs
    have e1 := p_fig_some (by omega) hs
    split at h
    · cases h; omega
    · rename_i hl
      split at h
      · cases h; omega
      · rename_i x hx
        have e2 := p_fig_some (by omega) hx
        split at h
        · cases h; omega
        · split at h
          · cases h; omega
          · rename_i a ha
            have e3 := p_fig_some (by omega) ha
            split at h
            · cases h; omega
            · split at h
              · cases h; omega
              · cases h
theorem p_cost_ok {f : Nat → Int} {n : Nat} : ∀ {m w pos q : Nat} {W W' : Nat → Nat → Int}, p_cost f n m w pos W = (q, some W') → pos ≤ n → WOK W → WOK W' ∧ pos ≤ q ∧ q ≤ n
  | 0, w, pos, q, W, W', h, hp, hW => by
    cases h
    exact ⟨hW, by omega, hp⟩
  | m + 1, w, pos, q, W, W', h, hp, hW => by
    unfold p_cost at h
    split at h
    · cases h
    · rename_i v hv
      have e := p_fig_some (by omega) hv
      have := p_cost_ok h (by omega) (by
        obtain ⟨h1, h2, h3, h4⟩ := hW
        refine ⟨?_, ?_, ?_, ?_⟩
        · simp only [aset]; simp; exact h1
        · intro s hs'; simp only [aset]; simp; exact h2 s hs'
        · intro i hi; simp only [aset]; simp; exact h3 i hi
        · intro i hi
          have := h4 i hi
          simp only [aset]; simp
          split
          · omega
          · exact this)
      exact ⟨this.1, by omega, this.2.2⟩
theorem p_cost_no {f : Nat → Int} {n : Nat} : ∀ {m w pos q : Nat} {W : Nat → Nat → Int}, p_cost f n m w pos W = (q, none) → pos ≤ n → pos ≤ q ∧ q ≤ n
  | 0, w, pos, q, W, h, hp => by cases h
  | m + 1, w, pos, q, W, h, hp => by
    unfold p_cost at h
    split at h
    · cases h; omega
    · rename_i v hv
      have e := p_fig_some (by omega) hv
      have := p_cost_no h (by omega)
      omega
theorem p_item_ok {f : Nat → Int} {n pos q : Nat} {W W' : Nat → Nat → Int} (h : p_item f n pos W = (q, some W')) (hp : pos < n) (hW : WOK W) : WOK W' ∧ pos < q ∧ q ≤ n := by
  unfold p_item at h
  split at h
  · exact p_sort_ok h hW
  · split at h
    · exact p_wash_ok h hW
    · split at h
      · unfold p_in at h
        split at h
        · cases h
        · rename_i x hx
          cases h
          have e := p_fig_some (by omega) hx
          refine ⟨?_, by omega, by omega⟩
          obtain ⟨h1, h2, h3, h4⟩ := hW
          refine ⟨?_, ?_, ?_, ?_⟩
          · simp only [aset]; simp; exact h1
          · intro s hs'; simp only [aset]; simp; exact h2 s hs'
          · intro i hi; simp only [aset]; simp; exact h3 i hi
          · intro i hi; simp only [aset]; simp; exact h4 i hi
      · split at h
        · have := p_cost_ok h (by omega) hW
          exact ⟨this.1, by omega, this.2.2⟩
        · cases h
theorem p_item_no {f : Nat → Int} {n pos q : Nat} {W : Nat → Nat → Int} (h : p_item f n pos W = (q, none)) (hp : pos < n) : pos ≤ q ∧ q ≤ n := by
  unfold p_item at h
  split at h
  · exact p_sort_no h hp
  · split at h
    · exact p_wash_no h hp
    · split at h
      · unfold p_in at h
        split at h
        · cases h; omega
        · cases h
      · split at h
        · have := p_cost_no h (by omega)
          omega
        · cases h; omega
theorem WOK0 : WOK p_W0 := by
  refine ⟨⟨by decide, by decide⟩, ?_, ?_, ?_⟩
  · intro s _; simp [p_W0]
  · intro i _; simp [p_W0]
  · intro i hi; simp only [p_W0]; simp; split <;> (try split) <;> omega
def p_grow (W : Nat → Nat → Int) : Nat → Nat → Int := fun a j => if a = 7 ∧ W 6 0 ≤ W 7 j then -9 else W a j
theorem grow_a {f g : Nat → Int} {c : Int} {i : Nat} (hC : ∀ j, j < 6 → f j = if j < i ∧ c ≤ g j then -9 else g j) (hi : i < 6) (h : f i < c) : ∀ j, j < 6 → f j = if j < i + 1 ∧ c ≤ g j then -9 else g j := by
  intro j hj
  have h1 := hC i hi
  rw [if_neg (by omega)] at h1
  rw [hC j hj]
  by_cases e : j = i
  · subst e
    rw [if_neg (by omega), if_neg (by omega)]
  · by_cases e2 : j < i ∧ c ≤ g j
    · rw [if_pos e2, if_pos (by omega)]
    · rw [if_neg e2, if_neg (by omega)]
theorem grow_b {σ1 : am_S} {g : Nat → Int} {c : Int} {i : Nat} (hC : ∀ j, j < 6 → σ1.1 14 j = if j < i ∧ c ≤ g j then -9 else g j) (hi : i < 6) (h : c ≤ σ1.1 14 i) : ∀ j, j < 6 → (am_set σ1 14 i (-9)).1 14 j = if j < i + 1 ∧ c ≤ g j then -9 else g j := by
  intro j hj
  have h1 := hC i hi
  rw [if_neg (by omega)] at h1
  rw [am_set_at]
  by_cases e : j = i
  · subst e
    rw [if_pos rfl, if_pos (by omega)]
  · rw [if_neg e, hC j hj]
    by_cases e2 : j < i ∧ c ≤ g j
    · rw [if_pos e2, if_pos (by omega)]
    · rw [if_neg e2, if_neg (by omega)]
theorem c3_5 (σ : am_S) (hW : Wd σ) : CC 3 [vR 5] σ (fun r σ' => r = none ∧ Fr [5, 6, 7, 8, 9] σ σ' ∧ σ'.1 5 0 = 0 ∧ σ'.1 5 4 = 0 ∧ (∀ j, j < 6 → σ'.1 6 j = -9) ∧ (∀ j, j < 48 → σ'.1 7 j = 0) ∧ (∀ j, j < 48 → σ'.1 8 j = 0) ∧ (∀ j, j < 5 → σ'.1 9 j = p_W0 10 j)) := by
  show TT am_b3 (am_b3.getD 0 []) [(0, vR 5)] [] σ _
  refine tt_ar rfl ?_
  refine tt_ar rfl ?_
  refine tt_putI (wo_5 hW) rfl ?_
  refine tt_ar rfl ?_
  refine tt_ar rfl ?_
  refine tt_putI (wo_5 hW) rfl ?_
  refine tt_ar rfl ?_
  refine tt_getR (wo_5 hW) rfl (wr_5_1 hW) ?_
  refine tt_ar rfl ?_
  refine tt_cs2 2 rfl (c4 _ _ 6 _ (wa_6 hW) (by omega) (by rfl)) ?_
  intro r0 σf1 hq0
  obtain ⟨rfl, hFf2, hCf3⟩ := hq0
  have hW4 := Fr.wd hFf2 hW
  refine tt_ar rfl ?_
  refine tt_getR (wo_5 hW4) rfl (wr_5_2 hW4) ?_
  refine tt_ar rfl ?_
  refine tt_cs2 2 rfl (c4 _ _ 48 _ (wa_7 hW4) (by omega) (by rfl)) ?_
  intro r0 σf5 hq0
  obtain ⟨rfl, hFf6, hCf7⟩ := hq0
  have hW8 := Fr.wd hFf6 hW4
  refine tt_ar rfl ?_
  refine tt_getR (wo_5 hW8) rfl (wr_5_3 hW8) ?_
  refine tt_ar rfl ?_
  refine tt_cs2 2 rfl (c4 _ _ 48 _ (wa_8 hW8) (by omega) (by rfl)) ?_
  intro r0 σf9 hq0
  obtain ⟨rfl, hFf10, hCf11⟩ := hq0
  have hW12 := Fr.wd hFf10 hW8
  refine tt_ar rfl ?_
  refine tt_getR (wo_5 hW12) rfl (wr_5_5 hW12) ?_
  refine tt_ar rfl ?_
  refine tt_ar rfl ?_
  refine tt_iast (0) (wa_9 hW12) (by omega) rfl (by omega) ?_
  refine tt_ar rfl ?_
  refine tt_getR (wo_5 hW12) rfl (wr_5_5 hW12) ?_
  refine tt_ar rfl ?_
  refine tt_ar rfl ?_
  refine tt_iast (1) (wa_9 hW12) (by omega) rfl (by omega) ?_
  refine tt_ar rfl ?_
  refine tt_getR (wo_5 hW12) rfl (wr_5_5 hW12) ?_
  refine tt_ar rfl ?_
  refine tt_ar rfl ?_
  refine tt_iast (2) (wa_9 hW12) (by omega) rfl (by omega) ?_
  refine tt_ar rfl ?_
  refine tt_getR (wo_5 hW12) rfl (wr_5_5 hW12) ?_
  refine tt_ar rfl ?_
  refine tt_ar rfl ?_
  refine tt_iast (3) (wa_9 hW12) (by omega) rfl (by omega) ?_
  refine tt_ar rfl ?_
  refine tt_getR (wo_5 hW12) rfl (wr_5_5 hW12) ?_
  refine tt_ar rfl ?_
  refine tt_ar rfl ?_
  refine tt_iast (4) (wa_9 hW12) (by omega) rfl (by omega) ?_
  refine tt_vret ?_
  refine ⟨rfl, (Fr.put (Fr.put (Fr.put (Fr.put (Fr.put (Fr.tr (Fr.tr (Fr.tr (Fr.put (Fr.put Fr.rf (by decide)) (by decide)) hFf2 (by decide)) hFf6 (by decide)) hFf10 (by decide)) (by decide)) (by decide)) (by decide)) (by decide)) (by decide)), ?_, ?_, ?_, ?_, ?_, ?_⟩
  · exact ((hFf10.2 5 (by decide) (0)).trans ((hFf6.2 5 (by decide) (0)).trans ((hFf2.2 5 (by decide) (0)).trans (@am_set_rd σ 5 (0) (0)))))
  · exact ((hFf10.2 5 (by decide) (4)).trans ((hFf6.2 5 (by decide) (4)).trans ((hFf2.2 5 (by decide) (4)).trans (@am_set_rd (am_set σ 5 (0) (0)) 5 (4) (0)))))
  · intro j hj
    exact (((hFf10.2 6 (by decide) (j)).trans (hFf6.2 6 (by decide) (j)))).trans ((hCf3 j).trans (if_pos hj))
  · intro j hj
    exact ((hFf10.2 7 (by decide) (j))).trans ((hCf7 j).trans (if_pos hj))
  · intro j hj
    exact ((hCf11 j).trans (if_pos hj))
  · intro j hj
    match j, hj with
    | 0, _ => exact (@am_set_rd σf9 9 (0) (3))
    | 1, _ => exact (@am_set_rd (am_set σf9 9 (0) (3)) 9 (1) (3))
    | 2, _ => exact (@am_set_rd (am_set (am_set σf9 9 (0) (3)) 9 (1) (3)) 9 (2) (1))
    | 3, _ => exact (@am_set_rd (am_set (am_set (am_set σf9 9 (0) (3)) 9 (1) (3)) 9 (2) (1)) 9 (3) (2))
    | 4, _ => exact (@am_set_rd (am_set (am_set (am_set (am_set σf9 9 (0) (3)) 9 (1) (3)) 9 (2) (1)) 9 (3) (2)) 9 (4) (2))
    | j + 5, h => exact absurd h (by omega)

theorem c3_13 (σ : am_S) (hW : Wd σ) : CC 3 [vR 13] σ (fun r σ' => r = none ∧ Fr [13, 14, 15, 16, 17] σ σ' ∧ σ'.1 13 0 = 0 ∧ σ'.1 13 4 = 0 ∧ (∀ j, j < 6 → σ'.1 14 j = -9) ∧ (∀ j, j < 48 → σ'.1 15 j = 0) ∧ (∀ j, j < 48 → σ'.1 16 j = 0) ∧ (∀ j, j < 5 → σ'.1 17 j = p_W0 10 j)) := by
  show TT am_b3 (am_b3.getD 0 []) [(0, vR 13)] [] σ _
  refine tt_ar rfl ?_
  refine tt_ar rfl ?_
  refine tt_putI (wo_13 hW) rfl ?_
  refine tt_ar rfl ?_
  refine tt_ar rfl ?_
  refine tt_putI (wo_13 hW) rfl ?_
  refine tt_ar rfl ?_
  refine tt_getR (wo_13 hW) rfl (wr_13_1 hW) ?_
  refine tt_ar rfl ?_
  refine tt_cs2 2 rfl (c4 _ _ 6 _ (wa_14 hW) (by omega) (by rfl)) ?_
  intro r0 σf1 hq0
  obtain ⟨rfl, hFf2, hCf3⟩ := hq0
  have hW4 := Fr.wd hFf2 hW
  refine tt_ar rfl ?_
  refine tt_getR (wo_13 hW4) rfl (wr_13_2 hW4) ?_
  refine tt_ar rfl ?_
  refine tt_cs2 2 rfl (c4 _ _ 48 _ (wa_15 hW4) (by omega) (by rfl)) ?_
  intro r0 σf5 hq0
  obtain ⟨rfl, hFf6, hCf7⟩ := hq0
  have hW8 := Fr.wd hFf6 hW4
  refine tt_ar rfl ?_
  refine tt_getR (wo_13 hW8) rfl (wr_13_3 hW8) ?_
  refine tt_ar rfl ?_
  refine tt_cs2 2 rfl (c4 _ _ 48 _ (wa_16 hW8) (by omega) (by rfl)) ?_
  intro r0 σf9 hq0
  obtain ⟨rfl, hFf10, hCf11⟩ := hq0
  have hW12 := Fr.wd hFf10 hW8
  refine tt_ar rfl ?_
  refine tt_getR (wo_13 hW12) rfl (wr_13_5 hW12) ?_
  refine tt_ar rfl ?_
  refine tt_ar rfl ?_
  refine tt_iast (0) (wa_17 hW12) (by omega) rfl (by omega) ?_
  refine tt_ar rfl ?_
  refine tt_getR (wo_13 hW12) rfl (wr_13_5 hW12) ?_
  refine tt_ar rfl ?_
  refine tt_ar rfl ?_
  refine tt_iast (1) (wa_17 hW12) (by omega) rfl (by omega) ?_
  refine tt_ar rfl ?_
  refine tt_getR (wo_13 hW12) rfl (wr_13_5 hW12) ?_
  refine tt_ar rfl ?_
  refine tt_ar rfl ?_
  refine tt_iast (2) (wa_17 hW12) (by omega) rfl (by omega) ?_
  refine tt_ar rfl ?_
  refine tt_getR (wo_13 hW12) rfl (wr_13_5 hW12) ?_
  refine tt_ar rfl ?_
  refine tt_ar rfl ?_
  refine tt_iast (3) (wa_17 hW12) (by omega) rfl (by omega) ?_
  refine tt_ar rfl ?_
  refine tt_getR (wo_13 hW12) rfl (wr_13_5 hW12) ?_
  refine tt_ar rfl ?_
  refine tt_ar rfl ?_
  refine tt_iast (4) (wa_17 hW12) (by omega) rfl (by omega) ?_
  refine tt_vret ?_
  refine ⟨rfl, (Fr.put (Fr.put (Fr.put (Fr.put (Fr.put (Fr.tr (Fr.tr (Fr.tr (Fr.put (Fr.put Fr.rf (by decide)) (by decide)) hFf2 (by decide)) hFf6 (by decide)) hFf10 (by decide)) (by decide)) (by decide)) (by decide)) (by decide)) (by decide)), ?_, ?_, ?_, ?_, ?_, ?_⟩
  · exact ((hFf10.2 13 (by decide) (0)).trans ((hFf6.2 13 (by decide) (0)).trans ((hFf2.2 13 (by decide) (0)).trans (@am_set_rd σ 13 (0) (0)))))
  · exact ((hFf10.2 13 (by decide) (4)).trans ((hFf6.2 13 (by decide) (4)).trans ((hFf2.2 13 (by decide) (4)).trans (@am_set_rd (am_set σ 13 (0) (0)) 13 (4) (0)))))
  · intro j hj
    exact (((hFf10.2 14 (by decide) (j)).trans (hFf6.2 14 (by decide) (j)))).trans ((hCf3 j).trans (if_pos hj))
  · intro j hj
    exact ((hFf10.2 15 (by decide) (j))).trans ((hCf7 j).trans (if_pos hj))
  · intro j hj
    exact ((hCf11 j).trans (if_pos hj))
  · intro j hj
    match j, hj with
    | 0, _ => exact (@am_set_rd σf9 17 (0) (3))
    | 1, _ => exact (@am_set_rd (am_set σf9 17 (0) (3)) 17 (1) (3))
    | 2, _ => exact (@am_set_rd (am_set (am_set σf9 17 (0) (3)) 17 (1) (3)) 17 (2) (1))
    | 3, _ => exact (@am_set_rd (am_set (am_set (am_set σf9 17 (0) (3)) 17 (1) (3)) 17 (2) (1)) 17 (3) (2))
    | 4, _ => exact (@am_set_rd (am_set (am_set (am_set (am_set σf9 17 (0) (3)) 17 (1) (3)) 17 (2) (1)) 17 (3) (2)) 17 (4) (2))
    | j + 5, h => exact absurd h (by omega)

theorem c50 (W : Nat → Nat → Int) (σ : am_S) (hW : Wd σ) (hP : PR W σ) : CC 50 [vR 13] σ (fun r σ' => r = none ∧ Fr [14] σ σ' ∧ PR (p_grow W) σ') := by
  show TT am_b50 (am_b50.getD 0 []) [(0, vR 13)] [] σ _
  refine tt_ar rfl ?_
  refine tt_ar rfl ?_
  refine tt_nop ?_
  have lp1_1 : ∀ (μ : Nat) (i : Nat) (σ1 : am_S), 6 - i < μ → Fr [14] σ σ1 → (i ≤ 6) → (∀ j, j < 6 → σ1.1 14 j = if j < i ∧ W 6 0 ≤ W 7 j then -9 else W 7 j) → TT am_b50 (am_b50.getD 1 []) [(0, vR 13), (1, vI (((i : Nat) : Int)))] [] σ1 (fun r σ' => r = none ∧ Fr [14] σ σ' ∧ PR (p_grow W) σ') := by
    intro μ
    induction μ with
    | zero => intro i σ1 hμ; exact absurd hμ (Nat.not_lt_zero _)
    | succ μ ih1 =>
      intro i σ1 hμ hF_σ1 hi hC
      have hW_σ1 := Fr.wd hF_σ1 hW
      refine tt_ar rfl ?_
      refine tt_ar rfl ?_
      refine tt_icge (fun h1_2 => ?_) (fun h1_2 => ?_)
      · refine tt_vret ?_
        have e : i = 6 := by omega
        subst e
        obtain ⟨g1, g2, g3, g4, g5, g6⟩ := PR.fr (W := W) (L := []) (σ := σ) (σ' := σ) Fr.rf (by decide) hP
        have k : ∀ a, a ≠ 14 → ∀ j, σ1.1 a j = σ.1 a j := fun a ha j => hF_σ1.2 a (by simpa using ha) j
        refine ⟨rfl, hF_σ1, ?_, ?_, ?_, ?_, ?_, ?_⟩
        · rw [k 13 (by decide)]; exact g1
        · rw [k 13 (by decide)]; exact g2
        · intro j hj; rw [hC j hj]; unfold p_grow; congr 1; simp; intro _; exact hj
        · intro j hj; rw [k 15 (by decide)]; exact g4 j hj
        · intro j hj; rw [k 16 (by decide)]; exact g5 j hj
        · intro j hj; rw [k 17 (by decide)]; exact g6 j hj
      · refine tt_ar rfl ?_
        refine tt_getR (wo_13 hW_σ1) rfl (wr_13_1 hW_σ1) ?_
        refine tt_ar rfl ?_
        refine tt_iald (i) (x := σ1.1 14 (i)) (wa_14 hW_σ1) rfl (by omega) rfl ?_
        refine tt_ar rfl ?_
        refine tt_getI (x := W 6 0) (wo_13 hW_σ1) rfl ((hF_σ1.2 13 (by decide) (0)).trans hP.1) ?_
        refine tt_iclt (fun h1_9 => ?_) (fun h1_9 => ?_)
        · refine tt_iinc (y := ((i + 1 : Nat) : Int)) rfl (iinc_fit (by omega) (by omega) (by omega)) ?_
          refine tt_goto ?_
          refine tt_loc [(0, vR 13), (1, vI (((i + 1 : Nat) : Int)))] rfl rfl ⟨rfl, rfl, trivial⟩ ?_
          exact ih1 (i + 1) σ1 (by omega) (Fr.tr Fr.rf hF_σ1 (by decide)) (by omega) (by first | exact grow_a hC (by omega) (by omega) | exact grow_b hC (by omega) (by omega))
        · refine tt_ar rfl ?_
          refine tt_getR (wo_13 hW_σ1) rfl (wr_13_1 hW_σ1) ?_
          refine tt_ar rfl ?_
          refine tt_ar rfl ?_
          refine tt_iast (i) (wa_14 hW_σ1) (by omega) rfl (by omega) ?_
          refine tt_nop ?_
          refine tt_iinc (y := ((i + 1 : Nat) : Int)) rfl (iinc_fit (by omega) (by omega) (by omega)) ?_
          refine tt_goto ?_
          refine tt_loc [(0, vR 13), (1, vI (((i + 1 : Nat) : Int)))] rfl rfl ⟨rfl, rfl, trivial⟩ ?_
          exact ih1 (i + 1) _ (by omega) (Fr.put (Fr.tr Fr.rf hF_σ1 (by decide)) (by decide)) (by omega) (by first | exact grow_a hC (by omega) (by omega) | exact grow_b hC (by omega) (by omega))
  refine tt_loc [(0, vR 13), (1, vI (((0 : Nat) : Int)))] rfl rfl ⟨rfl, lv_to rfl (by omega), trivial⟩ ?_
  exact lp1_1 _ (0) σ (Nat.lt_succ_self _) Fr.rf (by omega) (fun j hj => (hP.2.2.1 j hj).trans (if_neg (fun h => absurd h.1 (Nat.not_lt_zero j))).symm)

def WofT (σ : am_S) : Nat → Nat → Int := fun a j => if a = 6 then (if j = 0 then σ.1 13 0 else σ.1 13 4) else σ.1 (a + 7) j
theorem PR_of (σ : am_S) : PR (WofT σ) σ := ⟨rfl, rfl, fun _ _ => rfl, fun _ _ => rfl, fun _ _ => rfl, fun _ _ => rfl⟩
theorem c41 (f : Nat → Int) (s p n : Nat) (σ : am_S) (hW : Wd σ) (hO : am_isO σ s 6 = true) (hp : σ.2.1 s 0 = some p) (hA : σ.2.2.1[p]? = some (.inl .int, 120)) (hs17 : 17 < s) (hp17 : 17 < p) (hn120 : n ≤ 120) (hn : σ.1 s 1 = (n : Int)) (hf : ∀ j, j < n → σ.1 p j = f j ∧ -128 ≤ f j ∧ f j ≤ 127) : CC 41 [vR 10, vR s] σ (fun r σ' => (∃ q W', p_run f n 120 0 p_W0 = (q, some W') ∧ r = some (vI (-9)) ∧ Fr [10, 13, 14, 15, 16, 17] (am_setR σ 10 0 (some s)) σ' ∧ WOK W' ∧ PR (p_grow W') σ') ∨ (∃ q : Nat, p_run f n 120 0 p_W0 = (q, none) ∧ r = some (vI (q : Int)) ∧ Fr [10, 13, 14, 15, 16, 17] (am_setR σ 10 0 (some s)) σ')) := by
  show TT am_b41 (am_b41.getD 0 []) [(0, vR 10), (1, vR s)] [] σ _
  refine tt_ar rfl ?_
  refine tt_ar rfl ?_
  refine tt_putR (wo_10 hW) rfl ?_
  obtain ⟨σs, hσs⟩ : ∃ x, x = am_setR σ 10 0 (some s) := ⟨_, rfl⟩
  refine tt_st hσs.symm ?_
  have hWs : Wd σs := hσs ▸ Wd.src hW
  have hRs : RS f s p n σs := by rw [hσs]; exact ⟨am_setR_rd, hO, (am_setR_ne (by omega)).trans hp, hA, hs17, hp17, hn120, hn, hf⟩
  have hns : σs.1 s 1 = (n : Int) := hRs.2.2.2.2.2.2.2.1
  have hs := hRs.1
  refine tt_ar rfl ?_
  refine tt_ar rfl ?_
  refine tt_putI (wo_10 hWs) rfl ?_
  refine tt_ar rfl ?_
  refine tt_getR (wo_10 hWs) rfl (wr_10_2 hWs) ?_
  refine tt_cv1 1 rfl (wo_13 hWs) (c3_13 (am_set σs 10 (1) (0)) hWs) ?_
  intro r0 σ0 hq0
  obtain ⟨rfl, hF0, hc1, hc2, hc3, hc4, hc5, hc6⟩ := hq0
  have hW1 := Fr.wd hF0 hWs
  have hP0 : PR p_W0 σ0 := ⟨hc1, hc2, fun j hj => hc3 j hj, fun j hj => hc4 j hj, fun j hj => hc5 j hj, hc6⟩
  refine tt_ar rfl ?_
  refine tt_ar rfl ?_
  refine tt_ar rfl ?_
  refine tt_ar rfl ?_
  refine tt_nop ?_
  have lp1_2 : ∀ (μ : Nat) (g : Int) (t : Nat) (q : Nat) (W1 : Nat → Nat → Int) (σ1 : am_S), 120 - t < μ → Fr [10, 13, 14, 15, 16, 17] σs σ1 → (g = 0 ∨ g = 1) → (σ1.1 10 1 = ((q : Nat) : Int)) → (q ≤ n) → (t ≤ 120) → (g = 1 → t ≤ q) → (g = 1 → PR W1 σ1 ∧ WOK W1 ∧ p_run f n (120 - t) q W1 = p_run f n 120 0 p_W0) → (g = 0 → p_run f n 120 0 p_W0 = (q, none)) → TT am_b41 (am_b41.getD 1 []) [(0, vR 10), (2, vI (g)), (3, vI (((t : Nat) : Int)))] [] σ1 (fun r σ' => (∃ q W', p_run f n 120 0 p_W0 = (q, some W') ∧ r = some (vI (-9)) ∧ Fr [10, 13, 14, 15, 16, 17] (am_setR σ 10 0 (some s)) σ' ∧ WOK W' ∧ PR (p_grow W') σ') ∨ (∃ q : Nat, p_run f n 120 0 p_W0 = (q, none) ∧ r = some (vI (q : Int)) ∧ Fr [10, 13, 14, 15, 16, 17] (am_setR σ 10 0 (some s)) σ')) := by
    intro μ
    induction μ with
    | zero => intro g t q W1 σ1 hμ; exact absurd hμ (Nat.not_lt_zero _)
    | succ μ ih1 =>
      intro g t q W1 σ1 hμ hF_σ1 hg hq hqn ht htq hG hN
      have hW_σ1 := Fr.wd hF_σ1 hWs
      refine tt_ar rfl ?_
      refine tt_ifeq (fun h1_1 => ?_) (fun h1_1 => ?_)
      · refine tt_ar rfl ?_
        refine tt_getR (wo_10 hW_σ1) rfl (wr_10_2 hW_σ1) ?_
        refine tt_cv1 1 rfl (wo_13 hW_σ1) (c50 (WofT σ1) σ1 hW_σ1 (PR_of σ1)) ?_
        intro r0 σ9 hq0
        obtain ⟨rfl, hF9, hPg⟩ := hq0
        have hW3 := Fr.wd hF9 hW_σ1
        refine tt_ar rfl ?_
        refine tt_ifeqT (by omega) ?_
        refine tt_ar rfl ?_
        refine tt_getI (x := ((q : Nat) : Int)) (wo_10 hW3) rfl ((hF9.2 10 (by decide) (1)).trans hq) ?_
        refine tt_nop ?_
        refine tt_iret ?_
        exact Or.inr ⟨q, hN (by omega), rfl, (by rw [← hσs]; exact (Fr.tr (Fr.tr Fr.rf hF_σ1 (by decide)) hF9 (by decide)))⟩
      · have hg1 : g = 1 := by omega
        obtain ⟨hP1, hWk1, hRun1⟩ := hG hg1
        have htq1 := htq hg1
        refine tt_ar rfl ?_
        refine tt_getI (x := ((q : Nat) : Int)) (wo_10 hW_σ1) rfl hq ?_
        refine tt_ar rfl ?_
        refine tt_getR (wo_10 hW_σ1) rfl ((congrArg (fun z => z.1 10 0) (show Fr [10, 13, 14, 15, 16, 17] σs σ1 from (Fr.tr Fr.rf hF_σ1 (by decide))).1).trans hs) ?_
        refine tt_getI (x := ((n : Nat) : Int)) (am_isO_fr (W := [10, 13, 14, 15, 16, 17]) (Fr.tr Fr.rf hF_σ1 (by decide)) hRs.2.1) rfl ((hF_σ1.2 s (by simp only [List.mem_cons, List.not_mem_nil, or_false, not_or]; omega) (1)).trans hns) ?_
        refine tt_icge (fun h1_7 => ?_) (fun h1_7 => ?_)
        · have hR9 : p_run f n 120 0 p_W0 = (q, some W1) := by
            rw [← hRun1]
            rcases Nat.lt_or_ge t 120 with ht1 | ht1
            · rw [show 120 - t = (119 - t) + 1 by omega]
              unfold p_run
              rw [if_neg (by omega)]
            · rw [show 120 - t = 0 by omega]
              rfl
          refine tt_ar rfl ?_
          refine tt_getR (wo_10 hW_σ1) rfl (wr_10_2 hW_σ1) ?_
          refine tt_cv1 1 rfl (wo_13 hW_σ1) (c50 W1 σ1 hW_σ1 hP1) ?_
          intro r0 σ9 hq0
          obtain ⟨rfl, hF9, hPg⟩ := hq0
          have hW4 := Fr.wd hF9 hW_σ1
          refine tt_ar rfl ?_
          refine tt_ifeqF (by omega) ?_
          refine tt_ar rfl ?_
          refine tt_goto ?_
          refine tt_iret ?_
          exact Or.inl ⟨q, W1, hR9, rfl, (by rw [← hσs]; exact (Fr.tr (Fr.tr Fr.rf hF_σ1 (by decide)) hF9 (by decide))), hWk1, hPg⟩
        · refine tt_ar rfl ?_
          refine tt_ar rfl ?_
          refine tt_icge (fun h1_10 => ?_) (fun h1_10 => ?_)
          · have hR9 : p_run f n 120 0 p_W0 = (q, some W1) := by
              rw [← hRun1]
              rcases Nat.lt_or_ge t 120 with ht1 | ht1
              · rw [show 120 - t = (119 - t) + 1 by omega]
                unfold p_run
                rw [if_neg (by omega)]
              · rw [show 120 - t = 0 by omega]
                rfl
            refine tt_ar rfl ?_
            refine tt_getR (wo_10 hW_σ1) rfl (wr_10_2 hW_σ1) ?_
            refine tt_cv1 1 rfl (wo_13 hW_σ1) (c50 W1 σ1 hW_σ1 hP1) ?_
            intro r0 σ9 hq0
            obtain ⟨rfl, hF9, hPg⟩ := hq0
            have hW5 := Fr.wd hF9 hW_σ1
            refine tt_ar rfl ?_
            refine tt_ifeqF (by omega) ?_
            refine tt_ar rfl ?_
            refine tt_goto ?_
            refine tt_iret ?_
            exact Or.inl ⟨q, W1, hR9, rfl, (by rw [← hσs]; exact (Fr.tr (Fr.tr Fr.rf hF_σ1 (by decide)) hF9 (by decide))), hWk1, hPg⟩
          · refine tt_ar rfl ?_
            refine tt_ar rfl ?_
            refine tt_cv2 2 rfl (wo_10 hW_σ1) (c42 f s p n q σ1 hW_σ1 (RS.fr (W := [10, 13, 14, 15, 16, 17]) (Fr.tr Fr.rf hF_σ1 (by decide)) (by decide) hRs) hq (by omega) _ (by decide)) (kor (kand fun hl => ks ?_) (kand fun hl => ks ?_))
            · refine tt_ifneT (by decide) ?_
              refine tt_ar rfl ?_
              refine tt_goto ?_
              refine tt_ar rfl ?_
              refine tt_iinc (y := ((t + 1 : Nat) : Int)) rfl (iinc_fit (by omega) (by omega) (by omega)) ?_
              refine tt_goto ?_
              refine tt_loc [(0, vR 10), (2, vI (1)), (3, vI (((t + 1 : Nat) : Int)))] rfl rfl ⟨rfl, rfl, rfl, trivial⟩ ?_
              exact ih1 (1) (t + 1) (q + 1) (W1) _ (by omega) (Fr.put (Fr.tr Fr.rf hF_σ1 (by decide)) (by decide)) (by omega) (by first | exact am_set_rd | exact hq3) (by omega) (by omega) (fun _ => by omega) (by first | (intro h; omega) | (intro _; exact ⟨PR.s10 hP1, hWk1, by rw [← hRun1, show 120 - t = (120 - (t + 1)) + 1 by omega]; conv => { rhs; unfold p_run }; rw [if_pos (by omega), if_pos hl.2]⟩) | (intro _; exact ⟨hP2, hok.1, by rw [← hRun1, show 120 - t = (120 - (t + 1)) + 1 by omega]; conv => { rhs; unfold p_run }; rw [if_pos (by omega), if_neg (fun e => hl ⟨by omega, e⟩), hq2]⟩)) (by first | (intro h; omega) | (intro _; rw [← hRun1]; rw [show 120 - t = (119 - t) + 1 by omega]; unfold p_run; rw [if_pos (by omega), if_neg (fun e => hl ⟨by omega, e⟩), hq2]))
            · refine tt_ifneF (by decide) ?_
              refine tt_ar rfl ?_
              refine tt_cv1 1 rfl (wo_10 hW_σ1) (c44 f s p n q (W1 6 0).toNat W1 σ1 hW_σ1 (RS.fr (W := [10, 13, 14, 15, 16, 17]) (Fr.tr Fr.rf hF_σ1 (by decide)) (by decide) hRs) hq (by omega) hP1 (by have := hWk1.1; omega) (by have := hWk1.1; omega)) ?_
              intro r0 σ2 hq0
              rcases hq0 with ⟨q2, W2, hq2, rfl, hF2, hq3, hP2⟩ | ⟨q2, hq2, rfl, hF2, hq3⟩
              · have hW6 := Fr.wd hF2 hW_σ1
                have hok := p_item_ok hq2 (by omega) hWk1
                refine tt_ifeqF (by decide) ?_
                refine tt_nop ?_
                refine tt_ar rfl ?_
                refine tt_goto ?_
                refine tt_ar rfl ?_
                refine tt_iinc (y := ((t + 1 : Nat) : Int)) rfl (iinc_fit (by omega) (by omega) (by omega)) ?_
                refine tt_goto ?_
                refine tt_loc [(0, vR 10), (2, vI (1)), (3, vI (((t + 1 : Nat) : Int)))] rfl rfl ⟨rfl, rfl, rfl, trivial⟩ ?_
                exact ih1 (1) (t + 1) (q2) (W2) σ2 (by omega) (Fr.tr (Fr.tr Fr.rf hF_σ1 (by decide)) hF2 (by decide)) (by omega) (by first | exact am_set_rd | exact hq3) (by omega) (by omega) (fun _ => by omega) (by first | (intro h; omega) | (intro _; exact ⟨PR.s10 hP1, hWk1, by rw [← hRun1, show 120 - t = (120 - (t + 1)) + 1 by omega]; conv => { rhs; unfold p_run }; rw [if_pos (by omega), if_pos hl.2]⟩) | (intro _; exact ⟨hP2, hok.1, by rw [← hRun1, show 120 - t = (120 - (t + 1)) + 1 by omega]; conv => { rhs; unfold p_run }; rw [if_pos (by omega), if_neg (fun e => hl ⟨by omega, e⟩), hq2]⟩)) (by first | (intro h; omega) | (intro _; rw [← hRun1]; rw [show 120 - t = (119 - t) + 1 by omega]; unfold p_run; rw [if_pos (by omega), if_neg (fun e => hl ⟨by omega, e⟩), hq2]))
              · have hW7 := Fr.wd hF2 hW_σ1
                have hno := p_item_no hq2 (by omega)
                refine tt_ifeqT (by decide) ?_
                refine tt_ar rfl ?_
                refine tt_nop ?_
                refine tt_ar rfl ?_
                refine tt_iinc (y := ((t + 1 : Nat) : Int)) rfl (iinc_fit (by omega) (by omega) (by omega)) ?_
                refine tt_goto ?_
                refine tt_loc [(0, vR 10), (2, vI (0)), (3, vI (((t + 1 : Nat) : Int)))] rfl rfl ⟨rfl, rfl, rfl, trivial⟩ ?_
                exact ih1 (0) (t + 1) (q2) (W1) σ2 (by omega) (Fr.tr (Fr.tr Fr.rf hF_σ1 (by decide)) hF2 (by decide)) (by omega) (by first | exact am_set_rd | exact hq3) (by omega) (by omega) (fun _ => by omega) (by first | (intro h; omega) | (intro _; exact ⟨PR.s10 hP1, hWk1, by rw [← hRun1, show 120 - t = (120 - (t + 1)) + 1 by omega]; conv => { rhs; unfold p_run }; rw [if_pos (by omega), if_pos hl.2]⟩) | (intro _; exact ⟨hP2, hok.1, by rw [← hRun1, show 120 - t = (120 - (t + 1)) + 1 by omega]; conv => { rhs; unfold p_run }; rw [if_pos (by omega), if_neg (fun e => hl ⟨by omega, e⟩), hq2]⟩)) (by first | (intro h; omega) | (intro _; rw [← hRun1]; rw [show 120 - t = (119 - t) + 1 by omega]; unfold p_run; rw [if_pos (by omega), if_neg (fun e => hl ⟨by omega, e⟩), hq2]))
  refine tt_loc [(0, vR 10), (2, vI (1)), (3, vI (((0 : Nat) : Int)))] rfl rfl ⟨rfl, rfl, lv_to rfl (by omega), trivial⟩ ?_
  exact lp1_2 _ (1) (0) (0) (p_W0) σ0 (Nat.lt_succ_self _) (Fr.tr (Fr.put Fr.rf (by decide)) hF0 (by decide)) (Or.inr rfl) ((hF0.2 10 (by decide) 1).trans ((@am_set_rd σs 10 1 0).trans (by omega))) (by omega) (by omega) (fun _ => Nat.le_refl _) (fun _ => ⟨hP0, WOK0, rfl⟩) (fun h => by omega)

