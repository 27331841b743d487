/-! SMALL QUESTIONS, STRIPS -/
theorem am_set_rd {σ : am_S} {a k : Nat} {x : Int} : (am_set σ a k x).1 a k = x := if_pos ⟨rfl, rfl⟩
theorem am_set_at {σ : am_S} {a k j : Nat} {x : Int} : (am_set σ a k x).1 a j = if j = k then x else σ.1 a j := by simp [am_set]
theorem fill_step {σ1 : am_S} {p i : Nat} {v : Int} {g : Nat → Int} (h : ∀ j, σ1.1 p j = if j < i then v else g j) : ∀ j, (am_set σ1 p i v).1 p j = if j < i + 1 then v else g j := by
  intro j
  rw [am_set_at, h j]
  by_cases h1 : j = i
  · rw [if_pos h1, if_pos (by omega)]
  · rw [if_neg h1]
    by_cases h2 : j < i
    · rw [if_pos h2, if_pos (by omega)]
    · rw [if_neg h2, if_neg (by omega)]
theorem fillr_step {σ1 : am_S} {p i lo : Nat} {v : Int} {g : Nat → Int} (hlo : lo ≤ i) (h : ∀ j, σ1.1 p j = if lo ≤ j ∧ j < i then v else g j) : ∀ j, (am_set σ1 p i v).1 p j = if lo ≤ j ∧ j < i + 1 then v else g j := by
  intro j
  rw [am_set_at, h j]
  by_cases h1 : j = i
  · rw [if_pos h1, if_pos (by omega)]
  · rw [if_neg h1]
    by_cases h2 : lo ≤ j ∧ j < i
    · rw [if_pos h2, if_pos (by omega)]
    · rw [if_neg h2, if_neg (by omega)]
/-- the row of a digest -/
def dgN : Nat → Int → (Nat → Int) → Int
  | 0, h, _ => h
  | n + 1, h, f => w64 (w64 (31 * dgN n h f) + f n)
theorem dgN_congr {f g : Nat → Int} {h : Int} : ∀ {n : Nat}, (∀ i, i < n → f i = g i) → dgN n h f = dgN n h g
  | 0, _ => rfl
  | n + 1, e => by
    unfold dgN
    rw [dgN_congr (fun i hi => e i (Nat.lt_succ_of_lt hi)), e n (Nat.lt_succ_self n)]
/-- the row of a sum of longs -/
def lsN : Nat → (Nat → Int) → Int
  | 0, _ => 0
  | n + 1, f => w64 (lsN n f + f n)
theorem lsN_congr {f g : Nat → Int} : ∀ {n : Nat}, (∀ i, i < n → f i = g i) → lsN n f = lsN n g
  | 0, _ => rfl
  | n + 1, e => by
    unfold lsN
    rw [lsN_congr (fun i hi => e i (Nat.lt_succ_of_lt hi)), e n (Nat.lt_succ_self n)]
theorem c23 (σ : am_S) (v most : Int) : CC 23 [vI (v), vI (most)] σ (fun r σ' => σ' = σ ∧ ((0 ≤ v ∧ v ≤ most) ∧ r = some (vI 1) ∨ ¬(0 ≤ v ∧ v ≤ most) ∧ r = some (vI 0))) := by
  show TT am_b23 (am_b23.getD 0 []) [(0, vI (v)), (1, vI (most))] [] σ _
  refine tt_ar rfl ?_
  refine tt_iflt (fun h0_1 => ?_) (fun h0_1 => ?_)
  · refine tt_ar rfl ?_
    refine tt_nop ?_
    refine tt_zret (by omega) ?_
    exact ⟨rfl, Or.inr ⟨by omega, rfl⟩⟩
  · refine tt_ar rfl ?_
    refine tt_ar rfl ?_
    refine tt_icgt (fun h0_4 => ?_) (fun h0_4 => ?_)
    · refine tt_ar rfl ?_
      refine tt_nop ?_
      refine tt_zret (by omega) ?_
      exact ⟨rfl, Or.inr ⟨by omega, rfl⟩⟩
    · refine tt_ar rfl ?_
      refine tt_goto ?_
      refine tt_zret (by omega) ?_
      exact ⟨rfl, Or.inl ⟨by omega, rfl⟩⟩

theorem c22 (σ : am_S) (v : Int) : CC 22 [vI (v)] σ (fun r σ' => σ' = σ ∧ ((0 ≤ v ∧ v ≤ 5) ∧ r = some (vI 1) ∨ ¬(0 ≤ v ∧ v ≤ 5) ∧ r = some (vI 0))) := by
  show TT am_b22 (am_b22.getD 0 []) [(0, vI (v))] [] σ _
  refine tt_ar rfl ?_
  refine tt_ar rfl ?_
  refine tt_cs2 2 rfl (c23 _ _ _) (kb (fun h0_2 => ?_) (fun h0_2 => ?_))
  · refine tt_zret (by omega) ?_
    exact ⟨rfl, Or.inl ⟨by omega, rfl⟩⟩
  · refine tt_zret (by omega) ?_
    exact ⟨rfl, Or.inr ⟨by omega, rfl⟩⟩

theorem c38 (σ : am_S) (v : Int) : CC 38 [vI (v)] σ (fun r σ' => σ' = σ ∧ ((0 ≤ v ∧ v ≤ 3) ∧ r = some (vI 1) ∨ ¬(0 ≤ v ∧ v ≤ 3) ∧ r = some (vI 0))) := by
  show TT am_b38 (am_b38.getD 0 []) [(0, vI (v))] [] σ _
  refine tt_ar rfl ?_
  refine tt_ar rfl ?_
  refine tt_cs2 2 rfl (c23 _ _ _) (kb (fun h0_2 => ?_) (fun h0_2 => ?_))
  · refine tt_zret (by omega) ?_
    exact ⟨rfl, Or.inl ⟨by omega, rfl⟩⟩
  · refine tt_zret (by omega) ?_
    exact ⟨rfl, Or.inr ⟨by omega, rfl⟩⟩

theorem c57 (σ : am_S) (v : Int) : CC 57 [vI (v)] σ (fun r σ' => σ' = σ ∧ ((0 ≤ v ∧ v ≤ 7) ∧ r = some (vI 1) ∨ ¬(0 ≤ v ∧ v ≤ 7) ∧ r = some (vI 0))) := by
  show TT am_b57 (am_b57.getD 0 []) [(0, vI (v))] [] σ _
  refine tt_ar rfl ?_
  refine tt_ar rfl ?_
  refine tt_cs2 2 rfl (c23 _ _ _) (kb (fun h0_2 => ?_) (fun h0_2 => ?_))
  · refine tt_zret (by omega) ?_
    exact ⟨rfl, Or.inl ⟨by omega, rfl⟩⟩
  · refine tt_zret (by omega) ?_
    exact ⟨rfl, Or.inr ⟨by omega, rfl⟩⟩

theorem c62 (σ : am_S) (v : Int) : CC 62 [vI (v)] σ (fun r σ' => σ' = σ ∧ ((0 ≤ v ∧ v ≤ 1) ∧ r = some (vI 1) ∨ ¬(0 ≤ v ∧ v ≤ 1) ∧ r = some (vI 0))) := by
  show TT am_b62 (am_b62.getD 0 []) [(0, vI (v))] [] σ _
  refine tt_ar rfl ?_
  refine tt_ar rfl ?_
  refine tt_cs2 2 rfl (c23 _ _ _) (kb (fun h0_2 => ?_) (fun h0_2 => ?_))
  · refine tt_zret (by omega) ?_
    exact ⟨rfl, Or.inl ⟨by omega, rfl⟩⟩
  · refine tt_zret (by omega) ?_
    exact ⟨rfl, Or.inr ⟨by omega, rfl⟩⟩

theorem c56 (σ : am_S) (v n : Int) (hW : Wd σ) (hn : σ.1 5 0 = n) (h0 : 0 ≤ n) (h1 : n ≤ 6) : CC 56 [vR 2, vI (v)] σ (fun r σ' => σ' = σ ∧ ((0 ≤ v ∧ v < n) ∧ r = some (vI 1) ∨ ¬(0 ≤ v ∧ v < n) ∧ r = some (vI 0))) := by
  show TT am_b56 (am_b56.getD 0 []) [(0, vR 2), (1, vI (v))] [] σ _
  refine tt_ar rfl ?_
  refine tt_ar rfl ?_
  refine tt_getR (wo_2 hW) rfl (wr_2_2 hW) ?_
  refine tt_getI (x := n) (wo_5 hW) rfl hn ?_
  refine tt_ar rfl ?_
  refine tt_isub (by omega) (by omega) ?_
  refine tt_cs2 2 rfl (c23 _ _ _) (kb (fun h0_6 => ?_) (fun h0_6 => ?_))
  · refine tt_zret (by omega) ?_
    exact ⟨rfl, Or.inl ⟨by omega, rfl⟩⟩
  · refine tt_zret (by omega) ?_
    exact ⟨rfl, Or.inr ⟨by omega, rfl⟩⟩

theorem c66 (σ : am_S) (v n : Int) (hW : Wd σ) (hn : σ.1 27 0 = n) (h0 : 0 ≤ n) (h1 : n ≤ 12) : CC 66 [vR 2, vI (v)] σ (fun r σ' => σ' = σ ∧ ((0 ≤ v ∧ v < n) ∧ r = some (vI 1) ∨ ¬(0 ≤ v ∧ v < n) ∧ r = some (vI 0))) := by
  show TT am_b66 (am_b66.getD 0 []) [(0, vR 2), (1, vI (v))] [] σ _
  refine tt_ar rfl ?_
  refine tt_ar rfl ?_
  refine tt_getR (wo_2 hW) rfl (wr_2_5 hW) ?_
  refine tt_getI (x := n) (wo_27 hW) rfl hn ?_
  refine tt_ar rfl ?_
  refine tt_isub (by omega) (by omega) ?_
  refine tt_cs2 2 rfl (c23 _ _ _) (kb (fun h0_6 => ?_) (fun h0_6 => ?_))
  · refine tt_zret (by omega) ?_
    exact ⟨rfl, Or.inl ⟨by omega, rfl⟩⟩
  · refine tt_zret (by omega) ?_
    exact ⟨rfl, Or.inr ⟨by omega, rfl⟩⟩

theorem c24 (σ : am_S) (f : Nat) (hW : Wd σ) (h1 : f < 6) : CC 24 [vR 2, vI (((f : Nat) : Int))] σ (fun r σ' => σ' = am_set (am_set σ 2 11 (f : Int)) 55 f (w32 (σ.1 55 f + 1)) ∧ r = some (vI (-3))) := by
  show TT am_b24 (am_b24.getD 0 []) [(0, vR 2), (1, vI (((f : Nat) : Int)))] [] σ _
  refine tt_ar rfl ?_
  refine tt_ar rfl ?_
  refine tt_putI (wo_2 hW) rfl ?_
  refine tt_ar rfl ?_
  refine tt_getR (wo_2 hW) rfl (wr_2_10 hW) ?_
  refine tt_ar rfl ?_
  refine tt_ar rfl ?_
  refine tt_iald (f) (x := σ.1 55 (f)) (wa_55 hW) rfl (by omega) rfl ?_
  refine tt_ar rfl ?_
  refine tt_ar rfl ?_
  refine tt_iast (f) (wa_55 hW) (by omega) rfl (by omega) ?_
  refine tt_ar rfl ?_
  refine tt_iret ?_
  exact ⟨rfl, rfl⟩

theorem c30 (σ : am_S) (x y : Int) (hW : Wd σ) : CC 30 [vR 2, vI (x), vI (y)] σ (fun r σ' => σ' = am_set σ 2 12 x ∧ r = some (vI y)) := by
  show TT am_b30 (am_b30.getD 0 []) [(0, vR 2), (1, vI (x)), (2, vI (y))] [] σ _
  refine tt_ar rfl ?_
  refine tt_ar rfl ?_
  refine tt_putI (wo_2 hW) rfl ?_
  refine tt_ar rfl ?_
  refine tt_iret ?_
  exact ⟨rfl, rfl⟩

theorem c27 (σ : am_S) (s : Nat) (hO : am_isO σ s 6 = true) : CC 27 [vR s] σ (fun r σ' => σ' = σ ∧ ((σ.1 s 1 < 0) ∧ r = some (vI 1) ∨ ¬(σ.1 s 1 < 0) ∧ r = some (vI 0))) := by
  show TT am_b27 (am_b27.getD 0 []) [(0, vR s)] [] σ _
  refine tt_ar rfl ?_
  refine tt_getI (x := σ.1 s (1)) hO rfl rfl ?_
  refine tt_ifge (fun h0_2 => ?_) (fun h0_2 => ?_)
  · refine tt_ar rfl ?_
    refine tt_nop ?_
    refine tt_zret (by omega) ?_
    exact ⟨rfl, Or.inr ⟨by omega, rfl⟩⟩
  · refine tt_ar rfl ?_
    refine tt_goto ?_
    refine tt_zret (by omega) ?_
    exact ⟨rfl, Or.inl ⟨by omega, rfl⟩⟩

theorem c28 (σ : am_S) (s : Nat) (i : Int) (hO : am_isO σ s 6 = true) : CC 28 [vR s, vI (i)] σ (fun r σ' => σ' = σ ∧ ((0 ≤ i ∧ i < σ.1 s 1) ∧ r = some (vI 1) ∨ ¬(0 ≤ i ∧ i < σ.1 s 1) ∧ r = some (vI 0))) := by
  show TT am_b28 (am_b28.getD 0 []) [(0, vR s), (1, vI (i))] [] σ _
  refine tt_ar rfl ?_
  refine tt_iflt (fun h0_1 => ?_) (fun h0_1 => ?_)
  · refine tt_ar rfl ?_
    refine tt_nop ?_
    refine tt_zret (by omega) ?_
    exact ⟨rfl, Or.inr ⟨by omega, rfl⟩⟩
  · refine tt_ar rfl ?_
    refine tt_ar rfl ?_
    refine tt_getI (x := σ.1 s (1)) hO rfl rfl ?_
    refine tt_icge (fun h0_5 => ?_) (fun h0_5 => ?_)
    · refine tt_ar rfl ?_
      refine tt_nop ?_
      refine tt_zret (by omega) ?_
      exact ⟨rfl, Or.inr ⟨by omega, rfl⟩⟩
    · refine tt_ar rfl ?_
      refine tt_goto ?_
      refine tt_zret (by omega) ?_
      exact ⟨rfl, Or.inl ⟨by omega, rfl⟩⟩

theorem c29 (σ : am_S) (s p cap i : Nat) (v : Int) (hO : am_isO σ s 6 = true) (hp : σ.2.1 s 0 = some p) (hA : σ.2.2.1[p]? = some (.inl .int, cap)) (h2 : 2 ≤ p) (hi : i < cap) : CC 29 [vR s, vI (((i : Nat) : Int)), vI (v)] σ (fun r σ' => σ' = am_set σ p i v ∧ r = some (vI (σ.1 p i))) := by
  show TT am_b29 (am_b29.getD 0 []) [(0, vR s), (1, vI (((i : Nat) : Int))), (2, vI (v))] [] σ _
  refine tt_ar rfl ?_
  refine tt_getR hO rfl hp ?_
  refine tt_ar rfl ?_
  refine tt_iald (i) (x := σ.1 p (i)) hA rfl (by omega) rfl ?_
  refine tt_ar rfl ?_
  refine tt_ar rfl ?_
  refine tt_getR hO rfl hp ?_
  refine tt_ar rfl ?_
  refine tt_ar rfl ?_
  refine tt_iast (i) hA (by omega) rfl (by omega) ?_
  refine tt_ar rfl ?_
  refine tt_iret ?_
  exact ⟨rfl, rfl⟩

theorem c4 (σ : am_S) (p cap : Nat) (v : Int) (hA : σ.2.2.1[p]? = some (.inl .int, cap)) (h2 : 2 ≤ p) (hB : Nat.blt cap 1000000 = true) : CC 4 [vR p, vI (v)] σ (fun r σ' => r = none ∧ Fr [p] σ σ' ∧ ∀ j, σ'.1 p j = if j < cap then v else σ.1 p j) := by
  show TT am_b4 (am_b4.getD 0 []) [(0, vR p), (1, vI (v))] [] σ _
  have hB2 : cap < 1000000 := by simpa using hB
  refine tt_ar rfl ?_
  refine tt_ar rfl ?_
  refine tt_ar rfl ?_
  refine tt_alen hA hB ?_
  refine tt_ar rfl ?_
  refine tt_nop ?_
  have lp1_1 : ∀ (μ : Nat) (i : Nat) (σ1 : am_S), cap - i < μ → Fr [p] σ σ1 → (i ≤ cap) → (∀ j, σ1.1 p j = if j < i then v else σ.1 p j) → TT am_b4 (am_b4.getD 1 []) [(0, vR p), (1, vI (v)), (2, vI (((i : Nat) : Int))), (3, vI (((cap : Nat) : Int)))] [] σ1 (fun r σ' => r = none ∧ Fr [p] σ σ' ∧ ∀ j, σ'.1 p j = if j < cap then v else σ.1 p j) := by
    intro μ
    induction μ with
    | zero => intro i σ1 hμ; exact absurd hμ (Nat.not_lt_zero _)
    | succ μ ih1 =>
      intro i σ1 hμ hF_σ1 hi hC
      skip
      refine tt_ar rfl ?_
      refine tt_ar rfl ?_
      refine tt_icge (fun h1_2 => ?_) (fun h1_2 => ?_)
      · refine tt_vret ?_
        have e : i = cap := by omega
        subst e
        exact ⟨rfl, hF_σ1, hC⟩
      · refine tt_ar rfl ?_
        refine tt_ar rfl ?_
        refine tt_ar rfl ?_
        refine tt_iast (i) ((congrArg (fun z => z.2.1[p]?) hF_σ1.1).trans hA) (by omega) rfl (by omega) ?_
        refine tt_iinc (y := ((i + 1 : Nat) : Int)) rfl (iinc_fit (by omega) (by omega) (by omega)) ?_
        refine tt_goto ?_
        refine tt_loc [(0, vR p), (1, vI (v)), (2, vI (((i + 1 : Nat) : Int))), (3, vI (((cap : Nat) : Int)))] rfl rfl ⟨rfl, rfl, rfl, rfl, trivial⟩ ?_
        exact ih1 (i + 1) _ (by omega) (Fr.put (Fr.tr Fr.rf hF_σ1 (by simp)) (by simp)) (by omega) (fill_step hC)
  refine tt_loc [(0, vR p), (1, vI (v)), (2, vI (((0 : Nat) : Int))), (3, vI (((cap : Nat) : Int)))] rfl rfl ⟨rfl, rfl, lv_to rfl (by omega), rfl, trivial⟩ ?_
  exact lp1_1 _ (0) σ (Nat.lt_succ_self _) Fr.rf (by omega) (fun j => (if_neg (Nat.not_lt_zero j)).symm)

theorem c11 (σ : am_S) (n lo hi : Int) (h0 : 0 ≤ lo) (h1 : lo ≤ hi) (h2 : hi ≤ n) : CC 11 [vI (n), vI (lo), vI (hi)] σ (fun r σ' => σ' = σ ∧ r = none) := by
  show TT am_b11 (am_b11.getD 0 []) [(0, vI (n)), (1, vI (lo)), (2, vI (hi))] [] σ _
  refine tt_ar rfl ?_
  refine tt_ar rfl ?_
  refine tt_icle (fun h0_2 => ?_) (fun h0_2 => ?_)
  · refine tt_ar rfl ?_
    refine tt_ifge (fun h1_1 => ?_) (fun h1_1 => ?_)
    · refine tt_ar rfl ?_
      refine tt_ar rfl ?_
      refine tt_icle (fun h2_2 => ?_) (fun h2_2 => ?_)
      · refine tt_vret ?_
        exact ⟨rfl, rfl⟩
      · exfalso; omega
    · exfalso; omega
  · exfalso; omega

theorem c10 (σ : am_S) (p cap lo hi : Nat) (v : Int) (hA : σ.2.2.1[p]? = some (.inl .int, cap)) (h2 : 2 ≤ p) (hB : Nat.blt cap 1000000 = true) (hlo : lo ≤ hi) (hhi : hi ≤ cap) : CC 10 [vR p, vI (((lo : Nat) : Int)), vI (((hi : Nat) : Int)), vI (v)] σ (fun r σ' => r = none ∧ Fr [p] σ σ' ∧ ∀ j, σ'.1 p j = if lo ≤ j ∧ j < hi then v else σ.1 p j) := by
  show TT am_b10 (am_b10.getD 0 []) [(0, vR p), (1, vI (((lo : Nat) : Int))), (2, vI (((hi : Nat) : Int))), (3, vI (v))] [] σ _
  have hB2 : cap < 1000000 := by simpa using hB
  refine tt_ar rfl ?_
  refine tt_alen hA hB ?_
  refine tt_ar rfl ?_
  refine tt_ar rfl ?_
  refine tt_cs3 3 rfl (c11 _ _ _ _ (by omega) (by omega) (by omega)) (ksn ?_)
  refine tt_ar rfl ?_
  refine tt_ar rfl ?_
  refine tt_nop ?_
  have lp1_1 : ∀ (μ : Nat) (i : Nat) (σ1 : am_S), hi - i < μ → Fr [p] σ σ1 → (lo ≤ i) → (i ≤ hi) → (∀ j, σ1.1 p j = if lo ≤ j ∧ j < i then v else σ.1 p j) → TT am_b10 (am_b10.getD 1 []) [(0, vR p), (2, vI (((hi : Nat) : Int))), (3, vI (v)), (4, vI (((i : Nat) : Int)))] [] σ1 (fun r σ' => r = none ∧ Fr [p] σ σ' ∧ ∀ j, σ'.1 p j = if lo ≤ j ∧ j < hi then v else σ.1 p j) := by
    intro μ
    induction μ with
    | zero => intro i σ1 hμ; exact absurd hμ (Nat.not_lt_zero _)
    | succ μ ih1 =>
      intro i σ1 hμ hF_σ1 hi1 hi2 hC
      skip
      refine tt_ar rfl ?_
      refine tt_ar rfl ?_
      refine tt_icge (fun h1_2 => ?_) (fun h1_2 => ?_)
      · refine tt_vret ?_
        have e : i = hi := by omega
        subst e
        exact ⟨rfl, hF_σ1, hC⟩
      · refine tt_ar rfl ?_
        refine tt_ar rfl ?_
        refine tt_ar rfl ?_
        refine tt_iast (i) ((congrArg (fun z => z.2.1[p]?) hF_σ1.1).trans hA) (by omega) rfl (by omega) ?_
        refine tt_iinc (y := ((i + 1 : Nat) : Int)) rfl (iinc_fit (by omega) (by omega) (by omega)) ?_
        refine tt_goto ?_
        refine tt_loc [(0, vR p), (2, vI (((hi : Nat) : Int))), (3, vI (v)), (4, vI (((i + 1 : Nat) : Int)))] rfl rfl ⟨rfl, rfl, rfl, rfl, trivial⟩ ?_
        exact ih1 (i + 1) _ (by omega) (Fr.put (Fr.tr Fr.rf hF_σ1 (by simp)) (by simp)) (by omega) (by omega) (fillr_step hi1 hC)
  refine tt_loc [(0, vR p), (2, vI (((hi : Nat) : Int))), (3, vI (v)), (4, vI (((lo : Nat) : Int)))] rfl rfl ⟨rfl, rfl, rfl, rfl, trivial⟩ ?_
  exact lp1_1 _ (lo) σ (Nat.lt_succ_self _) Fr.rf (by omega) (by omega) (fun j => (if_neg (by omega)).symm)

theorem c25 (σ : am_S) (s p cap : Nat) (n v : Int) (hO : am_isO σ s 6 = true) (hp : σ.2.1 s 0 = some p) (hA : σ.2.2.1[p]? = some (.inl .int, cap)) (h2 : 2 ≤ p) (hB : Nat.blt cap 1000000 = true) (hne : s ≠ p) : CC 25 [vR s, vI (n), vI (v)] σ (fun r σ' => r = none ∧ Fr [s, p] σ σ' ∧ σ'.1 s 1 = n ∧ ∀ j, σ'.1 p j = if j < cap then v else σ.1 p j) := by
  show TT am_b25 (am_b25.getD 0 []) [(0, vR s), (1, vI (n)), (2, vI (v))] [] σ _
  refine tt_ar rfl ?_
  refine tt_ar rfl ?_
  refine tt_putI hO rfl ?_
  refine tt_ar rfl ?_
  refine tt_getR hO rfl hp ?_
  refine tt_ar rfl ?_
  refine tt_cs2 2 rfl (c4 _ p cap v hA h2 hB) ?_
  intro r0 σ2 hq0
  obtain ⟨rfl, hF2, hC⟩ := hq0
  have hW1 := True.intro
  refine tt_vret ?_
  refine ⟨rfl, Fr.tr (Fr.put Fr.rf (by simp)) hF2 (by simp), ?_, ?_⟩
  · rw [hF2.2 s (by simpa using hne) 1]; exact am_set_rd
  · intro j; rw [hC j]; split
    · rfl
    · exact if_neg (fun e => hne e.1.symm)

theorem c63 (σ : am_S) (s p cap n : Nat) (m : Int) (hO : am_isO σ s 6 = true) (hp : σ.2.1 s 0 = some p) (hA : σ.2.2.1[p]? = some (.inl .int, cap)) (h2 : 2 ≤ p) (hn : σ.1 s 1 = (n : Int)) (hc : n ≤ cap) (h120 : n ≤ 120) : CC 63 [vR s, vI (m)] σ (fun r σ' => σ' = σ ∧ ((∀ j, j < n → 0 ≤ σ.1 p j ∧ σ.1 p j ≤ m) ∧ r = some (vI 1) ∨ ¬(∀ j, j < n → 0 ≤ σ.1 p j ∧ σ.1 p j ≤ m) ∧ r = some (vI 0))) := by
  show TT am_b63 (am_b63.getD 0 []) [(0, vR s), (1, vI (m))] [] σ _
  refine tt_ar rfl ?_
  refine tt_ar rfl ?_
  refine tt_nop ?_
  have lp1_1 : ∀ (μ : Nat) (i : Nat), n - i < μ → (i ≤ n) → (∀ j, j < i → 0 ≤ σ.1 p j ∧ σ.1 p j ≤ m) → TT am_b63 (am_b63.getD 1 []) [(0, vR s), (1, vI (m)), (2, vI (((i : Nat) : Int)))] [] σ (fun r σ' => σ' = σ ∧ ((∀ j, j < n → 0 ≤ σ.1 p j ∧ σ.1 p j ≤ m) ∧ r = some (vI 1) ∨ ¬(∀ j, j < n → 0 ≤ σ.1 p j ∧ σ.1 p j ≤ m) ∧ r = some (vI 0))) := by
    intro μ
    induction μ with
    | zero => intro i hμ; exact absurd hμ (Nat.not_lt_zero _)
    | succ μ ih1 =>
      intro i hμ hi hC
      refine tt_ar rfl ?_
      refine tt_ar rfl ?_
      refine tt_getI (x := (n : Int)) hO rfl hn ?_
      refine tt_icge (fun h1_3 => ?_) (fun h1_3 => ?_)
      · refine tt_ar rfl ?_
        refine tt_zret (by omega) ?_
        have e : i = n := by omega
        subst e
        exact ⟨rfl, Or.inl ⟨hC, rfl⟩⟩
      · refine tt_ar rfl ?_
        refine tt_getR hO rfl hp ?_
        refine tt_ar rfl ?_
        refine tt_iald (i) (x := σ.1 p (i)) hA rfl (by omega) rfl ?_
        refine tt_iflt (fun h1_8 => ?_) (fun h1_8 => ?_)
        · refine tt_ar rfl ?_
          refine tt_zret (by omega) ?_
          exact ⟨rfl, Or.inr ⟨fun h => by have := h i (by omega); omega, rfl⟩⟩
        · refine tt_ar rfl ?_
          refine tt_getR hO rfl hp ?_
          refine tt_ar rfl ?_
          refine tt_iald (i) (x := σ.1 p (i)) hA rfl (by omega) rfl ?_
          refine tt_ar rfl ?_
          refine tt_icle (fun h1_14 => ?_) (fun h1_14 => ?_)
          · refine tt_iinc (y := ((i + 1 : Nat) : Int)) rfl (iinc_fit (by omega) (by omega) (by omega)) ?_
            refine tt_goto ?_
            refine tt_loc [(0, vR s), (1, vI (m)), (2, vI (((i + 1 : Nat) : Int)))] rfl rfl ⟨rfl, rfl, rfl, trivial⟩ ?_
            exact ih1 (i + 1) (by omega) (by omega) (fun j hj => by by_cases e : j = i; (subst e; omega); exact hC j (by omega))
          · refine tt_nop ?_
            refine tt_ar rfl ?_
            refine tt_zret (by omega) ?_
            exact ⟨rfl, Or.inr ⟨fun h => by have := h i (by omega); omega, rfl⟩⟩
  refine tt_loc [(0, vR s), (1, vI (m)), (2, vI (((0 : Nat) : Int)))] rfl rfl ⟨rfl, rfl, lv_to rfl (by omega), trivial⟩ ?_
  exact lp1_1 _ (0) (Nat.lt_succ_self _) (by omega) (fun j hj => absurd hj (Nat.not_lt_zero j))

