/-! THE LAW'S LOOP -/
theorem lw_any {L : Nat} {xs : Nat → Int32} {σ : am_S} {i : Nat} {Q : Option am_V → am_S → Prop} (hL : L ≤ 3072) (hi : i + 6 ≤ L) (hI : LwI L xs σ) (K : ∀ σ', LwI L xs σ' → TT am_b0 (am_b0.getD 50 []) [(0, vR 1), (1, vR 2), (2, vR 76), (3, vI ((i : Nat) : Int))] [] σ' Q) : ∀ n, n < 48 → TT am_b0 (am_b0.getD ([2, 3, 4, 5, 6, 7, 8, 9, 10, 11, 12, 13, 14, 15, 16, 17, 18, 19, 20, 21, 22, 23, 24, 25, 26, 27, 28, 29, 30, 31, 32, 33, 34, 35, 36, 37, 38, 39, 40, 41, 42, 43, 44, 45, 46, 47, 48, 49].getD n 0) []) [(0, vR 1), (1, vR 2), (2, vR 76), (3, vI ((i : Nat) : Int))] [] σ Q := by
  intro n hn
  match n, hn with
  | 0, _ => exact lw_b2 hL hi hI K
  | 1, _ => exact lw_b3 hL hi hI K
  | 2, _ => exact lw_b4 hL hi hI K
  | 3, _ => exact lw_b5 hL hi hI K
  | 4, _ => exact lw_b6 hL hi hI K
  | 5, _ => exact lw_b7 hL hi hI K
  | 6, _ => exact lw_b8 hL hi hI K
  | 7, _ => exact lw_b9 hL hi hI K
  | 8, _ => exact lw_b10 hL hi hI K
  | 9, _ => exact lw_b11 hL hi hI K
  | 10, _ => exact lw_b12 hL hi hI K
  | 11, _ => exact lw_b13 hL hi hI K
  | 12, _ => exact lw_b14 hL hi hI K
  | 13, _ => exact lw_b15 hL hi hI K
  | 14, _ => exact lw_b16 hL hi hI K
  | 15, _ => exact lw_b17 hL hi hI K
  | 16, _ => exact lw_b18 hL hi hI K
  | 17, _ => exact lw_b19 hL hi hI K
  | 18, _ => exact lw_b20 hL hi hI K
  | 19, _ => exact lw_b21 hL hi hI K
  | 20, _ => exact lw_b22 hL hi hI K
  | 21, _ => exact lw_b23 hL hi hI K
  | 22, _ => exact lw_b24 hL hi hI K
  | 23, _ => exact lw_b25 hL hi hI K
  | 24, _ => exact lw_b26 hL hi hI K
  | 25, _ => exact lw_b27 hL hi hI K
  | 26, _ => exact lw_b28 hL hi hI K
  | 27, _ => exact lw_b29 hL hi hI K
  | 28, _ => exact lw_b30 hL hi hI K
  | 29, _ => exact lw_b31 hL hi hI K
  | 30, _ => exact lw_b32 hL hi hI K
  | 31, _ => exact lw_b33 hL hi hI K
  | 32, _ => exact lw_b34 hL hi hI K
  | 33, _ => exact lw_b35 hL hi hI K
  | 34, _ => exact lw_b36 hL hi hI K
  | 35, _ => exact lw_b37 hL hi hI K
  | 36, _ => exact lw_b38 hL hi hI K
  | 37, _ => exact lw_b39 hL hi hI K
  | 38, _ => exact lw_b40 hL hi hI K
  | 39, _ => exact lw_b41 hL hi hI K
  | 40, _ => exact lw_b42 hL hi hI K
  | 41, _ => exact lw_b43 hL hi hI K
  | 42, _ => exact lw_b44 hL hi hI K
  | 43, _ => exact lw_b45 hL hi hI K
  | 44, _ => exact lw_b46 hL hi hI K
  | 45, _ => exact lw_b47 hL hi hI K
  | 46, _ => exact lw_b48 hL hi hI K
  | 47, _ => exact lw_b49 hL hi hI K
  | n + 48, h => exact absurd h (by omega)
theorem lw_loop {L : Nat} {xs : Nat → Int32} (hL : L ≤ 3072) : ∀ (μ : Nat) (i : Nat) (σ : am_S), L - i < μ → LwI L xs σ → i ≤ L + 6 → TT am_b0 (am_b0.getD 1 []) [(0, vR 1), (1, vR 2), (2, vR 76), (3, vI ((i : Nat) : Int))] [] σ (fun r σ' => r = some (vI 1) ∧ σ'.2.2.2.1 ≤ 600000 ∧ σ'.2.2.2.2 ≤ 7302250) := by
  intro μ
  induction μ with
  | zero => intro i σ hμ; exact absurd hμ (Nat.not_lt_zero _)
  | succ μ ih =>
    intro i σ hμ hI hi
    have hx := hI.2.1
    have h1 := hI.2.2
    refine tt_ar rfl ?_
    refine tt_ar rfl ?_
    refine tt_alen h1 (Nat.blt_eq.mpr (by omega)) ?_
    refine tt_ar rfl ?_
    refine tt_isub (by omega) (by omega) ?_
    refine tt_icgt (fun h => ?_) (fun h => ?_)
    · refine tt_ar rfl ?_
      refine tt_zret (Or.inr rfl) ?_
      obtain ⟨⟨k, nm, ns, D, hCI, -⟩, -, -⟩ := hI
      obtain ⟨kn, j, ⟨-, -, -, hj, hm, hs⟩, -⟩ := hCI.kn
      exact ⟨rfl, by omega, by omega⟩
    · have K : ∀ σ', LwI L xs σ' → TT am_b0 (am_b0.getD 50 []) [(0, vR 1), (1, vR 2), (2, vR 76), (3, vI ((i : Nat) : Int))] [] σ' (fun r σ' => r = some (vI 1) ∧ σ'.2.2.2.1 ≤ 600000 ∧ σ'.2.2.2.2 ≤ 7302250) := by
        intro σ' hI'
        refine tt_iinc (y := (((i + 6 : Nat)) : Int)) rfl (iinc_fit (by omega) (by omega) (by omega)) ?_
        refine tt_goto ?_
        refine tt_loc [(0, vR 1), (1, vR 2), (2, vR 76), (3, vI ((i + 6 : Nat) : Int))] rfl rfl ⟨rfl, rfl, rfl, lv_to rfl (by omega), trivial⟩ ?_
        exact ih (i + 6) σ' (by omega) hI' (by omega)
      refine tt_ar rfl ?_
      refine tt_ar rfl ?_
      refine tt_iald i (x := (xs i).toInt) h1 (by omega) (by omega) (hx _) ?_
      refine tt_ar rfl ?_
      refine tt_ar rfl ?_
      refine tt_tsw (fun _ => K σ hI) (fun hl hh => ?_)
      exact lw_any hL (by omega) hI K _ (by omega)
