/-! SURE, SHARE, RIVAL; FRACTIONS -/
def foN (s : Int → Int → Int) (b : Int) : Nat → (Nat → Int) → Int
  | 0, _ => b
  | n + 1, g => s (foN s b n g) (g n)
def foQ (s : Int → Int → Int) (b : Int) (p : Nat → Bool) : Nat → (Nat → Int) → Int
  | 0, _ => b
  | n + 1, f => if p n then s (foQ s b p n f) (f n) else foQ s b p n f
theorem LI.fold {s : Int → Int → Int} {b : Int} {p : Nat → Bool} {L : Nat → Int} {f : Int → Int} : ∀ {n : Nat}, LI p n L → foN s b (ctN p n) (fun i => f (L i)) = foQ s b p n (fun h => f (h : Int))
  | 0, _ => rfl
  | n + 1, hL => by
    have ih := LI.fold (s := s) (b := b) (f := f) (n := n) (fun h hh => hL h (by omega))
    show foN s b (ctN p (n + 1)) _ = if p n then s (foQ s b p n _) (f (n : Int)) else foQ s b p n _
    rw [← ih, ctN_s]
    by_cases e : p n = true
    · rw [if_pos e, if_pos e]
      show s (foN s b (ctN p n) _) (f (L (ctN p n))) = _
      rw [hL n (Nat.lt_succ_self n) e]
    · rw [if_neg e, if_neg e]
theorem foQ_congr {s : Int → Int → Int} {b : Int} {p : Nat → Bool} {f g : Nat → Int} : ∀ {n : Nat}, (∀ h, h < n → f h = g h) → foQ s b p n f = foQ s b p n g
  | 0, _ => rfl
  | n + 1, h => by
    show (if p n then _ else _) = if p n then _ else _
    rw [foQ_congr (n := n) (fun i hi => h i (by omega)), h n (by omega)]
def mxS (x y : Int) : Int := if x < y then y else x
def mnS (x y : Int) : Int := if y < x then y else x
def dgF (k s : Nat) (z : Int) : Int := ((dg (tb k z.toNat) s : Nat) : Int)
def hvF (k nm m s : Nat) (D ex : Nat → Nat → Int) (w z : Int) : Int := if dgF k s z = w then toM 1000000 (nkT k) nm D ex m z.toNat * onM 1000000 (nkT k) nm D ex (nm - 1 - m) z.toNat else 0
/-- in how many tales a sort has so many on a Monday -/
def hvM (k nm m s : Nat) (D ex : Nat → Nat → Int) (w : Int) : Int := sumN (nkT k) (fun h => if ((dg (tb k h) s : Nat) : Int) = w then toM 1000000 (nkT k) nm D ex m h * onM 1000000 (nkT k) nm D ex (nm - 1 - m) h else 0)
theorem hvF_nn {k nm m s : Nat} {D ex : Nat → Nat → Int} {w z : Int} : 0 ≤ hvF k nm m s D ex w z := by
  unfold hvF
  split
  · exact pr_nn
  · exact Int.le_refl _
theorem hv_sum {k nm m s : Nat} {D ex : Nat → Nat → Int} {w : Int} {L : Nat → Int} (hL : LI (plM 1000000 (nkT k) nm D ex m) (nkT k) L) : sumN (ctN (plM 1000000 (nkT k) nm D ex m) (nkT k)) (fun i => hvF k nm m s D ex w (L i)) = hvM k nm m s D ex w := by
  rw [LI.sum (f := hvF k nm m s D ex w) hL]
  refine sumN_congr (fun h hh => ?_)
  unfold hvF dgF
  rw [Int.toNat_natCast]
  cases hp : plM 1000000 (nkT k) nm D ex m h with
  | false =>
    rw [to_z hp, Int.zero_mul]
    show 0 = if _ then (0 : Int) else 0
    split <;> rfl
  | true => rfl
theorem hv_le {k nm m s : Nat} {D ex : Nat → Nat → Int} {w : Int} (hm : m < nm) : hvM k nm m s D ex w ≤ wyM 1000000 (nkT k) nm D ex := by
  rw [← to_on hm]
  refine sumN_le (fun h hh => ?_)
  split
  · exact Int.le_refl _
  · exact pr_nn
/-- the best one besides, its value -/
def rvV (F : Int) (sk : Nat) (f : Nat → Int) : Nat → Int
  | 0 => F
  | n + 1 => if ¬ n = sk ∧ f n < rvV F sk f n then f n else rvV F sk f n
def rvI (F : Int) (sk : Nat) (f : Nat → Int) : Nat → Int
  | 0 => -1
  | n + 1 => if ¬ n = sk ∧ f n < rvV F sk f n then (n : Int) else rvI F sk f n
theorem rvV_s {F : Int} {sk : Nat} {f : Nat → Int} {n : Nat} : rvV F sk f (n + 1) = if ¬ n = sk ∧ f n < rvV F sk f n then f n else rvV F sk f n := rfl
theorem rvI_s {F : Int} {sk : Nat} {f : Nat → Int} {n : Nat} : rvI F sk f (n + 1) = if ¬ n = sk ∧ f n < rvV F sk f n then (n : Int) else rvI F sk f n := rfl
theorem rv_is {F : Int} {sk : Nat} {f : Nat → Int} : ∀ n, (rvI F sk f n = -1 ∧ rvV F sk f n = F) ∨ ∃ h, h < n ∧ rvI F sk f n = (h : Int) ∧ rvV F sk f n = f h ∧ f h < F
  | 0 => Or.inl ⟨rfl, rfl⟩
  | n + 1 => by
    have ih := rv_is (F := F) (sk := sk) (f := f) n
    rw [rvV_s, rvI_s]
    split
    · rename_i c
      refine Or.inr ⟨n, by omega, rfl, rfl, ?_⟩
      rcases ih with ⟨h1, h2⟩ | ⟨h, h1, h2, h3, h4⟩
      · omega
      · omega
    · rcases ih with h | ⟨h, h1, h2⟩
      · exact Or.inl h
      · exact Or.inr ⟨h, by omega, h2⟩
theorem c121 (σ : am_S) (k nm : Nat) (hW : Wd σ) (D ex : Nat → Nat → Int) (hX : WX k nm D σ) (hex : ∀ m h, h < nkT k → 0 ≤ ex m h ∧ ex m h ≤ 1000000) (hLS : LQ k nm D ex σ) (m s : Nat) (hm : m < nm) (hs : s < 6) : CC 121 [vR 36, vI (((m : Nat) : Int)), vI (((s : Nat) : Int))] σ (fun r σ' => r = some (vI (foQ mxS 0 (plM 1000000 (nkT k) nm D ex m) (nkT k) (fun h => ((dg (tb k h) s : Nat) : Int)))) ∧ σ' = σ) := by
  show TT am_b121 (am_b121.getD 0 []) [(0, vR 36), (1, vI (((m : Nat) : Int))), (2, vI (((s : Nat) : Int)))] [] σ _
  obtain ⟨hD, hH, hL, hDI⟩ := id hX
  have hk6 := hD.2.1
  have hnb := nkT_bd k
  have hnm := hL.2.1
  have hpr := hD.2.2.2.1
  have hDb : ∀ a b, a < nkT k → b < nkT k → 0 ≤ D a b := fun a b ha hb => (DI.bd hk6 hpr hDI ha hb).1
  have hab : ∀ m h, h < nkT k → 0 ≤ ahN 1000000 (nkT k) D ex m h ∧ ahN 1000000 (nkT k) D ex m h ≤ 1000000 := fun m h hh => ahN_bd (by omega) (by omega) hDb (fun m h hh => (hex m h hh).1) m hh
  refine tt_ar rfl ?_
  refine tt_ar rfl ?_
  refine tt_ar rfl ?_
  refine tt_ar rfl ?_
  refine tt_nop ?_
  have lp1_1 : ∀ (μ : Nat) (i : Nat), (ctN (plM 1000000 (nkT k) nm D ex m) (nkT k)) - i < μ → (i ≤ (ctN (plM 1000000 (nkT k) nm D ex m) (nkT k))) → TT am_b121 (am_b121.getD 1 []) [(0, vR 36), (1, vI (((m : Nat) : Int))), (2, vI (((s : Nat) : Int))), (3, vI (foN mxS 0 i (fun i => dgF k s (σ.1 42 (m * 462 + i))))), (4, vI (((i : Nat) : Int)))] [] σ (fun r σ' => r = some (vI (foQ mxS 0 (plM 1000000 (nkT k) nm D ex m) (nkT k) (fun h => ((dg (tb k h) s : Nat) : Int)))) ∧ σ' = σ) := by
    intro μ
    induction μ with
    | zero => intro i hμ; exact absurd hμ (Nat.not_lt_zero _)
    | succ μ ih1 =>
      intro i hμ hi
      have hcm := ctN_le (p := (plM 1000000 (nkT k) nm D ex m)) (nkT k)
      have hnl : nkT k ≤ 462 := hnb.2
      refine tt_ar rfl ?_
      refine tt_ar rfl ?_
      refine tt_getR (wo_36 hW) rfl (wr_36_14 hW) ?_
      refine tt_ar rfl ?_
      refine tt_iald (m) (x := (((ctN (plM 1000000 (nkT k) nm D ex m) (nkT k)) : Nat) : Int)) (wa_43 hW) rfl (by omega) (hLS m (by omega)).2 ?_
      refine tt_icge (fun h1_5 => ?_) (fun h1_5 => ?_)
      · refine tt_ar rfl ?_
        refine tt_iret ?_
        have e : (ctN (plM 1000000 (nkT k) nm D ex m) (nkT k)) = i := by omega
        exact ⟨rv (by rw [← e]; exact (LI.fold (f := dgF k s) (hLS m hm).1)), rfl⟩
      · obtain ⟨h, h1, h2, h3, h4⟩ := LI.at (hLS m (by omega)).1 (show i < (ctN (plM 1000000 (nkT k) nm D ex m) (nkT k)) by omega)
        have h4 : σ.1 42 (m * 462 + i) = (h : Int) := h4
        refine tt_ar rfl ?_
        refine tt_ar rfl ?_
        refine tt_getR (wo_36 hW) rfl (wr_36_0 hW) ?_
        refine tt_getR (wo_18 hW) rfl (wr_18_4 hW) ?_
        refine tt_ar rfl ?_
        refine tt_getR (wo_36 hW) rfl (wr_36_13 hW) ?_
        refine tt_ar rfl ?_
        refine tt_ar rfl ?_
        refine tt_imul (by omega) (by omega) ?_
        refine tt_ar rfl ?_
        refine tt_iadd (by omega) (by omega) ?_
        refine tt_iald (((m * 462) + i)) (x := ((h : Nat) : Int)) (wa_42 hW) (by omega) (by omega) h4 ?_
        refine tt_ar rfl ?_
        refine tt_imul (by omega) (by omega) ?_
        refine tt_ar rfl ?_
        refine tt_iadd (by omega) (by omega) ?_
        refine tt_iald (((h * 6) + s)) (x := ((dg (tb k h) s : Nat) : Int)) (wa_21 hW) (by omega) (by omega) ((hH.2.1 h h1).2.2 s hs) ?_
        refine tt_max (z := (if foN mxS 0 i (fun i => dgF k s (σ.1 42 (m * 462 + i))) < ((dg (tb k h) s : Nat) : Int) then ((dg (tb k h) s : Nat) : Int) else foN mxS 0 i (fun i => dgF k s (σ.1 42 (m * 462 + i))))) rfl rfl ?_
        refine tt_ar rfl ?_
        refine tt_iinc (y := ((i + 1 : Nat) : Int)) rfl (iinc_fit (by omega) (by omega) (by omega)) ?_
        refine tt_goto ?_
        refine tt_loc [(0, vR 36), (1, vI (((m : Nat) : Int))), (2, vI (((s : Nat) : Int))), (3, vI (foN mxS 0 (i + 1) (fun i => dgF k s (σ.1 42 (m * 462 + i))))), (4, vI (((i + 1 : Nat) : Int)))] rfl rfl ⟨rfl, rfl, rfl, lv_to rfl (by show _ = mxS _ (dgF k s (σ.1 42 (m * 462 + i))); rw [h4]; rfl), rfl, trivial⟩ ?_
        exact ih1 (i + 1) (by omega) (by omega)
  refine tt_loc [(0, vR 36), (1, vI (((m : Nat) : Int))), (2, vI (((s : Nat) : Int))), (3, vI (foN mxS 0 0 (fun i => dgF k s (σ.1 42 (m * 462 + i))))), (4, vI (((0 : Nat) : Int)))] rfl rfl ⟨rfl, rfl, rfl, lv_to rfl rfl, lv_to rfl (by omega), trivial⟩ ?_
  exact lp1_1 _ (0) (Nat.lt_succ_self _) (by omega)

theorem c122 (σ : am_S) (k nm : Nat) (hW : Wd σ) (D ex : Nat → Nat → Int) (hX : WX k nm D σ) (hex : ∀ m h, h < nkT k → 0 ≤ ex m h ∧ ex m h ≤ 1000000) (hLS : LQ k nm D ex σ) (m s : Nat) (hm : m < nm) (hs : s < 6) : CC 122 [vR 36, vI (((m : Nat) : Int)), vI (((s : Nat) : Int))] σ (fun r σ' => r = some (vI (foQ mnS 5 (plM 1000000 (nkT k) nm D ex m) (nkT k) (fun h => ((dg (tb k h) s : Nat) : Int)))) ∧ σ' = σ) := by
  show TT am_b122 (am_b122.getD 0 []) [(0, vR 36), (1, vI (((m : Nat) : Int))), (2, vI (((s : Nat) : Int)))] [] σ _
  obtain ⟨hD, hH, hL, hDI⟩ := id hX
  have hk6 := hD.2.1
  have hnb := nkT_bd k
  have hnm := hL.2.1
  have hpr := hD.2.2.2.1
  have hDb : ∀ a b, a < nkT k → b < nkT k → 0 ≤ D a b := fun a b ha hb => (DI.bd hk6 hpr hDI ha hb).1
  have hab : ∀ m h, h < nkT k → 0 ≤ ahN 1000000 (nkT k) D ex m h ∧ ahN 1000000 (nkT k) D ex m h ≤ 1000000 := fun m h hh => ahN_bd (by omega) (by omega) hDb (fun m h hh => (hex m h hh).1) m hh
  refine tt_ar rfl ?_
  refine tt_ar rfl ?_
  refine tt_ar rfl ?_
  refine tt_ar rfl ?_
  refine tt_nop ?_
  have lp1_1 : ∀ (μ : Nat) (i : Nat), (ctN (plM 1000000 (nkT k) nm D ex m) (nkT k)) - i < μ → (i ≤ (ctN (plM 1000000 (nkT k) nm D ex m) (nkT k))) → TT am_b122 (am_b122.getD 1 []) [(0, vR 36), (1, vI (((m : Nat) : Int))), (2, vI (((s : Nat) : Int))), (3, vI (foN mnS 5 i (fun i => dgF k s (σ.1 42 (m * 462 + i))))), (4, vI (((i : Nat) : Int)))] [] σ (fun r σ' => r = some (vI (foQ mnS 5 (plM 1000000 (nkT k) nm D ex m) (nkT k) (fun h => ((dg (tb k h) s : Nat) : Int)))) ∧ σ' = σ) := by
    intro μ
    induction μ with
    | zero => intro i hμ; exact absurd hμ (Nat.not_lt_zero _)
    | succ μ ih1 =>
      intro i hμ hi
      have hcm := ctN_le (p := (plM 1000000 (nkT k) nm D ex m)) (nkT k)
      have hnl : nkT k ≤ 462 := hnb.2
      refine tt_ar rfl ?_
      refine tt_ar rfl ?_
      refine tt_getR (wo_36 hW) rfl (wr_36_14 hW) ?_
      refine tt_ar rfl ?_
      refine tt_iald (m) (x := (((ctN (plM 1000000 (nkT k) nm D ex m) (nkT k)) : Nat) : Int)) (wa_43 hW) rfl (by omega) (hLS m (by omega)).2 ?_
      refine tt_icge (fun h1_5 => ?_) (fun h1_5 => ?_)
      · refine tt_ar rfl ?_
        refine tt_iret ?_
        have e : (ctN (plM 1000000 (nkT k) nm D ex m) (nkT k)) = i := by omega
        exact ⟨rv (by rw [← e]; exact (LI.fold (f := dgF k s) (hLS m hm).1)), rfl⟩
      · obtain ⟨h, h1, h2, h3, h4⟩ := LI.at (hLS m (by omega)).1 (show i < (ctN (plM 1000000 (nkT k) nm D ex m) (nkT k)) by omega)
        have h4 : σ.1 42 (m * 462 + i) = (h : Int) := h4
        refine tt_ar rfl ?_
        refine tt_ar rfl ?_
        refine tt_getR (wo_36 hW) rfl (wr_36_0 hW) ?_
        refine tt_getR (wo_18 hW) rfl (wr_18_4 hW) ?_
        refine tt_ar rfl ?_
        refine tt_getR (wo_36 hW) rfl (wr_36_13 hW) ?_
        refine tt_ar rfl ?_
        refine tt_ar rfl ?_
        refine tt_imul (by omega) (by omega) ?_
        refine tt_ar rfl ?_
        refine tt_iadd (by omega) (by omega) ?_
        refine tt_iald (((m * 462) + i)) (x := ((h : Nat) : Int)) (wa_42 hW) (by omega) (by omega) h4 ?_
        refine tt_ar rfl ?_
        refine tt_imul (by omega) (by omega) ?_
        refine tt_ar rfl ?_
        refine tt_iadd (by omega) (by omega) ?_
        refine tt_iald (((h * 6) + s)) (x := ((dg (tb k h) s : Nat) : Int)) (wa_21 hW) (by omega) (by omega) ((hH.2.1 h h1).2.2 s hs) ?_
        refine tt_min (z := (if ((dg (tb k h) s : Nat) : Int) < foN mnS 5 i (fun i => dgF k s (σ.1 42 (m * 462 + i))) then ((dg (tb k h) s : Nat) : Int) else foN mnS 5 i (fun i => dgF k s (σ.1 42 (m * 462 + i))))) rfl rfl ?_
        refine tt_ar rfl ?_
        refine tt_iinc (y := ((i + 1 : Nat) : Int)) rfl (iinc_fit (by omega) (by omega) (by omega)) ?_
        refine tt_goto ?_
        refine tt_loc [(0, vR 36), (1, vI (((m : Nat) : Int))), (2, vI (((s : Nat) : Int))), (3, vI (foN mnS 5 (i + 1) (fun i => dgF k s (σ.1 42 (m * 462 + i))))), (4, vI (((i + 1 : Nat) : Int)))] rfl rfl ⟨rfl, rfl, rfl, lv_to rfl (by show _ = mnS _ (dgF k s (σ.1 42 (m * 462 + i))); rw [h4]; rfl), rfl, trivial⟩ ?_
        exact ih1 (i + 1) (by omega) (by omega)
  refine tt_loc [(0, vR 36), (1, vI (((m : Nat) : Int))), (2, vI (((s : Nat) : Int))), (3, vI (foN mnS 5 0 (fun i => dgF k s (σ.1 42 (m * 462 + i))))), (4, vI (((0 : Nat) : Int)))] rfl rfl ⟨rfl, rfl, rfl, lv_to rfl rfl, lv_to rfl (by omega), trivial⟩ ?_
  exact lp1_1 _ (0) (Nat.lt_succ_self _) (by omega)

theorem c124 (σ : am_S) (k nm : Nat) (hW : Wd σ) (D ex : Nat → Nat → Int) (hX : WX k nm D σ) (hex : ∀ m h, h < nkT k → 0 ≤ ex m h ∧ ex m h ≤ 1000000) (hLS : LQ k nm D ex σ) (hw1 : (wyM 1000000 (nkT k) nm D ex) ≤ 1000000000000000) (hTO : ∀ m, m < nm → ∀ h, h < nkT k → (plM 1000000 (nkT k) nm D ex m) h = true → σ.1 44 (m * 462 + h) = (toM 1000000 (nkT k) nm D ex m h) ∧ σ.1 45 (m * 462 + h) = (onM 1000000 (nkT k) nm D ex (nm - 1 - m) h)) (m s : Nat) (w : Int) (hm : m < nm) (hs : s < 6) : CC 124 [vR 36, vI (((m : Nat) : Int)), vI (((s : Nat) : Int)), vI (w)] σ (fun r σ' => r = some (vL (hvM k nm m s D ex w)) ∧ σ' = σ) := by
  show TT am_b124 (am_b124.getD 0 []) [(0, vR 36), (1, vI (((m : Nat) : Int))), (2, vI (((s : Nat) : Int))), (3, vI (w))] [] σ _
  obtain ⟨hD, hH, hL, hDI⟩ := id hX
  have hk6 := hD.2.1
  have hnb := nkT_bd k
  have hnm := hL.2.1
  have hpr := hD.2.2.2.1
  have hDb : ∀ a b, a < nkT k → b < nkT k → 0 ≤ D a b := fun a b ha hb => (DI.bd hk6 hpr hDI ha hb).1
  have hab : ∀ m h, h < nkT k → 0 ≤ ahN 1000000 (nkT k) D ex m h ∧ ahN 1000000 (nkT k) D ex m h ≤ 1000000 := fun m h hh => ahN_bd (by omega) (by omega) hDb (fun m h hh => (hex m h hh).1) m hh
  refine tt_ar rfl ?_
  refine tt_ar rfl ?_
  refine tt_ar rfl ?_
  refine tt_ar rfl ?_
  refine tt_nop ?_
  have lp1_1 : ∀ (μ : Nat) (i : Nat), (ctN (plM 1000000 (nkT k) nm D ex m) (nkT k)) - i < μ → (i ≤ (ctN (plM 1000000 (nkT k) nm D ex m) (nkT k))) → TT am_b124 (am_b124.getD 1 []) [(0, vR 36), (1, vI (((m : Nat) : Int))), (2, vI (((s : Nat) : Int))), (3, vI (w)), (4, vL (sumN i (fun i => hvF k nm m s D ex w (σ.1 42 (m * 462 + i))))), (6, vI (((i : Nat) : Int)))] [] σ (fun r σ' => r = some (vL (hvM k nm m s D ex w)) ∧ σ' = σ) := by
    intro μ
    induction μ with
    | zero => intro i hμ; exact absurd hμ (Nat.not_lt_zero _)
    | succ μ ih1 =>
      intro i hμ hi
      have hcm := ctN_le (p := (plM 1000000 (nkT k) nm D ex m)) (nkT k)
      have hnl : nkT k ≤ 462 := hnb.2
      have hs0 := sumN_nn (n := i) (f := (fun i => hvF k nm m s D ex w (σ.1 42 (m * 462 + i)))) (fun _ _ => hvF_nn)
      have hs1 := sumN_le_n (f := (fun i => hvF k nm m s D ex w (σ.1 42 (m * 462 + i)))) (n := (ctN (plM 1000000 (nkT k) nm D ex m) (nkT k))) (fun _ _ => hvF_nn) hi
      rw [hv_sum (hLS m hm).1] at hs1
      have hs2 := hv_le (k := k) (nm := nm) (m := m) (s := s) (D := D) (ex := ex) (w := w) hm
      refine tt_ar rfl ?_
      refine tt_ar rfl ?_
      refine tt_getR (wo_36 hW) rfl (wr_36_14 hW) ?_
      refine tt_ar rfl ?_
      refine tt_iald (m) (x := (((ctN (plM 1000000 (nkT k) nm D ex m) (nkT k)) : Nat) : Int)) (wa_43 hW) rfl (by omega) (hLS m (by omega)).2 ?_
      refine tt_icge (fun h1_5 => ?_) (fun h1_5 => ?_)
      · refine tt_ar rfl ?_
        refine tt_lret ?_
        have e : (ctN (plM 1000000 (nkT k) nm D ex m) (nkT k)) = i := by omega
        exact ⟨by rw [← e, hv_sum (hLS m hm).1], rfl⟩
      · obtain ⟨h, h1, h2, h3, h4⟩ := LI.at (hLS m (by omega)).1 (show i < (ctN (plM 1000000 (nkT k) nm D ex m) (nkT k)) by omega)
        have h4 : σ.1 42 (m * 462 + i) = (h : Int) := h4
        refine tt_ar rfl ?_
        refine tt_getR (wo_36 hW) rfl (wr_36_13 hW) ?_
        refine tt_ar rfl ?_
        refine tt_ar rfl ?_
        refine tt_imul (by omega) (by omega) ?_
        refine tt_ar rfl ?_
        refine tt_iadd (by omega) (by omega) ?_
        refine tt_iald (((m * 462) + i)) (x := ((h : Nat) : Int)) (wa_42 hW) (by omega) (by omega) h4 ?_
        refine tt_ar rfl ?_
        refine tt_ar rfl ?_
        refine tt_getR (wo_36 hW) rfl (wr_36_0 hW) ?_
        refine tt_getR (wo_18 hW) rfl (wr_18_4 hW) ?_
        refine tt_ar rfl ?_
        refine tt_ar rfl ?_
        refine tt_imul (by omega) (by omega) ?_
        refine tt_ar rfl ?_
        refine tt_iadd (by omega) (by omega) ?_
        refine tt_iald (((h * 6) + s)) (x := ((dg (tb k h) s : Nat) : Int)) (wa_21 hW) (by omega) (by omega) ((hH.2.1 h h1).2.2 s hs) ?_
        refine tt_ar rfl ?_
        refine tt_icne (fun h1_25 => ?_) (fun h1_25 => ?_)
        · have hstep : hvF k nm m s D ex w (σ.1 42 (m * 462 + i)) = 0 := by rw [h4]; unfold hvF dgF; rw [Int.toNat_natCast, if_neg (by omega)]
          refine tt_iinc (y := ((i + 1 : Nat) : Int)) rfl (iinc_fit (by omega) (by omega) (by omega)) ?_
          refine tt_goto ?_
          refine tt_loc [(0, vR 36), (1, vI (((m : Nat) : Int))), (2, vI (((s : Nat) : Int))), (3, vI (w)), (4, vL (sumN (i + 1) (fun i => hvF k nm m s D ex w (σ.1 42 (m * 462 + i))))), (6, vI (((i + 1 : Nat) : Int)))] rfl rfl ⟨rfl, rfl, rfl, rfl, lv_toL rfl (by rw [sumN_s]; show _ = _ + hvF k nm m s D ex w (σ.1 42 (m * 462 + i)); rw [hstep]; first | done | omega), rfl, trivial⟩ ?_
          exact ih1 (i + 1) (by omega) (by omega)
        · have hq := pr_le (F := 1000000) (N := nkT k) (n := nm) (D := D) (ex := ex) (m := m) (h := h) hm h1
          have hq0 := pr_nn (F := 1000000) (N := nkT k) (n := nm) (D := D) (ex := ex) (m := m) (h := h)
          refine tt_ar rfl ?_
          refine tt_ar rfl ?_
          refine tt_getR (wo_36 hW) rfl (wr_36_15 hW) ?_
          refine tt_ar rfl ?_
          refine tt_ar rfl ?_
          refine tt_imul (by omega) (by omega) ?_
          refine tt_ar rfl ?_
          refine tt_iadd (by omega) (by omega) ?_
          refine tt_lald (((m * 462) + h)) (x := (toM 1000000 (nkT k) nm D ex m h)) (wa_44 hW) (by omega) (by omega) (hTO m hm h h1 h2).1 ?_
          refine tt_ar rfl ?_
          refine tt_getR (wo_36 hW) rfl (wr_36_16 hW) ?_
          refine tt_ar rfl ?_
          refine tt_ar rfl ?_
          refine tt_imul (by omega) (by omega) ?_
          refine tt_ar rfl ?_
          refine tt_iadd (by omega) (by omega) ?_
          refine tt_lald (((m * 462) + h)) (x := (onM 1000000 (nkT k) nm D ex (nm - 1 - m) h)) (wa_45 hW) (by omega) (by omega) (hTO m hm h h1 h2).2 ?_
          refine tt_bL (g := (fun a b => w64 (a * b))) (z := ((toM 1000000 (nkT k) nm D ex m h) * (onM 1000000 (nkT k) nm D ex (nm - 1 - m) h))) rfl (w64_i (by omega) (by omega)) ?_
          refine tt_bL (g := (fun a b => w64 (a + b))) (z := (sumN i (fun i => hvF k nm m s D ex w (σ.1 42 (m * 462 + i))) + ((toM 1000000 (nkT k) nm D ex m h) * (onM 1000000 (nkT k) nm D ex (nm - 1 - m) h)))) rfl (w64_i (by omega) (by omega)) ?_
          refine tt_ar rfl ?_
          refine tt_nop ?_
          have hstep : hvF k nm m s D ex w (σ.1 42 (m * 462 + i)) = (toM 1000000 (nkT k) nm D ex m h) * (onM 1000000 (nkT k) nm D ex (nm - 1 - m) h) := by rw [h4]; unfold hvF dgF; rw [Int.toNat_natCast, if_pos (by omega)]
          refine tt_iinc (y := ((i + 1 : Nat) : Int)) rfl (iinc_fit (by omega) (by omega) (by omega)) ?_
          refine tt_goto ?_
          refine tt_loc [(0, vR 36), (1, vI (((m : Nat) : Int))), (2, vI (((s : Nat) : Int))), (3, vI (w)), (4, vL (sumN (i + 1) (fun i => hvF k nm m s D ex w (σ.1 42 (m * 462 + i))))), (6, vI (((i + 1 : Nat) : Int)))] rfl rfl ⟨rfl, rfl, rfl, rfl, lv_toL rfl (by rw [sumN_s]; show _ = _ + hvF k nm m s D ex w (σ.1 42 (m * 462 + i)); rw [hstep]; first | done | omega), rfl, trivial⟩ ?_
          exact ih1 (i + 1) (by omega) (by omega)
  refine tt_loc [(0, vR 36), (1, vI (((m : Nat) : Int))), (2, vI (((s : Nat) : Int))), (3, vI (w)), (4, vL (sumN 0 (fun i => hvF k nm m s D ex w (σ.1 42 (m * 462 + i))))), (6, vI (((0 : Nat) : Int)))] rfl rfl ⟨rfl, rfl, rfl, rfl, lv_toL rfl rfl, lv_to rfl (by omega), trivial⟩ ?_
  exact lp1_1 _ (0) (Nat.lt_succ_self _) (by omega)

theorem c111t (σ : am_S) (k nm : Nat) (hW : Wd σ) (D ex : Nat → Nat → Int) (hX : WX k nm D σ) (hex : ∀ m h, h < nkT k → 0 ≤ ex m h ∧ ex m h ≤ 1000000) (hK : WK k nm D ex σ) (hT : bsN 1000000 (nkT k) nm D ex < 1000000) (m h : Nat) (hm : m < nm) (hh : h < nkT k) : CC 111 [vR 36, vI ((m : Nat) : Int), vI ((h : Nat) : Int)] σ (fun r σ' => r = some (vI (ctM 1000000 (nkT k) nm D ex m h)) ∧ σ' = σ) := by
  refine CC.mono (c111 σ k nm hW hX.1 hX.2.1 hX.2.2.1 m h hm hh D ex hX.2.2.2 hex hK) ?_
  intro r σ' ⟨h1, h2⟩
  rw [if_pos hT] at h1
  exact ⟨h1, h2⟩
theorem c129 (σ : am_S) (k nm : Nat) (hW : Wd σ) (D ex : Nat → Nat → Int) (hX : WX k nm D σ) (hex : ∀ m h, h < nkT k → 0 ≤ ex m h ∧ ex m h ≤ 1000000) (hK : WK k nm D ex σ) (hT : bsN 1000000 (nkT k) nm D ex < 1000000) (hfr : ∀ q, q < nm → σ.1 37 q = (((frM 1000000 (nkT k) nm D ex q) : Nat) : Int)) (m : Nat) (hm : m < nm) : CC 129 [vR 36, vI (((m : Nat) : Int))] σ (fun r σ' => r = some (vI (rvI 1000000 (frM 1000000 (nkT k) nm D ex m) (ctM 1000000 (nkT k) nm D ex m) (nkT k))) ∧ σ' = σ) := by
  show TT am_b129 (am_b129.getD 0 []) [(0, vR 36), (1, vI (((m : Nat) : Int)))] [] σ _
  obtain ⟨hD, hH, hL, hDI⟩ := id hX
  have hk6 := hD.2.1
  have hnb := nkT_bd k
  have hnm := hL.2.1
  have hpr := hD.2.2.2.1
  have hDb : ∀ a b, a < nkT k → b < nkT k → 0 ≤ D a b := fun a b ha hb => (DI.bd hk6 hpr hDI ha hb).1
  have hab : ∀ m h, h < nkT k → 0 ≤ ahN 1000000 (nkT k) D ex m h ∧ ahN 1000000 (nkT k) D ex m h ≤ 1000000 := fun m h hh => ahN_bd (by omega) (by omega) hDb (fun m h hh => (hex m h hh).1) m hh
  refine tt_ar rfl ?_
  refine tt_ar rfl ?_
  refine tt_ar rfl ?_
  refine tt_ar rfl ?_
  refine tt_ar rfl ?_
  refine tt_ar rfl ?_
  refine tt_nop ?_
  have lp1_1 : ∀ (μ : Nat) (h : Nat), nkT k - h < μ → (h ≤ nkT k) → TT am_b129 (am_b129.getD 1 []) [(0, vR 36), (1, vI (((m : Nat) : Int))), (2, vI (rvI 1000000 (frM 1000000 (nkT k) nm D ex m) (ctM 1000000 (nkT k) nm D ex m) h)), (3, vI (rvV 1000000 (frM 1000000 (nkT k) nm D ex m) (ctM 1000000 (nkT k) nm D ex m) h)), (4, vI (((h : Nat) : Int)))] [] σ (fun r σ' => r = some (vI (rvI 1000000 (frM 1000000 (nkT k) nm D ex m) (ctM 1000000 (nkT k) nm D ex m) (nkT k))) ∧ σ' = σ) := by
    intro μ
    induction μ with
    | zero => intro h hμ; exact absurd hμ (Nat.not_lt_zero _)
    | succ μ ih1 =>
      intro h hμ hh
      have hnl : nkT k ≤ 462 := hnb.2
      refine tt_ar rfl ?_
      refine tt_ar rfl ?_
      refine tt_getR (wo_36 hW) rfl (wr_36_0 hW) ?_
      refine tt_getI (x := ((nkT k : Nat) : Int)) (wo_18 hW) rfl hH.1 ?_
      refine tt_icge (fun h1_4 => ?_) (fun h1_4 => ?_)
      · refine tt_ar rfl ?_
        refine tt_iret ?_
        have e : nkT k = h := by omega
        exact ⟨rv (by rw [← e]), rfl⟩
      · refine tt_ar rfl ?_
        refine tt_ar rfl ?_
        refine tt_getR (wo_36 hW) rfl (wr_36_8 hW) ?_
        refine tt_ar rfl ?_
        refine tt_iald (m) (x := (((frM 1000000 (nkT k) nm D ex m) : Nat) : Int)) (wa_37 hW) rfl (by omega) (hfr m (by omega)) ?_
        refine tt_iceq (fun h1_10 => ?_) (fun h1_10 => ?_)
        · have hc : ¬ (¬ h = (frM 1000000 (nkT k) nm D ex m) ∧ (ctM 1000000 (nkT k) nm D ex m) h < rvV 1000000 (frM 1000000 (nkT k) nm D ex m) (ctM 1000000 (nkT k) nm D ex m) h) := fun e => by have e1 := e.1; have e2 := e.2; omega
          refine tt_iinc (y := ((h + 1 : Nat) : Int)) rfl (iinc_fit (by omega) (by omega) (by omega)) ?_
          refine tt_goto ?_
          refine tt_loc [(0, vR 36), (1, vI (((m : Nat) : Int))), (2, vI (rvI 1000000 (frM 1000000 (nkT k) nm D ex m) (ctM 1000000 (nkT k) nm D ex m) (h + 1))), (3, vI (rvV 1000000 (frM 1000000 (nkT k) nm D ex m) (ctM 1000000 (nkT k) nm D ex m) (h + 1))), (4, vI (((h + 1 : Nat) : Int)))] rfl rfl ⟨rfl, rfl, lv_to rfl (by rw [rvI_s]; first | rw [if_pos hc] | rw [if_neg hc]), lv_to rfl (by rw [rvV_s]; first | rw [if_pos hc] | rw [if_neg hc]), rfl, trivial⟩ ?_
          exact ih1 (h + 1) (by omega) (by omega)
        · refine tt_ar rfl ?_
          refine tt_ar rfl ?_
          refine tt_ar rfl ?_
          refine tt_cv3 3 rfl (wo_36 hW) (c111t σ k nm hW D ex hX hex hK hT m h hm (by omega)) (kp ?_)
          refine tt_ar rfl ?_
          refine tt_icge (fun h1_16 => ?_) (fun h1_16 => ?_)
          · have hc : ¬ (¬ h = (frM 1000000 (nkT k) nm D ex m) ∧ (ctM 1000000 (nkT k) nm D ex m) h < rvV 1000000 (frM 1000000 (nkT k) nm D ex m) (ctM 1000000 (nkT k) nm D ex m) h) := fun e => by have e1 := e.1; have e2 := e.2; omega
            refine tt_iinc (y := ((h + 1 : Nat) : Int)) rfl (iinc_fit (by omega) (by omega) (by omega)) ?_
            refine tt_goto ?_
            refine tt_loc [(0, vR 36), (1, vI (((m : Nat) : Int))), (2, vI (rvI 1000000 (frM 1000000 (nkT k) nm D ex m) (ctM 1000000 (nkT k) nm D ex m) (h + 1))), (3, vI (rvV 1000000 (frM 1000000 (nkT k) nm D ex m) (ctM 1000000 (nkT k) nm D ex m) (h + 1))), (4, vI (((h + 1 : Nat) : Int)))] rfl rfl ⟨rfl, rfl, lv_to rfl (by rw [rvI_s]; first | rw [if_pos hc] | rw [if_neg hc]), lv_to rfl (by rw [rvV_s]; first | rw [if_pos hc] | rw [if_neg hc]), rfl, trivial⟩ ?_
            exact ih1 (h + 1) (by omega) (by omega)
          · refine tt_ar rfl ?_
            refine tt_ar rfl ?_
            refine tt_ar rfl ?_
            refine tt_ar rfl ?_
            refine tt_ar rfl ?_
            refine tt_cv3 3 rfl (wo_36 hW) (c111t σ k nm hW D ex hX hex hK hT m h hm (by omega)) (kp ?_)
            refine tt_ar rfl ?_
            refine tt_nop ?_
            have hc : ¬ h = (frM 1000000 (nkT k) nm D ex m) ∧ (ctM 1000000 (nkT k) nm D ex m) h < rvV 1000000 (frM 1000000 (nkT k) nm D ex m) (ctM 1000000 (nkT k) nm D ex m) h := ⟨fun e => h1_10 (by rw [← e]), by omega⟩
            refine tt_iinc (y := ((h + 1 : Nat) : Int)) rfl (iinc_fit (by omega) (by omega) (by omega)) ?_
            refine tt_goto ?_
            refine tt_loc [(0, vR 36), (1, vI (((m : Nat) : Int))), (2, vI (rvI 1000000 (frM 1000000 (nkT k) nm D ex m) (ctM 1000000 (nkT k) nm D ex m) (h + 1))), (3, vI (rvV 1000000 (frM 1000000 (nkT k) nm D ex m) (ctM 1000000 (nkT k) nm D ex m) (h + 1))), (4, vI (((h + 1 : Nat) : Int)))] rfl rfl ⟨rfl, rfl, lv_to rfl (by rw [rvI_s]; first | rw [if_pos hc] | rw [if_neg hc]), lv_to rfl (by rw [rvV_s]; first | rw [if_pos hc] | rw [if_neg hc]), rfl, trivial⟩ ?_
            exact ih1 (h + 1) (by omega) (by omega)
  refine tt_loc [(0, vR 36), (1, vI (((m : Nat) : Int))), (2, vI (rvI 1000000 (frM 1000000 (nkT k) nm D ex m) (ctM 1000000 (nkT k) nm D ex m) 0)), (3, vI (rvV 1000000 (frM 1000000 (nkT k) nm D ex m) (ctM 1000000 (nkT k) nm D ex m) 0)), (4, vI (((0 : Nat) : Int)))] rfl rfl ⟨rfl, rfl, lv_to rfl rfl, lv_to rfl rfl, lv_to rfl (by omega), trivial⟩ ?_
  exact lp1_1 _ (0) (Nat.lt_succ_self _) (by omega)

theorem eu_step {x y i : Nat} (hy : 0 < y) (hyx : y ≤ x) (h : x * y * 2 ^ i ≤ 10 ^ 30) : y * (x % y) * 2 ^ (i + 1) ≤ 10 ^ 30 := by
  have h1 : 2 * (x % y) ≤ x := by
    have a := Nat.mod_lt x hy
    have b := Nat.div_add_mod x y
    have c : 1 ≤ x / y := Nat.div_pos hyx hy
    have d : y * 1 ≤ y * (x / y) := Nat.mul_le_mul_left y c
    omega
  have h2 : y * (x % y) * 2 ^ (i + 1) = (2 * (x % y)) * y * 2 ^ i := by
    rw [Nat.pow_succ, Nat.mul_comm y (x % y), Nat.mul_comm (2 ^ i) 2, ← Nat.mul_assoc, Nat.mul_comm ((x % y) * y) 2, ← Nat.mul_assoc]
  rw [h2]
  exact Nat.le_trans (Nat.mul_le_mul_right _ (Nat.mul_le_mul_right _ h1)) h
theorem eu_end {x y i : Nat} (hy : 0 < y) (hyx : y ≤ x) (h : x * y * 2 ^ i ≤ 10 ^ 30) : i < 200 := by
  rcases Nat.lt_or_ge i 200 with e | e
  · exact e
  · exfalso
    have h1 : 1 ≤ x * y := Nat.mul_pos (by omega) hy
    have h2 : 2 ^ 200 ≤ 2 ^ i := Nat.pow_le_pow_right (by decide) e
    have h3 : 1 * 2 ^ 200 ≤ x * y * 2 ^ i := Nat.mul_le_mul h1 h2
    have h4 : (10 : Nat) ^ 30 < 1 * 2 ^ 200 := by decide
    omega
theorem c126 (σ : am_S) (a b : Nat) (hab : a ≤ b) (hb : b ≤ 1000000000000000) : CC 126 [vL (((a : Nat) : Int)), vL (((b : Nat) : Int))] σ (fun r σ' => r = some (vL ((Nat.gcd a b : Nat) : Int)) ∧ σ' = σ) := by
  show TT am_b126 (am_b126.getD 0 []) [(0, vL (((a : Nat) : Int))), (2, vL (((b : Nat) : Int)))] [] σ _
  refine tt_ar rfl ?_
  refine tt_ar rfl ?_
  refine tt_ar rfl ?_
  refine tt_ar rfl ?_
  refine tt_ar rfl ?_
  refine tt_ar rfl ?_
  refine tt_nop ?_
  have lp1_1 : ∀ (μ : Nat) (i : Nat) (x : Nat) (y : Nat), y < μ → (y ≤ x) → (x ≤ 1000000000000000) → (i ≤ 200) → (Nat.gcd y x = Nat.gcd a b) → (x * y * 2 ^ i ≤ 10 ^ 30) → TT am_b126 (am_b126.getD 1 []) [(4, vL (((x : Nat) : Int))), (6, vL (((y : Nat) : Int))), (8, vI (((i : Nat) : Int)))] [] σ (fun r σ' => r = some (vL ((Nat.gcd a b : Nat) : Int)) ∧ σ' = σ) := by
    intro μ
    induction μ with
    | zero => intro i x y hμ; exact absurd hμ (Nat.not_lt_zero _)
    | succ μ ih1 =>
      intro i x y hμ hyx hx hi hg hp
      refine tt_ar rfl ?_
      refine tt_ar rfl ?_
      refine tt_icge (fun h1_2 => ?_) (fun h1_2 => ?_)
      · refine tt_ar rfl ?_
        refine tt_lret ?_
        have hy0 : y = 0 := by (rcases Nat.eq_zero_or_pos y with e | e; exact e; exact absurd (eu_end e hyx hp) (by omega))
        subst hy0
        exact ⟨by rw [← hg, Nat.gcd_zero_left], rfl⟩
      · refine tt_ar rfl ?_
        refine tt_ar rfl ?_
        refine tt_lcmp (fun h2 => ?_) (fun h3 => ?_) (fun h4 => ?_)
        ·
          exfalso; omega
        ·
          refine tt_ifeqT (by decide) ?_
          refine tt_ar rfl ?_
          refine tt_lret ?_
          have e : y = 0 := by omega
          subst e
          exact ⟨by rw [← hg, Nat.gcd_zero_left], rfl⟩
        ·
          refine tt_ifeqF (by decide) ?_
          have hyp : 0 < y := by omega
          have hie := eu_end hyp hyx hp
          refine tt_ar rfl ?_
          refine tt_ar rfl ?_
          refine tt_dL (g := (fun a b => Int.tmod a b)) (z := ((x % y : Nat) : Int)) rfl (by omega) rfl ?_
          refine tt_ar rfl ?_
          refine tt_ar rfl ?_
          refine tt_ar rfl ?_
          refine tt_ar rfl ?_
          refine tt_ar rfl ?_
          refine tt_iinc (y := ((i + 1 : Nat) : Int)) rfl (iinc_fit (by omega) (by omega) (by omega)) ?_
          refine tt_goto ?_
          refine tt_loc [(4, vL (((y : Nat) : Int))), (6, vL (((x % y : Nat) : Int))), (8, vI (((i + 1 : Nat) : Int)))] rfl rfl ⟨rfl, rfl, rfl, trivial⟩ ?_
          exact ih1 (i + 1) (y) (x % y) (by have := Nat.mod_lt x hyp; omega) (Nat.le_of_lt (Nat.mod_lt x hyp)) (by omega) (by omega) ((Nat.gcd_rec y x).symm.trans hg) (eu_step hyp hyx hp)
  refine tt_loc [(4, vL (((b : Nat) : Int))), (6, vL (((a : Nat) : Int))), (8, vI (((0 : Nat) : Int)))] rfl rfl ⟨rfl, rfl, lv_to rfl (by omega), trivial⟩ ?_
  exact lp1_1 _ (0) (b) (a) (Nat.lt_succ_self _) (by omega) (by omega) (by omega) rfl (by rw [Nat.pow_zero, Nat.mul_one]; exact Nat.le_trans (Nat.mul_le_mul hb (Nat.le_trans hab hb)) (by decide))

theorem c125 (σ : am_S) (a b : Nat) (hW : Wd σ) (hab : a ≤ b) (hb : b ≤ 1000000000000000) (hb1 : 0 < b) : CC 125 [vR 2, vL (((a : Nat) : Int)), vL (((b : Nat) : Int))] σ (fun r σ' => r = none ∧ Fr [2] σ σ' ∧ σ'.1 2 14 = ((a / Nat.gcd a b : Nat) : Int) ∧ σ'.1 2 15 = ((b / Nat.gcd a b : Nat) : Int) ∧ ∀ j, j ≠ 14 → j ≠ 15 → σ'.1 2 j = σ.1 2 j) := by
  show TT am_b125 (am_b125.getD 0 []) [(0, vR 2), (1, vL (((a : Nat) : Int))), (3, vL (((b : Nat) : Int)))] [] σ _
  have hgp : 0 < Nat.gcd a b := Nat.gcd_pos_of_pos_right a hb1
  refine tt_ar rfl ?_
  refine tt_ar rfl ?_
  refine tt_cs2 4 rfl (c126 σ a b hab hb) (kp ?_)
  refine tt_ar rfl ?_
  refine tt_ar rfl ?_
  refine tt_ar rfl ?_
  refine tt_lcmp (fun h1 => ?_) (fun h2 => ?_) (fun h3 => ?_)
  ·
    exfalso; omega
  ·
    exfalso; omega
  ·
    refine tt_ifleF (by decide) ?_
    refine tt_ar rfl ?_
    refine tt_ar rfl ?_
    refine tt_ar rfl ?_
    refine tt_dL (g := (fun a b => w64 (Int.tdiv a b))) (z := ((a / Nat.gcd a b : Nat) : Int)) rfl (by omega) (show w64 (((a / Nat.gcd a b : Nat)) : Int) = _ from w64_i (Int.le_trans (by decide) (Int.natCast_nonneg _)) (Int.le_trans (Int.ofNat_le.mpr (Nat.div_le_self a (Nat.gcd a b))) (by omega))) ?_
    refine tt_putL (wo_2 hW) rfl ?_
    refine tt_ar rfl ?_
    refine tt_ar rfl ?_
    refine tt_ar rfl ?_
    refine tt_dL (g := (fun a b => w64 (Int.tdiv a b))) (z := ((b / Nat.gcd a b : Nat) : Int)) rfl (by omega) (show w64 (((b / Nat.gcd a b : Nat)) : Int) = _ from w64_i (Int.le_trans (by decide) (Int.natCast_nonneg _)) (Int.le_trans (Int.ofNat_le.mpr (Nat.div_le_self b (Nat.gcd a b))) (by omega))) ?_
    refine tt_putL (wo_2 hW) rfl ?_
    refine tt_nop ?_
    refine tt_vret ?_
    exact ⟨rfl, (Fr.put (Fr.put Fr.rf (by decide)) (by decide)), (am_set_at).trans ((if_neg (by decide)).trans am_set_rd), am_set_rd, fun j h1 h2 => (am_set_at).trans ((if_neg h2).trans ((am_set_at).trans (if_neg h1)))⟩

