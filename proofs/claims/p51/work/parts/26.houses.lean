/-! THE TABLE'S LAWS -/
theorem nkT_bd : ∀ k, 1 ≤ nkT k ∧ nkT k ≤ 462
  | 0 => by decide
  | 1 => by decide
  | 2 => by decide
  | 3 => by decide
  | 4 => by decide
  | 5 => by decide
  | k + 6 => ⟨Nat.le_of_ble_eq_true rfl, Nat.le_refl _⟩
theorem en_at {k h : Nat} (hk : k ≤ 6) (hh : h < nkT k) : tb k h < 10 ^ k ∧ dsN 6 (tb k h) ≤ 5 ∧ lwN 6 (tb k h) = tb k h ∧ ∀ i, i < 6 → k ≤ i → dg (tb k h) i = 0 := by
  have := en_all k (by omega) h hh
  unfold enOK at this
  simp only [Bool.and_eq_true, decide_eq_true_eq, List.all_eq_true, List.mem_range, Bool.or_eq_true] at this
  obtain ⟨⟨⟨h1, h2⟩, h3⟩, h4⟩ := this
  exact ⟨h1, h2, h3, fun i hi hki => (h4 i hi).resolve_left (by omega)⟩
theorem nx_at {k h : Nat} (hk : k ≤ 6) (hh : h < nkT k) : (fwS k (tb k h) < k → h + 1 < nkT k ∧ tb k h < tb k (h + 1) ∧ tb k (h + 1) = tb k h - lwN (fwS k (tb k h)) (tb k h) + 10 ^ fwS k (tb k h) ∧ dsN 6 (tb k (h + 1)) = dsN 6 (tb k h) - dsN (fwS k (tb k h)) (tb k h) + 1 ∧ ∀ i, i < 6 → dg (tb k (h + 1)) i = if i < fwS k (tb k h) then 0 else if i = fwS k (tb k h) then dg (tb k h) i + 1 else dg (tb k h) i) ∧ (¬ fwS k (tb k h) < k → h + 1 = nkT k) := by
  have := nx_all k (by omega) h hh
  unfold nxOK at this
  by_cases hs : fwS k (tb k h) < k
  · simp only [hs, if_true, Bool.and_eq_true, decide_eq_true_eq, List.all_eq_true, List.mem_range] at this
    obtain ⟨⟨⟨⟨h1, h2⟩, h3⟩, h4⟩, h5⟩ := this
    exact ⟨fun _ => ⟨h1, h2, h3, h4, h5⟩, fun h => absurd hs h⟩
  · simp only [hs, if_false, decide_eq_true_eq] at this
    exact ⟨fun h => absurd h hs, fun _ => this⟩
theorem tb_step {k h : Nat} (hk : k ≤ 6) (hh : h + 1 < nkT k) : tb k h < tb k (h + 1) := by
  have := nx_at hk (show h < nkT k by omega)
  by_cases hs : fwS k (tb k h) < k
  · exact (this.1 hs).2.1
  · have := this.2 hs
    omega
theorem tb_mono {k : Nat} (hk : k ≤ 6) {a : Nat} : ∀ {d : Nat}, a + d + 1 < nkT k → tb k a < tb k (a + d + 1)
  | 0, h => tb_step hk h
  | d + 1, h => Nat.lt_trans (tb_mono hk (d := d) (by omega)) (tb_step hk h)
theorem tb_lt {k a b : Nat} (hk : k ≤ 6) (hb : b < nkT k) (hab : a < b) : tb k a < tb k b := by
  have := tb_mono hk (a := a) (d := b - a - 1) (by omega)
  rwa [show a + (b - a - 1) + 1 = b by omega] at this
theorem tb_inj {k a b : Nat} (hk : k ≤ 6) (ha : a < nkT k) (hb : b < nkT k) (h : tb k a = tb k b) : a = b := by
  rcases Nat.lt_trichotomy a b with e | e | e
  · have := tb_lt hk hb e
    omega
  · exact e
  · have := tb_lt hk ha e
    omega
theorem dg_lt (num s : Nat) : dg num s < 10 := Nat.mod_lt _ (by decide)
theorem dg_mod {num k s : Nat} (hs : s < k) : dg (num % 10 ^ k) s = dg num s := by
  unfold dg
  have e : 10 ^ k = 10 ^ s * 10 ^ (k - s) := by rw [← Nat.pow_add]; congr 1; omega
  rw [e, Nat.mod_mul_right_div_self]
  have e2 : 10 ^ (k - s) = 10 * 10 ^ (k - s - 1) := by rw [show k - s = (k - s - 1) + 1 by omega, Nat.pow_succ, Nat.mul_comm]; rfl
  rw [e2]
  exact Nat.mod_mul_right_mod _ _ _
theorem dsN_mod {num k : Nat} : ∀ {s : Nat}, s ≤ k → dsN s (num % 10 ^ k) = dsN s num
  | 0, _ => rfl
  | s + 1, h => by
    unfold dsN
    rw [dsN_mod (by omega), dg_mod (by omega)]
theorem dsN_mono {num s : Nat} : ∀ {d : Nat}, dsN s num ≤ dsN (s + d) num
  | 0 => Nat.le_refl _
  | d + 1 => Nat.le_trans (dsN_mono (d := d)) (Nat.le_add_right _ _)
theorem tbR_mem : ∀ {k r num : Nat}, num < 10 ^ k → dsN k num ≤ r → num ∈ tbR k r
  | 0, r, num, h, _ => by
    have : num = 0 := by
      have : num < 1 := h
      omega
    subst this
    exact List.mem_singleton.mpr rfl
  | k + 1, r, num, h, hr => by
    have hp : 0 < 10 ^ k := Nat.pow_pos (by decide)
    have hd : num / 10 ^ k < 10 := Nat.div_lt_of_lt_mul (by rw [Nat.pow_succ] at h; exact h)
    have hdg : dg num k = num / 10 ^ k := Nat.mod_eq_of_lt hd
    have hr : dsN k num + dg num k ≤ r := hr
    rw [hdg] at hr
    unfold tbR
    rw [List.mem_flatMap]
    refine ⟨num / 10 ^ k, List.mem_range.mpr (by omega), ?_⟩
    rw [List.mem_map]
    exact ⟨num % 10 ^ k, tbR_mem (Nat.mod_lt _ hp) (by rw [dsN_mod (Nat.le_refl _)]; omega), by rw [Nat.mul_comm]; exact Nat.div_add_mod num (10 ^ k)⟩
theorem tb_has {k num : Nat} (hk : k ≤ 6) (h : num < 10 ^ k) (hs : dsN 6 num ≤ 5) : ∃ h, h < nkT k ∧ tb k h = num := by
  have hm : num ∈ tbL k := tbR_mem h (Nat.le_trans (by have := dsN_mono (num := num) (s := k) (d := 6 - k); rwa [show k + (6 - k) = 6 by omega] at this) hs)
  obtain ⟨i, hi, he⟩ := List.getElem_of_mem hm
  refine ⟨i, by rw [← tb_len k (by omega)]; exact hi, ?_⟩
  unfold tb
  rw [List.getD_eq_getElem?_getD, List.getElem?_eq_getElem hi]
  exact he
/-- the place of a number; -1: it has none -/
def ix (k : Nat) (w : Int) : Int := if fstN (fun h => decide ((tb k h : Int) = w)) (nkT k) < nkT k then (fstN (fun h => decide ((tb k h : Int) = w)) (nkT k) : Int) else -1
theorem ix_of {k h : Nat} {w : Int} (hk : k ≤ 6) (hh : h < nkT k) (e : (tb k h : Int) = w) : ix k w = (h : Int) := by
  have : fstN (fun h => decide ((tb k h : Int) = w)) (nkT k) = h := fstN_eq (decide_eq_true e) (fun t ht => decide_eq_false (fun e2 => by
    have := tb_lt hk hh ht
    omega)) hh
  unfold ix
  rw [this, if_pos hh]
theorem ix_no {k : Nat} {w : Int} (h : ∀ t, t < nkT k → ¬ (tb k t : Int) = w) : ix k w = -1 := by
  unfold ix
  rw [fstN_none (fun t ht => decide_eq_false (h t ht)), if_neg (Nat.lt_irrefl _)]
theorem ix_cases (k : Nat) (hk : k ≤ 6) (w : Int) : (∃ h, h < nkT k ∧ (tb k h : Int) = w ∧ ix k w = (h : Int)) ∨ ((∀ t, t < nkT k → ¬ (tb k t : Int) = w) ∧ ix k w = -1) := by
  by_cases e : ∃ h, h < nkT k ∧ (tb k h : Int) = w
  · obtain ⟨h, h1, h2⟩ := e
    exact Or.inl ⟨h, h1, h2, ix_of hk h1 h2⟩
  · have : ∀ t, t < nkT k → ¬ (tb k t : Int) = w := fun t ht e2 => e ⟨t, ht, e2⟩
    exact Or.inr ⟨this, ix_no this⟩
theorem ix_bd {k : Nat} (hk : k ≤ 6) (w : Int) : -1 ≤ ix k w ∧ ix k w < (nkT k : Int) := by
  have := (nkT_bd k).1
  rcases ix_cases k hk w with ⟨h, h1, -, h3⟩ | ⟨-, h3⟩ <;> omega
theorem tdiv2 {a : Int} {m : Nat} (h : a = (m : Int)) (hm : m < 100000) : w32 (Int.tdiv a 2) = ((m / 2 : Nat) : Int) := by
  subst h
  rw [show Int.tdiv (m : Int) 2 = ((m / 2 : Nat) : Int) from rfl]
  exact w32_i (by omega) (by omega)
theorem c13 (σ : am_S) (k : Nat) (hW : Wd σ) (hk : k ≤ 6) (hz : σ.1 18 1 = (nkT k : Int)) (hnum : ∀ h, h < nkT k → σ.1 19 h = (tb k h : Int)) (w : Int) : CC 13 [vR 18, vI (w)] σ (fun r σ' => r = some (vI (ix k w)) ∧ σ' = σ) := by
  show TT am_b13 (am_b13.getD 0 []) [(0, vR 18), (1, vI (w))] [] σ _
  have hnb := nkT_bd k
  refine tt_ar rfl ?_
  refine tt_ar rfl ?_
  refine tt_ar rfl ?_
  refine tt_getI (x := ((nkT k : Nat) : Int)) (wo_18 hW) rfl hz ?_
  refine tt_ar rfl ?_
  refine tt_isub (by omega) (by omega) ?_
  refine tt_ar rfl ?_
  refine tt_nop ?_
  have lp1_1 : ∀ (μ : Nat) (lo : Nat) (hn : Nat), hn + 1 - lo < μ → (lo ≤ nkT k) → (hn ≤ nkT k) → (∀ t, t < lo → (tb k t : Int) < w) → (∀ t, t < nkT k → hn ≤ t → w < (tb k t : Int)) → TT am_b13 (am_b13.getD 1 []) [(0, vR 18), (1, vI (w)), (2, vI (((lo : Nat) : Int))), (3, vI ((((hn : Nat) : Int) - 1)))] [] σ (fun r σ' => r = some (vI (ix k w)) ∧ σ' = σ) := by
    intro μ
    induction μ with
    | zero => intro lo hn hμ; exact absurd hμ (Nat.not_lt_zero _)
    | succ μ ih1 =>
      intro lo hn hμ hlo hhn hA hB
      refine tt_ar rfl ?_
      refine tt_ar rfl ?_
      refine tt_icgt (fun h1_2 => ?_) (fun h1_2 => ?_)
      · refine tt_ar rfl ?_
        refine tt_iret ?_
        exact ⟨rv (ix_no (fun t ht e => by by_cases e1 : t < lo; (have := hA t e1; omega); (have := hB t ht (by omega); omega))).symm, rfl⟩
      · refine tt_ar rfl ?_
        refine tt_ar rfl ?_
        refine tt_iadd (by omega) (by omega) ?_
        refine tt_ar rfl ?_
        refine tt_dI (g := (fun a b => w32 (Int.tdiv a b))) (z := (((lo + hn - 1) / 2 : Nat) : Int)) rfl (by omega) (tdiv2 (by omega) (by omega)) ?_
        refine tt_ar rfl ?_
        refine tt_ar rfl ?_
        refine tt_getR (wo_18 hW) rfl (wr_18_2 hW) ?_
        refine tt_ar rfl ?_
        refine tt_iald (((lo + hn - 1) / 2)) (x := ((tb k (((lo + hn - 1) / 2)) : Nat) : Int)) (wa_19 hW) (by omega) (by omega) (hnum (((lo + hn - 1) / 2)) (by omega)) ?_
        refine tt_ar rfl ?_
        refine tt_icne (fun h1_14 => ?_) (fun h1_14 => ?_)
        · refine tt_ar rfl ?_
          refine tt_getR (wo_18 hW) rfl (wr_18_2 hW) ?_
          refine tt_ar rfl ?_
          refine tt_iald (((lo + hn - 1) / 2)) (x := ((tb k (((lo + hn - 1) / 2)) : Nat) : Int)) (wa_19 hW) (by omega) (by omega) (hnum (((lo + hn - 1) / 2)) (by omega)) ?_
          refine tt_ar rfl ?_
          refine tt_icge (fun h2_5 => ?_) (fun h2_5 => ?_)
          · refine tt_ar rfl ?_
            refine tt_ar rfl ?_
            refine tt_isub (by omega) (by omega) ?_
            refine tt_ar rfl ?_
            refine tt_nop ?_
            refine tt_goto ?_
            refine tt_loc [(0, vR 18), (1, vI (w)), (2, vI (((lo : Nat) : Int))), (3, vI (((((lo + hn - 1) / 2 : Nat) : Int) - 1)))] rfl rfl ⟨rfl, rfl, rfl, rfl, trivial⟩ ?_
            exact ih1 (lo) ((lo + hn - 1) / 2) (by omega) (by omega) (by omega) (by first | exact hA | exact fun t ht => by have := tb_lt hk (a := t) (b := (lo + hn - 1) / 2) (by omega); have e : t = (lo + hn - 1) / 2 ∨ t < (lo + hn - 1) / 2 := (by omega); (rcases e with e | e; (subst e; omega); (have := this e; omega))) (by first | exact hB | exact fun t h1 h2 => by have e : t = (lo + hn - 1) / 2 ∨ (lo + hn - 1) / 2 < t := (by omega); (rcases e with e | e; (subst e; omega); (have := tb_lt hk h1 e; omega)))
          · refine tt_ar rfl ?_
            refine tt_ar rfl ?_
            refine tt_iadd (by omega) (by omega) ?_
            refine tt_ar rfl ?_
            refine tt_goto ?_
            refine tt_goto ?_
            refine tt_loc [(0, vR 18), (1, vI (w)), (2, vI ((((lo + hn - 1) / 2 + 1 : Nat) : Int))), (3, vI ((((hn : Nat) : Int) - 1)))] rfl rfl ⟨rfl, rfl, lv_to rfl (by omega), rfl, trivial⟩ ?_
            exact ih1 ((lo + hn - 1) / 2 + 1) (hn) (by omega) (by omega) (by omega) (by first | exact hA | exact fun t ht => by have := tb_lt hk (a := t) (b := (lo + hn - 1) / 2) (by omega); have e : t = (lo + hn - 1) / 2 ∨ t < (lo + hn - 1) / 2 := (by omega); (rcases e with e | e; (subst e; omega); (have := this e; omega))) (by first | exact hB | exact fun t h1 h2 => by have e : t = (lo + hn - 1) / 2 ∨ (lo + hn - 1) / 2 < t := (by omega); (rcases e with e | e; (subst e; omega); (have := tb_lt hk h1 e; omega)))
        · refine tt_ar rfl ?_
          refine tt_iret ?_
          exact ⟨rv (ix_of hk (by omega) (by omega)).symm, rfl⟩
  refine tt_loc [(0, vR 18), (1, vI (w)), (2, vI (((0 : Nat) : Int))), (3, vI ((((nkT k : Nat) : Int) - 1)))] rfl rfl ⟨rfl, rfl, lv_to rfl (by omega), rfl, trivial⟩ ?_
  exact lp1_1 _ (0) (nkT k) (Nat.lt_succ_self _) (by omega) (by omega) (fun t ht => absurd ht (Nat.not_lt_zero t)) (fun t h1 h2 => absurd h1 (by omega))

