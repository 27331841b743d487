/-! THE CLASS'S HOUSES -/
theorem lwN_mono {num s : Nat} : ∀ {d : Nat}, lwN s num ≤ lwN (s + d) num
  | 0 => Nat.le_refl _
  | d + 1 => Nat.le_trans (lwN_mono (d := d)) (Nat.le_add_right _ _)
theorem lwN_le {k h s : Nat} (hk : k ≤ 6) (hh : h < nkT k) (hs : s ≤ 6) : lwN s (tb k h) ≤ tb k h := by
  have h1 := (en_at hk hh).2.2.1
  have h2 := lwN_mono (num := tb k h) (s := s) (d := 6 - s)
  rw [show s + (6 - s) = 6 by omega, h1] at h2
  exact h2
theorem dsN_le {num s : Nat} (hs : s ≤ 6) : dsN s num ≤ dsN 6 num := by
  have := dsN_mono (num := num) (s := s) (d := 6 - s)
  rwa [show s + (6 - s) = 6 by omega] at this
theorem tb_small {k h : Nat} (hk : k ≤ 6) (hh : h < nkT k) : tb k h < 1000000 :=
  Nat.lt_of_lt_of_le (en_at hk hh).1 (Nat.pow_le_pow_right (by decide) hk)
/-- the first n names stand -/
def HN (k n : Nat) (σ : am_S) : Prop := ∀ h, h < n → σ.1 19 h = (tb k h : Int) ∧ σ.1 20 h = (dsN 6 (tb k h) : Int) ∧ ∀ s, s < 6 → σ.1 21 (h * 6 + s) = (dg (tb k h) s : Int)
/-- the worths -/
def WR (σ : am_S) : Prop := ∀ j, j < 6 → σ.1 0 j = ((10 ^ j : Nat) : Int)
theorem c12 (σ : am_S) (k last : Nat) (hW : Wd σ) (hk : k ≤ 6) (hk5 : σ.1 5 0 = (k : Int)) (hw : WR σ) (hN : HN k (last + 1) σ) (hlast : last < nkT k) (h462 : last + 1 < 462) : CC 12 [vR 18, vI (((last : Nat) : Int)), vI (((last + 1 : Nat) : Int))] σ (fun r σ' => (last + 1 < nkT k ∧ r = some (vI 1) ∧ Fr [19, 20, 21] σ σ' ∧ HN k (last + 2) σ') ∨ (last + 1 = nkT k ∧ σ' = σ ∧ r = some (vI 0))) := by
  show TT am_b12 (am_b12.getD 0 []) [(0, vR 18), (1, vI (((last : Nat) : Int))), (2, vI (((last + 1 : Nat) : Int)))] [] σ _
  have hsm := tb_small hk hlast
  have hen := en_at hk hlast
  have hds := hen.2.1
  refine tt_ar rfl ?_
  refine tt_getR (wo_18 hW) rfl (wr_18_3 hW) ?_
  refine tt_ar rfl ?_
  refine tt_iald (last) (x := ((dsN 6 (tb k last) : Nat) : Int)) (wa_20 hW) rfl (by omega) (hN last (by omega)).2.1 ?_
  refine tt_ar rfl ?_
  refine tt_ar rfl ?_
  refine tt_getR (wo_18 hW) rfl (wr_18_2 hW) ?_
  refine tt_ar rfl ?_
  refine tt_iald (last) (x := ((tb k last : Nat) : Int)) (wa_19 hW) rfl (by omega) (hN last (by omega)).1 ?_
  refine tt_ar rfl ?_
  refine tt_ar rfl ?_
  refine tt_ar rfl ?_
  refine tt_nop ?_
  have lp1_1 : ∀ (μ : Nat) (s : Nat), k - s < μ → (s ≤ k) → (∀ t, t < s → ¬ dsN 6 (tb k last) - dsN t (tb k last) < 5) → TT am_b12 (am_b12.getD 1 []) [(0, vR 18), (1, vI (((last : Nat) : Int))), (2, vI (((last + 1 : Nat) : Int))), (3, vI ((((dsN 6 (tb k last) : Nat) : Int) - ((dsN s (tb k last) : Nat) : Int)))), (4, vI ((((tb k last : Nat) : Int) - ((lwN s (tb k last) : Nat) : Int)))), (5, vI (((s : Nat) : Int)))] [] σ (fun r σ' => (last + 1 < nkT k ∧ r = some (vI 1) ∧ Fr [19, 20, 21] σ σ' ∧ HN k (last + 2) σ') ∨ (last + 1 = nkT k ∧ σ' = σ ∧ r = some (vI 0))) := by
    intro μ
    induction μ with
    | zero => intro s hμ; exact absurd hμ (Nat.not_lt_zero _)
    | succ μ ih1 =>
      intro s hμ hs hC
      refine tt_ar rfl ?_
      refine tt_ar rfl ?_
      refine tt_getR (wo_18 hW) rfl (wr_18_0 hW) ?_
      refine tt_getI (x := ((k : Nat) : Int)) (wo_5 hW) rfl hk5 ?_
      refine tt_icge (fun h1_4 => ?_) (fun h1_4 => ?_)
      · refine tt_ar rfl ?_
        refine tt_zret (by omega) ?_
        have hf : ¬ fwS k (tb k last) < k := by
          have : fwS k (tb k last) = k := fstN_none (fun t ht => decide_eq_false (hC t (by omega)))
          omega
        exact Or.inr ⟨(nx_at hk hlast).2 hf, rfl, rfl⟩
      · have hds1 := dsN_le (num := tb k last) (s := s + 1) (by omega)
        have hds0 : dsN (s + 1) (tb k last) = dsN s (tb k last) + dg (tb k last) s := rfl
        have hlw1 := lwN_le (s := s + 1) hk hlast (by omega)
        have hlw0 : lwN (s + 1) (tb k last) = lwN s (tb k last) + dg (tb k last) s * 10 ^ s := rfl
        have hmu : ((dg (tb k last) s : Nat) : Int) * ((10 ^ s : Nat) : Int) = ((dg (tb k last) s * 10 ^ s : Nat) : Int) := (Int.natCast_mul _ _).symm
        have hps : 10 ^ s ≤ 100000 := Nat.pow_le_pow_right (by decide) (show s ≤ 5 by omega)
        have hps0 : (0 : Int) ≤ ((10 ^ s : Nat) : Int) := Int.natCast_nonneg _
        have hdl := dg_lt (tb k last) s
        refine tt_ar rfl ?_
        refine tt_ar rfl ?_
        refine tt_icge (fun h1_7 => ?_) (fun h1_7 => ?_)
        · refine tt_ar rfl ?_
          refine tt_ar rfl ?_
          refine tt_getR (wo_18 hW) rfl (wr_18_4 hW) ?_
          refine tt_ar rfl ?_
          refine tt_ar rfl ?_
          refine tt_imul (by omega) (by omega) ?_
          refine tt_ar rfl ?_
          refine tt_iadd (by omega) (by omega) ?_
          refine tt_iald (((last * 6) + s)) (x := ((dg (tb k last) s : Nat) : Int)) (wa_21 hW) (by omega) (by omega) ((hN last (by omega)).2.2 s (by omega)) ?_
          refine tt_isub (by omega) (by omega) ?_
          refine tt_ar rfl ?_
          refine tt_ar rfl ?_
          refine tt_ar rfl ?_
          refine tt_getR (wo_18 hW) rfl (wr_18_4 hW) ?_
          refine tt_ar rfl ?_
          refine tt_ar rfl ?_
          refine tt_imul (by omega) (by omega) ?_
          refine tt_ar rfl ?_
          refine tt_iadd (by omega) (by omega) ?_
          refine tt_iald (((last * 6) + s)) (x := ((dg (tb k last) s : Nat) : Int)) (wa_21 hW) (by omega) (by omega) ((hN last (by omega)).2.2 s (by omega)) ?_
          refine tt_gets ?_
          refine tt_ar rfl ?_
          refine tt_iald (s) (x := ((10 ^ s : Nat) : Int)) (wa_0 hW) rfl (by omega) (hw s (by omega)) ?_
          refine tt_imul (by omega) (by omega) ?_
          refine tt_isub (by omega) (by omega) ?_
          refine tt_ar rfl ?_
          refine tt_iinc (y := ((s + 1 : Nat) : Int)) rfl (iinc_fit (by omega) (by omega) (by omega)) ?_
          refine tt_goto ?_
          refine tt_loc [(0, vR 18), (1, vI (((last : Nat) : Int))), (2, vI (((last + 1 : Nat) : Int))), (3, vI ((((dsN 6 (tb k last) : Nat) : Int) - ((dsN (s + 1) (tb k last) : Nat) : Int)))), (4, vI ((((tb k last : Nat) : Int) - ((lwN (s + 1) (tb k last) : Nat) : Int)))), (5, vI (((s + 1 : Nat) : Int)))] rfl rfl ⟨rfl, rfl, rfl, lv_to rfl (by rw [show dsN (s + 1) (tb k last) = dsN s (tb k last) + dg (tb k last) s from rfl]; omega), lv_to rfl (by rw [show lwN (s + 1) (tb k last) = lwN s (tb k last) + dg (tb k last) s * 10 ^ s from rfl]; omega), rfl, trivial⟩ ?_
          exact ih1 (s + 1) (by omega) (by omega) (fun t ht => by by_cases e : t = s; (subst e; omega); exact hC t (by omega))
        · refine tt_ar rfl ?_
          refine tt_getR (wo_18 hW) rfl (wr_18_4 hW) ?_
          refine tt_ar rfl ?_
          refine tt_ar rfl ?_
          refine tt_imul (by omega) (by omega) ?_
          refine tt_ar rfl ?_
          refine tt_getR (wo_18 hW) rfl (wr_18_4 hW) ?_
          refine tt_ar rfl ?_
          refine tt_ar rfl ?_
          refine tt_imul (by omega) (by omega) ?_
          refine tt_ar rfl ?_
          refine tt_acopy (sp := (last * 6)) (dp := ((last + 1) * 6)) (n := 6) (wa_21 hW) (wa_21 hW) (by omega) (by omega) rfl (by omega) (by omega) (by omega) (by omega) rfl ?_
          obtain ⟨σc2, hFc3, hCc4, hg5⟩ := cpy_ex σ 21 ((last * 6)) 21 (((last + 1) * 6)) (6)
          rw [hg5]
          have hW6 := Fr.wd hFc3 hW
          refine tt_ar rfl ?_
          refine tt_getR (wo_18 hW6) rfl (wr_18_4 hW6) ?_
          refine tt_ar rfl ?_
          refine tt_ar rfl ?_
          refine tt_imul (by omega) (by omega) ?_
          refine tt_ar rfl ?_
          refine tt_ar rfl ?_
          refine tt_imul (by omega) (by omega) ?_
          refine tt_ar rfl ?_
          refine tt_iadd (by omega) (by omega) ?_
          refine tt_ar rfl ?_
          refine tt_cs4 4 rfl (c10 σc2 21 2772 ((last + 1) * 6) ((last + 1) * 6 + s) 0 (wa_21 hW6) (by decide) (by rfl) (by omega) (by omega)) ?_
          intro r0 σf hq0
          obtain ⟨rfl, hFf, hCf⟩ := hq0
          have hW7 := Fr.wd hFf hW6
          refine tt_ar rfl ?_
          refine tt_getR (wo_18 hW7) rfl (wr_18_4 hW7) ?_
          refine tt_ar rfl ?_
          refine tt_ar rfl ?_
          refine tt_imul (by omega) (by omega) ?_
          refine tt_ar rfl ?_
          refine tt_iadd (by omega) (by omega) ?_
          refine tt_ar rfl ?_
          refine tt_iald ((((last + 1) * 6) + s)) (x := ((dg (tb k last) s : Nat) : Int)) (wa_21 hW7) (by omega) (by omega) ((hCf ((last + 1) * 6 + s)).trans ((if_neg (by omega)).trans ((hCc4 ((last + 1) * 6 + s)).trans ((if_pos (by omega)).trans (by rw [show last * 6 + ((last + 1) * 6 + s - (last + 1) * 6) = last * 6 + s by omega]; exact (hN last (by omega)).2.2 s (by omega)))))) ?_
          refine tt_ar rfl ?_
          refine tt_iadd (by omega) (by omega) ?_
          refine tt_iast ((((last + 1) * 6) + s)) (wa_21 hW7) (by omega) (by omega) (by omega) ?_
          refine tt_ar rfl ?_
          refine tt_getR (wo_18 hW7) rfl (wr_18_3 hW7) ?_
          refine tt_ar rfl ?_
          refine tt_ar rfl ?_
          refine tt_ar rfl ?_
          refine tt_iadd (by omega) (by omega) ?_
          refine tt_iast (last + 1) (wa_20 hW7) (by omega) rfl (by omega) ?_
          refine tt_ar rfl ?_
          refine tt_getR (wo_18 hW7) rfl (wr_18_2 hW7) ?_
          refine tt_ar rfl ?_
          refine tt_ar rfl ?_
          refine tt_gets ?_
          refine tt_ar rfl ?_
          refine tt_iald (s) (x := ((10 ^ s : Nat) : Int)) (wa_0 hW7) rfl (by omega) (((hFf.2 0 (by decide) (s)).trans (hFc3.2 0 (by decide) (s))).trans (hw s (by omega))) ?_
          refine tt_iadd (by omega) (by omega) ?_
          refine tt_iast (last + 1) (wa_19 hW7) (by omega) rfl (by omega) ?_
          refine tt_ar rfl ?_
          refine tt_zret (by omega) ?_
          have hf : fwS k (tb k last) = s := fstN_eq (decide_eq_true (by omega)) (fun t ht => decide_eq_false (hC t ht)) (by omega)
          have hn := (nx_at hk hlast).1 (by rw [hf]; omega)
          rw [hf] at hn
          obtain ⟨n1, n2, n3, n4, n5⟩ := hn
          refine Or.inl ⟨n1, rfl, (Fr.put (Fr.put (Fr.put (Fr.tr (Fr.tr Fr.rf hFc3 (by decide)) hFf (by decide)) (by decide)) (by decide)) (by decide)), fun h hh => ?_⟩
          have q19 : ∀ j, (am_set (am_set (am_set σf 21 ((((last + 1) * 6) + s)) ((((dg (tb k last) s : Nat) : Int) + 1))) 20 (last + 1) (((((dsN 6 (tb k last) : Nat) : Int) - ((dsN s (tb k last) : Nat) : Int)) + 1))) 19 (last + 1) (((((tb k last : Nat) : Int) - ((lwN s (tb k last) : Nat) : Int)) + ((10 ^ s : Nat) : Int)))).1 19 j = if j = last + 1 then ((((tb k last : Nat) : Int) - ((lwN s (tb k last) : Nat) : Int)) + ((10 ^ s : Nat) : Int)) else σ.1 19 j := fun j => by
            show (am_set (am_set (am_set σf 21 ((((last + 1) * 6) + s)) ((((dg (tb k last) s : Nat) : Int) + 1))) 20 (last + 1) (((((dsN 6 (tb k last) : Nat) : Int) - ((dsN s (tb k last) : Nat) : Int)) + 1))) 19 (last + 1) _).1 19 j = _
            rw [am_set_at]
            congr 1
            exact ((hFf.2 19 (by decide) (j)).trans (hFc3.2 19 (by decide) (j)))
          have q20 : ∀ j, (am_set (am_set (am_set σf 21 ((((last + 1) * 6) + s)) ((((dg (tb k last) s : Nat) : Int) + 1))) 20 (last + 1) (((((dsN 6 (tb k last) : Nat) : Int) - ((dsN s (tb k last) : Nat) : Int)) + 1))) 19 (last + 1) (((((tb k last : Nat) : Int) - ((lwN s (tb k last) : Nat) : Int)) + ((10 ^ s : Nat) : Int)))).1 20 j = if j = last + 1 then ((((dsN 6 (tb k last) : Nat) : Int) - ((dsN s (tb k last) : Nat) : Int)) + 1) else σ.1 20 j := fun j => by
            show (am_set (am_set σf 21 ((((last + 1) * 6) + s)) ((((dg (tb k last) s : Nat) : Int) + 1))) 20 (last + 1) _).1 20 j = _
            rw [am_set_at]
            congr 1
            exact ((hFf.2 20 (by decide) (j)).trans (hFc3.2 20 (by decide) (j)))
          have q21 : ∀ j, (am_set (am_set (am_set σf 21 ((((last + 1) * 6) + s)) ((((dg (tb k last) s : Nat) : Int) + 1))) 20 (last + 1) (((((dsN 6 (tb k last) : Nat) : Int) - ((dsN s (tb k last) : Nat) : Int)) + 1))) 19 (last + 1) (((((tb k last : Nat) : Int) - ((lwN s (tb k last) : Nat) : Int)) + ((10 ^ s : Nat) : Int)))).1 21 j = if j = (last + 1) * 6 + s then (((dg (tb k last) s : Nat) : Int) + 1) else if (last + 1) * 6 ≤ j ∧ j < (last + 1) * 6 + s then 0 else if (last + 1) * 6 ≤ j ∧ j < (last + 1) * 6 + 6 then σ.1 21 (last * 6 + (j - (last + 1) * 6)) else σ.1 21 j := fun j => by
            show (am_set σf 21 ((last + 1) * 6 + s) _).1 21 j = _
            rw [am_set_at, hCf j]
            rw [show σc2.1 21 j = _ from hCc4 j]
          have ha := tb_small hk n1
          have ho := hN h
          by_cases e : h = last + 1
          · subst e
            refine ⟨?_, ?_, fun i hi => ?_⟩
            · rw [q19, if_pos rfl, n3]; omega
            · rw [q20, if_pos rfl, n4]; omega
            · rw [q21, n5 i hi]
              by_cases e1 : i = s
              · subst e1
                rw [if_pos rfl, if_neg (Nat.lt_irrefl _), if_pos rfl]; omega
              · rw [if_neg (by omega)]
                by_cases e2 : i < s
                · rw [if_pos (by omega), if_pos e2]; rfl
                · rw [if_neg (by omega), if_pos (by omega), if_neg e2, if_neg e1, show last * 6 + ((last + 1) * 6 + i - (last + 1) * 6) = last * 6 + i by omega]
                  exact (hN last (by omega)).2.2 i hi
          · obtain ⟨o1, o2, o3⟩ := ho (by omega)
            refine ⟨by rw [q19, if_neg e]; exact o1, by rw [q20, if_neg e]; exact o2, fun i hi => ?_⟩
            rw [q21, if_neg (by omega), if_neg (by omega), if_neg (by omega)]
            exact o3 i hi
  refine tt_loc [(0, vR 18), (1, vI (((last : Nat) : Int))), (2, vI (((last + 1 : Nat) : Int))), (3, vI ((((dsN 6 (tb k last) : Nat) : Int) - ((dsN 0 (tb k last) : Nat) : Int)))), (4, vI ((((tb k last : Nat) : Int) - ((lwN 0 (tb k last) : Nat) : Int)))), (5, vI (((0 : Nat) : Int)))] rfl rfl ⟨rfl, rfl, rfl, lv_to rfl (by show _ = _ - ((0 : Nat) : Int); omega), lv_to rfl (by show _ = _ - ((0 : Nat) : Int); omega), lv_to rfl (by omega), trivial⟩ ?_
  exact lp1_1 _ (0) (Nat.lt_succ_self _) (by omega) (fun t ht => absurd ht (Nat.not_lt_zero t))

theorem hn_0 {k : Nat} {σ : am_S} (hk : k ≤ 6) (h19 : σ.1 19 0 = 0) (h20 : σ.1 20 0 = 0) (h21 : ∀ j, j < 6 → σ.1 21 j = 0) : HN k 1 σ := by
  intro h hh
  have e : h = 0 := by omega
  subst e
  have hd : ∀ s, s < 6 → dg (tb k 0) s = 0 := fun s hs => by rw [tb_0 k (by omega)]; unfold dg; rw [Nat.zero_div]
  refine ⟨?_, ?_, fun s hs => ?_⟩
  · rw [h19, tb_0 k (by omega)]; rfl
  · rw [h20, tb_0 k (by omega)]; rfl
  · rw [hd s hs, show 0 * 6 + s = s by omega]; exact h21 s hs
theorem HN.fr {L : List Nat} {k n : Nat} {σ σ' : am_S} (h : Fr L σ σ') (hw : ∀ a ∈ L, a < 19 ∨ 21 < a) (R : HN k n σ) : HN k n σ' := by
  have q : ∀ a, 19 ≤ a → a ≤ 21 → ∀ j, σ'.1 a j = σ.1 a j := fun a h1 h2 j => h.2 a (fun e => by have := hw a e; omega) j
  intro i hi
  obtain ⟨r1, r2, r3⟩ := R i hi
  exact ⟨by rw [q 19 (by omega) (by omega)]; exact r1, by rw [q 20 (by omega) (by omega)]; exact r2, fun s hs => by rw [q 21 (by omega) (by omega)]; exact r3 s hs⟩
theorem c9 (σ : am_S) (k : Nat) (hW : Wd σ) (hk : k ≤ 6) (hk5 : σ.1 5 0 = (k : Int)) (hw : WR σ) : CC 9 [vR 18] σ (fun r σ' => r = none ∧ Fr [18, 19, 20, 21] σ σ' ∧ σ'.1 18 1 = (nkT k : Int) ∧ HN k (nkT k) σ') := by
  show TT am_b9 (am_b9.getD 0 []) [(0, vR 18)] [] σ _
  have hnb := nkT_bd k
  refine tt_ar rfl ?_
  refine tt_ar rfl ?_
  refine tt_putI (wo_18 hW) rfl ?_
  refine tt_ar rfl ?_
  refine tt_getR (wo_18 hW) rfl (wr_18_2 hW) ?_
  refine tt_ar rfl ?_
  refine tt_ar rfl ?_
  refine tt_iast (0) (wa_19 hW) (by omega) rfl (by omega) ?_
  refine tt_ar rfl ?_
  refine tt_getR (wo_18 hW) rfl (wr_18_3 hW) ?_
  refine tt_ar rfl ?_
  refine tt_ar rfl ?_
  refine tt_iast (0) (wa_20 hW) (by omega) rfl (by omega) ?_
  refine tt_ar rfl ?_
  refine tt_getR (wo_18 hW) rfl (wr_18_4 hW) ?_
  refine tt_ar rfl ?_
  refine tt_ar rfl ?_
  refine tt_ar rfl ?_
  refine tt_cs4 4 rfl (c10 (am_set (am_set (am_set σ 18 (1) (1)) 19 (0) (0)) 20 (0) (0)) 21 2772 0 6 0 (wa_21 hW) (by decide) (by rfl) (by omega) (by omega)) ?_
  intro r0 σf hq0
  obtain ⟨rfl, hFf, hCf⟩ := hq0
  have hW1 := Fr.wd hFf hW
  refine tt_nop ?_
  have lp1_2 : ∀ (μ : Nat) (n : Nat) (σ1 : am_S), 463 - n < μ → Fr [18, 19, 20, 21] σ σ1 → (1 ≤ n) → (n ≤ nkT k) → (σ1.1 18 1 = ((n : Nat) : Int)) → (HN k n σ1) → TT am_b9 (am_b9.getD 1 []) [(0, vR 18)] [] σ1 (fun r σ' => r = none ∧ Fr [18, 19, 20, 21] σ σ' ∧ σ'.1 18 1 = (nkT k : Int) ∧ HN k (nkT k) σ') := by
    intro μ
    induction μ with
    | zero => intro n σ1 hμ; exact absurd hμ (Nat.not_lt_zero _)
    | succ μ ih1 =>
      intro n σ1 hμ hF_σ1 hn1 hn hz hN
      have hW_σ1 := Fr.wd hF_σ1 hW
      refine tt_ar rfl ?_
      refine tt_getI (x := ((n : Nat) : Int)) (wo_18 hW_σ1) rfl hz ?_
      refine tt_ar rfl ?_
      refine tt_icge (fun h1_3 => ?_) (fun h1_3 => ?_)
      · refine tt_vret ?_
        have e1 : nkT k = n := by omega
        rw [e1]
        exact ⟨rfl, hF_σ1, hz, hN⟩
      · refine tt_ar rfl ?_
        refine tt_ar rfl ?_
        refine tt_getI (x := ((n : Nat) : Int)) (wo_18 hW_σ1) rfl hz ?_
        refine tt_ar rfl ?_
        refine tt_isub (by omega) (by omega) ?_
        refine tt_ar rfl ?_
        refine tt_getI (x := ((n : Nat) : Int)) (wo_18 hW_σ1) rfl hz ?_
        have hc12 := ((show CC 12 [vR 18, vI (((n - 1 : Nat)) : Int), vI (((n - 1 + 1 : Nat)) : Int)] σ1 _ from c12 σ1 k (n - 1) hW_σ1 hk ((hF_σ1.2 5 (by decide) 0).trans hk5) (fun j hj => (hF_σ1.2 0 (by decide) j).trans (hw j hj)) (by rw [show n - 1 + 1 = n by omega]; exact hN) (by omega) (by omega)))
        rw [show ((n - 1 : Nat) : Int) = ((n : Nat) : Int) - 1 by omega, show ((n - 1 + 1 : Nat) : Int) = ((n : Nat) : Int) by omega] at hc12
        refine tt_cv3 3 rfl (wo_18 hW_σ1) hc12 (kor (kand fun hlt => ?_) (kand fun heq => ks ?_))
        · intro r0 σ2 hq0
          obtain ⟨rfl, hF2, hN2⟩ := hq0
          have hW2 := Fr.wd hF2 hW_σ1
          refine tt_ifeqF (by decide) ?_
          refine tt_ar rfl ?_
          refine tt_ar rfl ?_
          refine tt_getI (x := ((n : Nat) : Int)) (wo_18 hW2) rfl ((hF2.2 18 (by decide) (1)).trans hz) ?_
          refine tt_ar rfl ?_
          refine tt_iadd (by omega) (by omega) ?_
          refine tt_putI (wo_18 hW2) rfl ?_
          refine tt_goto ?_
          refine tt_loc [(0, vR 18)] rfl rfl ⟨rfl, trivial⟩ ?_
          exact ih1 (n + 1) _ (by omega) (Fr.put (Fr.tr (Fr.tr Fr.rf hF_σ1 (by decide)) hF2 (by decide)) (by decide)) (by omega) (by omega) ((@am_set_rd σ2 18 1 (((n : Nat) : Int) + 1)).trans (by omega)) (HN.fr (L := [18]) (Fr.put Fr.rf (by decide)) (by decide) (by rw [show n + 1 = n - 1 + 2 by omega]; exact hN2))
        · refine tt_ifeqT (by decide) ?_
          refine tt_vret ?_
          have e1 : nkT k = n := by omega
          rw [e1]
          exact ⟨rfl, hF_σ1, hz, hN⟩
  refine tt_loc [(0, vR 18)] rfl rfl ⟨rfl, trivial⟩ ?_
  exact lp1_2 _ (1) σf (Nat.lt_succ_self _) (Fr.tr (Fr.put (Fr.put (Fr.put Fr.rf (by decide)) (by decide)) (by decide)) hFf (by decide)) (by omega) (by omega) ((hFf.2 18 (by decide) 1).trans rfl) (hn_0 hk ((hFf.2 19 (by decide) 0).trans rfl) ((hFf.2 20 (by decide) 0).trans rfl) (fun j hj => (hCf j).trans (if_pos (by omega))))

def hgS (k num : Nat) (w : Nat → Int) (x : Nat) : Int := sumN k (fun s => (dg num s : Int) * w (s * 8 + x))
theorem hgS_congr {k num x : Nat} {v w : Nat → Int} (hk : k ≤ 6) (hx : x < 8) (h : ∀ i, i < 48 → v i = w i) : hgS k num v x = hgS k num w x := sumN_congr (fun i hi => by rw [h (i * 8 + x) (by omega)])
theorem dsN_cast (num : Nat) : ∀ s, ((dsN s num : Nat) : Int) = sumN s (fun i => (dg num i : Int))
  | 0 => rfl
  | s + 1 => by
    show ((dsN s num + dg num s : Nat) : Int) = sumN s _ + _
    rw [← dsN_cast num s, Int.natCast_add]
theorem sum_bd9 {p w : Nat → Int} {x : Nat} (hp : ∀ i, i < 6 → 0 ≤ p i) (hw : ∀ i, i < 48 → 0 ≤ w i ∧ w i ≤ 9) (hx : x < 8) : ∀ s, s ≤ 6 → 0 ≤ sumN s (fun i => p i * w (i * 8 + x)) ∧ sumN s (fun i => p i * w (i * 8 + x)) ≤ 9 * sumN s p
  | 0, _ => ⟨Int.le_refl _, by unfold sumN; omega⟩
  | s + 1, h => by
    have ih := sum_bd9 hp hw hx s (by omega)
    have h1 := hp s (by omega)
    have h2 := hw (s * 8 + x) (by omega)
    have h3 := mul_bd (a := p s) (b := w (s * 8 + x)) (A := p s) (B := 9) h1 (Int.le_refl _) h2.1 h2.2
    show 0 ≤ sumN s _ + p s * w (s * 8 + x) ∧ sumN s _ + p s * w (s * 8 + x) ≤ 9 * (sumN s p + p s)
    omega
theorem hgS_bd {k num x s : Nat} {w : Nat → Int} (hw : ∀ i, i < 48 → 0 ≤ w i ∧ w i ≤ 9) (hx : x < 8) (hs : s ≤ 6) (h5 : dsN 6 num ≤ 5) : 0 ≤ hgS s num w x ∧ hgS s num w x ≤ 45 := by
  have h1 := sum_bd9 (p := fun i => (dg num i : Int)) (w := w) (x := x) (fun i _ => Int.natCast_nonneg _) hw hx s hs
  rw [← dsN_cast] at h1
  have h2 := dsN_le (num := num) hs
  unfold hgS
  omega
theorem hgS_le {k num x : Nat} {v w : Nat → Int} (hv : ∀ i, i < 48 → v i ≤ w i) (hx : x < 8) : ∀ {s : Nat}, s ≤ 6 → hgS s num v x ≤ hgS s num w x
  | 0, _ => Int.le_refl _
  | s + 1, h => by
    have ih := hgS_le (k := k) (num := num) hv hx (s := s) (by omega)
    have h1 := hv (s * 8 + x) (by omega)
    have h2 : (dg num s : Int) * v (s * 8 + x) ≤ (dg num s : Int) * w (s * 8 + x) := Int.mul_le_mul_of_nonneg_left h1 (Int.natCast_nonneg _)
    show hgS s num v x + (dg num s : Int) * v (s * 8 + x) ≤ hgS s num w x + (dg num s : Int) * w (s * 8 + x)
    omega
theorem hg_step {σ1 : am_S} {h x : Nat} {F M : Nat → Int} {v w : Int} (hA : ∀ y, y < x → σ1.1 25 (h * 8 + y) = F y ∧ σ1.1 26 (h * 8 + y) = M y) (hv : v = F x) (hw : w = M x) : ∀ y, y < x + 1 → (am_set (am_set σ1 25 (h * 8 + x) v) 26 (h * 8 + x) w).1 25 (h * 8 + y) = F y ∧ (am_set (am_set σ1 25 (h * 8 + x) v) 26 (h * 8 + x) w).1 26 (h * 8 + y) = M y := by
  intro y hy
  constructor
  · show (am_set σ1 25 (h * 8 + x) v).1 25 (h * 8 + y) = F y
    rw [am_set_at]
    by_cases e : y = x
    · subst e
      rw [if_pos rfl, hv]
    · rw [if_neg (by omega)]
      exact (hA y (by omega)).1
  · rw [am_set_at]
    by_cases e : y = x
    · subst e
      rw [if_pos rfl, hw]
    · rw [if_neg (by omega)]
      exact (hA y (by omega)).2
theorem hg_out {σ σ1 : am_S} {h x : Nat} {v w : Int} (hO : ∀ j, (j < h * 8 ∨ h * 8 + 8 ≤ j) → σ1.1 25 j = σ.1 25 j ∧ σ1.1 26 j = σ.1 26 j) (hx : x < 8) : ∀ j, (j < h * 8 ∨ h * 8 + 8 ≤ j) → (am_set (am_set σ1 25 (h * 8 + x) v) 26 (h * 8 + x) w).1 25 j = σ.1 25 j ∧ (am_set (am_set σ1 25 (h * 8 + x) v) 26 (h * 8 + x) w).1 26 j = σ.1 26 j := by
  intro j hj
  constructor
  · show (am_set σ1 25 (h * 8 + x) v).1 25 j = _
    rw [am_set_at, if_neg (by omega)]
    exact (hO j hj).1
  · rw [am_set_at, if_neg (by omega)]
    exact (hO j hj).2
theorem c14 (σ : am_S) (k h : Nat) (hW : Wd σ) (hD : LD k σ) (hh : h < nkT k) (hN : HN k (nkT k) σ) : CC 14 [vR 18, vI (((h : Nat) : Int))] σ (fun r σ' => r = none ∧ Fr [25, 26] σ σ' ∧ (∀ x, x < 8 → σ'.1 25 (h * 8 + x) = hgS k (tb k h) (σ.1 7) x ∧ σ'.1 26 (h * 8 + x) = hgS k (tb k h) (σ.1 8) x) ∧ ∀ j, (j < h * 8 ∨ h * 8 + 8 ≤ j) → σ'.1 25 j = σ.1 25 j ∧ σ'.1 26 j = σ.1 26 j) := by
  show TT am_b14 (am_b14.getD 0 []) [(0, vR 18), (1, vI (((h : Nat) : Int)))] [] σ _
  have hk6 := hD.2.1
  have hnb := nkT_bd k
  have hen := en_at hk6 hh
  refine tt_ar rfl ?_
  refine tt_ar rfl ?_
  refine tt_nop ?_
  have lp1_1 : ∀ (μ : Nat) (x : Nat) (σ1 : am_S), 8 - x < μ → Fr [25, 26] σ σ1 → (x ≤ 8) → (∀ y, y < x → σ1.1 25 (h * 8 + y) = hgS k (tb k h) (σ.1 7) y ∧ σ1.1 26 (h * 8 + y) = hgS k (tb k h) (σ.1 8) y) → (∀ j, (j < h * 8 ∨ h * 8 + 8 ≤ j) → σ1.1 25 j = σ.1 25 j ∧ σ1.1 26 j = σ.1 26 j) → TT am_b14 (am_b14.getD 1 []) [(0, vR 18), (1, vI (((h : Nat) : Int))), (2, vI (((x : Nat) : Int)))] [] σ1 (fun r σ' => r = none ∧ Fr [25, 26] σ σ' ∧ (∀ x, x < 8 → σ'.1 25 (h * 8 + x) = hgS k (tb k h) (σ.1 7) x ∧ σ'.1 26 (h * 8 + x) = hgS k (tb k h) (σ.1 8) x) ∧ ∀ j, (j < h * 8 ∨ h * 8 + 8 ≤ j) → σ'.1 25 j = σ.1 25 j ∧ σ'.1 26 j = σ.1 26 j) := by
    intro μ
    induction μ with
    | zero => intro x σ1 hμ; exact absurd hμ (Nat.not_lt_zero _)
    | succ μ ih1 =>
      intro x σ1 hμ hF_σ1 hx hA hO
      have hW_σ1 := Fr.wd hF_σ1 hW
      refine tt_ar rfl ?_
      refine tt_ar rfl ?_
      refine tt_icge (fun h1_2 => ?_) (fun h1_2 => ?_)
      · refine tt_vret ?_
        have e1 : 8 = x := by omega
        subst e1
        exact ⟨rfl, hF_σ1, hA, hO⟩
      · refine tt_ar rfl ?_
        refine tt_ar rfl ?_
        refine tt_ar rfl ?_
        refine tt_ar rfl ?_
        refine tt_ar rfl ?_
        refine tt_ar rfl ?_
        refine tt_nop ?_
        have lp2_2 : ∀ (μ : Nat) (s : Nat), k - s < μ → (s ≤ k) → TT am_b14 (am_b14.getD 2 []) [(0, vR 18), (1, vI (((h : Nat) : Int))), (2, vI (((x : Nat) : Int))), (3, vI (hgS s (tb k h) (σ.1 7) x)), (4, vI (hgS s (tb k h) (σ.1 8) x)), (5, vI (((s : Nat) : Int)))] [] σ1 (fun r σ' => r = none ∧ Fr [25, 26] σ σ' ∧ (∀ x, x < 8 → σ'.1 25 (h * 8 + x) = hgS k (tb k h) (σ.1 7) x ∧ σ'.1 26 (h * 8 + x) = hgS k (tb k h) (σ.1 8) x) ∧ ∀ j, (j < h * 8 ∨ h * 8 + 8 ≤ j) → σ'.1 25 j = σ.1 25 j ∧ σ'.1 26 j = σ.1 26 j) := by
          intro μ
          induction μ with
          | zero => intro s hμ; exact absurd hμ (Nat.not_lt_zero _)
          | succ μ ih2 =>
            intro s hμ hs
            have hl := hgS_bd (k := k) (num := tb k h) (w := σ.1 7) (x := x) (s := s) (fun i hi => by have := hD.2.2.1 i hi; omega) (by omega) (by omega) hen.2.1
            have hm := hgS_bd (k := k) (num := tb k h) (w := σ.1 8) (x := x) (s := s) (fun i hi => by have := hD.2.2.1 i hi; omega) (by omega) (by omega) hen.2.1
            refine tt_ar rfl ?_
            refine tt_ar rfl ?_
            refine tt_getR (wo_18 hW_σ1) rfl (wr_18_0 hW_σ1) ?_
            refine tt_getI (x := ((k : Nat) : Int)) (wo_5 hW_σ1) rfl ((hF_σ1.2 5 (by decide) (0)).trans hD.1) ?_
            refine tt_icge (fun h2_4 => ?_) (fun h2_4 => ?_)
            · refine tt_ar rfl ?_
              refine tt_getR (wo_18 hW_σ1) rfl (wr_18_8 hW_σ1) ?_
              refine tt_ar rfl ?_
              refine tt_ar rfl ?_
              refine tt_imul (by omega) (by omega) ?_
              refine tt_ar rfl ?_
              refine tt_iadd (by omega) (by omega) ?_
              refine tt_ar rfl ?_
              refine tt_iast (((h * 8) + x)) (wa_25 hW_σ1) (by omega) (by omega) (by omega) ?_
              refine tt_ar rfl ?_
              refine tt_getR (wo_18 hW_σ1) rfl (wr_18_9 hW_σ1) ?_
              refine tt_ar rfl ?_
              refine tt_ar rfl ?_
              refine tt_imul (by omega) (by omega) ?_
              refine tt_ar rfl ?_
              refine tt_iadd (by omega) (by omega) ?_
              refine tt_ar rfl ?_
              refine tt_iast (((h * 8) + x)) (wa_26 hW_σ1) (by omega) (by omega) (by omega) ?_
              refine tt_iinc (y := ((x + 1 : Nat) : Int)) rfl (iinc_fit (by omega) (by omega) (by omega)) ?_
              refine tt_goto ?_
              refine tt_loc [(0, vR 18), (1, vI (((h : Nat) : Int))), (2, vI (((x + 1 : Nat) : Int)))] rfl rfl ⟨rfl, rfl, rfl, trivial⟩ ?_
              exact ih1 (x + 1) _ (by omega) (Fr.put (Fr.put (Fr.tr Fr.rf hF_σ1 (by decide)) (by decide)) (by decide)) (by omega) (hg_step hA (by rw [show k = s by omega]) (by rw [show k = s by omega])) (hg_out hO (by omega))
            · refine tt_ar rfl ?_
              refine tt_ar rfl ?_
              refine tt_getR (wo_18 hW_σ1) rfl (wr_18_4 hW_σ1) ?_
              refine tt_ar rfl ?_
              refine tt_ar rfl ?_
              refine tt_imul (by omega) (by omega) ?_
              refine tt_ar rfl ?_
              refine tt_iadd (by omega) (by omega) ?_
              refine tt_iald (((h * 6) + s)) (x := ((dg (tb k h) s : Nat) : Int)) (wa_21 hW_σ1) (by omega) (by omega) ((hF_σ1.2 21 (by decide) (((h * 6) + s))).trans ((hN h hh).2.2 s (by omega))) ?_
              refine tt_ar rfl ?_
              refine tt_getR (wo_18 hW_σ1) rfl (wr_18_0 hW_σ1) ?_
              refine tt_getR (wo_5 hW_σ1) rfl (wr_5_2 hW_σ1) ?_
              refine tt_ar rfl ?_
              refine tt_ar rfl ?_
              refine tt_imul (by omega) (by omega) ?_
              refine tt_ar rfl ?_
              refine tt_iadd (by omega) (by omega) ?_
              refine tt_iald (((s * 8) + x)) (x := σ.1 7 (((s * 8) + x))) (wa_7 hW_σ1) (by omega) (by omega) (hF_σ1.2 7 (by decide) (((s * 8) + x))) ?_
              have hb7 := hD.2.2.1 (((s * 8) + x)) (by omega)
              have hp7 := mul_bd (a := ((dg (tb k h) s : Nat) : Int)) (b := σ.1 7 (((s * 8) + x))) (A := 9) (B := 9) (Int.natCast_nonneg _) (by have := dg_lt (tb k h) s; omega) (by omega) (by omega)
              refine tt_imul (by omega) (by omega) ?_
              refine tt_iadd (by omega) (by omega) ?_
              refine tt_ar rfl ?_
              refine tt_ar rfl ?_
              refine tt_ar rfl ?_
              refine tt_getR (wo_18 hW_σ1) rfl (wr_18_4 hW_σ1) ?_
              refine tt_ar rfl ?_
              refine tt_ar rfl ?_
              refine tt_imul (by omega) (by omega) ?_
              refine tt_ar rfl ?_
              refine tt_iadd (by omega) (by omega) ?_
              refine tt_iald (((h * 6) + s)) (x := ((dg (tb k h) s : Nat) : Int)) (wa_21 hW_σ1) (by omega) (by omega) ((hF_σ1.2 21 (by decide) (((h * 6) + s))).trans ((hN h hh).2.2 s (by omega))) ?_
              refine tt_ar rfl ?_
              refine tt_getR (wo_18 hW_σ1) rfl (wr_18_0 hW_σ1) ?_
              refine tt_getR (wo_5 hW_σ1) rfl (wr_5_3 hW_σ1) ?_
              refine tt_ar rfl ?_
              refine tt_ar rfl ?_
              refine tt_imul (by omega) (by omega) ?_
              refine tt_ar rfl ?_
              refine tt_iadd (by omega) (by omega) ?_
              refine tt_iald (((s * 8) + x)) (x := σ.1 8 (((s * 8) + x))) (wa_8 hW_σ1) (by omega) (by omega) (hF_σ1.2 8 (by decide) (((s * 8) + x))) ?_
              have hb8 := hD.2.2.1 (((s * 8) + x)) (by omega)
              have hp8 := mul_bd (a := ((dg (tb k h) s : Nat) : Int)) (b := σ.1 8 (((s * 8) + x))) (A := 9) (B := 9) (Int.natCast_nonneg _) (by have := dg_lt (tb k h) s; omega) (by omega) (by omega)
              refine tt_imul (by omega) (by omega) ?_
              refine tt_iadd (by omega) (by omega) ?_
              refine tt_ar rfl ?_
              refine tt_iinc (y := ((s + 1 : Nat) : Int)) rfl (iinc_fit (by omega) (by omega) (by omega)) ?_
              refine tt_goto ?_
              refine tt_loc [(0, vR 18), (1, vI (((h : Nat) : Int))), (2, vI (((x : Nat) : Int))), (3, vI (hgS (s + 1) (tb k h) (σ.1 7) x)), (4, vI (hgS (s + 1) (tb k h) (σ.1 8) x)), (5, vI (((s + 1 : Nat) : Int)))] rfl rfl ⟨rfl, rfl, rfl, lv_to rfl rfl, lv_to rfl rfl, rfl, trivial⟩ ?_
              exact ih2 (s + 1) (by omega) (by omega)
        refine tt_loc [(0, vR 18), (1, vI (((h : Nat) : Int))), (2, vI (((x : Nat) : Int))), (3, vI (hgS 0 (tb k h) (σ.1 7) x)), (4, vI (hgS 0 (tb k h) (σ.1 8) x)), (5, vI (((0 : Nat) : Int)))] rfl rfl ⟨rfl, rfl, rfl, lv_to rfl rfl, lv_to rfl rfl, lv_to rfl (by omega), trivial⟩ ?_
        exact lp2_2 _ (0) (Nat.lt_succ_self _) (by omega)
  refine tt_loc [(0, vR 18), (1, vI (((h : Nat) : Int))), (2, vI (((0 : Nat) : Int)))] rfl rfl ⟨rfl, rfl, lv_to rfl (by omega), trivial⟩ ?_
  exact lp1_1 _ (0) σ (Nat.lt_succ_self _) Fr.rf (by omega) (fun y hy => absurd hy (Nat.not_lt_zero y)) (fun j _ => ⟨rfl, rfl⟩)

def moV (k num s : Nat) : Int := if s < k then ix k ((num : Int) + ((10 ^ s : Nat) : Int)) else -1
def leV (k num s : Nat) : Int := if 0 < dg num s then ix k ((num : Int) - ((10 ^ s : Nat) : Int)) else -1
def olV (k : Nat) (into : Nat → Int) (num s : Nat) : Int := if leV k num s < 0 ∨ into s < 0 then -1 else moV k (tb k (leV k num s).toNat) (into s).toNat
/-- all of the class's houses stands -/
def HT (k : Nat) (σ : am_S) : Prop := σ.1 18 1 = (nkT k : Int) ∧ HN k (nkT k) σ ∧ (∀ h, h < nkT k → ∀ s, s < 6 → σ.1 22 (h * 6 + s) = moV k (tb k h) s ∧ σ.1 23 (h * 6 + s) = leV k (tb k h) s) ∧ (∀ h, h < nkT k → ∀ s, s < 6 → σ.1 24 (h * 6 + s) = olV k (σ.1 6) (tb k h) s) ∧ ∀ h, h < nkT k → ∀ x, x < 8 → σ.1 25 (h * 8 + x) = hgS k (tb k h) (σ.1 7) x ∧ σ.1 26 (h * 8 + x) = hgS k (tb k h) (σ.1 8) x
theorem moV_bd {k num s : Nat} (hk : k ≤ 6) : -1 ≤ moV k num s ∧ moV k num s < (nkT k : Int) := by
  unfold moV
  have := nkT_bd k
  split
  · exact ix_bd hk _
  · omega
theorem leV_bd {k num s : Nat} (hk : k ≤ 6) : -1 ≤ leV k num s ∧ leV k num s < (nkT k : Int) := by
  unfold leV
  have := nkT_bd k
  split
  · exact ix_bd hk _
  · omega
theorem c15 (σ : am_S) (k h s : Nat) (hW : Wd σ) (hD : LD k σ) (hh : h < nkT k) (hs : s < 6) (hM : ∀ h, h < nkT k → ∀ s, s < 6 → σ.1 22 (h * 6 + s) = moV k (tb k h) s ∧ σ.1 23 (h * 6 + s) = leV k (tb k h) s) : CC 15 [vR 18, vI (((h : Nat) : Int)), vI (((s : Nat) : Int))] σ (fun r σ' => r = some (vI (olV k (σ.1 6) (tb k h) s)) ∧ σ' = σ) := by
  show TT am_b15 (am_b15.getD 0 []) [(0, vR 18), (1, vI (((h : Nat) : Int))), (2, vI (((s : Nat) : Int)))] [] σ _
  have hk6 := hD.2.1
  have hnb := nkT_bd k
  have hlb := leV_bd (num := tb k h) (s := s) hk6
  have hin := hD.2.2.2.2 s hs
  refine tt_ar rfl ?_
  refine tt_getR (wo_18 hW) rfl (wr_18_6 hW) ?_
  refine tt_ar rfl ?_
  refine tt_ar rfl ?_
  refine tt_imul (by omega) (by omega) ?_
  refine tt_ar rfl ?_
  refine tt_iadd (by omega) (by omega) ?_
  refine tt_iald (((h * 6) + s)) (x := leV k (tb k h) s) (wa_23 hW) (by omega) (by omega) (hM h hh s hs).2 ?_
  refine tt_ar rfl ?_
  refine tt_ar rfl ?_
  refine tt_iflt (fun h0_10 => ?_) (fun h0_10 => ?_)
  · refine tt_ar rfl ?_
    refine tt_goto ?_
    refine tt_iret ?_
    exact ⟨rv (by unfold olV; rw [if_pos (by omega)]), rfl⟩
  · refine tt_ar rfl ?_
    refine tt_getR (wo_18 hW) rfl (wr_18_0 hW) ?_
    refine tt_getR (wo_5 hW) rfl (wr_5_1 hW) ?_
    refine tt_ar rfl ?_
    refine tt_iald (s) (x := σ.1 6 (s)) (wa_6 hW) rfl (by omega) rfl ?_
    refine tt_ifge (fun h0_16 => ?_) (fun h0_16 => ?_)
    · refine tt_ar rfl ?_
      refine tt_getR (wo_18 hW) rfl (wr_18_5 hW) ?_
      refine tt_ar rfl ?_
      refine tt_ar rfl ?_
      refine tt_imul (by omega) (by omega) ?_
      refine tt_ar rfl ?_
      refine tt_getR (wo_18 hW) rfl (wr_18_0 hW) ?_
      refine tt_getR (wo_5 hW) rfl (wr_5_1 hW) ?_
      refine tt_ar rfl ?_
      refine tt_iald (s) (x := σ.1 6 (s)) (wa_6 hW) rfl (by omega) rfl ?_
      refine tt_iadd (by omega) (by omega) ?_
      refine tt_iald ((leV k (tb k h) s).toNat * 6 + (σ.1 6 s).toNat) (x := moV k (tb k (leV k (tb k h) s).toNat) (σ.1 6 s).toNat) (wa_22 hW) (by omega) (by omega) (hM _ (by omega) _ (by omega)).1 ?_
      refine tt_nop ?_
      refine tt_iret ?_
      exact ⟨rv (by unfold olV; rw [if_neg (by omega)]), rfl⟩
    · refine tt_nop ?_
      refine tt_ar rfl ?_
      refine tt_goto ?_
      refine tt_iret ?_
      exact ⟨rv (by unfold olV; rw [if_pos (by omega)]), rfl⟩

