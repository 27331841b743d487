/-! THE CLASS'S HOUSES, BUILT -/
theorem ml_step {σ1 σ2 : am_S} {h s : Nat} {F M : Nat → Int} {v w : Int} (hA : ∀ t, t < s → σ2.1 22 (h * 6 + t) = F t ∧ σ2.1 23 (h * 6 + t) = M t) (hv : v = F s) (hw : w = M s) : ∀ t, t < s + 1 → (am_set (am_set σ2 22 (h * 6 + s) v) 23 (h * 6 + s) w).1 22 (h * 6 + t) = F t ∧ (am_set (am_set σ2 22 (h * 6 + s) v) 23 (h * 6 + s) w).1 23 (h * 6 + t) = M t := by
  intro y hy
  constructor
  · show (am_set σ2 22 (h * 6 + s) v).1 22 (h * 6 + y) = F y
    rw [am_set_at]
    by_cases e : y = s
    · subst e
      rw [if_pos rfl, hv]
    · rw [if_neg (by omega)]
      exact (hA y (by omega)).1
  · rw [am_set_at]
    by_cases e : y = s
    · subst e
      rw [if_pos rfl, hw]
    · rw [if_neg (by omega)]
      exact (hA y (by omega)).2
theorem ml_out {σ1 σ2 : am_S} {h s : Nat} {v w : Int} (hO : ∀ j, (j < h * 6 ∨ h * 6 + 6 ≤ j) → σ2.1 22 j = σ1.1 22 j ∧ σ2.1 23 j = σ1.1 23 j) (hs : s < 6) : ∀ j, (j < h * 6 ∨ h * 6 + 6 ≤ j) → (am_set (am_set σ2 22 (h * 6 + s) v) 23 (h * 6 + s) w).1 22 j = σ1.1 22 j ∧ (am_set (am_set σ2 22 (h * 6 + s) v) 23 (h * 6 + s) w).1 23 j = σ1.1 23 j := by
  intro j hj
  constructor
  · show (am_set σ2 22 (h * 6 + s) v).1 22 j = _
    rw [am_set_at, if_neg (by omega)]
    exact (hO j hj).1
  · rw [am_set_at, if_neg (by omega)]
    exact (hO j hj).2
theorem c8 (σ : am_S) (k : Nat) (hW : Wd σ) (hD : LD k σ) (hw : WR σ) : CC 8 [vR 18] σ (fun r σ' => r = none ∧ Fr [18, 19, 20, 21, 22, 23, 24, 25, 26] σ σ' ∧ HT k σ') := by
  show TT am_b8 (am_b8.getD 0 []) [(0, vR 18)] [] σ _
  refine tt_ar rfl ?_
  refine tt_cv1 1 rfl (wo_18 hW) (c9 σ k hW hD.2.1 hD.1 hw) ?_
  intro r0 σ0 hq0
  obtain ⟨rfl, hF0, hz0, hN0⟩ := hq0
  have hW1 := Fr.wd hF0 hW
  have hk6 := hD.2.1
  have hnb := nkT_bd k
  refine tt_ar rfl ?_
  refine tt_ar rfl ?_
  refine tt_nop ?_
  have lp1_2 : ∀ (μ : Nat) (h : Nat) (σ1 : am_S), nkT k - h < μ → Fr [18, 19, 20, 21, 22, 23, 24, 25, 26] σ σ1 → (h ≤ nkT k) → (σ1.1 18 1 = (nkT k : Int)) → (HN k (nkT k) σ1) → (∀ t, t < h → ∀ s, s < 6 → σ1.1 22 (t * 6 + s) = moV k (tb k t) s ∧ σ1.1 23 (t * 6 + s) = leV k (tb k t) s) → (∀ t, t < h → ∀ x, x < 8 → σ1.1 25 (t * 8 + x) = hgS k (tb k t) (σ.1 7) x ∧ σ1.1 26 (t * 8 + x) = hgS k (tb k t) (σ.1 8) x) → TT am_b8 (am_b8.getD 1 []) [(0, vR 18), (1, vI (((h : Nat) : Int)))] [] σ1 (fun r σ' => r = none ∧ Fr [18, 19, 20, 21, 22, 23, 24, 25, 26] σ σ' ∧ HT k σ') := by
    intro μ
    induction μ with
    | zero => intro h σ1 hμ; exact absurd hμ (Nat.not_lt_zero _)
    | succ μ ih1 =>
      intro h σ1 hμ hF_σ1 hh hz hN hM hX
      have hW_σ1 := Fr.wd hF_σ1 hW
      refine tt_ar rfl ?_
      refine tt_ar rfl ?_
      refine tt_getI (x := ((nkT k : Nat) : Int)) (wo_18 hW_σ1) rfl hz ?_
      refine tt_icge (fun h1_3 => ?_) (fun h1_3 => ?_)
      · refine tt_ar rfl ?_
        refine tt_ar rfl ?_
        refine tt_nop ?_
        have lp9_3 : ∀ (μ : Nat) (h : Nat) (σ9 : am_S), nkT k - h < μ → Fr [18, 19, 20, 21, 22, 23, 24, 25, 26] σ σ9 → (h ≤ nkT k) → (σ9.1 18 1 = (nkT k : Int)) → (HN k (nkT k) σ9) → (∀ t, t < nkT k → ∀ s, s < 6 → σ9.1 22 (t * 6 + s) = moV k (tb k t) s ∧ σ9.1 23 (t * 6 + s) = leV k (tb k t) s) → (∀ t, t < nkT k → ∀ x, x < 8 → σ9.1 25 (t * 8 + x) = hgS k (tb k t) (σ.1 7) x ∧ σ9.1 26 (t * 8 + x) = hgS k (tb k t) (σ.1 8) x) → (∀ t, t < h → ∀ s, s < 6 → σ9.1 24 (t * 6 + s) = olV k (σ.1 6) (tb k t) s) → TT am_b8 (am_b8.getD 9 []) [(0, vR 18), (1, vI (((h : Nat) : Int)))] [] σ9 (fun r σ' => r = none ∧ Fr [18, 19, 20, 21, 22, 23, 24, 25, 26] σ σ' ∧ HT k σ') := by
          intro μ
          induction μ with
          | zero => intro h σ9 hμ; exact absurd hμ (Nat.not_lt_zero _)
          | succ μ ih9 =>
            intro h σ9 hμ hF_σ9 hh9 hz9 hN9 hM9 hX9 hG9
            have hW_σ9 := Fr.wd hF_σ9 hW
            refine tt_ar rfl ?_
            refine tt_ar rfl ?_
            refine tt_getI (x := ((nkT k : Nat) : Int)) (wo_18 hW_σ9) rfl hz9 ?_
            refine tt_icge (fun h9_3 => ?_) (fun h9_3 => ?_)
            · refine tt_vret ?_
              have e1 : h = nkT k := by omega
              subst e1
              have e6 : σ9.1 6 = σ.1 6 := funext (hF_σ9.2 6 (by decide))
              have e7 : σ9.1 7 = σ.1 7 := funext (hF_σ9.2 7 (by decide))
              have e8 : σ9.1 8 = σ.1 8 := funext (hF_σ9.2 8 (by decide))
              exact ⟨rfl, hF_σ9, hz9, hN9, hM9, by rw [e6]; exact hG9, by rw [e7, e8]; exact hX9⟩
            · refine tt_ar rfl ?_
              refine tt_ar rfl ?_
              refine tt_nop ?_
              have lp10_4 : ∀ (μ : Nat) (s : Nat) (σ10 : am_S), 6 - s < μ → Fr [24] σ9 σ10 → (s ≤ 6) → (∀ t, t < s → σ10.1 24 (h * 6 + t) = olV k (σ.1 6) (tb k h) t) → (∀ j, (j < h * 6 ∨ h * 6 + 6 ≤ j) → σ10.1 24 j = σ9.1 24 j) → TT am_b8 (am_b8.getD 10 []) [(0, vR 18), (1, vI (((h : Nat) : Int))), (2, vI (((s : Nat) : Int)))] [] σ10 (fun r σ' => r = none ∧ Fr [18, 19, 20, 21, 22, 23, 24, 25, 26] σ σ' ∧ HT k σ') := by
                intro μ
                induction μ with
                | zero => intro s σ10 hμ; exact absurd hμ (Nat.not_lt_zero _)
                | succ μ ih10 =>
                  intro s σ10 hμ hF_σ10 hs hG10 hO10
                  have hW_σ10 := Fr.wd hF_σ10 hW_σ9
                  have hM10 : ∀ t, t < nkT k → ∀ s, s < 6 → σ10.1 22 (t * 6 + s) = moV k (tb k t) s ∧ σ10.1 23 (t * 6 + s) = leV k (tb k t) s := fun t ht s hs => by rw [hF_σ10.2 22 (by decide), hF_σ10.2 23 (by decide)]; exact hM9 t ht s hs
                  have e6 : σ10.1 6 = σ.1 6 := funext (fun j => (hF_σ10.2 6 (by decide) j).trans (hF_σ9.2 6 (by decide) j))
                  refine tt_ar rfl ?_
                  refine tt_ar rfl ?_
                  refine tt_icge (fun h10_2 => ?_) (fun h10_2 => ?_)
                  · refine tt_iinc (y := ((h + 1 : Nat) : Int)) rfl (iinc_fit (by omega) (by omega) (by omega)) ?_
                    refine tt_goto ?_
                    refine tt_loc [(0, vR 18), (1, vI (((h + 1 : Nat) : Int)))] rfl rfl ⟨rfl, rfl, trivial⟩ ?_
                    exact ih9 (h + 1) σ10 (by omega) (Fr.tr (Fr.tr Fr.rf hF_σ9 (by decide)) hF_σ10 (by decide)) (by omega) ((hF_σ10.2 18 (by decide) 1).trans hz9) (HN.fr (L := [24]) hF_σ10 (by decide) hN9) hM10 (fun t ht x hx => by rw [hF_σ10.2 25 (by decide), hF_σ10.2 26 (by decide)]; exact hX9 t ht x hx) (fun t ht s hs => by by_cases e : t = h; (subst e; exact hG10 s (by omega)); (rw [hO10 (t * 6 + s) (by omega)]; exact hG9 t (by omega) s hs))
                  · refine tt_ar rfl ?_
                    refine tt_getR (wo_18 hW_σ10) rfl (wr_18_7 hW_σ10) ?_
                    refine tt_ar rfl ?_
                    refine tt_ar rfl ?_
                    refine tt_imul (by omega) (by omega) ?_
                    refine tt_ar rfl ?_
                    refine tt_iadd (by omega) (by omega) ?_
                    refine tt_ar rfl ?_
                    refine tt_ar rfl ?_
                    refine tt_ar rfl ?_
                    refine tt_cv3 3 rfl (wo_18 hW_σ10) (e6 ▸ c15 σ10 k h s hW_σ10 (LD.fr (L := [18, 19, 20, 21, 22, 23, 24, 25, 26]) (Fr.tr (Fr.tr Fr.rf hF_σ9 (by decide)) hF_σ10 (by decide)) (by decide) hD) (by omega) (by omega) hM10) (kp ?_)
                    refine tt_iast (((h * 6) + s)) (wa_24 hW_σ10) (by omega) (by omega) (by omega) ?_
                    refine tt_iinc (y := ((s + 1 : Nat) : Int)) rfl (iinc_fit (by omega) (by omega) (by omega)) ?_
                    refine tt_goto ?_
                    refine tt_loc [(0, vR 18), (1, vI (((h : Nat) : Int))), (2, vI (((s + 1 : Nat) : Int)))] rfl rfl ⟨rfl, rfl, rfl, trivial⟩ ?_
                    exact ih10 (s + 1) _ (by omega) (Fr.put (Fr.tr Fr.rf hF_σ10 (by decide)) (by decide)) (by omega) (fun t ht => by rw [am_set_at]; by_cases e : t = s; (subst e; rw [if_pos rfl]); (rw [if_neg (by omega)]; exact hG10 t (by omega))) (fun j hj => by rw [am_set_at, if_neg (by omega)]; exact hO10 j hj)
              refine tt_loc [(0, vR 18), (1, vI (((h : Nat) : Int))), (2, vI (((0 : Nat) : Int)))] rfl rfl ⟨rfl, rfl, lv_to rfl (by omega), trivial⟩ ?_
              exact lp10_4 _ (0) σ9 (Nat.lt_succ_self _) Fr.rf (by omega) (fun t ht => absurd ht (Nat.not_lt_zero t)) (fun j _ => rfl)
        refine tt_loc [(0, vR 18), (1, vI (((0 : Nat) : Int)))] rfl rfl ⟨rfl, lv_to rfl (by omega), trivial⟩ ?_
        exact lp9_3 _ (0) σ1 (Nat.lt_succ_self _) (Fr.tr Fr.rf hF_σ1 (by decide)) (by omega) hz hN (fun t ht => hM t (by omega)) (fun t ht => hX t (by omega)) (fun t ht => absurd ht (Nat.not_lt_zero t))
      · refine tt_ar rfl ?_
        refine tt_ar rfl ?_
        refine tt_nop ?_
        have lp2_5 : ∀ (μ : Nat) (s : Nat) (σ2 : am_S), 6 - s < μ → Fr [22, 23] σ1 σ2 → (s ≤ 6) → (∀ t, t < s → σ2.1 22 (h * 6 + t) = moV k (tb k h) t ∧ σ2.1 23 (h * 6 + t) = leV k (tb k h) t) → (∀ j, (j < h * 6 ∨ h * 6 + 6 ≤ j) → σ2.1 22 j = σ1.1 22 j ∧ σ2.1 23 j = σ1.1 23 j) → TT am_b8 (am_b8.getD 2 []) [(0, vR 18), (1, vI (((h : Nat) : Int))), (2, vI (((s : Nat) : Int)))] [] σ2 (fun r σ' => r = none ∧ Fr [18, 19, 20, 21, 22, 23, 24, 25, 26] σ σ' ∧ HT k σ') := by
          intro μ
          induction μ with
          | zero => intro s σ2 hμ; exact absurd hμ (Nat.not_lt_zero _)
          | succ μ ih2 =>
            intro s σ2 hμ hF_σ2 hs hM2 hO2
            have hW_σ2 := Fr.wd hF_σ2 hW_σ1
            have hz2 := (hF_σ2.2 18 (by decide) 1).trans hz
            have hN2 := HN.fr (L := [22, 23]) hF_σ2 (by decide) hN
            have hsm := tb_small hk6 (show h < nkT k by omega)
            have hk5 : σ2.1 5 0 = (k : Int) := (hF_σ2.2 5 (by decide) 0).trans ((hF_σ1.2 5 (by decide) 0).trans hD.1)
            refine tt_ar rfl ?_
            refine tt_ar rfl ?_
            refine tt_icge (fun h2_2 => ?_) (fun h2_2 => ?_)
            · refine tt_ar rfl ?_
              refine tt_ar rfl ?_
              refine tt_cv2 2 rfl (wo_18 hW_σ2) (c14 σ2 k h hW_σ2 (LD.fr (L := [18, 19, 20, 21, 22, 23, 24, 25, 26]) (Fr.tr (Fr.tr Fr.rf hF_σ1 (by decide)) hF_σ2 (by decide)) (by decide) hD) (by omega) hN2) ?_
              intro r0 σ3 hq0
              obtain ⟨rfl, hF3, hX3, hO3⟩ := hq0
              have hW6 := Fr.wd hF3 hW_σ2
              rw [show σ2.1 7 = σ.1 7 from funext (fun j => (hF_σ2.2 7 (by decide) j).trans (hF_σ1.2 7 (by decide) j)), show σ2.1 8 = σ.1 8 from funext (fun j => (hF_σ2.2 8 (by decide) j).trans (hF_σ1.2 8 (by decide) j))] at hX3
              refine tt_iinc (y := ((h + 1 : Nat) : Int)) rfl (iinc_fit (by omega) (by omega) (by omega)) ?_
              refine tt_goto ?_
              refine tt_loc [(0, vR 18), (1, vI (((h + 1 : Nat) : Int)))] rfl rfl ⟨rfl, rfl, trivial⟩ ?_
              exact ih1 (h + 1) σ3 (by omega) (Fr.tr (Fr.tr (Fr.tr Fr.rf hF_σ1 (by decide)) hF_σ2 (by decide)) hF3 (by decide)) (by omega) ((hF3.2 18 (by decide) 1).trans ((hF_σ2.2 18 (by decide) 1).trans hz)) (HN.fr (L := [25, 26]) hF3 (by decide) hN2) (fun t ht s hs => by rw [hF3.2 22 (by decide), hF3.2 23 (by decide)]; by_cases e : t = h; (subst e; exact hM2 s (by omega)); (rw [(hO2 (t * 6 + s) (by omega)).1, (hO2 (t * 6 + s) (by omega)).2]; exact hM t (by omega) s hs)) (fun t ht x hx => by by_cases e : t = h; (subst e; exact hX3 x hx); (rw [(hO3 (t * 8 + x) (by omega)).1, (hO3 (t * 8 + x) (by omega)).2, hF_σ2.2 25 (by decide), hF_σ2.2 26 (by decide)]; exact hX t (by omega) x hx))
            · have hps : 10 ^ s ≤ 100000 := Nat.pow_le_pow_right (by decide) (show s ≤ 5 by omega)
              have hps0 : (0 : Int) ≤ ((10 ^ s : Nat) : Int) := Int.natCast_nonneg _
              refine tt_ar rfl ?_
              refine tt_getR (wo_18 hW_σ2) rfl (wr_18_5 hW_σ2) ?_
              refine tt_ar rfl ?_
              refine tt_ar rfl ?_
              refine tt_imul (by omega) (by omega) ?_
              refine tt_ar rfl ?_
              refine tt_iadd (by omega) (by omega) ?_
              refine tt_ar rfl ?_
              refine tt_ar rfl ?_
              refine tt_getR (wo_18 hW_σ2) rfl (wr_18_0 hW_σ2) ?_
              refine tt_getI (x := ((k : Nat) : Int)) (wo_5 hW_σ2) rfl (((hF_σ2.2 5 (by decide) (0)).trans (hF_σ1.2 5 (by decide) (0))).trans hD.1) ?_
              refine tt_icge (fun h2_14 => ?_) (fun h2_14 => ?_)
              · refine tt_ar rfl ?_
                refine tt_nop ?_
                refine tt_iast (((h * 6) + s)) (wa_22 hW_σ2) (by omega) (by omega) (by omega) ?_
                refine tt_ar rfl ?_
                refine tt_getR (wo_18 hW_σ2) rfl (wr_18_6 hW_σ2) ?_
                refine tt_ar rfl ?_
                refine tt_ar rfl ?_
                refine tt_imul (by omega) (by omega) ?_
                refine tt_ar rfl ?_
                refine tt_iadd (by omega) (by omega) ?_
                refine tt_ar rfl ?_
                refine tt_getR (wo_18 hW_σ2) rfl (wr_18_4 hW_σ2) ?_
                refine tt_ar rfl ?_
                refine tt_ar rfl ?_
                refine tt_imul (by omega) (by omega) ?_
                refine tt_ar rfl ?_
                refine tt_iadd (by omega) (by omega) ?_
                refine tt_iald (((h * 6) + s)) (x := ((dg (tb k h) s : Nat) : Int)) (wa_21 hW_σ2) (by omega) (by omega) ((hF_σ2.2 21 (by decide) (((h * 6) + s))).trans ((hN h (by omega)).2.2 s (by omega))) ?_
                refine tt_ifle (fun h4_16 => ?_) (fun h4_16 => ?_)
                · refine tt_ar rfl ?_
                  refine tt_nop ?_
                  refine tt_iast (((h * 6) + s)) (wa_23 hW_σ2) (by omega) (by omega) (by omega) ?_
                  refine tt_iinc (y := ((s + 1 : Nat) : Int)) rfl (iinc_fit (by omega) (by omega) (by omega)) ?_
                  refine tt_goto ?_
                  refine tt_loc [(0, vR 18), (1, vI (((h : Nat) : Int))), (2, vI (((s + 1 : Nat) : Int)))] rfl rfl ⟨rfl, rfl, rfl, trivial⟩ ?_
                  exact ih2 (s + 1) _ (by omega) (Fr.put (Fr.put (Fr.tr Fr.rf hF_σ2 (by decide)) (by decide)) (by decide)) (by omega) (ml_step (σ1 := σ1) hM2 (by unfold moV; first | (rw [if_pos (by omega)]) | (rw [if_neg (by omega)])) (by unfold leV; first | (rw [if_pos (by omega)]) | (rw [if_neg (by omega)]))) (ml_out hO2 (by omega))
                · refine tt_ar rfl ?_
                  refine tt_ar rfl ?_
                  refine tt_getR (wo_18 hW_σ2) rfl (wr_18_2 hW_σ2) ?_
                  refine tt_ar rfl ?_
                  refine tt_iald (h) (x := ((tb k h : Nat) : Int)) (wa_19 hW_σ2) rfl (by omega) ((hF_σ2.2 19 (by decide) (h)).trans ((hN h (by omega)).1)) ?_
                  refine tt_gets ?_
                  refine tt_ar rfl ?_
                  refine tt_iald (s) (x := ((10 ^ s : Nat) : Int)) (wa_0 hW_σ2) rfl (by omega) (((hF_σ2.2 0 (by decide) (s)).trans (hF_σ1.2 0 (by decide) (s))).trans (hw s (by omega))) ?_
                  refine tt_isub (by omega) (by omega) ?_
                  refine tt_cv2 2 rfl (wo_18 hW_σ2) (c13 (am_set σ2 22 (((h * 6) + s)) ((-1))) k hW_σ2 hk6 hz2 (fun h hh => (hN2 h hh).1) _) (kp ?_)
                  refine tt_goto ?_
                  refine tt_iast (((h * 6) + s)) (wa_23 hW_σ2) (by omega) (by omega) (by omega) ?_
                  refine tt_iinc (y := ((s + 1 : Nat) : Int)) rfl (iinc_fit (by omega) (by omega) (by omega)) ?_
                  refine tt_goto ?_
                  refine tt_loc [(0, vR 18), (1, vI (((h : Nat) : Int))), (2, vI (((s + 1 : Nat) : Int)))] rfl rfl ⟨rfl, rfl, rfl, trivial⟩ ?_
                  exact ih2 (s + 1) _ (by omega) (Fr.put (Fr.put (Fr.tr Fr.rf hF_σ2 (by decide)) (by decide)) (by decide)) (by omega) (ml_step (σ1 := σ1) hM2 (by unfold moV; first | (rw [if_pos (by omega)]) | (rw [if_neg (by omega)])) (by unfold leV; first | (rw [if_pos (by omega)]) | (rw [if_neg (by omega)]))) (ml_out hO2 (by omega))
              · refine tt_ar rfl ?_
                refine tt_ar rfl ?_
                refine tt_getR (wo_18 hW_σ2) rfl (wr_18_2 hW_σ2) ?_
                refine tt_ar rfl ?_
                refine tt_iald (h) (x := ((tb k h : Nat) : Int)) (wa_19 hW_σ2) rfl (by omega) ((hF_σ2.2 19 (by decide) (h)).trans ((hN h (by omega)).1)) ?_
                refine tt_gets ?_
                refine tt_ar rfl ?_
                refine tt_iald (s) (x := ((10 ^ s : Nat) : Int)) (wa_0 hW_σ2) rfl (by omega) (((hF_σ2.2 0 (by decide) (s)).trans (hF_σ1.2 0 (by decide) (s))).trans (hw s (by omega))) ?_
                refine tt_iadd (by omega) (by omega) ?_
                refine tt_cv2 2 rfl (wo_18 hW_σ2) (c13 σ2 k hW_σ2 hk6 hz2 (fun h hh => (hN2 h hh).1) _) (kp ?_)
                refine tt_goto ?_
                refine tt_iast (((h * 6) + s)) (wa_22 hW_σ2) (by omega) (by omega) (by omega) ?_
                refine tt_ar rfl ?_
                refine tt_getR (wo_18 hW_σ2) rfl (wr_18_6 hW_σ2) ?_
                refine tt_ar rfl ?_
                refine tt_ar rfl ?_
                refine tt_imul (by omega) (by omega) ?_
                refine tt_ar rfl ?_
                refine tt_iadd (by omega) (by omega) ?_
                refine tt_ar rfl ?_
                refine tt_getR (wo_18 hW_σ2) rfl (wr_18_4 hW_σ2) ?_
                refine tt_ar rfl ?_
                refine tt_ar rfl ?_
                refine tt_imul (by omega) (by omega) ?_
                refine tt_ar rfl ?_
                refine tt_iadd (by omega) (by omega) ?_
                refine tt_iald (((h * 6) + s)) (x := ((dg (tb k h) s : Nat) : Int)) (wa_21 hW_σ2) (by omega) (by omega) ((hF_σ2.2 21 (by decide) (((h * 6) + s))).trans ((hN h (by omega)).2.2 s (by omega))) ?_
                refine tt_ifle (fun h4_16 => ?_) (fun h4_16 => ?_)
                · refine tt_ar rfl ?_
                  refine tt_nop ?_
                  refine tt_iast (((h * 6) + s)) (wa_23 hW_σ2) (by omega) (by omega) (by omega) ?_
                  refine tt_iinc (y := ((s + 1 : Nat) : Int)) rfl (iinc_fit (by omega) (by omega) (by omega)) ?_
                  refine tt_goto ?_
                  refine tt_loc [(0, vR 18), (1, vI (((h : Nat) : Int))), (2, vI (((s + 1 : Nat) : Int)))] rfl rfl ⟨rfl, rfl, rfl, trivial⟩ ?_
                  exact ih2 (s + 1) _ (by omega) (Fr.put (Fr.put (Fr.tr Fr.rf hF_σ2 (by decide)) (by decide)) (by decide)) (by omega) (ml_step (σ1 := σ1) hM2 (by unfold moV; first | (rw [if_pos (by omega)]) | (rw [if_neg (by omega)])) (by unfold leV; first | (rw [if_pos (by omega)]) | (rw [if_neg (by omega)]))) (ml_out hO2 (by omega))
                · refine tt_ar rfl ?_
                  refine tt_ar rfl ?_
                  refine tt_getR (wo_18 hW_σ2) rfl (wr_18_2 hW_σ2) ?_
                  refine tt_ar rfl ?_
                  refine tt_iald (h) (x := ((tb k h : Nat) : Int)) (wa_19 hW_σ2) rfl (by omega) ((hF_σ2.2 19 (by decide) (h)).trans ((hN h (by omega)).1)) ?_
                  refine tt_gets ?_
                  refine tt_ar rfl ?_
                  refine tt_iald (s) (x := ((10 ^ s : Nat) : Int)) (wa_0 hW_σ2) rfl (by omega) (((hF_σ2.2 0 (by decide) (s)).trans (hF_σ1.2 0 (by decide) (s))).trans (hw s (by omega))) ?_
                  refine tt_isub (by omega) (by omega) ?_
                  refine tt_cv2 2 rfl (wo_18 hW_σ2) (c13 (am_set σ2 22 (((h * 6) + s)) (ix k ((((tb k h : Nat) : Int) + ((10 ^ s : Nat) : Int))))) k hW_σ2 hk6 hz2 (fun h hh => (hN2 h hh).1) _) (kp ?_)
                  refine tt_goto ?_
                  refine tt_iast (((h * 6) + s)) (wa_23 hW_σ2) (by omega) (by omega) (by omega) ?_
                  refine tt_iinc (y := ((s + 1 : Nat) : Int)) rfl (iinc_fit (by omega) (by omega) (by omega)) ?_
                  refine tt_goto ?_
                  refine tt_loc [(0, vR 18), (1, vI (((h : Nat) : Int))), (2, vI (((s + 1 : Nat) : Int)))] rfl rfl ⟨rfl, rfl, rfl, trivial⟩ ?_
                  exact ih2 (s + 1) _ (by omega) (Fr.put (Fr.put (Fr.tr Fr.rf hF_σ2 (by decide)) (by decide)) (by decide)) (by omega) (ml_step (σ1 := σ1) hM2 (by unfold moV; first | (rw [if_pos (by omega)]) | (rw [if_neg (by omega)])) (by unfold leV; first | (rw [if_pos (by omega)]) | (rw [if_neg (by omega)]))) (ml_out hO2 (by omega))
        refine tt_loc [(0, vR 18), (1, vI (((h : Nat) : Int))), (2, vI (((0 : Nat) : Int)))] rfl rfl ⟨rfl, rfl, lv_to rfl (by omega), trivial⟩ ?_
        exact lp2_5 _ (0) σ1 (Nat.lt_succ_self _) Fr.rf (by omega) (fun t ht => absurd ht (Nat.not_lt_zero t)) (fun j _ => ⟨rfl, rfl⟩)
  refine tt_loc [(0, vR 18), (1, vI (((0 : Nat) : Int)))] rfl rfl ⟨rfl, lv_to rfl (by omega), trivial⟩ ?_
  exact lp1_2 _ (0) σ0 (Nat.lt_succ_self _) (Fr.tr Fr.rf hF0 (by decide)) (by omega) hz0 hN0 (fun t ht => absurd ht (Nat.not_lt_zero t)) (fun t ht => absurd ht (Nat.not_lt_zero t))

