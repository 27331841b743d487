/-! GROWING BACKWARDS; SPREAD, GATHER -/
theorem gb_step {k h : Nat} {into c : Nat → Int} {p : Int} (hk : k ≤ 6) (hi : ∀ s, s < 6 → into s = -9 ∨ (0 ≤ into s ∧ into s < (k : Int))) (hh : h < nkT k) : (∀ u, grR k (rvP (GP into)) u h → lsF c (fun s => olV k into (tb k h) s) p k (c h) ≤ c u + p) ∧ (lsF c (fun s => olV k into (tb k h) s) p k (c h) = c h ∨ ∃ u, u < nkT k ∧ grR k (rvP (GP into)) u h ∧ lsF c (fun s => olV k into (tb k h) s) p k (c h) = c u + p) := by
  constructor
  · intro u hu
    obtain ⟨s, q1, q2⟩ := gr_olV hk (gr_rev' _ _ hu)
    have := lsF_cl (c := c) (b := fun s => olV k into (tb k h) s) (p := p) (x := c h) q1 (by show 0 ≤ olV k into (tb k h) s; rw [q2]; omega)
    have this : lsF c (fun s => olV k into (tb k h) s) p k (c h) ≤ c (olV k into (tb k h) s).toNat + p := this
    rw [q2] at this
    exact this
  · rcases lsF_or (c := c) (b := fun s => olV k into (tb k h) s) (p := p) (x := c h) k with q | ⟨s, q1, q2, q3⟩
    · exact Or.inl q
    · obtain ⟨r1, r2⟩ := olV_gr hk hi hh q1 q2
      exact Or.inr ⟨_, r1, gr_rev _ _ r2, q3⟩
theorem c109_33 (σ : am_S) (k : Nat) (hW : Wd σ) (hD : LD k σ) (hH : HT k σ) (hc : bnN (nkT k) (σ.1 33)) : CC 109 [vR 32, vR 33] σ (fun r σ' => r = none ∧ Fr [33] σ σ' ∧ bnN (nkT k) (σ'.1 33) ∧ leR (nkT k) (σ.1 33) (σ'.1 33) ∧ clR (nkT k) (grR k (rvP (GP (σ.1 6)))) (σ.1 9 2) (σ'.1 33) ∧ frR (nkT k) (grR k (rvP (GP (σ.1 6)))) (σ.1 9 2) (σ.1 33) (σ'.1 33)) := by
  show TT am_b109 (am_b109.getD 0 []) [(0, vR 32), (1, vR 33)] [] σ _
  have hk6 := hD.2.1
  have hnb := nkT_bd k
  have hpw := hD.2.2.2.1 2 (by omega)
  refine tt_ar rfl ?_
  refine tt_getR (wo_32 hW) rfl (wr_32_0 hW) ?_
  refine tt_getR (wo_5 hW) rfl (wr_5_5 hW) ?_
  refine tt_ar rfl ?_
  refine tt_iald (2) (x := σ.1 9 (2)) (wa_9 hW) rfl (by omega) rfl ?_
  have hb9 := hD.2.2.2.1 (2) (by omega)
  refine tt_ar rfl ?_
  refine tt_ar rfl ?_
  refine tt_ar rfl ?_
  refine tt_ar rfl ?_
  refine tt_ar rfl ?_
  refine tt_nop ?_
  have lp1_1 : ∀ (μ : Nat) (ch : Int) (t : Nat) (σ1 : am_S), 64 - t < μ → Fr [33] σ σ1 → (ch = 0 ∨ ch = 1) → (t ≤ 64) → (bnN (nkT k) (σ1.1 33)) → (leR (nkT k) (σ.1 33) (σ1.1 33)) → (frR (nkT k) (grR k (rvP (GP (σ.1 6)))) (σ.1 9 2) (σ.1 33) (σ1.1 33)) → (bdR (nkT k) (grR k (rvP (GP (σ.1 6)))) (σ.1 9 2) (σ.1 33) (σ1.1 33) t) → (ch = 0 → clR (nkT k) (grR k (rvP (GP (σ.1 6)))) (σ.1 9 2) (σ1.1 33)) → TT am_b109 (am_b109.getD 1 []) [(0, vR 32), (1, vR 33), (2, vI (σ.1 9 (2))), (3, vI (ch)), (4, vI (((t : Nat) : Int)))] [] σ1 (fun r σ' => r = none ∧ Fr [33] σ σ' ∧ bnN (nkT k) (σ'.1 33) ∧ leR (nkT k) (σ.1 33) (σ'.1 33) ∧ clR (nkT k) (grR k (rvP (GP (σ.1 6)))) (σ.1 9 2) (σ'.1 33) ∧ frR (nkT k) (grR k (rvP (GP (σ.1 6)))) (σ.1 9 2) (σ.1 33) (σ'.1 33)) := by
    intro μ
    induction μ with
    | zero => intro ch t σ1 hμ; exact absurd hμ (Nat.not_lt_zero _)
    | succ μ ih1 =>
      intro ch t σ1 hμ hF_σ1 h01 ht hbn hle hfr hbd hcl
      have hW_σ1 := Fr.wd hF_σ1 hW
      refine tt_ar rfl ?_
      refine tt_ifeq (fun h1_1 => ?_) (fun h1_1 => ?_)
      · refine tt_vret ?_
        exact ⟨rfl, hF_σ1, hbn, hle, hcl (by omega), hfr⟩
      · refine tt_ar rfl ?_
        refine tt_ar rfl ?_
        refine tt_icge (fun h1_4 => ?_) (fun h1_4 => ?_)
        · refine tt_vret ?_
          exact ⟨rfl, hF_σ1, hbn, hle, bdR_close hpw.1 (show 26 ≤ t by omega) (fun _ _ => gr_lt) (fun n u v hu h => grow_short' hk6 (foP_lt hD.2.2.2.2) hu h) hbd hfr, hfr⟩
        · refine tt_ar rfl ?_
          refine tt_ar rfl ?_
          refine tt_ar rfl ?_
          refine tt_getR (wo_32 hW_σ1) rfl (wr_32_1 hW_σ1) ?_
          refine tt_getI (x := ((nkT k : Nat) : Int)) (wo_18 hW_σ1) rfl ((hF_σ1.2 18 (by decide) (1)).trans hH.1) ?_
          refine tt_ar rfl ?_
          refine tt_isub (by omega) (by omega) ?_
          refine tt_ar rfl ?_
          refine tt_nop ?_
          have lp2_2 : ∀ (μ : Nat) (j : Nat) (ch2 : Int) (σ2 : am_S), j < μ → Fr [33] σ1 σ2 → (j ≤ nkT k) → (ch2 = 0 ∨ ch2 = 1) → (bnN (nkT k) (σ2.1 33)) → (leR (nkT k) (σ1.1 33) (σ2.1 33)) → (frR (nkT k) (grR k (rvP (GP (σ.1 6)))) (σ.1 9 2) (σ.1 33) (σ2.1 33)) → (∀ u v, j ≤ v → v < nkT k → (grR k (rvP (GP (σ.1 6)))) u v → σ2.1 33 v ≤ σ1.1 33 u + (σ.1 9 2)) → (ch2 = 0 → ∀ x, x < nkT k → σ2.1 33 x = σ1.1 33 x) → TT am_b109 (am_b109.getD 2 []) [(0, vR 32), (1, vR 33), (2, vI (σ.1 9 (2))), (3, vI (ch2)), (4, vI (((t : Nat) : Int))), (5, vI ((((j : Nat) : Int) - 1)))] [] σ2 (fun r σ' => r = none ∧ Fr [33] σ σ' ∧ bnN (nkT k) (σ'.1 33) ∧ leR (nkT k) (σ.1 33) (σ'.1 33) ∧ clR (nkT k) (grR k (rvP (GP (σ.1 6)))) (σ.1 9 2) (σ'.1 33) ∧ frR (nkT k) (grR k (rvP (GP (σ.1 6)))) (σ.1 9 2) (σ.1 33) (σ'.1 33)) := by
            intro μ
            induction μ with
            | zero => intro j ch2 σ2 hμ; exact absurd hμ (Nat.not_lt_zero _)
            | succ μ ih2 =>
              intro j ch2 σ2 hμ hF_σ2 hj h01b hbn2 hle2 hfr2 he2 hq2
              have hW_σ2 := Fr.wd hF_σ2 hW_σ1
              refine tt_ar rfl ?_
              refine tt_iflt (fun h2_1 => ?_) (fun h2_1 => ?_)
              · refine tt_iinc (y := ((t + 1 : Nat) : Int)) rfl (iinc_fit (by omega) (by omega) (by omega)) ?_
                refine tt_goto ?_
                refine tt_loc [(0, vR 32), (1, vR 33), (2, vI (σ.1 9 (2))), (3, vI (ch2)), (4, vI (((t + 1 : Nat) : Int)))] rfl rfl ⟨rfl, rfl, rfl, rfl, rfl, trivial⟩ ?_
                exact ih1 (ch2) (t + 1) σ2 (by omega) (Fr.tr (Fr.tr Fr.rf hF_σ1 (by decide)) hF_σ2 (by decide)) h01b (by omega) hbn2 (fun h hh => Int.le_trans (hle2 h hh) (hle h hh)) hfr2 (bdR_round (fun _ _ => gr_lt) hbd hle2 (fun u v hu hv => he2 u v (by omega) (gr_lt hv) hv)) (fun hz u v hu hv hR => by have q := he2 u v (by omega) hv hR; rw [hq2 hz u hu]; exact q)
              · refine tt_loc [(0, vR 32), (1, vR 33), (2, vI (σ.1 9 (2))), (3, vI (ch2)), (4, vI (((t : Nat) : Int))), (5, vI (((j - 1 : Nat) : Int)))] rfl rfl ⟨rfl, rfl, rfl, rfl, rfl, lv_to rfl (by omega), trivial⟩ ?_
                refine tt_ar rfl ?_
                refine tt_ar rfl ?_
                refine tt_ar rfl ?_
                refine tt_getR (wo_32 hW_σ2) rfl (wr_32_1 hW_σ2) ?_
                refine tt_getR (wo_18 hW_σ2) rfl (wr_18_7 hW_σ2) ?_
                refine tt_ar rfl ?_
                refine tt_ar rfl ?_
                refine tt_cv5 5 rfl (wo_32 hW_σ2) (c96_33_24 σ2 k hW_σ2 (LD.fr (L := [33]) (Fr.tr (Fr.tr Fr.rf hF_σ1 (by decide)) hF_σ2 (by decide)) (by decide) hD) (HT.fr (L := [33]) (Fr.tr (Fr.tr Fr.rf hF_σ1 (by decide)) hF_σ2 (by decide)) (by decide) hH) (j - 1) (σ.1 9 2) (fun s => olV k (σ.1 6) (tb k (j - 1)) s) (by omega) hpw hbn2 (fun s hs => (hF_σ2.2 24 (by decide) _).trans ((hF_σ1.2 24 (by decide) _).trans (hH.2.2.2.1 (j - 1) (by omega) s hs))) (fun s hs => olV_bd hk6)) (kp ?_)
                have hv := lsF_bd (c := σ2.1 33) (b := fun s => olV k (σ.1 6) (tb k (j - 1)) s) (p := σ.1 9 2) (x := σ2.1 33 (j - 1)) (N := nkT k) (n := k) hpw.1 (hbn2 (j - 1) (by omega)).1 (fun s hs => (olV_bd hk6).2) (fun h hh => (hbn2 h hh).1)
                have hv2 := hbn2 (j - 1) (by omega)
                obtain ⟨hg1, hg2⟩ := gb_step (c := σ2.1 33) (p := σ.1 9 2) hk6 hD.2.2.2.2 (show j - 1 < nkT k by omega)
                generalize hls : lsF (σ2.1 33) (fun s => olV k (σ.1 6) (tb k (j - 1)) s) (σ.1 9 2) k (σ2.1 33 (j - 1)) = lst at hv hg1 hg2
                refine tt_ar rfl ?_
                refine tt_ar rfl ?_
                refine tt_ar rfl ?_
                refine tt_ar rfl ?_
                refine tt_iald (j - 1) (x := σ2.1 33 (j - 1)) (wa_33 hW_σ2) rfl (by omega) rfl ?_
                refine tt_icge (fun h2_15 => ?_) (fun h2_15 => ?_)
                · refine tt_iinc (y := (((j - 1 : Nat) : Int) - 1)) rfl (iinc_fit (by omega) (by omega) (by omega)) ?_
                  refine tt_goto ?_
                  refine tt_loc [(0, vR 32), (1, vR 33), (2, vI (σ.1 9 (2))), (3, vI (ch2)), (4, vI (((t : Nat) : Int))), (5, vI ((((j - 1 : Nat) : Int) - 1)))] rfl rfl ⟨rfl, rfl, rfl, rfl, rfl, rfl, trivial⟩ ?_
                  exact ih2 (j - 1) (ch2) σ2 (by omega) (Fr.tr Fr.rf hF_σ2 (by decide)) (by omega) (by omega) (by first | exact hbn2 | (rw [am_set_up]; exact hbn2.up (by omega))) (by first | exact hle2 | (rw [am_set_up]; intro x hx; unfold upI; split; (rename_i e; subst e; have := hle2 (j - 1) hx; omega); exact hle2 x hx)) (by first | exact hfr2 | (rw [am_set_up]; rcases hg2 with e | ⟨u, e1, e2, e3⟩; (exfalso; omega); exact fr_step hfr2 e1 e2 e3)) (fun u v h1 h2 hR => by have hu := gr_ul hR; have q1 := hle2 u hu; first | (rw [am_set_up]; by_cases e : v = j - 1; (subst e; rw [upI_at]; have := hg1 u hR; omega); (rw [upI_ne e]; exact he2 u v (by omega) h2 hR)) | (by_cases e : v = j - 1; (subst e; have := hg1 u hR; omega); exact he2 u v (by omega) h2 hR)) (by first | exact hq2 | (intro h; omega))
                · refine tt_ar rfl ?_
                  refine tt_ar rfl ?_
                  refine tt_ar rfl ?_
                  refine tt_iast (j - 1) (wa_33 hW_σ2) (by omega) rfl (by omega) ?_
                  refine tt_ar rfl ?_
                  refine tt_ar rfl ?_
                  refine tt_nop ?_
                  refine tt_iinc (y := (((j - 1 : Nat) : Int) - 1)) rfl (iinc_fit (by omega) (by omega) (by omega)) ?_
                  refine tt_goto ?_
                  refine tt_loc [(0, vR 32), (1, vR 33), (2, vI (σ.1 9 (2))), (3, vI (1)), (4, vI (((t : Nat) : Int))), (5, vI ((((j - 1 : Nat) : Int) - 1)))] rfl rfl ⟨rfl, rfl, rfl, rfl, rfl, rfl, trivial⟩ ?_
                  exact ih2 (j - 1) (1) _ (by omega) (Fr.put (Fr.tr Fr.rf hF_σ2 (by decide)) (by decide)) (by omega) (by omega) (by first | exact hbn2 | (rw [am_set_up]; exact hbn2.up (by omega))) (by first | exact hle2 | (rw [am_set_up]; intro x hx; unfold upI; split; (rename_i e; subst e; have := hle2 (j - 1) hx; omega); exact hle2 x hx)) (by first | exact hfr2 | (rw [am_set_up]; rcases hg2 with e | ⟨u, e1, e2, e3⟩; (exfalso; omega); exact fr_step hfr2 e1 e2 e3)) (fun u v h1 h2 hR => by have hu := gr_ul hR; have q1 := hle2 u hu; first | (rw [am_set_up]; by_cases e : v = j - 1; (subst e; rw [upI_at]; have := hg1 u hR; omega); (rw [upI_ne e]; exact he2 u v (by omega) h2 hR)) | (by_cases e : v = j - 1; (subst e; have := hg1 u hR; omega); exact he2 u v (by omega) h2 hR)) (by first | exact hq2 | (intro h; omega))
          refine tt_loc [(0, vR 32), (1, vR 33), (2, vI (σ.1 9 (2))), (3, vI (0)), (4, vI (((t : Nat) : Int))), (5, vI ((((nkT k : Nat) : Int) - 1)))] rfl rfl ⟨rfl, rfl, rfl, rfl, rfl, rfl, trivial⟩ ?_
          exact lp2_2 _ (nkT k) (0) σ1 (Nat.lt_succ_self _) Fr.rf (by omega) (Or.inl rfl) hbn (fun h _ => Int.le_refl _) hfr (fun u v h1 h2 => absurd h1 (by omega)) (fun _ x _ => rfl)
  refine tt_loc [(0, vR 32), (1, vR 33), (2, vI (σ.1 9 (2))), (3, vI (1)), (4, vI (((0 : Nat) : Int)))] rfl rfl ⟨rfl, rfl, rfl, rfl, lv_to rfl (by omega), trivial⟩ ?_
  exact lp1_1 _ (1) (0) σ (Nat.lt_succ_self _) Fr.rf (Or.inr rfl) (by omega) hc (fun h _ => Int.le_refl _) frR_0 bdR_0 (fun h => by omega)

theorem c109_38 (σ : am_S) (k : Nat) (hW : Wd σ) (hD : LD k σ) (hH : HT k σ) (hc : bnN (nkT k) (σ.1 38)) : CC 109 [vR 32, vR 38] σ (fun r σ' => r = none ∧ Fr [38] σ σ' ∧ bnN (nkT k) (σ'.1 38) ∧ leR (nkT k) (σ.1 38) (σ'.1 38) ∧ clR (nkT k) (grR k (rvP (GP (σ.1 6)))) (σ.1 9 2) (σ'.1 38) ∧ frR (nkT k) (grR k (rvP (GP (σ.1 6)))) (σ.1 9 2) (σ.1 38) (σ'.1 38)) := by
  show TT am_b109 (am_b109.getD 0 []) [(0, vR 32), (1, vR 38)] [] σ _
  have hk6 := hD.2.1
  have hnb := nkT_bd k
  have hpw := hD.2.2.2.1 2 (by omega)
  refine tt_ar rfl ?_
  refine tt_getR (wo_32 hW) rfl (wr_32_0 hW) ?_
  refine tt_getR (wo_5 hW) rfl (wr_5_5 hW) ?_
  refine tt_ar rfl ?_
  refine tt_iald (2) (x := σ.1 9 (2)) (wa_9 hW) rfl (by omega) rfl ?_
  have hb9 := hD.2.2.2.1 (2) (by omega)
  refine tt_ar rfl ?_
  refine tt_ar rfl ?_
  refine tt_ar rfl ?_
  refine tt_ar rfl ?_
  refine tt_ar rfl ?_
  refine tt_nop ?_
  have lp1_1 : ∀ (μ : Nat) (ch : Int) (t : Nat) (σ1 : am_S), 64 - t < μ → Fr [38] σ σ1 → (ch = 0 ∨ ch = 1) → (t ≤ 64) → (bnN (nkT k) (σ1.1 38)) → (leR (nkT k) (σ.1 38) (σ1.1 38)) → (frR (nkT k) (grR k (rvP (GP (σ.1 6)))) (σ.1 9 2) (σ.1 38) (σ1.1 38)) → (bdR (nkT k) (grR k (rvP (GP (σ.1 6)))) (σ.1 9 2) (σ.1 38) (σ1.1 38) t) → (ch = 0 → clR (nkT k) (grR k (rvP (GP (σ.1 6)))) (σ.1 9 2) (σ1.1 38)) → TT am_b109 (am_b109.getD 1 []) [(0, vR 32), (1, vR 38), (2, vI (σ.1 9 (2))), (3, vI (ch)), (4, vI (((t : Nat) : Int)))] [] σ1 (fun r σ' => r = none ∧ Fr [38] σ σ' ∧ bnN (nkT k) (σ'.1 38) ∧ leR (nkT k) (σ.1 38) (σ'.1 38) ∧ clR (nkT k) (grR k (rvP (GP (σ.1 6)))) (σ.1 9 2) (σ'.1 38) ∧ frR (nkT k) (grR k (rvP (GP (σ.1 6)))) (σ.1 9 2) (σ.1 38) (σ'.1 38)) := by
    intro μ
    induction μ with
    | zero => intro ch t σ1 hμ; exact absurd hμ (Nat.not_lt_zero _)
    | succ μ ih1 =>
      intro ch t σ1 hμ hF_σ1 h01 ht hbn hle hfr hbd hcl
      have hW_σ1 := Fr.wd hF_σ1 hW
      refine tt_ar rfl ?_
      refine tt_ifeq (fun h1_1 => ?_) (fun h1_1 => ?_)
      · refine tt_vret ?_
        exact ⟨rfl, hF_σ1, hbn, hle, hcl (by omega), hfr⟩
      · refine tt_ar rfl ?_
        refine tt_ar rfl ?_
        refine tt_icge (fun h1_4 => ?_) (fun h1_4 => ?_)
        · refine tt_vret ?_
          exact ⟨rfl, hF_σ1, hbn, hle, bdR_close hpw.1 (show 26 ≤ t by omega) (fun _ _ => gr_lt) (fun n u v hu h => grow_short' hk6 (foP_lt hD.2.2.2.2) hu h) hbd hfr, hfr⟩
        · refine tt_ar rfl ?_
          refine tt_ar rfl ?_
          refine tt_ar rfl ?_
          refine tt_getR (wo_32 hW_σ1) rfl (wr_32_1 hW_σ1) ?_
          refine tt_getI (x := ((nkT k : Nat) : Int)) (wo_18 hW_σ1) rfl ((hF_σ1.2 18 (by decide) (1)).trans hH.1) ?_
          refine tt_ar rfl ?_
          refine tt_isub (by omega) (by omega) ?_
          refine tt_ar rfl ?_
          refine tt_nop ?_
          have lp2_2 : ∀ (μ : Nat) (j : Nat) (ch2 : Int) (σ2 : am_S), j < μ → Fr [38] σ1 σ2 → (j ≤ nkT k) → (ch2 = 0 ∨ ch2 = 1) → (bnN (nkT k) (σ2.1 38)) → (leR (nkT k) (σ1.1 38) (σ2.1 38)) → (frR (nkT k) (grR k (rvP (GP (σ.1 6)))) (σ.1 9 2) (σ.1 38) (σ2.1 38)) → (∀ u v, j ≤ v → v < nkT k → (grR k (rvP (GP (σ.1 6)))) u v → σ2.1 38 v ≤ σ1.1 38 u + (σ.1 9 2)) → (ch2 = 0 → ∀ x, x < nkT k → σ2.1 38 x = σ1.1 38 x) → TT am_b109 (am_b109.getD 2 []) [(0, vR 32), (1, vR 38), (2, vI (σ.1 9 (2))), (3, vI (ch2)), (4, vI (((t : Nat) : Int))), (5, vI ((((j : Nat) : Int) - 1)))] [] σ2 (fun r σ' => r = none ∧ Fr [38] σ σ' ∧ bnN (nkT k) (σ'.1 38) ∧ leR (nkT k) (σ.1 38) (σ'.1 38) ∧ clR (nkT k) (grR k (rvP (GP (σ.1 6)))) (σ.1 9 2) (σ'.1 38) ∧ frR (nkT k) (grR k (rvP (GP (σ.1 6)))) (σ.1 9 2) (σ.1 38) (σ'.1 38)) := by
            intro μ
            induction μ with
            | zero => intro j ch2 σ2 hμ; exact absurd hμ (Nat.not_lt_zero _)
            | succ μ ih2 =>
              intro j ch2 σ2 hμ hF_σ2 hj h01b hbn2 hle2 hfr2 he2 hq2
              have hW_σ2 := Fr.wd hF_σ2 hW_σ1
              refine tt_ar rfl ?_
              refine tt_iflt (fun h2_1 => ?_) (fun h2_1 => ?_)
              · refine tt_iinc (y := ((t + 1 : Nat) : Int)) rfl (iinc_fit (by omega) (by omega) (by omega)) ?_
                refine tt_goto ?_
                refine tt_loc [(0, vR 32), (1, vR 38), (2, vI (σ.1 9 (2))), (3, vI (ch2)), (4, vI (((t + 1 : Nat) : Int)))] rfl rfl ⟨rfl, rfl, rfl, rfl, rfl, trivial⟩ ?_
                exact ih1 (ch2) (t + 1) σ2 (by omega) (Fr.tr (Fr.tr Fr.rf hF_σ1 (by decide)) hF_σ2 (by decide)) h01b (by omega) hbn2 (fun h hh => Int.le_trans (hle2 h hh) (hle h hh)) hfr2 (bdR_round (fun _ _ => gr_lt) hbd hle2 (fun u v hu hv => he2 u v (by omega) (gr_lt hv) hv)) (fun hz u v hu hv hR => by have q := he2 u v (by omega) hv hR; rw [hq2 hz u hu]; exact q)
              · refine tt_loc [(0, vR 32), (1, vR 38), (2, vI (σ.1 9 (2))), (3, vI (ch2)), (4, vI (((t : Nat) : Int))), (5, vI (((j - 1 : Nat) : Int)))] rfl rfl ⟨rfl, rfl, rfl, rfl, rfl, lv_to rfl (by omega), trivial⟩ ?_
                refine tt_ar rfl ?_
                refine tt_ar rfl ?_
                refine tt_ar rfl ?_
                refine tt_getR (wo_32 hW_σ2) rfl (wr_32_1 hW_σ2) ?_
                refine tt_getR (wo_18 hW_σ2) rfl (wr_18_7 hW_σ2) ?_
                refine tt_ar rfl ?_
                refine tt_ar rfl ?_
                refine tt_cv5 5 rfl (wo_32 hW_σ2) (c96_38_24 σ2 k hW_σ2 (LD.fr (L := [38]) (Fr.tr (Fr.tr Fr.rf hF_σ1 (by decide)) hF_σ2 (by decide)) (by decide) hD) (HT.fr (L := [38]) (Fr.tr (Fr.tr Fr.rf hF_σ1 (by decide)) hF_σ2 (by decide)) (by decide) hH) (j - 1) (σ.1 9 2) (fun s => olV k (σ.1 6) (tb k (j - 1)) s) (by omega) hpw hbn2 (fun s hs => (hF_σ2.2 24 (by decide) _).trans ((hF_σ1.2 24 (by decide) _).trans (hH.2.2.2.1 (j - 1) (by omega) s hs))) (fun s hs => olV_bd hk6)) (kp ?_)
                have hv := lsF_bd (c := σ2.1 38) (b := fun s => olV k (σ.1 6) (tb k (j - 1)) s) (p := σ.1 9 2) (x := σ2.1 38 (j - 1)) (N := nkT k) (n := k) hpw.1 (hbn2 (j - 1) (by omega)).1 (fun s hs => (olV_bd hk6).2) (fun h hh => (hbn2 h hh).1)
                have hv2 := hbn2 (j - 1) (by omega)
                obtain ⟨hg1, hg2⟩ := gb_step (c := σ2.1 38) (p := σ.1 9 2) hk6 hD.2.2.2.2 (show j - 1 < nkT k by omega)
                generalize hls : lsF (σ2.1 38) (fun s => olV k (σ.1 6) (tb k (j - 1)) s) (σ.1 9 2) k (σ2.1 38 (j - 1)) = lst at hv hg1 hg2
                refine tt_ar rfl ?_
                refine tt_ar rfl ?_
                refine tt_ar rfl ?_
                refine tt_ar rfl ?_
                refine tt_iald (j - 1) (x := σ2.1 38 (j - 1)) (wa_38 hW_σ2) rfl (by omega) rfl ?_
                refine tt_icge (fun h2_15 => ?_) (fun h2_15 => ?_)
                · refine tt_iinc (y := (((j - 1 : Nat) : Int) - 1)) rfl (iinc_fit (by omega) (by omega) (by omega)) ?_
                  refine tt_goto ?_
                  refine tt_loc [(0, vR 32), (1, vR 38), (2, vI (σ.1 9 (2))), (3, vI (ch2)), (4, vI (((t : Nat) : Int))), (5, vI ((((j - 1 : Nat) : Int) - 1)))] rfl rfl ⟨rfl, rfl, rfl, rfl, rfl, rfl, trivial⟩ ?_
                  exact ih2 (j - 1) (ch2) σ2 (by omega) (Fr.tr Fr.rf hF_σ2 (by decide)) (by omega) (by omega) (by first | exact hbn2 | (rw [am_set_up]; exact hbn2.up (by omega))) (by first | exact hle2 | (rw [am_set_up]; intro x hx; unfold upI; split; (rename_i e; subst e; have := hle2 (j - 1) hx; omega); exact hle2 x hx)) (by first | exact hfr2 | (rw [am_set_up]; rcases hg2 with e | ⟨u, e1, e2, e3⟩; (exfalso; omega); exact fr_step hfr2 e1 e2 e3)) (fun u v h1 h2 hR => by have hu := gr_ul hR; have q1 := hle2 u hu; first | (rw [am_set_up]; by_cases e : v = j - 1; (subst e; rw [upI_at]; have := hg1 u hR; omega); (rw [upI_ne e]; exact he2 u v (by omega) h2 hR)) | (by_cases e : v = j - 1; (subst e; have := hg1 u hR; omega); exact he2 u v (by omega) h2 hR)) (by first | exact hq2 | (intro h; omega))
                · refine tt_ar rfl ?_
                  refine tt_ar rfl ?_
                  refine tt_ar rfl ?_
                  refine tt_iast (j - 1) (wa_38 hW_σ2) (by omega) rfl (by omega) ?_
                  refine tt_ar rfl ?_
                  refine tt_ar rfl ?_
                  refine tt_nop ?_
                  refine tt_iinc (y := (((j - 1 : Nat) : Int) - 1)) rfl (iinc_fit (by omega) (by omega) (by omega)) ?_
                  refine tt_goto ?_
                  refine tt_loc [(0, vR 32), (1, vR 38), (2, vI (σ.1 9 (2))), (3, vI (1)), (4, vI (((t : Nat) : Int))), (5, vI ((((j - 1 : Nat) : Int) - 1)))] rfl rfl ⟨rfl, rfl, rfl, rfl, rfl, rfl, trivial⟩ ?_
                  exact ih2 (j - 1) (1) _ (by omega) (Fr.put (Fr.tr Fr.rf hF_σ2 (by decide)) (by decide)) (by omega) (by omega) (by first | exact hbn2 | (rw [am_set_up]; exact hbn2.up (by omega))) (by first | exact hle2 | (rw [am_set_up]; intro x hx; unfold upI; split; (rename_i e; subst e; have := hle2 (j - 1) hx; omega); exact hle2 x hx)) (by first | exact hfr2 | (rw [am_set_up]; rcases hg2 with e | ⟨u, e1, e2, e3⟩; (exfalso; omega); exact fr_step hfr2 e1 e2 e3)) (fun u v h1 h2 hR => by have hu := gr_ul hR; have q1 := hle2 u hu; first | (rw [am_set_up]; by_cases e : v = j - 1; (subst e; rw [upI_at]; have := hg1 u hR; omega); (rw [upI_ne e]; exact he2 u v (by omega) h2 hR)) | (by_cases e : v = j - 1; (subst e; have := hg1 u hR; omega); exact he2 u v (by omega) h2 hR)) (by first | exact hq2 | (intro h; omega))
          refine tt_loc [(0, vR 32), (1, vR 38), (2, vI (σ.1 9 (2))), (3, vI (0)), (4, vI (((t : Nat) : Int))), (5, vI ((((nkT k : Nat) : Int) - 1)))] rfl rfl ⟨rfl, rfl, rfl, rfl, rfl, rfl, trivial⟩ ?_
          exact lp2_2 _ (nkT k) (0) σ1 (Nat.lt_succ_self _) Fr.rf (by omega) (Or.inl rfl) hbn (fun h _ => Int.le_refl _) hfr (fun u v h1 h2 => absurd h1 (by omega)) (fun _ x _ => rfl)
  refine tt_loc [(0, vR 32), (1, vR 38), (2, vI (σ.1 9 (2))), (3, vI (1)), (4, vI (((0 : Nat) : Int)))] rfl rfl ⟨rfl, rfl, rfl, rfl, lv_to rfl (by omega), trivial⟩ ?_
  exact lp1_1 _ (1) (0) σ (Nat.lt_succ_self _) Fr.rf (Or.inr rfl) (by omega) hc (fun h _ => Int.le_refl _) frR_0 bdR_0 (fun h => by omega)

