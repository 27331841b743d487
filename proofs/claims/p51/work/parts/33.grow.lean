/-! GROWING ON THE MACHINE -/
theorem fr_step {N : Nat} {R : Nat → Nat → Prop} {p : Int} {c0 c : Nat → Int} {h x : Nat} {v : Int} (hf : frR N R p c0 c) (hh : h < N) (hR : R h x) (hv : v = c h + p) : frR N R p c0 (upI c x v) := by
  intro y hy
  by_cases e : y = x
  · subst e
    obtain ⟨g, n, q1, q2, q3⟩ := hf h hh
    refine ⟨g, n + 1, q1, ⟨h, q2, hR⟩, ?_⟩
    rw [upI_at, hv, nsucc]
    omega
  · rw [upI_ne e]
    exact hf y hy
/-- what one household's growing does -/
def g1R (N : Nat) (R : Nat → Nat → Prop) (C : Int) (h : Nat) (c0 c : Nat → Int) : Prop := ∀ x, x < N → c x = c0 x ∨ (c x = C ∧ C < c0 x ∧ R h x)
theorem g1R.le {N h : Nat} {R : Nat → Nat → Prop} {C : Int} {c0 c : Nat → Int} (g : g1R N R C h c0 c) : ∀ x, x < N → c x ≤ c0 x := fun x hx => by rcases g x hx with e | ⟨e, e2, -⟩ <;> omega
theorem g1_put {k h s : Nat} {into c0 c : Nat → Int} {C : Int} (hG : g1R (nkT k) (grR k (GP into)) C h c0 c) (hk : k ≤ 6) (hi : ∀ s, s < 6 → into s = -9 ∨ (0 ≤ into s ∧ into s < (k : Int))) (hh : h < nkT k) (hs : s < k) (h0 : 0 ≤ olV k into (tb k h) s) (hlt : C < c (olV k into (tb k h) s).toNat) : g1R (nkT k) (grR k (GP into)) C h c0 (upI c (olV k into (tb k h) s).toNat C) := by
  obtain ⟨q1, q2⟩ := olV_gr hk hi hh hs h0
  intro x hx
  by_cases e : x = (olV k into (tb k h) s).toNat
  · subst e
    rw [upI_at]
    rcases hG _ hx with h | ⟨h, h2, h3⟩
    · exact Or.inr ⟨rfl, by omega, q2⟩
    · omega
  · rw [upI_ne e]
    exact hG x hx
theorem gr_bn {k h : Nat} {R : Nat → Nat → Prop} {p : Int} {c c' : Nat → Int} (hG : g1R (nkT k) R (c h + p) h c c') (hb : bnN (nkT k) c) (hh : h < nkT k) (hp : 0 ≤ p) : bnN (nkT k) c' := by
  intro x hx
  have h1 := hb x hx
  have h2 := hb h hh
  rcases hG x hx with e | ⟨e, e2, -⟩ <;> omega
theorem gr_fr {k h : Nat} {R : Nat → Nat → Prop} {p : Int} {c0 c c' : Nat → Int} (hG : g1R (nkT k) R (c h + p) h c c') (hf : frR (nkT k) R p c0 c) (hh : h < nkT k) : frR (nkT k) R p c0 c' := by
  intro x hx
  rcases hG x hx with e | ⟨e, e2, e3⟩
  · obtain ⟨g, n, q1, q2, q3⟩ := hf x hx
    exact ⟨g, n, q1, q2, by omega⟩
  · obtain ⟨g, n, q1, q2, q3⟩ := hf h hh
    refine ⟨g, n + 1, q1, ⟨h, q2, e3⟩, ?_⟩
    rw [nsucc]
    omega
theorem c98_33 (σ : am_S) (k : Nat) (hW : Wd σ) (hD : LD k σ) (hH : HT k σ) (h : Nat) (hh : h < nkT k) (hc : bnN (nkT k) (σ.1 33)) : CC 98 [vR 32, vR 33, vI (((h : Nat) : Int))] σ (fun r σ' => ∃ ch, (ch = 0 ∨ ch = 1) ∧ r = some (vI ch) ∧ Fr [33] σ σ' ∧ g1R (nkT k) (grR k (GP (σ.1 6))) (σ.1 33 h + σ.1 9 2) h (σ.1 33) (σ'.1 33) ∧ (∀ x, grR k (GP (σ.1 6)) h x → σ'.1 33 x ≤ σ.1 33 h + σ.1 9 2) ∧ (ch = 0 → ∀ x, x < nkT k → σ'.1 33 x = σ.1 33 x)) := by
  show TT am_b98 (am_b98.getD 0 []) [(0, vR 32), (1, vR 33), (2, vI (((h : Nat) : Int)))] [] σ _
  have hk6 := hD.2.1
  have hnb := nkT_bd k
  have hch := hc h hh
  have hpw := hD.2.2.2.1 2 (by omega)
  refine tt_ar rfl ?_
  refine tt_ar rfl ?_
  refine tt_iald (h) (x := σ.1 33 (h)) (wa_33 hW) rfl (by omega) rfl ?_
  refine tt_ar rfl ?_
  refine tt_getR (wo_32 hW) rfl (wr_32_0 hW) ?_
  refine tt_getR (wo_5 hW) rfl (wr_5_5 hW) ?_
  refine tt_ar rfl ?_
  refine tt_iald (2) (x := σ.1 9 (2)) (wa_9 hW) rfl (by omega) rfl ?_
  have hb9 := hD.2.2.2.1 (2) (by omega)
  refine tt_iadd (by omega) (by omega) ?_
  refine tt_ar rfl ?_
  refine tt_ar rfl ?_
  refine tt_ar rfl ?_
  refine tt_ar rfl ?_
  refine tt_ar rfl ?_
  refine tt_imul (by omega) (by omega) ?_
  refine tt_ar rfl ?_
  refine tt_nop ?_
  have lp1_1 : ∀ (μ : Nat) (s : Nat) (ch : Int) (σ1 : am_S), k - s < μ → Fr [33] σ σ1 → (s ≤ k) → (ch = 0 ∨ ch = 1) → (g1R (nkT k) (grR k (GP (σ.1 6))) (σ.1 33 h + σ.1 9 2) h (σ.1 33) (σ1.1 33)) → (∀ t, t < s → 0 ≤ olV k (σ.1 6) (tb k h) t → σ1.1 33 (olV k (σ.1 6) (tb k h) t).toNat ≤ σ.1 33 h + σ.1 9 2) → (ch = 0 → ∀ x, x < nkT k → σ1.1 33 x = σ.1 33 x) → TT am_b98 (am_b98.getD 1 []) [(0, vR 32), (1, vR 33), (2, vI (((h : Nat) : Int))), (3, vI ((σ.1 33 (h) + σ.1 9 (2)))), (4, vI (ch)), (5, vI (((h * 6 + s : Nat) : Int)))] [] σ1 (fun r σ' => ∃ ch, (ch = 0 ∨ ch = 1) ∧ r = some (vI ch) ∧ Fr [33] σ σ' ∧ g1R (nkT k) (grR k (GP (σ.1 6))) (σ.1 33 h + σ.1 9 2) h (σ.1 33) (σ'.1 33) ∧ (∀ x, grR k (GP (σ.1 6)) h x → σ'.1 33 x ≤ σ.1 33 h + σ.1 9 2) ∧ (ch = 0 → ∀ x, x < nkT k → σ'.1 33 x = σ.1 33 x)) := by
    intro μ
    induction μ with
    | zero => intro s ch σ1 hμ; exact absurd hμ (Nat.not_lt_zero _)
    | succ μ ih1 =>
      intro s ch σ1 hμ hF_σ1 hs h01 hG hS hQ
      have hW_σ1 := Fr.wd hF_σ1 hW
      refine tt_ar rfl ?_
      refine tt_ar rfl ?_
      refine tt_ar rfl ?_
      refine tt_imul (by omega) (by omega) ?_
      refine tt_ar rfl ?_
      refine tt_getR (wo_32 hW_σ1) rfl (wr_32_0 hW_σ1) ?_
      refine tt_getI (x := ((k : Nat) : Int)) (wo_5 hW_σ1) rfl ((hF_σ1.2 5 (by decide) (0)).trans hD.1) ?_
      refine tt_iadd (by omega) (by omega) ?_
      refine tt_icge (fun h1_8 => ?_) (fun h1_8 => ?_)
      · refine tt_ar rfl ?_
        refine tt_zret (by omega) ?_
        refine ⟨ch, h01, rfl, hF_σ1, hG, fun x hx => ?_, hQ⟩
        obtain ⟨s2, q1, q2⟩ := gr_olV hk6 hx
        have := hS s2 (by omega) (by omega)
        rw [q2] at this
        exact this
      · refine tt_ar rfl ?_
        refine tt_getR (wo_32 hW_σ1) rfl (wr_32_1 hW_σ1) ?_
        refine tt_getR (wo_18 hW_σ1) rfl (wr_18_7 hW_σ1) ?_
        refine tt_ar rfl ?_
        refine tt_iald ((h * 6 + s)) (x := olV k (σ.1 6) (tb k h) s) (wa_24 hW_σ1) (by omega) (by omega) ((hF_σ1.2 24 (by decide) ((h * 6 + s))).trans (hH.2.2.2.1 h (by omega) s (by omega))) ?_
        have hov := olV_bd (num := tb k h) (s := s) (into := σ.1 6) hk6
        refine tt_iflt (fun h1_14 => ?_) (fun h1_14 => ?_)
        · refine tt_iinc (y := (((h * 6 + s) + 1 : Nat) : Int)) rfl (iinc_fit (by omega) (by omega) (by omega)) ?_
          refine tt_goto ?_
          refine tt_loc [(0, vR 32), (1, vR 33), (2, vI (((h : Nat) : Int))), (3, vI ((σ.1 33 (h) + σ.1 9 (2)))), (4, vI (ch)), (5, vI (((h * 6 + (s + 1) : Nat) : Int)))] rfl rfl ⟨rfl, rfl, rfl, rfl, rfl, lv_to rfl (by omega), trivial⟩ ?_
          exact ih1 (s + 1) (ch) σ1 (by omega) (Fr.tr Fr.rf hF_σ1 (by decide)) (by omega) (by omega) (by first | exact hG | (rw [am_set_up]; exact g1_put hG hk6 hD.2.2.2.2 hh (by omega) (by omega) (by omega))) (fun t ht h0 => by first | (rw [am_set_up]; by_cases e : t = s; (subst e; rw [upI_at]; exact Int.le_refl _); (unfold upI; split; exact Int.le_refl _; exact hS t (by omega) h0)) | (by_cases e : t = s; (subst e; omega); exact hS t (by omega) h0)) (by first | exact hQ | (intro h; omega))
        · refine tt_ar rfl ?_
          refine tt_ar rfl ?_
          refine tt_ar rfl ?_
          refine tt_getR (wo_32 hW_σ1) rfl (wr_32_1 hW_σ1) ?_
          refine tt_getR (wo_18 hW_σ1) rfl (wr_18_7 hW_σ1) ?_
          refine tt_ar rfl ?_
          refine tt_iald ((h * 6 + s)) (x := olV k (σ.1 6) (tb k h) s) (wa_24 hW_σ1) (by omega) (by omega) ((hF_σ1.2 24 (by decide) ((h * 6 + s))).trans (hH.2.2.2.1 h (by omega) s (by omega))) ?_
          have hov := olV_bd (num := tb k h) (s := s) (into := σ.1 6) hk6
          refine tt_iald ((olV k (σ.1 6) (tb k h) s).toNat) (x := σ1.1 33 ((olV k (σ.1 6) (tb k h) s).toNat)) (wa_33 hW_σ1) (by omega) (by omega) rfl ?_
          refine tt_icge (fun h1_23 => ?_) (fun h1_23 => ?_)
          · refine tt_iinc (y := (((h * 6 + s) + 1 : Nat) : Int)) rfl (iinc_fit (by omega) (by omega) (by omega)) ?_
            refine tt_goto ?_
            refine tt_loc [(0, vR 32), (1, vR 33), (2, vI (((h : Nat) : Int))), (3, vI ((σ.1 33 (h) + σ.1 9 (2)))), (4, vI (ch)), (5, vI (((h * 6 + (s + 1) : Nat) : Int)))] rfl rfl ⟨rfl, rfl, rfl, rfl, rfl, lv_to rfl (by omega), trivial⟩ ?_
            exact ih1 (s + 1) (ch) σ1 (by omega) (Fr.tr Fr.rf hF_σ1 (by decide)) (by omega) (by omega) (by first | exact hG | (rw [am_set_up]; exact g1_put hG hk6 hD.2.2.2.2 hh (by omega) (by omega) (by omega))) (fun t ht h0 => by first | (rw [am_set_up]; by_cases e : t = s; (subst e; rw [upI_at]; exact Int.le_refl _); (unfold upI; split; exact Int.le_refl _; exact hS t (by omega) h0)) | (by_cases e : t = s; (subst e; omega); exact hS t (by omega) h0)) (by first | exact hQ | (intro h; omega))
          · refine tt_ar rfl ?_
            refine tt_ar rfl ?_
            refine tt_getR (wo_32 hW_σ1) rfl (wr_32_1 hW_σ1) ?_
            refine tt_getR (wo_18 hW_σ1) rfl (wr_18_7 hW_σ1) ?_
            refine tt_ar rfl ?_
            refine tt_iald ((h * 6 + s)) (x := olV k (σ.1 6) (tb k h) s) (wa_24 hW_σ1) (by omega) (by omega) ((hF_σ1.2 24 (by decide) ((h * 6 + s))).trans (hH.2.2.2.1 h (by omega) s (by omega))) ?_
            have hov := olV_bd (num := tb k h) (s := s) (into := σ.1 6) hk6
            refine tt_ar rfl ?_
            refine tt_iast ((olV k (σ.1 6) (tb k h) s).toNat) (wa_33 hW_σ1) (by omega) (by omega) (by omega) ?_
            refine tt_ar rfl ?_
            refine tt_ar rfl ?_
            refine tt_nop ?_
            refine tt_iinc (y := (((h * 6 + s) + 1 : Nat) : Int)) rfl (iinc_fit (by omega) (by omega) (by omega)) ?_
            refine tt_goto ?_
            refine tt_loc [(0, vR 32), (1, vR 33), (2, vI (((h : Nat) : Int))), (3, vI ((σ.1 33 (h) + σ.1 9 (2)))), (4, vI (1)), (5, vI (((h * 6 + (s + 1) : Nat) : Int)))] rfl rfl ⟨rfl, rfl, rfl, rfl, rfl, lv_to rfl (by omega), trivial⟩ ?_
            exact ih1 (s + 1) (1) _ (by omega) (Fr.put (Fr.tr Fr.rf hF_σ1 (by decide)) (by decide)) (by omega) (by omega) (by first | exact hG | (rw [am_set_up]; exact g1_put hG hk6 hD.2.2.2.2 hh (by omega) (by omega) (by omega))) (fun t ht h0 => by first | (rw [am_set_up]; by_cases e : t = s; (subst e; rw [upI_at]; exact Int.le_refl _); (unfold upI; split; exact Int.le_refl _; exact hS t (by omega) h0)) | (by_cases e : t = s; (subst e; omega); exact hS t (by omega) h0)) (by first | exact hQ | (intro h; omega))
  refine tt_loc [(0, vR 32), (1, vR 33), (2, vI (((h : Nat) : Int))), (3, vI ((σ.1 33 (h) + σ.1 9 (2)))), (4, vI (0)), (5, vI (((h * 6 + 0 : Nat) : Int)))] rfl rfl ⟨rfl, rfl, rfl, rfl, rfl, lv_to rfl (by omega), trivial⟩ ?_
  exact lp1_1 _ (0) (0) σ (Nat.lt_succ_self _) Fr.rf (by omega) (Or.inl rfl) (fun x _ => Or.inl rfl) (fun t ht => absurd ht (Nat.not_lt_zero t)) (fun _ x _ => rfl)

theorem c97_33 (σ : am_S) (k : Nat) (hW : Wd σ) (hD : LD k σ) (hH : HT k σ) (hc : bnN (nkT k) (σ.1 33)) : CC 97 [vR 32, vR 33] σ (fun r σ' => r = none ∧ Fr [33] σ σ' ∧ bnN (nkT k) (σ'.1 33) ∧ leR (nkT k) (σ.1 33) (σ'.1 33) ∧ clR (nkT k) (grR k (GP (σ.1 6))) (σ.1 9 2) (σ'.1 33) ∧ frR (nkT k) (grR k (GP (σ.1 6))) (σ.1 9 2) (σ.1 33) (σ'.1 33)) := by
  show TT am_b97 (am_b97.getD 0 []) [(0, vR 32), (1, vR 33)] [] σ _
  have hk6 := hD.2.1
  have hnb := nkT_bd k
  have hpw := hD.2.2.2.1 2 (by omega)
  refine tt_ar rfl ?_
  refine tt_ar rfl ?_
  refine tt_ar rfl ?_
  refine tt_ar rfl ?_
  refine tt_nop ?_
  have lp1_1 : ∀ (μ : Nat) (ch : Int) (t : Nat) (σ1 : am_S), 64 - t < μ → Fr [33] σ σ1 → (ch = 0 ∨ ch = 1) → (t ≤ 64) → (bnN (nkT k) (σ1.1 33)) → (leR (nkT k) (σ.1 33) (σ1.1 33)) → (frR (nkT k) (grR k (GP (σ.1 6))) (σ.1 9 2) (σ.1 33) (σ1.1 33)) → (bdR (nkT k) (grR k (GP (σ.1 6))) (σ.1 9 2) (σ.1 33) (σ1.1 33) t) → (ch = 0 → clR (nkT k) (grR k (GP (σ.1 6))) (σ.1 9 2) (σ1.1 33)) → TT am_b97 (am_b97.getD 1 []) [(0, vR 32), (1, vR 33), (2, vI (ch)), (3, vI (((t : Nat) : Int)))] [] σ1 (fun r σ' => r = none ∧ Fr [33] σ σ' ∧ bnN (nkT k) (σ'.1 33) ∧ leR (nkT k) (σ.1 33) (σ'.1 33) ∧ clR (nkT k) (grR k (GP (σ.1 6))) (σ.1 9 2) (σ'.1 33) ∧ frR (nkT k) (grR k (GP (σ.1 6))) (σ.1 9 2) (σ.1 33) (σ'.1 33)) := by
    intro μ
    induction μ with
    | zero => intro ch t σ1 hμ; exact absurd hμ (Nat.not_lt_zero _)
    | succ μ ih1 =>
      intro ch t σ1 hμ hF_σ1 h01 ht hbn hle hfr hbd hcl
      have hW_σ1 := Fr.wd hF_σ1 hW
      refine tt_ar rfl ?_
      refine tt_ifeq (fun h1_1 => ?_) (fun h1_1 => ?_)
      · refine tt_vret ?_
        exact ⟨rfl, hF_σ1, hbn, hle, hcl (by omega), hfr⟩
      · refine tt_ar rfl ?_
        refine tt_ar rfl ?_
        refine tt_icge (fun h1_4 => ?_) (fun h1_4 => ?_)
        · refine tt_vret ?_
          exact ⟨rfl, hF_σ1, hbn, hle, bdR_close hpw.1 (show 26 ≤ t by omega) (fun _ _ => gr_lt) (fun n u v hu h => grow_short hk6 (foP_lt hD.2.2.2.2) hu h) hbd hfr, hfr⟩
        · refine tt_ar rfl ?_
          refine tt_ar rfl ?_
          refine tt_ar rfl ?_
          refine tt_ar rfl ?_
          refine tt_nop ?_
          have lp2_2 : ∀ (μ : Nat) (i : Nat) (ch2 : Int) (σ2 : am_S), nkT k - i < μ → Fr [33] σ1 σ2 → (i ≤ nkT k) → (ch2 = 0 ∨ ch2 = 1) → (bnN (nkT k) (σ2.1 33)) → (leR (nkT k) (σ1.1 33) (σ2.1 33)) → (frR (nkT k) (grR k (GP (σ.1 6))) (σ.1 9 2) (σ.1 33) (σ2.1 33)) → (∀ u, u < i → ∀ v, (grR k (GP (σ.1 6))) u v → σ2.1 33 v ≤ σ1.1 33 u + (σ.1 9 2)) → (ch2 = 0 → ∀ x, x < nkT k → σ2.1 33 x = σ1.1 33 x) → TT am_b97 (am_b97.getD 2 []) [(0, vR 32), (1, vR 33), (2, vI (ch2)), (3, vI (((t : Nat) : Int))), (4, vI (((i : Nat) : Int)))] [] σ2 (fun r σ' => r = none ∧ Fr [33] σ σ' ∧ bnN (nkT k) (σ'.1 33) ∧ leR (nkT k) (σ.1 33) (σ'.1 33) ∧ clR (nkT k) (grR k (GP (σ.1 6))) (σ.1 9 2) (σ'.1 33) ∧ frR (nkT k) (grR k (GP (σ.1 6))) (σ.1 9 2) (σ.1 33) (σ'.1 33)) := by
            intro μ
            induction μ with
            | zero => intro i ch2 σ2 hμ; exact absurd hμ (Nat.not_lt_zero _)
            | succ μ ih2 =>
              intro i ch2 σ2 hμ hF_σ2 hi h01b hbn2 hle2 hfr2 he2 hq2
              have hW_σ2 := Fr.wd hF_σ2 hW_σ1
              have e6 : σ2.1 6 = σ.1 6 := funext (fun j => (hF_σ2.2 6 (by decide) j).trans (hF_σ1.2 6 (by decide) j))
              have e9 : σ2.1 9 = σ.1 9 := funext (fun j => (hF_σ2.2 9 (by decide) j).trans (hF_σ1.2 9 (by decide) j))
              refine tt_ar rfl ?_
              refine tt_ar rfl ?_
              refine tt_getR (wo_32 hW_σ2) rfl (wr_32_1 hW_σ2) ?_
              refine tt_getI (x := ((nkT k : Nat) : Int)) (wo_18 hW_σ2) rfl (((hF_σ2.2 18 (by decide) (1)).trans (hF_σ1.2 18 (by decide) (1))).trans hH.1) ?_
              refine tt_icge (fun h2_4 => ?_) (fun h2_4 => ?_)
              · refine tt_iinc (y := ((t + 1 : Nat) : Int)) rfl (iinc_fit (by omega) (by omega) (by omega)) ?_
                refine tt_goto ?_
                refine tt_loc [(0, vR 32), (1, vR 33), (2, vI (ch2)), (3, vI (((t + 1 : Nat) : Int)))] rfl rfl ⟨rfl, rfl, rfl, rfl, trivial⟩ ?_
                exact ih1 (ch2) (t + 1) σ2 (by omega) (Fr.tr (Fr.tr Fr.rf hF_σ1 (by decide)) hF_σ2 (by decide)) h01b (by omega) hbn2 (fun h hh => Int.le_trans (hle2 h hh) (hle h hh)) hfr2 (bdR_round (fun _ _ => gr_lt) hbd hle2 (fun u v hu hv => he2 u (by omega) v hv)) (fun hz u v hu hv hR => by have q := he2 u (by omega) v hR; rw [hq2 hz u hu]; exact q)
              · refine tt_ar rfl ?_
                refine tt_ar rfl ?_
                refine tt_ar rfl ?_
                have hc98 := (c98_33 σ2 k hW_σ2 (LD.fr (L := [33]) (Fr.tr (Fr.tr Fr.rf hF_σ1 (by decide)) hF_σ2 (by decide)) (by decide) hD) (HT.fr (L := [33]) (Fr.tr (Fr.tr Fr.rf hF_σ1 (by decide)) hF_σ2 (by decide)) (by decide) hH) i (by omega) hbn2)
                rw [e6, e9] at hc98
                refine tt_cv3 3 rfl (wo_32 hW_σ2) hc98 (kex fun ch3 => ?_)
                intro r0 σ3 hq0
                obtain ⟨h01c, rfl, hF3, hG3, hE3, hQ3⟩ := hq0
                have hW3 := Fr.wd hF3 hW_σ2
                have hF3s : Fr [33] σ1 σ3 := Fr.tr hF_σ2 hF3 (by decide)
                · refine tt_ifeq (fun h2_9 => ?_) (fun h2_9 => ?_)
                  · refine tt_iinc (y := ((i + 1 : Nat) : Int)) rfl (iinc_fit (by omega) (by omega) (by omega)) ?_
                    refine tt_goto ?_
                    refine tt_loc [(0, vR 32), (1, vR 33), (2, vI (ch2)), (3, vI (((t : Nat) : Int))), (4, vI (((i + 1 : Nat) : Int)))] rfl rfl ⟨rfl, rfl, rfl, rfl, rfl, trivial⟩ ?_
                    exact ih2 (i + 1) (ch2) σ3 (by omega) (Fr.tr (Fr.tr Fr.rf hF_σ2 (by decide)) hF3 (by decide)) (by omega) (by omega) (gr_bn hG3 hbn2 (by omega) hpw.1) (fun h hh => Int.le_trans (hG3.le h hh) (hle2 h hh)) (gr_fr hG3 hfr2 (by omega)) (fun u hu v hv => by have hvN := gr_lt hv; have q1 := hG3.le v hvN; by_cases e : u = i; (subst e; have q2 := hE3 v hv; have q3 := hle2 u (by omega); omega); (have q2 := he2 u (by omega) v hv; omega)) (by first | (intro h; omega) | (intro h x hx; have q1 := hQ3 (by omega) x hx; have q2 := hq2 h x hx; omega))
                  · refine tt_ar rfl ?_
                    refine tt_ar rfl ?_
                    refine tt_nop ?_
                    refine tt_iinc (y := ((i + 1 : Nat) : Int)) rfl (iinc_fit (by omega) (by omega) (by omega)) ?_
                    refine tt_goto ?_
                    refine tt_loc [(0, vR 32), (1, vR 33), (2, vI (1)), (3, vI (((t : Nat) : Int))), (4, vI (((i + 1 : Nat) : Int)))] rfl rfl ⟨rfl, rfl, rfl, rfl, rfl, trivial⟩ ?_
                    exact ih2 (i + 1) (1) σ3 (by omega) (Fr.tr (Fr.tr Fr.rf hF_σ2 (by decide)) hF3 (by decide)) (by omega) (by omega) (gr_bn hG3 hbn2 (by omega) hpw.1) (fun h hh => Int.le_trans (hG3.le h hh) (hle2 h hh)) (gr_fr hG3 hfr2 (by omega)) (fun u hu v hv => by have hvN := gr_lt hv; have q1 := hG3.le v hvN; by_cases e : u = i; (subst e; have q2 := hE3 v hv; have q3 := hle2 u (by omega); omega); (have q2 := he2 u (by omega) v hv; omega)) (by first | (intro h; omega) | (intro h x hx; have q1 := hQ3 (by omega) x hx; have q2 := hq2 h x hx; omega))
          refine tt_loc [(0, vR 32), (1, vR 33), (2, vI (0)), (3, vI (((t : Nat) : Int))), (4, vI (((0 : Nat) : Int)))] rfl rfl ⟨rfl, rfl, rfl, rfl, lv_to rfl (by omega), trivial⟩ ?_
          exact lp2_2 _ (0) (0) σ1 (Nat.lt_succ_self _) Fr.rf (by omega) (Or.inl rfl) hbn (fun h _ => Int.le_refl _) hfr (fun u hu => absurd hu (Nat.not_lt_zero u)) (fun _ x _ => rfl)
  refine tt_loc [(0, vR 32), (1, vR 33), (2, vI (1)), (3, vI (((0 : Nat) : Int)))] rfl rfl ⟨rfl, rfl, rfl, lv_to rfl (by omega), trivial⟩ ?_
  exact lp1_1 _ (1) (0) σ (Nat.lt_succ_self _) Fr.rf (Or.inr rfl) (by omega) hc (fun h _ => Int.le_refl _) frR_0 bdR_0 (fun h => by omega)

theorem c98_38 (σ : am_S) (k : Nat) (hW : Wd σ) (hD : LD k σ) (hH : HT k σ) (h : Nat) (hh : h < nkT k) (hc : bnN (nkT k) (σ.1 38)) : CC 98 [vR 32, vR 38, vI (((h : Nat) : Int))] σ (fun r σ' => ∃ ch, (ch = 0 ∨ ch = 1) ∧ r = some (vI ch) ∧ Fr [38] σ σ' ∧ g1R (nkT k) (grR k (GP (σ.1 6))) (σ.1 38 h + σ.1 9 2) h (σ.1 38) (σ'.1 38) ∧ (∀ x, grR k (GP (σ.1 6)) h x → σ'.1 38 x ≤ σ.1 38 h + σ.1 9 2) ∧ (ch = 0 → ∀ x, x < nkT k → σ'.1 38 x = σ.1 38 x)) := by
  show TT am_b98 (am_b98.getD 0 []) [(0, vR 32), (1, vR 38), (2, vI (((h : Nat) : Int)))] [] σ _
  have hk6 := hD.2.1
  have hnb := nkT_bd k
  have hch := hc h hh
  have hpw := hD.2.2.2.1 2 (by omega)
  refine tt_ar rfl ?_
  refine tt_ar rfl ?_
  refine tt_iald (h) (x := σ.1 38 (h)) (wa_38 hW) rfl (by omega) rfl ?_
  refine tt_ar rfl ?_
  refine tt_getR (wo_32 hW) rfl (wr_32_0 hW) ?_
  refine tt_getR (wo_5 hW) rfl (wr_5_5 hW) ?_
  refine tt_ar rfl ?_
  refine tt_iald (2) (x := σ.1 9 (2)) (wa_9 hW) rfl (by omega) rfl ?_
  have hb9 := hD.2.2.2.1 (2) (by omega)
  refine tt_iadd (by omega) (by omega) ?_
  refine tt_ar rfl ?_
  refine tt_ar rfl ?_
  refine tt_ar rfl ?_
  refine tt_ar rfl ?_
  refine tt_ar rfl ?_
  refine tt_imul (by omega) (by omega) ?_
  refine tt_ar rfl ?_
  refine tt_nop ?_
  have lp1_1 : ∀ (μ : Nat) (s : Nat) (ch : Int) (σ1 : am_S), k - s < μ → Fr [38] σ σ1 → (s ≤ k) → (ch = 0 ∨ ch = 1) → (g1R (nkT k) (grR k (GP (σ.1 6))) (σ.1 38 h + σ.1 9 2) h (σ.1 38) (σ1.1 38)) → (∀ t, t < s → 0 ≤ olV k (σ.1 6) (tb k h) t → σ1.1 38 (olV k (σ.1 6) (tb k h) t).toNat ≤ σ.1 38 h + σ.1 9 2) → (ch = 0 → ∀ x, x < nkT k → σ1.1 38 x = σ.1 38 x) → TT am_b98 (am_b98.getD 1 []) [(0, vR 32), (1, vR 38), (2, vI (((h : Nat) : Int))), (3, vI ((σ.1 38 (h) + σ.1 9 (2)))), (4, vI (ch)), (5, vI (((h * 6 + s : Nat) : Int)))] [] σ1 (fun r σ' => ∃ ch, (ch = 0 ∨ ch = 1) ∧ r = some (vI ch) ∧ Fr [38] σ σ' ∧ g1R (nkT k) (grR k (GP (σ.1 6))) (σ.1 38 h + σ.1 9 2) h (σ.1 38) (σ'.1 38) ∧ (∀ x, grR k (GP (σ.1 6)) h x → σ'.1 38 x ≤ σ.1 38 h + σ.1 9 2) ∧ (ch = 0 → ∀ x, x < nkT k → σ'.1 38 x = σ.1 38 x)) := by
    intro μ
    induction μ with
    | zero => intro s ch σ1 hμ; exact absurd hμ (Nat.not_lt_zero _)
    | succ μ ih1 =>
      intro s ch σ1 hμ hF_σ1 hs h01 hG hS hQ
      have hW_σ1 := Fr.wd hF_σ1 hW
      refine tt_ar rfl ?_
      refine tt_ar rfl ?_
      refine tt_ar rfl ?_
      refine tt_imul (by omega) (by omega) ?_
      refine tt_ar rfl ?_
      refine tt_getR (wo_32 hW_σ1) rfl (wr_32_0 hW_σ1) ?_
      refine tt_getI (x := ((k : Nat) : Int)) (wo_5 hW_σ1) rfl ((hF_σ1.2 5 (by decide) (0)).trans hD.1) ?_
      refine tt_iadd (by omega) (by omega) ?_
      refine tt_icge (fun h1_8 => ?_) (fun h1_8 => ?_)
      · refine tt_ar rfl ?_
        refine tt_zret (by omega) ?_
        refine ⟨ch, h01, rfl, hF_σ1, hG, fun x hx => ?_, hQ⟩
        obtain ⟨s2, q1, q2⟩ := gr_olV hk6 hx
        have := hS s2 (by omega) (by omega)
        rw [q2] at this
        exact this
      · refine tt_ar rfl ?_
        refine tt_getR (wo_32 hW_σ1) rfl (wr_32_1 hW_σ1) ?_
        refine tt_getR (wo_18 hW_σ1) rfl (wr_18_7 hW_σ1) ?_
        refine tt_ar rfl ?_
        refine tt_iald ((h * 6 + s)) (x := olV k (σ.1 6) (tb k h) s) (wa_24 hW_σ1) (by omega) (by omega) ((hF_σ1.2 24 (by decide) ((h * 6 + s))).trans (hH.2.2.2.1 h (by omega) s (by omega))) ?_
        have hov := olV_bd (num := tb k h) (s := s) (into := σ.1 6) hk6
        refine tt_iflt (fun h1_14 => ?_) (fun h1_14 => ?_)
        · refine tt_iinc (y := (((h * 6 + s) + 1 : Nat) : Int)) rfl (iinc_fit (by omega) (by omega) (by omega)) ?_
          refine tt_goto ?_
          refine tt_loc [(0, vR 32), (1, vR 38), (2, vI (((h : Nat) : Int))), (3, vI ((σ.1 38 (h) + σ.1 9 (2)))), (4, vI (ch)), (5, vI (((h * 6 + (s + 1) : Nat) : Int)))] rfl rfl ⟨rfl, rfl, rfl, rfl, rfl, lv_to rfl (by omega), trivial⟩ ?_
          exact ih1 (s + 1) (ch) σ1 (by omega) (Fr.tr Fr.rf hF_σ1 (by decide)) (by omega) (by omega) (by first | exact hG | (rw [am_set_up]; exact g1_put hG hk6 hD.2.2.2.2 hh (by omega) (by omega) (by omega))) (fun t ht h0 => by first | (rw [am_set_up]; by_cases e : t = s; (subst e; rw [upI_at]; exact Int.le_refl _); (unfold upI; split; exact Int.le_refl _; exact hS t (by omega) h0)) | (by_cases e : t = s; (subst e; omega); exact hS t (by omega) h0)) (by first | exact hQ | (intro h; omega))
        · refine tt_ar rfl ?_
          refine tt_ar rfl ?_
          refine tt_ar rfl ?_
          refine tt_getR (wo_32 hW_σ1) rfl (wr_32_1 hW_σ1) ?_
          refine tt_getR (wo_18 hW_σ1) rfl (wr_18_7 hW_σ1) ?_
          refine tt_ar rfl ?_
          refine tt_iald ((h * 6 + s)) (x := olV k (σ.1 6) (tb k h) s) (wa_24 hW_σ1) (by omega) (by omega) ((hF_σ1.2 24 (by decide) ((h * 6 + s))).trans (hH.2.2.2.1 h (by omega) s (by omega))) ?_
          have hov := olV_bd (num := tb k h) (s := s) (into := σ.1 6) hk6
          refine tt_iald ((olV k (σ.1 6) (tb k h) s).toNat) (x := σ1.1 38 ((olV k (σ.1 6) (tb k h) s).toNat)) (wa_38 hW_σ1) (by omega) (by omega) rfl ?_
          refine tt_icge (fun h1_23 => ?_) (fun h1_23 => ?_)
          · refine tt_iinc (y := (((h * 6 + s) + 1 : Nat) : Int)) rfl (iinc_fit (by omega) (by omega) (by omega)) ?_
            refine tt_goto ?_
            refine tt_loc [(0, vR 32), (1, vR 38), (2, vI (((h : Nat) : Int))), (3, vI ((σ.1 38 (h) + σ.1 9 (2)))), (4, vI (ch)), (5, vI (((h * 6 + (s + 1) : Nat) : Int)))] rfl rfl ⟨rfl, rfl, rfl, rfl, rfl, lv_to rfl (by omega), trivial⟩ ?_
            exact ih1 (s + 1) (ch) σ1 (by omega) (Fr.tr Fr.rf hF_σ1 (by decide)) (by omega) (by omega) (by first | exact hG | (rw [am_set_up]; exact g1_put hG hk6 hD.2.2.2.2 hh (by omega) (by omega) (by omega))) (fun t ht h0 => by first | (rw [am_set_up]; by_cases e : t = s; (subst e; rw [upI_at]; exact Int.le_refl _); (unfold upI; split; exact Int.le_refl _; exact hS t (by omega) h0)) | (by_cases e : t = s; (subst e; omega); exact hS t (by omega) h0)) (by first | exact hQ | (intro h; omega))
          · refine tt_ar rfl ?_
            refine tt_ar rfl ?_
            refine tt_getR (wo_32 hW_σ1) rfl (wr_32_1 hW_σ1) ?_
            refine tt_getR (wo_18 hW_σ1) rfl (wr_18_7 hW_σ1) ?_
            refine tt_ar rfl ?_
            refine tt_iald ((h * 6 + s)) (x := olV k (σ.1 6) (tb k h) s) (wa_24 hW_σ1) (by omega) (by omega) ((hF_σ1.2 24 (by decide) ((h * 6 + s))).trans (hH.2.2.2.1 h (by omega) s (by omega))) ?_
            have hov := olV_bd (num := tb k h) (s := s) (into := σ.1 6) hk6
            refine tt_ar rfl ?_
            refine tt_iast ((olV k (σ.1 6) (tb k h) s).toNat) (wa_38 hW_σ1) (by omega) (by omega) (by omega) ?_
            refine tt_ar rfl ?_
            refine tt_ar rfl ?_
            refine tt_nop ?_
            refine tt_iinc (y := (((h * 6 + s) + 1 : Nat) : Int)) rfl (iinc_fit (by omega) (by omega) (by omega)) ?_
            refine tt_goto ?_
            refine tt_loc [(0, vR 32), (1, vR 38), (2, vI (((h : Nat) : Int))), (3, vI ((σ.1 38 (h) + σ.1 9 (2)))), (4, vI (1)), (5, vI (((h * 6 + (s + 1) : Nat) : Int)))] rfl rfl ⟨rfl, rfl, rfl, rfl, rfl, lv_to rfl (by omega), trivial⟩ ?_
            exact ih1 (s + 1) (1) _ (by omega) (Fr.put (Fr.tr Fr.rf hF_σ1 (by decide)) (by decide)) (by omega) (by omega) (by first | exact hG | (rw [am_set_up]; exact g1_put hG hk6 hD.2.2.2.2 hh (by omega) (by omega) (by omega))) (fun t ht h0 => by first | (rw [am_set_up]; by_cases e : t = s; (subst e; rw [upI_at]; exact Int.le_refl _); (unfold upI; split; exact Int.le_refl _; exact hS t (by omega) h0)) | (by_cases e : t = s; (subst e; omega); exact hS t (by omega) h0)) (by first | exact hQ | (intro h; omega))
  refine tt_loc [(0, vR 32), (1, vR 38), (2, vI (((h : Nat) : Int))), (3, vI ((σ.1 38 (h) + σ.1 9 (2)))), (4, vI (0)), (5, vI (((h * 6 + 0 : Nat) : Int)))] rfl rfl ⟨rfl, rfl, rfl, rfl, rfl, lv_to rfl (by omega), trivial⟩ ?_
  exact lp1_1 _ (0) (0) σ (Nat.lt_succ_self _) Fr.rf (by omega) (Or.inl rfl) (fun x _ => Or.inl rfl) (fun t ht => absurd ht (Nat.not_lt_zero t)) (fun _ x _ => rfl)

theorem c97_38 (σ : am_S) (k : Nat) (hW : Wd σ) (hD : LD k σ) (hH : HT k σ) (hc : bnN (nkT k) (σ.1 38)) : CC 97 [vR 32, vR 38] σ (fun r σ' => r = none ∧ Fr [38] σ σ' ∧ bnN (nkT k) (σ'.1 38) ∧ leR (nkT k) (σ.1 38) (σ'.1 38) ∧ clR (nkT k) (grR k (GP (σ.1 6))) (σ.1 9 2) (σ'.1 38) ∧ frR (nkT k) (grR k (GP (σ.1 6))) (σ.1 9 2) (σ.1 38) (σ'.1 38)) := by
  show TT am_b97 (am_b97.getD 0 []) [(0, vR 32), (1, vR 38)] [] σ _
  have hk6 := hD.2.1
  have hnb := nkT_bd k
  have hpw := hD.2.2.2.1 2 (by omega)
  refine tt_ar rfl ?_
  refine tt_ar rfl ?_
  refine tt_ar rfl ?_
  refine tt_ar rfl ?_
  refine tt_nop ?_
  have lp1_1 : ∀ (μ : Nat) (ch : Int) (t : Nat) (σ1 : am_S), 64 - t < μ → Fr [38] σ σ1 → (ch = 0 ∨ ch = 1) → (t ≤ 64) → (bnN (nkT k) (σ1.1 38)) → (leR (nkT k) (σ.1 38) (σ1.1 38)) → (frR (nkT k) (grR k (GP (σ.1 6))) (σ.1 9 2) (σ.1 38) (σ1.1 38)) → (bdR (nkT k) (grR k (GP (σ.1 6))) (σ.1 9 2) (σ.1 38) (σ1.1 38) t) → (ch = 0 → clR (nkT k) (grR k (GP (σ.1 6))) (σ.1 9 2) (σ1.1 38)) → TT am_b97 (am_b97.getD 1 []) [(0, vR 32), (1, vR 38), (2, vI (ch)), (3, vI (((t : Nat) : Int)))] [] σ1 (fun r σ' => r = none ∧ Fr [38] σ σ' ∧ bnN (nkT k) (σ'.1 38) ∧ leR (nkT k) (σ.1 38) (σ'.1 38) ∧ clR (nkT k) (grR k (GP (σ.1 6))) (σ.1 9 2) (σ'.1 38) ∧ frR (nkT k) (grR k (GP (σ.1 6))) (σ.1 9 2) (σ.1 38) (σ'.1 38)) := by
    intro μ
    induction μ with
    | zero => intro ch t σ1 hμ; exact absurd hμ (Nat.not_lt_zero _)
    | succ μ ih1 =>
      intro ch t σ1 hμ hF_σ1 h01 ht hbn hle hfr hbd hcl
      have hW_σ1 := Fr.wd hF_σ1 hW
      refine tt_ar rfl ?_
      refine tt_ifeq (fun h1_1 => ?_) (fun h1_1 => ?_)
      · refine tt_vret ?_
        exact ⟨rfl, hF_σ1, hbn, hle, hcl (by omega), hfr⟩
      · refine tt_ar rfl ?_
        refine tt_ar rfl ?_
        refine tt_icge (fun h1_4 => ?_) (fun h1_4 => ?_)
        · refine tt_vret ?_
          exact ⟨rfl, hF_σ1, hbn, hle, bdR_close hpw.1 (show 26 ≤ t by omega) (fun _ _ => gr_lt) (fun n u v hu h => grow_short hk6 (foP_lt hD.2.2.2.2) hu h) hbd hfr, hfr⟩
        · refine tt_ar rfl ?_
          refine tt_ar rfl ?_
          refine tt_ar rfl ?_
          refine tt_ar rfl ?_
          refine tt_nop ?_
          have lp2_2 : ∀ (μ : Nat) (i : Nat) (ch2 : Int) (σ2 : am_S), nkT k - i < μ → Fr [38] σ1 σ2 → (i ≤ nkT k) → (ch2 = 0 ∨ ch2 = 1) → (bnN (nkT k) (σ2.1 38)) → (leR (nkT k) (σ1.1 38) (σ2.1 38)) → (frR (nkT k) (grR k (GP (σ.1 6))) (σ.1 9 2) (σ.1 38) (σ2.1 38)) → (∀ u, u < i → ∀ v, (grR k (GP (σ.1 6))) u v → σ2.1 38 v ≤ σ1.1 38 u + (σ.1 9 2)) → (ch2 = 0 → ∀ x, x < nkT k → σ2.1 38 x = σ1.1 38 x) → TT am_b97 (am_b97.getD 2 []) [(0, vR 32), (1, vR 38), (2, vI (ch2)), (3, vI (((t : Nat) : Int))), (4, vI (((i : Nat) : Int)))] [] σ2 (fun r σ' => r = none ∧ Fr [38] σ σ' ∧ bnN (nkT k) (σ'.1 38) ∧ leR (nkT k) (σ.1 38) (σ'.1 38) ∧ clR (nkT k) (grR k (GP (σ.1 6))) (σ.1 9 2) (σ'.1 38) ∧ frR (nkT k) (grR k (GP (σ.1 6))) (σ.1 9 2) (σ.1 38) (σ'.1 38)) := by
            intro μ
            induction μ with
            | zero => intro i ch2 σ2 hμ; exact absurd hμ (Nat.not_lt_zero _)
            | succ μ ih2 =>
              intro i ch2 σ2 hμ hF_σ2 hi h01b hbn2 hle2 hfr2 he2 hq2
              have hW_σ2 := Fr.wd hF_σ2 hW_σ1
              have e6 : σ2.1 6 = σ.1 6 := funext (fun j => (hF_σ2.2 6 (by decide) j).trans (hF_σ1.2 6 (by decide) j))
              have e9 : σ2.1 9 = σ.1 9 := funext (fun j => (hF_σ2.2 9 (by decide) j).trans (hF_σ1.2 9 (by decide) j))
              refine tt_ar rfl ?_
              refine tt_ar rfl ?_
              refine tt_getR (wo_32 hW_σ2) rfl (wr_32_1 hW_σ2) ?_
              refine tt_getI (x := ((nkT k : Nat) : Int)) (wo_18 hW_σ2) rfl (((hF_σ2.2 18 (by decide) (1)).trans (hF_σ1.2 18 (by decide) (1))).trans hH.1) ?_
              refine tt_icge (fun h2_4 => ?_) (fun h2_4 => ?_)
              · refine tt_iinc (y := ((t + 1 : Nat) : Int)) rfl (iinc_fit (by omega) (by omega) (by omega)) ?_
                refine tt_goto ?_
                refine tt_loc [(0, vR 32), (1, vR 38), (2, vI (ch2)), (3, vI (((t + 1 : Nat) : Int)))] rfl rfl ⟨rfl, rfl, rfl, rfl, trivial⟩ ?_
                exact ih1 (ch2) (t + 1) σ2 (by omega) (Fr.tr (Fr.tr Fr.rf hF_σ1 (by decide)) hF_σ2 (by decide)) h01b (by omega) hbn2 (fun h hh => Int.le_trans (hle2 h hh) (hle h hh)) hfr2 (bdR_round (fun _ _ => gr_lt) hbd hle2 (fun u v hu hv => he2 u (by omega) v hv)) (fun hz u v hu hv hR => by have q := he2 u (by omega) v hR; rw [hq2 hz u hu]; exact q)
              · refine tt_ar rfl ?_
                refine tt_ar rfl ?_
                refine tt_ar rfl ?_
                have hc98 := (c98_38 σ2 k hW_σ2 (LD.fr (L := [38]) (Fr.tr (Fr.tr Fr.rf hF_σ1 (by decide)) hF_σ2 (by decide)) (by decide) hD) (HT.fr (L := [38]) (Fr.tr (Fr.tr Fr.rf hF_σ1 (by decide)) hF_σ2 (by decide)) (by decide) hH) i (by omega) hbn2)
                rw [e6, e9] at hc98
                refine tt_cv3 3 rfl (wo_32 hW_σ2) hc98 (kex fun ch3 => ?_)
                intro r0 σ3 hq0
                obtain ⟨h01c, rfl, hF3, hG3, hE3, hQ3⟩ := hq0
                have hW3 := Fr.wd hF3 hW_σ2
                have hF3s : Fr [38] σ1 σ3 := Fr.tr hF_σ2 hF3 (by decide)
                · refine tt_ifeq (fun h2_9 => ?_) (fun h2_9 => ?_)
                  · refine tt_iinc (y := ((i + 1 : Nat) : Int)) rfl (iinc_fit (by omega) (by omega) (by omega)) ?_
                    refine tt_goto ?_
                    refine tt_loc [(0, vR 32), (1, vR 38), (2, vI (ch2)), (3, vI (((t : Nat) : Int))), (4, vI (((i + 1 : Nat) : Int)))] rfl rfl ⟨rfl, rfl, rfl, rfl, rfl, trivial⟩ ?_
                    exact ih2 (i + 1) (ch2) σ3 (by omega) (Fr.tr (Fr.tr Fr.rf hF_σ2 (by decide)) hF3 (by decide)) (by omega) (by omega) (gr_bn hG3 hbn2 (by omega) hpw.1) (fun h hh => Int.le_trans (hG3.le h hh) (hle2 h hh)) (gr_fr hG3 hfr2 (by omega)) (fun u hu v hv => by have hvN := gr_lt hv; have q1 := hG3.le v hvN; by_cases e : u = i; (subst e; have q2 := hE3 v hv; have q3 := hle2 u (by omega); omega); (have q2 := he2 u (by omega) v hv; omega)) (by first | (intro h; omega) | (intro h x hx; have q1 := hQ3 (by omega) x hx; have q2 := hq2 h x hx; omega))
                  · refine tt_ar rfl ?_
                    refine tt_ar rfl ?_
                    refine tt_nop ?_
                    refine tt_iinc (y := ((i + 1 : Nat) : Int)) rfl (iinc_fit (by omega) (by omega) (by omega)) ?_
                    refine tt_goto ?_
                    refine tt_loc [(0, vR 32), (1, vR 38), (2, vI (1)), (3, vI (((t : Nat) : Int))), (4, vI (((i + 1 : Nat) : Int)))] rfl rfl ⟨rfl, rfl, rfl, rfl, rfl, trivial⟩ ?_
                    exact ih2 (i + 1) (1) σ3 (by omega) (Fr.tr (Fr.tr Fr.rf hF_σ2 (by decide)) hF3 (by decide)) (by omega) (by omega) (gr_bn hG3 hbn2 (by omega) hpw.1) (fun h hh => Int.le_trans (hG3.le h hh) (hle2 h hh)) (gr_fr hG3 hfr2 (by omega)) (fun u hu v hv => by have hvN := gr_lt hv; have q1 := hG3.le v hvN; by_cases e : u = i; (subst e; have q2 := hE3 v hv; have q3 := hle2 u (by omega); omega); (have q2 := he2 u (by omega) v hv; omega)) (by first | (intro h; omega) | (intro h x hx; have q1 := hQ3 (by omega) x hx; have q2 := hq2 h x hx; omega))
          refine tt_loc [(0, vR 32), (1, vR 38), (2, vI (0)), (3, vI (((t : Nat) : Int))), (4, vI (((0 : Nat) : Int)))] rfl rfl ⟨rfl, rfl, rfl, rfl, lv_to rfl (by omega), trivial⟩ ?_
          exact lp2_2 _ (0) (0) σ1 (Nat.lt_succ_self _) Fr.rf (by omega) (Or.inl rfl) hbn (fun h _ => Int.le_refl _) hfr (fun u hu => absurd hu (Nat.not_lt_zero u)) (fun _ x _ => rfl)
  refine tt_loc [(0, vR 32), (1, vR 38), (2, vI (1)), (3, vI (((0 : Nat) : Int)))] rfl rfl ⟨rfl, rfl, rfl, lv_to rfl (by omega), trivial⟩ ?_
  exact lp1_1 _ (1) (0) σ (Nat.lt_succ_self _) Fr.rf (Or.inr rfl) (by omega) hc (fun h _ => Int.le_refl _) frR_0 bdR_0 (fun h => by omega)

