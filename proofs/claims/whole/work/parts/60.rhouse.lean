/-! THE REFERENCE'S CALLS: HOUSEHOLDS -/
theorem RRb.o30 {k nm ns : Nat} {D : Nat → Nat → Int} {A σ σ' : am_S} (h : RRb k nm ns D A σ) (hF : Fr [76] σ σ') (hK : ∀ j, j ≠ 30 → σ'.1 76 j = σ.1 76 j) : RRb k nm ns D A σ' :=
  h.kp (fun a ha => hF.2 a (by simp only [List.mem_cons, List.not_mem_nil, or_false]; unfold rrC at ha; omega)) (fun j hj => hK j (by unfold rrJ at hj; omega))
theorem gst_t {A : am_S} {m h s : Nat} (h1 : cAg A m h 1 1 s) : cGst A m h s = true := decide_eq_true h1
theorem gst_f {A : am_S} {m h s : Nat} (h1 : ¬ cAg A m h 1 1 s) : cGst A m h s = false := decide_eq_false h1
theorem fal_s {p : Nat → Bool} {s : Nat} (h : ∀ t, t < s → p t = false) (hs : p s = false) : ∀ t, t < s + 1 → p t = false := fun t ht => by
  by_cases e : t = s
  · rw [e]
    exact hs
  · exact h t (by omega)
theorem c219 (A σ : am_S) (k nm ns : Nat) (D : Nat → Nat → Int) (hA : CI k nm ns D A) (hW : Wd σ) (hR : RRb k nm ns D A σ) (m h : Nat) (hm : m < nm) (hh : h < nkT k) : CC 219 [vR 76, vI (((m : Nat) : Int)), vI (((h : Nat) : Int))] σ (fun r σ' => r = some (vI (epR A k m h)) ∧ Fr [76] σ σ' ∧ (∀ j, j ≠ 30 → σ'.1 76 j = σ.1 76 j) ∧ (¬ cEx A k m h = -9 → σ'.1 76 30 = cEx A k m h)) := by
  show TT am_b219 (am_b219.getD 0 []) [(0, vR 76), (1, vI (((m : Nat) : Int))), (2, vI (((h : Nat) : Int)))] [] σ _
  have hk5 := hR.aa.1
  have hl27 := hR.aa.2.1
  have hs47 := hR.aa.2.2
  have hk6 := hA.x.1.2.1
  have hm12 := hA.x.2.2.1.2.1
  have hs16 := hA.st.2
  have hDA := hA.x.1
  have hHT := hA.x.2.1
  have hLA := hA.x.2.2.1
  have hHB := HB_of hDA hHT
  have hnb := nkT_bd k
  have hp3 := hDA.2.2.2.1 3 (by omega)
  have hp4 := hDA.2.2.2.1 4 (by omega)
  refine tt_ar rfl ?_
  refine tt_ar rfl ?_
  refine tt_putI (wo_76 hW) rfl ?_
  refine tt_ar rfl ?_
  refine tt_ar rfl ?_
  refine tt_ar rfl ?_
  refine tt_ar rfl ?_
  refine tt_ar rfl ?_
  refine tt_cv5 5 rfl (wo_76 hW) (c220_0 A (am_set σ 76 (30) (0)) k nm ns D hA hW (hR.o30 (Fr.put Fr.rf (by decide) : Fr [76] σ _) (fun j hj => (am_set_at).trans (if_neg hj))) m h hm hh) (kb (fun h0_8 => ?_) (fun h0_8 => ?_))
  · refine tt_ifeqF (by decide) ?_
    refine tt_ar rfl ?_
    refine tt_iret ?_
    have e0 := ex_0 (k := k) h0_8
    exact ⟨rv (by unfold epR; rw [e0]; rfl), Fr.put Fr.rf (by decide), fun j hj => (am_set_at).trans (if_neg hj), fun _ => (am_set_rd).trans e0.symm⟩
  · refine tt_ifeqT (by decide) ?_
    refine tt_ar rfl ?_
    refine tt_ar rfl ?_
    refine tt_ar rfl ?_
    refine tt_ar rfl ?_
    refine tt_nop ?_
    have lp2_1 : ∀ (μ : Nat) (s : Nat) (b : Int) (σ1 : am_S), k - s < μ → Fr [76] σ σ1 → (s ≤ k) → (∀ j, j ≠ 30 → σ1.1 76 j = σ.1 76 j) → (((b = 100000 ∧ ∀ t, t < s → cIll A m h t = false) ∨ (∃ s0, s0 < s ∧ cIll A m h s0 = true ∧ (∀ t, t < s0 → cIll A m h t = false) ∧ b = A.1 9 3 ∧ σ1.1 76 30 = 10 + (s0 : Int)))) → TT am_b219 (am_b219.getD 2 []) [(0, vR 76), (1, vI (((m : Nat) : Int))), (2, vI (((h : Nat) : Int))), (3, vI (b)), (4, vI (((s : Nat) : Int)))] [] σ1 (fun r σ' => r = some (vI (epR A k m h)) ∧ Fr [76] σ σ' ∧ (∀ j, j ≠ 30 → σ'.1 76 j = σ.1 76 j) ∧ (¬ cEx A k m h = -9 → σ'.1 76 30 = cEx A k m h)) := by
      intro μ
      induction μ with
      | zero => intro s b σ1 hμ; exact absurd hμ (Nat.not_lt_zero _)
      | succ μ ih2 =>
        intro s b σ1 hμ hF_σ1 hs hK_σ1 hI
        have hW_σ1 := Fr.wd hF_σ1 hW
        refine tt_ar rfl ?_
        refine tt_ar rfl ?_
        refine tt_getI (x := ((k : Nat) : Int)) (wo_76 hW_σ1) rfl ((hK_σ1 11 (by decide)).trans hR.wl.1) ?_
        refine tt_icge (fun h2_3 => ?_) (fun h2_3 => ?_)
        · refine tt_ar rfl ?_
          refine tt_ar rfl ?_
          refine tt_nop ?_
          have lp5_2 : ∀ (μ : Nat) (s : Nat) (b : Int) (σ2 : am_S), k - s < μ → Fr [76] σ σ2 → (s ≤ k) → (∀ j, j ≠ 30 → σ2.1 76 j = σ.1 76 j) → (((b = 100000 ∧ (∀ t, t < k → cIll A m h t = false) ∧ ∀ t, t < s → cGst A m h t = false) ∨ (∃ s0, s0 < k ∧ cIll A m h s0 = true ∧ (∀ t, t < s0 → cIll A m h t = false) ∧ b = A.1 9 3 ∧ σ2.1 76 30 = 10 + (s0 : Int)) ∨ ((∀ t, t < k → cIll A m h t = false) ∧ ∃ s0, s0 < s ∧ cGst A m h s0 = true ∧ (∀ t, t < s0 → cGst A m h t = false) ∧ b = A.1 9 4 ∧ σ2.1 76 30 = 20 + (s0 : Int)))) → TT am_b219 (am_b219.getD 5 []) [(0, vR 76), (1, vI (((m : Nat) : Int))), (2, vI (((h : Nat) : Int))), (3, vI (b)), (4, vI (((s : Nat) : Int)))] [] σ2 (fun r σ' => r = some (vI (epR A k m h)) ∧ Fr [76] σ σ' ∧ (∀ j, j ≠ 30 → σ'.1 76 j = σ.1 76 j) ∧ (¬ cEx A k m h = -9 → σ'.1 76 30 = cEx A k m h)) := by
            intro μ
            induction μ with
            | zero => intro s b σ2 hμ; exact absurd hμ (Nat.not_lt_zero _)
            | succ μ ih5 =>
              intro s b σ2 hμ hF_σ2 hs2 hK_σ2 hG
              have hW_σ2 := Fr.wd hF_σ2 hW
              refine tt_ar rfl ?_
              refine tt_ar rfl ?_
              refine tt_getI (x := ((k : Nat) : Int)) (wo_76 hW_σ2) rfl ((hK_σ2 11 (by decide)).trans hR.wl.1) ?_
              refine tt_icge (fun h5_3 => ?_) (fun h5_3 => ?_)
              · refine tt_ar rfl ?_
                refine tt_iret ?_
                have es : s = k := by omega
                subst es
                rcases hG with ⟨z1, z2, z3⟩ | ⟨s0, z1, z2, z3, z4, z5⟩ | ⟨z0, s0, z1, z2, z3, z4, z5⟩
                · have e0 := ex_n h0_8 z2 z3
                  exact ⟨rv (by unfold epR; rw [e0, z1]; rfl), hF_σ2, hK_σ2, fun q => absurd e0 q⟩
                · have e0 := ex_i h0_8 z1 z2 z3
                  exact ⟨rv (by unfold epR prOf; rw [e0, z4, if_neg (by omega), if_neg (by omega), if_pos (by omega)]), hF_σ2, hK_σ2, fun _ => z5.trans e0.symm⟩
                · have e0 := ex_g h0_8 z0 z1 z2 z3
                  exact ⟨rv (by unfold epR prOf; rw [e0, z4, if_neg (by omega), if_neg (by omega), if_neg (by omega)]), hF_σ2, hK_σ2, fun _ => z5.trans e0.symm⟩
              · refine tt_ar rfl ?_
                refine tt_getR (wo_76 hW_σ2) rfl (wr_76_16 hW_σ2) ?_
                refine tt_ar rfl ?_
                refine tt_iald (4) (x := A.1 9 4) (wa_86 hW_σ2) rfl (by omega) ((hF_σ2.2 86 (by decide) (4)).trans (hR.wl.2.2.2.2 4 (by omega))) ?_
                refine tt_ar rfl ?_
                refine tt_icge (fun h5_9 => ?_) (fun h5_9 => ?_)
                · refine tt_iinc (y := ((s + 1 : Nat) : Int)) rfl (iinc_fit (by omega) (by omega) (by omega)) ?_
                  refine tt_goto ?_
                  refine tt_loc [(0, vR 76), (1, vI (((m : Nat) : Int))), (2, vI (((h : Nat) : Int))), (3, vI (b)), (4, vI (((s + 1 : Nat) : Int)))] rfl rfl ⟨rfl, rfl, rfl, rfl, rfl, trivial⟩ ?_
                  exact ih5 (s + 1) (b) σ2 (by omega) (Fr.tr Fr.rf hF_σ2 (by decide)) (by omega) (by first | exact hK_σ2 | exact (fun j hj => (am_set_at).trans ((if_neg hj).trans (hK_σ2 j hj)))) (by rcases hG with ⟨z1, z2, z3⟩ | ⟨s0, z1, z2, z3, z4, z5⟩ | ⟨z0, s0, z1, z2, z3, z4, z5⟩ <;> first | (exfalso; omega) | (exfalso; exact ag_no hDA (by omega) h0_8 (of_decide_eq_true z2).2 h5_15) | exact Or.inr (Or.inr ⟨z2, s, by omega, gst_t h5_15, z3, rfl, am_set_rd⟩) | exact Or.inr (Or.inl ⟨s0, z1, z2, z3, z4, z5⟩) | exact Or.inr (Or.inr ⟨z0, s0, by omega, z2, z3, z4, z5⟩) | exact Or.inl ⟨z1, z2, fal_s z3 (gst_f h5_15)⟩ | (exfalso; omega))
                · refine tt_ar rfl ?_
                  refine tt_ar rfl ?_
                  refine tt_ar rfl ?_
                  refine tt_ar rfl ?_
                  refine tt_ar rfl ?_
                  refine tt_cv5 5 rfl (wo_76 hW_σ2) (c220_g A σ2 k nm ns D hA hW_σ2 (hR.o30 hF_σ2 hK_σ2) m h s (by omega) hm hh) (kb (fun h5_15 => ?_) (fun h5_15 => ?_))
                  · refine tt_ifeqF (by decide) ?_
                    refine tt_ar rfl ?_
                    refine tt_getR (wo_76 hW_σ2) rfl (wr_76_16 hW_σ2) ?_
                    refine tt_ar rfl ?_
                    refine tt_iald (4) (x := A.1 9 4) (wa_86 hW_σ2) rfl (by omega) ((hF_σ2.2 86 (by decide) (4)).trans (hR.wl.2.2.2.2 4 (by omega))) ?_
                    refine tt_ar rfl ?_
                    refine tt_ar rfl ?_
                    refine tt_ar rfl ?_
                    refine tt_ar rfl ?_
                    refine tt_iadd (by omega) (by omega) ?_
                    refine tt_putI (wo_76 hW_σ2) rfl ?_
                    refine tt_nop ?_
                    refine tt_iinc (y := ((s + 1 : Nat) : Int)) rfl (iinc_fit (by omega) (by omega) (by omega)) ?_
                    refine tt_goto ?_
                    refine tt_loc [(0, vR 76), (1, vI (((m : Nat) : Int))), (2, vI (((h : Nat) : Int))), (3, vI ((A.1 9 4))), (4, vI (((s + 1 : Nat) : Int)))] rfl rfl ⟨rfl, rfl, rfl, lv_to rfl (by omega), rfl, trivial⟩ ?_
                    exact ih5 (s + 1) (A.1 9 4) _ (by omega) (Fr.put (Fr.tr Fr.rf hF_σ2 (by decide)) (by decide)) (by omega) (by first | exact hK_σ2 | exact (fun j hj => (am_set_at).trans ((if_neg hj).trans (hK_σ2 j hj)))) (by rcases hG with ⟨z1, z2, z3⟩ | ⟨s0, z1, z2, z3, z4, z5⟩ | ⟨z0, s0, z1, z2, z3, z4, z5⟩ <;> first | (exfalso; omega) | (exfalso; exact ag_no hDA (by omega) h0_8 (of_decide_eq_true z2).2 h5_15) | exact Or.inr (Or.inr ⟨z2, s, by omega, gst_t h5_15, z3, rfl, am_set_rd⟩) | exact Or.inr (Or.inl ⟨s0, z1, z2, z3, z4, z5⟩) | exact Or.inr (Or.inr ⟨z0, s0, by omega, z2, z3, z4, z5⟩) | exact Or.inl ⟨z1, z2, fal_s z3 (gst_f h5_15)⟩ | (exfalso; omega))
                  · refine tt_ifeqT (by decide) ?_
                    refine tt_iinc (y := ((s + 1 : Nat) : Int)) rfl (iinc_fit (by omega) (by omega) (by omega)) ?_
                    refine tt_goto ?_
                    refine tt_loc [(0, vR 76), (1, vI (((m : Nat) : Int))), (2, vI (((h : Nat) : Int))), (3, vI (b)), (4, vI (((s + 1 : Nat) : Int)))] rfl rfl ⟨rfl, rfl, rfl, rfl, rfl, trivial⟩ ?_
                    exact ih5 (s + 1) (b) σ2 (by omega) (Fr.tr Fr.rf hF_σ2 (by decide)) (by omega) (by first | exact hK_σ2 | exact (fun j hj => (am_set_at).trans ((if_neg hj).trans (hK_σ2 j hj)))) (by rcases hG with ⟨z1, z2, z3⟩ | ⟨s0, z1, z2, z3, z4, z5⟩ | ⟨z0, s0, z1, z2, z3, z4, z5⟩ <;> first | (exfalso; omega) | (exfalso; exact ag_no hDA (by omega) h0_8 (of_decide_eq_true z2).2 h5_15) | exact Or.inr (Or.inr ⟨z2, s, by omega, gst_t h5_15, z3, rfl, am_set_rd⟩) | exact Or.inr (Or.inl ⟨s0, z1, z2, z3, z4, z5⟩) | exact Or.inr (Or.inr ⟨z0, s0, by omega, z2, z3, z4, z5⟩) | exact Or.inl ⟨z1, z2, fal_s z3 (gst_f h5_15)⟩ | (exfalso; omega))
          refine tt_loc [(0, vR 76), (1, vI (((m : Nat) : Int))), (2, vI (((h : Nat) : Int))), (3, vI (b)), (4, vI (((0 : Nat) : Int)))] rfl rfl ⟨rfl, rfl, rfl, rfl, lv_to rfl (by omega), trivial⟩ ?_
          exact lp5_2 _ (0) (b) σ1 (Nat.lt_succ_self _) (Fr.tr Fr.rf hF_σ1 (by decide)) (by omega) hK_σ1 (by rcases hI with ⟨z1, z2⟩ | ⟨s0, z1, z2, z3, z4, z5⟩; (exact Or.inl ⟨z1, fun t ht => z2 t (by omega), fun t ht => absurd ht (Nat.not_lt_zero t)⟩); (exact Or.inr (Or.inl ⟨s0, by omega, z2, z3, z4, z5⟩)))
        · refine tt_ar rfl ?_
          refine tt_getR (wo_76 hW_σ1) rfl (wr_76_16 hW_σ1) ?_
          refine tt_ar rfl ?_
          refine tt_iald (3) (x := A.1 9 3) (wa_86 hW_σ1) rfl (by omega) ((hF_σ1.2 86 (by decide) (3)).trans (hR.wl.2.2.2.2 3 (by omega))) ?_
          refine tt_ar rfl ?_
          refine tt_icge (fun h2_9 => ?_) (fun h2_9 => ?_)
          · refine tt_iinc (y := ((s + 1 : Nat) : Int)) rfl (iinc_fit (by omega) (by omega) (by omega)) ?_
            refine tt_goto ?_
            refine tt_loc [(0, vR 76), (1, vI (((m : Nat) : Int))), (2, vI (((h : Nat) : Int))), (3, vI (b)), (4, vI (((s + 1 : Nat) : Int)))] rfl rfl ⟨rfl, rfl, rfl, rfl, rfl, trivial⟩ ?_
            exact ih2 (s + 1) (b) σ1 (by omega) (Fr.tr Fr.rf hF_σ1 (by decide)) (by omega) (by first | exact hK_σ1 | exact (fun j hj => (am_set_at).trans ((if_neg hj).trans (hK_σ1 j hj)))) (by rcases hI with ⟨z1, z2⟩ | ⟨s0, z1, z2, z3, z4, z5⟩ <;> first | (exfalso; omega) | exact Or.inr ⟨s, by omega, ill_t (by omega) h2_24, z2, rfl, am_set_rd⟩ | exact Or.inr ⟨s0, by omega, z2, z3, z4, z5⟩ | exact Or.inl ⟨z1, fal_s z2 (ill_f (fun q => h2_24 q.2))⟩ | exact Or.inl ⟨z1, fal_s z2 (ill_f (fun q => by omega))⟩)
          · refine tt_ar rfl ?_
            refine tt_getR (wo_76 hW_σ1) rfl (wr_76_29 hW_σ1) ?_
            refine tt_ar rfl ?_
            refine tt_ar rfl ?_
            refine tt_imul (by omega) (by omega) ?_
            refine tt_ar rfl ?_
            refine tt_iadd (by omega) (by omega) ?_
            refine tt_iald (((6 * h) + s)) (x := A.1 21 (h * 6 + s)) (wa_93 hW_σ1) (by omega) (by omega) ((hF_σ1.2 93 (by decide) (((6 * h) + s))).trans (((hR.hs.2 h hh).2 s (by omega)).trans ((hHT.2.1 h hh).2.2 s (by omega)).symm)) ?_
            have hb21 := hHB.2.2.2.2.1 (h * 6 + s) (by omega)
            refine tt_ifle (fun h2_18 => ?_) (fun h2_18 => ?_)
            · refine tt_iinc (y := ((s + 1 : Nat) : Int)) rfl (iinc_fit (by omega) (by omega) (by omega)) ?_
              refine tt_goto ?_
              refine tt_loc [(0, vR 76), (1, vI (((m : Nat) : Int))), (2, vI (((h : Nat) : Int))), (3, vI (b)), (4, vI (((s + 1 : Nat) : Int)))] rfl rfl ⟨rfl, rfl, rfl, rfl, rfl, trivial⟩ ?_
              exact ih2 (s + 1) (b) σ1 (by omega) (Fr.tr Fr.rf hF_σ1 (by decide)) (by omega) (by first | exact hK_σ1 | exact (fun j hj => (am_set_at).trans ((if_neg hj).trans (hK_σ1 j hj)))) (by rcases hI with ⟨z1, z2⟩ | ⟨s0, z1, z2, z3, z4, z5⟩ <;> first | (exfalso; omega) | exact Or.inr ⟨s, by omega, ill_t (by omega) h2_24, z2, rfl, am_set_rd⟩ | exact Or.inr ⟨s0, by omega, z2, z3, z4, z5⟩ | exact Or.inl ⟨z1, fal_s z2 (ill_f (fun q => h2_24 q.2))⟩ | exact Or.inl ⟨z1, fal_s z2 (ill_f (fun q => by omega))⟩)
            · refine tt_ar rfl ?_
              refine tt_ar rfl ?_
              refine tt_ar rfl ?_
              refine tt_ar rfl ?_
              refine tt_ar rfl ?_
              refine tt_cv5 5 rfl (wo_76 hW_σ1) (c220_i A σ1 k nm ns D hA hW_σ1 (hR.o30 hF_σ1 hK_σ1) m h s (by omega) hm hh) (kb (fun h2_24 => ?_) (fun h2_24 => ?_))
              · refine tt_ifeqF (by decide) ?_
                refine tt_ar rfl ?_
                refine tt_getR (wo_76 hW_σ1) rfl (wr_76_16 hW_σ1) ?_
                refine tt_ar rfl ?_
                refine tt_iald (3) (x := A.1 9 3) (wa_86 hW_σ1) rfl (by omega) ((hF_σ1.2 86 (by decide) (3)).trans (hR.wl.2.2.2.2 3 (by omega))) ?_
                refine tt_ar rfl ?_
                refine tt_ar rfl ?_
                refine tt_ar rfl ?_
                refine tt_ar rfl ?_
                refine tt_iadd (by omega) (by omega) ?_
                refine tt_putI (wo_76 hW_σ1) rfl ?_
                refine tt_nop ?_
                refine tt_iinc (y := ((s + 1 : Nat) : Int)) rfl (iinc_fit (by omega) (by omega) (by omega)) ?_
                refine tt_goto ?_
                refine tt_loc [(0, vR 76), (1, vI (((m : Nat) : Int))), (2, vI (((h : Nat) : Int))), (3, vI ((A.1 9 3))), (4, vI (((s + 1 : Nat) : Int)))] rfl rfl ⟨rfl, rfl, rfl, lv_to rfl (by omega), rfl, trivial⟩ ?_
                exact ih2 (s + 1) (A.1 9 3) _ (by omega) (Fr.put (Fr.tr Fr.rf hF_σ1 (by decide)) (by decide)) (by omega) (by first | exact hK_σ1 | exact (fun j hj => (am_set_at).trans ((if_neg hj).trans (hK_σ1 j hj)))) (by rcases hI with ⟨z1, z2⟩ | ⟨s0, z1, z2, z3, z4, z5⟩ <;> first | (exfalso; omega) | exact Or.inr ⟨s, by omega, ill_t (by omega) h2_24, z2, rfl, am_set_rd⟩ | exact Or.inr ⟨s0, by omega, z2, z3, z4, z5⟩ | exact Or.inl ⟨z1, fal_s z2 (ill_f (fun q => h2_24 q.2))⟩ | exact Or.inl ⟨z1, fal_s z2 (ill_f (fun q => by omega))⟩)
              · refine tt_ifeqT (by decide) ?_
                refine tt_iinc (y := ((s + 1 : Nat) : Int)) rfl (iinc_fit (by omega) (by omega) (by omega)) ?_
                refine tt_goto ?_
                refine tt_loc [(0, vR 76), (1, vI (((m : Nat) : Int))), (2, vI (((h : Nat) : Int))), (3, vI (b)), (4, vI (((s + 1 : Nat) : Int)))] rfl rfl ⟨rfl, rfl, rfl, rfl, rfl, trivial⟩ ?_
                exact ih2 (s + 1) (b) σ1 (by omega) (Fr.tr Fr.rf hF_σ1 (by decide)) (by omega) (by first | exact hK_σ1 | exact (fun j hj => (am_set_at).trans ((if_neg hj).trans (hK_σ1 j hj)))) (by rcases hI with ⟨z1, z2⟩ | ⟨s0, z1, z2, z3, z4, z5⟩ <;> first | (exfalso; omega) | exact Or.inr ⟨s, by omega, ill_t (by omega) h2_24, z2, rfl, am_set_rd⟩ | exact Or.inr ⟨s0, by omega, z2, z3, z4, z5⟩ | exact Or.inl ⟨z1, fal_s z2 (ill_f (fun q => h2_24 q.2))⟩ | exact Or.inl ⟨z1, fal_s z2 (ill_f (fun q => by omega))⟩)
    refine tt_loc [(0, vR 76), (1, vI (((m : Nat) : Int))), (2, vI (((h : Nat) : Int))), (3, vI (100000)), (4, vI (((0 : Nat) : Int)))] rfl rfl ⟨rfl, rfl, rfl, rfl, lv_to rfl (by omega), trivial⟩ ?_
    exact lp2_1 _ (0) (100000) _ (Nat.lt_succ_self _) (Fr.put Fr.rf (by decide)) (by omega) (fun j hj => (am_set_at).trans (if_neg hj)) (Or.inl ⟨rfl, fun t ht => absurd ht (Nat.not_lt_zero t)⟩)

theorem c213 (A σ : am_S) (k nm ns : Nat) (D : Nat → Nat → Int) (hA : CI k nm ns D A) (hW : Wd σ) (hR : RRb k nm ns D A σ) (u w x : Int) : CC 213 [vR 76, vI (u), vI (w), vI (x)] σ (fun r σ' => PMd A σ (x_hangs k A u w x) r σ') := by
  show TT am_b213 (am_b213.getD 0 []) [(0, vR 76), (1, vI (u)), (2, vI (w)), (3, vI (x))] [] σ _
  have hk5 := hR.aa.1
  have hl27 := hR.aa.2.1
  have hs47 := hR.aa.2.2
  have hk6 := hA.x.1.2.1
  have hm12 := hA.x.2.2.1.2.1
  have hs16 := hA.st.2
  have hDA := hA.x.1
  have hHT := hA.x.2.1
  have hLA := hA.x.2.2.1
  have hHB := HB_of hDA hHT
  have hnb := nkT_bd k
  refine tt_ar rfl ?_
  refine tt_ar rfl ?_
  have hpl_u := plR_c k u
  refine tt_cv2 2 rfl (wo_76 hW) (c214 A σ k nm ns D hA hW hR (u)) (kp ?_)
  refine tt_ar rfl ?_
  refine tt_ar rfl ?_
  refine tt_iflt (fun h0_5 => ?_) (fun h0_5 => ?_)
  · refine tt_ar rfl ?_
    refine tt_iret ?_
    exact pm_any (M := A) hR (show x_hangs k A u w x = (vI (-1), A) by unfold x_hangs; (try simp only [Int.toNat_natCast]); (repeat (first | rw [if_pos (by omega)] | rw [if_neg (by omega)])); (first | done | rfl)) QR.rf
  · refine tt_ar rfl ?_
    refine tt_ar rfl ?_
    refine tt_ar rfl ?_
    refine tt_cs3 3 rfl (c175 _ _ _ _) (kb (fun h0_9 => ?_) (fun h0_9 => ?_))
    · refine tt_ifeqF (by decide) ?_
      refine tt_ar rfl ?_
      refine tt_cs1 1 rfl (c203 _ _) (kb (fun h0_12 => ?_) (fun h0_12 => ?_))
      · refine tt_ifneT (by decide) ?_
        obtain ⟨xn, rfl⟩ : ∃ xn : Nat, x = (xn : Int) := ⟨x.toNat, by omega⟩
        obtain ⟨hn, hhn⟩ : ∃ hn : Nat, ix k u = (hn : Int) := ⟨_, (Int.toNat_of_nonneg (by omega)).symm⟩
        have bhn : hn < nkT k := by have := ix_bd hk6 u; omega
        refine tt_loc [(0, vR 76), (2, vI (w)), (3, vI (((xn : Nat) : Int))), (4, vI (((hn : Nat) : Int)))] rfl rfl ⟨rfl, rfl, rfl, lv_to rfl (by omega), trivial⟩ ?_
        refine tt_ar rfl ?_
        refine tt_ar rfl ?_
        refine tt_ar rfl ?_
        refine tt_getR (wo_76 hW) rfl (wr_76_14 hW) ?_
        refine tt_ar rfl ?_
        refine tt_ar rfl ?_
        have hhb := hHB.2.2.2.1 (hn * 8 + xn) (by omega)
        refine tt_cv4 4 rfl (wo_76 hW) (c215_85 A σ k nm ns D hA hW hR hn xn (by omega) (by omega)) (kp ?_)
        refine tt_ar rfl ?_
        refine tt_ar rfl ?_
        refine tt_ar rfl ?_
        refine tt_ar rfl ?_
        have hlo := lo_bd (w := w) (x := xn) (h := hn) hHB (by omega) (by omega)
        refine tt_cv4 4 rfl (wo_76 hW) (c216 A σ k nm ns D hA hW hR hn xn (w) (by omega) (by omega)) (kp ?_)
        refine tt_cv3 3 rfl (wo_76 hW) (c183 σ _ _ hW) (ks ?_)
        refine tt_iret ?_
        exact pm_ak (x := A.1 26 (hn * 8 + xn)) (M := A) hR (show x_hangs k A u w (xn : Int) = (vI (loF A (w) xn ((hn : Nat) : Int)), upA (A.1 26 (hn * 8 + xn)) (A)) by unfold x_hangs hiF; rw [if_pos (by omega), hhn]; rfl) QR.rf
      · refine tt_ifneF (by decide) ?_
        refine tt_nop ?_
        refine tt_ar rfl ?_
        refine tt_iret ?_
        exact pm_any (M := A) hR (show x_hangs k A u w x = (vI (-1), A) by unfold x_hangs; (try simp only [Int.toNat_natCast]); (repeat (first | rw [if_pos (by omega)] | rw [if_neg (by omega)])); (first | done | rfl)) QR.rf
    · refine tt_ifeqT (by decide) ?_
      refine tt_ar rfl ?_
      refine tt_iret ?_
      exact pm_any (M := A) hR (show x_hangs k A u w x = (vI (-1), A) by unfold x_hangs; (try simp only [Int.toNat_natCast]); (repeat (first | rw [if_pos (by omega)] | rw [if_neg (by omega)])); (first | done | rfl)) QR.rf

theorem c218 (A σ : am_S) (k nm ns : Nat) (D : Nat → Nat → Int) (hA : CI k nm ns D A) (hW : Wd σ) (hR : RRb k nm ns D A σ) (u v : Int) : CC 218 [vR 76, vI (u), vI (v)] σ (fun r σ' => PMd A σ (x_explains k A u v) r σ') := by
  show TT am_b218 (am_b218.getD 0 []) [(0, vR 76), (1, vI (u)), (2, vI (v))] [] σ _
  have hk5 := hR.aa.1
  have hl27 := hR.aa.2.1
  have hs47 := hR.aa.2.2
  have hk6 := hA.x.1.2.1
  have hm12 := hA.x.2.2.1.2.1
  have hs16 := hA.st.2
  have hDA := hA.x.1
  have hHT := hA.x.2.1
  have hLA := hA.x.2.2.1
  have hHB := HB_of hDA hHT
  have hnb := nkT_bd k
  refine tt_ar rfl ?_
  refine tt_ar rfl ?_
  have hpl_v := plR_c k v
  refine tt_cv2 2 rfl (wo_76 hW) (c214 A σ k nm ns D hA hW hR (v)) (kp ?_)
  refine tt_ar rfl ?_
  refine tt_ar rfl ?_
  refine tt_ar rfl ?_
  refine tt_cv2 2 rfl (wo_76 hW) (c209 A σ k nm ns D hA hW hR _) (kb (fun h0_6 => ?_) (fun h0_6 => ?_))
  · refine tt_ifeqF (by decide) ?_
    refine tt_ar rfl ?_
    refine tt_ifge (fun h0_9 => ?_) (fun h0_9 => ?_)
    · obtain ⟨un, rfl⟩ : ∃ un : Nat, u = (un : Int) := ⟨u.toNat, by omega⟩
      obtain ⟨hn, hhn⟩ : ∃ hn : Nat, ix k v = (hn : Int) := ⟨_, (Int.toNat_of_nonneg (by omega)).symm⟩
      have bhn : hn < nkT k := by have := ix_bd hk6 v; omega
      refine tt_loc [(0, vR 76), (1, vI (((un : Nat) : Int))), (3, vI (((hn : Nat) : Int)))] rfl rfl ⟨rfl, rfl, lv_to rfl (by omega), trivial⟩ ?_
      refine tt_ar rfl ?_
      refine tt_ar rfl ?_
      refine tt_ar rfl ?_
      refine tt_cv3 3 rfl (wo_76 hW) (c219 A σ k nm ns D hA hW hR un hn (by omega) (by omega)) ?_
      intro r0 σe1 hq0
      obtain ⟨rfl, hFe2, hK_σe1, hE_σe1⟩ := hq0
      have hW3 := Fr.wd hFe2 hW
      refine tt_ar rfl ?_
      refine tt_ar rfl ?_
      refine tt_ar rfl ?_
      refine tt_icne (fun h2_7 => ?_) (fun h2_7 => ?_)
      · refine tt_ar rfl ?_
        refine tt_ar rfl ?_
        refine tt_getI (x := σe1.1 76 (30)) (wo_76 hW3) rfl rfl ?_
        refine tt_ar rfl ?_
        refine tt_cv3 3 rfl (wo_76 hW3) (c183 σe1 _ _ hW3) (ks ?_)
        refine tt_nop ?_
        refine tt_iret ?_
        have hRe := hR.o30 hFe2 hK_σe1
        have hpb := cPr_bd (m := un) (h := hn) hDA
        have hex9 : cEx A k un hn = -9 ∨ (¬ cEx A k un hn = -9 ∧ 0 ≤ prOf (A.1 9) (cEx A k un hn) ∧ prOf (A.1 9) (cEx A k un hn) ≤ 9) := by
          by_cases e : cEx A k un hn = -9
          · exact Or.inl e
          · have h3 := hDA.2.2.2.1 3 (by omega)
            have h4 := hDA.2.2.2.1 4 (by omega)
            refine Or.inr ⟨e, ?_⟩
            unfold prOf
            split
            · omega
            · split <;> omega
        have e9 : ¬ cEx A k un hn = -9 := fun e => by
          have q : epR A k un hn = 100000 := if_pos e
          omega
        have eq1 : epR A k un hn = prOf (A.1 9) (cEx A k un hn) := if_neg e9
        rw [hE_σe1 e9, eq1]
        exact pm_ak (M := A) hRe (show x_explains k A un v = (vI (prOf (A.1 9) (cEx A k un hn)), upA (cEx A k un hn) A) by unfold x_explains; simp only [Int.toNat_natCast, hl27, hhn]; rw [if_pos (by omega), if_neg e9]) (QR.of hFe2 (by decide))
      · refine tt_ar rfl ?_
        refine tt_goto ?_
        refine tt_iret ?_
        have hRe := hR.o30 hFe2 hK_σe1
        have hpb := cPr_bd (m := un) (h := hn) hDA
        have hex9 : cEx A k un hn = -9 ∨ (¬ cEx A k un hn = -9 ∧ 0 ≤ prOf (A.1 9) (cEx A k un hn) ∧ prOf (A.1 9) (cEx A k un hn) ≤ 9) := by
          by_cases e : cEx A k un hn = -9
          · exact Or.inl e
          · have h3 := hDA.2.2.2.1 3 (by omega)
            have h4 := hDA.2.2.2.1 4 (by omega)
            refine Or.inr ⟨e, ?_⟩
            unfold prOf
            split
            · omega
            · split <;> omega
        have e9 : cEx A k un hn = -9 := by
          rcases hex9 with e | ⟨e, e2⟩
          · exact e
          · have q : epR A k un hn = prOf (A.1 9) (cEx A k un hn) := if_neg e
            omega
        exact pm_same hRe (show x_explains k A un v = (vI (-9), A) by unfold x_explains; simp only [Int.toNat_natCast, hl27, hhn]; rw [if_pos (by omega), if_pos e9]) (QR.of hFe2 (by decide))
    · refine tt_nop ?_
      refine tt_ar rfl ?_
      refine tt_iret ?_
      exact pm_any (M := A) hR (show x_explains k A u v = (vI (-1), A) by unfold x_explains; (try simp only [Int.toNat_natCast, hl27]); (repeat (first | rw [if_pos (by omega)] | rw [if_neg (by omega)])); (first | done | rfl)) QR.rf
  · refine tt_ifeqT (by decide) ?_
    refine tt_ar rfl ?_
    refine tt_iret ?_
    exact pm_any (M := A) hR (show x_explains k A u v = (vI (-1), A) by unfold x_explains; (try simp only [Int.toNat_natCast, hl27]); (repeat (first | rw [if_pos (by omega)] | rw [if_neg (by omega)])); (first | done | rfl)) QR.rf

theorem c222 (A σ : am_S) (k nm ns : Nat) (D : Nat → Nat → Int) (hA : CI k nm ns D A) (hW : Wd σ) (hR : RRb k nm ns D A σ) (u v : Int) : CC 222 [vR 76, vI (u), vI (v)] σ (fun r σ' => PMd A σ (x_lacks k A u v) r σ') := by
  show TT am_b222 (am_b222.getD 0 []) [(0, vR 76), (1, vI (u)), (2, vI (v))] [] σ _
  have hk5 := hR.aa.1
  have hl27 := hR.aa.2.1
  have hs47 := hR.aa.2.2
  have hk6 := hA.x.1.2.1
  have hm12 := hA.x.2.2.1.2.1
  have hs16 := hA.st.2
  have hDA := hA.x.1
  have hHT := hA.x.2.1
  have hLA := hA.x.2.2.1
  have hHB := HB_of hDA hHT
  have hnb := nkT_bd k
  refine tt_ar rfl ?_
  refine tt_ar rfl ?_
  have hpl_v := plR_c k v
  refine tt_cv2 2 rfl (wo_76 hW) (c214 A σ k nm ns D hA hW hR (v)) (kp ?_)
  refine tt_ar rfl ?_
  refine tt_ar rfl ?_
  refine tt_ar rfl ?_
  refine tt_cv2 2 rfl (wo_76 hW) (c209 A σ k nm ns D hA hW hR _) (kb (fun h0_6 => ?_) (fun h0_6 => ?_))
  · refine tt_ifeqF (by decide) ?_
    refine tt_ar rfl ?_
    refine tt_ifge (fun h0_9 => ?_) (fun h0_9 => ?_)
    · obtain ⟨un, rfl⟩ : ∃ un : Nat, u = (un : Int) := ⟨u.toNat, by omega⟩
      obtain ⟨hn, hhn⟩ : ∃ hn : Nat, ix k v = (hn : Int) := ⟨_, (Int.toNat_of_nonneg (by omega)).symm⟩
      have bhn : hn < nkT k := by have := ix_bd hk6 v; omega
      refine tt_loc [(0, vR 76), (1, vI (((un : Nat) : Int))), (3, vI (((hn : Nat) : Int)))] rfl rfl ⟨rfl, rfl, lv_to rfl (by omega), trivial⟩ ?_
      refine tt_ar rfl ?_
      refine tt_ar rfl ?_
      refine tt_ar rfl ?_
      refine tt_ar rfl ?_
      refine tt_ar rfl ?_
      refine tt_ar rfl ?_
      refine tt_nop ?_
      have lp3_1 : ∀ (μ : Nat) (x : Nat), 8 - x < μ → (x ≤ 8) → TT am_b222 (am_b222.getD 3 []) [(0, vR 76), (1, vI (((un : Nat) : Int))), (3, vI (((hn : Nat) : Int))), (4, vI (orN x (fun x => decide (A.1 30 (un * 8 + x) + A.1 29 un < (if isIn (A.1 5 4) (A.1 28 un) (x : Int) then 0 else A.1 25 (hn * 8 + x)))))), (5, vI (orN x (fun x => decide (A.1 30 (un * 8 + x) - A.1 29 un > A.1 26 (hn * 8 + x))))), (6, vI (((x : Nat) : Int)))] [] σ (fun r σ' => PMd A σ (x_lacks k A (un : Int) v) r σ') := by
        intro μ
        induction μ with
        | zero => intro x hμ; exact absurd hμ (Nat.not_lt_zero _)
        | succ μ ih3 =>
          intro x hμ hx8
          refine tt_ar rfl ?_
          refine tt_ar rfl ?_
          refine tt_icge (fun h3_2 => ?_) (fun h3_2 => ?_)
          · refine tt_ar rfl ?_
            refine tt_ar rfl ?_
            refine tt_ar rfl ?_
            refine tt_cv3 3 rfl (wo_76 hW) (c183 σ _ _ hW) (ks ?_)
            refine tt_iret ?_
            exact pm_ak (x := orN x (fun x => decide (A.1 30 (un * 8 + x) - A.1 29 un > A.1 26 (hn * 8 + x)))) (M := A) hR (show x_lacks k A (un : Int) v = (vI (orN x (fun x => decide (A.1 30 (un * 8 + x) + A.1 29 un < (if isIn (A.1 5 4) (A.1 28 un) (x : Int) then 0 else A.1 25 (hn * 8 + x))))), upA (orN x (fun x => decide (A.1 30 (un * 8 + x) - A.1 29 un > A.1 26 (hn * 8 + x)))) (A)) by unfold x_lacks cTl cTm; simp only [Int.toNat_natCast, hl27, hhn]; rw [if_pos (by omega), show x = 8 by omega]) QR.rf
          · have hlb := hLA.2.2.1 un (by omega)
            have hlh := hLA.2.2.2 (un * 8 + x) (by omega)
            have e2 : lnD A un (2 + x) = A.1 30 (un * 8 + x) := by unfold lnD; rw [if_neg (by omega), if_neg (by omega), show un * 8 + (2 + x) - 2 = un * 8 + x by omega]
            have e1 : lnD A un 1 = A.1 29 un := rfl
            have e0 : lnD A un 0 = A.1 28 un := rfl
            refine tt_ar rfl ?_
            refine tt_ar rfl ?_
            refine tt_ar rfl ?_
            refine tt_ar rfl ?_
            refine tt_ar rfl ?_
            refine tt_iadd (by omega) (by omega) ?_
            refine tt_cv3 3 rfl (wo_76 hW) (c210 A σ k nm ns D hA hW hR un ((2 + x)) (by omega) (by omega)) (kp ?_)
            refine tt_ar rfl ?_
            refine tt_ar rfl ?_
            refine tt_ar rfl ?_
            refine tt_cv3 3 rfl (wo_76 hW) (c210 A σ k nm ns D hA hW hR un 1 (by omega) (by omega)) (kp ?_)
            refine tt_iadd (by omega) (by omega) ?_
            refine tt_ar rfl ?_
            refine tt_ar rfl ?_
            refine tt_ar rfl ?_
            refine tt_ar rfl ?_
            refine tt_ar rfl ?_
            refine tt_cv3 3 rfl (wo_76 hW) (c210 A σ k nm ns D hA hW hR un 0 (by omega) (by omega)) (kp ?_)
            refine tt_ar rfl ?_
            have hlo := lo_bd (w := lnD A un 0) (x := x) (h := hn) hHB (by omega) (by omega)
            refine tt_cv4 4 rfl (wo_76 hW) (c216 A σ k nm ns D hA hW hR hn x (lnD A un 0) (by omega) (by omega)) (kp ?_)
            refine tt_icge (fun h3_23 => ?_) (fun h3_23 => ?_)
            · have hfew : ¬ (lnD A un (2 + x) + A.1 29 un < (if isIn (A.1 5 4) (lnD A un 0) (x : Int) then 0 else A.1 25 (hn * 8 + x))) := by have q : loF A (lnD A un 0) x ((hn : Nat) : Int) = (if isIn (A.1 5 4) (lnD A un 0) (x : Int) then 0 else A.1 25 (hn * 8 + x)) := rfl; rw [← q]; have e1 : lnD A un 1 = A.1 29 un := rfl; omega
              refine tt_ar rfl ?_
              refine tt_nop ?_
              refine tt_bI (g := a_or) (z := a_or (orN x (fun x => decide (A.1 30 (un * 8 + x) + A.1 29 un < (if isIn (A.1 5 4) (A.1 28 un) (x : Int) then 0 else A.1 25 (hn * 8 + x))))) (0)) rfl rfl ?_
              refine tt_ar rfl ?_
              refine tt_ar rfl ?_
              refine tt_ar rfl ?_
              refine tt_ar rfl ?_
              refine tt_ar rfl ?_
              refine tt_ar rfl ?_
              refine tt_iadd (by omega) (by omega) ?_
              refine tt_cv3 3 rfl (wo_76 hW) (c210 A σ k nm ns D hA hW hR un ((2 + x)) (by omega) (by omega)) (kp ?_)
              refine tt_ar rfl ?_
              refine tt_ar rfl ?_
              refine tt_ar rfl ?_
              refine tt_cv3 3 rfl (wo_76 hW) (c210 A σ k nm ns D hA hW hR un 1 (by omega) (by omega)) (kp ?_)
              refine tt_isub (by omega) (by omega) ?_
              refine tt_ar rfl ?_
              refine tt_ar rfl ?_
              refine tt_getR (wo_76 hW) rfl (wr_76_14 hW) ?_
              refine tt_ar rfl ?_
              refine tt_ar rfl ?_
              have hhb := hHB.2.2.2.1 (hn * 8 + x) (by omega)
              refine tt_cv4 4 rfl (wo_76 hW) (c215_85 A σ k nm ns D hA hW hR hn x (by omega) (by omega)) (kp ?_)
              refine tt_icle (fun h5_20 => ?_) (fun h5_20 => ?_)
              · refine tt_ar rfl ?_
                refine tt_nop ?_
                refine tt_bI (g := a_or) (z := a_or (orN x (fun x => decide (A.1 30 (un * 8 + x) - A.1 29 un > A.1 26 (hn * 8 + x)))) (0)) rfl rfl ?_
                refine tt_ar rfl ?_
                refine tt_iinc (y := ((x + 1 : Nat) : Int)) rfl (iinc_fit (by omega) (by omega) (by omega)) ?_
                refine tt_goto ?_
                refine tt_loc [(0, vR 76), (1, vI (((un : Nat) : Int))), (3, vI (((hn : Nat) : Int))), (4, vI (orN (x + 1) (fun x => decide (A.1 30 (un * 8 + x) + A.1 29 un < (if isIn (A.1 5 4) (A.1 28 un) (x : Int) then 0 else A.1 25 (hn * 8 + x)))))), (5, vI (orN (x + 1) (fun x => decide (A.1 30 (un * 8 + x) - A.1 29 un > A.1 26 (hn * 8 + x))))), (6, vI (((x + 1 : Nat) : Int)))] rfl rfl ⟨rfl, rfl, rfl, lv_to rfl (by first | exact (orN_t (decide_eq_true (by rw [← e2, ← e0]; exact hfew))).symm | exact (orN_0 x).trans (orN_f (decide_eq_false (by rw [← e2, ← e0]; exact hfew))).symm), lv_to rfl (by first | exact (orN_t (decide_eq_true (by omega))).symm | exact (orN_0 x).trans (orN_f (decide_eq_false (by omega))).symm), rfl, trivial⟩ ?_
                exact ih3 (x + 1) (by omega) (by omega)
              · refine tt_ar rfl ?_
                refine tt_ar rfl ?_
                refine tt_bI (g := a_shl) (z := a_shl 1 (x : Int)) rfl rfl ?_
                refine tt_goto ?_
                refine tt_bI (g := a_or) (z := a_or (orN x (fun x => decide (A.1 30 (un * 8 + x) - A.1 29 un > A.1 26 (hn * 8 + x)))) (a_shl 1 (x : Int))) rfl rfl ?_
                refine tt_ar rfl ?_
                refine tt_iinc (y := ((x + 1 : Nat) : Int)) rfl (iinc_fit (by omega) (by omega) (by omega)) ?_
                refine tt_goto ?_
                refine tt_loc [(0, vR 76), (1, vI (((un : Nat) : Int))), (3, vI (((hn : Nat) : Int))), (4, vI (orN (x + 1) (fun x => decide (A.1 30 (un * 8 + x) + A.1 29 un < (if isIn (A.1 5 4) (A.1 28 un) (x : Int) then 0 else A.1 25 (hn * 8 + x)))))), (5, vI (orN (x + 1) (fun x => decide (A.1 30 (un * 8 + x) - A.1 29 un > A.1 26 (hn * 8 + x))))), (6, vI (((x + 1 : Nat) : Int)))] rfl rfl ⟨rfl, rfl, rfl, lv_to rfl (by first | exact (orN_t (decide_eq_true (by rw [← e2, ← e0]; exact hfew))).symm | exact (orN_0 x).trans (orN_f (decide_eq_false (by rw [← e2, ← e0]; exact hfew))).symm), lv_to rfl (by first | exact (orN_t (decide_eq_true (by omega))).symm | exact (orN_0 x).trans (orN_f (decide_eq_false (by omega))).symm), rfl, trivial⟩ ?_
                exact ih3 (x + 1) (by omega) (by omega)
            · have hfew : (lnD A un (2 + x) + A.1 29 un < (if isIn (A.1 5 4) (lnD A un 0) (x : Int) then 0 else A.1 25 (hn * 8 + x))) := by have q : loF A (lnD A un 0) x ((hn : Nat) : Int) = (if isIn (A.1 5 4) (lnD A un 0) (x : Int) then 0 else A.1 25 (hn * 8 + x)) := rfl; rw [← q]; have e1 : lnD A un 1 = A.1 29 un := rfl; omega
              refine tt_ar rfl ?_
              refine tt_ar rfl ?_
              refine tt_bI (g := a_shl) (z := a_shl 1 (x : Int)) rfl rfl ?_
              refine tt_goto ?_
              refine tt_bI (g := a_or) (z := a_or (orN x (fun x => decide (A.1 30 (un * 8 + x) + A.1 29 un < (if isIn (A.1 5 4) (A.1 28 un) (x : Int) then 0 else A.1 25 (hn * 8 + x))))) (a_shl 1 (x : Int))) rfl rfl ?_
              refine tt_ar rfl ?_
              refine tt_ar rfl ?_
              refine tt_ar rfl ?_
              refine tt_ar rfl ?_
              refine tt_ar rfl ?_
              refine tt_ar rfl ?_
              refine tt_iadd (by omega) (by omega) ?_
              refine tt_cv3 3 rfl (wo_76 hW) (c210 A σ k nm ns D hA hW hR un ((2 + x)) (by omega) (by omega)) (kp ?_)
              refine tt_ar rfl ?_
              refine tt_ar rfl ?_
              refine tt_ar rfl ?_
              refine tt_cv3 3 rfl (wo_76 hW) (c210 A σ k nm ns D hA hW hR un 1 (by omega) (by omega)) (kp ?_)
              refine tt_isub (by omega) (by omega) ?_
              refine tt_ar rfl ?_
              refine tt_ar rfl ?_
              refine tt_getR (wo_76 hW) rfl (wr_76_14 hW) ?_
              refine tt_ar rfl ?_
              refine tt_ar rfl ?_
              have hhb := hHB.2.2.2.1 (hn * 8 + x) (by omega)
              refine tt_cv4 4 rfl (wo_76 hW) (c215_85 A σ k nm ns D hA hW hR hn x (by omega) (by omega)) (kp ?_)
              refine tt_icle (fun h5_20 => ?_) (fun h5_20 => ?_)
              · refine tt_ar rfl ?_
                refine tt_nop ?_
                refine tt_bI (g := a_or) (z := a_or (orN x (fun x => decide (A.1 30 (un * 8 + x) - A.1 29 un > A.1 26 (hn * 8 + x)))) (0)) rfl rfl ?_
                refine tt_ar rfl ?_
                refine tt_iinc (y := ((x + 1 : Nat) : Int)) rfl (iinc_fit (by omega) (by omega) (by omega)) ?_
                refine tt_goto ?_
                refine tt_loc [(0, vR 76), (1, vI (((un : Nat) : Int))), (3, vI (((hn : Nat) : Int))), (4, vI (orN (x + 1) (fun x => decide (A.1 30 (un * 8 + x) + A.1 29 un < (if isIn (A.1 5 4) (A.1 28 un) (x : Int) then 0 else A.1 25 (hn * 8 + x)))))), (5, vI (orN (x + 1) (fun x => decide (A.1 30 (un * 8 + x) - A.1 29 un > A.1 26 (hn * 8 + x))))), (6, vI (((x + 1 : Nat) : Int)))] rfl rfl ⟨rfl, rfl, rfl, lv_to rfl (by first | exact (orN_t (decide_eq_true (by rw [← e2, ← e0]; exact hfew))).symm | exact (orN_0 x).trans (orN_f (decide_eq_false (by rw [← e2, ← e0]; exact hfew))).symm), lv_to rfl (by first | exact (orN_t (decide_eq_true (by omega))).symm | exact (orN_0 x).trans (orN_f (decide_eq_false (by omega))).symm), rfl, trivial⟩ ?_
                exact ih3 (x + 1) (by omega) (by omega)
              · refine tt_ar rfl ?_
                refine tt_ar rfl ?_
                refine tt_bI (g := a_shl) (z := a_shl 1 (x : Int)) rfl rfl ?_
                refine tt_goto ?_
                refine tt_bI (g := a_or) (z := a_or (orN x (fun x => decide (A.1 30 (un * 8 + x) - A.1 29 un > A.1 26 (hn * 8 + x)))) (a_shl 1 (x : Int))) rfl rfl ?_
                refine tt_ar rfl ?_
                refine tt_iinc (y := ((x + 1 : Nat) : Int)) rfl (iinc_fit (by omega) (by omega) (by omega)) ?_
                refine tt_goto ?_
                refine tt_loc [(0, vR 76), (1, vI (((un : Nat) : Int))), (3, vI (((hn : Nat) : Int))), (4, vI (orN (x + 1) (fun x => decide (A.1 30 (un * 8 + x) + A.1 29 un < (if isIn (A.1 5 4) (A.1 28 un) (x : Int) then 0 else A.1 25 (hn * 8 + x)))))), (5, vI (orN (x + 1) (fun x => decide (A.1 30 (un * 8 + x) - A.1 29 un > A.1 26 (hn * 8 + x))))), (6, vI (((x + 1 : Nat) : Int)))] rfl rfl ⟨rfl, rfl, rfl, lv_to rfl (by first | exact (orN_t (decide_eq_true (by rw [← e2, ← e0]; exact hfew))).symm | exact (orN_0 x).trans (orN_f (decide_eq_false (by rw [← e2, ← e0]; exact hfew))).symm), lv_to rfl (by first | exact (orN_t (decide_eq_true (by omega))).symm | exact (orN_0 x).trans (orN_f (decide_eq_false (by omega))).symm), rfl, trivial⟩ ?_
                exact ih3 (x + 1) (by omega) (by omega)
      refine tt_loc [(0, vR 76), (1, vI (((un : Nat) : Int))), (3, vI (((hn : Nat) : Int))), (4, vI (orN 0 (fun x => decide (A.1 30 (un * 8 + x) + A.1 29 un < (if isIn (A.1 5 4) (A.1 28 un) (x : Int) then 0 else A.1 25 (hn * 8 + x)))))), (5, vI (orN 0 (fun x => decide (A.1 30 (un * 8 + x) - A.1 29 un > A.1 26 (hn * 8 + x))))), (6, vI (((0 : Nat) : Int)))] rfl rfl ⟨rfl, rfl, rfl, lv_to rfl rfl, lv_to rfl rfl, lv_to rfl (by omega), trivial⟩ ?_
      exact lp3_1 _ (0) (Nat.lt_succ_self _) (by omega)
    · refine tt_nop ?_
      refine tt_ar rfl ?_
      refine tt_iret ?_
      exact pm_any (M := A) hR (show x_lacks k A u v = (vI (-1), A) by unfold x_lacks; (try simp only [Int.toNat_natCast, hl27]); (repeat (first | rw [if_pos (by omega)] | rw [if_neg (by omega)])); (first | done | rfl)) QR.rf
  · refine tt_ifeqT (by decide) ?_
    refine tt_ar rfl ?_
    refine tt_iret ?_
    exact pm_any (M := A) hR (show x_lacks k A u v = (vI (-1), A) by unfold x_lacks; (try simp only [Int.toNat_natCast, hl27]); (repeat (first | rw [if_pos (by omega)] | rw [if_neg (by omega)])); (first | done | rfl)) QR.rf

